/-! rows: the class's hopeful -/
section RW7
variable {l : Launch} {D : Nat} {ζ : ZP} {h : HI} {Q : Int → HI → Prop} {x : Int}
theorem s_hopeful (hn : 144 ≤ ζ.2.2.2.2) {n s e : Nat} {tot ft : Int} {A B A' B' : Nat → Int} (n12 : n ≤ 12) (s1 : 1 ≤ s) (s12 : s ≤ 12) (h0 : h 52 0 = n) (h5 : h 52 5 = s) (h6 : h 52 6 = e) (ht : h 61 n = tot ∧ 0 ≤ tot ∧ tot ≤ 1000000) (hf : h 63 n = ft ∧ 0 ≤ ft ∧ ft ≤ 20000000) (hw : -1 ≤ h 52 2 ∧ h 52 2 ≤ 1000000) (hu3 : 0 ≤ h 52 3 ∧ h 52 3 ≤ 2147483647) (hu4 : 0 ≤ h 52 4 ∧ h 52 4 ≤ 2147483647) (hr : ∀ r : Nat, r < s → (0 ≤ x + ((e : Int) - h 59 r) ∧ x + ((e : Int) - h 59 r) < 169) ∧ h 57 r + h 61 (x + ((e : Int) - h 59 r)) = A r ∧ h 57 r + h 60 (x + ((e : Int) - h 59 r)) = B r ∧ (0 ≤ A r ∧ A r ≤ 1000000) ∧ (0 ≤ B r ∧ B r ≤ 1000000)) (hr' : ∀ r : Nat, r < s → (0 ≤ x + ((e : Int) - h 59 r) ∧ x + ((e : Int) - h 59 r) < 169) ∧ h 58 r + h 63 (x + ((e : Int) - h 59 r)) = A' r ∧ h 58 r + h 62 (x + ((e : Int) - h 59 r)) = B' r ∧ (0 ≤ A' r ∧ A' r ≤ 20000000) ∧ (0 ≤ B' r ∧ B' r ≤ 20000000)) (hy : (h 52 2 ≤ fmn (tot.tdiv s) A s ∧ fmx ((tot + s - 1).tdiv s) B s ≤ tot - ((s : Int) - 1) * h 52 2) → (h 52 2 < fmn (tot.tdiv s) A s ∨ fmx ((tot + s - 1).tdiv s) B s - fmn (tot.tdiv s) A s < h 52 3 ∨ (fmx ((tot + s - 1).tdiv s) B s - fmn (tot.tdiv s) A s = h 52 3 ∧ fmx ((ft + s - 1).tdiv s) B' s - fmn (ft.tdiv s) A' s < h 52 4)) → Q 1 h) (hz : (fmn (tot.tdiv s) A s < h 52 2 ∨ tot - ((s : Int) - 1) * h 52 2 < fmx ((tot + s - 1).tdiv s) B s ∨ (fmn (tot.tdiv s) A s ≤ h 52 2 ∧ h 52 3 < fmx ((tot + s - 1).tdiv s) B s - fmn (tot.tdiv s) A s) ∨ (fmn (tot.tdiv s) A s ≤ h 52 2 ∧ h 52 3 ≤ fmx ((tot + s - 1).tdiv s) B s - fmn (tot.tdiv s) A s ∧ h 52 4 ≤ fmx ((ft + s - 1).tdiv s) B' s - fmn (ft.tdiv s) A' s)) → Q 0 h) : RtI l (D + 3) mX2_hopeful (zz ζ) [aP 52, aI x] h Q := by
  have d0 := Int.tdiv_nonneg (a := tot) (b := (s : Int)) ht.2.1 (by omega)
  have d1 := Int.tdiv_le_self (a := tot) (s : Int) ht.2.1
  have c0 := Int.tdiv_nonneg (a := tot + s - 1) (b := (s : Int)) (by omega) (by omega)
  have c1 := Int.tdiv_le_self (a := tot + s - 1) (s : Int) (by omega)
  have f0 := Int.tdiv_nonneg (a := ft) (b := (s : Int)) hf.2.1 (by omega)
  have f1 := Int.tdiv_le_self (a := ft) (s : Int) hf.2.1
  have k0 := Int.tdiv_nonneg (a := ft + s - 1) (b := (s : Int)) (by omega) (by omega)
  have k1 := Int.tdiv_le_self (a := ft + s - 1) (s : Int) (by omega)
  have b1 := fun k (hk : k ≤ s) => fmn_bd (c := tot.tdiv s) (K := 0) (L := 1000012) (A := A) (by omega) (k := k) (fun j hj => by have := (hr j (by omega)).2.2.2.1; omega)
  have b2 := fun k (hk : k ≤ s) => fmx_bd (c := (tot + s - 1).tdiv s) (K := 0) (L := 1000012) (A := B) (by omega) (k := k) (fun j hj => by have := (hr j (by omega)).2.2.2.2; omega)
  have b3 := fmn_bd (c := ft.tdiv s) (K := 0) (L := 20000012) (A := A') (by omega) (k := s) (fun j hj => by have := (hr' j (by omega)).2.2.2.1; omega)
  have b4 := fmx_bd (c := (ft + s - 1).tdiv s) (K := 0) (L := 20000012) (A := B') (by omega) (k := s) (fun j hj => by have := (hr' j (by omega)).2.2.2.2; omega)
  have mb : -12 ≤ ((s : Int) - 1) * h 52 2 ∧ ((s : Int) - 1) * h 52 2 ≤ 12000000 := by
    have : s = 1 ∨ s = 2 ∨ s = 3 ∨ s = 4 ∨ s = 5 ∨ s = 6 ∨ s = 7 ∨ s = 8 ∨ s = 9 ∨ s = 10 ∨ s = 11 ∨ s = 12 := by omega
    rcases this with rfl | rfl | rfl | rfl | rfl | rfl | rfl | rfl | rfl | rfl | rfl | rfl <;> omega
  refine e_X2_hopeful hn ⟨by rw [h0]; omega, ?_⟩
  rw [h0, h5, ht.1]
  refine s_cut hn (by constructor <;> omega) (by constructor <;> omega) ?_
  rw [if_neg (by omega), h5]
  refine s_cut hn (by constructor <;> omega) (by constructor <;> omega) ?_
  rw [if_neg (by omega)]
  have main : ∀ (m r : Nat), r + m = s → G l (D + 3) 0 0 mX2_hopeful (zz ζ) 39 [aP 52, aI x, aI tot, aI (fmn (tot.tdiv s) A r), aI (fmx ((tot + s - 1).tdiv s) B r), aI r, aU] [] h (qI (zz ζ) Q) := by
    intro m
    induction m with
    | zero =>
      intro r hm
      have : r = s := by omega
      subst this
      have q1 := b1 r (Nat.le_refl _)
      have q2 := b2 r (Nat.le_refl _)
      generalize hM : fmn (tot.tdiv r) A r = M at *
      generalize hT : fmx ((tot + r - 1).tdiv r) B r = T at *
      generalize hP : ((r : Int) - 1) * h 52 2 = P at *
      refine b_X2_hopeful_39 hn ⟨by constructor <;> omega, by rw [h5]; constructor <;> omega, iteP (by rw [h5]; omega) ⟨by constructor <;> omega, by constructor <;> omega, iteI (fun y => hz (Or.inl y)) (fun y => ?_)⟩⟩
      rw [h5, hP]
      refine ⟨by constructor <;> omega, by constructor <;> omega, iteI (fun y2 => iteI (fun y3 => hy ⟨by omega, y2⟩ (Or.inl y3)) (fun y3 => ⟨by constructor <;> omega, by constructor <;> omega, iteI (fun y4 => iteI (fun y5 => hz (Or.inr (Or.inr (Or.inl ⟨by omega, by omega⟩)))) (fun y5 => ?_)) (fun y4 => hy ⟨by omega, y2⟩ (Or.inr (Or.inl (by omega))))⟩)) (fun y2 => hz (Or.inr (Or.inl (by omega))))⟩
      refine s_leastUnlike hn n12 s1 s12 h0 h5 h6 hf hr' ⟨by constructor <;> omega, by constructor <;> omega, iteI (fun y6 => hz (Or.inr (Or.inr (Or.inr ⟨by omega, by omega, y6⟩)))) (fun y6 => hy ⟨by omega, y2⟩ (Or.inr (Or.inr ⟨by omega, by omega⟩)))⟩
    | succ m ih =>
      intro r hm
      have q := hr r (by omega)
      have q1 := b1 r (by omega)
      have q2 := b2 r (by omega)
      refine b_X2_hopeful_39 hn ⟨by constructor <;> omega, by rw [h5]; constructor <;> omega, iteN (by rw [h5]; omega) ⟨⟨by omega, by omega⟩, ?_⟩⟩
      rw [h6, q.2.1, q.2.2.1]
      refine ⟨q.1, by constructor <;> omega, by constructor <;> omega, by constructor <;> omega, by constructor <;> omega, ?_⟩
      have kk := ih (r + 1) (by omega)
      rw [show ((r + 1 : Nat) : Int) = (r : Int) + 1 by omega] at kk
      exact kk
  exact main s 0 (by omega)
end RW7
