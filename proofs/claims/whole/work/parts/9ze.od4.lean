/-! ORDER, CHECK: a weld in terms of sets -/
section OD4
variable {A B NT NA NB : Int → Int} {m M nn : Nat} {p lv p' lv' : Int → Int} {t : Int} {h g : HI}
/-- SHORTS asks only for what hangs together and by how much -/
theorem shp_congr (nA : ∀ k : Nat, k < m → nd (A k) ∧ nd (B k)) (nN : ∀ j : Nat, j < nn → nd (NA j) ∧ nd (NB j)) (a : vds A B m M p lv) (c : vds A B m M p' lv') {k : Nat} (hk : k < m) : shp A B NT NA NB nn p lv k ↔ shp A B NT NA NB nn p' lv' k := by
  have key : ∀ {p lv p' lv' : Int → Int}, vds A B m M p lv → vds A B m M p' lv' → shp A B NT NA NB nn p lv k → shp A B NT NA NB nn p' lv' k := by
    intro p lv p' lv' a c s
    rcases s with ⟨s1, s2⟩ | ⟨j, j1, j2, j3, j4⟩
    · have u := vds_uniq a c (nA k hk).1 (nA k hk).2
      exact Or.inl ⟨u.1.mp s1, by have := u.2 s1; omega⟩
    · have u := vds_uniq a c (nN j j1).1 (nN j j1).2
      exact Or.inr ⟨j, j1, j2, u.1.mp j3, by have := u.2 j3; omega⟩
  exact ⟨key a c, key c a⟩
/-- a weld that does not SHORT: parts and levels of the set with the strip -/
theorem wdd_vds (a : vds A B m M (cp60 t h) (cl60 t h)) (nA : ∀ k : Nat, k < m → nd (A k) ∧ nd (B k)) {k : Nat} (hk : k < m) (w : wdd t h g (A k) (B k)) (ns : ¬ (cp60 (t + 1) g (A k) = cp60 (t + 1) g (B k) ∧ cl60 (t + 1) g (A k) ≠ cl60 (t + 1) g (B k))) : vds A B m (M ||| 2 ^ k) (cp60 (t + 1) g) (cl60 (t + 1) g) := by
  have n1 := nA k hk
  by_cases c : cp60 t h (A k) = cp60 t h (B k)
  · have e := w.1 c
    have eA := e _ n1.1
    have eB := e _ n1.2
    refine vds_congr (vds_in a c ?_) nA e
    rw [eA.1, eB.1, eA.2, eB.2] at ns
    apply Classical.byContradiction
    intro z
    exact ns ⟨c, z⟩
  · exact vds_congr (vds_join a hk n1.1 n1.2 c) nA (w.2 c)
end OD4
