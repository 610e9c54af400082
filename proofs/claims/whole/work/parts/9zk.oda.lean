/-! ORDER, CHECK: SHORTS of a set, one for both -/
section ODA
variable {A B NT NA NB : Int → Int} {m nn M k : Nat} {p lv : Int → Int} {t : Int} {h g : HI}
def slf (A B : Int → Int) (p lv : Int → Int) (k : Nat) : Prop := p (A k) = p (B k) ∧ lv (A k) ≠ lv (B k)
/-- strip k SHORTS behind the set M -/
def SHs (A B NT NA NB : Int → Int) (m nn M k : Nat) : Prop := ∀ p lv, vds A B m M p lv → slf A B p lv k ∨ ∀ p' lv', vds A B m (M ||| 2 ^ k) p' lv' → nrs NT NA NB nn p' lv' k
theorem slf_congr {p' lv' : Int → Int} (nA : nd (A k) ∧ nd (B k)) (a : vds A B m M p lv) (c : vds A B m M p' lv') (s : slf A B p lv k) : slf A B p' lv' k := by
  have u := vds_uniq a c nA.1 nA.2
  exact ⟨u.1.mp s.1, fun z => s.2 (by have := u.2 s.1; omega)⟩
theorem ex_next (nA : ∀ k : Nat, k < m → nd (A k) ∧ nd (B k)) (hk : k < m) (v : vds A B m M p lv) (ns : ¬ slf A B p lv k) : ∃ p' lv', vds A B m (M ||| 2 ^ k) p' lv' := by
  by_cases c : p (A k) = p (B k)
  · refine ⟨p, lv, vds_in v c ?_⟩
    apply Classical.byContradiction
    intro z
    exact ns ⟨c, z⟩
  · exact ⟨_, _, vds_join v hk (nA k hk).1 (nA k hk).2 c⟩
theorem SHs_of (nA : ∀ k : Nat, k < m → nd (A k) ∧ nd (B k)) (nN : ∀ j : Nat, j < nn → nd (NA j) ∧ nd (NB j)) (hk : k < m) (v : vds A B m M p lv) : SHs A B NT NA NB m nn M k ↔ (slf A B p lv k ∨ ∃ p' lv', vds A B m (M ||| 2 ^ k) p' lv' ∧ nrs NT NA NB nn p' lv' k) := by
  constructor
  · intro s
    rcases s p lv v with z | z
    · exact Or.inl z
    · by_cases c : slf A B p lv k
      · exact Or.inl c
      · obtain ⟨p', lv', v'⟩ := ex_next nA hk v c
        exact Or.inr ⟨p', lv', v', z p' lv' v'⟩
  · intro s p1 lv1 v1
    rcases s with z | ⟨p', lv', v', n'⟩
    · exact Or.inl (slf_congr (nA k hk) v v1 z)
    · exact Or.inr (fun p2 lv2 v2 => nrs_congr nN v' v2 n')
/-- the reference's answer -/
theorem shT_iff (nA : ∀ k : Nat, k < m → nd (A k) ∧ nd (B k)) (nN : ∀ j : Nat, j < nn → nd (NA j) ∧ nd (NB j)) (hk : k < m) (v : vds A B m M p lv) {r : Int} (s : shT A B NT NA NB m nn M k r) : r = 1 ↔ SHs A B NT NA NB m nn M k := by
  rw [SHs_of nA nN hk v]
  have q := s p lv v
  by_cases c : slf A B p lv k
  · exact ⟨fun _ => Or.inl c, fun _ => q.1 c⟩
  · obtain ⟨p', lv', v'⟩ := ex_next nA hk v c
    have q2 := q.2 c p' lv' v'
    rw [q2]
    constructor
    · exact fun z => Or.inr ⟨p', lv', v', z⟩
    · intro z
      rcases z with z | ⟨p2, lv2, v2, n2⟩
      · exact absurd z c
      · exact nrs_congr nN v2 v' n2
/-- the class's answer -/
theorem shp_iff (nA : ∀ k : Nat, k < m → nd (A k) ∧ nd (B k)) (nN : ∀ j : Nat, j < nn → nd (NA j) ∧ nd (NB j)) (hk : k < m) (v : vds A B m M (cp60 t h) (cl60 t h)) (w : wdd t h g (A k) (B k)) : shp A B NT NA NB nn (cp60 (t + 1) g) (cl60 (t + 1) g) k ↔ SHs A B NT NA NB m nn M k := by
  rw [SHs_of nA nN hk v]
  have n1 := nA k hk
  have sl : slf A B (cp60 (t + 1) g) (cl60 (t + 1) g) k ↔ slf A B (cp60 t h) (cl60 t h) k := by
    by_cases c : cp60 t h (A k) = cp60 t h (B k)
    · have eA := w.1 c _ n1.1
      have eB := w.1 c _ n1.2
      unfold slf
      rw [eA.1, eB.1, eA.2, eB.2]
    · have eA := w.2 c _ n1.1
      have eB := w.2 c _ n1.2
      rw [if_neg c, if_neg c] at eA
      rw [if_pos rfl, if_pos rfl] at eB
      unfold slf
      rw [eA.1, eB.1, eA.2, eB.2]
      constructor
      · intro z; exact absurd (show cl60 t h (A k) = cl60 t h (B k) + (cl60 t h (A k) - cl60 t h (B k)) by omega) z.2
      · intro z; exact absurd z.1 c
  constructor
  · intro z
    rcases z with z | z
    · exact Or.inl (sl.mp z)
    · by_cases c : slf A B (cp60 t h) (cl60 t h) k
      · exact Or.inl c
      · exact Or.inr ⟨_, _, wdd_vds v nA hk w (fun q => c (sl.mp q)), z⟩
  · intro z
    rcases z with z | ⟨p2, lv2, v2, n2⟩
    · exact Or.inl (sl.mpr z)
    · by_cases c : slf A B (cp60 (t + 1) g) (cl60 (t + 1) g) k
      · exact Or.inl c
      · exact Or.inr (nrs_congr nN v2 (wdd_vds v nA hk w c) n2)
end ODA
