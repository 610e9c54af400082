/-! rows: the tables at a prefix; the total -/
theorem sf_pf {a : Int → Int} {m : Nat} : ∀ {k : Nat}, k ≤ m → sfA a m k + pfA a (m - k) = pfA a m
  | 0, _ => by show 0 + pfA a m = _; omega
  | k + 1, hk => by
    have ih := sf_pf (a := a) (m := m) (k := k) (by omega)
    rw [show m - k = (m - (k + 1)) + 1 by omega] at ih
    have e : pfA a (m - (k + 1) + 1) = pfA a (m - (k + 1)) + a ((m - (k + 1) : Nat) : Int) := rfl
    rw [e] at ih
    show sfA a m k + a ((m : Int) - 1 - k) + _ = _
    rw [show (m : Int) - 1 - k = ((m - (k + 1) : Nat) : Int) by omega]
    omega
theorem rc_all {v : Int → Int} : ∀ {m i : Nat}, rcN (fun _ => true) i m = m ∧ sm (fun j : Nat => v j) i + rcS (fun _ => true) v i m = sm (fun j : Nat => v j) (i + m)
  | 0, i => ⟨rfl, by show _ + 0 = sm (fun j : Nat => v j) i; omega⟩
  | m + 1, i => by
    have ih := rc_all (v := v) (m := m) (i := i + 1)
    refine ⟨?_, ?_⟩
    · show 1 + rcN (fun _ => true) (i + 1) m = m + 1
      rw [ih.1]; omega
    · have e : sm (fun j : Nat => v j) (i + 1) = sm (fun j : Nat => v j) i + v i := rfl
      rw [show i + (m + 1) = i + 1 + m by omega, ← ih.2, e]
      show _ + (v i + rcS (fun _ => true) v (i + 1) m) = _
      omega
theorem ris_tot {v a : Int → Int} {n : Nat} (h : risA v 0 n a) : sfA a n n = sm (fun j : Nat => v j) n := by
  have b := ris_bd (fun _ => true) h
  have q := rc_all (v := v) (m := n) (i := 0)
  rw [q.1] at b
  have e := sf_pf (a := a) (m := n) (k := n) (Nat.le_refl _)
  rw [Nat.sub_self] at e
  have z : pfA a 0 = 0 := rfl
  have q2 := q.2
  rw [Nat.zero_add] at q2
  have z2 : sm (fun j : Nat => v j) 0 = 0 := rfl
  omega
theorem tab_h {v : Int → Int} {n : Nat} {g : HI} (n12 : n ≤ 12) (dn : dnh v n 0 g) (z : ∀ i : Int, 0 ≤ i → i ≤ 12 → g 60 (i * 13) = 0 ∧ g 61 (i * 13) = 0) {i : Nat} (hi : i ≤ n) : ∃ a, risA v i (n - i) a ∧ ∀ k : Nat, k ≤ n - i → g 60 ((i : Int) * 13 + k) = pfA a k ∧ g 61 ((i : Int) * 13 + k) = sfA a (n - i) k := by
  by_cases e : i < n
  · exact dn i (by omega) e
  · have : i = n := by omega
    subst this
    refine ⟨fun _ => 0, by rw [Nat.sub_self]; trivial, fun k hk => ?_⟩
    have : k = 0 := by omega
    subst this
    have q := z i (by omega) (by omega)
    rw [show (i : Int) * 13 + ((0 : Nat) : Int) = (i : Int) * 13 by omega]
    exact q
theorem tab_f {v : Int → Int} {n : Nat} {g : HI} (n12 : n ≤ 12) (dn : dnf v n 0 g) (z : ∀ i : Int, 0 ≤ i → i ≤ 12 → g 62 (i * 13) = 0 ∧ g 63 (i * 13) = 0) {i : Nat} (hi : i ≤ n) : ∃ a, risA v i (n - i) a ∧ ∀ k : Nat, k ≤ n - i → g 62 ((i : Int) * 13 + k) = pfA a k ∧ g 63 ((i : Int) * 13 + k) = sfA a (n - i) k := by
  by_cases e : i < n
  · exact dn i (by omega) e
  · have : i = n := by omega
    subst this
    refine ⟨fun _ => 0, by rw [Nat.sub_self]; trivial, fun k hk => ?_⟩
    have : k = 0 := by omega
    subst this
    have q := z i (by omega) (by omega)
    rw [show (i : Int) * 13 + ((0 : Nat) : Int) = (i : Int) * 13 by omega]
    exact q
