/-! rows: the class's hopeful and leastUnlike, as folds -/
def fmn (c : Int) (A : Nat → Int) : Nat → Int
  | 0 => c
  | k + 1 => min (fmn c A k) (A k)
def fmx (c : Int) (A : Nat → Int) : Nat → Int
  | 0 => c
  | k + 1 => max (fmx c A k) (A k)
theorem fmn_le {c x : Int} {A : Nat → Int} : ∀ {k : Nat}, x ≤ fmn c A k ↔ x ≤ c ∧ ∀ r : Nat, r < k → x ≤ A r
  | 0 => ⟨fun h => ⟨h, fun r hr => absurd hr (by omega)⟩, fun h => h.1⟩
  | k + 1 => by
    have ih := fmn_le (c := c) (x := x) (A := A) (k := k)
    show x ≤ min (fmn c A k) (A k) ↔ _
    constructor
    · intro h
      have := ih.mp (by omega)
      exact ⟨this.1, fun r hr => by
        by_cases e : r = k
        · subst e; omega
        · exact this.2 r (by omega)⟩
    · intro h
      have := ih.mpr ⟨h.1, fun r hr => h.2 r (by omega)⟩
      have := h.2 k (by omega)
      omega
theorem fmx_le {c x : Int} {A : Nat → Int} : ∀ {k : Nat}, fmx c A k ≤ x ↔ c ≤ x ∧ ∀ r : Nat, r < k → A r ≤ x
  | 0 => ⟨fun h => ⟨h, fun r hr => absurd hr (by omega)⟩, fun h => h.1⟩
  | k + 1 => by
    have ih := fmx_le (c := c) (x := x) (A := A) (k := k)
    show max (fmx c A k) (A k) ≤ x ↔ _
    constructor
    · intro h
      have := ih.mp (by omega)
      exact ⟨this.1, fun r hr => by
        by_cases e : r = k
        · subst e; omega
        · exact this.2 r (by omega)⟩
    · intro h
      have := ih.mpr ⟨h.1, fun r hr => h.2 r (by omega)⟩
      have := h.2 k (by omega)
      omega
theorem fmn_bd {c K L : Int} {A : Nat → Int} (hc : K ≤ c ∧ c ≤ L) : ∀ {k : Nat}, (∀ r : Nat, r < k → K ≤ A r ∧ A r ≤ L) → K ≤ fmn c A k ∧ fmn c A k ≤ L
  | 0, _ => hc
  | k + 1, h => by
    have ih := fmn_bd (A := A) hc (k := k) (fun r hr => h r (by omega))
    have := h k (by omega)
    show K ≤ min _ _ ∧ min _ _ ≤ L
    omega
theorem fmx_bd {c K L : Int} {A : Nat → Int} (hc : K ≤ c ∧ c ≤ L) : ∀ {k : Nat}, (∀ r : Nat, r < k → K ≤ A r ∧ A r ≤ L) → K ≤ fmx c A k ∧ fmx c A k ≤ L
  | 0, _ => hc
  | k + 1, h => by
    have ih := fmx_bd (A := A) hc (k := k) (fun r hr => h r (by omega))
    have := h k (by omega)
    show K ≤ max _ _ ∧ max _ _ ≤ L
    omega
section RW6
variable {l : Launch} {D : Nat} {ζ : ZP} {h : HI} {Q : Int → HI → Prop} {x : Int}
theorem s_leastUnlike (hn : 144 ≤ ζ.2.2.2.2) {n s e : Nat} {tot : Int} {A B : Nat → Int} (n12 : n ≤ 12) (s1 : 1 ≤ s) (s12 : s ≤ 12) (h0 : h 52 0 = n) (h5 : h 52 5 = s) (h6 : h 52 6 = e) (ht : h 63 n = tot ∧ 0 ≤ tot ∧ tot ≤ 20000000) (hr : ∀ r : Nat, r < s → (0 ≤ x + ((e : Int) - h 59 r) ∧ x + ((e : Int) - h 59 r) < 169) ∧ h 58 r + h 63 (x + ((e : Int) - h 59 r)) = A r ∧ h 58 r + h 62 (x + ((e : Int) - h 59 r)) = B r ∧ (0 ≤ A r ∧ A r ≤ 20000000) ∧ (0 ≤ B r ∧ B r ≤ 20000000)) (hq : Q (fmx ((tot + s - 1).tdiv s) B s - fmn (tot.tdiv s) A s) h) : RtI l (D + 2) mX2_leastUnlike (zz ζ) [aP 52, aI x] h Q := by
  have d0 := Int.tdiv_nonneg (a := tot) (b := (s : Int)) ht.2.1 (by omega)
  have d1 := Int.tdiv_le_self (a := tot) (s : Int) ht.2.1
  have c0 := Int.tdiv_nonneg (a := tot + s - 1) (b := (s : Int)) (by omega) (by omega)
  have c1 := Int.tdiv_le_self (a := tot + s - 1) (s : Int) (by omega)
  refine e_X2_leastUnlike hn ⟨by rw [h0]; omega, ?_⟩
  rw [h0, h5, ht.1]
  refine s_cut hn (by constructor <;> omega) (by constructor <;> omega) ?_
  rw [if_neg (by omega), h5]
  refine s_cut hn (by constructor <;> omega) (by constructor <;> omega) ?_
  rw [if_neg (by omega)]
  have main : ∀ (m r : Nat), r + m = s → G l (D + 2) 0 0 mX2_leastUnlike (zz ζ) 39 [aP 52, aI x, aU, aI (fmn (tot.tdiv s) A r), aI (fmx ((tot + s - 1).tdiv s) B r), aI r, aU] [] h (qI (zz ζ) Q) := by
    intro m
    induction m with
    | zero =>
      intro r hm
      have : r = s := by omega
      subst this
      exact b_X2_leastUnlike_39 hn ⟨by constructor <;> omega, by rw [h5]; constructor <;> omega, iteP (by rw [h5]; omega) hq⟩
    | succ m ih =>
      intro r hm
      have q := hr r (by omega)
      have b1 := fmn_bd (c := tot.tdiv s) (K := 0) (L := 20000012) (A := A) (by omega) (k := r) (fun j hj => by have := (hr j (by omega)).2.2.2.1; omega)
      have b2 := fmx_bd (c := (tot + s - 1).tdiv s) (K := 0) (L := 20000012) (A := B) (by omega) (k := r) (fun j hj => by have := (hr j (by omega)).2.2.2.2; omega)
      refine b_X2_leastUnlike_39 hn ⟨by constructor <;> omega, by rw [h5]; constructor <;> omega, iteN (by rw [h5]; omega) ⟨⟨by omega, by omega⟩, ?_⟩⟩
      rw [h6, q.2.1, q.2.2.1]
      refine ⟨q.1, by constructor <;> omega, by constructor <;> omega, by constructor <;> omega, by constructor <;> omega, ?_⟩
      have kk := ih (r + 1) (by omega)
      rw [show ((r + 1 : Nat) : Int) = (r : Int) + 1 by omega] at kk
      exact kk
  exact main s 0 (by omega)
end RW6
