/-! frames by lists of places (a place -1: the whole cell); loops by a measure -/
def inL : List (Nat × Int) → Nat → Int → Bool
  | [], _, _ => false
  | q :: t, k, j => (q.1 == k && (q.2 == -1 || q.2 == j)) || inL t k j
def inC (L : List (Nat × Int)) (k : Nat) : Bool := L.any (fun q => q.1 == k)
def FL (L : List (Nat × Int)) (h h' : HI) : Prop := ∀ k j, inL L k j = false → h' k j = h k j
theorem FL.refl {L : List (Nat × Int)} {h : HI} : FL L h h := fun _ _ _ => rfl
theorem FL.trans {L : List (Nat × Int)} {h h' h'' : HI} (a : FL L h h') (b : FL L h' h'') : FL L h h'' := fun k j q => (b k j q).trans (a k j q)
theorem inL_of : ∀ {L : List (Nat × Int)} {k : Nat} {j : Int}, inL L k j = true ↔ ∃ q ∈ L, q.1 = k ∧ (q.2 = -1 ∨ q.2 = j)
  | [], k, j => by simp [inL]
  | q :: t, k, j => by
    have ih := inL_of (L := t) (k := k) (j := j)
    unfold inL
    rw [Bool.or_eq_true, ih]
    simp
theorem inL_sub {L L' : List (Nat × Int)} (s : L.all (fun q => inL L' q.1 q.2) = true) {k : Nat} {j : Int} (h : inL L' k j = false) : inL L k j = false := by
  cases e : inL L k j with
  | false => rfl
  | true =>
    obtain ⟨q, h1, h2, h3⟩ := inL_of.mp e
    have := List.all_eq_true.mp s q h1
    obtain ⟨q', k1, k2, k3⟩ := inL_of.mp this
    have : inL L' k j = true := inL_of.mpr ⟨q', k1, k2.trans h2, by omega⟩
    rw [h] at this; cases this
theorem FL.mono {L L' : List (Nat × Int)} {h h' : HI} (a : FL L h h') (s : L.all (fun q => inL L' q.1 q.2) = true) : FL L' h h' := fun k j q => a k j (inL_sub s q)
theorem FL.u {L : List (Nat × Int)} {h h' : HI} (a : FL L h h') {k : Nat} {j v : Int} (p : inL L k j = true) : FL L h (hu h' k j v) := by
  intro k' j' q
  have : ¬ (k' = k ∧ j' = j) := fun e => by rw [e.1, e.2, p] at q; cases q
  rw [hu_eq, if_neg this]
  exact a k' j' q
theorem FL.ua {L : List (Nat × Int)} {h h' : HI} (a : FL L h h') {k : Nat} {j v : Int} (p : inL L k (-1) = true) : FL L h (hu h' k j v) := by
  refine a.u ?_
  obtain ⟨q, h1, h2, h3⟩ := inL_of.mp p
  exact inL_of.mpr ⟨q, h1, h2, by omega⟩
theorem FL.c {L : List (Nat × Int)} {h h' : HI} (a : FL L h h') (k : Nat) (q : inC L k = false) : h' k = h k := by
  funext j
  refine a k j ?_
  cases e : inL L k j with
  | false => rfl
  | true =>
    obtain ⟨q', h1, h2, h3⟩ := inL_of.mp e
    have : inC L k = true := List.any_eq_true.mpr ⟨q', h1, by simpa using h2⟩
    rw [q] at this; cases this
theorem FL.at {L : List (Nat × Int)} {h h' : HI} (a : FL L h h') (k : Nat) (j : Int) (q : inL L k j = false) : h' k j = h k j := a k j q
theorem wfl {σ : Type} (m : σ → Nat) {P R : σ → Prop} (st : ∀ s, P s → (∀ s', m s' < m s → P s' → R s') → R s) : ∀ s, P s → R s := by
  have : ∀ n s, m s < n → P s → R s := by
    intro n
    induction n with
    | zero => intro s hs; omega
    | succ n ih => intro s hs p; exact st s p (fun s' h1 p' => ih s' (by omega) p')
  exact fun s p => this (m s + 1) s (by omega) p
theorem lup {R P : Int → HI → Prop} {N : Int} (st : ∀ i h, 0 ≤ i → i < N → P i h → (∀ h', P (i + 1) h' → R (i + 1) h') → R i h) (en : ∀ h, P N h → R N h) : ∀ i h, 0 ≤ i → i ≤ N → P i h → R i h := by
  have := wfl (σ := Int × HI) (fun s => (N - s.1).toNat) (P := fun s => 0 ≤ s.1 ∧ s.1 ≤ N ∧ P s.1 s.2) (R := fun s => R s.1 s.2) (by
    intro s p ih
    obtain ⟨i, h⟩ := s
    simp only at p ih ⊢
    by_cases e : i = N
    · rw [e] at p ⊢; exact en h p.2.2
    · exact st i h p.1 (by omega) p.2.2 (fun h' p' => ih (i + 1, h') (by simp only; omega) ⟨by omega, by omega, p'⟩))
  exact fun i h h0 h1 p => this (i, h) ⟨h0, h1, p⟩
theorem lups {σ : Type} {R P : Int → σ → HI → Prop} {N : Int} (st : ∀ i s h, 0 ≤ i → i < N → P i s h → (∀ s' h', P (i + 1) s' h' → R (i + 1) s' h') → R i s h) (en : ∀ s h, P N s h → R N s h) : ∀ i s h, 0 ≤ i → i ≤ N → P i s h → R i s h := by
  have := wfl (σ := Int × σ × HI) (fun s => (N - s.1).toNat) (P := fun s => 0 ≤ s.1 ∧ s.1 ≤ N ∧ P s.1 s.2.1 s.2.2) (R := fun s => R s.1 s.2.1 s.2.2) (by
    intro s p ih
    obtain ⟨i, s, h⟩ := s
    simp only at p ih ⊢
    by_cases e : i = N
    · rw [e] at p ⊢; exact en s h p.2.2
    · exact st i s h p.1 (by omega) p.2.2 (fun s' h' p' => ih (i + 1, s', h') (by simp only; omega) ⟨by omega, by omega, p'⟩))
  exact fun i s h h0 h1 p => this (i, s, h) ⟨h0, h1, p⟩
theorem ldn {R P : Int → HI → Prop} (st : ∀ i h, 0 ≤ i → P i h → (∀ h', P (i - 1) h' → R (i - 1) h') → R i h) (en : ∀ h, P (-1) h → R (-1) h) : ∀ i h, -1 ≤ i → P i h → R i h := by
  have := wfl (σ := Int × HI) (fun s => (s.1 + 1).toNat) (P := fun s => -1 ≤ s.1 ∧ P s.1 s.2) (R := fun s => R s.1 s.2) (by
    intro s p ih
    obtain ⟨i, h⟩ := s
    simp only at p ih ⊢
    by_cases e : i = -1
    · rw [e] at p ⊢; exact en h p.2
    · exact st i h (by omega) p.2 (fun h' p' => ih (i - 1, h') (by simp only; omega) ⟨by omega, p'⟩))
  exact fun i h h0 p => this (i, h) ⟨h0, p⟩
theorem lups1 {σ : Type} {R P : Int → σ → Prop} {N : Int} (st : ∀ i s, 0 ≤ i → i < N → P i s → (∀ s', P (i + 1) s' → R (i + 1) s') → R i s) (en : ∀ s, P N s → R N s) : ∀ i s, 0 ≤ i → i ≤ N → P i s → R i s := by
  have := lups (σ := σ) (R := fun i s (_ : HI) => R i s) (P := fun i s (_ : HI) => P i s) (N := N) (fun i s h h0 h1 p k => st i s h0 h1 p (fun s' p' => k s' h p')) (fun s _ p => en s p)
  exact fun i s h0 h1 p => this i s (fun _ _ => 0) h0 h1 p
