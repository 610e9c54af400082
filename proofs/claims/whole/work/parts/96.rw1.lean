/-! rows: sums of the least and of the greatest of what is still to be placed, pure -/
def rinA (a : Int → Int) (p : Nat) (v : Int) (j : Int) : Int := if j < p then a j else if j = p then v else a (j - 1)
def pfA (a : Int → Int) (k : Nat) : Int := sm (fun j : Nat => a j) k
def sfA (a : Int → Int) (m : Nat) (k : Nat) : Int := sm (fun j : Nat => a ((m : Int) - 1 - j)) k
/-- where v goes into a: before it nothing greater, behind it nothing less -/
def rinP (a : Int → Int) (m p : Nat) (v : Int) : Prop := p ≤ m ∧ (∀ j : Nat, j < p → a j ≤ v) ∧ ∀ j : Nat, p ≤ j → j < m → v ≤ a j
theorem pf_ins {a : Int → Int} {p : Nat} {v : Int} : ∀ k : Nat, pfA (rinA a p v) k = if k ≤ p then pfA a k else pfA a (k - 1) + v
  | 0 => by rw [if_pos (by omega)]; rfl
  | k + 1 => by
    have ih := pf_ins (a := a) (p := p) (v := v) k
    show pfA (rinA a p v) k + rinA a p v k = _
    rw [ih]
    unfold rinA
    by_cases h1 : k + 1 ≤ p
    · rw [if_pos (by omega), if_pos (by omega), if_pos h1]; rfl
    · rw [if_neg h1, show k + 1 - 1 = k by omega]
      by_cases h2 : k = p
      · rw [if_pos (by omega), if_neg (by omega), if_pos (by omega)]
      · rw [if_neg (by omega), if_neg (by omega), if_neg (by omega)]
        have e : pfA a k = pfA a (k - 1) + a ((k : Int) - 1) := by
          have : k = (k - 1) + 1 := by omega
          conv => lhs; rw [this]
          show pfA a (k - 1) + a ((k - 1 : Nat) : Int) = _
          rw [show ((k - 1 : Nat) : Int) = (k : Int) - 1 by omega]
        rw [e]; omega
theorem pf_ins_le {a : Int → Int} {m p : Nat} {v : Int} (h : rinP a m p v) {k : Nat} (hk : k ≤ m) : pfA (rinA a p v) k ≤ pfA a k := by
  rw [pf_ins]
  split
  · exact Int.le_refl _
  · rename_i q
    have e : pfA a k = pfA a (k - 1) + a ((k - 1 : Nat) : Int) := by
      have : k = (k - 1) + 1 := by omega
      conv => lhs; rw [this]
      rfl
    have := h.2.2 (k - 1) (by omega) (by omega)
    rw [e]; omega
theorem pf_ins_le1 {a : Int → Int} {m p : Nat} {v : Int} (h : rinP a m p v) {k : Nat} : pfA (rinA a p v) (k + 1) ≤ pfA a k + v := by
  rw [pf_ins]
  split
  · rename_i q
    have := h.2.1 k (by omega)
    show pfA a k + a k ≤ _
    omega
  · rw [show k + 1 - 1 = k by omega]; exact Int.le_refl _
theorem sf_ins {a : Int → Int} {m p : Nat} {v : Int} (hp : p ≤ m) : ∀ k : Nat, k ≤ m + 1 → sfA (rinA a p v) (m + 1) k = if k + p ≤ m then sfA a m k else sfA a m (k - 1) + v
  | 0, _ => by rw [if_pos (by omega)]; rfl
  | k + 1, hk => by
    have ih := sf_ins (a := a) (p := p) (v := v) hp k (by omega)
    show sfA (rinA a p v) (m + 1) k + rinA a p v (((m + 1 : Nat) : Int) - 1 - k) = _
    rw [ih, show ((m + 1 : Nat) : Int) - 1 - k = (m : Int) - k by omega]
    unfold rinA
    by_cases h1 : k + 1 + p ≤ m
    · rw [if_pos (by omega), if_neg (by omega), if_neg (by omega), if_pos h1, show (m : Int) - k - 1 = (m : Int) - 1 - k by omega]; rfl
    · rw [if_neg h1, show k + 1 - 1 = k by omega]
      by_cases h2 : k + p = m
      · rw [if_pos (by omega), if_neg (by omega), if_pos (by omega)]
      · rw [if_neg (by omega), if_pos (by omega)]
        have e : sfA a m k = sfA a m (k - 1) + a ((m : Int) - k) := by
          have : k = (k - 1) + 1 := by omega
          conv => lhs; rw [this]
          show sfA a m (k - 1) + a ((m : Int) - 1 - ((k - 1 : Nat) : Int)) = _
          rw [show (m : Int) - 1 - ((k - 1 : Nat) : Int) = (m : Int) - k by omega]
        rw [e]; omega
theorem sf_ins_ge {a : Int → Int} {m p : Nat} {v : Int} (h : rinP a m p v) {k : Nat} (hk : k ≤ m) : sfA a m k ≤ sfA (rinA a p v) (m + 1) k := by
  rw [sf_ins h.1 k (by omega)]
  split
  · exact Int.le_refl _
  · rename_i q
    have hp1 := h.1
    have e : sfA a m k = sfA a m (k - 1) + a ((m : Int) - 1 - ((k - 1 : Nat) : Int)) := by
      have : k = (k - 1) + 1 := by omega
      conv => lhs; rw [this]
      rfl
    have := h.2.1 (m - k) (by omega)
    rw [show ((m - k : Nat) : Int) = (m : Int) - 1 - ((k - 1 : Nat) : Int) by omega] at this
    rw [e]; omega
theorem sf_ins_ge1 {a : Int → Int} {m p : Nat} {v : Int} (h : rinP a m p v) {k : Nat} (hk : k ≤ m) : sfA a m k + v ≤ sfA (rinA a p v) (m + 1) (k + 1) := by
  rw [sf_ins h.1 (k + 1) (by omega)]
  split
  · rename_i q
    have := h.2.2 (m - 1 - k) (by omega) (by omega)
    rw [show ((m - 1 - k : Nat) : Int) = (m : Int) - 1 - k by omega] at this
    show _ ≤ sfA a m k + a ((m : Int) - 1 - k)
    omega
  · rw [show k + 1 - 1 = k by omega]; exact Int.le_refl _
/-- count and sum of the chosen among m, from the i-th on -/
def rcN (q : Int → Bool) : Nat → Nat → Nat
  | _, 0 => 0
  | i, m + 1 => (if q i then 1 else 0) + rcN q (i + 1) m
def rcS (q : Int → Bool) (v : Int → Int) : Nat → Nat → Int
  | _, 0 => 0
  | i, m + 1 => (if q i then v i else 0) + rcS q v (i + 1) m
/-- a holds in its first m places, sorted, what v holds from the i-th on -/
def risA (v : Int → Int) : Nat → Nat → (Int → Int) → Prop
  | _, 0, _ => True
  | i, m + 1, b => ∃ (a : Int → Int) (p : Nat), risA v (i + 1) m a ∧ rinP a m p (v i) ∧ ∀ j : Nat, j < m + 1 → b j = rinA a p (v i) j
theorem pfA_congr {a b : Int → Int} : ∀ {k : Nat}, (∀ j : Nat, j < k → a j = b j) → pfA a k = pfA b k
  | 0, _ => rfl
  | k + 1, h => by
    show pfA a k + a k = pfA b k + b k
    rw [pfA_congr (fun j hj => h j (by omega)), h k (by omega)]
theorem sfA_congr {a b : Int → Int} {m : Nat} (h : ∀ j : Nat, j < m → a j = b j) : ∀ {k : Nat}, k ≤ m → sfA a m k = sfA b m k
  | 0, _ => rfl
  | k + 1, hk => by
    show sfA a m k + a ((m : Int) - 1 - k) = sfA b m k + b ((m : Int) - 1 - k)
    have := h (m - 1 - k) (by omega)
    rw [show ((m - 1 - k : Nat) : Int) = (m : Int) - 1 - k by omega] at this
    rw [sfA_congr h (by omega), this]
theorem rcN_le {q : Int → Bool} : ∀ {m i : Nat}, rcN q i m ≤ m
  | 0, _ => Nat.le_refl _
  | m + 1, i => by
    have := rcN_le (q := q) (m := m) (i := i + 1)
    unfold rcN
    split <;> omega
/-- whatever is chosen: no less than as many of the least, no more than as many of the greatest -/
theorem ris_bd {v : Int → Int} (q : Int → Bool) : ∀ {m i : Nat} {a : Int → Int}, risA v i m a → pfA a (rcN q i m) ≤ rcS q v i m ∧ rcS q v i m ≤ sfA a m (rcN q i m)
  | 0, _, _, _ => ⟨Int.le_refl _, Int.le_refl _⟩
  | m + 1, i, b, h => by
    obtain ⟨a, p, h, hp, hb⟩ := h
    have ih := ris_bd q h
    have cl := rcN_le (q := q) (m := m) (i := i + 1)
    have c1 := rcN_le (q := q) (m := m + 1) (i := i)
    rw [pfA_congr (a := b) (b := rinA a p (v i)) (fun j hj => hb j (by omega)), sfA_congr hb c1]
    show pfA _ ((if q i then 1 else 0) + rcN q (i + 1) m) ≤ (if q i then v i else 0) + rcS q v (i + 1) m ∧ (if q i then v i else 0) + rcS q v (i + 1) m ≤ sfA _ (m + 1) ((if q i then 1 else 0) + rcN q (i + 1) m)
    cases q i
    · simp only [Bool.false_eq_true, if_false, Nat.zero_add, Int.zero_add]
      have := pf_ins_le hp cl
      have := sf_ins_ge hp cl
      omega
    · simp only [if_true]
      rw [Nat.add_comm 1]
      have := pf_ins_le1 hp (k := rcN q (i + 1) m)
      have := sf_ins_ge1 hp cl
      omega
theorem ris_sorted {v : Int → Int} : ∀ {m i : Nat} {a : Int → Int}, risA v i m a → ∀ j k : Nat, j ≤ k → k < m → a j ≤ a k
  | 0, _, _, _, _, _, _, hk => absurd hk (by omega)
  | m + 1, i, b, h, j, k, hj, hk => by
    obtain ⟨a, p, h, hp, hb⟩ := h
    have ih := ris_sorted h
    rw [hb j (by omega), hb k hk]
    unfold rinA
    by_cases k1 : (k : Int) < p
    · rw [if_pos k1, if_pos (by omega)]; exact ih j k hj (by have := hp.1; omega)
    · rw [if_neg k1]
      by_cases k2 : (k : Int) = p
      · rw [if_pos k2]
        by_cases j1 : (j : Int) < p
        · rw [if_pos j1]; exact hp.2.1 j (by omega)
        · rw [if_neg j1, if_pos (by omega)]; exact Int.le_refl _
      · rw [if_neg k2]
        have ek : ((k : Int) - 1) = ((k - 1 : Nat) : Int) := by omega
        rw [ek]
        by_cases j1 : (j : Int) < p
        · rw [if_pos j1]; exact ih j (k - 1) (by omega) (by omega)
        · rw [if_neg j1]
          by_cases j2 : (j : Int) = p
          · rw [if_pos j2]; exact hp.2.2 (k - 1) (by omega) (by omega)
          · rw [if_neg j2, show ((j : Int) - 1) = ((j - 1 : Nat) : Int) by omega]; exact ih (j - 1) (k - 1) (by omega) (by omega)
