/-! share: ways in order, pure -/
def usW (w : Int → Int) : Nat → Int
  | 0 => 0
  | k + 1 => if w k = usW w k then usW w k + 1 else usW w k
def canW (b : Nat) (w : Int → Int) (k : Nat) : Prop := ∀ j : Nat, j < k → 0 ≤ w j ∧ w j ≤ usW w j ∧ w j < b
def ldW (t : Int → Int) (w : Int → Int) (r : Int) (k : Nat) : Int := cS (fun j => decide (w j = r)) (fun j => t j) k
def vlW (t : Int → Int) (b n : Nat) (w : Int → Int) : Int := mxI (fun r => ldW t w r n) b
def lxW (n : Nat) (w w' : Int → Int) : Prop := ∃ k : Nat, k < n ∧ (∀ j : Nat, j < k → w j = w' j) ∧ w k < w' k
def exW (i : Nat) (p w : Int → Int) : Prop := ∀ j : Nat, j < i → w j = p j
theorem usW_congr {w w' : Int → Int} : ∀ {k : Nat}, (∀ j : Nat, j < k → w j = w' j) → usW w k = usW w' k
  | 0, _ => rfl
  | k + 1, h => by
    unfold usW
    rw [usW_congr (k := k) (fun j hj => h j (by omega)), h k (by omega)]
theorem ldW_congr {t w w' : Int → Int} {r : Int} {k : Nat} (h : ∀ j : Nat, j < k → w j = w' j) : ldW t w r k = ldW t w' r k := cS_congr (fun j hj => by rw [h j hj]) (fun j _ _ => rfl)
theorem vlW_congr {t w w' : Int → Int} {b n : Nat} (h : ∀ j : Nat, j < n → w j = w' j) : vlW t b n w = vlW t b n w' := by
  unfold vlW
  rw [show (fun r => ldW t w r n) = (fun r => ldW t w' r n) from funext fun r => ldW_congr h]
theorem usW_bd (w : Int → Int) : ∀ k : Nat, 0 ≤ usW w k ∧ usW w k ≤ k
  | 0 => ⟨Int.le_refl _, Int.le_refl _⟩
  | k + 1 => by
    have := usW_bd w k
    unfold usW
    split <;> omega
theorem ldW_mono {t w : Int → Int} {r : Int} {n : Nat} (ht : ∀ j : Nat, j < n → 0 ≤ t j) : ∀ {i k : Nat}, i ≤ k → k ≤ n → ldW t w r i ≤ ldW t w r k := by
  intro i k
  induction k with
  | zero => intro h _; rw [show i = 0 by omega]; exact Int.le_refl _
  | succ k ih =>
    intro h hk
    by_cases e : i = k + 1
    · rw [e]; exact Int.le_refl _
    · have := ih (by omega) (by omega)
      have tk := ht k (by omega)
      show _ ≤ ldW t w r k + (if decide (w k = r) then t k else 0)
      split <;> omega
theorem ldW_bd {t w : Int → Int} {r : Int} {n : Nat} (ht : ∀ j : Nat, j < n → 0 ≤ t j ∧ t j ≤ 99) : ∀ {k : Nat}, k ≤ n → 0 ≤ ldW t w r k ∧ ldW t w r k ≤ 99 * k
  | 0, _ => by simp [ldW, cS]
  | k + 1, hk => by
    have ih := ldW_bd (t := t) (w := w) (r := r) ht (k := k) (by omega)
    have tk := ht k (by omega)
    show 0 ≤ ldW t w r k + (if decide (w k = r) then t k else 0) ∧ ldW t w r k + (if decide (w k = r) then t k else 0) ≤ _
    split <;> omega
/-- lexicographic: one of two, or alike -/
theorem lxW_tri {n : Nat} {w w' : Int → Int} : lxW n w w' ∨ lxW n w' w ∨ ∀ j : Nat, j < n → w j = w' j := by
  have aux : ∀ k : Nat, k ≤ n → lxW n w w' ∨ lxW n w' w ∨ ∀ j : Nat, j < k → w j = w' j := by
    intro k
    induction k with
    | zero => intro _; exact Or.inr (Or.inr (fun j hj => absurd hj (by omega)))
    | succ k ih =>
      intro hk
      rcases ih (by omega) with h | h | h
      · exact Or.inl h
      · exact Or.inr (Or.inl h)
      · by_cases c : w k < w' k
        · exact Or.inl ⟨k, by omega, h, c⟩
        · by_cases c2 : w' k < w k
          · exact Or.inr (Or.inl ⟨k, by omega, fun j hj => (h j hj).symm, c2⟩)
          · refine Or.inr (Or.inr (fun j hj => ?_))
            by_cases e : j = k
            · rw [e]; omega
            · exact h j (by omega)
  exact aux n (Nat.le_refl _)
/-- what the search is to find -/
def shR (t : Int → Int) (b n : Nat) (L : Int) (w : Int → Int) : Prop := canW b w n ∧ vlW t b n w = L ∧ ∀ w', canW b w' n → L ≤ vlW t b n w' ∧ (lxW n w' w → L < vlW t b n w')
theorem shR_uniq {t : Int → Int} {b n : Nat} {L L' : Int} {w w' : Int → Int} (h : shR t b n L w) (h' : shR t b n L' w') : L = L' ∧ ∀ j : Nat, j < n → w j = w' j := by
  have a := (h.2.2 w' h'.1)
  have a' := (h'.2.2 w h.1)
  rw [h'.2.1] at a
  rw [h.2.1] at a'
  have e : L = L' := by omega
  refine ⟨e, ?_⟩
  rcases lxW_tri (n := n) (w := w) (w' := w') with q | q | q
  · have := a'.2 q; omega
  · have := a.2 q; omega
  · exact q
/-- a search below a prefix: from (L, w) to (L', w') -/
def shS (t : Int → Int) (b n : Nat) (S : (Int → Int) → Prop) (L L' : Int) (w w' : Int → Int) : Prop := L' ≤ L ∧ (L' = L → ∀ j : Nat, j < n → w' j = w j) ∧ (∀ u, canW b u n → S u → L' ≤ vlW t b n u) ∧ (L' < L → canW b w' n ∧ S w' ∧ vlW t b n w' = L' ∧ ∀ u, canW b u n → S u → lxW n u w' → L' < vlW t b n u)
theorem canW_congr {b : Nat} {w w' : Int → Int} {n : Nat} (h : ∀ j : Nat, j < n → w j = w' j) (c : canW b w n) : canW b w' n := by
  intro j hj
  have := c j hj
  rw [h j hj] at this
  rw [usW_congr (w := w') (w' := w) (fun i hi => (h i (by omega)).symm)]
  exact this
theorem lxW_congr {n : Nat} {u w w' : Int → Int} (h : ∀ j : Nat, j < n → w j = w' j) (q : lxW n u w) : lxW n u w' := by
  obtain ⟨k, h1, h2, h3⟩ := q
  exact ⟨k, h1, fun j hj => (h2 j hj).trans (h j (by omega)), by rw [← h k h1]; exact h3⟩
/-- two searches one behind the other, the first's ways all before the second's -/
theorem shS_seq {t : Int → Int} {b n : Nat} {S1 S2 : (Int → Int) → Prop} {L0 L1 L2 : Int} {w0 w1 w2 : Int → Int} (h1 : shS t b n S1 L0 L1 w0 w1) (h2 : shS t b n S2 L1 L2 w1 w2) (ord : ∀ u v, S1 u → S2 v → ¬ lxW n v u) (c1 : ∀ u v, S1 u → (∀ j : Nat, j < n → u j = v j) → S1 v) : shS t b n (fun u => S1 u ∨ S2 u) L0 L2 w0 w2 := by
  obtain ⟨a1, a2, a3, a4⟩ := h1
  obtain ⟨b1, b2, b3, b4⟩ := h2
  refine ⟨by omega, fun e j hj => ?_, fun u cu su => ?_, fun lt => ?_⟩
  · rw [b2 (by omega) j hj, a2 (by omega) j hj]
  · rcases su with s | s
    · have := a3 u cu s; omega
    · exact b3 u cu s
  · by_cases e : L2 < L1
    · have q := b4 e
      refine ⟨q.1, Or.inr q.2.1, q.2.2.1, fun u cu su lx => ?_⟩
      rcases su with s | s
      · have := a3 u cu s; omega
      · exact q.2.2.2 u cu s lx
    · have e2 : L2 = L1 := by omega
      have q := a4 (by omega)
      have ew := b2 e2
      have ew' : ∀ j : Nat, j < n → w1 j = w2 j := fun j hj => (ew j hj).symm
      refine ⟨canW_congr ew' q.1, Or.inl (c1 _ _ q.2.1 ew'), by rw [← vlW_congr ew', q.2.2.1, e2], fun u cu su lx => ?_⟩
      have lx' := lxW_congr ew lx
      rcases su with s | s
      · rw [e2]; exact q.2.2.2 u cu s lx'
      · exact absurd lx' (ord _ _ q.2.1 s)
theorem shS_none {t : Int → Int} {b n : Nat} {S : (Int → Int) → Prop} {L : Int} {w : Int → Int} (h : ∀ u, canW b u n → S u → L ≤ vlW t b n u) : shS t b n S L L w w := ⟨Int.le_refl _, fun _ _ _ => rfl, h, fun q => absurd q (by omega)⟩
theorem shS_imp {t : Int → Int} {b n : Nat} {S S' : (Int → Int) → Prop} {L L' : Int} {w w' : Int → Int} (h : shS t b n S L L' w w') (e : ∀ u, canW b u n → (S u ↔ S' u)) : shS t b n S' L L' w w' := by
  obtain ⟨a1, a2, a3, a4⟩ := h
  exact ⟨a1, a2, fun u cu su => a3 u cu ((e u cu).mpr su), fun lt => ⟨(a4 lt).1, (e _ (a4 lt).1).mp (a4 lt).2.1, (a4 lt).2.2.1, fun u cu su => (a4 lt).2.2.2 u cu ((e u cu).mpr su)⟩⟩
/-- numbers of ways: the first place is the highest digit -/
def nmW (b : Nat) (w : Int → Int) : Nat → Int
  | 0 => 0
  | k + 1 => nmW b w k * b + w k
theorem nmW_bd {b : Nat} {w : Int → Int} : ∀ {k : Nat}, (∀ j : Nat, j < k → 0 ≤ w j ∧ w j < b) → 0 ≤ nmW b w k ∧ nmW b w k < ((b ^ k : Nat) : Int)
  | 0, _ => by simp [nmW]
  | k + 1, h => by
    have ih := nmW_bd (b := b) (w := w) (k := k) (fun j hj => h j (by omega))
    have wk := h k (by omega)
    show 0 ≤ nmW b w k * b + w k ∧ nmW b w k * b + w k < _
    have m1 := Int.mul_le_mul_of_nonneg_right (show nmW b w k ≤ ((b ^ k : Nat) : Int) - 1 by omega) (show (0 : Int) ≤ b by omega)
    have m0 := Int.mul_nonneg ih.1 (show (0 : Int) ≤ b by omega)
    rw [Nat.pow_succ, Int.natCast_mul]
    rw [Int.sub_mul] at m1
    omega
theorem nmW_lt {b : Nat} {w w' : Int → Int} : ∀ {n : Nat}, (∀ j : Nat, j < n → 0 ≤ w j ∧ w j < b) → (∀ j : Nat, j < n → 0 ≤ w' j ∧ w' j < b) → lxW n w w' → nmW b w n < nmW b w' n
  | 0, _, _, h => by obtain ⟨k, h1, _⟩ := h; omega
  | n + 1, hw, hw', h => by
    obtain ⟨k, h1, h2, h3⟩ := h
    show nmW b w n * b + w n < nmW b w' n * b + w' n
    have a := hw n (by omega)
    have a' := hw' n (by omega)
    by_cases e : k = n
    · subst e
      have : nmW b w k = nmW b w' k := by
        have aux : ∀ m : Nat, m ≤ k → nmW b w m = nmW b w' m := by
          intro m
          induction m with
          | zero => intro _; rfl
          | succ m ih => intro hm; unfold nmW; rw [ih (by omega), h2 m (by omega)]
        exact aux k (Nat.le_refl _)
      rw [this]; omega
    · have ih := nmW_lt (b := b) (n := n) (fun j hj => hw j (by omega)) (fun j hj => hw' j (by omega)) ⟨k, by omega, h2, h3⟩
      have m1 := Int.mul_le_mul_of_nonneg_right (show nmW b w n + 1 ≤ nmW b w' n by omega) (show (0 : Int) ≤ b by omega)
      rw [Int.add_mul] at m1
      omega
