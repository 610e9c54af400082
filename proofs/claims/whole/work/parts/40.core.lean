/-! pure rows: the steps of a formula, places that stay, counts and sums -/
theorem iteI {c : Prop} [Decidable c] {A B : Prop} (f : c → A) (g : ¬ c → B) : if c then A else B := by
  by_cases h : c
  · rw [if_pos h]; exact f h
  · rw [if_neg h]; exact g h
theorem iteP {c : Prop} [Decidable c] {A B : Prop} (h : c) (a : A) : if c then A else B := by rw [if_pos h]; exact a
theorem iteN {c : Prop} [Decidable c] {A B : Prop} (h : ¬ c) (b : B) : if c then A else B := by rw [if_neg h]; exact b
def Fr (P : Nat → Int → Prop) (h h' : HI) : Prop := ∀ k j, ¬ P k j → h' k j = h k j
theorem Fr.refl {P : Nat → Int → Prop} {h : HI} : Fr P h h := fun _ _ _ => rfl
theorem Fr.trans {P : Nat → Int → Prop} {h h' h'' : HI} (a : Fr P h h') (b : Fr P h' h'') : Fr P h h'' := fun k j q => (b k j q).trans (a k j q)
theorem Fr.mono {P P' : Nat → Int → Prop} {h h' : HI} (a : Fr P h h') (m : ∀ k j, P k j → P' k j) : Fr P' h h' := fun k j q => a k j (fun p => q (m k j p))
theorem Fr.hu {P : Nat → Int → Prop} {h h' : HI} (a : Fr P h h') {k : Nat} {j v : Int} (p : P k j) : Fr P h (hu h' k j v) := by
  intro k' j' q
  have : ¬ (k' = k ∧ j' = j) := fun e => q (by rw [e.1, e.2]; exact p)
  rw [hu_eq, if_neg this]
  exact a k' j' q
theorem Fr.cell {P : Nat → Int → Prop} {h h' : HI} (a : Fr P h h') (k : Nat) (q : ∀ j, ¬ P k j) : h' k = h k := funext fun j => a k j (q j)
def fu (f : Int → Int) (b v : Int) : Int → Int := fun x => if x = b then v else f x
theorem fu_s (f : Int → Int) (b v : Int) : fu f b v b = v := if_pos rfl
theorem fu_n (f : Int → Int) {b x : Int} (v : Int) (h : x ≠ b) : fu f b v x = f x := if_neg h
theorem hu_fu (h : HI) (k : Nat) (j v : Int) : hu h k j v k = fu (h k) j v := by
  funext x
  simp [hu, fu]
def cN (q : Nat → Bool) : Nat → Int
  | 0 => 0
  | n + 1 => cN q n + (if q n then 1 else 0)
def cS (q : Nat → Bool) (x : Nat → Int) : Nat → Int
  | 0 => 0
  | n + 1 => cS q x n + (if q n then x n else 0)
def cLo (q : Nat → Bool) (x : Nat → Int) : Nat → Int
  | 0 => 0
  | n + 1 => if q n then (if cN q n = 0 then x n else min (cLo q x n) (x n)) else cLo q x n
def cHi (q : Nat → Bool) (x : Nat → Int) : Nat → Int
  | 0 => 0
  | n + 1 => if q n then (if cN q n = 0 then x n else max (cHi q x n) (x n)) else cHi q x n
theorem cN_bd (q : Nat → Bool) : ∀ n : Nat, 0 ≤ cN q n ∧ cN q n ≤ n
  | 0 => ⟨Int.le_refl _, Int.le_refl _⟩
  | n + 1 => by
    have := cN_bd q n
    unfold cN
    split <;> omega
theorem cN_congr {q q' : Nat → Bool} : ∀ {n : Nat}, (∀ r, r < n → q r = q' r) → cN q n = cN q' n
  | 0, _ => rfl
  | n + 1, h => by
    unfold cN
    rw [cN_congr (n := n) (fun r hr => h r (by omega)), h n (by omega)]
theorem cS_congr {q q' : Nat → Bool} {x x' : Nat → Int} : ∀ {n : Nat}, (∀ r, r < n → q r = q' r) → (∀ r, r < n → q' r = true → x r = x' r) → cS q x n = cS q' x' n
  | 0, _, _ => rfl
  | n + 1, h, hx => by
    unfold cS
    rw [cS_congr (n := n) (fun r hr => h r (by omega)) (fun r hr => hx r (by omega)), h n (by omega)]
    cases hq : q' n with
    | false => rfl
    | true => rw [hx n (by omega) hq]
theorem cLo_congr {q q' : Nat → Bool} {x x' : Nat → Int} : ∀ {n : Nat}, (∀ r, r < n → q r = q' r) → (∀ r, r < n → q' r = true → x r = x' r) → cLo q x n = cLo q' x' n
  | 0, _, _ => rfl
  | n + 1, h, hx => by
    unfold cLo
    rw [cLo_congr (n := n) (fun r hr => h r (by omega)) (fun r hr => hx r (by omega)), h n (by omega), cN_congr (n := n) (fun r hr => h r (by omega))]
    cases hq : q' n with
    | false => rfl
    | true => rw [hx n (by omega) hq]
theorem cHi_congr {q q' : Nat → Bool} {x x' : Nat → Int} : ∀ {n : Nat}, (∀ r, r < n → q r = q' r) → (∀ r, r < n → q' r = true → x r = x' r) → cHi q x n = cHi q' x' n
  | 0, _, _ => rfl
  | n + 1, h, hx => by
    unfold cHi
    rw [cHi_congr (n := n) (fun r hr => h r (by omega)) (fun r hr => hx r (by omega)), h n (by omega), cN_congr (n := n) (fun r hr => h r (by omega))]
    cases hq : q' n with
    | false => rfl
    | true => rw [hx n (by omega) hq]
theorem cN_zero {q : Nat → Bool} : ∀ {n : Nat}, (∀ r, r < n → q r = false) → cN q n = 0
  | 0, _ => rfl
  | n + 1, h => by
    unfold cN
    rw [cN_zero (n := n) (fun r hr => h r (by omega)), h n (by omega)]
    rfl
theorem cN_pos {q : Nat → Bool} : ∀ {n : Nat}, 0 < cN q n → ∃ r, r < n ∧ q r = true
  | 0, h => by simp [cN] at h
  | n + 1, h => by
    unfold cN at h
    cases hq : q n with
    | true => exact ⟨n, by omega, hq⟩
    | false =>
      rw [hq] at h
      obtain ⟨r, h1, h2⟩ := cN_pos (n := n) (by simpa using h)
      exact ⟨r, by omega, h2⟩
theorem cN_of {q : Nat → Bool} {r : Nat} : ∀ {n : Nat}, r < n → q r = true → 0 < cN q n
  | 0, h, _ => by omega
  | n + 1, h, hq => by
    unfold cN
    have := cN_bd q n
    by_cases e : r = n
    · subst e; rw [hq]; simp; omega
    · have := cN_of (n := n) (by omega) hq
      split <;> omega
theorem cS_zero {q : Nat → Bool} {x : Nat → Int} : ∀ {n : Nat}, cN q n = 0 → cS q x n = 0
  | 0, _ => rfl
  | n + 1, h => by
    unfold cN at h
    have := cN_bd q n
    unfold cS
    cases hq : q n with
    | true => rw [hq] at h; simp at h; omega
    | false => rw [hq] at h; rw [cS_zero (n := n) (by simpa using h)]; rfl
theorem cS_bd {q : Nat → Bool} {x : Nat → Int} : ∀ {n : Nat}, (∀ r, r < n → q r = true → -7000 ≤ x r ∧ x r ≤ 7000) → -7000 * (n : Int) ≤ cS q x n ∧ cS q x n ≤ 7000 * (n : Int)
  | 0, _ => ⟨by simp [cS], by simp [cS]⟩
  | n + 1, h => by
    have a := cS_bd (n := n) (fun r hr => h r (by omega))
    unfold cS
    cases hq : q n with
    | false => simp; omega
    | true => have := h n (by omega) hq; simp; omega
theorem cLo_bd {q : Nat → Bool} {x : Nat → Int} : ∀ {n : Nat}, (∀ r, r < n → q r = true → -7000 ≤ x r ∧ x r ≤ 7000) → -7000 ≤ cLo q x n ∧ cLo q x n ≤ 7000
  | 0, _ => ⟨by simp [cLo], by simp [cLo]⟩
  | n + 1, h => by
    have a := cLo_bd (n := n) (fun r hr => h r (by omega))
    unfold cLo
    cases hq : q n with
    | false => simp; omega
    | true => have := h n (by omega) hq; simp; split <;> omega
theorem cHi_bd {q : Nat → Bool} {x : Nat → Int} : ∀ {n : Nat}, (∀ r, r < n → q r = true → -7000 ≤ x r ∧ x r ≤ 7000) → -7000 ≤ cHi q x n ∧ cHi q x n ≤ 7000
  | 0, _ => ⟨by simp [cHi], by simp [cHi]⟩
  | n + 1, h => by
    have a := cHi_bd (n := n) (fun r hr => h r (by omega))
    unfold cHi
    cases hq : q n with
    | false => simp; omega
    | true => have := h n (by omega) hq; simp; split <;> omega
/-! the mean of what is summed: an upper bound by the greatest -/
theorem cS_le {q : Nat → Bool} {x : Nat → Int} {K : Int} : ∀ {n : Nat}, (∀ r, r < n → q r = true → x r ≤ K) → cS q x n ≤ K * cN q n
  | 0, _ => by simp [cS, cN]
  | n + 1, h => by
    have a := cS_le (n := n) (fun r hr => h r (by omega))
    unfold cS cN
    cases hq : q n with
    | false => simpa using a
    | true => have := h n (by omega) hq; simp [Int.mul_add]; omega
def tvl (n s : Int) : Int := if n = 0 then 0 else max 1 (s.tdiv n)
theorem tvl_bd {n s K : Int} (hK : 1 ≤ K) (hn : 0 ≤ n) (hs : s ≤ K * n) : 0 ≤ tvl n s ∧ tvl n s ≤ K ∧ (n ≠ 0 → 1 ≤ tvl n s) := by
  unfold tvl
  by_cases e : n = 0
  · rw [if_pos e]; exact ⟨by omega, by omega, fun h => absurd e h⟩
  · rw [if_neg e]
    have : s.tdiv n ≤ K := by
      by_cases h0 : 0 ≤ s
      · rw [Int.tdiv_eq_ediv_of_nonneg h0]
        exact Int.ediv_le_of_le_mul (by omega) hs
      · have : s.tdiv n ≤ 0 := by
          have := Int.tdiv_nonneg (a := -s) (b := n) (by omega) hn
          rw [Int.neg_tdiv] at this
          omega
        omega
    refine ⟨by omega, by omega, fun _ => by omega⟩
/-- the first of k from i on that is so -/
def fst1 (m : Nat → Bool) : Nat → Nat → Int
  | _, 0 => -1
  | i, k + 1 => if m i then (i : Int) else fst1 m (i + 1) k
theorem fst1_bd (m : Nat → Bool) : ∀ (k i : Nat), fst1 m i k = -1 ∨ ((i : Int) ≤ fst1 m i k ∧ fst1 m i k < (i : Int) + k)
  | 0, i => Or.inl rfl
  | k + 1, i => by
    have a := fst1_bd m k (i + 1)
    unfold fst1
    cases hq : m i with
    | true => right; simp; omega
    | false => simp only [Bool.false_eq_true, if_false]; omega
theorem fst1_in {m : Nat → Bool} : ∀ {k i : Nat} (r : Nat), fst1 m i k = r → m r = true
  | 0, i, r, h => by simp [fst1] at h
  | k + 1, i, r, h => by
    unfold fst1 at h
    cases hq : m i with
    | true => rw [hq] at h; simp at h; have : i = r := by omega
              rw [← this]; exact hq
    | false => rw [hq] at h; simp at h; exact fst1_in r h
theorem fst1_of {m : Nat → Bool} {r : Nat} : ∀ {k i : Nat}, i ≤ r → r < i + k → m r = true → fst1 m i k ≠ -1
  | 0, i, h1, h2, _ => by omega
  | k + 1, i, h1, h2, hm => by
    unfold fst1
    cases hq : m i with
    | true => simp
    | false =>
      simp only [Bool.false_eq_true, if_false]
      have : i ≠ r := fun e => by rw [e, hm] at hq; cases hq
      exact fst1_of (by omega) (by omega) hm
theorem fst1_congr {m m' : Nat → Bool} : ∀ {k i : Nat}, (∀ r, i ≤ r → r < i + k → m r = m' r) → fst1 m i k = fst1 m' i k
  | 0, _, _ => rfl
  | k + 1, i, h => by
    unfold fst1
    rw [h i (by omega) (by omega), fst1_congr (k := k) (i := i + 1) (fun r h1 h2 => h r (by omega) (by omega))]
/-- insertion from the place i down -/
def insA (x : Int) : Nat → (Int → Int) → (Int → Int)
  | 0, a => fu a 0 x
  | i + 1, a => if a i ≤ x then fu a ((i : Int) + 1) x else insA x i (fu a ((i : Int) + 1) (a i))
theorem insA_congr {x : Int} : ∀ {i : Nat} {a b : Int → Int}, (∀ j : Int, 0 ≤ j → j < i → a j = b j) → ∀ j : Int, 0 ≤ j → j ≤ i → insA x i a j = insA x i b j
  | 0, a, b, h, j, h0, h1 => by
    have : j = 0 := by omega
    subst this
    simp [insA, fu]
  | i + 1, a, b, h, j, h0, h1 => by
    unfold insA
    rw [h i (by omega) (by omega)]
    split
    · by_cases e : j = (i : Int) + 1
      · rw [e, fu_s, fu_s]
      · rw [fu_n _ _ e, fu_n _ _ e]; exact h j h0 (by omega)
    · by_cases e : j = (i : Int) + 1
      · have aux : ∀ (k : Nat) (c : Int → Int), (k : Int) < j → insA x k c j = c j := by
          intro k
          induction k with
          | zero => intro c hk; exact fu_n _ _ (by omega)
          | succ k ih =>
            intro c hk
            unfold insA
            split
            · exact fu_n _ _ (by omega)
            · rw [ih _ (by omega)]; exact fu_n _ _ (by omega)
        rw [aux i _ (by omega), aux i _ (by omega), e, fu_s, fu_s]
      · exact insA_congr (fun q hq0 hq1 => by rw [fu_n _ _ (by omega), fu_n _ _ (by omega)]; exact h q hq0 (by omega)) j h0 (by omega)
theorem insA_bd {x K L : Int} (hx : K ≤ x ∧ x ≤ L) : ∀ {i : Nat} {a : Int → Int}, (∀ j : Int, 0 ≤ j → j < i → K ≤ a j ∧ a j ≤ L) → ∀ j : Int, 0 ≤ j → j ≤ i → K ≤ insA x i a j ∧ insA x i a j ≤ L
  | 0, a, h, j, h0, h1 => by
    have : j = 0 := by omega
    subst this
    simp only [insA, fu_s]; exact hx
  | i + 1, a, h, j, h0, h1 => by
    have aux : ∀ (k : Nat) (c : Int → Int), (k : Int) < j → insA x k c j = c j := by
      intro k
      induction k with
      | zero => intro c hk; exact fu_n _ _ (by omega)
      | succ k ih =>
        intro c hk
        unfold insA
        split
        · exact fu_n _ _ (by omega)
        · rw [ih _ (by omega)]; exact fu_n _ _ (by omega)
    unfold insA
    split
    · by_cases e : j = (i : Int) + 1
      · rw [e, fu_s]; exact hx
      · rw [fu_n _ _ e]; exact h j h0 (by omega)
    · by_cases e : j = (i : Int) + 1
      · rw [aux i _ (by omega), e, fu_s]; exact h i (by omega) (by omega)
      · exact insA_bd hx (fun q hq0 hq1 => by rw [fu_n _ _ (by omega)]; exact h q hq0 (by omega)) j h0 (by omega)
