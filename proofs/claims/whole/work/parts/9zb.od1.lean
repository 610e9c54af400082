/-! ORDER, CHECK: what hangs together, pure -/
/-- parts and levels that keep CELLS and the strips of the set M -/
def egs (A B : Int → Int) (m M : Nat) (p lv : Int → Int) : Prop := (∀ c : Int, 0 ≤ c → c < 60 → p (2 * c + 1) = p (2 * c) ∧ lv (2 * c + 1) = lv (2 * c) + 1) ∧ ∀ k : Nat, k < m → M.testBit k = true → p (A k) = p (B k) ∧ lv (A k) = lv (B k)
/-- .. and nothing more hangs together than must -/
def vds (A B : Int → Int) (m M : Nat) (p lv : Int → Int) : Prop := egs A B m M p lv ∧ ∀ q mv, egs A B m M q mv → ∀ x y : Int, nd x → nd y → p x = p y → q x = q y ∧ mv x - mv y = lv x - lv y
section OD1
variable {A B : Int → Int} {m M M' : Nat} {p lv p' lv' : Int → Int}
theorem vds_uniq (a : vds A B m M p lv) (c : vds A B m M p' lv') {x y : Int} (hx : nd x) (hy : nd y) : (p x = p y ↔ p' x = p' y) ∧ (p x = p y → lv x - lv y = lv' x - lv' y) :=
  ⟨⟨fun e => (a.2 _ _ c.1 x y hx hy e).1, fun e => (c.2 _ _ a.1 x y hx hy e).1⟩, fun e => (a.2 _ _ c.1 x y hx hy e).2.symm⟩
theorem egs_sub (a : egs A B m M' p lv) (s : ∀ k, k < m → M.testBit k = true → M'.testBit k = true) : egs A B m M p lv := ⟨a.1, fun k hk b => a.2 k hk (s k hk b)⟩
theorem vds_mono (a : vds A B m M p lv) (c : vds A B m M' p' lv') (s : ∀ k, k < m → M.testBit k = true → M'.testBit k = true) {x y : Int} (hx : nd x) (hy : nd y) (e : p x = p y) : p' x = p' y ∧ lv' x - lv' y = lv x - lv y := a.2 _ _ (egs_sub c.1 s) x y hx hy e
theorem vds_0 : vds A B m 0 (fun x => x / 2) (fun x => x % 2) := by
  refine ⟨⟨fun c c0 c1 => ⟨?_, ?_⟩, fun k _ b => ?_⟩, fun q mv eg x y hx hy e => ?_⟩
  · show (2 * c + 1) / 2 = (2 * c) / 2; omega
  · show (2 * c + 1) % 2 = (2 * c) % 2 + 1; omega
  · rw [Nat.zero_testBit] at b; cases b
  · have e : x / 2 = y / 2 := e
    unfold nd at hx hy
    have ex := eg.1 (x / 2) (by omega) (by omega)
    have hx' : x = 2 * (x / 2) ∨ x = 2 * (x / 2) + 1 := by omega
    have hy' : y = 2 * (x / 2) ∨ y = 2 * (x / 2) + 1 := by omega
    show q x = q y ∧ mv x - mv y = x % 2 - y % 2
    generalize x / 2 = c at ex hx' hy'
    rcases hx' with z | z <;> rcases hy' with w | w <;> subst z w
    · exact ⟨rfl, by omega⟩
    · exact ⟨ex.1.symm, by rw [ex.2]; omega⟩
    · exact ⟨ex.1, by rw [ex.2]; omega⟩
    · exact ⟨rfl, by omega⟩
theorem bit_or {k j : Nat} : (M ||| 2 ^ k).testBit j = true ↔ M.testBit j = true ∨ k = j := by
  rw [or_pow_tb, Bool.or_eq_true, decide_eq_true_eq]
/-- a strip between what hangs together already -/
theorem vds_in (a : vds A B m M p lv) {k : Nat} (e : p (A k) = p (B k)) (e2 : lv (A k) = lv (B k)) : vds A B m (M ||| 2 ^ k) p lv := by
  refine ⟨⟨a.1.1, fun j hj b => ?_⟩, fun q mv eg x y hx hy z => a.2 q mv (egs_sub eg (fun j hj b => bit_or.mpr (Or.inl b))) x y hx hy z⟩
  rcases bit_or.mp b with z | z
  · exact a.1.2 j hj z
  · rw [← z]; exact ⟨e, e2⟩
/-- a strip that joins two parts -/
theorem vds_join (a : vds A B m M p lv) {k : Nat} (hk : k < m) (hA : nd (A k)) (hB : nd (B k)) (ne : p (A k) ≠ p (B k)) : vds A B m (M ||| 2 ^ k) (fun x => if p x = p (B k) then p (A k) else p x) (fun x => if p x = p (B k) then lv x + (lv (A k) - lv (B k)) else lv x) := by
  have tr : ∀ x y : Int, p x = p y → lv x - lv y = (if p x = p (B k) then lv x + (lv (A k) - lv (B k)) else lv x) - (if p y = p (B k) then lv y + (lv (A k) - lv (B k)) else lv y) := by
    intro x y e
    rw [e]
    split <;> omega
  refine ⟨⟨fun c c0 c1 => ?_, fun j hj b => ?_⟩, fun q mv eg x y hx hy z => ?_⟩
  · have o := a.1.1 c c0 c1
    have t := tr (2 * c + 1) (2 * c) o.1
    refine ⟨by show (if _ then _ else _) = (if _ then _ else _); rw [o.1], ?_⟩
    show (if p (2 * c + 1) = p (B k) then lv (2 * c + 1) + (lv (A k) - lv (B k)) else lv (2 * c + 1)) = (if p (2 * c) = p (B k) then lv (2 * c) + (lv (A k) - lv (B k)) else lv (2 * c)) + 1
    omega
  · show (if p (A j) = p (B k) then p (A k) else p (A j)) = (if p (B j) = p (B k) then p (A k) else p (B j)) ∧ (if p (A j) = p (B k) then lv (A j) + (lv (A k) - lv (B k)) else lv (A j)) = (if p (B j) = p (B k) then lv (B j) + (lv (A k) - lv (B k)) else lv (B j))
    rcases bit_or.mp b with z | z
    · have o := a.1.2 j hj z
      rw [o.1, o.2]
      exact ⟨rfl, rfl⟩
    · subst z
      rw [if_neg ne, if_pos rfl, if_neg ne, if_pos rfl]
      exact ⟨rfl, by omega⟩
  · have eg' := egs_sub (M := M) eg (fun j hj b => bit_or.mpr (Or.inl b))
    have ek := eg.2 k hk (bit_or.mpr (Or.inr rfl))
    have z : (if p x = p (B k) then p (A k) else p x) = (if p y = p (B k) then p (A k) else p y) := z
    show q x = q y ∧ mv x - mv y = (if p x = p (B k) then lv x + (lv (A k) - lv (B k)) else lv x) - (if p y = p (B k) then lv y + (lv (A k) - lv (B k)) else lv y)
    by_cases cx : p x = p (B k)
    · by_cases cy : p y = p (B k)
      · rw [if_pos cx, if_pos cy]
        have o := a.2 q mv eg' x y hx hy (cx.trans cy.symm)
        exact ⟨o.1, by omega⟩
      · rw [if_pos cx, if_neg cy] at z
        rw [if_pos cx, if_neg cy]
        have o1 := a.2 q mv eg' x (B k) hx hB cx
        have o2 := a.2 q mv eg' (A k) y hA hy z
        exact ⟨o1.1.trans (ek.1.symm.trans o2.1), by omega⟩
    · by_cases cy : p y = p (B k)
      · rw [if_neg cx, if_pos cy] at z
        rw [if_neg cx, if_pos cy]
        have o1 := a.2 q mv eg' x (A k) hx hA z
        have o2 := a.2 q mv eg' (B k) y hB hy cy.symm
        exact ⟨o1.1.trans (ek.1.trans o2.1), by omega⟩
      · rw [if_neg cx, if_neg cy] at z
        rw [if_neg cx, if_neg cy]
        have o := a.2 q mv eg' x y hx hy z
        exact ⟨o.1, by omega⟩
end OD1
