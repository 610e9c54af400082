/-! rows: where there is no hope -/
theorem sm_ge {f : Nat → Int} {m : Int} : ∀ {k : Nat}, (∀ r : Nat, r < k → m ≤ f r) → m * k ≤ sm f k
  | 0, _ => by simp [sm]
  | k + 1, h => by
    have ih := sm_ge (f := f) (m := m) (k := k) (fun r hr => h r (by omega))
    have := h k (by omega)
    show m * ((k + 1 : Nat) : Int) ≤ sm f k + f k
    rw [show ((k + 1 : Nat) : Int) = (k : Int) + 1 by omega, Int.mul_add]
    omega
theorem sm_top {f : Nat → Int} {m : Int} {j : Nat} : ∀ {k : Nat}, j < k → (∀ r : Nat, r < k → m ≤ f r) → f j + m * ((k : Int) - 1) ≤ sm f k
  | 0, hj, _ => absurd hj (by omega)
  | k + 1, hj, h => by
    show f j + m * (((k + 1 : Nat) : Int) - 1) ≤ sm f k + f k
    rw [show ((k + 1 : Nat) : Int) - 1 = (k : Int) by omega]
    by_cases e : j = k
    · subst e
      have := sm_ge (f := f) (m := m) (k := j) (fun r hr => h r (by omega))
      omega
    · have ih := sm_top (f := f) (m := m) (k := k) (j := j) (by omega) (fun r hr => h r (by omega))
      have := h k (by omega)
      rw [Int.mul_sub] at ih
      omega
/-- no way u under the prefix is better than the best (wk, un, ul) -/
theorem rw_hope {v fl : Int → Int} {s n : Nat} {u : Int → Int} {wk un ul MW LT LU tot : Int} (s1 : 1 ≤ s) (hun : 0 ≤ un ∧ un < rvK) (hul : 0 ≤ ul ∧ ul < rvK) (bu : 0 ≤ tpW v u s n - wkW v u s n ∧ tpW v u s n - wkW v u s n < rvK) (bl : 0 ≤ tpW fl u s n - wkW fl u s n ∧ tpW fl u s n - wkW fl u s n < rvK) (hM : wkW v u s n ≤ MW) (hT : LT ≤ tpW v u s n) (hU : LU ≤ tpW fl u s n - wkW fl u s n) (ht : sm (fun r : Nat => ldW v u r n) s = tot) (no : MW < wk ∨ tot - ((s : Int) - 1) * wk < LT ∨ (MW ≤ wk ∧ un < LT - MW) ∨ (MW ≤ wk ∧ un ≤ LT - MW ∧ ul ≤ LU)) : rv3 wk un ul ≤ rwV v fl s n u := by
  have key : ¬ rwV v fl s n u < rv3 wk un ul := by
    unfold rwV
    rw [rv3_lt bu bl hun hul]
    intro q
    rcases no with e | e | e | e
    · omega
    · -- some other row is weaker
      have all : wk ≤ wkW v u s n := by omega
      have ge := (mnI_le (f := fun r => ldW v u r n) (x := wk) s1).mp all
      have tp : ∃ j : Nat, j < s ∧ ldW v u j n = tpW v u s n := by
        apply Classical.byContradiction
        intro no
        have : tpW v u s n ≤ tpW v u s n - 1 := (mxI_le (f := fun r => ldW v u r n) s1).mpr (fun r hr => by
          have a := (mxI_le (f := fun r => ldW v u r n) (x := tpW v u s n) s1).mp (Int.le_refl _) r hr
          have : ldW v u r n ≠ tpW v u s n := fun x => no ⟨r, hr, x⟩
          omega)
        omega
      obtain ⟨j, j1, j2⟩ := tp
      have := sm_top (f := fun r : Nat => ldW v u r n) (m := wk) j1 ge
      rw [ht] at this
      rw [Int.mul_comm] at e
      omega
    · omega
    · omega
  omega
