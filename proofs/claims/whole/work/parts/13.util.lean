theorem ite_imp {c : Prop} [Decidable c] {A A' B B' : Prop} (f : A → A') (g : B → B') (w : if c then A else B) : if c then A' else B' := by
  by_cases h : c
  · rw [if_pos h] at w ⊢; exact f w
  · rw [if_neg h] at w ⊢; exact g w
theorem ite_imp2 {c c' : Prop} [Decidable c] [Decidable c'] (e : c ↔ c') {A A' B B' : Prop} (f : A → A') (g : B → B') (w : if c then A else B) : if c' then A' else B' := by
  by_cases h : c
  · rw [if_pos h] at w; rw [if_pos (e.mp h)]; exact f w
  · rw [if_neg h] at w; rw [if_neg (fun q => h (e.mpr q))]; exact g w
theorem rg_lcm3 (x y : Int) : rg (lcm3 x y) := by
  unfold lcm3
  split
  · exact ⟨by decide, by decide⟩
  · split
    · exact ⟨by decide, by decide⟩
    · exact ⟨by decide, by decide⟩
theorem lcm3_eq {x y : Int} : x = y ↔ lcm3 x y = 0 := by
  unfold lcm3
  split
  · constructor
    · intro h; omega
    · intro h; omega
  · split
    · simp; assumption
    · simp; assumption
theorem lcm3_ne {x y : Int} : ¬ x = y ↔ ¬ lcm3 x y = 0 := not_congr lcm3_eq
theorem lcm3_lt {x y : Int} : x < y ↔ lcm3 x y < 0 := by
  unfold lcm3
  split
  · constructor <;> intro h <;> omega
  · split
    · constructor <;> intro h <;> omega
    · constructor <;> intro h <;> omega
theorem lcm3_ge {x y : Int} : y ≤ x ↔ 0 ≤ lcm3 x y := by
  unfold lcm3
  split
  · constructor <;> intro h <;> omega
  · split
    · constructor <;> intro h <;> omega
    · constructor <;> intro h <;> omega
theorem lcm3_gt {x y : Int} : y < x ↔ 0 < lcm3 x y := by
  unfold lcm3
  split
  · constructor <;> intro h <;> omega
  · split
    · constructor <;> intro h <;> omega
    · constructor <;> intro h <;> omega
theorem lcm3_le {x y : Int} : x ≤ y ↔ lcm3 x y ≤ 0 := by
  unfold lcm3
  split
  · constructor <;> intro h <;> omega
  · split
    · constructor <;> intro h <;> omega
    · constructor <;> intro h <;> omega
