/-! ORDER, CHECK: the reference's lift, pure -/
def flp (x : Int) : Int := if x % 2 = 0 then x + 1 else x - 1
def adj (A B : Int → Int) (m M : Nat) (x y : Int) : Prop := y = flp x ∨ ∃ k : Nat, k < m ∧ M.testBit k = true ∧ ((A k = x ∧ B k = y) ∨ (B k = x ∧ A k = y))
def vis (g : HI) (k : Nat) : Bool := decide (0 ≤ g 135 k)
/-- bounds, roots, soundness -/
def LB (A B : Int → Int) (m M : Nat) (g : HI) : Prop := (∀ x : Int, nd x → -1 ≤ g 135 x ∧ (0 ≤ g 135 x → nd (g 135 x) ∧ g 135 (g 135 x) = g 135 x ∧ (-120 ≤ g 136 x ∧ g 136 x ≤ 120))) ∧ ∀ q mv, egs A B m M q mv → ∀ x : Int, nd x → 0 ≤ g 135 x → q x = q (g 135 x) ∧ mv x - mv (g 135 x) = g 136 x
/-- parts other than F are closed -/
def LCl (A B : Int → Int) (m M : Nat) (F : Int) (g : HI) : Prop := ∀ x : Int, nd x → 0 ≤ g 135 x → g 135 x ≠ F → ∀ y : Int, nd y → adj A B m M x y → g 135 y = g 135 x
/-- the walk -/
def LW (A B : Int → Int) (m M : Nat) (F : Int) (i n : Nat) (g : HI) : Prop := (∀ j : Nat, j < n → nd (g 137 j) ∧ g 135 (g 137 j) = F ∧ (-(j : Int) ≤ g 136 (g 137 j) ∧ g 136 (g 137 j) ≤ j)) ∧ (∀ x : Int, nd x → g 135 x = F → ∃ j : Nat, j < n ∧ g 137 j = x) ∧ (∀ j : Nat, j < i → ∀ y : Int, nd y → adj A B m M (g 137 j) y → g 135 y = F) ∧ (n : Int) ≤ cN (vis g) 120
section OD5
variable {A B : Int → Int} {m M : Nat} {F : Int} {i n : Nat} {g : HI}
theorem flp_nd {x : Int} (h : nd x) : nd (flp x) ∧ flp (flp x) = x := by
  unfold nd at h
  unfold flp nd
  by_cases c : x % 2 = 0
  · rw [if_pos c, if_neg (by omega)]; omega
  · rw [if_neg c, if_pos (by omega)]; omega
theorem adj_sym {x y : Int} (hx : nd x) (a : adj A B m M x y) : adj A B m M y x := by
  rcases a with z | ⟨k, h1, h2, h3⟩
  · rw [z]; exact Or.inl (flp_nd hx).2.symm
  · exact Or.inr ⟨k, h1, h2, by rcases h3 with z | z; exact Or.inr ⟨z.2, z.1⟩; exact Or.inl ⟨z.2, z.1⟩⟩
theorem egs_flp {q mv : Int → Int} (e : egs A B m M q mv) {x : Int} (hx : nd x) : q (flp x) = q x ∧ mv (flp x) = mv x + (if x % 2 = 0 then 1 else -1) := by
  unfold nd at hx
  have o := e.1 (x / 2) (by omega) (by omega)
  unfold flp
  by_cases c : x % 2 = 0
  · rw [if_pos c, if_pos c, show x + 1 = 2 * (x / 2) + 1 by omega, show x = 2 * (x / 2) by omega]
    rw [show 2 * (x / 2) / 2 = x / 2 by omega]
    exact ⟨o.1, o.2⟩
  · rw [if_neg c, if_neg c, show x - 1 = 2 * (x / 2) by omega]
    have ex : x = 2 * (x / 2) + 1 := by omega
    rw [← ex] at o
    exact ⟨o.1.symm, by omega⟩
theorem cN_up {q q' : Nat → Bool} {x : Nat} (h0 : q x = false) (h1 : q' x = true) (e : ∀ k, k ≠ x → q' k = q k) : ∀ {N : Nat}, cN q' N = cN q N + (if x < N then 1 else 0)
  | 0 => by rw [if_neg (by omega)]; rfl
  | N + 1 => by
    have ih := cN_up h0 h1 e (N := N)
    have u : ∀ r : Nat → Bool, cN r (N + 1) = cN r N + (if r N then 1 else 0) := fun r => rfl
    rw [u, u, ih]
    by_cases c : N = x
    · rw [c, h0, h1]
      simp
    · rw [e N c]
      by_cases d : x < N
      · rw [if_pos d, if_pos (show x < N + 1 by omega)]; omega
      · rw [if_neg d, if_neg (show ¬ x < N + 1 by omega)]; omega
theorem cN_top {q : Nat → Bool} : ∀ {N : Nat}, 0 ≤ cN q N ∧ cN q N ≤ N
  | 0 => by show (0 : Int) ≤ 0 ∧ (0 : Int) ≤ ((0 : Nat) : Int); omega
  | N + 1 => by
    have ih := cN_top (q := q) (N := N)
    have u : cN q (N + 1) = cN q N + (if q N then 1 else 0) := rfl
    rw [u]
    split <;> omega
end OD5
