/-! CHECK: a run of strips -/
theorem band_rg (x y : Int) : rg (band x y) := by
  unfold band
  exact ⟨Int32.le_toInt _, Int32.toInt_le _⟩
section ODB
variable {l : Launch} {D : Nat} {ζ : ZP} {Q : Int → HI → Prop} {A B NT NA NB : Int → Int} {m nn M : Nat} {h g : HI} {W : Nat}
/-- the sets along the bytes -/
def Ms (bt : Nat → Int) : Nat → Nat
  | 0 => 0
  | j + 1 => Ms bt j ||| 2 ^ (bt j).toNat
/-- strip k can be next behind M -/
def cnx (A B NT NA NB AF : Int → Int) (m nn M k : Nat) : Prop := M.testBit k = false ∧ band (AF k) (bxor (M : Int) (-1)) = 0 ∧ ¬ SHs A B NT NA NB m nn M k
def gds (A B NT NA NB AF : Int → Int) (m nn : Nat) (bt : Nat → Int) (j : Nat) : Prop := bt j < m ∧ cnx A B NT NA NB AF m nn (Ms bt j) (bt j).toNat
/-- how many bits below N -/
def bts (M N : Nat) : Int := cN (fun j => M.testBit j) N
theorem bts_add {M k N : Nat} (h0 : M.testBit k = false) (hk : k < N) : bts (M ||| 2 ^ k) N = bts M N + 1 := by
  have := cN_up (q := fun j => M.testBit j) (q' := fun j => (M ||| 2 ^ k).testBit j) (x := k) h0 (bit_or.mpr (Or.inr rfl)) (fun j hj => by
    show (M ||| 2 ^ k).testBit j = M.testBit j
    rw [or_pow_tb, decide_eq_false (fun q => hj q.symm), Bool.or_false]) (N := N)
  rw [if_pos hk] at this
  exact this
theorem bts_lt {M k N : Nat} (h0 : M.testBit k = false) (hk : k < N) : bts M N < N := by
  have a := bts_add h0 hk
  have c := cN_top (q := fun j => (M ||| 2 ^ k).testBit j) (N := N)
  have : bts (M ||| 2 ^ k) N ≤ N := c.2
  omega
theorem bts_all {M : Nat} : ∀ {N : Nat}, bts M N = N → ∀ j, j < N → M.testBit j = true := by
  intro N e j hj
  cases c : M.testBit j with
  | true => rfl
  | false => have := bts_lt c hj; omega
theorem full_iff {M m : Nat} (hb : M < 2 ^ m) : (M = 2 ^ m - 1) ↔ bts M m = m := by
  constructor
  · intro e
    have : ∀ N, N ≤ m → bts M N = N := by
      intro N
      induction N with
      | zero => intro _; rfl
      | succ N ih =>
        intro hN
        have u : bts M (N + 1) = bts M N + (if M.testBit N then 1 else 0) := rfl
        have t : M.testBit N = true := by rw [e, Nat.testBit_two_pow_sub_one]; exact decide_eq_true (by omega)
        rw [u, ih (by omega), t]
        simp
    exact this m (Nat.le_refl _)
  · intro e
    apply Nat.eq_of_testBit_eq
    intro j
    rw [Nat.testBit_two_pow_sub_one]
    by_cases c : j < m
    · rw [bts_all e j c, decide_eq_true c]
    · rw [decide_eq_false c]
      exact Nat.testBit_lt_two_pow (Nat.lt_of_lt_of_le hb (Nat.pow_le_pow_right (by omega) (by omega)))
theorem or_lt {M k m : Nat} (hM : M < 2 ^ m) (hk : k < m) : M ||| 2 ^ k < 2 ^ m := Nat.or_lt_two_pow hM (Nat.pow_lt_pow_right (by omega) hk)
end ODB
