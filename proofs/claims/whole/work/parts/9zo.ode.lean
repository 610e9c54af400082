/-! ORDER: pure -/
section ODE
variable {h g : HI} {W : Nat}
/-- an ORDER goes on from the set M with f strips more -/
def En (W : Nat) (h : HI) : Nat → Nat → Prop
  | 0, M => M = 2 ^ (h W 0).toNat - 1
  | f + 1, M => ∃ k : Nat, k < (h W 0).toNat ∧ cnw W h M k ∧ En W h f (M ||| 2 ^ k)
/-- the least one -/
def LX (W : Nat) (h : HI) (c : Int → Int) : Nat → Nat → Nat → Prop
  | 0, _, _ => True
  | f + 1, M, t => ∃ k : Nat, k < (h W 0).toNat ∧ c t = k ∧ (cnw W h M k ∧ En W h f (M ||| 2 ^ k)) ∧ (∀ j : Nat, j < k → ¬ (cnw W h M j ∧ En W h f (M ||| 2 ^ j))) ∧ LX W h c f (M ||| 2 ^ k) (t + 1)
theorem LX_uniq {c c' : Int → Int} : ∀ {f M t : Nat}, LX W h c f M t → LX W h c' f M t → ∀ j : Nat, t ≤ j → j < t + f → c j = c' j ∧ 0 ≤ c j ∧ c j < (h W 0).toNat
  | 0, _, t, _, _, j, h1, h2 => by omega
  | f + 1, M, t, a, b, j, h1, h2 => by
    obtain ⟨k, k1, k2, k3, k4, k5⟩ := a
    obtain ⟨k', l1, l2, l3, l4, l5⟩ := b
    have e : k = k' := by
      apply Nat.le_antisymm
      · apply Nat.le_of_not_lt
        intro z
        exact k4 k' z l3
      · apply Nat.le_of_not_lt
        intro z
        exact l4 k z k3
    subst e
    by_cases z : j = t
    · subst z
      rw [k2, l2]; exact ⟨rfl, by omega, by omega⟩
    · exact LX_uniq k5 l5 j (by omega) (by omega)
theorem LX_congr {c c' : Int → Int} : ∀ {f M t : Nat}, LX W h c f M t → (∀ j : Nat, t ≤ j → j < t + f → c' j = c j) → LX W h c' f M t
  | 0, _, _, _, _ => trivial
  | f + 1, M, t, a, e => by
    obtain ⟨k, k1, k2, k3, k4, k5⟩ := a
    exact ⟨k, k1, by rw [e t (by omega) (by omega)]; exact k2, k3, k4, LX_congr k5 (fun j h1 h2 => e j (by omega) (by omega))⟩
/-- what SHORTS goes on to SHORT -/
theorem shp_mono {M M' : Nat} {p lv p' lv' : Int → Int} (we : weI W h) (a : vdw W h M p lv) (c : vdw W h M' p' lv') (s : ∀ k, k < (h W 0).toNat → M.testBit k = true → M'.testBit k = true) {k : Nat} (hk : k < (h W 0).toNat) (z : shp (h (W + 1)) (h (W + 2)) (h (W + 4)) (h (W + 5)) (h (W + 6)) (h W 4).toNat p lv k) : shp (h (W + 1)) (h (W + 2)) (h (W + 4)) (h (W + 5)) (h (W + 6)) (h W 4).toNat p' lv' k := by
  rcases z with ⟨s1, s2⟩ | ⟨j, j1, j2, j3, j4⟩
  · have n := we_A we k hk
    have u := vds_mono a c s n.1 n.2 s1
    exact Or.inl ⟨u.1, by omega⟩
  · have n := we_N we j j1
    have u := vds_mono a c s n.1 n.2 j3
    exact Or.inr ⟨j, j1, j2, u.1, by omega⟩
theorem cnw_next {M k : Nat} (we : weI W h) (hk : k < (h W 0).toNat) {p lv : Int → Int} (v : vdw W h M p lv) (c : cnw W h M k) : ∃ p' lv', vdw W h (M ||| 2 ^ k) p' lv' := by
  have ns : ¬ slf (h (W + 1)) (h (W + 2)) p lv k := fun s => c.2.2 ((SHs_of (we_A we) (we_N we) hk v).mpr (Or.inl s))
  exact ex_next (we_A we) hk v ns
theorem spoil (we : weI W h) {j : Nat} (hj : j < (h W 0).toNat) : ∀ {f M : Nat} {p lv : Int → Int}, vdw W h M p lv → M.testBit j = false → shp (h (W + 1)) (h (W + 2)) (h (W + 4)) (h (W + 5)) (h (W + 6)) (h W 4).toNat p lv j → ¬ En W h f M
  | 0, M, p, lv, v, b, s, e => by
    have e : M = 2 ^ (h W 0).toNat - 1 := e
    rw [e, Nat.testBit_two_pow_sub_one, decide_eq_true hj] at b
    cases b
  | f + 1, M, p, lv, v, b, s, e => by
    obtain ⟨k, k1, k2, k3⟩ := e
    obtain ⟨p', lv', v'⟩ := cnw_next we k1 v k2
    have s' := shp_mono we v v' (fun i _ z => bit_or.mpr (Or.inl z)) hj s
    by_cases c : j = k
    · subst c
      apply k2.2.2
      rw [SHs_of (we_A we) (we_N we) hj v]
      rcases s with z | z
      · exact Or.inl z
      · rcases s' with y | y
        · by_cases d : slf (h (W + 1)) (h (W + 2)) p lv j
          · exact Or.inl d
          · exfalso
            have := v'.1.2 j hj (bit_or.mpr (Or.inr rfl))
            exact y.2 this.2
        · exact Or.inr ⟨p', lv', v', y⟩
    · exact spoil we hj v' (by rw [or_pow_tb, b, decide_eq_false (fun q => c q.symm)]; rfl) s' k3
/-- a bit of an int -/
def db (x : Int) (c : Nat) : Bool := (BitVec.ofInt 32 x).getLsbD c
theorem band_bv (x y : Int) : BitVec.ofInt 32 (band x y) = BitVec.ofInt 32 x &&& BitVec.ofInt 32 y := by
  show BitVec.ofInt 32 (((Int32.ofInt x &&& Int32.ofInt y).toBitVec).toInt) = _
  rw [BitVec.ofInt_toInt, Int32.toBitVec_and, i32bv, i32bv]
theorem bor_bv (x y : Int) : BitVec.ofInt 32 (bor x y) = BitVec.ofInt 32 x ||| BitVec.ofInt 32 y := by
  show BitVec.ofInt 32 (((Int32.ofInt x ||| Int32.ofInt y).toBitVec).toInt) = _
  rw [BitVec.ofInt_toInt, Int32.toBitVec_or, i32bv, i32bv]
theorem bshr_bv (x : Int) {c : Nat} (hc : c < 32) : BitVec.ofInt 32 (bshr x c) = (BitVec.ofInt 32 x).sshiftRight c := by
  show BitVec.ofInt 32 (((Int32.ofInt x >>> (Int32.ofInt c &&& 31)).toBitVec).toInt) = _
  rw [BitVec.ofInt_toInt, Int32.toBitVec_shiftRight, i32bv, BitVec.sshiftRight_eq', sh32 c hc]
theorem db_ask (x : Int) {c : Nat} (hc : c < 32) : band (bshr x c) 1 = if db x c then 1 else 0 := by
  have e : band (bshr x c) 1 = (BitVec.ofInt 32 (band (bshr x c) 1)).toInt := by
    show ((Int32.ofInt (bshr x c) &&& Int32.ofInt 1).toBitVec).toInt = _
    rw [band_bv, Int32.toBitVec_and, i32bv, i32bv]
  rw [e, band_bv, bshr_bv x hc]
  have : (BitVec.ofInt 32 x).sshiftRight c &&& BitVec.ofInt 32 1 = if db x c then 1#32 else 0#32 := by
    apply BitVec.eq_of_getLsbD_eq
    intro i hi
    have o : BitVec.ofInt 32 1 = 1#32 := by decide
    rw [BitVec.getLsbD_and, BitVec.getLsbD_sshiftRight, o, BitVec.getLsbD_one]
    by_cases z : i = 0
    · subst z
      unfold db
      cases q : (BitVec.ofInt 32 x).getLsbD c <;> simp [hc, q]
    · cases q : db x c <;> simp [z, BitVec.getLsbD_one]
  rw [this]
  cases db x c <;> decide
theorem db_or (x : Int) {b c : Nat} (hb : b < 32) (hc : c < 32) : db (bor x (bshl 1 b)) c = (db x c || decide (b = c)) := by
  have all : ∀ b c : Nat, b < 32 → c < 32 → (BitVec.ofInt 32 (bshl 1 b)).getLsbD c = decide (b = c) := by
    have : ∀ b : Fin 32, ∀ c : Fin 32, (BitVec.ofInt 32 (bshl 1 (b.val : Nat))).getLsbD c.val = decide (b.val = c.val) := by decide +kernel
    exact fun b c hb hc => this ⟨b, hb⟩ ⟨c, hc⟩
  unfold db
  rw [bor_bv, BitVec.getLsbD_or, all b c hb hc]
theorem db_0 (c : Nat) : db 0 c = false := by
  unfold db
  rw [show BitVec.ofInt 32 0 = 0#32 by decide, BitVec.getLsbD_zero]
theorem s5 : ∀ M : Nat, M < 4096 → bshr (M : Int) 5 = ((M / 32 : Nat) : Int) ∧ band (M : Int) 31 = ((M % 32 : Nat) : Int) := by
  intro M hM
  have e1 := bshr_nat (a := M) (k := 5) (by omega) (by decide)
  have e2 := band_nat (a := M) (b := 31) (by omega) (by decide)
  have m : M &&& 31 = M % 32 := Nat.and_two_pow_sub_one_eq_mod M 5
  refine ⟨?_, ?_⟩
  · rw [show ((5 : Nat) : Int) = 5 from rfl] at e1
    rw [e1, Nat.shiftRight_eq_div_pow]
  · rw [show ((31 : Nat) : Int) = 31 from rfl] at e2
    rw [e2, m]
/-- what is dead goes on no ORDER -/
def DI (W : Nat) (h : HI) (g : HI) : Prop := ∀ N f : Nat, N < 4096 → db (g 96 ((N / 32 : Nat) : Int)) (N % 32) = true → bts N (h W 0).toNat + f = ((h W 0).toNat : Int) → ¬ En W h f N
theorem or_gt {M k : Nat} (b : M.testBit k = false) : M < M ||| 2 ^ k := by
  have le : M ≤ M ||| 2 ^ k := Nat.left_le_or
  by_cases c : M = M ||| 2 ^ k
  · exfalso
    have : (M ||| 2 ^ k).testBit k = true := bit_or.mpr (Or.inr rfl)
    rw [← c, b] at this; cases this
  · omega
end ODE
