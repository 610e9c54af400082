/-! TRUTH, pure: a cell more, a reading more -/
theorem tcn_zero {d : TD} (ok : TDok d) (j : Int → Int) {c : Int} (hc : (d.2.2.2.2.2.1 : Int) ≤ c) : tcn d j c = 0 := cN_zero (fun r hr => decide_eq_false (fun e => by have := (ok.2.2.2 r hr).1; omega))
theorem cN_more {q : Nat → Bool} {n : Nat} : ∀ {m : Nat}, n ≤ m → (∀ r, n ≤ r → r < m → q r = false) → cN q m = cN q n
  | 0, h, _ => by have : n = 0 := by omega
                  rw [this]
  | m + 1, h, hq => by
    by_cases e : n = m + 1
    · rw [e]
    · show cN q m + (if q m then 1 else 0) = cN q n
      rw [cN_more (m := m) (by omega) (fun r h1 h2 => hq r h1 (by omega)), hq m (by omega) (by omega)]
      simp
theorem mdA_more {p : Nat → Bool} {v : Nat → Int} {a : Int → Int} {n : Nat} : ∀ {m : Nat}, n ≤ m → (∀ r, n ≤ r → r < m → p r = false) → mdA p v a m = mdA p v a n
  | 0, h, _ => by have : n = 0 := by omega
                  rw [this]
  | m + 1, h, hq => by
    by_cases e : n = m + 1
    · rw [e]
    · show (if p m then (insA (v m) (mdA p v a m).2 (mdA p v a m).1, (mdA p v a m).2 + 1) else mdA p v a m) = mdA p v a n
      rw [hq m (by omega) (by omega)]
      simp only [Bool.false_eq_true, if_false]
      exact mdA_more (m := m) (by omega) (fun r h1 h2 => hq r h1 (by omega))
def tdC (d : TD) (C : Nat) : TD := (d.1, d.2.1, d.2.2.1, d.2.2.2.1, d.2.2.2.2.1, C, d.2.2.2.2.2.2)
theorem tsh_off {d : TD} (ok : TDok d) (j : Int → Int) (b : Int) {c : Nat} (hc : d.2.2.2.2.2.1 ≤ c) : tsh d j b c = false := decide_eq_false (fun e => by have := tcn_zero ok j (c := c) (by omega); omega)
theorem tnx_C {d : TD} (ok : TDok d) {C : Nat} (hC : d.2.2.2.2.2.1 ≤ C) (j : Int → Int) : tnx (tdC d C) j = tnx d j := by
  unfold tnx
  have : tnn (tdC d C) j = tnn d j := by
    funext b
    unfold tnn
    show (if j b ≠ 0 then 0 else cN (tsh d j b) C) = _
    rw [cN_more hC (fun r h1 h2 => tsh_off ok j b h1)]
  rw [this]; rfl
theorem tmd_C {d : TD} (ok : TDok d) {C : Nat} (hC : d.2.2.2.2.2.1 ≤ C) (j v ln : Int → Int) (b : Int) : tmd (tdC d C) j v ln b = tmd d j v ln b := by
  have : mdA (tsh (tdC d C) j b) (tmv (tdC d C) j v ln b) (fun _ => 0) C = mdA (tsh d j b) (tmv d j v ln b) (fun _ => 0) d.2.2.2.2.2.1 := mdA_more (p := tsh d j b) (v := tmv d j v ln b) hC (fun r h1 h2 => tsh_off ok j b h1)
  show (mdA (tsh (tdC d C) j b) (tmv (tdC d C) j v ln b) (fun _ => 0) C).1 (((mdA (tsh (tdC d C) j b) (tmv (tdC d C) j v ln b) (fun _ => 0) C).2 - 1 : Int).tdiv 2) = _
  rw [this]; rfl
theorem tru_C {d : TD} (ok : TDok d) {C : Nat} (hC : d.2.2.2.2.2.1 ≤ C) : tru (tdC d C) = tru d := by
  have st : ∀ t, tst (tdC d C) t = tst d t := by
    intro t
    unfold tst
    rw [tnx_C ok hC, tmd_C ok hC, tmd_C ok hC]; rfl
  have tt : ∀ (k : Nat) (t : TS), ttr (tdC d C) k t = ttr d k t := by
    intro k
    induction k with
    | zero => intro t; rfl
    | succ k ih =>
      intro t
      unfold ttr
      rw [tnx_C ok hC, st, ih]
  exact tt _ _
theorem ttr_end {d : TD} (ok : TDok d) : ∀ (k : Nat) (t : TS), unj d t.1 ≤ k → tnx d (ttr d k t).1 = -1
  | 0, t, h => by
    refine unj_0 ok ?_
    have := (cN_bd (fun b => decide (t.1 b = 0)) d.2.2.2.2.2.2).1
    unfold unj at h ⊢
    show cN (fun b => decide (t.1 (b : Int) = 0)) d.2.2.2.2.2.2 = 0
    omega
  | k + 1, t, h => by
    unfold ttr
    split
    · assumption
    · rename_i q
      exact ttr_end ok k _ (by have := unj_tst ok q; omega)
theorem tru_end {d : TD} (ok : TDok d) : tnx d (tru d).1 = -1 := ttr_end ok _ _ (unj_tin d)
theorem tnx_closed {d : TD} {j : Int → Int} (h : tnx d j = -1) {b c : Nat} (hb : b < d.2.2.2.2.2.2) (hc : c < d.2.2.2.2.2.1) (h1 : 0 < tcn d j c) (h2 : tfs d c b ≠ -1) : j b ≠ 0 := by
  intro e
  have bd := nbF_bd (tnn d j) d.2.2.2.2.2.2
  have mo := nbF_most (tnn d j) hb
  have z : (nbF (tnn d j) d.2.2.2.2.2.2).2 = 0 := by
    rcases bd.2 with q | q
    · exact q.2
    · have : (nbF (tnn d j) d.2.2.2.2.2.2).1 = -1 := h
      omega
  have e2 : tnn d j b = cN (tsh d j b) d.2.2.2.2.2.1 := if_neg (by simpa using e)
  rw [e2, z] at mo
  have := cN_of (q := tsh d j b) (r := c) hc (decide_eq_true ⟨h1, h2⟩)
  omega
theorem ttr_grow {d : TD} {b : Int} : ∀ (k : Nat) (t : TS), t.1 b ≠ 0 → (ttr d k t).1 b ≠ 0
  | 0, _, h => h
  | k + 1, t, h => by
    unfold ttr
    split
    · exact h
    · refine ttr_grow k _ ?_
      show fu t.1 (tnx d t.1) 1 b ≠ 0
      unfold fu
      split
      · decide
      · exact h
theorem tcn_pos {d : TD} {j : Int → Int} {c : Int} : 0 < tcn d j c ↔ ∃ r : Nat, r < d.2.2.2.2.1 ∧ d.1 r = c ∧ j (d.2.1 r) ≠ 0 := by
  constructor
  · intro h
    obtain ⟨r, h1, h2⟩ := cN_pos h
    exact ⟨r, h1, of_decide_eq_true h2⟩
  · intro ⟨r, h1, h2⟩
    exact cN_of h1 (decide_eq_true h2)
theorem tfs_ne {d : TD} {c b : Int} : tfs d c b ≠ -1 ↔ ∃ r : Nat, r < d.2.2.2.2.1 ∧ d.1 r = c ∧ d.2.1 r = b := by
  constructor
  · intro h
    rcases tfs_bd d c b with e | e
    · exact absurd e h
    · have hr : tfs d c b = ((tfs d c b).toNat : Nat) := by omega
      have := fst1_in (m := tmt d c b) (tfs d c b).toNat hr
      exact ⟨(tfs d c b).toNat, by omega, of_decide_eq_true this⟩
  · intro ⟨r, h1, h2⟩
    exact fst1_of (r := r) (by omega) (by omega) (decide_eq_true h2)
/-- with more readings what was true stays true -/
theorem tru_mono {d d' : TD} (ok : TDok d) (ok' : TDok d') (hR : d.2.2.2.2.1 ≤ d'.2.2.2.2.1) (hB : d'.2.2.2.2.2.2 = d.2.2.2.2.2.2) (hC : d'.2.2.2.2.2.1 = d.2.2.2.2.2.1) (h1 : ∀ r : Nat, r < d.2.2.2.2.1 → d'.1 r = d.1 r ∧ d'.2.1 r = d.2.1 r) {c : Int} (h : 0 < tcn d (tru d).1 c) : 0 < tcn d' (tru d').1 c := by
  have cl := tru_end ok'
  have key : ∀ (k : Nat) (t : TS), (∀ b : Int, 0 ≤ b → b < d.2.2.2.2.2.2 → t.1 b ≠ 0 → (tru d').1 b ≠ 0) → ∀ b : Int, 0 ≤ b → b < d.2.2.2.2.2.2 → (ttr d k t).1 b ≠ 0 → (tru d').1 b ≠ 0 := by
    intro k
    induction k with
    | zero => intro t ht; exact ht
    | succ k ih =>
      intro t ht
      unfold ttr
      split
      · exact ht
      · rename_i q
        refine ih _ ?_
        intro b b0 b1 hb
        by_cases e : b = tnx d t.1
        · rcases tnx_bd ok t.1 with w | w
          · exact absurd w q
          · obtain ⟨c, hc, hs⟩ := cN_pos w.2.2.2
            have hs' := of_decide_eq_true hs
            rw [← e] at hs'
            obtain ⟨r, r1, r2, r3⟩ := tcn_pos.mp hs'.1
            obtain ⟨r', r4, r5, r6⟩ := tfs_ne.mp hs'.2
            have o := ok.2.2.2 r r1
            have hj := ht (d.2.1 r) (by omega) (by omega) r3
            have m1 : 0 < tcn d' (tru d').1 c := tcn_pos.mpr ⟨r, by omega, by rw [(h1 r r1).1]; exact r2, by rw [(h1 r r1).2]; exact hj⟩
            have m2 : tfs d' c b ≠ -1 := tfs_ne.mpr ⟨r', by omega, by rw [(h1 r' r4).1]; exact r5, by rw [(h1 r' r4).2]; exact r6⟩
            have eb : ((b.toNat : Nat) : Int) = b := by omega
            have := tnx_closed cl (b := b.toNat) (c := c) (by omega) (by omega) m1 (by rw [eb]; exact m2)
            rw [eb] at this
            exact this
        · refine ht b b0 b1 ?_
          have : fu t.1 (tnx d t.1) 1 b ≠ 0 := hb
          rw [fu_n _ _ e] at this
          exact this
  obtain ⟨r, r1, r2, r3⟩ := tcn_pos.mp h
  have o := ok.2.2.2 r r1
  have hj := key (d.2.2.2.2.2.2 - 1) (tin d) (fun b b0 b1 hb => by
    have hb' : (if b = 0 ∧ 0 < d.2.2.2.2.2.2 then (1 : Int) else 0) ≠ 0 := hb
    have : b = 0 ∧ 0 < d.2.2.2.2.2.2 := by
      by_cases e : b = 0 ∧ 0 < d.2.2.2.2.2.2
      · exact e
      · rw [if_neg e] at hb'; exact absurd rfl hb'
    refine ttr_grow _ _ ?_
    show (if b = 0 ∧ 0 < d'.2.2.2.2.2.2 then (1 : Int) else 0) ≠ 0
    rw [if_pos ⟨this.1, by omega⟩]; decide) (d.2.1 r) (by omega) (by omega) r3
  exact tcn_pos.mpr ⟨r, by omega, by rw [(h1 r r1).1]; exact r2, by rw [(h1 r r1).2]; exact hj⟩
