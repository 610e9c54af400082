/-! held: the reference's side, and the call -/
def bI (b : Bool) : Int := if b then 1 else 0
theorem bI_rg (b : Bool) : rg (bI b) := by cases b <;> decide
def HadX (h : HI) (M : Nat) (p box d : Int) : Prop := (d = -1 → HadE h M p box) ∧ (d ≠ -1 → HadD h M p box d)
def thX (s : Int → Int) (p i d : Int) (m : Nat) : Int := if d = -1 then hiC s p i m else thF s p i d m
section OP16
variable {l : Launch} {D : Nat} {ζ : ZP} {h : HI} {Q : Int → HI → Prop} {QV : HI → Prop} {p box d : Int} {M P : Nat}
theorem s_mheld1 (hn : 144 ≤ ζ.2.2.2.2) (K : hdK h M P) {k : Nat} (hk : k < P) (rd : -1 ≤ d ∧ d ≤ 999) (rb : rg box) {g : HI} {L0 : HI} (f : FL [(97, 0), (125, -1)] L0 g) (e99 : L0 99 = h 99) {b : Nat} (hb : b < 2 ^ k) {hd : Bool} (hhd : hd = true ↔ HadX h M k box d) (nxt : ∀ g', FL [(97, 0), (125, -1)] L0 g' → G l (D + 60) 0 0 mX12_held (zz ζ) 39 [aP 97, aI box, aI d, aI ((if hd then b ||| 2 ^ k else b : Nat) : Int), aI ((k : Int) + 1), aU, aU, aU] [] g' (qI (zz ζ) Q)) : G l (D + 60) 0 0 mX12_held (zz ζ) 39 [aP 97, aI box, aI d, aI b, aI k, aU, aU, aU] [] g (qI (zz ζ) Q) := by
  have KK := K
  obtain ⟨k1, k2, k3, k4, k5, k6, k7, k8, k9, k10, k11, k12⟩ := K
  obtain ⟨q1, q2, q3⟩ := k7 k (by omega) (by omega)
  have b31 : b < 2147483648 := Nat.lt_of_lt_of_le hb (Nat.le_trans (Nat.pow_le_pow_right (by decide) (show k ≤ 31 by omega)) (by decide))
  have p31 : (2 : Nat) ^ k < 2147483648 := Nat.lt_of_le_of_lt (Nat.pow_le_pow_right (by decide) (show k ≤ 10 by omega)) (by decide)
  have G99 : ∀ g', FL [(97, 0), (125, -1)] L0 g' → g' 99 = h 99 := fun g' f' => by rw [f'.c 99 rfl]; exact e99
  obtain ⟨N, hN⟩ : ∃ N : Nat, h 13 k = N := ⟨(h 13 k).toNat, by omega⟩
  have hN2 : h 99 (1677 + 3 * (k : Int) + 2) = N := by rw [← q1.1, hN]
  have frg : ∀ i : Int, 0 ≤ i → i < N → 0 ≤ h 99 (1707 + 40 * (k : Int) + i) ∧ h 99 (1707 + 40 * (k : Int) + i) < h 3 3 := fun i i0 i1 => ⟨((q3 i i0 (by omega)).2 0 (by omega)).1, k12 k i (by omega) (by omega) i0 (by omega) 0 (by omega)⟩
  have txr : ∀ i : Int, 0 ≤ i → i < N → ∀ m : Nat, m ≤ M → 0 ≤ thX (h 99) k i d m ∧ thX (h 99) k i d m < h 3 3 := fun i i0 i1 m hm => by
    unfold thX
    split
    · exact ⟨((q3 i i0 (by omega)).2 m hm).1, k12 k i (by omega) (by omega) i0 (by omega) m hm⟩
    · exact thF_rg KK ⟨by omega, by omega⟩ ⟨i0, by omega⟩ m hm
  have go0 : hd = false → ∀ g', FL [(97, 0), (125, -1)] L0 g' → G l (D + 60) 0 0 mX12_held (zz ζ) 39 [aP 97, aI box, aI d, aI (bor b 0), aI ((k : Int) + 1), aU, aU, aU] [] g' (qI (zz ζ) Q) := by
    intro e g' f'
    have := nxt g' f'
    rw [e] at this
    rw [bor_0 b31]
    exact this
  have go1 : hd = true → ∀ g', FL [(97, 0), (125, -1)] L0 g' → G l (D + 60) 0 0 mX12_held (zz ζ) 39 [aP 97, aI box, aI d, aI (bor b (bshl 1 k)), aI ((k : Int) + 1), aU, aU, aU] [] g' (qI (zz ζ) Q) := by
    intro e g' f'
    have := nxt g' f'
    rw [e] at this
    rw [bshl_1 k (by omega), bor_nat b31 p31]
    exact this
  have hdF : ∀ (P' : Prop), (HadX h M k box d ↔ P') → ¬ P' → hd = false := fun P' e n => by
    cases z : hd with
    | false => rfl
    | true => exact absurd (e.mp (hhd.mp z)) n
  -- behind the mends
  have m289 : ∀ (g' : HI) (ev : Bool), FL [(97, 0), (125, -1)] L0 g' → (∀ j : Int, 0 ≤ j → j < N → g' 125 j = thX (h 99) k j d M) → (d = -1 → (ev = true ↔ HadE h M k box)) → (d ≠ -1 → h 15 k ≤ d) → ∀ (m j : Nat) (is : Bool), j + m = N → (is = true ↔ ∃ t : Int, 0 ≤ t ∧ t < j ∧ h 22 (thX (h 99) k t d M) = box) → G l (D + 60) 0 0 mX12_held (zz ζ) 289 [aP 97, aI box, aI d, aI b, aI k, aI (bI ev), aI (bI is), aI j] [] g' (qI (zz ζ) Q) := by
    intro g' ev f' e125 hev hmd m
    induction m with
    | zero =>
      intro j is hj his
      refine b_X12_held_289 hn ⟨⟨by omega, by omega⟩, by constructor <;> omega, by rw [G99 g' f', hN2]; constructor <;> omega, iteP (by rw [G99 g' f', hN2]; omega) ⟨by constructor <;> omega, iteI (fun y => ⟨bI_rg is, ?_⟩) (fun y => ⟨bI_rg ev, ?_⟩)⟩⟩
      · have e : HadX h M k box d ↔ is = true := by
          rw [his]
          have tx : ∀ t, thX (h 99) k t d M = thF (h 99) k t d M := fun t => if_neg y
          constructor
          · intro w
            obtain ⟨_, t, t0, t1, t2⟩ := w.2 y
            exact ⟨t, t0, by omega, by rw [tx]; exact t2⟩
          · intro ⟨t, t0, t1, t2⟩
            rw [tx] at t2
            exact ⟨fun z => absurd z y, fun _ => ⟨hmd y, t, t0, by omega, t2⟩⟩
        cases z : is with
        | false => exact iteP rfl (go0 (hdF _ e (by rw [z]; decide)) g' f')
        | true => exact iteN (by decide) (go1 (hhd.mpr (e.mpr z)) g' f')
      · have y' : d = -1 := Classical.not_not.mp y
        have e : HadX h M k box d ↔ ev = true := by
          rw [hev y']
          exact ⟨fun w => w.1 y', fun w => ⟨fun _ => w, fun z => absurd y' z⟩⟩
        cases z : ev with
        | false => exact iteP rfl (go0 (hdF _ e (by rw [z]; decide)) g' f')
        | true => exact iteN (by decide) (go1 (hhd.mpr (e.mpr z)) g' f')
    | succ m ih =>
      intro j is hj his
      have tr := txr j (by omega) (by omega) M (Nat.le_refl _)
      have bo := k10 _ tr.1 tr.2
      have nx : ∀ is' : Bool, (is' = true ↔ ∃ t : Int, 0 ≤ t ∧ t < ((j + 1 : Nat) : Int) ∧ h 22 (thX (h 99) k t d M) = box) → G l (D + 60) 0 0 mX12_held (zz ζ) 289 [aP 97, aI box, aI d, aI b, aI k, aI (bI ev), aI (bI is'), aI ((j : Int) + 1)] [] g' (qI (zz ζ) Q) := by
        intro is' hi'
        have := ih (j + 1) is' (by omega) hi'
        rw [show ((j + 1 : Nat) : Int) = (j : Int) + 1 by omega] at this
        exact this
      refine b_X12_held_289 hn ⟨⟨by omega, by omega⟩, by constructor <;> omega, by rw [G99 g' f', hN2]; constructor <;> omega, iteN (by rw [G99 g' f', hN2]; omega) ⟨bI_rg is, ?_⟩⟩
      rw [e125 j (by omega) (by omega), G99 g' f', bo.1]
      cases z : is with
      | true =>
        refine iteP (by decide) (nx true ⟨fun _ => ?_, fun _ => rfl⟩)
        obtain ⟨t, t0, t1, t2⟩ := his.mp z
        exact ⟨t, t0, by omega, t2⟩
      | false =>
        refine iteN (by decide) ⟨⟨by omega, by omega⟩, ⟨by omega, by omega⟩, bo.2, rb, iteI (fun y => nx false ⟨fun q => (by cases q), fun ⟨t, t0, t1, t2⟩ => ?_⟩) (fun y => nx true ⟨fun _ => ⟨j, by omega, by omega, Classical.not_not.mp y⟩, fun _ => rfl⟩)⟩
        by_cases e : t = j
        · rw [e] at t2; exact absurd t2 y
        · have := his.mpr ⟨t, t0, by omega, t2⟩
          rw [z] at this; exact this
  -- the mends
  have m166 : (d ≠ -1 → h 15 k ≤ d) → ∀ (m j : Nat) (g' : HI) (ev : Bool), j + m = M → FL [(97, 0), (125, -1)] L0 g' → (∀ t : Int, 0 ≤ t → t < N → g' 125 t = thX (h 99) k t d j) → (d = -1 → (ev = true ↔ HadE h j k box)) → G l (D + 60) 0 0 mX12_held (zz ζ) 166 [aP 97, aI box, aI d, aI b, aI k, aI (bI ev), aI j, aU] [] g' (qI (zz ζ) Q) := by
    intro hmd m
    induction m with
    | zero =>
      intro j g' ev hj f' e125 hev
      have : j = M := by omega
      subst this
      refine b_X12_held_166 hn ⟨by constructor <;> omega, by rw [G99 g' f', k4]; constructor <;> omega, iteP (by rw [G99 g' f', k4]; omega) ?_⟩
      have := m289 g' ev f' e125 hev hmd N 0 false (by omega) ⟨fun q => (by cases q), fun ⟨t, t0, t1, _⟩ => by omega⟩
      exact this
    | succ m ih =>
      intro j g' ev hj f' e125 hev
      obtain ⟨m1, m2, m3, m4, m5, m6, m7, m8⟩ := k8 j (by omega)
      have e99' := G99 g' f'
      have n1 : h 99 (2507 + 4 * (j : Int)) = h 17 j := m1.symm
      have n2 : h 99 (2507 + 4 * (j : Int) + 1) = h 18 j := m2.symm
      have n3 : h 99 (2507 + 4 * (j : Int) + 3) = h 20 j := m3.symm
      have tstep : ∀ t : Int, thX (h 99) k t d (j + 1) = if (h 17 j = k ∧ h 18 j = t ∧ (d = -1 ∨ h 20 j ≤ d)) then h 99 (2507 + 4 * (j : Int) + 2) else thX (h 99) k t d j := by
        intro t
        unfold thX
        by_cases c : d = -1
        · rw [if_pos c, if_pos c]
          show (if h 99 (2507 + 4 * (j : Int)) = k ∧ h 99 (2507 + 4 * (j : Int) + 1) = t then h 99 (2507 + 4 * (j : Int) + 2) else hiC (h 99) k t j) = _
          rw [n1, n2]
          by_cases w : h 17 j = k ∧ h 18 j = t
          · rw [if_pos w, if_pos ⟨w.1, w.2, Or.inl c⟩]
          · rw [if_neg w, if_neg (fun q => w ⟨q.1, q.2.1⟩)]
        · rw [if_neg c, if_neg c]
          show (if h 99 (2507 + 4 * (j : Int)) = k ∧ h 99 (2507 + 4 * (j : Int) + 1) = t ∧ h 99 (2507 + 4 * (j : Int) + 3) ≤ d then h 99 (2507 + 4 * (j : Int) + 2) else thF (h 99) k t d j) = _
          rw [n1, n2, n3]
          by_cases w : h 17 j = k ∧ h 18 j = t ∧ h 20 j ≤ d
          · rw [if_pos w, if_pos ⟨w.1, w.2.1, Or.inr w.2.2⟩]
          · rw [if_neg w, if_neg (fun q => w ⟨q.1, q.2.1, by rcases q.2.2 with z | z <;> omega⟩)]
      have estep : HadE h (j + 1) k box ↔ HadE h j k box ∨ (h 17 j = k ∧ h 22 (h 99 (2507 + 4 * (j : Int) + 2)) = box) := by
        unfold HadE
        constructor
        · intro q
          rcases q with q | ⟨t, t1, t2, t3⟩
          · exact Or.inl (Or.inl q)
          · by_cases e : t = j
            · subst e; exact Or.inr ⟨by rw [← n1]; exact t2, t3⟩
            · exact Or.inl (Or.inr ⟨t, by omega, t2, t3⟩)
        · intro q
          rcases q with (q | ⟨t, t1, t2, t3⟩) | ⟨q1, q2⟩
          · exact Or.inl q
          · exact Or.inr ⟨t, by omega, t2, t3⟩
          · exact Or.inr ⟨j, by omega, by rw [n1]; exact q1, q2⟩
      have skip : ¬ (h 17 j = k ∧ (d = -1 ∨ h 20 j ≤ d)) → G l (D + 60) 0 0 mX12_held (zz ζ) 166 [aP 97, aI box, aI d, aI b, aI k, aI (bI ev), aI ((j : Int) + 1), aU] [] g' (qI (zz ζ) Q) := by
        intro no
        have kk := ih (j + 1) g' ev (by omega) f' (fun t t0 t1 => by rw [tstep, if_neg (fun q => no ⟨q.1, q.2.2⟩)]; exact e125 t t0 t1) (fun z => by
          rw [hev z, estep]
          exact ⟨Or.inl, fun q => q.elim id (fun w => absurd ⟨w.1, Or.inl z⟩ no)⟩)
        rw [show ((j + 1 : Nat) : Int) = (j : Int) + 1 by omega] at kk
        exact kk
      have doit : h 17 j = k → (d = -1 ∨ h 20 j ≤ d) → G l (D + 60) 0 0 mX12_held (zz ζ) 221 [aP 97, aI box, aI d, aI b, aI k, aI (bI ev), aI j, aI (2507 + 4 * (j : Int))] [] g' (qI (zz ζ) Q) := by
        intro c1 c2
        rw [c1] at m6
        have bo := k10 _ m8.1 m8.2
        refine b_X12_held_221 hn ⟨⟨by omega, by omega⟩, ⟨by omega, by omega⟩, ?_⟩
        rw [e99', n2, bo.1]
        have nx : ∀ ev' : Bool, (d = -1 → (ev' = true ↔ HadE h (j + 1) k box)) → G l (D + 60) 0 0 mX12_held (zz ζ) 166 [aP 97, aI box, aI d, aI b, aI k, aI (bI ev'), aI ((j : Int) + 1), aU] [] (hu g' 125 (h 18 j) (h 99 (2507 + 4 * (j : Int) + 2))) (qI (zz ζ) Q) := by
          intro ev' hev'
          have kk := ih (j + 1) (hu g' 125 (h 18 j) (h 99 (2507 + 4 * (j : Int) + 2))) ev' (by omega) (f'.ua rfl) (fun t t0 t1 => by
            rw [tstep]
            by_cases w : t = h 18 j
            · rw [if_pos ⟨c1, w.symm, c2⟩, w, hu_s]
            · rw [if_neg (fun q => w q.2.1.symm), hu_j _ _ _ w]; exact e125 t t0 t1) hev'
          rw [show ((j + 1 : Nat) : Int) = (j : Int) + 1 by omega] at kk
          exact kk
        refine ⟨⟨by omega, by omega⟩, bI_rg ev, ?_⟩
        cases z : ev with
        | true => exact iteP (by decide) (nx true (fun y => ⟨fun _ => estep.mpr (Or.inl ((hev y).mp z)), fun _ => rfl⟩))
        | false =>
          refine iteN (by decide) ⟨⟨by omega, by omega⟩, bo.2, rb, iteI (fun y => nx false (fun y2 => ⟨fun q => (by cases q), fun q => ?_⟩)) (fun y => nx true (fun y2 => ⟨fun _ => estep.mpr (Or.inr ⟨c1, Classical.not_not.mp y⟩), fun _ => rfl⟩))⟩
          rcases estep.mp q with w | w
          · have := (hev y2).mpr w
            rw [z] at this; exact this
          · exact absurd w.2 y
      refine b_X12_held_166 hn ⟨by constructor <;> omega, by rw [e99', k4]; constructor <;> omega, iteN (by rw [e99', k4]; omega) ⟨⟨by omega, by omega⟩, ?_⟩⟩
      rw [e99', n1, n3]
      exact ⟨by constructor <;> omega, by constructor <;> omega, iteI (fun y => skip (fun q => y q.1)) (fun y => ⟨by constructor <;> omega, iteI (fun y2 => doit (Classical.not_not.mp y) (Or.inl y2)) (fun y2 => ⟨⟨by omega, by omega⟩, by constructor <;> omega, iteI (fun y3 => doit (Classical.not_not.mp y) (Or.inr y3)) (fun y3 => skip (fun q => by rcases q.2 with w | w <;> omega))⟩)⟩)⟩
  -- the first cells
  have m82 : (d ≠ -1 → h 15 k ≤ d) → ∀ (m j : Nat) (g' : HI) (ev : Bool), j + m = N → FL [(97, 0), (125, -1)] L0 g' → (∀ t : Int, 0 ≤ t → t < j → g' 125 t = h 99 (1707 + 40 * (k : Int) + t)) → (ev = true ↔ ∃ t : Int, 0 ≤ t ∧ t < j ∧ h 22 (h 99 (1707 + 40 * (k : Int) + t)) = box) → G l (D + 60) 0 0 mX12_held (zz ζ) 82 [aP 97, aI box, aI d, aI b, aI k, aI (bI ev), aI j, aU] [] g' (qI (zz ζ) Q) := by
    intro hmd m
    induction m with
    | zero =>
      intro j g' ev hj f' e125 hev
      have : j = N := by omega
      subst this
      refine b_X12_held_82 hn ⟨⟨by omega, by omega⟩, by constructor <;> omega, by rw [G99 g' f', hN2]; constructor <;> omega, iteP (by rw [G99 g' f', hN2]; omega) ?_⟩
      refine m166 hmd M 0 g' ev (by omega) f' (fun t t0 t1 => by rw [e125 t t0 t1]; unfold thX; split <;> rfl) (fun _ => ?_)
      rw [hev]
      unfold HadE
      constructor
      · intro ⟨t, t0, t1, t2⟩; exact Or.inl ⟨t, t0, by omega, t2⟩
      · intro q
        rcases q with ⟨t, t0, t1, t2⟩ | ⟨t, t1, _⟩
        · exact ⟨t, t0, by omega, t2⟩
        · omega
    | succ m ih =>
      intro j g' ev hj f' e125 hev
      have fr := frg j (by omega) (by omega)
      have bo := k10 _ fr.1 fr.2
      have e99' := G99 g' f'
      have nx : ∀ ev' : Bool, (ev' = true ↔ ∃ t : Int, 0 ≤ t ∧ t < ((j + 1 : Nat) : Int) ∧ h 22 (h 99 (1707 + 40 * (k : Int) + t)) = box) → G l (D + 60) 0 0 mX12_held (zz ζ) 82 [aP 97, aI box, aI d, aI b, aI k, aI (bI ev'), aI ((j : Int) + 1), aU] [] (hu g' 125 j (h 99 (1707 + 40 * (k : Int) + j))) (qI (zz ζ) Q) := by
        intro ev' hev'
        have kk := ih (j + 1) (hu g' 125 j (h 99 (1707 + 40 * (k : Int) + j))) ev' (by omega) (f'.ua rfl) (fun t t0 t1 => by
          by_cases w : t = j
          · rw [w, hu_s]
          · rw [hu_j _ _ _ w]; exact e125 t t0 (by omega)) hev'
        rw [show ((j + 1 : Nat) : Int) = (j : Int) + 1 by omega] at kk
        exact kk
      refine b_X12_held_82 hn ⟨⟨by omega, by omega⟩, by constructor <;> omega, by rw [e99', hN2]; constructor <;> omega, iteN (by rw [e99', hN2]; omega) ⟨⟨by omega, by omega⟩, ⟨by omega, by omega⟩, bI_rg ev, ?_⟩⟩
      rw [hu_s, e99', bo.1]
      cases z : ev with
      | true =>
        refine iteP (by decide) (nx true ⟨fun _ => ?_, fun _ => rfl⟩)
        obtain ⟨t, t0, t1, t2⟩ := hev.mp z
        exact ⟨t, t0, by omega, t2⟩
      | false =>
        refine iteN (by decide) ⟨⟨by omega, by omega⟩, bo.2, rb, iteI (fun y => nx false ⟨fun q => (by cases q), fun ⟨t, t0, t1, t2⟩ => ?_⟩) (fun y => nx true ⟨fun _ => ⟨j, by omega, by omega, Classical.not_not.mp y⟩, fun _ => rfl⟩)⟩
        by_cases e : t = j
        · rw [e] at t2; exact absurd t2 y
        · have := hev.mpr ⟨t, t0, by omega, t2⟩
          rw [z] at this; exact this
  have start : (d ≠ -1 → h 15 k ≤ d) → G l (D + 60) 0 0 mX12_held (zz ζ) 82 [aP 97, aI box, aI d, aI b, aI k, aI 0, aI 0, aU] [] g (qI (zz ζ) Q) := fun hmd => m82 hmd N 0 g false (by omega) f (fun t t0 t1 => by omega) ⟨fun q => (by cases q), fun ⟨t, t0, t1, _⟩ => by omega⟩
  refine b_X12_held_39 hn ⟨by constructor <;> omega, by rw [G99 g f, k6]; constructor <;> omega, iteN (by rw [G99 g f, k6]; omega) ⟨by constructor <;> omega, iteI (fun y => start (fun z => absurd y z)) (fun y => ⟨⟨by omega, by omega⟩, ?_⟩)⟩⟩
  rw [G99 g f, ← q2.1]
  refine ⟨by constructor <;> omega, iteI (fun y2 => start (fun _ => y2)) (fun y2 => ?_)⟩
  have e : hd = false := by
    cases z : hd with
    | false => rfl
    | true => exact absurd ((hhd.mp z).2 y).1 y2
  have := nxt g f
  rw [e] at this
  exact this
theorem op_held (i : Inv ζ h) (rb : rg box) (rd : rg d) : Op l (D + 60) ζ mX11_held mX12_held [aI box, aI d] h := by
  have hn := ζok_n i.1.1
  have sr : SR (stk 3 h) (h 99) (h 101) := i.1.2 2
  have a1 : h 99 1 = h 4 4 ∧ 0 ≤ h 4 4 ∧ h 4 4 ≤ 8 := ⟨sr.1.2.1.2.2, sr.1.2.1.1, sr.1.2.1.2.1⟩
  have K := hdK_of sr
  have e99 : hu h 97 0 0 99 = h 99 := hu_c _ _ _ (by decide)
  generalize hM : (h 10 7).toNat = M at K
  generalize hP : (h 10 0).toNat = P at K
  obtain ⟨hd, hhd⟩ : ∃ hd : Nat → Bool, ∀ p : Nat, hd p = true ↔ HadX h M p box d := ⟨fun p => @decide (HadX h M p box d) (Classical.propDecidable _), fun p => by simp⟩
  have blt : ∀ k, k ≤ P → bsN hd k < 2147483648 := fun k hk => Nat.lt_of_lt_of_le bsN_lt (Nat.le_trans (Nat.pow_le_pow_right (by decide) (show k ≤ 31 by have := K.2.1; omega)) (by decide))
  have k2 := K.2.1
  have k5 := K.2.2.2.2.1
  have k6 := K.2.2.2.2.2.1
  have mno : ¬ ((0 ≤ box ∧ box ≤ h 4 4 - 1) ∧ (-1 ≤ d ∧ d ≤ 999)) → (h 1000003 = h 1000003 ∧ h 1000004 = h 1000004 ∧ RtI l (D + 60) mX12_held (zz ζ) [aP 97, aI box, aI d] h (fun r2 h2 => rg (-1) ∧ rg r2 ∧ -1 = r2 ∧ h2 1000003 = h 1000003 ∧ h2 1000004 = h 1000004 ∧ Inv ζ h2)) := by
    intro no
    refine ⟨rfl, rfl, e_X12_held hn ?_⟩
    rw [a1.1]
    refine s_isIn hn rb rg_0 (by constructor <;> omega) ?_
    by_cases c1 : 0 ≤ box ∧ box ≤ h 4 4 - 1
    · rw [if_pos c1]
      refine ⟨by decide, iteN (by decide) (s_isIn hn rd (by decide) (by decide) ?_)⟩
      rw [if_neg (fun q => no ⟨c1, q⟩)]
      exact ⟨by decide, iteN (by decide) (op_fin i rfl (by decide) FL.th rfl)⟩
    · rw [if_neg c1]
      exact ⟨by decide, iteP rfl (op_fin i rfl (by decide) FL.th rfl)⟩
  refine e_X11_held hn (s_hasBox hn rb (by constructor <;> omega) ?_)
  by_cases c1 : 0 ≤ box ∧ box ≤ h 4 4 - 1
  rotate_left
  · rw [if_neg c1]
    exact ⟨by decide, iteP rfl (mno (fun q => c1 q.1))⟩
  rw [if_pos c1]
  refine ⟨by decide, iteN (by decide) (s_within hn rd (by decide) (by decide) ?_)⟩
  by_cases c2 : -1 ≤ d ∧ d ≤ 999
  rotate_left
  · rw [if_neg c2]
    exact ⟨by decide, iteN (by decide) (mno (fun q => c2 q.2))⟩
  rw [if_pos c2]
  refine ⟨by decide, iteP (by decide) ?_⟩
  have mside : RtI l (D + 60) mX12_held (zz ζ) [aP 97, aI box, aI d] h (fun r2 h2 => rg (bsN hd P) ∧ rg r2 ∧ (bsN hd P : Int) = r2 ∧ h2 1000003 = h 1000003 ∧ h2 1000004 = h 1000004 ∧ Inv ζ h2) := by
    refine e_X12_held hn ?_
    rw [a1.1]
    refine s_isIn hn rb rg_0 (by constructor <;> omega) ?_
    rw [if_pos c1]
    refine ⟨by decide, iteN (by decide) (s_isIn hn rd (by decide) (by decide) ?_)⟩
    rw [if_pos c2]
    refine ⟨by decide, iteP (by decide) ?_⟩
    have main : ∀ (m k : Nat) (g : HI), k + m = P → FL [(97, 0), (125, -1)] h g → G l (D + 60) 0 0 mX12_held (zz ζ) 39 [aP 97, aI box, aI d, aI (bsN hd k), aI k, aU, aU, aU] [] g (qI (zz ζ) (fun r2 h2 => rg (bsN hd P) ∧ rg r2 ∧ (bsN hd P : Int) = r2 ∧ h2 1000003 = h 1000003 ∧ h2 1000004 = h 1000004 ∧ Inv ζ h2)) := by
      intro m
      induction m with
      | zero =>
        intro k g hk f
        have : k = P := by omega
        subst this
        have g14 : g 99 14 = k := by rw [f.c 99 rfl]; exact k6
        have bl := blt k (Nat.le_refl _)
        exact b_X12_held_39 hn ⟨by constructor <;> omega, by rw [g14]; constructor <;> omega, iteP (by rw [g14]; omega) (op_fin i rfl (by constructor <;> omega) f rfl)⟩
      | succ m ih =>
        intro k g hk f
        refine s_mheld1 hn K (by omega) c2 rb f rfl bsN_lt (hhd k) (fun g' f' => ?_)
        have kk := ih (k + 1) g' (by omega) f'
        rw [show ((k + 1 : Nat) : Int) = (k : Int) + 1 by omega] at kk
        exact kk
    exact main P 0 _ (by omega) (FL.refl.u rfl)
  have xm : ∀ (m k : Nat), k + m = P → G l (D + 60) 0 0 mX11_held (zz ζ) 32 [aP 0, aI box, aI d, aI (bsN hd k), aI k, aU] [] h (qI (zz ζ) (fun r1 h1 => h1 1000003 = h 1000003 ∧ h1 1000004 = h 1000004 ∧ RtI l (D + 60) mX12_held (zz ζ) [aP 97, aI box, aI d] h1 (fun r2 h2 => rg r1 ∧ rg r2 ∧ r1 = r2 ∧ h2 1000003 = h 1000003 ∧ h2 1000004 = h 1000004 ∧ Inv ζ h2))) := by
    intro m
    induction m with
    | zero =>
      intro k hk
      have : k = P := by omega
      subst this
      exact b_X11_held_32 hn ⟨by constructor <;> omega, by rw [k5]; constructor <;> omega, iteP (by rw [k5]; omega) ⟨rfl, rfl, mside⟩⟩
    | succ m ih =>
      intro k hk
      have kk := ih (k + 1) (by omega)
      rw [show ((k + 1 : Nat) : Int) = (k : Int) + 1 by omega, show bsN hd (k + 1) = (if hd k then bsN hd k ||| 2 ^ k else bsN hd k) from rfl] at kk
      have bl := blt k (by omega)
      have p31 : (2 : Nat) ^ k < 2147483648 := Nat.lt_of_le_of_lt (Nat.pow_le_pow_right (by decide) (show k ≤ 10 by omega)) (by decide)
      have go0 : ¬ HadX h M k box d → G l (D + 60) 0 0 mX11_held (zz ζ) 32 [aP 0, aI box, aI d, aI (bor (bsN hd k) 0), aI ((k : Int) + 1), aU] [] h (qI (zz ζ) (fun r1 h1 => h1 1000003 = h 1000003 ∧ h1 1000004 = h 1000004 ∧ RtI l (D + 60) mX12_held (zz ζ) [aP 97, aI box, aI d] h1 (fun r2 h2 => rg r1 ∧ rg r2 ∧ r1 = r2 ∧ h2 1000003 = h 1000003 ∧ h2 1000004 = h 1000004 ∧ Inv ζ h2))) := by
        intro no
        have e : hd k = false := by
          cases z : hd k with
          | false => rfl
          | true => exact absurd ((hhd k).mp z) no
        rw [e] at kk
        rw [bor_0 bl]
        exact kk
      have go1 : HadX h M k box d → G l (D + 60) 0 0 mX11_held (zz ζ) 32 [aP 0, aI box, aI d, aI (bor (bsN hd k) (bshl 1 k)), aI ((k : Int) + 1), aU] [] h (qI (zz ζ) (fun r1 h1 => h1 1000003 = h 1000003 ∧ h1 1000004 = h 1000004 ∧ RtI l (D + 60) mX12_held (zz ζ) [aP 97, aI box, aI d] h1 (fun r2 h2 => rg r1 ∧ rg r2 ∧ r1 = r2 ∧ h2 1000003 = h 1000003 ∧ h2 1000004 = h 1000004 ∧ Inv ζ h2))) := by
        intro yes
        rw [(hhd k).mpr yes] at kk
        rw [bshl_1 k (by omega), bor_nat bl p31]
        exact kk
      refine b_X11_held_32 hn ⟨by constructor <;> omega, by rw [k5]; constructor <;> omega, iteN (by rw [k5]; omega) ⟨rd, iteI (fun y => ?_) (fun y => ?_)⟩⟩
      · refine s_hadOn hn K ⟨by omega, by omega⟩ rd rb (fun q => ⟨by decide, iteN (by decide) (go1 ⟨fun z => absurd z y, fun _ => q⟩)⟩) (fun q => ⟨by decide, iteP rfl (go0 (fun w => q (w.2 y)))⟩)
      · have y' : d = -1 := Classical.not_not.mp y
        refine s_everHad hn K ⟨by omega, by omega⟩ rb (fun q => ⟨by decide, iteN (by decide) (go1 ⟨fun _ => q, fun z => absurd y' z⟩)⟩) (fun q => ⟨by decide, iteP rfl (go0 (fun w => q (w.1 y')))⟩)
  exact xm P 0 (by omega)
end OP16
