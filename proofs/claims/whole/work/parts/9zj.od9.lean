/-! ORDER, CHECK: the reference's shorts -/
section OD9
variable {l : Launch} {D : Nat} {ζ : ZP} {Q : Int → HI → Prop} {A B NT NA NB : Int → Int} {m M nn : Nat} {h : HI}
/-- nears stand -/
def NE (NT NA NB : Int → Int) (nn : Nat) (g : HI) : Prop := g 134 0 = nn ∧ nn ≤ 64 ∧ ∀ j : Nat, j < nn → g 130 j = NT j ∧ g 131 j = NA j ∧ g 132 j = NB j ∧ (0 ≤ NT j ∧ NT j < 12) ∧ nd (NA j) ∧ nd (NB j)
theorem NE.fl {g g' : HI} (a : NE NT NA NB nn g) (f : FL L3 g g') : NE NT NA NB nn g' := by
  unfold NE; rw [f.c 134 (by decide), f.c 130 (by decide), f.c 131 (by decide), f.c 132 (by decide)]; exact a
/-- in bounds -/
def PB (g : HI) : Prop := ∀ x : Int, nd x → (0 ≤ g 135 x ∧ g 135 x < 120) ∧ -120 ≤ g 136 x ∧ g 136 x ≤ 120
def nrs (NT NA NB : Int → Int) (nn : Nat) (p lv : Int → Int) (k : Int) : Prop := ∃ j : Nat, j < nn ∧ NT j = k ∧ p (NA j) = p (NB j) ∧ (1 < lv (NA j) - lv (NB j) ∨ lv (NA j) - lv (NB j) < -1)
theorem s_mnears (hn : 144 ≤ ζ.2.2.2.2) (ne : NE NT NA NB nn h) (pb : PB h) {k : Nat} (hk : k < 12) (h1 : nrs NT NA NB nn (h 135) (h 136) k → Q 1 h) (h0 : ¬ nrs NT NA NB nn (h 135) (h 136) k → Q 0 h) : G l (D + 2) 0 0 mX12_shorts (zz ζ) 68 [aP 97, aU, aI k, aI 0] [] h (qI (zz ζ) Q) := by
  have LP : ∀ (f i : Nat), i + f = nn → (∀ j : Nat, j < i → ¬ (NT j = k ∧ h 135 (NA j) = h 135 (NB j) ∧ (1 < h 136 (NA j) - h 136 (NB j) ∨ h 136 (NA j) - h 136 (NB j) < -1))) → G l (D + 2) 0 0 mX12_shorts (zz ζ) 68 [aP 97, aU, aI k, aI i] [] h (qI (zz ζ) Q) := by
    intro f
    induction f with
    | zero =>
      intro i ei no
      have := ne.2.1
      refine b_X12_shorts_68 hn ⟨by constructor <;> omega, by rw [ne.1]; constructor <;> omega, iteP (by rw [ne.1]; omega) (h0 (fun z => ?_))⟩
      obtain ⟨j, j1, j2⟩ := z
      exact no j (by omega) j2
    | succ f ih =>
      intro i ei no
      have n64 := ne.2.1
      have e := ne.2.2 i (by omega)
      have pA := pb _ e.2.2.2.2.1
      have pB := pb _ e.2.2.2.2.2
      have nxt : ¬ (NT i = k ∧ h 135 (NA i) = h 135 (NB i) ∧ (1 < h 136 (NA i) - h 136 (NB i) ∨ h 136 (NA i) - h 136 (NB i) < -1)) → G l (D + 2) 0 0 mX12_shorts (zz ζ) 68 [aP 97, aU, aI k, aI (i + 1)] [] h (qI (zz ζ) Q) := by
        intro z
        have := ih (i + 1) (by omega) (fun j hj => by
          by_cases y : j = i
          · rw [y]; exact z
          · exact no j (by omega))
        rw [show ((i + 1 : Nat) : Int) = (i : Int) + 1 by omega] at this
        exact this
      refine b_X12_shorts_68 hn ⟨by constructor <;> omega, by rw [ne.1]; constructor <;> omega, iteN (by rw [ne.1]; omega) ⟨by omega, ?_⟩⟩
      rw [e.1, e.2.1, e.2.2.1]
      refine ⟨by have := e.2.2.2.1; constructor <;> omega, by constructor <;> omega, ?_⟩
      by_cases c : NT i = k
      · refine iteN (fun z => z c) ⟨e.2.2.2.2.1, e.2.2.2.2.2, by constructor <;> omega, by constructor <;> omega, ?_⟩
        by_cases c2 : h 135 (NA i) = h 135 (NB i)
        · refine iteN (fun z => z c2) (e_X12_plain hn ⟨by constructor <;> omega, ?_⟩)
          have yes : (1 < h 136 (NA i) - h 136 (NB i) ∨ h 136 (NA i) - h 136 (NB i) < -1) → Q 1 h := fun z => h1 ⟨i, by omega, c, c2, z⟩
          have no' : ¬ (1 < h 136 (NA i) - h 136 (NB i) ∨ h 136 (NA i) - h 136 (NB i) < -1) → G l (D + 2) 0 0 mX12_shorts (zz ζ) 68 [aP 97, aU, aI k, aI (i + 1)] [] h (qI (zz ζ) Q) := fun z => nxt (fun q => z q.2.2)
          exact iteI (fun z => ⟨by constructor <;> omega, iteI (fun z2 => no' (by omega)) (fun z2 => yes (Or.inl (by omega)))⟩) (fun z => ⟨by constructor <;> omega, iteI (fun z2 => no' (by omega)) (fun z2 => yes (Or.inr (by omega)))⟩)
        · exact iteP c2 (nxt (fun z => c2 z.2.1))
      · exact iteP c (nxt (fun z => c z.1))
  exact LP nn 0 (by omega) (fun j hj => by omega)
theorem nrs_congr (nN : ∀ j : Nat, j < nn → nd (NA j) ∧ nd (NB j)) {p lv p' lv' : Int → Int} (a : vds A B m M p lv) (c : vds A B m M p' lv') {k : Int} : nrs NT NA NB nn p lv k → nrs NT NA NB nn p' lv' k := by
  rintro ⟨j, j1, j2, j3, j4⟩
  have u := vds_uniq a c (nN j j1).1 (nN j j1).2
  exact ⟨j, j1, j2, u.1.mp j3, by have := u.2 j3; omega⟩
/-- what the reference's shorts tells of strip k behind the set M -/
def shT (A B NT NA NB : Int → Int) (m nn M k : Nat) (r : Int) : Prop := ∀ p lv, vds A B m M p lv → (p (A k) = p (B k) ∧ lv (A k) ≠ lv (B k) → r = 1) ∧ (¬ (p (A k) = p (B k) ∧ lv (A k) ≠ lv (B k)) → ∀ p' lv', vds A B m (M ||| 2 ^ k) p' lv' → (r = 1 ↔ nrs NT NA NB nn p' lv' k))
theorem s_mshorts (hn : 144 ≤ ζ.2.2.2.2) (hM : M < 4096) (se : SE h A B m h) (ne : NE NT NA NB nn h) {k : Nat} (hk : k < m) (hq : ∀ r g, FL L3 h g → (r = 0 ∨ r = 1) → shT A B NT NA NB m nn M k r → Q r g) : RtI l (D + 3) mX12_shorts (zz ζ) [aP 97, aI M, aI k] h Q := by
  have m12 := se.2.1
  have nAk : ∀ j : Nat, j < m → nd (A j) ∧ nd (B j) := fun j hj => (se.2.2 j hj).2.2
  have nN : ∀ j : Nat, j < nn → nd (NA j) ∧ nd (NB j) := fun j hj => (ne.2.2 j hj).2.2.2.2
  refine e_X12_shorts hn (s_lift (A := A) (B := B) (m := m) hn hM se (fun g f ld => ?_))
  have seg := se.fl f
  have sk := seg.2.2 k hk
  rw [sk.1, sk.2.1]
  have nA := sk.2.2.1
  have nB := sk.2.2.2
  have pA := ld.1 _ nA
  have pB := ld.1 _ nB
  have pw : 2 ^ k < 4096 := by
    have : ∀ w : Nat, w < 12 → 2 ^ w < 4096 := by decide
    exact this k (by omega)
  have M2 : M ||| 2 ^ k < 4096 := Nat.or_lt_two_pow (n := 12) hM pw
  have eM : bor (M : Int) (bshl 1 (k : Int)) = ((M ||| 2 ^ k : Nat) : Int) := by
    rw [bshl_1 k (by omega), bor_nat (by omega) (by omega)]
  refine ⟨by omega, nA, nB, by constructor <;> omega, by constructor <;> omega, ?_⟩
  rw [eM]
  -- no SHORT of its own: the nears
  have near : ¬ (g 135 (A k) = g 135 (B k) ∧ g 136 (A k) ≠ g 136 (B k)) → RtV l (D + 2) mX12_lift (zz ζ) [aP 97, aI ((M ||| 2 ^ k : Nat) : Int)] g (fun h2 => G l (D + 3) 0 0 mX12_shorts (zz ζ) 68 [aP 97, aU, aI k, aI 0] [] h2 (qI (zz ζ) Q)) := by
    intro ns
    have seg' : SE g A B m g := ⟨⟨seg.1.1, FL.refl⟩, seg.2⟩
    refine s_lift (A := A) (B := B) (m := m) hn M2 seg' (fun g2 f2 ld2 => ?_)
    have ne2 := (ne.fl f).fl f2
    have tell : ∀ r : Int, (r = 1 ↔ nrs NT NA NB nn (g2 135) (g2 136) k) → shT A B NT NA NB m nn M k r := by
      intro r hr p lv v
      have u := vds_uniq v (ld.2 p lv v.1) nA nB
      refine ⟨fun s => absurd ⟨u.1.mp s.1, fun z => s.2 (by have := u.2 s.1; omega)⟩ ns, fun _ p' lv' v' => ?_⟩
      have v2 := ld2.2 p' lv' v'.1
      rw [hr]
      exact ⟨nrs_congr nN v2 v', nrs_congr nN v' v2⟩
    refine s_mnears (D := D + 1) hn ne2 ld2.1 (by omega) (fun z => hq 1 g2 (f.trans f2) (Or.inr rfl) (tell 1 ⟨fun _ => z, fun _ => rfl⟩)) (fun z => hq 0 g2 (f.trans f2) (Or.inl rfl) (tell 0 ⟨fun q => by omega, fun q => absurd q z⟩))
  by_cases c : g 135 (A k) = g 135 (B k)
  · refine iteN (fun z => z c) ⟨by constructor <;> omega, by constructor <;> omega, ?_⟩
    by_cases c2 : g 136 (A k) = g 136 (B k)
    · exact iteP c2 (near (fun z => z.2 c2))
    · refine iteN c2 (hq 1 g f (Or.inr rfl) (fun p lv v => ?_))
      have u := vds_uniq v (ld.2 p lv v.1) nA nB
      have e1 := u.1.mpr c
      exact ⟨fun _ => rfl, fun ns => absurd ⟨e1, fun z => c2 (by have := u.2 e1; omega)⟩ ns⟩
  · exact iteP c (near (fun z => c z.1))
end OD9
