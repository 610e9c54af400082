/-! CHECK: class and reference alike -/
section ODD
variable {l : Launch} {D : Nat} {ζ : ZP} {Q : Int → HI → Prop} {h g : HI} {W : Nat}
abbrev gdw (W : Nat) (h : HI) (bt : Nat → Int) (j : Nat) : Prop := gds (h (W + 1)) (h (W + 2)) (h (W + 4)) (h (W + 5)) (h (W + 6)) (h (W + 3)) (h W 0).toNat (h W 4).toNat bt j
def oct (h : HI) : Nat → Int := fun j => band (h 2 j) 255
/-- the sets so far: bounds, how many, and what hangs together -/
theorem Ms_ok {bt : Nat → Int} (b0 : ∀ j, j < 540 → 0 ≤ bt j) (we : weI W h) : ∀ i : Nat, i ≤ 540 → (∀ j, j < i → gdw W h bt j) → Ms bt i < 2 ^ (h W 0).toNat ∧ bts (Ms bt i) (h W 0).toNat = i ∧ ∃ p lv, vdw W h (Ms bt i) p lv
  | 0, _, _ => ⟨Nat.two_pow_pos _, by
      have : ∀ N, bts 0 N = 0 := by
        intro N
        induction N with
        | zero => rfl
        | succ N ih =>
          have u : bts 0 (N + 1) = bts 0 N + (if (0 : Nat).testBit N then 1 else 0) := rfl
          rw [u, ih, Nat.zero_testBit]; rfl
      exact this _, _, _, vds_0⟩
  | i + 1, i5, q => by
    obtain ⟨h1, h2, p, lv, v⟩ := Ms_ok b0 we i (by omega) (fun j hj => q j (by omega))
    have qi := q i (by omega)
    have b := b0 i (by omega)
    have hk : (bt i).toNat < (h W 0).toNat := by have := qi.1; omega
    refine ⟨or_lt h1 hk, ?_, ?_⟩
    · have := bts_add qi.2.1 hk
      show bts (Ms bt i ||| 2 ^ (bt i).toNat) _ = _
      rw [this, h2]; omega
    · have ns : ¬ slf (h (W + 1)) (h (W + 2)) p lv (bt i).toNat := fun s => qi.2.2.2 ((SHs_of (we_A we) (we_N we) hk v).mpr (Or.inl s))
      exact ex_next (we_A we) hk v ns
theorem pw12 {m : Nat} (h : m ≤ 12) : 2 ^ m ≤ 4096 := Nat.pow_le_pow_right (n := 2) (by omega) h
theorem s_goodSteps (hn : 144 ≤ ζ.2.2.2.2) (hW : isW W) (we : weI W h) {n : Nat} (n540 : n ≤ 540) (bb : ∀ j : Nat, j < 540 → -128 ≤ h 2 j ∧ h 2 j ≤ 127) (hq : ∀ g (r : Nat), FL [(94, -1), (95, -1)] h g → r ≤ n → (∀ j, j < r → gdw W h (oct h) j) → (r < n → ¬ gdw W h (oct h) r) → Q r g) : RtI l (D + 5) mX9_goodSteps (zz ζ) [aP 91, aP W, aP 1, aI n] h Q := by
  have m12 := we.1.2.1
  have m0 := we.1.1
  have b0 : ∀ j, j < 540 → 0 ≤ oct h j := fun j hj => (band255 (bb j hj)).1
  have LP : ∀ (f i : Nat) (g : HI), i + f = n → FL [(94, -1), (95, -1)] h g → CSt W h i (Ms (oct h) i) g → (∀ j, j < i → gdw W h (oct h) j) → G l (D + 5) 0 0 mX9_goodSteps (zz ζ) 10 [aP 91, aP W, aP 1, aI n, aI (Ms (oct h) i : Nat), aI i, aU] [] g (qI (zz ζ) Q) := by
    intro f
    induction f with
    | zero =>
      intro i g e f1 cs al
      have : i = n := by omega
      subst this
      exact b_X9_goodSteps_10 hn hW ⟨by constructor <;> omega, by constructor <;> omega, iteP (by omega) (hq g i f1 (by omega) al (fun z => by omega))⟩
    | succ f ih =>
      intro i g e f1 cs al
      obtain ⟨o1, o2, _⟩ := Ms_ok b0 we i (by omega) al
      obtain ⟨weg, gW⟩ := weI_fl hW we f1 (by decide)
      have g0 : g W = h W := gW 0 (by omega)
      have M4 : Ms (oct h) i < 4096 := Nat.lt_of_lt_of_le o1 (pw12 (by omega))
      refine b_X9_goodSteps_10 hn hW ⟨by constructor <;> omega, by constructor <;> omega, iteN (by omega) (s_at hn (by omega) ?_)⟩
      rw [f1.c 2 (by decide), g0, show band (h 2 i) 255 = oct h i from rfl]
      have ob : 0 ≤ oct h i ∧ oct h i ≤ 255 := band255 (bb i (by omega))
      refine ⟨by constructor <;> omega, iteN (by omega) ⟨by constructor <;> omega, ?_⟩⟩
      have stop : ¬ gdw W h (oct h) i → Q i g := fun z => hq g i f1 (by omega) al (fun _ => z)
      by_cases c : h W 0 ≤ oct h i
      · exact iteP c (stop (fun z => by have := z.1; omega))
      · refine iteN c ?_
        obtain ⟨k, ek⟩ := Int.eq_ofNat_of_zero_le ob.1
        have kt : (oct h i).toNat = k := by omega
        have gdi : gdw W h (oct h) i ↔ cnw W h (Ms (oct h) i) k := by
          unfold gdw gds
          rw [kt]
          exact ⟨fun z => z.2, fun z => ⟨by omega, z⟩⟩
        rw [ek]
        refine s_isNext (D := D + 3) hn hW M4 (by omega) (fun c1 c2 => ⟨by decide, iteN (by decide) ?_⟩) (fun z => ⟨by decide, iteP rfl (stop (fun y => z ⟨(gdi.mp y).1, by rw [gW 3 (by omega)]; exact (gdi.mp y).2.1⟩))⟩)
        rw [gW 3 (by omega)] at c2
        have i11 : i ≤ 11 := by
          have := bts_lt c1 (show k < (h W 0).toNat by omega)
          omega
        refine s_cweld (D := D + 1) hn hW we weg gW i11 (by omega) cs (fun g' f2 kp => ⟨fun s => ⟨by decide, iteN (by decide) ?_⟩, fun s cs' => ⟨by decide, iteP (by decide) ?_⟩⟩)
        · exact hq g' i (f1.trans f2) (by omega) al (fun _ y => (gdi.mp y).2.2 s)
        · have eM : bor ((Ms (oct h) i : Nat) : Int) (bshl 1 (k : Int)) = ((Ms (oct h) (i + 1) : Nat) : Int) := by
            have p2 : 2 ^ k < 4096 := Nat.lt_of_lt_of_le (Nat.pow_lt_pow_right (a := 2) (by omega) (show k < 12 by omega)) (by decide)
            rw [bshl_1 k (by omega), bor_nat (by omega) (by omega)]
            show _ = ((Ms (oct h) i ||| 2 ^ (oct h i).toNat : Nat) : Int)
            rw [kt]
          rw [eM, show (i : Int) + 1 = ((i + 1 : Nat) : Int) by omega]
          refine ih (i + 1) g' (by omega) (f1.trans f2) ?_ (fun j hj => ?_)
          · show CSt W h (i + 1) (Ms (oct h) i ||| 2 ^ (oct h i).toNat) g'
            rw [kt]; exact cs'
          · by_cases z : j = i
            · rw [z]; exact gdi.mpr ⟨c1, c2, s⟩
            · exact al j (by omega)
  exact e_X9_goodSteps hn hW (s_begin (D := D + 3) hn (fun g f cs => LP n 0 g (by omega) f (cs W h we) (fun j hj => by omega)))
theorem s_mcheck16 (hn : 144 ≤ ζ.2.2.2.2) (hW : isW W) (we : weI W h) {n : Nat} (n540 : n ≤ 540) (bb : ∀ j : Nat, j < 540 → h 98 j = h 2 j ∧ -128 ≤ h 2 j ∧ h 2 j ≤ 127) (en : h 97 3 = n) (hq : ∀ g (r : Nat), FL L3 h g → r ≤ n → (∀ j, j < r → gdw W h (oct h) j) → (r < n → ¬ gdw W h (oct h) r) → (r < n → Q r g) ∧ (r = n → (Ms (oct h) n = 2 ^ (h W 0).toNat - 1 → Q (-1) g) ∧ (Ms (oct h) n ≠ 2 ^ (h W 0).toNat - 1 → Q n g))) : ∀ (f i : Nat) (g : HI), i + f = n → FL L3 h g → (∀ j, j < i → gdw W h (oct h) j) → G l (D + 5) 0 0 mX12_check (zz ζ) 16 [aP 97, aI (Ms (oct h) i : Nat), aI i, aU] [] g (qI (zz ζ) Q) := by
  have m12 := we.1.2.1
  have m0 := we.1.1
  have b0 : ∀ j, j < 540 → 0 ≤ oct h j := fun j hj => (band255 (bb j hj).2).1
  intro f
  induction f with
  | zero =>
    intro i g e f1 al
    have : i = n := by omega
    subst this
    obtain ⟨o1, o2, _⟩ := Ms_ok b0 we i (by omega) al
    obtain ⟨weg, gW⟩ := weI_fl hW we f1 (by decide)
    have g0 : g W = h W := gW 0 (by omega)
    have M4 : Ms (oct h) i < 4096 := Nat.lt_of_lt_of_le o1 (pw12 (by omega))
    have e3 : g 97 3 = i := by rw [f1.c 97 (by decide)]; exact en
    have e133 : g 133 0 = ((h W 0).toNat : Nat) := by have := weg.1.2.2; rw [this, g0]; omega
    have p1 := pw12 (show (h W 0).toNat ≤ 12 by omega)
    have p2 : 0 < 2 ^ (h W 0).toNat := Nat.two_pow_pos _
    have q := (hq g i f1 (by omega) al (fun z => by omega)).2 rfl
    refine b_X12_check_16 hn ?_
    rw [e3, e133, bshl_1 _ (by omega)]
    refine ⟨by constructor <;> omega, by constructor <;> omega, iteP (by omega) ⟨by constructor <;> omega, by constructor <;> omega, ?_⟩⟩
    by_cases c : Ms (oct h) i = 2 ^ (h W 0).toNat - 1
    · exact iteN (fun z => z (by omega)) (q.1 c)
    · exact iteP (fun z => c (by omega)) (q.2 c)
  | succ f ih =>
    intro i g e f1 al
    obtain ⟨o1, o2, p, lv, v⟩ := Ms_ok b0 we i (by omega) al
    obtain ⟨weg, gW⟩ := weI_fl hW we f1 (by decide)
    have g0 : g W = h W := gW 0 (by omega)
    have M4 : Ms (oct h) i < 4096 := Nat.lt_of_lt_of_le o1 (pw12 (by omega))
    have e3 : g 97 3 = n := by rw [f1.c 97 (by decide)]; exact en
    have e133 : g 133 0 = h W 0 := by have := weg.1.2.2; rw [this, g0]
    have ob : 0 ≤ oct h i ∧ oct h i ≤ 255 := band255 (bb i (by omega)).2
    refine b_X12_check_16 hn ⟨by constructor <;> omega, by rw [e3]; constructor <;> omega, iteN (by rw [e3]; omega) (e_X12_octet hn ⟨by omega, ?_⟩)⟩
    rw [f1.c 98 (by decide), (bb i (by omega)).1, show band (h 2 i) 255 = oct h i from rfl, e133]
    refine ⟨by constructor <;> omega, by constructor <;> omega, ?_⟩
    have stop : ∀ g', FL L3 h g' → ¬ gdw W h (oct h) i → Q i g' := fun g' f' z => (hq g' i f' (by omega) al (fun _ => z)).1 (by omega)
    by_cases c : h W 0 ≤ oct h i
    · exact iteP c (stop g f1 (fun z => by have := z.1; omega))
    · refine iteN c ?_
      obtain ⟨k, ek⟩ := Int.eq_ofNat_of_zero_le ob.1
      have kt : (oct h i).toNat = k := by omega
      have gdi : gdw W h (oct h) i ↔ cnw W h (Ms (oct h) i) k := by
        unfold gdw gds
        rw [kt]
        exact ⟨fun z => z.2, fun z => ⟨by omega, z⟩⟩
      rw [ek]
      refine s_mcanNext hn hW we weg gW M4 (by omega) (fun r g' f2 r01 iff _ => ?_)
      have iff' := iff p lv v
      rcases r01 with z | z <;> subst z
      · exact ⟨by decide, iteN (by decide) (stop g' (f1.trans f2) (fun y => by have := iff'.mpr (gdi.mp y); omega))⟩
      · refine ⟨by decide, iteP (by decide) ?_⟩
        have eM : bor ((Ms (oct h) i : Nat) : Int) (bshl 1 (k : Int)) = ((Ms (oct h) (i + 1) : Nat) : Int) := by
          have p2 : 2 ^ k < 4096 := Nat.lt_of_lt_of_le (Nat.pow_lt_pow_right (a := 2) (by omega) (show k < 12 by omega)) (by decide)
          rw [bshl_1 k (by omega), bor_nat (by omega) (by omega)]
          show _ = ((Ms (oct h) i ||| 2 ^ (oct h i).toNat : Nat) : Int)
          rw [kt]
        rw [eM, show (i : Int) + 1 = ((i + 1 : Nat) : Int) by omega]
        refine ih (i + 1) g' (by omega) (f1.trans f2) (fun j hj => ?_)
        by_cases z : j = i
        · rw [z]; exact gdi.mpr (iff'.mp rfl)
        · exact al j (by omega)
theorem op_check (i : Inv ζ h) : Op l (D + 60) ζ mX11_check mX12_check [] h := by
  have zk := i.1.1
  have hn := ζok_n zk
  have hW := ζok_W zk
  have tp : tpI h := i.1.2 0
  have we : weI ζ.1 h := i.1.2 8
  obtain ⟨n, en⟩ := Int.eq_ofNat_of_zero_le tp.1
  have n540 : n ≤ 540 := by have := tp.2.1; omega
  have m12 := we.1.2.1
  have m0 := we.1.1
  have F1 : FL [(1, 1)] h (hu h 1 1 0) := FL.refl.u rfl
  obtain ⟨we1, W1⟩ := weI_fl hW we F1 (by decide)
  refine e_X11_check hn hW ?_
  rw [en]
  refine s_goodSteps (D := D + 54) hn hW we1 n540 (fun j hj => by rw [F1.c 2 (by decide)]; exact (tp.2.2.2 j (by omega) (by omega)).2) (fun g r f rn al no => ?_)
  have Fg : FL [(1, 1), (94, -1), (95, -1)] h g := (F1.mono (by decide)).trans (f.mono (by decide))
  obtain ⟨weg, gW⟩ := weI_fl hW we Fg (by decide)
  have g0 : g ζ.1 = h ζ.1 := gW 0 (by omega)
  have fin : ∀ r1 : Int, rg r1 → (∀ g3 r2, FL [(97, 0), (97, 2), (97, 3), (97, 4), (97, 5), (135, -1), (136, -1), (137, -1)] g g3 → g3 97 2 = 0 → (r1 = r2 → rg r1 ∧ rg r2 ∧ r1 = r2 ∧ g3 1000003 = h 1000003 ∧ g3 1000004 = h 1000004 ∧ Inv ζ g3)) := by
    intro r1 hr g3 r2 f3 z3 e
    have F3 : FL [(1, 1), (94, -1), (95, -1), (97, 0), (97, 2), (97, 3), (97, 4), (97, 5), (135, -1), (136, -1), (137, -1)] h g3 := (Fg.mono (by decide)).trans (f3.mono (by decide))
    refine op_fin1 i e hr F3 [0] (by decide +kernel) ?_
    intro m hm
    rw [List.mem_singleton] at hm
    subst hm
    show tpI g3
    have c1 : g3 1 1 = 0 := by rw [f3.c 1 (by decide), f.c 1 (by decide), hu_s]
    refine ⟨by rw [c1]; decide, by rw [c1]; decide, by rw [c1]; exact z3, ?_⟩
    rw [F3.c 98 (by decide), F3.c 2 (by decide)]; exact tp.2.2.2
  have eo : oct (hu h 1 1 0) = oct h := by funext j; unfold oct; rw [F1.c 2 (by decide)]
  have egd : ∀ (g' : HI), (∀ c, c ≤ 7 → g' (ζ.1 + c) = h (ζ.1 + c)) → ∀ j, gdw ζ.1 g' (oct h) j ↔ gdw ζ.1 h (oct h) j := by
    intro g' w j
    have w0 : g' ζ.1 = h ζ.1 := w 0 (by omega)
    unfold gdw
    rw [w 1 (by omega), w 2 (by omega), w 3 (by omega), w 4 (by omega), w 5 (by omega), w 6 (by omega), w0]
  have al' : ∀ j, j < r → gdw ζ.1 h (oct h) j := fun j hj => by have := al j hj; rw [eo] at this; exact (egd _ W1 j).mp this
  have no' : r < n → ¬ gdw ζ.1 h (oct h) r := fun z y => no z (by rw [eo]; exact (egd _ W1 r).mpr y)
  have b0 : ∀ j, j < 540 → 0 ≤ oct h j := fun j hj => (band255 (tp.2.2.2 j (by omega) (by omega)).2).1
  obtain ⟨o1, o2, _⟩ := Ms_ok b0 we r (by omega) al'
  -- the reference
  have ref : ∀ r1 : Int, rg r1 → (r1 = if r = n ∧ Ms (oct h) n = 2 ^ (h ζ.1 0).toNat - 1 then -1 else (r : Int)) → g 1000003 = h 1000003 ∧ g 1000004 = h 1000004 ∧ RtI l (D + 60) mX12_check (zz ζ) [aP 97] g (fun r2 h2 => rg r1 ∧ rg r2 ∧ r1 = r2 ∧ h2 1000003 = h 1000003 ∧ h2 1000004 = h 1000004 ∧ Inv ζ h2) := by
    intro r1 hr e1
    refine ⟨Fg.c _ (by decide), Fg.c _ (by decide), e_X12_check hn (s_taken (D := D + 58) hn (fun g2 f2 a1 a2 a3 a4 => ?_))⟩
    have f2' : FL [(97, 0), (97, 2), (97, 3), (97, 4), (97, 5)] g g2 := ((FL.refl (h := g)).u (k := 97) (j := 0) (v := 0) (by decide)).trans (f2.mono (by decide))
    have Fg2 : FL [(1, 1), (94, -1), (95, -1), (97, 0), (97, 2), (97, 3), (97, 4), (97, 5)] h g2 := (Fg.mono (by decide)).trans (f2'.mono (by decide))
    obtain ⟨we2, W2⟩ := weI_fl hW we Fg2 (by decide)
    have e2 : g2 ζ.1 = h ζ.1 := W2 0 (by omega)
    have eo2 : oct g2 = oct h := by funext j; unfold oct; rw [Fg2.c 2 (by decide)]
    have := s_mcheck16 (l := l) (D := D + 55) (Q := fun r2 h2 => rg r1 ∧ rg r2 ∧ r1 = r2 ∧ h2 1000003 = h 1000003 ∧ h2 1000004 = h 1000004 ∧ Inv ζ h2) hn hW we2 n540 (fun j hj => by rw [Fg2.c 98 (by decide), Fg2.c 2 (by decide)]; exact tp.2.2.2 j (by omega) (by omega)) (by rw [a1, hu_j _ _ _ (by decide), Fg.at 97 2 (by decide), tp.2.2.1, en]) (fun g3 r3 f3 rn3 al3 no3 => ?_) n 0 g2 (by omega) FL.refl (fun j hj => by omega)
    · rw [eo2] at this
      exact this
    · rw [eo2, e2]
      rw [eo2] at al3 no3
      have f23 : FL [(97, 0), (97, 2), (97, 3), (97, 4), (97, 5), (135, -1), (136, -1), (137, -1)] g g3 := (f2'.mono (by decide)).trans (f3.mono (by decide))
      have z3 : g3 97 2 = 0 := by rw [f3.c 97 (by decide)]; exact a2
      have er : r3 = r := by
        apply Nat.le_antisymm
        · apply Nat.le_of_not_lt
          intro z
          exact no' (by omega) ((egd _ W2 r).mp (al3 r z))
        · apply Nat.le_of_not_lt
          intro z
          exact no3 (by omega) ((egd _ W2 r3).mpr (al' r3 z))
      subst er
      refine ⟨fun z => fin r1 hr g3 _ f23 z3 (by rw [e1, if_neg (fun q => by omega)]), fun z => ⟨fun y => fin r1 hr g3 _ f23 z3 (by rw [e1, if_pos ⟨z, y⟩]), fun y => fin r1 hr g3 _ f23 z3 (by rw [e1, if_neg (fun q => y q.2), z])⟩⟩
  refine ⟨by constructor <;> omega, by constructor <;> omega, ?_⟩
  rw [g0]
  by_cases c : (r : Int) = n
  · have rn' : r = n := by omega
    refine iteN (fun z => z c) ⟨by constructor <;> omega, ?_⟩
    have fi := full_iff o1
    by_cases d : (r : Int) = h ζ.1 0
    · refine iteN (fun z => z d) (ref (-1) (by decide) ?_)
      rw [if_pos ⟨rn', by rw [← rn']; exact fi.mpr (by rw [o2, d]; omega)⟩]
    · refine iteP d (ref r (by constructor <;> omega) ?_)
      rw [if_neg (fun q => d (by have := fi.mp (by rw [rn']; exact q.2); omega))]
  · refine iteP c (ref r (by constructor <;> omega) ?_)
    rw [if_neg (fun q => c (by omega))]
end ODD
