/-! HOUSE: the class reads: names, laws, lines -/
section HO3
variable {l : Launch} {D : Nat} {ζ : ZP} {h : HI} {Q : Int → HI → Prop} {QV : HI → Prop} {b : Int → Int} {n nb nx p : Nat} {bn xn : Nat → List Int} {lw : Int → Int} {td : Nat → Bool}
theorem c_isName (hn : 144 ≤ ζ.2.2.2.2) (n540 : n ≤ 540) (hp : p ≤ n) (t : TX (tok b n 500 p) h) (hy : (tok b n 500 p).1 = 2 → wdO (er (tok b n 500 p).2.2.2.2) = -1 → Q 1 h) (hz : ¬ ((tok b n 500 p).1 = 2 ∧ wdO (er (tok b n 500 p).2.2.2.2) = -1) → Q 0 h) : RtI l (D + 1) mX7_isName (zz ζ) [aP 1] h Q := by
  have tk := tok_ok (b := b) (m := 500) n540 (by omega) hp
  have r4 : rg (h 1 4) := by rw [t.1]; have := tk.1.1; constructor <;> omega
  refine e_X7_isName hn ⟨r4, ?_⟩
  rw [t.1]
  by_cases c : (tok b n 500 p).1 = 2
  · have e7 := (t.2.2.2.2.1 c).2
    refine iteN (fun z => z c) ⟨?_, ?_⟩
    · rw [e7]
      rcases wd_bd (er (tok b n 500 p).2.2.2.2) with z | ⟨k, k1, k2⟩
      · rw [z]; decide
      · rw [k2]; constructor <;> omega
    · rw [e7]
      by_cases c2 : wdO (er (tok b n 500 p).2.2.2.2) = -1
      · exact iteN (fun z => z c2) (hy c c2)
      · exact iteP c2 (hz (fun z => c2 z.2))
  · exact iteP c (hz (fun z => c z.1))
theorem c_name2 (zk : ζok ζ) (n540 : n ≤ 540) (ho : HO n (nb, bn, nx, xn, lw, td, p)) (hb : HB nb bn nx xn lw td h) (tp : tpc b n 500 h) (e3 : h 1 3 = p) {w : Bool} (hw : w = true → nx < 8) (hw' : w = false → nb < 6) {x2 : Int} (ex : x2 = if w = true then 1 else 0) (hq : ∀ g, FL LH h g → HQ b n (hName2 b n w (nb, bn, nx, xn, lw, td, p)) Q g) : G l (D + 8) 0 0 mX0_readName (zz ζ) 31 [aP 34, aP 1, aI x2] [] h (qI (zz ζ) Q) := by
  have hn := ζok_n zk
  have tk := tok_ok (b := b) (m := 500) n540 (by omega) ho.1
  refine b_X0_readName_31 hn (c_step zk n540 ho.1 hb tp e3 (fun g f x => ?_))
  obtain ⟨hb, tp, tx⟩ := x
  rw [hName2] at hq
  refine c_isName hn n540 ho.1 tx (fun c1 c2 => ⟨by decide, iteP (by decide) ?_⟩) (fun c => ⟨by decide, iteN (by decide) ?_⟩)
  · rw [if_pos ⟨c1, c2⟩] at hq
    have oL : okW (tok b n 500 p).2.2.2.2 := ⟨(tk.1.2.2.2.2 c1).1.1, (tk.1.2.2.2.2 c1).1.2, (tk.1.2.2.2.2 c1).2⟩
    have e6 := (tx.2.2.2.2.1 c1).1
    rw [e6]
    refine c_isTold hn oL ho hb ?_
    by_cases c3 : (hTold nb bn (tok b n 500 p).2.2.2.2 || hTold nx xn (tok b n 500 p).2.2.2.2) = true
    · rw [if_pos c3] at hq ⊢
      exact ⟨by decide, iteN (by decide) (c_refuse hn ⟨hb, tp, tx⟩ (fun g' f' a1 a2 a3 => ⟨Or.inl rfl, hq g' (f.trans f') a1 a2 a3⟩))⟩
    · rw [if_neg c3] at hq ⊢
      refine ⟨by decide, iteP rfl ?_⟩
      rw [e6, hb.1.1, hb.2.1.1]
      cases w with
      | true =>
        rw [if_pos rfl] at hq ex
        subst ex
        have n8 := hw rfl
        refine ⟨by decide, iteP (by decide) ⟨by omega, ?_⟩⟩
        have F : FL [(36, -1), (34, 4)] g (hu (hu g 36 nx (er (tok b n 500 p).2.2.2.2)) 34 4 (nx + 1)) := (FL.refl.ua (by decide)).u (by decide)
        refine c_step (nb := nb) (bn := bn) (nx := nx + 1) (xn := fuN xn nx (tok b n 500 p).2.2.2.2) (lw := lw) (td := td) zk n540 tk.2.1.2 ⟨?_, ⟨?_, ?_⟩, ?_, ?_⟩ (tp.fl F (by decide)) ?_ (fun g' f' x => hq g' ((f.trans (F.mono (by decide))).trans f') x)
        · rw [F.at 34 3 (by decide), F.c 35 (by decide)]; exact hb.1
        · rw [hu_s]; omega
        · intro k hk
          rw [hu_c _ _ _ (by decide), hu_eq]
          unfold fuN
          by_cases z : k = nx
          · rw [if_pos ⟨rfl, by rw [z]⟩, if_pos z]
          · rw [if_neg (fun q => z (by have := q.2; omega)), if_neg z]; exact hb.2.1.2 k (by omega)
        · rw [F.c 37 (by decide), F.c 1 (by decide)]; exact hb.2.2.1
        · rw [F.at 34 6 (by decide)]; exact hb.2.2.2
        · rw [F.c 1 (by decide)]; exact tx.2.2.1
      | false =>
        rw [if_neg (by decide)] at hq ex
        subst ex
        have n6 := hw' rfl
        refine ⟨by decide, iteN (by decide) ⟨by omega, ?_⟩⟩
        have F : FL [(35, -1), (34, 3)] g (hu (hu g 35 nb (er (tok b n 500 p).2.2.2.2)) 34 3 (nb + 1)) := (FL.refl.ua (by decide)).u (by decide)
        refine c_step (nb := nb + 1) (bn := fuN bn nb (tok b n 500 p).2.2.2.2) (nx := nx) (xn := xn) (lw := lw) (td := td) zk n540 tk.2.1.2 ⟨⟨?_, ?_⟩, ?_, ?_, ?_⟩ (tp.fl F (by decide)) ?_ (fun g' f' x => hq g' ((f.trans (F.mono (by decide))).trans f') x)
        · rw [hu_s]; omega
        · intro k hk
          rw [hu_c _ _ _ (by decide), hu_eq]
          unfold fuN
          by_cases z : k = nb
          · rw [if_pos ⟨rfl, by rw [z]⟩, if_pos z]
          · rw [if_neg (fun q => z (by have := q.2; omega)), if_neg z]; exact hb.1.2 k (by omega)
        · rw [F.at 34 4 (by decide), F.c 36 (by decide)]; exact hb.2.1
        · rw [F.c 37 (by decide), F.c 1 (by decide)]; exact hb.2.2.1
        · rw [F.at 34 6 (by decide)]; exact hb.2.2.2
        · rw [F.c 1 (by decide)]; exact tx.2.2.1
  · rw [if_neg c] at hq
    exact c_refuse hn ⟨hb, tp, tx⟩ (fun g' f' a1 a2 a3 => ⟨Or.inl rfl, hq g' (f.trans f') a1 a2 a3⟩)
theorem c_name (zk : ζok ζ) (n540 : n ≤ 540) (ho : HO n (nb, bn, nx, xn, lw, td, p)) (hx : HX b n (nb, bn, nx, xn, lw, td, p) h) {w : Bool} {x2 : Int} (ex : x2 = if w = true then 1 else 0) (hq : ∀ g, FL LH h g → HQ b n (hName b n w (nb, bn, nx, xn, lw, td, p)) Q g) : RtI l (D + 8) mX0_readName (zz ζ) [aP 34, aP 1, aI x2] h Q := by
  have hn := ζok_n zk
  have tk := tok_ok (b := b) (m := 500) n540 (by omega) ho.1
  have ho' : HO n (nb, bn, nx, xn, lw, td, (tok b n 500 p).2.2.1) := ⟨tk.2.1.2, ho.2⟩
  have n6 := ho.2.1
  have n8 := ho.2.2.1
  refine e_X0_readName hn ?_
  rw [hx.1.1.1, hx.1.2.1.1]
  rw [hName] at hq
  cases w with
  | true =>
    rw [if_pos rfl] at ex
    subst ex
    refine ⟨by decide, iteP (by decide) ⟨by constructor <;> omega, ?_⟩⟩
    by_cases c : 8 ≤ nx
    · rw [if_pos (Or.inl ⟨rfl, c⟩)] at hq
      exact iteN (by omega) (c_refuse hn hx (fun g' f' a1 a2 a3 => ⟨Or.inl rfl, hq g' f' a1 a2 a3⟩))
    · rw [if_neg (by intro z; rcases z with z | z; omega; cases z.1)] at hq
      exact iteP (by omega) (c_name2 zk n540 ho' hx.1 hx.2.1 hx.2.2.2.2.1 (fun _ => by omega) (fun z => by cases z) (by rw [if_pos rfl]) hq)
  | false =>
    rw [if_neg (by decide)] at ex
    subst ex
    refine ⟨by decide, iteN (by decide) ⟨by constructor <;> omega, ?_⟩⟩
    by_cases c : 6 ≤ nb
    · rw [if_pos (Or.inr ⟨rfl, c⟩)] at hq
      exact iteN (by omega) (c_refuse hn hx (fun g' f' a1 a2 a3 => ⟨Or.inl rfl, hq g' f' a1 a2 a3⟩))
    · rw [if_neg (by intro z; rcases z with z | z; cases z.1; omega)] at hq
      exact iteP (by omega) (c_name2 zk n540 ho' hx.1 hx.2.1 hx.2.2.2.2.1 (fun z => by cases z) (fun _ => by omega) (by rw [if_neg (by decide)]) hq)
theorem c_law (zk : ζok ζ) (n540 : n ≤ 540) (ho : HO n (nb, bn, nx, xn, lw, td, p)) (hx : HX b n (nb, bn, nx, xn, lw, td, p) h) {w : Nat} (hw : 2 ≤ w ∧ w ≤ 9) (hq : ∀ g, FL LH h g → HQ b n (hLaw b n w (nb, bn, nx, xn, lw, td, p)) Q g) : RtI l (D + 9) mX0_readLaw (zz ζ) [aP 34, aP 1, aI w] h Q := by
  have hn := ζok_n zk
  have tk := tok_ok (b := b) (m := 500) n540 (by omega) ho.1
  obtain ⟨T, T1, T2, T3⟩ := hx.1.2.2.2
  have ho' : HO n (nb, bn, nx, xn, lw, (fun j => if j = w then true else td j), (tok b n 500 p).2.2.1) := ⟨tk.2.1.2, ho.2⟩
  have b1 : band (bshr (h 34 6) w) 1 = if td w = true then 1 else 0 := by
    rw [T2, tb32 (by omega) (by omega), T3 w hw.1 hw.2]
  have pw : 2 ^ w < 1024 := by
    have : ∀ w : Nat, w ≤ 9 → 2 ^ w < 1024 := by decide
    exact this w hw.2
  have b2 : bor (h 34 6) (bshl 1 w) = ((T ||| 2 ^ w : Nat) : Int) := by
    rw [T2, bshl_1 w (by omega), bor_nat (by omega) (by omega)]
  have b3 : T ||| 2 ^ w < 1024 := Nat.or_lt_two_pow (n := 10) T1 pw
  refine e_X0_readLaw hn ?_
  rw [b1, b2]
  rw [hLaw] at hq
  by_cases c : td w = true
  · rw [if_pos c] at hq ⊢
    exact ⟨by decide, iteN (by decide) (c_refuse hn hx (fun g' f' a1 a2 a3 => ⟨Or.inl rfl, hq g' f' a1 a2 a3⟩))⟩
  · rw [if_neg c] at hq ⊢
    refine ⟨by decide, iteP rfl ?_⟩
    have F : FL [(34, 6)] h (hu h 34 6 ((T ||| 2 ^ w : Nat) : Int)) := FL.refl.u (by decide)
    refine c_step (nb := nb) (bn := bn) (nx := nx) (xn := xn) (lw := lw) (td := fun j => if j = w then true else td j) zk n540 tk.2.1.2 ⟨?_, ?_, ?_, ?_⟩ (hx.2.1.fl F (by decide)) ?_ (fun g f x => ?_)
    · rw [F.at 34 3 (by decide), F.c 35 (by decide)]; exact hx.1.1
    · rw [F.at 34 4 (by decide), F.c 36 (by decide)]; exact hx.1.2.1
    · rw [F.c 37 (by decide), F.c 1 (by decide)]; exact hx.1.2.2.1
    · refine ⟨T ||| 2 ^ w, b3, hu_s _ _ _ _, fun j j1 j2 => ?_⟩
      show _ = if j = w then true else td j
      rw [or_pow_tb, T3 j j1 j2]
      by_cases z : j = w
      · rw [if_pos z, z]; simp
      · rw [if_neg z]
        have : decide (w = j) = false := decide_eq_false (fun q => z q.symm)
        rw [this, Bool.or_false]
    · rw [F.c 1 (by decide)]; exact hx.2.2.2.2.1
    · have F1 := (F.mono (L' := LH) (by decide)).trans f
      refine ⟨by constructor <;> omega, ?_⟩
      rw [hLaw2] at hq
      by_cases c2 : w = 2
      · rw [if_pos c2] at hq
        refine iteN (fun z => z (by rw [c2]; rfl)) ?_
        have k1 := hTake_ok (b := b) (i := 0) n540 ho'
        refine c_value (i := 0) zk n540 ho' x (by omega) (fun g1 f1 => ?_)
        have hq1 := fun g2 (f2 : FL LH g1 g2) => hq g2 ((F1.trans f1).trans f2)
        revert hq1 k1
        show HK n _ (hTake b n (lawv 0 0) (lawv 1 0) 0 _) → (∀ g2, FL LH g1 g2 → HQ b n (bnd (hTake b n (lawv 0 0) (lawv 1 0) 0 _) _) Q g2) → HQ b n (hTake b n (lawv 0 0) (lawv 1 0) 0 _) _ g1
        cases hTake b n (lawv 0 0) (lawv 1 0) 0 (nb, bn, nx, xn, lw, (fun j => if j = w then true else td j), (tok b n 500 p).2.2.1) with
        | inl e => exact fun _ hq1 a1 a2 a3 => ⟨by decide, iteP rfl (hq1 g1 FL.refl a1 a2 a3)⟩
        | inr s =>
          obtain ⟨nb', bn', nx', xn', lw', td', p'⟩ := s
          intro k1 hq1 x1
          refine ⟨by decide, iteN (by decide) (c_value (i := 1) zk n540 k1.1 x1 (by omega) (fun g2 f2 => ?_))⟩
          have hq2 : HQ b n (hTake b n (lawv 0 1) (lawv 1 1) 1 (nb', bn', nx', xn', lw', td', p')) Q g2 := hq1 g2 f2
          revert hq2
          show HQ b n (hTake b n (lawv 0 1) (lawv 1 1) 1 _) Q g2 → HQ b n (hTake b n (lawv 0 1) (lawv 1 1) 1 _) _ g2
          cases hTake b n (lawv 0 1) (lawv 1 1) 1 (nb', bn', nx', xn', lw', td', p') with
          | inl e => exact fun hq2 a1 a2 a3 => ⟨by decide, iteP rfl (hq2 a1 a2 a3)⟩
          | inr s => exact fun hq2 a1 => ⟨by decide, iteN (by decide) (hq2 a1)⟩
      · rw [if_neg c2] at hq
        refine iteP (by omega) ?_
        rw [show ((w : Int) - 2 + 1) = ((w - 1 : Nat) : Int) by omega]
        refine c_value zk n540 ho' x (by omega) (fun g1 f1 => ?_)
        have hq1 := hq g1 (F1.trans f1)
        revert hq1
        cases hTake b n (lawv 0 ((w - 1 : Nat) : Int)) (lawv 1 ((w - 1 : Nat) : Int)) ((w - 1 : Nat) : Int) (nb, bn, nx, xn, lw, (fun j => if j = w then true else td j), (tok b n 500 p).2.2.1) with
        | inl e => exact fun hq2 a1 a2 a3 => ⟨Or.inl rfl, hq2 a1 a2 a3⟩
        | inr s => exact fun hq2 a1 => ⟨Or.inr rfl, hq2 a1⟩
theorem c_sign (zk : ζok ζ) (n540 : n ≤ 540) {s : HS} (ho : HO n s) (hx : HX b n s h) (hq : ∀ g, FL LH h g → HQ b n (hSign b n s) Q g) : RtI l (D + 8) mX7_takeSign (zz ζ) [aP 1, aI 59] h Q := by
  obtain ⟨nb, bn, nx, xn, lw, td, p⟩ := s
  have hn := ζok_n zk
  have tk := tok_ok (b := b) (m := 500) n540 (by omega) ho.1
  have r4 : rg (h 1 4) := by rw [hx.2.2.1]; have := tk.1.1; constructor <;> omega
  refine e_X7_takeSign hn ⟨r4, by decide, ?_⟩
  rw [hx.2.2.1]
  rw [hSign] at hq
  by_cases c : (tok b n 500 p).1 = 59
  · rw [if_pos c] at hq
    exact iteP c (c_step zk n540 tk.2.1.2 hx.1 hx.2.1 hx.2.2.2.2.1 (fun g f x => hq g f x))
  · rw [if_neg c] at hq
    exact iteN c (c_refuse hn hx (fun g' f' a1 a2 a3 => ⟨Or.inl rfl, hq g' f' a1 a2 a3⟩))
theorem c_line (zk : ζok ζ) (n540 : n ≤ 540) {s : HS} (ho : HO n s) (hx : HX b n s h) (hq : ∀ g, FL LH h g → HQ b n (hLine b n s) Q g) : RtI l (D + 10) mX0_readLine (zz ζ) [aP 34, aP 1] h Q := by
  have k1 := hLine1_ok (b := b) n540 (nb := s.1) (bn := s.2.1) (nx := s.2.2.1) (xn := s.2.2.2.1) (lw := s.2.2.2.2.1) (td := s.2.2.2.2.2.1) (p := s.2.2.2.2.2.2) ho
  obtain ⟨nb, bn, nx, xn, lw, td, p⟩ := s
  have hn := ζok_n zk
  have tk := tok_ok (b := b) (m := 500) n540 (by omega) ho.1
  have e7 : h 1 7 = hWord (tok b n 500 p) := by
    unfold hWord
    by_cases c : (tok b n 500 p).1 = 2
    · rw [if_pos c]; exact (hx.2.2.2.2.2.2.1 c).2
    · rw [if_neg c]; exact hx.2.2.2.2.2.2.2 c
  have bw : -1 ≤ hWord (tok b n 500 p) ∧ hWord (tok b n 500 p) < 23 := by
    unfold hWord
    split
    · rcases wd_bd (er (tok b n 500 p).2.2.2.2) with z | ⟨k, k1, k2⟩
      · rw [z]; decide
      · rw [k2]; constructor <;> omega
    · decide
  unfold hLine at hq
  -- after the line, the sign
  have then' : ∀ (r : HR) (g : HI), HK n (p + 1) r → FL LH h g → hLine1 b n (nb, bn, nx, xn, lw, td, p) = r → HQ b n r (fun r2 h2 => (rg r2) ∧ (if r2 = 0 then Q 0 h2 else RtI l (D + 9) mX7_takeSign (zz ζ) [aP 1, aI 59] h2 (fun r3 h3 => (rg r3) ∧ (if r3 = 0 then Q 0 h3 else Q 1 h3)))) g := by
    intro r g kr F er'
    rw [er'] at hq
    cases r with
    | inl e => exact fun a1 a2 a3 => ⟨by decide, iteP rfl (hq g F a1 a2 a3)⟩
    | inr s =>
      intro x
      refine ⟨by decide, iteN (by decide) (c_sign zk n540 kr.1 x (fun g1 f1 => ?_))⟩
      have hq1 : HQ b n (hSign b n s) Q g1 := hq g1 (F.trans f1)
      revert hq1
      cases hSign b n s with
      | inl e => exact fun hq2 a1 a2 a3 => ⟨by decide, iteP rfl (hq2 a1 a2 a3)⟩
      | inr s => exact fun hq2 a1 => ⟨by decide, iteN (by decide) (hq2 a1)⟩
  refine e_X0_readLine hn ?_
  rw [e7]
  refine ⟨by constructor <;> omega, ?_⟩
  by_cases c : 0 ≤ hWord (tok b n 500 p) ∧ hWord (tok b n 500 p) ≤ 9
  · refine iteN (by omega) (iteP c.2 ?_)
    by_cases c0 : hWord (tok b n 500 p) = 0
    · have e : hLine1 b n (nb, bn, nx, xn, lw, td, p) = hName b n false (nb, bn, nx, xn, lw, td, p) := by
        rw [hLine1, if_pos c, if_pos c0]
      rw [c0]
      exact iteN (by decide) (c_name (w := false) zk n540 ho hx rfl (fun g f => then' _ g (e ▸ k1) f e))
    · by_cases c1 : hWord (tok b n 500 p) = 1
      · have e : hLine1 b n (nb, bn, nx, xn, lw, td, p) = hName b n true (nb, bn, nx, xn, lw, td, p) := by
          rw [hLine1, if_pos c, if_neg c0, if_pos c1]
        rw [c1]
        exact iteN (by decide) (c_name (w := true) zk n540 ho hx rfl (fun g f => then' _ g (e ▸ k1) f e))
      · have e : hLine1 b n (nb, bn, nx, xn, lw, td, p) = hLaw b n (hWord (tok b n 500 p)).toNat (nb, bn, nx, xn, lw, td, p) := by
          rw [hLine1, if_pos c, if_neg c0, if_neg c1]
        have L := c_law (l := l) (D := D) (w := (hWord (tok b n 500 p)).toNat) zk n540 ho hx (by omega) (fun g f => then' _ g (e ▸ k1) f e)
        rw [Int.toNat_of_nonneg c.1] at L
        exact iteP (by omega) L
  · have e : hLine1 b n (nb, bn, nx, xn, lw, td, p) = .inl (1, (tok b n 500 p).2.1) := by
      rw [hLine1, if_neg c]
    rw [e] at hq
    by_cases c2 : hWord (tok b n 500 p) < 0
    · exact iteP c2 (c_refuse hn hx (fun g' f' a1 a2 a3 => ⟨Or.inl rfl, hq g' f' a1 a2 a3⟩))
    · exact iteN c2 (iteN (by omega) (c_refuse hn hx (fun g' f' a1 a2 a3 => ⟨Or.inl rfl, hq g' f' a1 a2 a3⟩)))
end HO3
