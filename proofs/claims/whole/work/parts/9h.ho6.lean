/-! HOUSE: lines, all of them, both -/
section HO6
variable {l : Launch} {D : Nat} {ζ : ZP} {h : HI} {Q : Int → HI → Prop} {QV : HI → Prop} {b : Int → Int} {n nb nx p : Nat} {bn xn : Nat → List Int} {lw : Int → Int} {td : Nat → Bool}
theorem m_sign (hn : 144 ≤ ζ.2.2.2.2) (n540 : n ≤ 540) {s : HS} (ho : HO n s) (hx : HM b n s h) (hq : ∀ g, FL LG h g → MHQ b n (hSign b n s) Q g) : RtI l (D + 3) mX12_sign (zz ζ) [aP 97, aI 59] h Q := by
  obtain ⟨nb, bn, nx, xn, lw, td, p⟩ := s
  have tk := tok_ok (b := b) (m := 500) n540 (by omega) ho.1
  rw [hSign] at hq
  have no : (tok b n 500 p).1 ≠ 59 → (rg 0) ∧ (if ¬ (0 : Int) = 0 then RtV l (D + 2) mX12_next (zz ζ) [aP 97] h (fun h2 => Q 1 h2) else RtI l (D + 2) mX12_bad (zz ζ) [aP 97, aI 1] h (fun r3 h3 => (r3 = 0 ∨ r3 = 1) ∧ Q r3 h3)) := by
    intro c
    rw [if_neg c] at hq
    exact ⟨by decide, iteN (by decide) (m_bad hn hx (fun g f a1 a2 a3 a4 => ⟨Or.inl rfl, hq g f a1 a2 a3 a4⟩))⟩
  refine e_X12_sign hn (e_X12_isSign hn ⟨by rw [hx.2.2.1]; exact mkK_rg _, ?_⟩)
  rw [hx.2.2.1]
  by_cases c : isSg (tok b n 500 p).1
  · have e13 := hx.2.2.2.2.2.2.2 c
    refine iteN (fun z => z ((mkK_3 tk.1).mpr c)) ⟨by rw [e13]; constructor <;> omega, by decide, ?_⟩
    rw [e13]
    by_cases c2 : (tok b n 500 p).1 = 59
    · rw [if_pos c2] at hq
      exact iteN (fun z => z c2) ⟨by decide, iteP (by decide) (m_step hn n540 tk.2.1.2 hx.1 hx.2.1 hx.2.2.2.2.1 (fun g f x => hq g (f.mono LN_LG) x))⟩
    · exact iteP c2 (no c2)
  · exact iteP (fun z => c ((mkK_3 tk.1).mp z)) (no (fun z => c (by omega)))
theorem m_line (hn : 144 ≤ ζ.2.2.2.2) (n540 : n ≤ 540) {s : HS} (ho : HO n s) (hx : HM b n s h) (hq : ∀ g, FL LG h g → MHQ b n (hLine1 b n s) Q g) : RtI l (D + 5) mX12_line (zz ζ) [aP 97] h Q := by
  obtain ⟨nb, bn, nx, xn, lw, td, p⟩ := s
  rw [hLine1] at hq
  have law : ∀ {w : Nat} {x1 lo hi : Int}, 2 ≤ w ∧ w ≤ 9 → hWord (tok b n 500 p) = w → x1 = wh w → lo = lawv 0 (ix w) → hi = lawv 1 (ix w) → RtI l (D + 4) mX12_told (zz ζ) [aP 97, aI x1, aI lo, aI hi] h (fun r h1 => (r = 0 ∨ r = 1) ∧ Q r h1) := by
    intro w x1 lo hi hw e e1 e2 e3
    rw [e, if_pos (by omega), if_neg (by omega), if_neg (by omega), Int.toNat_natCast] at hq
    refine m_law hn n540 ho hx hw e1 e2 e3 (fun g f => ?_)
    have q := hq g f
    revert q
    cases hLaw b n w (nb, bn, nx, xn, lw, td, p) with
    | inl e => exact fun q a1 a2 a3 a4 => ⟨Or.inl rfl, q a1 a2 a3 a4⟩
    | inr s => exact fun q a1 => ⟨Or.inr rfl, q a1⟩
  have nam : ∀ {w : Bool} {x1 x2 x3 : Int}, hWord (tok b n 500 p) = (if w = true then 1 else 0) → (x1, x2, x3) = (if w = true then ((1, 8, 6) : Int × Int × Int) else (0, 6, 0)) → RtI l (D + 4) mX12_named (zz ζ) [aP 97, aI x1, aI x2, aI x3] h (fun r h1 => (r = 0 ∨ r = 1) ∧ Q r h1) := by
    intro w x1 x2 x3 e ex
    have hq' : ∀ g, FL LG h g → MHQ b n (hName b n w (nb, bn, nx, xn, lw, td, p)) Q g := by
      cases w with
      | true => rw [if_pos rfl] at e; rw [e, if_pos (by decide), if_neg (by decide), if_pos rfl] at hq; exact hq
      | false => rw [if_neg (by decide)] at e; rw [e, if_pos (by decide), if_pos rfl] at hq; exact hq
    refine m_name hn n540 ho hx ex (fun g f => ?_)
    have q := hq' g f
    revert q
    cases hName b n w (nb, bn, nx, xn, lw, td, p) with
    | inl e => exact fun q a1 a2 a3 a4 => ⟨Or.inl rfl, q a1 a2 a3 a4⟩
    | inr s => exact fun q a1 => ⟨Or.inr rfl, q a1⟩
  have tm := hx.2.2
  refine e_X12_line hn ?_
  refine m_isWord (k := 0) hn n540 ho.1 tm (by decide) rfl (fun c => ⟨by decide, iteN (by decide) (nam (w := false) c rfl)⟩) (fun n0 => ⟨by decide, iteP rfl ?_⟩)
  refine m_isWord (k := 1) hn n540 ho.1 tm (by decide) rfl (fun c => ⟨by decide, iteN (by decide) (nam (w := true) c rfl)⟩) (fun n1 => ⟨by decide, iteP rfl ?_⟩)
  refine m_isWord (k := 2) hn n540 ho.1 tm (by decide) rfl (fun c => ⟨by decide, iteN (by decide) (law (by decide) c rfl rfl rfl)⟩) (fun n2 => ⟨by decide, iteP rfl ?_⟩)
  refine m_isWord (k := 3) hn n540 ho.1 tm (by decide) rfl (fun c => ⟨by decide, iteN (by decide) (law (by decide) c rfl rfl rfl)⟩) (fun n3 => ⟨by decide, iteP rfl ?_⟩)
  refine m_isWord (k := 4) hn n540 ho.1 tm (by decide) rfl (fun c => ⟨by decide, iteN (by decide) (law (by decide) c rfl rfl rfl)⟩) (fun n4 => ⟨by decide, iteP rfl ?_⟩)
  refine m_isWord (k := 5) hn n540 ho.1 tm (by decide) rfl (fun c => ⟨by decide, iteN (by decide) (law (by decide) c rfl rfl rfl)⟩) (fun n5 => ⟨by decide, iteP rfl ?_⟩)
  refine m_isWord (k := 6) hn n540 ho.1 tm (by decide) rfl (fun c => ⟨by decide, iteN (by decide) (law (by decide) c rfl rfl rfl)⟩) (fun n6 => ⟨by decide, iteP rfl ?_⟩)
  refine m_isWord (k := 7) hn n540 ho.1 tm (by decide) rfl (fun c => ⟨by decide, iteN (by decide) (law (by decide) c rfl rfl rfl)⟩) (fun n7 => ⟨by decide, iteP rfl ?_⟩)
  refine m_isWord (k := 8) hn n540 ho.1 tm (by decide) rfl (fun c => ⟨by decide, iteN (by decide) (law (by decide) c rfl rfl rfl)⟩) (fun n8 => ⟨by decide, iteP rfl ?_⟩)
  refine m_isWord (k := 9) hn n540 ho.1 tm (by decide) rfl (fun c => ⟨by decide, iteN (by decide) (law (by decide) c rfl rfl rfl)⟩) (fun n9 => ⟨by decide, iteP rfl ?_⟩)
  rw [if_neg (by omega)] at hq
  exact m_bad hn hx (fun g f a1 a2 a3 a4 => ⟨Or.inl rfl, hq g f a1 a2 a3 a4⟩)
def LHa : List (Nat × Int) := (34, 5) :: (1, 2) :: LH
def LGa : List (Nat × Int) := (97, 18) :: (97, 0) :: (97, 2) :: (97, 3) :: (97, 5) :: LG
theorem LH_a : LH.all (fun q => inL LHa q.1 q.2) = true := by decide
def LGb : List (Nat × Int) := (97, 18) :: LG
theorem LG_b : LG.all (fun q => inL LGb q.1 q.2) = true := by decide
theorem LG_a : LG.all (fun q => inL LGa q.1 q.2) = true := by decide
/-- of the whole: kinds and places; or lines and the state -/
theorem hAll_ok (n540 : n ≤ 540) : ∀ {f k : Nat} {s : HS}, HO n s → n + 1 ≤ s.2.2.2.2.2.2 + 2 * f → match hAll b n f k s with
    | .inl e => (1 ≤ e.1 ∧ e.1 ≤ 4) ∧ 0 ≤ e.2 ∧ e.2 ≤ 540
    | .inr q => HO n q.2 ∧ q.1 ≤ k + f
  | 0, k, s, ho, hf => by
    obtain ⟨nb, bn, nx, xn, lw, td, p⟩ := s
    have := ho.1
    have : n + 1 ≤ p + 2 * 0 := hf
    omega
  | f + 1, k, s, ho, hf => by
    rw [hAll]
    by_cases c : (tok b n 500 s.2.2.2.2.2.2).1 = 0
    · rw [if_pos c]; exact ⟨ho, by show k ≤ _; omega⟩
    · rw [if_neg c]
      have k1 := hLine_ok (b := b) n540 ho
      cases e : hLine b n s with
      | inl e' => rw [e] at k1; exact k1
      | inr s' =>
        rw [e] at k1
        have ih := hAll_ok n540 (f := f) (k := k + 1) (s := s') k1.1 (by have := k1.2; omega)
        show match hAll b n f (k + 1) s' with | .inl e => _ | .inr q => _
        revert ih
        cases hAll b n f (k + 1) s' with
        | inl e => exact id
        | inr q => exact fun ih => ⟨ih.1, by have := ih.2; omega⟩
theorem c_all (zk : ζok ζ) (n540 : n ≤ 540) : ∀ {f k : Nat} {s : HS} {g : HI}, HO n s → n + 1 ≤ s.2.2.2.2.2.2 + 2 * f → f ≤ 540 → HX b n s g → g 34 5 = k → (∀ g', FL LHa g g' → match hAll b n f k s with
    | .inl e => g' 1 8 = e.1 → g' 1 9 = e.2 → Q 0 g'
    | .inr q => HX b n q.2 g' → g' 34 5 = q.1 → Q 1 g') → G l (D + 11) 0 0 mX0_readFrom (zz ζ) 45 [aP 34, aP 1, aI f] [] g (qI (zz ζ) Q)
  | 0, k, s, g, ho, hf, _, _, _, _ => by
    obtain ⟨nb, bn, nx, xn, lw, td, p⟩ := s
    have := ho.1
    have : n + 1 ≤ p + 2 * 0 := hf
    omega
  | f + 1, k, s, g, ho, hf, f540, hx, e5, hq => by
    have hn := ζok_n zk
    have tk := tok_ok (b := b) (m := 500) (p := s.2.2.2.2.2.2) n540 (by omega) ho.1
    have t4 : g 1 4 = (tok b n 500 s.2.2.2.2.2.2).1 := hx.2.2.1
    refine b_X0_readFrom_45 hn ⟨by constructor <;> omega, iteN (by omega) ⟨by rw [t4]; have := tk.1.1; constructor <;> omega, ?_⟩⟩
    rw [t4]
    rw [hAll] at hq
    by_cases c : (tok b n 500 s.2.2.2.2.2.2).1 = 0
    · rw [if_pos c] at hq
      exact iteP c (hq g FL.refl hx e5)
    · rw [if_neg c] at hq
      have k1 := hLine_ok (b := b) n540 ho
      refine iteN c (c_line zk n540 ho hx (fun g1 f1 => ?_))
      cases e : hLine b n s with
      | inl e' =>
        rw [e] at hq
        exact fun a1 a2 a3 => ⟨by decide, iteN (by decide) (hq g1 (f1.mono LH_a) a1 a2)⟩
      | inr s' =>
        rw [e] at k1 hq
        intro x1
        refine ⟨by decide, iteP (by decide) ?_⟩
        rw [show ((f + 1 : Nat) : Int) + (-1) = (f : Int) by omega]
        have F : FL [(34, 5)] g1 (hu g1 34 5 (g1 34 5 + 1)) := FL.refl.u (by decide)
        refine c_all zk n540 (k := k + 1) (s := s') k1.1 (by have := k1.2; omega) (by omega) ?_ ?_ (fun g' f' => hq g' (((f1.mono LH_a).trans (F.mono (by decide))).trans f'))
        · obtain ⟨nb, bn, nx, xn, lw, td, p⟩ := s'
          refine ⟨⟨?_, ?_, ?_, ?_⟩, x1.2.1.fl F (by decide), ?_⟩
          · rw [F.at 34 3 (by decide), F.c 35 (by decide)]; exact x1.1.1
          · rw [F.at 34 4 (by decide), F.c 36 (by decide)]; exact x1.1.2.1
          · rw [F.c 37 (by decide), F.c 1 (by decide)]; exact x1.1.2.2.1
          · rw [F.at 34 6 (by decide)]; exact x1.1.2.2.2
          · unfold TX; rw [F.c 1 (by decide)]; exact x1.2.2
        · rw [hu_s, f1.at 34 5 (by decide), e5]; omega
theorem m_all (zk : ζok ζ) (n540 : n ≤ 540) : ∀ {f k : Nat} {s : HS} {g : HI}, HO n s → n + 1 ≤ s.2.2.2.2.2.2 + 2 * f → HM b n s g → g 97 18 = k → (∀ g', FL LGb g g' → match hAll b n f k s with
    | .inl e => g' 97 14 = e.1 → g' 97 15 = e.2 → Q ((-1) - e.2) g'
    | .inr q => HM b n q.2 g' → g' 97 18 = q.1 → G l (D + 7) 0 0 mX12_house (zz ζ) 80 [aP 97, aI 0] [] g' (qI (zz ζ) Q)) → G l (D + 7) 0 0 mX12_house (zz ζ) 35 [aP 97, aU] [] g (qI (zz ζ) Q)
  | 0, k, s, g, ho, hf, _, _, _ => by
    obtain ⟨nb, bn, nx, xn, lw, td, p⟩ := s
    have := ho.1
    have : n + 1 ≤ p + 2 * 0 := hf
    omega
  | f + 1, k, s, g, ho, hf, hx, e5, hq => by
    have hn := ζok_n zk
    have tk := tok_ok (b := b) (m := 500) (p := s.2.2.2.2.2.2) n540 (by omega) ho.1
    have t4 : g 97 10 = mkK (tok b n 500 s.2.2.2.2.2.2).1 := hx.2.2.1
    refine b_X12_house_35 hn ⟨by rw [t4]; exact mkK_rg _, ?_⟩
    rw [t4]
    rw [hAll] at hq
    by_cases c : (tok b n 500 s.2.2.2.2.2.2).1 = 0
    · rw [if_pos c] at hq
      exact iteP ((mkK_0 tk.1).mpr c) (hq g FL.refl hx e5)
    · rw [if_neg c] at hq
      have k1 := hLine1_ok (b := b) n540 (nb := s.1) (bn := s.2.1) (nx := s.2.2.1) (xn := s.2.2.2.1) (lw := s.2.2.2.2.1) (td := s.2.2.2.2.2.1) (p := s.2.2.2.2.2.2) ho
      have k1 : HK n (s.2.2.2.2.2.2 + 1) (hLine1 b n s) := k1
      have k2 := hLine_ok (b := b) n540 ho
      refine iteN (fun z => c ((mkK_0 tk.1).mp z)) (m_line hn n540 ho hx (fun g1 f1 => ?_))
      unfold hLine at k2 hq
      cases e : hLine1 b n s with
      | inl e' =>
        rw [e] at hq
        exact fun a1 a2 a3 a4 => ⟨by decide, iteP rfl (by rw [a2]; exact hq g1 (f1.mono LG_b) a1 a2)⟩
      | inr s' =>
        rw [e] at k1 hq k2
        intro x1
        refine ⟨by decide, iteN (by decide) (m_sign hn n540 k1.1 x1 (fun g2 f2 => ?_))⟩
        have hq : ∀ g', FL LGb g g' → match (match hSign b n s' with | .inl e => .inl e | .inr s' => hAll b n f (k + 1) s' : Sum (Int × Int) (Nat × HS)) with
            | .inl e => g' 97 14 = e.1 → g' 97 15 = e.2 → Q ((-1) - e.2) g'
            | .inr q => HM b n q.2 g' → g' 97 18 = q.1 → G l (D + 7) 0 0 mX12_house (zz ζ) 80 [aP 97, aI 0] [] g' (qI (zz ζ) Q) := hq
        have k2 : HK n (s.2.2.2.2.2.2 + 2) (hSign b n s') := k2
        cases e2 : hSign b n s' with
        | inl e' =>
          rw [e2] at hq
          exact fun a1 a2 a3 a4 => ⟨by decide, iteN (by decide) (by rw [a2]; exact hq g2 ((f1.trans f2).mono LG_b) a1 a2)⟩
        | inr s2 =>
          rw [e2] at hq k2
          intro x2
          refine ⟨by decide, iteP (by decide) ?_⟩
          have F : FL [(97, 18)] g2 (hu g2 97 18 (g2 97 18 + 1)) := FL.refl.u (by decide)
          refine m_all zk n540 (f := f) (k := k + 1) (s := s2) k2.1 (by have := k2.2; omega) ?_ ?_ (fun g' f' => hq g' ((((f1.trans f2).mono LG_b).trans (F.mono (by decide))).trans f'))
          · obtain ⟨nb, bn, nx, xn, lw, td, p⟩ := s2
            refine ⟨x2.1.fl F (by decide), x2.2.1.fl F (by decide), ?_⟩
            unfold TM
            rw [F.at 97 10 (by decide), F.at 97 11 (by decide), F.at 97 4 (by decide), F.at 97 13 (by decide), F.at 97 16 (by decide)]
            exact x2.2.2
          · rw [hu_s, f2.at 97 18 (by decide), f1.at 97 18 (by decide), e5]; omega
end HO6
