/-! HOUSE: the reference reads: names, laws, lines -/
section HO5
variable {l : Launch} {D : Nat} {ζ : ZP} {h : HI} {Q : Int → HI → Prop} {QV : HI → Prop} {b : Int → Int} {n nb nx p : Nat} {bn xn : Nat → List Int} {lw : Int → Int} {td : Nat → Bool}
theorem m_name (hn : 144 ≤ ζ.2.2.2.2) (n540 : n ≤ 540) (ho : HO n (nb, bn, nx, xn, lw, td, p)) (hx : HM b n (nb, bn, nx, xn, lw, td, p) h) {w : Bool} {x1 x2 x3 : Int} (ex : (x1, x2, x3) = if w = true then ((1, 8, 6) : Int × Int × Int) else (0, 6, 0)) (hq : ∀ g, FL LG h g → MHQ b n (hName b n w (nb, bn, nx, xn, lw, td, p)) Q g) : RtI l (D + 3) mX12_named (zz ζ) [aP 97, aI x1, aI x2, aI x3] h Q := by
  have tk := tok_ok (b := b) (m := 500) n540 (by omega) ho.1
  have n6 := ho.2.1
  have n8 := ho.2.2.1
  have tk1 := tok_ok (b := b) (m := 500) n540 (by omega) tk.2.1.2
  have e1 : h 100 x1 = if w = true then (nx : Int) else (nb : Int) := by
    cases w with
    | true => rw [if_pos rfl] at ex ⊢; cases ex; exact hx.1.2.1.1
    | false => rw [if_neg (by decide)] at ex ⊢; cases ex; exact hx.1.1.1
  rw [hName] at hq
  refine e_X12_named hn ⟨?_, ?_, ?_, ?_⟩
  · cases w with
    | true => rw [if_pos rfl] at ex; cases ex; decide
    | false => rw [if_neg (by decide)] at ex; cases ex; decide
  · rw [e1]; split <;> constructor <;> omega
  · cases w with
    | true => rw [if_pos rfl] at ex; cases ex; decide
    | false => rw [if_neg (by decide)] at ex; cases ex; decide
  · rw [e1]
    by_cases c : (w = true ∧ 8 ≤ nx) ∨ (w = false ∧ 6 ≤ nb)
    · rw [if_pos c] at hq
      refine iteN (fun z => z ?_) (m_bad hn hx (fun g f a1 a2 a3 a4 => ⟨Or.inl rfl, hq g f a1 a2 a3 a4⟩))
      cases w with
      | true => rw [if_pos rfl] at ex ⊢; cases ex; rcases c with c | c; omega; cases c.1
      | false => rw [if_neg (by decide)] at ex ⊢; cases ex; rcases c with c | c; cases c.1; omega
    · rw [if_neg c] at hq
      refine iteP (fun z => ?_) ?_
      · cases w with
        | true => rw [if_pos rfl] at ex z; cases ex; exact c (Or.inl ⟨rfl, by omega⟩)
        | false => rw [if_neg (by decide)] at ex z; cases ex; exact c (Or.inr ⟨rfl, by omega⟩)
      refine m_step hn n540 tk.2.1.2 hx.1 hx.2.1 hx.2.2.2.2.1 (fun g f x => ?_)
      obtain ⟨hb, tp, tm⟩ := x
      have F1 : FL LG h g := f.mono LN_LG
      rw [hName2] at hq
      refine m_isName hn n540 tk.2.1.2 tm hb.2.2.2.2 (fun c1 c2 => ⟨by decide, iteP (by decide) ?_⟩) (fun c => ⟨by decide, iteN (by decide) ?_⟩)
      · rw [if_pos ⟨c1, c2⟩] at hq
        have oL := tok_okW tk1.1 c1
        have e16 := tm.2.2.2.2.1 c1
        rw [hb.1.1]
        refine m_isTold hn oL (by omega) e16 (fun k hk => ⟨hb.1.2 k hk, ho.2.2.2.1 k hk⟩) ?_
        by_cases c3 : hTold nb bn (tok b n 500 (tok b n 500 p).2.2.1).2.2.2.2 = true
        · rw [c3, Bool.true_or, if_pos rfl] at hq
          rw [if_pos c3]
          exact ⟨by decide, iteP (by decide) (m_bad hn ⟨hb, tp, tm⟩ (fun g' f' a1 a2 a3 a4 => ⟨Or.inl rfl, hq g' (F1.trans f') a1 a2 a3 a4⟩))⟩
        · rw [if_neg c3]
          rw [Bool.not_eq_true] at c3
          rw [c3, Bool.false_or] at hq
          refine ⟨by decide, iteN (by decide) ?_⟩
          rw [hb.2.1.1]
          refine m_isTold hn oL (by omega) e16 (fun k hk => ⟨hb.2.1.2 k hk, ho.2.2.2.2.1 k hk⟩) ?_
          by_cases c4 : hTold nx xn (tok b n 500 (tok b n 500 p).2.2.1).2.2.2.2 = true
          · rw [if_pos c4] at hq ⊢
            exact ⟨by decide, iteN (by decide) (m_bad hn ⟨hb, tp, tm⟩ (fun g' f' a1 a2 a3 a4 => ⟨Or.inl rfl, hq g' (F1.trans f') a1 a2 a3 a4⟩))⟩
          · rw [if_neg c4] at hq ⊢
            refine ⟨by decide, iteP rfl ?_⟩
            cases w with
            | true =>
              rw [if_pos rfl] at ex hq
              cases ex
              have n7 : nx < 8 := by
                rcases Nat.lt_or_ge nx 8 with z | z
                · exact z
                · exact absurd (Or.inl ⟨rfl, z⟩) c
              rw [e16, hb.2.1.1]
              refine ⟨by omega, ?_⟩
              have F : FL LG g (hu (hu g 101 (14 + 6 + nx) (ew (tok b n 500 (tok b n 500 p).2.2.1).2.2.2.2)) 100 1 (nx + 1)) := (FL.refl.u (inLG (by omega))).ua (by decide)
              refine m_step (nb := nb) (bn := bn) (nx := nx + 1) (xn := fuN xn nx (tok b n 500 (tok b n 500 p).2.2.1).2.2.2.2) (lw := lw) (td := td) hn n540 tk1.2.1.2 ⟨⟨?_, ?_⟩, ⟨?_, ?_⟩, ⟨?_, by rw [hu_c _ _ _ (by decide), hu_c _ _ _ (by decide)]; exact hb.2.2.1.2⟩, ?_, ?_⟩ (tp.fl (L := [(101, -1), (100, -1)]) ((FL.refl.ua (by decide)).ua (by decide)) (by decide)) ?_ (fun g' f' x => hq g' ((F1.trans F).trans (f'.mono LN_LG)) x)
              · rw [hu_j _ _ _ (by decide), hu_c _ _ _ (by decide)]; exact hb.1.1
              · intro k hk
                rw [hu_c _ _ _ (by decide), hu_j _ _ _ (by omega)]; exact hb.1.2 k hk
              · rw [hu_s]; omega
              · intro k hk
                rw [hu_c _ _ _ (by decide), hu_eq]
                unfold fuN
                by_cases z : k = nx
                · rw [if_pos ⟨rfl, by omega⟩, if_pos z]
                · rw [if_neg (fun q => z (by have := q.2; omega)), if_neg z]; exact hb.2.1.2 k (by omega)
              · intro i hi
                rw [hu_j _ _ _ (by omega), hu_c _ _ _ (by decide)]; exact hb.2.2.1.1 i hi
              · rw [hu_c _ _ _ (by decide), hu_c _ _ _ (by decide)]; exact hb.2.2.2.1
              · intro k hk
                rw [hu_c _ _ _ (by decide), hu_c _ _ _ (by decide)]; exact hb.2.2.2.2 k hk
              · rw [hu_c _ _ _ (by decide), hu_c _ _ _ (by decide)]; exact tm.2.2.1
            | false =>
              rw [if_neg (by decide)] at ex hq
              cases ex
              have n5 : nb < 6 := by
                rcases Nat.lt_or_ge nb 6 with z | z
                · exact z
                · exact absurd (Or.inr ⟨rfl, z⟩) c
              rw [e16, hb.1.1]
              refine ⟨by omega, ?_⟩
              have F : FL LG g (hu (hu g 101 (14 + 0 + nb) (ew (tok b n 500 (tok b n 500 p).2.2.1).2.2.2.2)) 100 0 (nb + 1)) := (FL.refl.u (inLG (by omega))).ua (by decide)
              refine m_step (nb := nb + 1) (bn := fuN bn nb (tok b n 500 (tok b n 500 p).2.2.1).2.2.2.2) (nx := nx) (xn := xn) (lw := lw) (td := td) hn n540 tk1.2.1.2 ⟨⟨?_, ?_⟩, ⟨?_, ?_⟩, ⟨?_, by rw [hu_c _ _ _ (by decide), hu_c _ _ _ (by decide)]; exact hb.2.2.1.2⟩, ?_, ?_⟩ (tp.fl (L := [(101, -1), (100, -1)]) ((FL.refl.ua (by decide)).ua (by decide)) (by decide)) ?_ (fun g' f' x => hq g' ((F1.trans F).trans (f'.mono LN_LG)) x)
              · rw [hu_s]; omega
              · intro k hk
                rw [hu_c _ _ _ (by decide), hu_eq]
                unfold fuN
                by_cases z : k = nb
                · rw [if_pos ⟨rfl, by omega⟩, if_pos z]
                · rw [if_neg (fun q => z (by have := q.2; omega)), if_neg z]; exact hb.1.2 k (by omega)
              · rw [hu_j _ _ _ (by decide), hu_c _ _ _ (by decide)]; exact hb.2.1.1
              · intro k hk
                rw [hu_c _ _ _ (by decide), hu_j _ _ _ (by omega)]; exact hb.2.1.2 k hk
              · intro i hi
                rw [hu_j _ _ _ (by omega), hu_c _ _ _ (by decide)]; exact hb.2.2.1.1 i hi
              · rw [hu_c _ _ _ (by decide), hu_c _ _ _ (by decide)]; exact hb.2.2.2.1
              · intro k hk
                rw [hu_c _ _ _ (by decide), hu_c _ _ _ (by decide)]; exact hb.2.2.2.2 k hk
              · rw [hu_c _ _ _ (by decide), hu_c _ _ _ (by decide)]; exact tm.2.2.1
      · rw [if_neg c] at hq
        exact m_bad hn ⟨hb, tp, tm⟩ (fun g' f' a1 a2 a3 a4 => ⟨Or.inl rfl, hq g' (F1.trans f') a1 a2 a3 a4⟩)
/-- a law's value, taken and kept -/
theorem m_keep {i : Nat} (hi : i < 9) {v x : Int} (ex : x = 2 + (i : Int)) (hx : HM b n (nb, bn, nx, xn, lw, td, p) h) : HM b n (nb, bn, nx, xn, fu lw i v, td, p) (hu h 100 x v) ∧ FL LG h (hu h 100 x v) := by
  refine ⟨⟨⟨⟨?_, ?_⟩, ⟨?_, ?_⟩, ⟨?_, by rw [hu_c _ _ _ (by decide)]; exact hx.1.2.2.1.2⟩, ?_, ?_⟩, hx.2.1.fl (L := [(100, -1)]) (FL.refl.ua (by decide)) (by decide), ?_⟩, FL.refl.ua (by decide)⟩
  · rw [hu_j _ _ _ (by omega)]; exact hx.1.1.1
  · intro k hk; rw [hu_c _ _ _ (by decide)]; exact hx.1.1.2 k hk
  · rw [hu_j _ _ _ (by omega)]; exact hx.1.2.1.1
  · intro k hk; rw [hu_c _ _ _ (by decide)]; exact hx.1.2.1.2 k hk
  · intro j hj
    rw [hu_eq]
    unfold fu
    by_cases z : (j : Int) = i
    · rw [if_pos ⟨rfl, by omega⟩, if_pos z]
    · rw [if_neg (fun q => z (by have := q.2; omega)), if_neg z]; exact hx.1.2.2.1.1 j hj
  · rw [hu_c _ _ _ (by decide)]; exact hx.1.2.2.2.1
  · intro k hk; rw [hu_c _ _ _ (by decide)]; exact hx.1.2.2.2.2 k hk
  · unfold TM
    rw [FL.c (L := [(100, -1)]) (h := h) (h' := hu h 100 x v) (FL.refl.ua (by decide)) 97 (by decide)]
    exact hx.2.2
theorem m_law (hn : 144 ≤ ζ.2.2.2.2) (n540 : n ≤ 540) (ho : HO n (nb, bn, nx, xn, lw, td, p)) (hx : HM b n (nb, bn, nx, xn, lw, td, p) h) {w : Nat} (hw : 2 ≤ w ∧ w ≤ 9) {x1 lo hi : Int} (e1 : x1 = wh w) (e2 : lo = lawv 0 (ix w)) (e3 : hi = lawv 1 (ix w)) (hq : ∀ g, FL LG h g → MHQ b n (hLaw b n w (nb, bn, nx, xn, lw, td, p)) Q g) : RtI l (D + 4) mX12_told (zz ζ) [aP 97, aI x1, aI lo, aI hi] h Q := by
  have tk := tok_ok (b := b) (m := 500) n540 (by omega) ho.1
  obtain ⟨T, T1, T2, T3⟩ := hx.1.2.2.2.1
  have ho' : HO n (nb, bn, nx, xn, lw, (fun j => if j = w then true else td j), (tok b n 500 p).2.2.1) := ⟨tk.2.1.2, ho.2⟩
  have wh10 : wh w ≤ 10 ∧ 2 ≤ wh w := by unfold wh; split <;> omega
  have b1 : band (bshr (h 97 19) x1) 1 = if td w = true then 1 else 0 := by
    rw [T2, e1, tb32 (by omega) (by omega), T3 w hw.1 hw.2]
  have pw : 2 ^ (wh w) < 2048 := by
    have : ∀ w : Nat, w ≤ 10 → 2 ^ w < 2048 := by decide
    exact this _ wh10.1
  have b2 : bor (h 97 19) (bshl 1 x1) = ((T ||| 2 ^ (wh w) : Nat) : Int) := by
    rw [T2, e1, bshl_1 _ (by omega), bor_nat (by omega) (by omega)]
  have b3 : T ||| 2 ^ (wh w) < 2048 := Nat.or_lt_two_pow (n := 11) T1 pw
  have i9 : ix w < 9 := by unfold ix; split <;> omega
  have xi : x1 = 2 + ((ix w : Nat) : Int) := by rw [e1]; unfold wh ix; split <;> omega
  have rlo : rg lo := by rw [e2]; have := lawv_rg 0 (ix w) (by omega) i9; constructor <;> omega
  have rhi : rg hi := by rw [e3]; have := lawv_rg 1 (ix w) (by omega) i9; constructor <;> omega
  refine e_X12_told hn ?_
  rw [b1, b2]
  rw [hLaw] at hq
  by_cases c : td w = true
  · rw [if_pos c] at hq ⊢
    exact ⟨by decide, iteN (fun z => z rfl) (m_bad hn hx (fun g' f' a1 a2 a3 a4 => ⟨Or.inl rfl, hq g' f' a1 a2 a3 a4⟩))⟩
  · rw [if_neg c] at hq ⊢
    refine ⟨by decide, iteP (by decide) ?_⟩
    have F : FL [(97, 19)] h (hu h 97 19 ((T ||| 2 ^ (wh w) : Nat) : Int)) := FL.refl.u (by decide)
    refine m_step (nb := nb) (bn := bn) (nx := nx) (xn := xn) (lw := lw) (td := fun j => if j = w then true else td j) hn n540 tk.2.1.2 ⟨?_, ?_, ?_, ?_, ?_⟩ (hx.2.1.fl F (by decide)) ?_ (fun g f x => ?_)
    · rw [F.c 100 (by decide), F.c 101 (by decide)]; exact hx.1.1
    · rw [F.c 100 (by decide), F.c 101 (by decide)]; exact hx.1.2.1
    · rw [F.c 100 (by decide), F.at 97 14 (by decide)]; exact hx.1.2.2.1
    · refine ⟨T ||| 2 ^ (wh w), b3, hu_s _ _ _ _, fun j j1 j2 => ?_⟩
      show _ = if j = w then true else td j
      rw [or_pow_tb, T3 j j1 j2]
      by_cases z : j = w
      · rw [if_pos z, z]; simp
      · rw [if_neg z]
        have : decide (wh w = wh j) = false := decide_eq_false (fun q => z (by unfold wh at q; split at q <;> split at q <;> omega))
        rw [this, Bool.or_false]
    · unfold rsI; rw [F.c 102 (by decide)]; exact hx.1.2.2.2.2
    · rw [F.at 97 4 (by decide)]; exact hx.2.2.2.2.1
    · have F1 : FL LG h g := (F.mono (L' := LG) (by decide)).trans (f.mono LN_LG)
      rw [hLaw2] at hq
      have k1 := hTake_ok (b := b) (i := ix w) n540 ho'
      refine m_takes (i := ((ix w : Nat) : Int)) hn n540 ho' x rlo rhi (fun g1 f1 => ?_)
      subst e2 e3
      by_cases c2 : w = 2
      · have z0 : ix w = 0 := by rw [c2]; rfl
        rw [if_pos c2] at hq
        rw [z0] at k1 xi ⊢
        have hq1 := fun g2 (f2 : FL LG g1 g2) => hq g2 ((F1.trans f1).trans f2)
        cases et : hTake b n (lawv 0 ((0 : Nat) : Int)) (lawv 1 ((0 : Nat) : Int)) ((0 : Nat) : Int) (nb, bn, nx, xn, lw, (fun j => if j = w then true else td j), (tok b n 500 p).2.2.1) with
        | inl e =>
          rw [show hTake b n (lawv 0 0) (lawv 1 0) 0 (nb, bn, nx, xn, lw, (fun j => if j = w then true else td j), (tok b n 500 p).2.2.1) = .inl e from et] at hq1
          exact fun a1 a2 a3 a4 => ⟨by decide, iteN (by decide) (hq1 g1 FL.refl a1 a2 a3 a4)⟩
        | inr s =>
          rw [show hTake b n (lawv 0 0) (lawv 1 0) 0 (nb, bn, nx, xn, lw, (fun j => if j = w then true else td j), (tok b n 500 p).2.2.1) = .inr s from et] at hq1
          rw [et] at k1
          rw [hTake] at et
          split at et
          · split at et
            · cases et
            · cases et
              intro e17 x1'
              refine ⟨by decide, iteP (by decide) ⟨by omega, by constructor <;> omega, iteP (by omega) ?_⟩⟩
              rw [e17]
              have K := m_keep (i := 0) (v := (tok b n 500 (tok b n 500 p).2.2.1).2.2.2.1) (by omega) xi x1'
              have hq2 : ∀ g2, FL LG g1 g2 → MHQ b n (hTake b n 0 99 1 (nb, bn, nx, xn, fu lw ((0 : Nat) : Int) (tok b n 500 (tok b n 500 p).2.2.1).2.2.2.1, (fun j => if j = w then true else td j), (tok b n 500 (tok b n 500 p).2.2.1).2.2.1)) Q g2 := hq1
              refine m_takes (i := 1) hn n540 k1.1 K.1 (by decide) (by decide) (fun g2 f2 => ?_)
              have hq3 := fun g3 (f3 : FL LG g2 g3) => hq2 g3 ((K.2.trans f2).trans f3)
              cases et2 : hTake b n 0 99 1 (nb, bn, nx, xn, fu lw ((0 : Nat) : Int) (tok b n 500 (tok b n 500 p).2.2.1).2.2.2.1, (fun j => if j = w then true else td j), (tok b n 500 (tok b n 500 p).2.2.1).2.2.1) with
              | inl e =>
                rw [et2] at hq3
                exact fun a1 a2 a3 a4 => ⟨by decide, iteN (by decide) (hq3 g2 FL.refl a1 a2 a3 a4)⟩
              | inr s =>
                rw [et2] at hq3
                rw [hTake] at et2
                split at et2
                · split at et2
                  · cases et2
                  · cases et2
                    intro e17' x2
                    refine ⟨by decide, iteP (by decide) ?_⟩
                    rw [e17']
                    have K2 := m_keep (i := 1) (x := 3) (v := (tok b n 500 (tok b n 500 (tok b n 500 p).2.2.1).2.2.1).2.2.2.1) (by omega) rfl x2
                    exact hq3 _ K2.2 K2.1
                · cases et2
          · cases et
      · have z1 : ix w = w - 1 := if_neg c2
        rw [if_neg c2, ← z1] at hq
        have hq1 := fun g2 (f2 : FL LG g1 g2) => hq g2 ((F1.trans f1).trans f2)
        cases et : hTake b n (lawv 0 ((ix w : Nat) : Int)) (lawv 1 ((ix w : Nat) : Int)) ((ix w : Nat) : Int) (nb, bn, nx, xn, lw, (fun j => if j = w then true else td j), (tok b n 500 p).2.2.1) with
        | inl e =>
          rw [et] at hq1
          exact fun a1 a2 a3 a4 => ⟨by decide, iteN (by decide) (hq1 g1 FL.refl a1 a2 a3 a4)⟩
        | inr s =>
          rw [et] at hq1
          rw [hTake] at et
          split at et
          · split at et
            · cases et
            · cases et
              intro e17 x1'
              refine ⟨by decide, iteP (by decide) ⟨by omega, by constructor <;> omega, iteN (by omega) ?_⟩⟩
              rw [e17]
              have K := m_keep (v := (tok b n 500 (tok b n 500 p).2.2.1).2.2.2.1) i9 xi x1'
              exact hq1 _ K.2 K.1
          · cases et
end HO5
