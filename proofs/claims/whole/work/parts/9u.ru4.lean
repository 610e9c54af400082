/-! RULE: the class's descent -/
def CG (l : Launch) (D : Nat) (ζ : ZP) (n p : Nat) (m d : Nat) (g : HI) (Q : Int → HI → Prop) : Prop := match m with
  | 0 => RtI l (D + 3 * (9 - d) + 9) mX3_readOne (zz ζ) [aP 38, aP 1, aP 4, aI d] g Q
  | 1 => RtI l (D + 3 * (9 - d) + 10) mX3_readAll (zz ζ) [aP 38, aP 1, aP 4, aI d] g Q
  | 2 => ∀ left : Nat, left ≤ 540 → n + 1 ≤ p + 2 * left → G l (D + 3 * (9 - d) + 10) 0 0 mX3_readAll (zz ζ) 17 [aP 38, aP 1, aP 4, aI d, aI left] [] g (qI (zz ζ) Q)
  | 3 => RtI l (D + 3 * (9 - d) + 11) mX3_readCond (zz ζ) [aP 38, aP 1, aP 4, aI d] g Q
  | _ => ∀ left : Nat, left ≤ 540 → n + 1 ≤ p + 2 * left → G l (D + 3 * (9 - d) + 11) 0 0 mX3_readCond (zz ζ) 17 [aP 38, aP 1, aP 4, aI d, aI left] [] g (qI (zz ζ) Q)
section RU4
variable {l : Launch} {ζ : ZP} {b : Int → Int} {n nx : Nat} {xn : Nat → List Int}
theorem CR_sbd {α β : Type} {r : Sum EE α} {f : α → Sum EE β} {Le Ls : List (Nat × Int)} {h : HI} {P : β → HI → Prop} {P' : α → HI → Prop} {Q Q' : Int → HI → Prop} (a : CR (sbd r f) Le Ls h P Q) (he : ∀ g, Q 0 g → Q' 0 g) (hs : ∀ x g, r = .inr x → FL Ls h g → P' x g → CR (f x) Le Ls h P Q → Q' 1 g) : CR r Le Ls h P' Q' := by
  cases r with
  | inl e => exact fun g f a1 a2 => he g (a g f a1 a2)
  | inr x => exact fun g f p => hs x g rfl f p a
theorem rc_main (zk : ζok ζ) (n540 : n ≤ 540) (n8 : nx ≤ 8) : ∀ {f m d D : Nat} {s : RS} {g : HI} {Q : Int → HI → Prop}, m ≤ 4 → 1 ≤ d → d ≤ 9 → RI n nx s → 4 * (n + 1 - s.2.2.2) + rk m ≤ f → (m = 2 ∨ m = 4 → 1 ≤ dpc s.2.1 s.1) → BX xn nx g → RX b n s g → CR (rR b n xn nx f m d s) LQx LQr g (RX b n) Q → CG l D ζ n s.2.2.2 m d g Q
  | 0, m, d, D, s, g, Q, _, _, _, h, hf, _, _, _, _ => by have := h.1; omega
  | f + 1, 0, d, D, s, g, Q, _, d1, d9, h, hf, _, hb, hx, hq => by
    have hf : 4 * (n + 1 - s.2.2.2) + 0 ≤ f + 1 := hf
    have hn := ζok_n zk
    have hp := h.1
    have tk := tok_ok (b := b) (m := 200) n540 (by omega) hp
    obtain ⟨⟨x1, x2⟩, xs, tp, tx⟩ := hx
    have hx : RX b n s g := ⟨⟨x1, x2⟩, xs, tp, tx⟩
    have e7 := cg_word tx
    have bw := hWord_bd (tok b n 200 s.2.2.2)
    have o20 := h.2.1
    rw [rR] at hq
    -- behind the first test
    have go : ((tok b n 200 s.2.2.2).1 = 40 ∨ (12 ≤ hWord (tok b n 200 s.2.2.2) ∧ hWord (tok b n 200 s.2.2.2) ≤ 19)) → ∀ x4 : Int, x4 = (if (tok b n 200 s.2.2.2).1 = 40 then 1 else 0) → G l (D + 3 * (9 - d) + 9) 0 0 mX3_readOne (zz ζ) 47 [aP 38, aP 1, aP 4, aI d, aI x4, aI (hWord (tok b n 200 s.2.2.2))] [] g (qI (zz ζ) Q) := by
      intro c x4 e4
      rw [if_pos c] at hq
      have p1 : s.2.2.2 < (tok b n 200 s.2.2.2).2.2.1 := by
        rcases c with z | z
        · exact tk.2.2 (by omega) (by omega)
        · have := (hWord_sort (t := tok b n 200 s.2.2.2) (by omega)).1
          exact tk.2.2 (by omega) (by omega)
      refine b_X3_readOne_47 hn ⟨by rw [x2]; constructor <;> omega, ?_⟩
      rw [x2]
      by_cases c1 : 20 ≤ s.2.2.1 ∨ 8 < d
      · rw [if_pos c1] at hq
        have rf : RtI l (D + 3 * (9 - d) + 8) mX7_refuse (zz ζ) [aP 1, aI 4] g (fun r1 h1 => (r1 = 0 ∨ r1 = 1) ∧ Q r1 h1) := cg_refuse hn tx (fun g' f' a1 a2 => ⟨Or.inl rfl, hq g' (f'.mono (by decide)) a1 a2⟩)
        exact iteI (fun _ => rf) (fun _ => ⟨by constructor <;> omega, iteI (fun z => by omega) (fun _ => rf)⟩)
      · rw [if_neg c1] at hq
        have h1 := RI_one h tk.2.1.2 (by omega)
        refine iteN (by omega) ⟨by constructor <;> omega, iteP (by omega) ?_⟩
        have F : FL [(38, 2)] g (hu g 38 2 (s.2.2.1 + 1)) := FL.refl.u (by decide)
        refine s_step zk n540 (by omega) tk.2.1.2 (tp.fl F (by decide)) (by rw [F.c 1 (by decide)]; exact tx.2.2.1) (fun g1 f1 t1 => ?_)
        have F1 : FL LQr g g1 := (F.mono (by decide)).trans (f1.mono (by decide))
        have hx1 : RX b n (rOne1 s (tok b n 200 s.2.2.2).2.2.1) g1 := by
          refine ⟨⟨?_, ?_⟩, ?_, (tp.fl F (by decide)).fl f1 (by decide), t1⟩
          · rw [f1.c 38 (by decide), F.at 38 1 (by decide)]; exact x1
          · rw [f1.c 38 (by decide), hu_s]; show _ = ((s.2.2.1 + 1 : Nat) : Int); omega
          · rw [f1.c 39 (by decide), F.c 39 (by decide)]; exact xs
        have hb1 : BX xn nx g1 := (hb.fl F (by decide)).fl f1 (by decide)
        have q1 : (rOne1 s (tok b n 200 s.2.2.2).2.2.1).2.2.2 = (tok b n 200 s.2.2.2).2.2.1 := rfl
        by_cases c2 : (tok b n 200 s.2.2.2).1 = 40
        · rw [if_pos c2] at hq e4
          subst e4
          refine ⟨by decide, iteN (by decide) ?_⟩
          have ok := rR_ok (b := b) (xn := xn) n540 n8 (f := f) (m := 3) (d := d + 1) (by decide) h1 (by rw [q1]; show 4 * _ + 2 ≤ f; omega) (fun z => by omega)
          have ih := fun Q' => rc_main zk n540 n8 (f := f) (m := 3) (d := d + 1) (D := D) (Q := Q') (by decide) (by omega) (by omega) h1 (by rw [q1]; show 4 * _ + 2 ≤ f; omega) (fun z => by omega) hb1 hx1
          rw [show ((d : Int) + 1) = ((d + 1 : Nat) : Int) by omega, show D + 3 * (9 - d) + 8 = D + 3 * (9 - (d + 1)) + 11 by omega]
          refine ih _ (CR_sbd (hq.tr (P' := RX b n) (F1.mono (by decide)) (fun g' f' => F1.trans f') (fun r g' f' x => x)) (fun g' z => ⟨by decide, iteP rfl z⟩) (fun s' g2 e2 f2 x2' hq2 => ⟨by decide, iteN (by decide) ?_⟩))
          rw [e2] at ok
          have hp2 : s'.2.2.2 ≤ n := ok.1.1
          have tk2 := tok_ok (b := b) (m := 200) n540 (by omega) hp2
          have tx2 := x2'.2.2.2
          refine e_X7_takeSign hn ⟨cg_rg4 n540 (by omega) hp2 tx2, by decide, ?_⟩
          rw [tx2.1]
          unfold rClose at hq2
          by_cases c3 : (tok b n 200 s'.2.2.2).1 = 41
          · rw [if_pos c3] at hq2
            exact iteP c3 (s_step zk n540 (by omega) tk2.2.1.2 x2'.2.2.1 tx2.2.2.1 (fun g3 f3 t3 => ⟨by decide, iteN (by decide) (hq2 g3 (f2.trans (f3.mono (by decide))) (RX_go x2' f3 (by decide) t3))⟩))
          · rw [if_neg c3] at hq2
            exact iteN c3 (cg_refuse hn tx2 (fun g3 f3 a1 a2 => ⟨Or.inl rfl, by decide, iteP rfl (hq2 g3 ((f2.mono (by decide)).trans (f3.mono (by decide))) a1 a2)⟩))
        · rw [if_neg c2] at hq e4
          subst e4
          have c' : 12 ≤ hWord (tok b n 200 s.2.2.2) ∧ hWord (tok b n 200 s.2.2.2) ≤ 19 := by rcases c with z | z; exact absurd z c2; exact z
          refine ⟨by decide, iteP rfl ⟨by constructor <;> omega, ?_⟩⟩
          by_cases c3 : hWord (tok b n 200 s.2.2.2) = 12
          · rw [if_pos c3] at hq
            refine iteN (fun z => z c3) ?_
            have ok := rR_ok (b := b) (xn := xn) n540 n8 (f := f) (m := 0) (d := d + 1) (by decide) h1 (by rw [q1]; show 4 * _ + 0 ≤ f; omega) (fun z => by omega)
            have ih := fun Q' => rc_main zk n540 n8 (f := f) (m := 0) (d := d + 1) (D := D + 2) (Q := Q') (by decide) (by omega) (by omega) h1 (by rw [q1]; show 4 * _ + 0 ≤ f; omega) (fun z => by omega) hb1 hx1
            rw [show ((d : Int) + 1) = ((d + 1 : Nat) : Int) by omega, show D + 3 * (9 - d) + 8 = D + 2 + 3 * (9 - (d + 1)) + 9 by omega]
            refine ih _ (CR_sbd (hq.tr (P' := RX b n) (F1.mono (by decide)) (fun g' f' => F1.trans f') (fun r g' f' x => x)) (fun g' z => ⟨by decide, iteP rfl z⟩) (fun s' g2 e2 f2 x2' hq2 => ⟨by decide, iteN (by decide) ?_⟩))
            rw [e2] at ok
            have l3 := ok.2.2.1
            have l1 : s'.1 + 2 * (s.2.2.1 + 1) + 1 ≤ s.1 + 2 * s'.2.2.1 := l3
            have := ok.1.2.1
            have := h.2.2.1
            exact rc_add (s := s') (w := 7) (x := 0) (y := 0) hn x2' (by omega) rfl (fun g3 f3 x3 => ⟨by decide, iteN (by decide) (hq2 g3 (f2.trans f3) x3)⟩)
          · rw [if_neg c3] at hq
            refine iteP c3 ?_
            have := h.2.2.1
            exact rc_atom (D := D + 3 * (9 - d)) (s := rOne1 s (tok b n 200 s.2.2.2).2.2.1) zk n540 n8 tk.2.1.2 hb1 hx1 (by show s.1 < 40; omega) (by omega) (hq.tr (P' := RX b n) (F1.mono (by decide)) (fun g' f' => F1.trans f') (fun r g' f' x => x))
    show RtI l (D + 3 * (9 - d) + 9) mX3_readOne (zz ζ) [aP 38, aP 1, aP 4, aI d] g Q
    refine e_X3_readOne hn ⟨cg_rg4 n540 (by omega) hp tx, ?_⟩
    rw [tx.1, e7]
    by_cases c : (tok b n 200 s.2.2.2).1 = 40
    · exact iteN (fun z => z c) (go (Or.inl c) 1 (by rw [if_pos c]))
    · refine iteP c ⟨by constructor <;> omega, ?_⟩
      by_cases c2 : 12 ≤ hWord (tok b n 200 s.2.2.2) ∧ hWord (tok b n 200 s.2.2.2) ≤ 19
      · exact iteN (by omega) (iteP c2.2 (go (Or.inr c2) 0 (by rw [if_neg c])))
      · rw [if_neg (by omega)] at hq
        have rf : RtI l (D + 3 * (9 - d) + 8) mX7_refuse (zz ζ) [aP 1, aI 1] g (fun r1 h1 => (r1 = 0 ∨ r1 = 1) ∧ Q r1 h1) := cg_refuse hn tx (fun g' f' a1 a2 => ⟨Or.inl rfl, hq g' (f'.mono (by decide)) a1 a2⟩)
        exact iteI (fun _ => rf) (fun _ => iteI (fun z => by omega) (fun _ => rf))
  | f + 1, 1, d, D, s, g, Q, _, d1, d9, h, hf, _, hb, hx, hq => by
    have hf : 4 * (n + 1 - s.2.2.2) + 1 ≤ f + 1 := hf
    have hn := ζok_n zk
    rw [rR] at hq
    have ok := rR_ok (b := b) (xn := xn) n540 n8 (f := f) (m := 0) (d := d) (by decide) h (by show 4 * _ + 0 ≤ f; omega) (fun z => by omega)
    show RtI l (D + 3 * (9 - d) + 10) mX3_readAll (zz ζ) [aP 38, aP 1, aP 4, aI d] g Q
    refine e_X3_readAll hn ?_
    refine rc_main zk n540 n8 (f := f) (m := 0) (d := d) (D := D) (by decide) d1 d9 h (by show 4 * _ + 0 ≤ f; omega) (fun z => by omega) hb hx (CR_sbd (P' := RX b n) hq (fun g' z => ⟨by decide, iteN (by decide) z⟩) (fun s' g2 e2 f2 x2 hq2 => ⟨by decide, iteP (by decide) ?_⟩))
    rw [e2] at ok
    have k2 : s.2.2.2 + 1 ≤ s'.2.2.2 := ok.2.1
    have k3 := ok.1.1
    have k5 : dpc s'.2.1 s'.1 = dpc s.2.1 s.1 + (1 : Nat) := ok.2.2.2.2.1
    have d0 := h.2.2.2.2.1
    exact rc_main zk n540 n8 (f := f) (m := 2) (d := d) (D := D) (by decide) d1 d9 ok.1 (by show 4 * _ + 1 ≤ f; omega) (fun _ => by omega) (hb.fl f2 (by decide)) x2 (hq2.tr (f2.mono (by decide)) (fun g' f' => f2.trans f') (fun r g' f' x => x)) 540 (by omega) (by omega)
  | f + 1, 2, d, D, s, g, Q, _, d1, d9, h, hf, dd, hb, hx, hq => by
    have hf : 4 * (n + 1 - s.2.2.2) + 1 ≤ f + 1 := hf
    have hn := ζok_n zk
    have hp := h.1
    have dd := dd (Or.inl rfl)
    have tk := tok_ok (b := b) (m := 200) n540 (by omega) hp
    have tx := hx.2.2.2
    have e7 := cg_word tx
    have bw := hWord_bd (tok b n 200 s.2.2.2)
    rw [rR] at hq
    intro left l540 hl
    refine b_X3_readAll_17 hn ⟨by constructor <;> omega, iteN (by omega) ⟨by rw [e7]; constructor <;> omega, ?_⟩⟩
    rw [e7]
    by_cases c : hWord (tok b n 200 s.2.2.2) = 11
    · rw [if_pos c] at hq
      have w := (hWord_sort (t := tok b n 200 s.2.2.2) (by omega)).1
      have p1 := tk.2.2 (by omega) (by omega)
      have q1 : (rGo s (tok b n 200 s.2.2.2).2.2.1).2.2.2 = (tok b n 200 s.2.2.2).2.2.1 := rfl
      have h1 := RI_go h tk.2.1.2
      refine iteN (fun z => z c) (s_step zk n540 (by omega) tk.2.1.2 hx.2.2.1 tx.2.2.1 (fun g1 f1 t1 => ?_))
      have F1 : FL LQr g g1 := f1.mono (by decide)
      have ok := rR_ok (b := b) (xn := xn) n540 n8 (f := f) (m := 0) (d := d) (by decide) h1 (by rw [q1]; show 4 * _ + 0 ≤ f; omega) (fun z => by omega)
      refine rc_main zk n540 n8 (f := f) (m := 0) (d := d) (D := D) (by decide) d1 d9 h1 (by rw [q1]; show 4 * _ + 0 ≤ f; omega) (fun z => by omega) (hb.fl f1 (by decide)) (RX_go hx f1 (by decide) t1) (CR_sbd (hq.tr (P' := RX b n) (F1.mono (by decide)) (fun g' f' => F1.trans f') (fun r g' f' x => x)) (fun g' z => ⟨by decide, iteP rfl z⟩) (fun s' g2 e2 f2 x2 hq2 => ⟨by decide, iteN (by decide) ?_⟩))
      rw [e2] at ok
      obtain ⟨g1', g2', g3', g4', g5', g6'⟩ := ok
      have g2' : (tok b n 200 s.2.2.2).2.2.1 + 1 ≤ s'.2.2.2 := g2'
      have g3' : s'.1 + 2 * s.2.2.1 + 1 ≤ s.1 + 2 * s'.2.2.1 := g3'
      have g5' : dpc s'.2.1 s'.1 = dpc s.2.1 s.1 + (1 : Nat) := g5'
      have l2 := h.2.2.1
      have o20 := g1'.2.1
      have r := RI_joint (Or.inl rfl) g1' (by omega) (by omega)
      have np := g1'.1
      refine rc_add (s := s') (w := 8) (x := 0) (y := 0) hn x2 (by omega) rfl (fun g3 f3 x3 => ⟨by decide, iteP (by decide) ?_⟩)
      rw [show (left : Int) + (-1) = ((left - 1 : Nat) : Int) by omega]
      exact rc_main zk n540 n8 (f := f) (m := 2) (d := d) (D := D) (by decide) d1 d9 r.1 (by show 4 * (n + 1 - s'.2.2.2) + 1 ≤ f; omega) (fun _ => by show 1 ≤ dpc (rAdd s' 8 0 0).2.1 (s'.1 + 1); rw [r.2, g5']; omega) (((hb.fl f1 (by decide)).fl f2 (by decide)).fl f3 (by decide)) x3 (hq2.tr ((f2.mono (by decide)).trans (f3.mono (by decide))) (fun g' f' => f2.trans (f3.trans f')) (fun r g' f' x => x)) (left - 1) (by omega) (by show n + 1 ≤ s'.2.2.2 + 2 * (left - 1); omega)
    · rw [if_neg c] at hq
      exact iteP c (hq g FL.refl hx)
  | f + 1, 3, d, D, s, g, Q, _, d1, d9, h, hf, _, hb, hx, hq => by
    have hf : 4 * (n + 1 - s.2.2.2) + 2 ≤ f + 1 := hf
    have hn := ζok_n zk
    rw [rR] at hq
    have ok := rR_ok (b := b) (xn := xn) n540 n8 (f := f) (m := 1) (d := d) (by decide) h (by show 4 * _ + 1 ≤ f; omega) (fun z => by omega)
    show RtI l (D + 3 * (9 - d) + 11) mX3_readCond (zz ζ) [aP 38, aP 1, aP 4, aI d] g Q
    refine e_X3_readCond hn ?_
    refine rc_main zk n540 n8 (f := f) (m := 1) (d := d) (D := D) (by decide) d1 d9 h (by show 4 * _ + 1 ≤ f; omega) (fun z => by omega) hb hx (CR_sbd (P' := RX b n) hq (fun g' z => ⟨by decide, iteN (by decide) z⟩) (fun s' g2 e2 f2 x2 hq2 => ⟨by decide, iteP (by decide) ?_⟩))
    rw [e2] at ok
    have k2 : s.2.2.2 + 1 ≤ s'.2.2.2 := ok.2.1
    have k3 := ok.1.1
    have k5 : dpc s'.2.1 s'.1 = dpc s.2.1 s.1 + (1 : Nat) := ok.2.2.2.2.1
    have d0 := h.2.2.2.2.1
    exact rc_main zk n540 n8 (f := f) (m := 4) (d := d) (D := D) (by decide) d1 d9 ok.1 (by show 4 * _ + 2 ≤ f; omega) (fun _ => by omega) (hb.fl f2 (by decide)) x2 (hq2.tr (f2.mono (by decide)) (fun g' f' => f2.trans f') (fun r g' f' x => x)) 540 (by omega) (by omega)
  | f + 1, 4, d, D, s, g, Q, _, d1, d9, h, hf, dd, hb, hx, hq => by
    have hf : 4 * (n + 1 - s.2.2.2) + 2 ≤ f + 1 := hf
    have hn := ζok_n zk
    have hp := h.1
    have dd := dd (Or.inr rfl)
    have tk := tok_ok (b := b) (m := 200) n540 (by omega) hp
    have tx := hx.2.2.2
    have e7 := cg_word tx
    have bw := hWord_bd (tok b n 200 s.2.2.2)
    rw [rR] at hq
    intro left l540 hl
    refine b_X3_readCond_17 hn ⟨by constructor <;> omega, iteN (by omega) ⟨by rw [e7]; constructor <;> omega, ?_⟩⟩
    rw [e7]
    by_cases c : hWord (tok b n 200 s.2.2.2) = 10
    · rw [if_pos c] at hq
      have w := (hWord_sort (t := tok b n 200 s.2.2.2) (by omega)).1
      have p1 := tk.2.2 (by omega) (by omega)
      have q1 : (rGo s (tok b n 200 s.2.2.2).2.2.1).2.2.2 = (tok b n 200 s.2.2.2).2.2.1 := rfl
      have h1 := RI_go h tk.2.1.2
      refine iteN (fun z => z c) (s_step zk n540 (by omega) tk.2.1.2 hx.2.2.1 tx.2.2.1 (fun g1 f1 t1 => ?_))
      have F1 : FL LQr g g1 := f1.mono (by decide)
      have ok := rR_ok (b := b) (xn := xn) n540 n8 (f := f) (m := 1) (d := d) (by decide) h1 (by rw [q1]; show 4 * _ + 1 ≤ f; omega) (fun z => by omega)
      refine rc_main zk n540 n8 (f := f) (m := 1) (d := d) (D := D) (by decide) d1 d9 h1 (by rw [q1]; show 4 * _ + 1 ≤ f; omega) (fun z => by omega) (hb.fl f1 (by decide)) (RX_go hx f1 (by decide) t1) (CR_sbd (hq.tr (P' := RX b n) (F1.mono (by decide)) (fun g' f' => F1.trans f') (fun r g' f' x => x)) (fun g' z => ⟨by decide, iteP rfl z⟩) (fun s' g2 e2 f2 x2 hq2 => ⟨by decide, iteN (by decide) ?_⟩))
      rw [e2] at ok
      obtain ⟨g1', g2', g3', g4', g5', g6'⟩ := ok
      have g2' : (tok b n 200 s.2.2.2).2.2.1 + 1 ≤ s'.2.2.2 := g2'
      have g3' : s'.1 + 2 * s.2.2.1 + 1 ≤ s.1 + 2 * s'.2.2.1 := g3'
      have g5' : dpc s'.2.1 s'.1 = dpc s.2.1 s.1 + (1 : Nat) := g5'
      have l2 := h.2.2.1
      have o20 := g1'.2.1
      have r := RI_joint (Or.inr rfl) g1' (by omega) (by omega)
      have np := g1'.1
      refine rc_add (s := s') (w := 9) (x := 0) (y := 0) hn x2 (by omega) rfl (fun g3 f3 x3 => ⟨by decide, iteP (by decide) ?_⟩)
      rw [show (left : Int) + (-1) = ((left - 1 : Nat) : Int) by omega]
      exact rc_main zk n540 n8 (f := f) (m := 4) (d := d) (D := D) (by decide) d1 d9 r.1 (by show 4 * (n + 1 - s'.2.2.2) + 2 ≤ f; omega) (fun _ => by show 1 ≤ dpc (rAdd s' 9 0 0).2.1 (s'.1 + 1); rw [r.2, g5']; omega) (((hb.fl f1 (by decide)).fl f2 (by decide)).fl f3 (by decide)) x3 (hq2.tr ((f2.mono (by decide)).trans (f3.mono (by decide))) (fun g' f' => f2.trans (f3.trans f')) (fun r g' f' x => x)) (left - 1) (by omega) (by show n + 1 ≤ s'.2.2.2 + 2 * (left - 1); omega)
    · rw [if_neg c] at hq
      exact iteP c (hq g FL.refl hx)
  | f + 1, m + 5, d, D, s, g, Q, hm, _, _, _, _, _, _, _, _ => by omega
end RU4
