/-! RULE: the class reads -/
def LQr : List (Nat × Int) := LT ++ [(38, 1), (38, 2), (39, -1)]
def LQx : List (Nat × Int) := LQr ++ [(1, 8), (1, 9)]
def RX (b : Int → Int) (n : Nat) (s : RS) (g : HI) : Prop := (g 38 1 = s.1 ∧ g 38 2 = s.2.2.1) ∧ (∀ k : Nat, k < s.1 → g 39 k = stv (s.2.1 k)) ∧ tpc b n 200 g ∧ TX (tok b n 200 s.2.2.2) g
def BX (xn : Nat → List Int) (nx : Nat) (g : HI) : Prop := g 4 4 = nx ∧ ∀ k : Nat, k < nx → g 6 k = er (xn k) ∧ okW (xn k)
theorem BX.fl {L : List (Nat × Int)} {xn : Nat → List Int} {nx : Nat} {g g' : HI} (a : BX xn nx g) (f : FL L g g') (c : (!inC L 4 && !inC L 6) = true) : BX xn nx g' := by
  simp only [Bool.and_eq_true, Bool.not_eq_true'] at c
  unfold BX
  rw [f.c 4 c.1, f.c 6 c.2]
  exact a
theorem box_v : ∀ r : Nat, r < 8 → bor 13 (bshl (r : Int) 16) = 13 + 65536 * (r : Int) := by decide +kernel
theorem sg_v : ∀ w : Nat, w < 4 → ∀ c : Nat, c < 3 → bor ((16 + w : Nat) : Int) (bshl ((60 + c : Nat) : Int) 8) = ((16 + w + 256 * (60 + c) : Nat) : Int) := by decide +kernel
theorem nr_v : ∀ k : Nat, k < 1000 → bshl (k : Int) 16 = ((65536 * k : Nat) : Int) := by decide +kernel
theorem size_v {w c v : Int} (hw : 16 ≤ w ∧ w ≤ 19) (hc : 60 ≤ c ∧ c ≤ 62) (hv : 0 ≤ v ∧ v ≤ 999) : bor (bor w (bshl c 8)) (bshl v 16) = w + 256 * c + 65536 * v := by
  obtain ⟨w', rfl⟩ := Int.eq_ofNat_of_zero_le (show 0 ≤ w - 16 by omega) |>.imp (fun k hk => (show w = ((16 + k : Nat) : Int) by omega))
  obtain ⟨c', rfl⟩ := Int.eq_ofNat_of_zero_le (show 0 ≤ c - 60 by omega) |>.imp (fun k hk => (show c = ((60 + k : Nat) : Int) by omega))
  obtain ⟨v', rfl⟩ := Int.eq_ofNat_of_zero_le hv.1
  rw [sg_v w' (by omega) c' (by omega), nr_v v' (by omega), bor_nat (by omega) (by omega), Nat.or_comm]
  have : 2 ^ 16 * v' + (16 + w' + 256 * (60 + c')) = 2 ^ 16 * v' ||| (16 + w' + 256 * (60 + c')) := Nat.two_pow_add_eq_or_of_lt (by omega) v'
  rw [show (65536 : Nat) * v' = 2 ^ 16 * v' by omega, ← this]
  omega
section RU3
variable {l : Launch} {D : Nat} {ζ : ZP} {h : HI} {Q : Int → HI → Prop} {QV : HI → Prop} {b : Int → Int} {n nx : Nat} {xn : Nat → List Int} {s : RS}
theorem rc_add (hn : 144 ≤ ζ.2.2.2.2) (hx : RX b n s h) (l40 : s.1 < 40) {w x y v : Int} (ev : v = stv (w, x, y)) (hq : ∀ g, FL LQr h g → RX b n (rAdd s w x y) g → Q 1 g) : RtI l (D + 1) mX3_addStep (zz ζ) [aP 38, aI v] h Q := by
  obtain ⟨⟨x1, x2⟩, xs, tp, tx⟩ := hx
  refine e_X3_addStep hn ⟨by rw [x1]; constructor <;> omega, iteP (by rw [x1]; omega) ⟨by rw [x1]; omega, ?_⟩⟩
  rw [x1]
  have F : FL [(39, -1), (38, 1)] h (hu (hu h 39 s.1 v) 38 1 (s.1 + 1)) := (FL.refl.ua (by decide)).u (by decide)
  refine hq _ (F.mono (by decide)) ⟨⟨?_, ?_⟩, fun k hk => ?_, tp.fl F (by decide), ?_⟩
  · rw [hu_s]; show _ = ((s.1 + 1 : Nat) : Int); omega
  · rw [F.at 38 2 (by decide)]; exact x2
  · have hk : k < s.1 + 1 := hk
    rw [hu_c _ _ _ (by decide), hu_eq]
    by_cases z : k = s.1
    · rw [if_pos ⟨rfl, by rw [z]⟩, z, add_at]; exact ev
    · rw [if_neg (fun q => z (by have := q.2; omega)), add_ne (by omega)]; exact xs k (by omega)
  · unfold TX; rw [F.c 1 (by decide)]; exact tx
theorem rc_named (hn : 144 ≤ ζ.2.2.2.2) {L : List Int} (oL : okW L) (n8 : nx ≤ 8) (hb : BX xn nx h) (hq : Q (wFd xn L nx 0) h) : RtI l (D + 1) mX0_boxNamed (zz ζ) [aP 4, aI (er L)] h Q := by
  have o2 := okW_er oL
  have e0 := hb.1
  have LP : ∀ (f i : Nat), i + f = nx → wFd xn L nx 0 = wFd xn L f i → G l (D + 1) 0 0 mX0_boxNamed (zz ζ) 2 [aP 4, aI (er L), aI i] [] h (qI (zz ζ) Q) := by
    intro f
    induction f with
    | zero =>
      intro i ei ew'
      rw [ew'] at hq
      exact b_X0_boxNamed_2 hn ⟨by constructor <;> omega, by rw [e0]; constructor <;> omega, iteP (by rw [e0]; omega) hq⟩
    | succ f ih =>
      intro i ei ew'
      have b1 := hb.2 i (by omega)
      have o1 := okW_er b1.2
      refine b_X0_boxNamed_2 hn ⟨by constructor <;> omega, by rw [e0]; constructor <;> omega, iteN (by rw [e0]; omega) ⟨by omega, by rw [b1.1]; constructor <;> omega, by constructor <;> omega, ?_⟩⟩
      rw [b1.1]
      rw [wFd] at ew'
      by_cases c : xn i = L
      · rw [if_pos c] at ew'
        rw [ew'] at hq
        exact iteN (fun z => z (by rw [c])) hq
      · rw [if_neg c] at ew'
        exact iteP (fun z => c (er_inj b1.2.2.2 oL.2.2 z)) (ih (i + 1) (by omega) ew')
  exact e_X0_boxNamed hn (LP nx 0 (by omega) rfl)
theorem RX_go (hx : RX b n s h) {L : List (Nat × Int)} {g : HI} {p : Nat} (f : FL L h g) (c : (!inC L 38 && !inC L 39 && !inL L 1 1 && !inL L 1 2 && !inC L 2) = true) (t : TX (tok b n 200 p) g) : RX b n (rGo s p) g := by
  simp only [Bool.and_eq_true] at c
  have c1 := c.1.1.1.1
  have c2 := c.1.1.1.2
  rw [Bool.not_eq_true'] at c1 c2
  refine ⟨?_, ?_, hx.2.2.1.fl f (by simp only [Bool.and_eq_true]; exact ⟨⟨c.1.1.2, c.1.2⟩, c.2⟩), t⟩
  · rw [f.c 38 c1]; exact hx.1
  · rw [f.c 39 c2]; exact hx.2.1
/-- an asking -/
theorem rc_atom (zk : ζok ζ) (n540 : n ≤ 540) (n8 : nx ≤ 8) (hp : s.2.2.2 ≤ n) (hb : BX xn nx h) (hx : RX b n s h) (l40 : s.1 < 40) {w : Int} (hw : 13 ≤ w ∧ w ≤ 19) (hq : CR (rAtom b n xn nx w s) LQx LQr h (RX b n) Q) : if ¬ w = 13 then (if 15 < w then RtI l (D + 8) mX3_readSize (zz ζ) [aP 38, aP 1, aI w] h (fun r3 h3 => (r3 = 0 ∨ r3 = 1) ∧ Q r3 h3) else RtI l (D + 8) mX3_addStep (zz ζ) [aP 38, aI w] h (fun r4 h4 => (r4 = 0 ∨ r4 = 1) ∧ Q r4 h4)) else RtI l (D + 8) mX3_readBox (zz ζ) [aP 38, aP 1, aP 4] h (fun r5 h5 => (r5 = 0 ∨ r5 = 1) ∧ Q r5 h5) := by
  have hn := ζok_n zk
  have tk := tok_ok (b := b) (m := 200) n540 (by omega) hp
  have tk1 := tok_ok (b := b) (m := 200) n540 (by omega) tk.2.1.2
  have tp := hx.2.2.1
  have tx := hx.2.2.2
  unfold rAtom at hq
  by_cases c : w = 13
  · rw [if_pos c] at hq
    refine iteN (fun z => z c) (e_X3_readBox hn ?_)
    refine cg_isName hn n540 (by omega) hp tx (fun c1 c2 => ⟨by decide, iteP (by decide) ?_⟩) (fun c1 => ⟨by decide, iteN (by decide) ?_⟩)
    · rw [if_pos ⟨c1, c2⟩] at hq
      rw [(tx.2.2.2.2.1 c1).1]
      have oL := tok_okW tk.1 c1
      have fd := wFd_bd (nm := xn) (L := (tok b n 200 s.2.2.2).2.2.2.2) (f := nx) (i := 0)
      refine rc_named hn oL n8 hb ⟨by constructor <;> omega, ?_⟩
      by_cases c3 : wFd xn (tok b n 200 s.2.2.2).2.2.2.2 nx 0 < 0
      · rw [if_pos c3] at hq
        exact iteN (by omega) (cg_refuse hn tx (fun g f a1 a2 => ⟨Or.inl rfl, Or.inl rfl, hq g (f.mono (by decide)) a1 a2⟩))
      · rw [if_neg c3] at hq
        refine iteP (by omega) (s_step zk n540 (by omega) tk.2.1.2 tp tx.2.2.1 (fun g1 f1 t1 => ?_))
        obtain ⟨r, er'⟩ := Int.eq_ofNat_of_zero_le (show 0 ≤ wFd xn (tok b n 200 s.2.2.2).2.2.2.2 nx 0 by omega)
        refine rc_add (s := rGo s (tok b n 200 s.2.2.2).2.2.1) (w := 2) (x := wFd xn (tok b n 200 s.2.2.2).2.2.2.2 nx 0) (y := 0) hn (RX_go hx f1 (by decide) t1) l40 ?_ (fun g f x => ⟨Or.inr rfl, Or.inr rfl, hq g ((f1.mono (by decide)).trans f) x⟩)
        rw [er', box_v r (by omega)]; rfl
    · rw [if_neg c1] at hq
      exact cg_refuse hn tx (fun g f a1 a2 => ⟨Or.inl rfl, Or.inl rfl, hq g (f.mono (by decide)) a1 a2⟩)
  · rw [if_neg c] at hq
    refine iteP c ?_
    by_cases c1 : w ≤ 15
    · rw [if_pos c1] at hq
      refine iteN (by omega) (rc_add (s := s) (w := w - 14) (x := 0) (y := 0) hn hx l40 ?_ (fun g f x => ⟨Or.inr rfl, hq g f x⟩))
      have : w = 14 ∨ w = 15 := by omega
      rcases this with z | z <;> subst z <;> rfl
    · rw [if_neg c1] at hq
      refine iteP (by omega) (e_X3_readSize hn ⟨cg_rg4 n540 (by omega) hp tx, ?_⟩)
      rw [tx.1]
      by_cases c2 : 60 ≤ (tok b n 200 s.2.2.2).1 ∧ (tok b n 200 s.2.2.2).1 ≤ 62
      · rw [if_pos c2] at hq
        refine iteN (by omega) (iteP c2.2 (s_step zk n540 (by omega) tk.2.1.2 tp tx.2.2.1 (fun g1 f1 t1 => ⟨cg_rg4 n540 (by omega) tk.2.1.2 t1, ?_⟩)))
        rw [t1.1]
        have tp1 := tp.fl f1 (by decide)
        by_cases c3 : (tok b n 200 (tok b n 200 s.2.2.2).2.2.1).1 = 3
        · rw [if_pos c3] at hq
          refine iteP c3 (s_step zk n540 (by omega) tk1.2.1.2 tp1 t1.2.2.1 (fun g2 f2 t2 => ?_))
          have v := tk1.1.2.2.2.1 c3
          rw [t1.2.2.2.1 c3, size_v (by omega) c2 v]
          refine rc_add (s := rGo s (tok b n 200 (tok b n 200 s.2.2.2).2.2.1).2.2.1) (w := w - 13) (x := (tok b n 200 s.2.2.2).1) (y := (tok b n 200 (tok b n 200 s.2.2.2).2.2.1).2.2.2.1) hn (RX_go hx (f1.trans f2) (by decide) t2) l40 ?_ (fun g f x => ⟨Or.inr rfl, Or.inr rfl, hq g ((f1.mono (by decide)).trans ((f2.mono (by decide)).trans f)) x⟩)
          show _ = if w - 13 = 7 then _ else if w - 13 = 8 then _ else if w - 13 = 9 then _ else if w - 13 = 0 then _ else if w - 13 = 1 then _ else if w - 13 = 2 then _ else w - 13 + 13 + 256 * (tok b n 200 s.2.2.2).1 + 65536 * (tok b n 200 (tok b n 200 s.2.2.2).2.2.1).2.2.2.1
          rw [if_neg (by omega), if_neg (by omega), if_neg (by omega), if_neg (by omega), if_neg (by omega), if_neg (by omega)]
          omega
        · rw [if_neg c3] at hq
          exact iteN c3 (cg_refuse hn t1 (fun g f a1 a2 => ⟨Or.inl rfl, Or.inl rfl, hq g ((f1.mono (by decide)).trans (f.mono (by decide))) a1 a2⟩))
      · rw [if_neg c2] at hq
        have rf : RtI l (D + 7) mX7_refuse (zz ζ) [aP 1, aI 1] h (fun r1 h1 => (r1 = 0 ∨ r1 = 1) ∧ (r1 = 0 ∨ r1 = 1) ∧ Q r1 h1) := cg_refuse hn tx (fun g f a1 a2 => ⟨Or.inl rfl, Or.inl rfl, hq g (f.mono (by decide)) a1 a2⟩)
        exact iteI (fun _ => rf) (fun _ => iteI (fun z => by omega) (fun _ => rf))
end RU3
