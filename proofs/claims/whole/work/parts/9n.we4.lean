/-! WELDS: the reference reads -/
def LMo : List (Nat × Int) := LN ++ [(97, 17)]
def LMn : List (Nat × Int) := LMo ++ [(97, 14), (97, 15)]
def LMs : List (Nat × Int) := LMo ++ [(126, -1), (127, -1), (128, -1), (129, -1), (130, -1), (131, -1), (132, -1), (133, 1), (134, 1)]
def LMe : List (Nat × Int) := LMs ++ [(97, 14), (97, 15)]
/-- what stood stays -/
def KP (h g : HI) : Prop := (∀ j : Int, j < 12 → g 127 j = h 127 j ∧ g 128 j = h 128 j ∧ g 129 j = h 129 j) ∧ ∀ j : Int, j < 80 → g 130 j = h 130 j ∧ g 131 j = h 131 j ∧ g 132 j = h 132 j
theorem KP.fl {L : List (Nat × Int)} {h g : HI} (f : FL L h g) (c : (!inC L 127 && !inC L 128 && !inC L 129 && !inC L 130 && !inC L 131 && !inC L 132) = true) : KP h g := by
  simp only [Bool.and_eq_true, Bool.not_eq_true'] at c
  unfold KP
  rw [f.c 127 c.1.1.1.1.1, f.c 128 c.1.1.1.1.2, f.c 129 c.1.1.1.2, f.c 130 c.1.1.2, f.c 131 c.1.2, f.c 132 c.2]
  exact ⟨fun _ _ => ⟨rfl, rfl, rfl⟩, fun _ _ => ⟨rfl, rfl, rfl⟩⟩
theorem KP.trans {h g g' : HI} (a : KP h g) (c : KP g g') : KP h g' := ⟨fun j hj => ⟨(c.1 j hj).1.trans (a.1 j hj).1, (c.1 j hj).2.1.trans (a.1 j hj).2.1, (c.1 j hj).2.2.trans (a.1 j hj).2.2⟩, fun j hj => ⟨(c.2 j hj).1.trans (a.2 j hj).1, (c.2 j hj).2.1.trans (a.2 j hj).2.1, (c.2 j hj).2.2.trans (a.2 j hj).2.2⟩⟩
theorem KP.u {h : HI} {k : Nat} {j v : Int} (c : (k = 126 ∨ k = 133 ∨ k = 134) ∨ (k ≤ 129 ∧ 12 ≤ j) ∨ 80 ≤ j) : KP h (hu h k j v) := by
  refine ⟨fun i hi => ⟨?_, ?_, ?_⟩, fun i hi => ⟨?_, ?_, ?_⟩⟩ <;> rw [hu_eq, if_neg (fun q => by omega)]
def ME (h g : HI) : Prop := FL LMe h g ∧ KP h g
def MF (h g : HI) : Prop := FL LMs h g ∧ KP h g
theorem MF.trans {h g g' : HI} (a : MF h g) (c : MF g g') : MF h g' := ⟨a.1.trans c.1, a.2.trans c.2⟩
theorem ME.trans {h g g' : HI} (a : MF h g) (c : ME g g') : ME h g' := ⟨(a.1.mono (by decide)).trans c.1, a.2.trans c.2⟩
theorem MF.fl {L : List (Nat × Int)} {h g : HI} (f : FL L h g) (c : (!inC L 127 && !inC L 128 && !inC L 129 && !inC L 130 && !inC L 131 && !inC L 132) = true) (s : L.all (fun q => inL LMs q.1 q.2) = true) : MF h g := ⟨f.mono s, KP.fl f c⟩
theorem ME.fl {L : List (Nat × Int)} {h g : HI} (f : FL L h g) (c : (!inC L 127 && !inC L 128 && !inC L 129 && !inC L 130 && !inC L 131 && !inC L 132) = true) (s : L.all (fun q => inL LMe q.1 q.2) = true) : ME h g := ⟨f.mono s, KP.fl f c⟩
theorem MF.u {h : HI} {k : Nat} {j v : Int} (c : (k = 126 ∨ ((k = 133 ∨ k = 134) ∧ j = 1)) ∨ (126 ≤ k ∧ k ≤ 129 ∧ 12 ≤ j) ∨ (130 ≤ k ∧ k ≤ 132 ∧ 80 ≤ j)) : MF h (hu h k j v) := by
  refine ⟨?_, KP.u (by omega)⟩
  intro a i q
  rw [hu_eq, if_neg (fun z => ?_)]
  have : k = 126 ∨ k = 127 ∨ k = 128 ∨ k = 129 ∨ k = 130 ∨ k = 131 ∨ k = 132 ∨ ((k = 133 ∨ k = 134) ∧ j = 1) := by omega
  rw [z.1, z.2] at q
  have t : inL LMs k j = true := by
    rcases this with y | y | y | y | y | y | y | ⟨y | y, y2⟩
    · rw [y]; exact inL_of.mpr ⟨(126, -1), by decide, rfl, Or.inl rfl⟩
    · rw [y]; exact inL_of.mpr ⟨(127, -1), by decide, rfl, Or.inl rfl⟩
    · rw [y]; exact inL_of.mpr ⟨(128, -1), by decide, rfl, Or.inl rfl⟩
    · rw [y]; exact inL_of.mpr ⟨(129, -1), by decide, rfl, Or.inl rfl⟩
    · rw [y]; exact inL_of.mpr ⟨(130, -1), by decide, rfl, Or.inl rfl⟩
    · rw [y]; exact inL_of.mpr ⟨(131, -1), by decide, rfl, Or.inl rfl⟩
    · rw [y]; exact inL_of.mpr ⟨(132, -1), by decide, rfl, Or.inl rfl⟩
    · rw [y, y2]; decide
    · rw [y, y2]; decide
  rw [t] at q; cases q
def NXm (S : NS) (g : HI) : Prop := g 134 1 = S.1 ∧ ∀ j : Nat, j < S.1 → g 130 (80 + j) = S.2.1 j ∧ g 131 (80 + j) = S.2.2.1 j ∧ g 132 (80 + j) = S.2.2.2 j
def WM (b : Int → Int) (n : Nat) : WS → HI → Prop
  | (k, nm, A, B, F, S, p), g => g 133 1 = k ∧ (∀ j : Nat, j < k → g 126 (12 + j) = ew (nm j) ∧ g 127 (12 + j) = A j ∧ g 128 (12 + j) = B j ∧ g 129 (12 + j) = F j) ∧ NXm S g ∧ (tpm b n 400 g ∧ rsI g) ∧ TM (tok b n 400 p) g
theorem rs_fl {L : List (Nat × Int)} {h g : HI} (a : rsI h) (f : FL L h g) (c : inC L 102 = false) : rsI g := by
  unfold rsI; rw [f.c 102 c]; exact a
section WE4
variable {l : Launch} {D : Nat} {ζ : ZP} {h : HI} {Q : Int → HI → Prop} {QV : HI → Prop} {b : Int → Int} {n k p : Nat} {nm : Nat → List Int} {A B F : Nat → Int} {S : NS}
theorem mw_node (hn : 144 ≤ ζ.2.2.2.2) (n540 : n ≤ 540) (hp : p ≤ n) (tp : tpm b n 400 h) (tx : TM (tok b n 400 p) h) (hq : match wNode b n p with
    | .inl e => ∀ g, FL LMn h g → g 97 14 = e.1 → g 97 15 = e.2 → Q 0 g
    | .inr r => ∀ g, FL LMo h g → g 97 17 = r.1 → TM (tok b n 400 r.2) g → Q 1 g) : RtI l (D + 3) mX12_node (zz ζ) [aP 97] h Q := by
  have tk := tok_ok (b := b) (m := 400) n540 (by omega) hp
  have tk1 := tok_ok (b := b) (m := 400) n540 (by omega) tk.2.1.2
  unfold wNode at hq
  refine e_X12_node hn ⟨by rw [tx.1]; exact mkK_rg _, ?_⟩
  rw [tx.1]
  by_cases c1 : (tok b n 400 p).1 = 3
  · rw [if_pos c1] at hq
    have v := tk.1.2.2.2.1 c1
    have e13 := tx.2.2.2.1 c1
    refine iteP ((mkK_2 tk.1).mpr c1) ⟨by rw [e13]; constructor <;> omega, ?_⟩
    rw [e13]
    by_cases c2 : (tok b n 400 p).2.2.2.1 < 0 ∨ 59 < (tok b n 400 p).2.2.2.1
    · rw [if_pos c2] at hq
      exact iteN (by omega) (mg_bad hn tx (fun g f a1 a2 => ⟨Or.inl rfl, hq g (f.mono (by decide)) a1 a2⟩))
    · rw [if_neg c2] at hq
      refine iteP (by omega) (s_next hn n540 (by omega) tk.2.1.2 tp tx.2.2.1 (fun g f1 t1 => ?_))
      have tp1 := tp.fl f1 (by decide)
      have fin : ∀ v, FL [(97, 17)] g (hu g 97 17 v) := fun v => FL.refl.u (by decide)
      have nxt : ∀ {v : Int} {Q' : HI → Prop}, (∀ g', FL LMo h g' → g' 97 17 = v → TM (tok b n 400 (tok b n 400 (tok b n 400 p).2.2.1).2.2.1) g' → Q' g') → RtV l (D + 2) mX12_next (zz ζ) [aP 97] (hu g 97 17 v) Q' := by
        intro v Q' hq'
        refine s_next hn n540 (by omega) tk1.2.1.2 (tp1.fl (fin v) (by decide)) (by rw [(fin v).at 97 4 (by decide)]; exact t1.2.2.1) (fun g' f2 t2 => ?_)
        exact hq' g' (((f1.mono (by decide)).trans ((fin v).mono (by decide))).trans (f2.mono (by decide))) (by rw [f2.at 97 17 (by decide), hu_s]) t2
      refine mg_sign hn n540 (by omega) tk.2.1.2 t1 (by decide) ?_
      by_cases c3 : (tok b n 400 (tok b n 400 p).2.2.1).1 = 43
      · rw [if_pos c3] at hq ⊢
        refine ⟨by decide, iteP (by decide) (mg_sign hn n540 (by omega) tk.2.1.2 t1 (by decide) ?_)⟩
        rw [if_pos c3]
        exact ⟨by decide, iteN (by decide) (nxt (fun g' f' a1 a2 => hq g' f' a1 a2))⟩
      · rw [if_neg c3] at hq ⊢
        refine ⟨by decide, iteN (by decide) (mg_sign hn n540 (by omega) tk.2.1.2 t1 (by decide) ?_)⟩
        by_cases c4 : (tok b n 400 (tok b n 400 p).2.2.1).1 = 45
        · rw [if_pos c4] at hq ⊢
          refine ⟨by decide, iteP (by decide) (mg_sign hn n540 (by omega) tk.2.1.2 t1 (by decide) ?_)⟩
          rw [if_neg c3]
          exact ⟨by decide, iteP rfl (nxt (fun g' f' a1 a2 => hq g' f' (by rw [a1]; show _ + (0 : Int) = _; omega) a2))⟩
        · rw [if_neg c4] at hq ⊢
          exact ⟨by decide, iteN (by decide) (mg_bad hn t1 (fun g' f a1 a2 => ⟨Or.inl rfl, hq g' ((f1.mono (by decide)).trans (f.mono (by decide))) a1 a2⟩))⟩
  · rw [if_neg c1] at hq
    exact iteN (fun z => c1 ((mkK_2 tk.1).mp z)) (mg_bad hn tx (fun g f a1 a2 => ⟨Or.inl rfl, hq g (f.mono (by decide)) a1 a2⟩))
theorem mw_strip (hn : 144 ≤ ζ.2.2.2.2) {L : List Int} (oL : okW L) (e0 : h 133 1 = k) (k12 : k ≤ 12) (e16 : h 97 16 = ew L) (hb : ∀ j : Nat, j < k → h 126 (12 + j) = ew (nm j) ∧ okW (nm j)) (hq : Q (wFd nm L k 0) h) : RtI l (D + 1) mX12_strip (zz ζ) [aP 97] h Q := by
  have o2 := okW_ew oL
  have LP : ∀ (f i : Nat), i + f = k → wFd nm L k 0 = wFd nm L f i → G l (D + 1) 0 0 mX12_strip (zz ζ) 2 [aP 97, aI i] [] h (qI (zz ζ) Q) := by
    intro f
    induction f with
    | zero =>
      intro i ei ew'
      rw [ew'] at hq
      exact b_X12_strip_2 hn ⟨by constructor <;> omega, by rw [e0]; constructor <;> omega, iteP (by rw [e0]; omega) hq⟩
    | succ f ih =>
      intro i ei ew'
      have b1 := hb i (by omega)
      have o1 := okW_ew b1.2
      refine b_X12_strip_2 hn ⟨by constructor <;> omega, by rw [e0]; constructor <;> omega, iteN (by rw [e0]; omega) ⟨by omega, ?_⟩⟩
      rw [b1.1, e16]
      refine ⟨by constructor <;> omega, by constructor <;> omega, ?_⟩
      rw [wFd] at ew'
      by_cases c : nm i = L
      · rw [if_pos c] at ew'
        rw [ew'] at hq
        exact iteN (fun z => z (by rw [c])) hq
      · rw [if_neg c] at ew'
        exact iteP (fun z => c (ew_inj b1.2.2.2 oL.2.2 z)) (ih (i + 1) (by omega) ew')
  exact e_X12_strip hn (LP k 0 (by omega) rfl)
theorem mw_afters (hn : 144 ≤ ζ.2.2.2.2) (n540 : n ≤ 540) (k12 : k < 12) {x2 : Int} : ∀ {f : Nat} {acc : Int} {p : Nat} {g : HI}, p ≤ n → n + 1 ≤ p + 2 * f → tpm b n 400 g → rsI g → TM (tok b n 400 p) g → g 133 1 = k → (∀ j : Nat, j < k → g 126 (12 + j) = ew (nm j) ∧ okW (nm j)) → g 129 (12 + k) = acc → (match wAfter b n k nm f acc p with
    | .inl e => ∀ g', ME g g' → g' 97 14 = e.1 → g' 97 15 = e.2 → Q 0 g'
    | .inr r => ∀ g', FL (LN ++ [(129, -1)]) g g' → g' 129 (12 + k) = r.1 → (∀ j : Int, j ≠ 12 + k → g' 129 j = g 129 j) → TM (tok b n 400 r.2) g' → G l (D + 4) 0 0 mX12_readStrip (zz ζ) 193 [aP 97, aI (12 + k), aL x2, aU, aU] [] g' (qI (zz ζ) Q)) → G l (D + 4) 0 0 mX12_readStrip (zz ζ) 127 [aP 97, aI (12 + k), aL x2, aU, aU] [] g (qI (zz ζ) Q)
  | 0, acc, p, g, hp, hf, _, _, _, _, _, _, _ => by omega
  | f + 1, acc, p, g, hp, hf, tp, rs, tx, e0, hb, ea, hq => by
    have tk := tok_ok (b := b) (m := 400) n540 (by omega) hp
    have tk1 := tok_ok (b := b) (m := 400) n540 (by omega) tk.2.1.2
    rw [wAfter] at hq
    refine b_X12_readStrip_127 hn (mg_isWord (k := 21) hn n540 (by omega) hp tx (by decide) rfl (fun c => ⟨by decide, iteN (by decide) ?_⟩) (fun c => ⟨by decide, iteP rfl ?_⟩))
    · have c : hWord (tok b n 400 p) = 21 := c
      rw [if_pos c] at hq
      refine s_next hn n540 (by omega) tk.2.1.2 tp tx.2.2.1 (fun g1 f1 t1 => ?_)
      have tp1 := tp.fl f1 (by decide)
      have rs1 := rs_fl rs f1 (by decide)
      have z0 : g1 133 = g 133 := f1.c 133 (by decide)
      have z3 : g1 129 = g 129 := f1.c 129 (by decide)
      have z7 : g1 126 = g 126 := f1.c 126 (by decide)
      refine mg_isName hn n540 (by omega) tk.2.1.2 t1 rs1 (fun c1 c2 => ⟨by decide, iteP (by decide) ?_⟩) (fun c1 => ⟨by decide, iteN (by decide) ?_⟩)
      · rw [if_pos ⟨c1, c2⟩] at hq
        have oL := tok_okW tk1.1 c1
        have e16 := t1.2.2.2.2.1 c1
        have fd := wFd_bd (nm := nm) (L := (tok b n 400 (tok b n 400 p).2.2.1).2.2.2.2) (f := k) (i := 0)
        refine mw_strip hn oL (by rw [z0]; exact e0) (by omega) e16 (by rw [z7]; exact hb) ⟨by constructor <;> omega, ?_⟩
        by_cases c3 : wFd nm (tok b n 400 (tok b n 400 p).2.2.1).2.2.2.2 k 0 < 0
        · rw [if_pos c3] at hq
          exact iteN (by omega) (mg_bad hn t1 (fun g' f' a1 a2 => ⟨Or.inl rfl, hq g' (ME.fl (L := LN ++ [(97, 14), (97, 15)]) ((f1.mono (by decide)).trans (f'.mono (by decide))) (by decide) (by decide)) a1 a2⟩))
        · rw [if_neg c3] at hq
          refine iteP (by omega) ⟨by omega, mw_strip hn oL (by rw [z0]; exact e0) (by omega) e16 (by rw [z7]; exact hb) ?_⟩
          rw [z3, ea]
          have F : ∀ v, FL [(129, -1)] g1 (hu g1 129 (12 + k) v) := fun v => FL.refl.ua (by decide)
          refine s_next hn n540 (by omega) tk1.2.1.2 (tp1.fl (F _) (by decide)) (by rw [(F _).c 97 (by decide)]; exact t1.2.2.1) (fun g2 f2 t2 => ?_)
          have p1 := tk.2.2 (by have := (hWord_sort (t := tok b n 400 p) (by omega)).1; omega) (by have := (hWord_sort (t := tok b n 400 p) (by omega)).1; omega)
          have p2 := tk1.2.2 (by omega) (by omega)
          have FF : FL (LN ++ [(129, -1)]) g g2 := ((f1.mono (by decide)).trans ((F _).mono (by decide))).trans (f2.mono (by decide))
          have MM : MF g g2 := ((MF.fl f1 (by decide) (by decide)).trans (MF.u (by omega))).trans (MF.fl f2 (by decide) (by decide))
          refine mw_afters hn n540 k12 (f := f) (acc := bor acc (bshl 1 (wFd nm (tok b n 400 (tok b n 400 p).2.2.1).2.2.2.2 k 0))) tk1.2.1.2 (by omega) ((tp1.fl (F _) (by decide)).fl f2 (by decide)) (rs_fl (rs_fl rs1 (F _) (by decide)) f2 (by decide)) t2 ?_ ?_ ?_ ?_
          · rw [f2.c 133 (by decide), (F _).c 133 (by decide), z0]; exact e0
          · rw [f2.c 126 (by decide), (F _).c 126 (by decide), z7]; exact hb
          · rw [f2.c 129 (by decide), hu_s]
          · revert hq
            cases wAfter b n k nm f (bor acc (bshl 1 (wFd nm (tok b n 400 (tok b n 400 p).2.2.1).2.2.2.2 k 0))) (tok b n 400 (tok b n 400 p).2.2.1).2.2.1 with
            | inl e => exact fun hq g' f' a1 a2 => hq g' (ME.trans MM f') a1 a2
            | inr r =>
              refine fun hq g' f' a1 a2 a3 => hq g' (FF.trans f') a1 (fun j hj => ?_) a3
              rw [a2 j hj, f2.c 129 (by decide), hu_j _ _ _ hj, z3]
      · rw [if_neg c1] at hq
        exact mg_bad hn t1 (fun g' f' a1 a2 => ⟨Or.inl rfl, hq g' (ME.fl (L := LN ++ [(97, 14), (97, 15)]) ((f1.mono (by decide)).trans (f'.mono (by decide))) (by decide) (by decide)) a1 a2⟩)
    · have c : hWord (tok b n 400 p) ≠ 21 := c
      rw [if_neg c] at hq
      exact hq g FL.refl ea (fun _ _ => rfl) tx
end WE4
