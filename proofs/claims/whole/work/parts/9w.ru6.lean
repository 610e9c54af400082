/-! RULE: the reference's askings -/
theorem PLc_mid : ∀ {A B : List Int} {x : Int} {g : HI}, PLc (A ++ x :: B) g → g 112 B.length = x
  | [], _, _, _, p => p.1
  | _ :: A, _, _, _, p => PLc_mid (A := A) p.2
theorem wFd_y {nm : Nat → List Int} {L : List Int} : ∀ {f i : Nat}, 0 ≤ wFd nm L f i → nm (wFd nm L f i).toNat = L
  | 0, i, h => by have : (0 : Int) ≤ -1 := h; omega
  | f + 1, i, h => by
    rw [wFd] at h ⊢
    by_cases c : nm i = L
    · rw [if_pos c]; rw [Int.toNat_natCast]; exact c
    · rw [if_neg c] at h ⊢; exact wFd_y h
theorem wFd_n {nm : Nat → List Int} {L : List Int} : ∀ {f i : Nat}, wFd nm L f i < 0 → ∀ j, i ≤ j → j < i + f → nm j ≠ L
  | 0, i, _, j, h1, h2 => by omega
  | f + 1, i, h, j, h1, h2 => by
    rw [wFd] at h
    by_cases c : nm i = L
    · rw [if_pos c] at h; omega
    · rw [if_neg c] at h
      by_cases z : j = i
      · rw [z]; exact c
      · exact wFd_n h j (by omega) (by omega)
def atv (w : Int) : Int := if w = 14 then 0 else if w = 15 then 1 else if w = 13 then 2 else if w = 16 then 3 else if w = 17 then 4 else if w = 18 then 5 else if w = 19 then 6 else -1
section RU6
variable {l : Launch} {D : Nat} {ζ : ZP} {h : HI} {Q : Int → HI → Prop} {QV : HI → Prop} {b : Int → Int} {n nx : Nat} {xn : Nat → List Int} {s : RS} {P : List Int}
theorem mr_open (hn : 144 ≤ ζ.2.2.2.2) (hx : RM b n xn nx P s h) (p30 : P.length ≤ 30) (hq : Q (cntO P) h) : RtI l (D + 1) mX12_open (zz ζ) [aP 97] h Q := by
  have LP : ∀ (k : Nat) (A B : List Int), P = A ++ B → A.length = k → G l (D + 1) 0 0 mX12_open (zz ζ) 4 [aP 97, aI (cntO B), aI B.length] [] h (qI (zz ζ) Q) := by
    intro k
    induction k with
    | zero =>
      intro A B e hk
      have : A = [] := List.eq_nil_of_length_eq_zero hk
      subst this
      have e : P = B := e
      subst e
      exact b_X12_open_4 hn ⟨by constructor <;> omega, by rw [hx.2.1.1]; constructor <;> omega, iteP (by rw [hx.2.1.1]; omega) hq⟩
    | succ k ih =>
      intro A B e hk
      rcases List.eq_nil_or_concat A with z | ⟨A', x, z⟩
      · rw [z] at hk; cases hk
      · subst z
        rw [List.concat_eq_append] at e hk
        have e1 : P = A' ++ (x :: B) := by rw [e, List.append_assoc]; rfl
        have lk : A'.length = k := by rw [List.length_append] at hk; have : [x].length = 1 := rfl; omega
        have ln : P.length = A'.length + (B.length + 1) := by rw [e1, List.length_append]; rfl
        have ex : h 112 B.length = x := PLc_mid (A := A') (e1 ▸ hx.2.1.2.1)
        have ox := hx.2.1.2.2 x (by rw [e1]; exact List.mem_append_right _ List.mem_cons_self)
        have st := ih A' (x :: B) e1 lk
        have c1 : cntO (x :: B) = cntO B + (if x = 7 ∨ x = 10 then 1 else 0) := rfl
        have c2 : (x :: B).length = B.length + 1 := rfl
        rw [c1, c2] at st
        refine b_X12_open_4 hn ⟨by constructor <;> omega, by rw [hx.2.1.1]; constructor <;> omega, iteN (by rw [hx.2.1.1]; omega) ⟨by omega, by rw [ex]; constructor <;> omega, ?_⟩⟩
        rw [ex]
        by_cases c7 : x = 7
        · rw [if_pos (Or.inl c7)] at st
          exact iteP c7 st
        · refine iteN c7 ?_
          by_cases c10 : x = 10
          · rw [if_pos (Or.inr c10)] at st
            exact iteN (fun z => z c10) st
          · rw [if_neg (by omega)] at st
            exact iteP c10 (by rw [show ((cntO B : Nat) : Int) + 0 = ((cntO B + 0 : Nat) : Int) by omega]; exact st)
  exact e_X12_open hn (LP P.length P [] (List.append_nil P).symm rfl)
theorem mr_isOpen (hn : 144 ≤ ζ.2.2.2.2) (hx : RM b n xn nx P s h) (p30 : P.length ≤ 30) (hy : (10 : Int) ∈ P → Q 1 h) (hz : (10 : Int) ∉ P → Q 0 h) : RtI l (D + 1) mX12_isOpen (zz ζ) [aP 97] h Q := by
  have LP : ∀ (k : Nat) (A B : List Int), P = A ++ B → A.length = k → (10 : Int) ∉ B → G l (D + 1) 0 0 mX12_isOpen (zz ζ) 2 [aP 97, aI B.length] [] h (qI (zz ζ) Q) := by
    intro k
    induction k with
    | zero =>
      intro A B e hk no
      have : A = [] := List.eq_nil_of_length_eq_zero hk
      subst this
      have e : P = B := e
      subst e
      exact b_X12_isOpen_2 hn ⟨by constructor <;> omega, by rw [hx.2.1.1]; constructor <;> omega, iteP (by rw [hx.2.1.1]; omega) (hz no)⟩
    | succ k ih =>
      intro A B e hk no
      rcases List.eq_nil_or_concat A with z | ⟨A', x, z⟩
      · rw [z] at hk; cases hk
      · subst z
        rw [List.concat_eq_append] at e hk
        have e1 : P = A' ++ (x :: B) := by rw [e, List.append_assoc]; rfl
        have lk : A'.length = k := by rw [List.length_append] at hk; have : [x].length = 1 := rfl; omega
        have ln : P.length = A'.length + (B.length + 1) := by rw [e1, List.length_append]; rfl
        have ex : h 112 B.length = x := PLc_mid (A := A') (e1 ▸ hx.2.1.2.1)
        have ox := hx.2.1.2.2 x (by rw [e1]; exact List.mem_append_right _ List.mem_cons_self)
        refine b_X12_isOpen_2 hn ⟨by constructor <;> omega, by rw [hx.2.1.1]; constructor <;> omega, iteN (by rw [hx.2.1.1]; omega) ⟨by omega, by rw [ex]; constructor <;> omega, ?_⟩⟩
        rw [ex]
        by_cases c10 : x = 10
        · exact iteN (fun z => z c10) (hy (by rw [e1, c10]; exact List.mem_append_right _ List.mem_cons_self))
        · refine iteP c10 (ih A' (x :: B) e1 lk (fun z => ?_))
          rcases List.mem_cons.mp z with y | y
          · exact c10 y.symm
          · exact no y
  exact e_X12_isOpen hn (LP P.length P [] (List.append_nil P).symm rfl (by simp))
theorem mr_atom (hn : 144 ≤ ζ.2.2.2.2) (n540 : n ≤ 540) {p : Nat} (hp : p ≤ n) (tm : TM (tok b n 200 p) h) (hq : Q (atv (hWord (tok b n 200 p))) h) : RtI l (D + 2) mX12_atom (zz ζ) [aP 97] h Q := by
  have bw := hWord_bd (tok b n 200 p)
  refine e_X12_atom hn ?_
  have no : ∀ {k : Nat} {v : Int}, hWord (tok b n 200 p) = k → atv k = v → Q v h := by
    intro k v e1 e2
    rw [e1, e2] at hq; exact hq
  refine mg_isWord (k := 14) hn n540 (by omega) hp tm (by decide) rfl (fun c => ⟨by decide, iteN (by decide) (no c rfl)⟩) (fun n0 => ⟨by decide, iteP rfl ?_⟩)
  refine mg_isWord (k := 15) hn n540 (by omega) hp tm (by decide) rfl (fun c => ⟨by decide, iteN (by decide) (no c rfl)⟩) (fun n1 => ⟨by decide, iteP rfl ?_⟩)
  refine mg_isWord (k := 13) hn n540 (by omega) hp tm (by decide) rfl (fun c => ⟨by decide, iteN (by decide) (no c rfl)⟩) (fun n2 => ⟨by decide, iteP rfl ?_⟩)
  refine mg_isWord (k := 16) hn n540 (by omega) hp tm (by decide) rfl (fun c => ⟨by decide, iteN (by decide) (no c rfl)⟩) (fun n3 => ⟨by decide, iteP rfl ?_⟩)
  refine mg_isWord (k := 17) hn n540 (by omega) hp tm (by decide) rfl (fun c => ⟨by decide, iteN (by decide) (no c rfl)⟩) (fun n4 => ⟨by decide, iteP rfl ?_⟩)
  refine mg_isWord (k := 18) hn n540 (by omega) hp tm (by decide) rfl (fun c => ⟨by decide, iteN (by decide) (no c rfl)⟩) (fun n5 => ⟨by decide, iteP rfl ?_⟩)
  refine mg_isWord (k := 19) hn n540 (by omega) hp tm (by decide) rfl (fun c => ⟨by decide, iteN (by decide) (no c rfl)⟩) (fun n6 => ⟨by decide, iteP rfl ?_⟩)
  have e : atv (hWord (tok b n 200 p)) = -1 := by
    unfold atv
    rw [if_neg (by omega), if_neg (by omega), if_neg (by omega), if_neg (by omega), if_neg (by omega), if_neg (by omega), if_neg (by omega)]
  rw [e] at hq; exact hq
theorem mr_asks (hn : 144 ≤ ζ.2.2.2.2) (n540 : n ≤ 540) (n8 : nx ≤ 8) (di : ∀ k k', k < nx → k' < nx → xn k = xn k' → k = k') (hp : s.2.2.2 ≤ n) (hx : RM b n xn nx P s h) (p30 : P.length ≤ 30) (l64 : s.1 + 1 + P.length ≤ 64) {w : Int} (hw : 13 ≤ w ∧ w ≤ 19) (hq : match rAtom b n xn nx w s with
    | .inl e => ∀ g, FL LUe h g → g 97 14 = e.1 → g 97 15 = e.2 → Q 0 g
    | .inr s' => ∀ g, FL LU h g → RM b n xn nx (wdn 3 P s').1 (wdn 3 P s').2 g → Q 1 g) : RtI l (D + 3) mX12_asks (zz ζ) [aP 97, aI (atv w)] h Q := by
  have tk := tok_ok (b := b) (m := 200) n540 (by omega) hp
  have tk1 := tok_ok (b := b) (m := 200) n540 (by omega) tk.2.1.2
  have tp := hx.2.2.1.1
  have tx := hx.2.2.2
  unfold rAtom at hq
  by_cases c : w = 13
  · rw [if_pos c] at hq
    have ea : atv w = 2 := by rw [c]; rfl
    rw [ea]
    refine e_X12_asks hn ⟨by decide, iteN (by decide) ?_⟩
    refine mg_isName hn n540 (by omega) hp tx hx.2.2.1.2.1 (fun c1 c2 => ⟨by decide, iteP (by decide) ?_⟩) (fun c1 => ⟨by decide, iteN (by decide) ?_⟩)
    · rw [if_pos ⟨c1, c2⟩] at hq
      have oL := tok_okW tk.1 c1
      have e16 := tx.2.2.2.2.1 c1
      have o2 := okW_ew oL
      have fd := wFd_bd (nm := xn) (L := (tok b n 200 s.2.2.2).2.2.2.2) (f := nx) (i := 0)
      have e1 := hx.2.2.1.2.2.1
      have LP : ∀ (f i : Nat) (v : Int), i + f = nx → ((v = -1 ∧ ∀ j, j < i → xn j ≠ (tok b n 200 s.2.2.2).2.2.2.2) ∨ (∃ k : Nat, v = k ∧ k < i ∧ xn k = (tok b n 200 s.2.2.2).2.2.2.2)) → G l (D + 3) 0 0 mX12_asks (zz ζ) 27 [aP 97, aI 2, aI v, aI 0, aI i] [] h (qI (zz ζ) Q) := by
        intro f
        induction f with
        | zero =>
          intro i v ei hv
          have ei : i = nx := ei
          have ev : v = wFd xn (tok b n 200 s.2.2.2).2.2.2.2 nx 0 := by
            rcases hv with ⟨z1, z2⟩ | ⟨k, z1, z2, z3⟩
            · rcases fd with y | y
              · rw [y]; exact z1
              · have := wFd_y (nm := xn) (L := (tok b n 200 s.2.2.2).2.2.2.2) (f := nx) (i := 0) (by omega)
                exact absurd this (z2 _ (by omega))
            · rcases fd with y | y
              · exact absurd z3 (wFd_n (nm := xn) (L := (tok b n 200 s.2.2.2).2.2.2.2) (f := nx) (i := 0) (by omega) k (by omega) (by omega))
              · have := wFd_y (nm := xn) (L := (tok b n 200 s.2.2.2).2.2.2.2) (f := nx) (i := 0) (by omega)
                have := di k _ (by omega) (by omega) (z3.trans this.symm)
                omega
          refine b_X12_asks_27 hn ⟨by constructor <;> omega, by rw [e1]; constructor <;> omega, iteP (by rw [e1]; omega) ⟨by constructor <;> omega, ?_⟩⟩
          rw [ev]
          by_cases c3 : wFd xn (tok b n 200 s.2.2.2).2.2.2.2 nx 0 < 0
          · rw [if_pos c3] at hq
            exact iteN (by omega) (mg_bad hn tx (fun g f a1 a2 => ⟨Or.inl rfl, hq g (f.mono (by decide)) a1 a2⟩))
          · rw [if_neg c3] at hq
            refine iteP (by omega) (s_next hn n540 (by omega) tk.2.1.2 tp tx.2.2.1 (fun g1 f1 t1 => ?_))
            refine mr_write hn (RM_go hx f1 (by decide) t1) (by show s.1 < 64; omega) (fun g2 f2 x2 => ?_)
            exact mr_Down hn (by decide) x2 p30 (by show s.1 + 1 + P.length ≤ 64; omega) (fun g3 f3 x3 => hq g3 ((f1.mono (by decide)).trans (f2.trans f3)) x3)
        | succ f ih =>
          intro i v ei hv
          have b1 := hx.2.2.1.2.2.2 i (by omega)
          have o1 := okW_ew b1.2
          refine b_X12_asks_27 hn ⟨by constructor <;> omega, by rw [e1]; constructor <;> omega, iteN (by rw [e1]; omega) ⟨by omega, ?_⟩⟩
          rw [b1.1, e16]
          refine ⟨by constructor <;> omega, by constructor <;> omega, ?_⟩
          rw [show ((i : Int) + 1) = ((i + 1 : Nat) : Int) by omega]
          by_cases c3 : ew (xn i) = ew (tok b n 200 s.2.2.2).2.2.2.2
          · exact iteN (fun z => z c3) (ih (i + 1) i (by omega) (Or.inr ⟨i, rfl, by omega, ew_inj b1.2.2.2 oL.2.2 c3⟩))
          · refine iteP c3 (ih (i + 1) v (by omega) ?_)
            rcases hv with ⟨z1, z2⟩ | ⟨k, z1, z2, z3⟩
            · refine Or.inl ⟨z1, fun j hj => ?_⟩
              by_cases z : j = i
              · rw [z]; exact fun q => c3 (by rw [q])
              · exact z2 j (by omega)
            · exact Or.inr ⟨k, z1, by omega, z3⟩
      exact LP nx 0 (-1) (by omega) (Or.inl ⟨rfl, fun j hj => by omega⟩)
    · rw [if_neg c1] at hq
      exact mg_bad hn tx (fun g f a1 a2 => ⟨Or.inl rfl, hq g (f.mono (by decide)) a1 a2⟩)
  · rw [if_neg c] at hq
    by_cases c1 : w ≤ 15
    · rw [if_pos c1] at hq
      have ea : atv w = w - 14 := by
        have : w = 14 ∨ w = 15 := by omega
        rcases this with z | z <;> rw [z] <;> rfl
      rw [ea]
      refine e_X12_asks hn ⟨by constructor <;> omega, iteP (by omega) (iteP (by omega) ?_)⟩
      refine mr_write hn hx (by omega) (fun g2 f2 x2 => ?_)
      exact mr_Down hn (by decide) x2 p30 (by show s.1 + 1 + P.length ≤ 64; omega) (fun g3 f3 x3 => hq g3 (f2.trans f3) x3)
    · rw [if_neg c1] at hq
      have ea : atv w = w - 13 := by
        have : w = 16 ∨ w = 17 ∨ w = 18 ∨ w = 19 := by omega
        rcases this with z | z | z | z <;> rw [z] <;> rfl
      rw [ea]
      -- behind the sign
      have go : (60 ≤ (tok b n 200 s.2.2.2).1 ∧ (tok b n 200 s.2.2.2).1 ≤ 62) → G l (D + 3) 0 0 mX12_asks (zz ζ) 124 [aP 97, aI (w - 13), aU, aU, aU] [] h (qI (zz ζ) Q) := by
        intro c2
        rw [if_pos c2] at hq
        have e13 := tx.2.2.2.2.2 (by omega)
        refine b_X12_asks_124 hn (s_next hn n540 (by omega) tk.2.1.2 tp tx.2.2.1 (fun g1 f1 t1 => ⟨by rw [t1.1]; exact mkK_rg _, ?_⟩))
        rw [t1.1]
        have tp1 := tp.fl f1 (by decide)
        by_cases c3 : (tok b n 200 (tok b n 200 s.2.2.2).2.2.1).1 = 3
        · rw [if_pos c3] at hq
          refine iteP ((mkK_2 tk1.1).mpr c3) (s_next hn n540 (by omega) tk1.2.1.2 tp1 t1.2.2.1 (fun g2 f2 t2 => ?_))
          rw [e13, t1.2.2.2.1 c3]
          refine mr_write hn (RM_go hx (f1.trans f2) (by decide) t2) (by show s.1 < 64; omega) (fun g3 f3 x3 => ?_)
          exact mr_Down hn (by decide) x3 p30 (by show s.1 + 1 + P.length ≤ 64; omega) (fun g4 f4 x4 => hq g4 ((f1.mono (by decide)).trans ((f2.mono (by decide)).trans (f3.trans f4))) x4)
        · rw [if_neg c3] at hq
          exact iteN (fun z => c3 ((mkK_2 tk1.1).mp z)) (mg_bad hn t1 (fun g f a1 a2 => ⟨Or.inl rfl, hq g ((f1.mono (by decide)).trans (f.mono (by decide))) a1 a2⟩))
      refine e_X12_asks hn ⟨by constructor <;> omega, iteP (by omega) (iteN (by omega) ?_)⟩
      refine mg_sign hn n540 (by omega) hp tx (by decide) ?_
      by_cases c60 : (tok b n 200 s.2.2.2).1 = 60
      · rw [if_pos c60]; exact ⟨by decide, iteP (by decide) (go (by omega))⟩
      · rw [if_neg c60]
        refine ⟨by decide, iteN (by decide) (mg_sign hn n540 (by omega) hp tx (by decide) ?_)⟩
        by_cases c61 : (tok b n 200 s.2.2.2).1 = 61
        · rw [if_pos c61]; exact ⟨by decide, iteP (by decide) (go (by omega))⟩
        · rw [if_neg c61]
          refine ⟨by decide, iteN (by decide) (mg_sign hn n540 (by omega) hp tx (by decide) ?_)⟩
          by_cases c62 : (tok b n 200 s.2.2.2).1 = 62
          · rw [if_pos c62]; exact ⟨by decide, iteP (by decide) (go (by omega))⟩
          · rw [if_neg c62]
            rw [if_neg (by omega)] at hq
            exact ⟨by decide, iteN (by decide) (mg_bad hn tx (fun g f a1 a2 => ⟨Or.inl rfl, hq g (f.mono (by decide)) a1 a2⟩))⟩
end RU6
