/-! RULE: the reading, pure -/
abbrev RS : Type := Nat × (Nat → Int × Int × Int) × Nat × Nat
def rAdd (s : RS) (w x y : Int) : RS := (s.1 + 1, (fun j => if j = s.1 then (w, x, y) else s.2.1 j), s.2.2.1, s.2.2.2)
def rGo (s : RS) (p : Nat) : RS := (s.1, s.2.1, s.2.2.1, p)
def rOne1 (s : RS) (p : Nat) : RS := (s.1, s.2.1, s.2.2.1 + 1, p)
def rAtom (b : Int → Int) (n : Nat) (xn : Nat → List Int) (nx : Nat) (w : Int) (s : RS) : Sum EE RS :=
  if w = 13 then (if isNm (tok b n 200 s.2.2.2) then (if wFd xn (tok b n 200 s.2.2.2).2.2.2.2 nx 0 < 0 then .inl (3, (tok b n 200 s.2.2.2).2.1) else .inr (rAdd (rGo s (tok b n 200 s.2.2.2).2.2.1) 2 (wFd xn (tok b n 200 s.2.2.2).2.2.2.2 nx 0) 0)) else .inl (1, (tok b n 200 s.2.2.2).2.1))
  else if w ≤ 15 then .inr (rAdd s (w - 14) 0 0)
  else if 60 ≤ (tok b n 200 s.2.2.2).1 ∧ (tok b n 200 s.2.2.2).1 ≤ 62 then (if (tok b n 200 (tok b n 200 s.2.2.2).2.2.1).1 = 3 then .inr (rAdd (rGo s (tok b n 200 (tok b n 200 s.2.2.2).2.2.1).2.2.1) (w - 13) (tok b n 200 s.2.2.2).1 (tok b n 200 (tok b n 200 s.2.2.2).2.2.1).2.2.2.1) else .inl (1, (tok b n 200 (tok b n 200 s.2.2.2).2.2.1).2.1)) else .inl (1, (tok b n 200 s.2.2.2).2.1)
def rClose (b : Int → Int) (n : Nat) (s : RS) : Sum EE RS := if (tok b n 200 s.2.2.2).1 = 41 then .inr (rGo s (tok b n 200 s.2.2.2).2.2.1) else .inl (1, (tok b n 200 s.2.2.2).2.1)
def rR (b : Int → Int) (n : Nat) (xn : Nat → List Int) (nx : Nat) : Nat → Nat → Nat → RS → Sum EE RS
  | 0, _, _, _ => .inl (0, 0)
  | f + 1, 0, d, s => if (tok b n 200 s.2.2.2).1 = 40 ∨ (12 ≤ hWord (tok b n 200 s.2.2.2) ∧ hWord (tok b n 200 s.2.2.2) ≤ 19) then (if 20 ≤ s.2.2.1 ∨ 8 < d then .inl (4, (tok b n 200 s.2.2.2).2.1) else (if (tok b n 200 s.2.2.2).1 = 40 then sbd (rR b n xn nx f 3 (d + 1) (rOne1 s (tok b n 200 s.2.2.2).2.2.1)) (rClose b n) else (if hWord (tok b n 200 s.2.2.2) = 12 then sbd (rR b n xn nx f 0 (d + 1) (rOne1 s (tok b n 200 s.2.2.2).2.2.1)) (fun s' => .inr (rAdd s' 7 0 0)) else rAtom b n xn nx (hWord (tok b n 200 s.2.2.2)) (rOne1 s (tok b n 200 s.2.2.2).2.2.1)))) else .inl (1, (tok b n 200 s.2.2.2).2.1)
  | f + 1, 1, d, s => sbd (rR b n xn nx f 0 d s) (rR b n xn nx f 2 d)
  | f + 1, 2, d, s => if hWord (tok b n 200 s.2.2.2) = 11 then sbd (rR b n xn nx f 0 d (rGo s (tok b n 200 s.2.2.2).2.2.1)) (fun s' => rR b n xn nx f 2 d (rAdd s' 8 0 0)) else .inr s
  | f + 1, 3, d, s => sbd (rR b n xn nx f 1 d s) (rR b n xn nx f 4 d)
  | f + 1, _ + 4, d, s => if hWord (tok b n 200 s.2.2.2) = 10 then sbd (rR b n xn nx f 1 d (rGo s (tok b n 200 s.2.2.2).2.2.1)) (fun s' => rR b n xn nx f 4 d (rAdd s' 9 0 0)) else .inr s
def rk (m : Nat) : Nat := if m = 0 then 0 else if m ≤ 2 then 1 else 2
/-- a step, and the class's number of it -/
def Eok (nx : Nat) (e : Int × Int × Int) : Prop := ((e.1 = 0 ∨ e.1 = 1 ∨ e.1 = 7 ∨ e.1 = 8 ∨ e.1 = 9) ∧ e.2.1 = 0 ∧ e.2.2 = 0) ∨ (e.1 = 2 ∧ (0 ≤ e.2.1 ∧ e.2.1 < nx) ∧ e.2.2 = 0) ∨ ((3 ≤ e.1 ∧ e.1 ≤ 6) ∧ (60 ≤ e.2.1 ∧ e.2.1 ≤ 62) ∧ 0 ≤ e.2.2 ∧ e.2.2 ≤ 999)
def stv (e : Int × Int × Int) : Int := if e.1 = 7 then 12 else if e.1 = 8 then 11 else if e.1 = 9 then 10 else if e.1 = 0 then 14 else if e.1 = 1 then 15 else if e.1 = 2 then 13 + 65536 * e.2.1 else e.1 + 13 + 256 * e.2.1 + 65536 * e.2.2
theorem stv_ok {nx : Nat} {e : Int × Int × Int} (h : Eok nx e) (n8 : nx ≤ 8) : STP 8 (stv e) e.1 e.2.1 e.2.2 ∧ rg (stv e) := by
  obtain ⟨w, x, y⟩ := e
  rcases h with ⟨h1, h2, h3⟩ | ⟨h1, h2, h3⟩ | ⟨h1, h2, h3⟩
  · have h2 : x = 0 := h2
    have h3 : y = 0 := h3
    have h1 : w = 0 ∨ w = 1 ∨ w = 7 ∨ w = 8 ∨ w = 9 := h1
    subst h2 h3
    rcases h1 with z | z | z | z | z <;> subst z
    · exact ⟨Or.inr (Or.inr (Or.inr (Or.inl ⟨rfl, rfl, rfl, rfl⟩))), by decide⟩
    · exact ⟨Or.inr (Or.inr (Or.inr (Or.inr (Or.inl ⟨rfl, rfl, rfl, rfl⟩)))), by decide⟩
    · exact ⟨Or.inl ⟨rfl, rfl, rfl, rfl⟩, by decide⟩
    · exact ⟨Or.inr (Or.inl ⟨rfl, rfl, rfl, rfl⟩), by decide⟩
    · exact ⟨Or.inr (Or.inr (Or.inl ⟨rfl, rfl, rfl, rfl⟩)), by decide⟩
  · have h1 : w = 2 := h1
    have h3 : y = 0 := h3
    have h2 : 0 ≤ x ∧ x < nx := h2
    subst h1 h3
    have e : stv (2, x, 0) = 13 + 65536 * x := rfl
    rw [e]
    exact ⟨Or.inr (Or.inr (Or.inr (Or.inr (Or.inr (Or.inl ⟨rfl, rfl, h2.1, by show x < 8; omega, rfl⟩))))), by constructor <;> omega⟩
  · have h1 : 3 ≤ w ∧ w ≤ 6 := h1
    have h2 : 60 ≤ x ∧ x ≤ 62 := h2
    have h3 : 0 ≤ y ∧ y ≤ 999 := h3
    have e : stv (w, x, y) = w + 13 + 256 * x + 65536 * y := by
      show (if w = 7 then _ else if w = 8 then _ else if w = 9 then _ else if w = 0 then _ else if w = 1 then _ else if w = 2 then _ else _) = _
      rw [if_neg (by omega), if_neg (by omega), if_neg (by omega), if_neg (by omega), if_neg (by omega), if_neg (by omega)]
    rw [e]
    exact ⟨Or.inr (Or.inr (Or.inr (Or.inr (Or.inr (Or.inr ⟨h1.1, h1.2, rfl, h2.1, h2.2, h3.1, h3.2⟩))))), by constructor <;> omega⟩
def dpc (cd : Nat → Int × Int × Int) (k : Nat) : Int := dep (fun k => (cd k).1) k
def RC (nx len : Nat) (cd : Nat → Int × Int × Int) : Prop := ∀ k, k < len → Eok nx (cd k) ∧ ((cd k).1 = 7 → 1 ≤ dpc cd k) ∧ ((cd k).1 = 8 ∨ (cd k).1 = 9 → 2 ≤ dpc cd k) ∧ dpc cd (k + 1) ≤ 20
def RI (n nx : Nat) (s : RS) : Prop := s.2.2.2 ≤ n ∧ s.2.2.1 ≤ 20 ∧ s.1 ≤ 2 * s.2.2.1 ∧ RC nx s.1 s.2.1 ∧ 0 ≤ dpc s.2.1 s.1 ∧ dpc s.2.1 s.1 ≤ s.2.2.1
section RU1
variable {b : Int → Int} {n nx : Nat} {xn : Nat → List Int} {s : RS}
theorem dpc_add {w x y : Int} {k : Nat} (hk : k ≤ s.1) : dpc (rAdd s w x y).2.1 k = dpc s.2.1 k := by
  refine dep_to (fun j hj => ?_)
  show (if j = s.1 then (w, x, y) else s.2.1 j).1 = _
  rw [if_neg (by omega)]
theorem add_at {w x y : Int} : (rAdd s w x y).2.1 s.1 = (w, x, y) := if_pos rfl
theorem add_ne {w x y : Int} {j : Nat} (hj : j < s.1) : (rAdd s w x y).2.1 j = s.2.1 j := if_neg (by omega)
/-- one step more -/
theorem RC_add {w x y : Int} (h : RC nx s.1 s.2.1) (e : Eok nx (w, x, y)) (h7 : w = 7 → 1 ≤ dpc s.2.1 s.1) (h8 : w = 8 ∨ w = 9 → 2 ≤ dpc s.2.1 s.1) (h20 : dpc s.2.1 s.1 + (if w = 7 then 0 else if w = 8 ∨ w = 9 then -1 else 1) ≤ 20) : RC nx (s.1 + 1) (rAdd s w x y).2.1 ∧ dpc (rAdd s w x y).2.1 (s.1 + 1) = dpc s.2.1 s.1 + (if w = 7 then 0 else if w = 8 ∨ w = 9 then -1 else 1) := by
  have e1 : dpc (rAdd s w x y).2.1 (s.1 + 1) = dpc s.2.1 s.1 + (if w = 7 then 0 else if w = 8 ∨ w = 9 then -1 else 1) := by
    have a : dpc (rAdd s w x y).2.1 (s.1 + 1) = dpc (rAdd s w x y).2.1 s.1 + (if ((rAdd s w x y).2.1 s.1).1 = 7 then 0 else if ((rAdd s w x y).2.1 s.1).1 = 8 ∨ ((rAdd s w x y).2.1 s.1).1 = 9 then -1 else 1) := rfl
    rw [a, dpc_add (Nat.le_refl _), add_at]
  refine ⟨fun k hk => ?_, e1⟩
  by_cases z : k = s.1
  · subst z
    rw [add_at, dpc_add (Nat.le_refl _), e1]
    exact ⟨e, h7, h8, h20⟩
  · rw [add_ne (by omega), dpc_add (by omega), dpc_add (by omega)]
    exact h k (by omega)
/-- what comes of a part: it reads on, and one more stands in the row (j = 1), or as many (j = 0) -/
def RG (n nx : Nat) (s : RS) (j : Nat) (s' : RS) : Prop := RI n nx s' ∧ s.2.2.2 + j ≤ s'.2.2.2 ∧ s'.1 + 2 * s.2.2.1 + j ≤ s.1 + 2 * s'.2.2.1 ∧ s.2.2.1 + j ≤ s'.2.2.1 ∧ dpc s'.2.1 s'.1 = dpc s.2.1 s.1 + j ∧ s.1 ≤ s'.1
theorem rAtom_ok (n540 : n ≤ 540) (n8 : nx ≤ 8) {w : Int} (hw : 13 ≤ w ∧ w ≤ 19) (h : RI n nx s) (o1 : 1 ≤ s.2.2.1) (l2 : s.1 + 2 ≤ 2 * s.2.2.1) (d2 : dpc s.2.1 s.1 + 1 ≤ s.2.2.1) : SP (rAtom b n xn nx w s) (fun s' => RI n nx s' ∧ s.2.2.2 ≤ s'.2.2.2 ∧ s'.1 = s.1 + 1 ∧ s'.2.2.1 = s.2.2.1 ∧ dpc s'.2.1 s'.1 = dpc s.2.1 s.1 + 1) := by
  have tk := tok_ok (b := b) (m := 200) n540 (by omega) h.1
  have tk1 := tok_ok (b := b) (m := 200) n540 (by omega) tk.2.1.2
  have fin : ∀ {w x y : Int} {p : Nat}, Eok nx (w, x, y) → w ≤ 6 → 0 ≤ w → s.2.2.2 ≤ p → p ≤ n → RI n nx (rAdd (rGo s p) w x y) ∧ s.2.2.2 ≤ (rAdd (rGo s p) w x y).2.2.2 ∧ (rAdd (rGo s p) w x y).1 = s.1 + 1 ∧ (rAdd (rGo s p) w x y).2.2.1 = s.2.2.1 ∧ dpc (rAdd (rGo s p) w x y).2.1 (rAdd (rGo s p) w x y).1 = dpc s.2.1 s.1 + 1 := by
    intro w x y p e w6 w0 hp hn
    have i1 : (if w = 7 then (0 : Int) else if w = 8 ∨ w = 9 then -1 else 1) = 1 := by rw [if_neg (by omega), if_neg (by omega)]
    have a := RC_add (s := rGo s p) (nx := nx) (w := w) (x := x) (y := y) h.2.2.2.1 e (fun z => by omega) (fun z => by omega) (by rw [i1]; show dpc s.2.1 s.1 + 1 ≤ 20; have := h.2.1; omega)
    rw [i1] at a
    have e2 : dpc (rAdd (rGo s p) w x y).2.1 (s.1 + 1) = dpc s.2.1 s.1 + 1 := a.2
    refine ⟨⟨hn, h.2.1, by show s.1 + 1 ≤ 2 * s.2.2.1; omega, a.1, ?_, ?_⟩, hp, rfl, rfl, a.2⟩
    · show 0 ≤ dpc (rAdd (rGo s p) w x y).2.1 (s.1 + 1); have := h.2.2.2.2.1; omega
    · show dpc (rAdd (rGo s p) w x y).2.1 (s.1 + 1) ≤ (s.2.2.1 : Int); omega
  have ek : ∀ {q : Nat} {k : Int}, q ≤ n → 1 ≤ k ∧ k ≤ 4 → EK (k, (tok b n 200 q).2.1) := fun hq k1 => ⟨k1, (tok_ok (b := b) (m := 200) n540 (by omega) hq).1.2.1⟩
  unfold rAtom
  by_cases c : w = 13
  · rw [if_pos c]
    by_cases c1 : isNm (tok b n 200 s.2.2.2)
    · rw [if_pos c1]
      have fd := wFd_bd (nm := xn) (L := (tok b n 200 s.2.2.2).2.2.2.2) (f := nx) (i := 0)
      by_cases c2 : wFd xn (tok b n 200 s.2.2.2).2.2.2.2 nx 0 < 0
      · rw [if_pos c2]; exact ek h.1 (by decide)
      · rw [if_neg c2]
        exact fin (Or.inr (Or.inl ⟨rfl, ⟨by show 0 ≤ wFd xn _ nx 0; omega, by show wFd xn _ nx 0 < nx; omega⟩, rfl⟩)) (by decide) (by decide) tk.2.1.1 tk.2.1.2
    · rw [if_neg c1]; exact ek h.1 (by decide)
  · rw [if_neg c]
    by_cases c1 : w ≤ 15
    · rw [if_pos c1]
      exact fin (p := s.2.2.2) (Or.inl ⟨by show w - 14 = 0 ∨ w - 14 = 1 ∨ _; omega, rfl, rfl⟩) (by omega) (by omega) (Nat.le_refl _) h.1
    · rw [if_neg c1]
      by_cases c2 : 60 ≤ (tok b n 200 s.2.2.2).1 ∧ (tok b n 200 s.2.2.2).1 ≤ 62
      · rw [if_pos c2]
        by_cases c3 : (tok b n 200 (tok b n 200 s.2.2.2).2.2.1).1 = 3
        · rw [if_pos c3]
          have v := tk1.1.2.2.2.1 c3
          exact fin (Or.inr (Or.inr ⟨⟨by show 3 ≤ w - 13; omega, by show w - 13 ≤ 6; omega⟩, c2, v⟩)) (by omega) (by omega) (Nat.le_trans tk.2.1.1 tk1.2.1.1) tk1.2.1.2
        · rw [if_neg c3]; exact ek tk.2.1.2 (by decide)
      · rw [if_neg c2]; exact ek h.1 (by decide)
end RU1
