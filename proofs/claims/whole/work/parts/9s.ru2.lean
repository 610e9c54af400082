/-! RULE: the reading, pure: bounds -/
section RU2
variable {b : Int → Int} {n nx : Nat} {xn : Nat → List Int} {s : RS}
theorem RG.trans {i j : Nat} {s s' s'' : RS} (a : RG n nx s i s') (c : RG n nx s' j s'') : RG n nx s (i + j) s'' := by
  obtain ⟨a1, a2, a3, a4, a5, a6⟩ := a
  obtain ⟨c1, c2, c3, c4, c5, c6⟩ := c
  refine ⟨c1, by omega, by omega, by omega, by rw [c5, a5]; omega, by omega⟩
theorem RI_go {p : Nat} (h : RI n nx s) (hp : p ≤ n) : RI n nx (rGo s p) := ⟨hp, h.2⟩
theorem RI_one {p : Nat} (h : RI n nx s) (hp : p ≤ n) (o : s.2.2.1 < 20) : RI n nx (rOne1 s p) := by
  refine ⟨hp, by show s.2.2.1 + 1 ≤ 20; omega, ?_, h.2.2.2.1, h.2.2.2.2.1, ?_⟩
  · show s.1 ≤ 2 * (s.2.2.1 + 1); have := h.2.2.1; omega
  · show dpc s.2.1 s.1 ≤ ((s.2.2.1 + 1 : Nat) : Int); have := h.2.2.2.2.2; omega
/-- a joint -/
theorem RI_joint {w : Int} (hw : w = 8 ∨ w = 9) (h : RI n nx s) (d2 : 2 ≤ dpc s.2.1 s.1) (l1 : s.1 + 1 ≤ 2 * s.2.2.1) : RI n nx (rAdd s w 0 0) ∧ dpc (rAdd s w 0 0).2.1 (s.1 + 1) = dpc s.2.1 s.1 - 1 := by
  have i1 : (if w = 7 then (0 : Int) else if w = 8 ∨ w = 9 then -1 else 1) = -1 := by rw [if_neg (by omega), if_pos hw]
  have o := h.2.1
  have dd := h.2.2.2.2.2
  have a := RC_add (s := s) (nx := nx) (w := w) (x := 0) (y := 0) h.2.2.2.1 (Or.inl ⟨by show w = 0 ∨ w = 1 ∨ w = 7 ∨ w = 8 ∨ w = 9; omega, rfl, rfl⟩) (fun z => by omega) (fun _ => d2) (by rw [i1]; omega)
  rw [i1] at a
  refine ⟨⟨h.1, h.2.1, l1, a.1, ?_, ?_⟩, by rw [a.2]; omega⟩
  · show 0 ≤ dpc (rAdd s w 0 0).2.1 (s.1 + 1); rw [a.2]; omega
  · show dpc (rAdd s w 0 0).2.1 (s.1 + 1) ≤ (s.2.2.1 : Int); rw [a.2]; omega
theorem RI_not (h : RI n nx s) (d1 : 1 ≤ dpc s.2.1 s.1) (l1 : s.1 + 1 ≤ 2 * s.2.2.1) : RI n nx (rAdd s 7 0 0) ∧ dpc (rAdd s 7 0 0).2.1 (s.1 + 1) = dpc s.2.1 s.1 := by
  have o := h.2.1
  have dd := h.2.2.2.2.2
  have a := RC_add (s := s) (nx := nx) (w := 7) (x := 0) (y := 0) h.2.2.2.1 (Or.inl ⟨by show (7 : Int) = 0 ∨ (7 : Int) = 1 ∨ (7 : Int) = 7 ∨ _; omega, rfl, rfl⟩) (fun _ => d1) (fun z => by omega) (by rw [if_pos rfl]; omega)
  rw [if_pos rfl] at a
  refine ⟨⟨h.1, h.2.1, l1, a.1, ?_, ?_⟩, by rw [a.2]; omega⟩
  · show 0 ≤ dpc (rAdd s 7 0 0).2.1 (s.1 + 1); rw [a.2]; omega
  · show dpc (rAdd s 7 0 0).2.1 (s.1 + 1) ≤ (s.2.2.1 : Int); rw [a.2]; omega
def jm (m : Nat) : Nat := if m = 2 ∨ m = 4 then 0 else 1
theorem r_ek (n540 : n ≤ 540) {q : Nat} {k : Int} (hq : q ≤ n) (k1 : 1 ≤ k ∧ k ≤ 4) : EK (k, (tok b n 200 q).2.1) := ⟨k1, (tok_ok (b := b) (m := 200) n540 (by omega) hq).1.2.1⟩
theorem rR_ok (n540 : n ≤ 540) (n8 : nx ≤ 8) : ∀ {f m d : Nat} {s : RS}, m ≤ 4 → RI n nx s → 4 * (n + 1 - s.2.2.2) + rk m ≤ f → (m = 2 ∨ m = 4 → 1 ≤ dpc s.2.1 s.1) → SP (rR b n xn nx f m d s) (RG n nx s (jm m))
  | 0, m, d, s, _, h, hf, _ => by have := h.1; omega
  | f + 1, 0, d, s, _, h, hf, _ => by
    have hf : 4 * (n + 1 - s.2.2.2) + 0 ≤ f + 1 := hf
    have hp := h.1
    have tk := tok_ok (b := b) (m := 200) n540 (by omega) hp
    have d0 := h.2.2.2.2.1
    have dd := h.2.2.2.2.2
    have l2 := h.2.2.1
    rw [rR]
    by_cases c : (tok b n 200 s.2.2.2).1 = 40 ∨ (12 ≤ hWord (tok b n 200 s.2.2.2) ∧ hWord (tok b n 200 s.2.2.2) ≤ 19)
    · rw [if_pos c]
      have p1 : s.2.2.2 < (tok b n 200 s.2.2.2).2.2.1 := by
        rcases c with z | z
        · exact tk.2.2 (by omega) (by omega)
        · have := (hWord_sort (t := tok b n 200 s.2.2.2) (by omega)).1
          exact tk.2.2 (by omega) (by omega)
      by_cases c1 : 20 ≤ s.2.2.1 ∨ 8 < d
      · rw [if_pos c1]; exact r_ek n540 hp (by decide)
      · rw [if_neg c1]
        have h1 := RI_one h tk.2.1.2 (by omega)
        have q1 : (rOne1 s (tok b n 200 s.2.2.2).2.2.1).2.2.2 = (tok b n 200 s.2.2.2).2.2.1 := rfl
        have q2 : (rOne1 s (tok b n 200 s.2.2.2).2.2.1).2.2.1 = s.2.2.1 + 1 := rfl
        have q3 : (rOne1 s (tok b n 200 s.2.2.2).2.2.1).1 = s.1 := rfl
        have q4 : dpc (rOne1 s (tok b n 200 s.2.2.2).2.2.1).2.1 s.1 = dpc s.2.1 s.1 := rfl
        by_cases c2 : (tok b n 200 s.2.2.2).1 = 40
        · rw [if_pos c2]
          refine SP_bd (rR_ok n540 n8 (f := f) (m := 3) (d := d + 1) (by decide) h1 (by rw [q1]; show 4 * _ + 2 ≤ f; omega) (fun z => by omega)) (fun s' g => ?_)
          obtain ⟨g1, g2, g3, g4, g5, g6⟩ := g
          rw [show jm 3 = 1 from rfl] at g2 g3 g4 g5
          rw [q2] at g3 g4
          rw [q1] at g2
          rw [q3] at g3 g5 g6
          rw [q4] at g5
          unfold rClose
          have tk' := tok_ok (b := b) (m := 200) n540 (by omega) g1.1
          by_cases c3 : (tok b n 200 s'.2.2.2).1 = 41
          · rw [if_pos c3]
            exact ⟨RI_go g1 tk'.2.1.2, by show s.2.2.2 + 1 ≤ (tok b n 200 s'.2.2.2).2.2.1; have := tk'.2.1.1; omega, by show s'.1 + 2 * s.2.2.1 + 1 ≤ s.1 + 2 * s'.2.2.1; omega, by show s.2.2.1 + 1 ≤ s'.2.2.1; omega, g5, g6⟩
          · rw [if_neg c3]; exact r_ek n540 g1.1 (by decide)
        · rw [if_neg c2]
          by_cases c3 : hWord (tok b n 200 s.2.2.2) = 12
          · rw [if_pos c3]
            refine SP_bd (rR_ok n540 n8 (f := f) (m := 0) (d := d + 1) (by decide) h1 (by rw [q1]; show 4 * _ + 0 ≤ f; omega) (fun z => by omega)) (fun s' g => ?_)
            obtain ⟨g1, g2, g3, g4, g5, g6⟩ := g
            rw [show jm 0 = 1 from rfl] at g2 g3 g4 g5
            rw [q2] at g3 g4
            rw [q1] at g2
            rw [q3] at g3 g5 g6
            rw [q4] at g5
            have r := RI_not g1 (by omega) (by omega)
            exact ⟨r.1, by show s.2.2.2 + 1 ≤ s'.2.2.2; omega, by show s'.1 + 1 + 2 * s.2.2.1 + 1 ≤ s.1 + 2 * s'.2.2.1; omega, by show s.2.2.1 + 1 ≤ s'.2.2.1; omega, by show dpc (rAdd s' 7 0 0).2.1 (s'.1 + 1) = _; rw [r.2]; exact g5, by show s.1 ≤ s'.1 + 1; omega⟩
          · rw [if_neg c3]
            refine (rAtom_ok n540 n8 (by omega) h1 (by rw [q2]; omega) (by rw [q2, q3]; omega) (by rw [q2, q3, q4]; omega)).imp (fun s' g => ?_)
            obtain ⟨g1, g2, g3, g4, g5⟩ := g
            rw [q3] at g3 g5
            rw [q2] at g4
            rw [q1] at g2
            rw [q4] at g5
            exact ⟨g1, by show s.2.2.2 + 1 ≤ s'.2.2.2; omega, by show s'.1 + 2 * s.2.2.1 + 1 ≤ s.1 + 2 * s'.2.2.1; omega, by show s.2.2.1 + 1 ≤ s'.2.2.1; omega, g5, by omega⟩
    · rw [if_neg c]; exact r_ek n540 hp (by decide)
  | f + 1, 1, d, s, _, h, hf, _ => by
    have hf : 4 * (n + 1 - s.2.2.2) + 1 ≤ f + 1 := hf
    rw [rR]
    refine SP_bd (rR_ok n540 n8 (f := f) (m := 0) (d := d) (by decide) h (by show 4 * _ + 0 ≤ f; omega) (fun z => by omega)) (fun s' g => ?_)
    have e1 : jm 0 = 1 := rfl
    rw [e1] at g
    have g2 := g.2.1
    have g5 := g.2.2.2.2.1
    have := g.1.1
    refine (rR_ok n540 n8 (f := f) (m := 2) (d := d) (by decide) g.1 (by show 4 * _ + 1 ≤ f; omega) (fun _ => by have := h.2.2.2.2.1; omega)).imp (fun s'' g' => g.trans g')
  | f + 1, 2, d, s, _, h, hf, d1 => by
    have hf : 4 * (n + 1 - s.2.2.2) + 1 ≤ f + 1 := hf
    have d1 := d1 (Or.inl rfl)
    have tk := tok_ok (b := b) (m := 200) n540 (by omega) h.1
    rw [rR]
    by_cases c : hWord (tok b n 200 s.2.2.2) = 11
    · rw [if_pos c]
      have w := (hWord_sort (t := tok b n 200 s.2.2.2) (by omega)).1
      have p1 := tk.2.2 (by omega) (by omega)
      have q1 : (rGo s (tok b n 200 s.2.2.2).2.2.1).2.2.2 = (tok b n 200 s.2.2.2).2.2.1 := rfl
      refine SP_bd (rR_ok n540 n8 (f := f) (m := 0) (d := d) (by decide) (RI_go h tk.2.1.2) (by rw [q1]; show 4 * _ + 0 ≤ f; omega) (fun z => by omega)) (fun s' g => ?_)
      obtain ⟨g1, g2, g3, g4, g5, g6⟩ := g
      have g2 : (tok b n 200 s.2.2.2).2.2.1 + 1 ≤ s'.2.2.2 := g2
      have g3 : s'.1 + 2 * s.2.2.1 + 1 ≤ s.1 + 2 * s'.2.2.1 := g3
      have g4 : s.2.2.1 + 1 ≤ s'.2.2.1 := g4
      have g5 : dpc s'.2.1 s'.1 = dpc s.2.1 s.1 + (1 : Nat) := g5
      have g6 : s.1 ≤ s'.1 := g6
      have l2 := h.2.2.1
      have r := RI_joint (Or.inl rfl) g1 (by omega) (by omega)
      have g7 : RG n nx s 0 (rAdd s' 8 0 0) := ⟨r.1, by show s.2.2.2 + 0 ≤ s'.2.2.2; omega, by show s'.1 + 1 + 2 * s.2.2.1 + 0 ≤ s.1 + 2 * s'.2.2.1; omega, by show s.2.2.1 + 0 ≤ s'.2.2.1; omega, by show dpc (rAdd s' 8 0 0).2.1 (s'.1 + 1) = _; rw [r.2, g5]; omega, by show s.1 ≤ s'.1 + 1; omega⟩
      have := g1.1
      refine (rR_ok n540 n8 (f := f) (m := 2) (d := d) (by decide) r.1 (by show 4 * (n + 1 - s'.2.2.2) + 1 ≤ f; omega) (fun _ => by show 1 ≤ dpc (rAdd s' 8 0 0).2.1 (s'.1 + 1); rw [r.2, g5]; omega)).imp (fun s'' g' => g7.trans g')
    · rw [if_neg c]
      exact ⟨h, Nat.le_refl _, Nat.le_refl _, Nat.le_refl _, by show _ = _ + ((0 : Nat) : Int); omega, Nat.le_refl _⟩
  | f + 1, 3, d, s, _, h, hf, _ => by
    have hf : 4 * (n + 1 - s.2.2.2) + 2 ≤ f + 1 := hf
    rw [rR]
    refine SP_bd (rR_ok n540 n8 (f := f) (m := 1) (d := d) (by decide) h (by show 4 * _ + 1 ≤ f; omega) (fun z => by omega)) (fun s' g => ?_)
    have e1 : jm 1 = 1 := rfl
    rw [e1] at g
    have g2 := g.2.1
    have g5 := g.2.2.2.2.1
    have := g.1.1
    refine (rR_ok n540 n8 (f := f) (m := 4) (d := d) (by decide) g.1 (by show 4 * _ + 2 ≤ f; omega) (fun _ => by have := h.2.2.2.2.1; omega)).imp (fun s'' g' => g.trans g')
  | f + 1, 4, d, s, _, h, hf, d1 => by
    have hf : 4 * (n + 1 - s.2.2.2) + 2 ≤ f + 1 := hf
    have d1 := d1 (Or.inr rfl)
    have tk := tok_ok (b := b) (m := 200) n540 (by omega) h.1
    rw [rR]
    by_cases c : hWord (tok b n 200 s.2.2.2) = 10
    · rw [if_pos c]
      have w := (hWord_sort (t := tok b n 200 s.2.2.2) (by omega)).1
      have p1 := tk.2.2 (by omega) (by omega)
      have q1 : (rGo s (tok b n 200 s.2.2.2).2.2.1).2.2.2 = (tok b n 200 s.2.2.2).2.2.1 := rfl
      refine SP_bd (rR_ok n540 n8 (f := f) (m := 1) (d := d) (by decide) (RI_go h tk.2.1.2) (by rw [q1]; show 4 * _ + 1 ≤ f; omega) (fun z => by omega)) (fun s' g => ?_)
      obtain ⟨g1, g2, g3, g4, g5, g6⟩ := g
      have g2 : (tok b n 200 s.2.2.2).2.2.1 + 1 ≤ s'.2.2.2 := g2
      have g3 : s'.1 + 2 * s.2.2.1 + 1 ≤ s.1 + 2 * s'.2.2.1 := g3
      have g4 : s.2.2.1 + 1 ≤ s'.2.2.1 := g4
      have g5 : dpc s'.2.1 s'.1 = dpc s.2.1 s.1 + (1 : Nat) := g5
      have g6 : s.1 ≤ s'.1 := g6
      have l2 := h.2.2.1
      have r := RI_joint (Or.inr rfl) g1 (by omega) (by omega)
      have g7 : RG n nx s 0 (rAdd s' 9 0 0) := ⟨r.1, by show s.2.2.2 + 0 ≤ s'.2.2.2; omega, by show s'.1 + 1 + 2 * s.2.2.1 + 0 ≤ s.1 + 2 * s'.2.2.1; omega, by show s.2.2.1 + 0 ≤ s'.2.2.1; omega, by show dpc (rAdd s' 9 0 0).2.1 (s'.1 + 1) = _; rw [r.2, g5]; omega, by show s.1 ≤ s'.1 + 1; omega⟩
      have := g1.1
      refine (rR_ok n540 n8 (f := f) (m := 4) (d := d) (by decide) r.1 (by show 4 * (n + 1 - s'.2.2.2) + 2 ≤ f; omega) (fun _ => by show 1 ≤ dpc (rAdd s' 9 0 0).2.1 (s'.1 + 1); rw [r.2, g5]; omega)).imp (fun s'' g' => g7.trans g')
    · rw [if_neg c]
      exact ⟨h, Nat.le_refl _, Nat.le_refl _, Nat.le_refl _, by show _ = _ + ((0 : Nat) : Int); omega, Nat.le_refl _⟩
  | f + 1, m + 5, d, s, hm, _, _, _ => by omega
end RU2
