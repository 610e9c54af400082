/-! HOUSE: the reading, pure -/
abbrev HS : Type := Nat × (Nat → List Int) × Nat × (Nat → List Int) × (Int → Int) × (Nat → Bool) × Nat
abbrev HR : Type := Sum (Int × Int) HS
def okW (L : List Int) : Prop := 1 ≤ L.length ∧ L.length ≤ 6 ∧ ∀ x ∈ L, 1 ≤ x ∧ x ≤ 26
def fuN (f : Nat → List Int) (k : Nat) (v : List Int) : Nat → List Int := fun j => if j = k then v else f j
def hTold (nb : Nat) (bn : Nat → List Int) (L : List Int) : Bool := (List.range nb).any (fun k => decide (bn k = L))
theorem hTold_iff {nb : Nat} {bn : Nat → List Int} {L : List Int} : hTold nb bn L = true ↔ ∃ k, k < nb ∧ bn k = L := by
  unfold hTold
  rw [List.any_eq_true]
  constructor
  · rintro ⟨k, h1, h2⟩; exact ⟨k, List.mem_range.mp h1, of_decide_eq_true h2⟩
  · rintro ⟨k, h1, h2⟩; exact ⟨k, List.mem_range.mpr h1, decide_eq_true h2⟩
def bnd (r : HR) (f : HS → HR) : HR := match r with
  | .inl e => .inl e
  | .inr s => f s
def hTake (b : Int → Int) (n : Nat) (lo hi i : Int) : HS → HR
  | (nb, bn, nx, xn, lw, td, p) => if (tok b n 500 p).1 = 3 then (if (tok b n 500 p).2.2.2.1 < lo ∨ hi < (tok b n 500 p).2.2.2.1 then .inl (2, (tok b n 500 p).2.1) else .inr (nb, bn, nx, xn, fu lw i (tok b n 500 p).2.2.2.1, td, (tok b n 500 p).2.2.1)) else .inl (1, (tok b n 500 p).2.1)
def hName2 (b : Int → Int) (n : Nat) (w : Bool) : HS → HR
  | (nb, bn, nx, xn, lw, td, p) => if (tok b n 500 p).1 = 2 ∧ wdO (er (tok b n 500 p).2.2.2.2) = -1 then (if (hTold nb bn (tok b n 500 p).2.2.2.2 || hTold nx xn (tok b n 500 p).2.2.2.2) = true then .inl (3, (tok b n 500 p).2.1) else (if w = true then .inr (nb, bn, nx + 1, fuN xn nx (tok b n 500 p).2.2.2.2, lw, td, (tok b n 500 p).2.2.1) else .inr (nb + 1, fuN bn nb (tok b n 500 p).2.2.2.2, nx, xn, lw, td, (tok b n 500 p).2.2.1))) else .inl (1, (tok b n 500 p).2.1)
def hName (b : Int → Int) (n : Nat) (w : Bool) : HS → HR
  | (nb, bn, nx, xn, lw, td, p) => if (w = true ∧ 8 ≤ nx) ∨ (w = false ∧ 6 ≤ nb) then .inl (4, (tok b n 500 p).2.1) else hName2 b n w (nb, bn, nx, xn, lw, td, (tok b n 500 p).2.2.1)
def hLaw2 (b : Int → Int) (n w : Nat) (s : HS) : HR := if w = 2 then bnd (hTake b n (lawv 0 0) (lawv 1 0) 0 s) (hTake b n (lawv 0 1) (lawv 1 1) 1) else hTake b n (lawv 0 ((w - 1 : Nat) : Int)) (lawv 1 ((w - 1 : Nat) : Int)) ((w - 1 : Nat) : Int) s
def hLaw (b : Int → Int) (n w : Nat) : HS → HR
  | (nb, bn, nx, xn, lw, td, p) => if td w = true then .inl (3, (tok b n 500 p).2.1) else hLaw2 b n w (nb, bn, nx, xn, lw, fun j => if j = w then true else td j, (tok b n 500 p).2.2.1)
def hWord (t : TKn) : Int := if t.1 = 2 then wdO (er t.2.2.2.2) else -1
def hSign (b : Int → Int) (n : Nat) : HS → HR
  | (nb, bn, nx, xn, lw, td, p) => if (tok b n 500 p).1 = 59 then .inr (nb, bn, nx, xn, lw, td, (tok b n 500 p).2.2.1) else .inl (1, (tok b n 500 p).2.1)
def hLine1 (b : Int → Int) (n : Nat) : HS → HR
  | (nb, bn, nx, xn, lw, td, p) => if 0 ≤ hWord (tok b n 500 p) ∧ hWord (tok b n 500 p) ≤ 9 then (if hWord (tok b n 500 p) = 0 then hName b n false (nb, bn, nx, xn, lw, td, p) else if hWord (tok b n 500 p) = 1 then hName b n true (nb, bn, nx, xn, lw, td, p) else hLaw b n (hWord (tok b n 500 p)).toNat (nb, bn, nx, xn, lw, td, p)) else .inl (1, (tok b n 500 p).2.1)
def hLine (b : Int → Int) (n : Nat) (s : HS) : HR := bnd (hLine1 b n s) (hSign b n)
def hAll (b : Int → Int) (n : Nat) : Nat → Nat → HS → Sum (Int × Int) (Nat × HS)
  | 0, k, s => .inr (k, s)
  | f + 1, k, s => if (tok b n 500 s.2.2.2.2.2.2).1 = 0 then .inr (k, s) else match hLine b n s with
    | .inl e => .inl e
    | .inr s' => hAll b n f (k + 1) s'
/-- what holds of a state -/
def HO (n : Nat) : HS → Prop
  | (nb, bn, nx, xn, lw, _, p) => p ≤ n ∧ nb ≤ 6 ∧ nx ≤ 8 ∧ (∀ k, k < nb → okW (bn k)) ∧ (∀ k, k < nx → okW (xn k)) ∧ (∀ k k', k < nx → k' < nx → xn k = xn k' → k = k') ∧ ∀ i : Nat, i < 9 → lawv 0 i ≤ lw i ∧ lw i ≤ lawv 1 i
/-- of a result: kinds and places; or a state that has gone on by k bytes -/
def HK (n q : Nat) (r : HR) : Prop := match r with
  | .inl e => (1 ≤ e.1 ∧ e.1 ≤ 4) ∧ 0 ≤ e.2 ∧ e.2 ≤ 540
  | .inr s => HO n s ∧ q ≤ s.2.2.2.2.2.2
section HO1
variable {b : Int → Int} {n nb nx p : Nat} {bn xn : Nat → List Int} {lw : Int → Int} {td : Nat → Bool}
theorem HK.mono {q q' : Nat} {r : HR} (a : HK n q r) (h : q' ≤ q) : HK n q' r := by
  cases r with
  | inl e => exact a
  | inr s => exact ⟨a.1, Nat.le_trans h a.2⟩
theorem HK_bnd {q q' : Nat} {r : HR} {f : HS → HR} (a : HK n q r) (h : ∀ s, HO n s → q ≤ s.2.2.2.2.2.2 → HK n q' (f s)) : HK n q' (bnd r f) := by
  cases r with
  | inl e => exact a
  | inr s => exact h s a.1 a.2
theorem tk_fl (n540 : n ≤ 540) (hp : p ≤ n) {k : Int} (k1 : 1 ≤ k ∧ k ≤ 4) {q : Nat} : HK n q (.inl (k, (tok b n 500 p).2.1)) := by
  have := tok_ok (b := b) (m := 500) n540 (by omega) hp
  exact ⟨k1, this.1.2.1⟩
theorem hTake_ok (n540 : n ≤ 540) {i : Nat} (h : HO n (nb, bn, nx, xn, lw, td, p)) : HK n (p + 1) (hTake b n (lawv 0 i) (lawv 1 i) i (nb, bn, nx, xn, lw, td, p)) := by
  have tk := tok_ok (b := b) (m := 500) n540 (by omega) h.1
  rw [hTake]
  split
  · rename_i c
    split
    · exact tk_fl n540 h.1 (by omega)
    · rename_i c2
      refine ⟨⟨tk.2.1.2, h.2.1, h.2.2.1, h.2.2.2.1, h.2.2.2.2.1, h.2.2.2.2.2.1, fun j hj => ?_⟩, tk.2.2 (by omega) (by omega)⟩
      unfold fu
      by_cases e : (j : Int) = i
      · rw [if_pos e, e]; omega
      · rw [if_neg e]; exact h.2.2.2.2.2.2 j hj
  · exact tk_fl n540 h.1 (by omega)
theorem hName2_ok (n540 : n ≤ 540) {w : Bool} (h : HO n (nb, bn, nx, xn, lw, td, p)) (hw : w = true → nx < 8) (hw' : w = false → nb < 6) : HK n (p + 1) (hName2 b n w (nb, bn, nx, xn, lw, td, p)) := by
  have tk := tok_ok (b := b) (m := 500) n540 (by omega) h.1
  rw [hName2]
  split
  · rename_i c
    split
    · exact tk_fl n540 h.1 (by omega)
    · rename_i c2
      rw [Bool.or_eq_true, hTold_iff, hTold_iff] at c2
      have ow : okW (tok b n 500 p).2.2.2.2 := ⟨(tk.1.2.2.2.2 c.1).1.1, (tk.1.2.2.2.2 c.1).1.2, (tk.1.2.2.2.2 c.1).2⟩
      have nx1 := tk.2.2 (by omega) (by omega)
      cases w with
      | true =>
        rw [if_pos rfl]
        refine ⟨⟨tk.2.1.2, h.2.1, hw rfl, h.2.2.2.1, fun k hk => ?_, fun k k' hk hk' e => ?_, h.2.2.2.2.2.2⟩, nx1⟩
        · unfold fuN
          by_cases z : k = nx
          · rw [if_pos z]; exact ow
          · rw [if_neg z]; exact h.2.2.2.2.1 k (by omega)
        · unfold fuN at e
          by_cases z : k = nx
          · by_cases z' : k' = nx
            · omega
            · rw [if_pos z, if_neg z'] at e
              exact absurd (Or.inr ⟨k', by omega, e.symm⟩) c2
          · by_cases z' : k' = nx
            · rw [if_neg z, if_pos z'] at e
              exact absurd (Or.inr ⟨k, by omega, e⟩) c2
            · rw [if_neg z, if_neg z'] at e
              exact h.2.2.2.2.2.1 k k' (by omega) (by omega) e
      | false =>
        rw [if_neg (by decide)]
        refine ⟨⟨tk.2.1.2, hw' rfl, h.2.2.1, fun k hk => ?_, h.2.2.2.2.1, h.2.2.2.2.2.1, h.2.2.2.2.2.2⟩, nx1⟩
        unfold fuN
        by_cases z : k = nb
        · rw [if_pos z]; exact ow
        · rw [if_neg z]; exact h.2.2.2.1 k (by omega)
  · exact tk_fl n540 h.1 (by omega)
theorem hWord_sort {t : TKn} (h : 0 ≤ hWord t) : t.1 = 2 ∧ hWord t = wdO (er t.2.2.2.2) := by
  unfold hWord at h ⊢
  by_cases c : t.1 = 2
  · rw [if_pos c]; exact ⟨c, rfl⟩
  · rw [if_neg c] at h; omega
theorem hLine1_ok (n540 : n ≤ 540) (h : HO n (nb, bn, nx, xn, lw, td, p)) : HK n (p + 1) (hLine1 b n (nb, bn, nx, xn, lw, td, p)) := by
  have tk := tok_ok (b := b) (m := 500) n540 (by omega) h.1
  have nm : ∀ w, 0 ≤ hWord (tok b n 500 p) → HK n (p + 1) (hName b n w (nb, bn, nx, xn, lw, td, p)) := by
    intro w c
    have c2 := (hWord_sort c).1
    rw [hName]
    split
    · exact tk_fl n540 h.1 (by omega)
    · rename_i c3
      refine (hName2_ok n540 (p := (tok b n 500 p).2.2.1) ⟨tk.2.1.2, h.2⟩ (fun e => ?_) (fun e => ?_)).mono (by have := tk.2.1; omega)
      · rcases Nat.lt_or_ge nx 8 with z | z
        · exact z
        · exact absurd (Or.inl ⟨e, z⟩) c3
      · rcases Nat.lt_or_ge nb 6 with z | z
        · exact z
        · exact absurd (Or.inr ⟨e, z⟩) c3
  rw [hLine1]
  split
  · rename_i c
    split
    · exact nm false c.1
    · split
      · exact nm true c.1
      · rw [hLaw]
        split
        · exact tk_fl n540 h.1 (by omega)
        · have ho : HO n (nb, bn, nx, xn, lw, (fun j => if j = (hWord (tok b n 500 p)).toNat then true else td j), (tok b n 500 p).2.2.1) := ⟨tk.2.1.2, h.2⟩
          rw [hLaw2]
          split
          · refine HK_bnd (hTake_ok (i := 0) n540 ho) ?_
            rintro ⟨nb', bn', nx', xn', lw', td', p'⟩ o' hp'
            refine (hTake_ok (i := 1) n540 o').mono ?_
            have : (tok b n 500 p).2.2.1 + 1 ≤ p' := hp'
            have := tk.2.1
            omega
          · exact (hTake_ok n540 ho).mono (by have := tk.2.1; omega)
  · exact tk_fl n540 h.1 (by omega)
theorem hSign_ok (n540 : n ≤ 540) (h : HO n (nb, bn, nx, xn, lw, td, p)) : HK n (p + 1) (hSign b n (nb, bn, nx, xn, lw, td, p)) := by
  have tk := tok_ok (b := b) (m := 500) n540 (by omega) h.1
  rw [hSign]
  split
  · rename_i c
    exact ⟨⟨tk.2.1.2, h.2⟩, tk.2.2 (by omega) (by omega)⟩
  · exact tk_fl n540 h.1 (by omega)
theorem hLine_ok (n540 : n ≤ 540) {s : HS} (h : HO n s) : HK n (s.2.2.2.2.2.2 + 2) (hLine b n s) := by
  obtain ⟨nb, bn, nx, xn, lw, td, p⟩ := s
  refine HK_bnd (hLine1_ok n540 h) ?_
  rintro ⟨nb', bn', nx', xn', lw', td', p'⟩ o' hp'
  refine (hSign_ok n540 o').mono ?_
  have : p + 1 ≤ p' := hp'
  show p + 2 ≤ p' + 1
  omega
end HO1
