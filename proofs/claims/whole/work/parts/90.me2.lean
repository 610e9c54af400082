/-! meets: one cell, both sides -/
def stB (w : Int) (a : Bool) (L : List Bool) : List Bool :=
  if w = 7 then (match L with
    | b :: t => (!b) :: t
    | [] => [])
  else if w = 8 then (match L with
    | b :: c :: t => (c && b) :: t
    | L => L)
  else if w = 9 then (match L with
    | b :: c :: t => (c || b) :: t
    | L => L)
  else a :: L
def evB (w : Nat → Int) (a : Nat → Bool) : Nat → List Bool
  | 0 => []
  | k + 1 => stB (w k) (a k) (evB w a k)
/-- what the rule's steps are -/
def ruK (w : Nat → Int) (n : Nat) : Prop := (∀ k : Nat, k < n → (w k = 7 → 1 ≤ dep w k) ∧ (w k = 8 ∨ w k = 9 → 2 ≤ dep w k) ∧ dep w (k + 1) ≤ 20) ∧ dep w n = 1
theorem evB_len {w : Nat → Int} {a : Nat → Bool} {n : Nat} (r : ruK w n) : ∀ k : Nat, k ≤ n → ((evB w a k).length : Int) = dep w k
  | 0, _ => rfl
  | k + 1, hk => by
    have ih := evB_len (a := a) r k (by omega)
    have q := r.1 k (by omega)
    show ((stB (w k) (a k) (evB w a k)).length : Int) = dep w k + (if w k = 7 then 0 else if w k = 8 ∨ w k = 9 then -1 else 1)
    generalize evB w a k = L at ih
    unfold stB
    by_cases e7 : w k = 7
    · rw [if_pos e7, if_pos e7]
      have := q.1 e7
      match L with
      | b :: t => simp at ih ⊢; omega
      | [] => simp at ih; omega
    rw [if_neg e7, if_neg e7]
    by_cases e8 : w k = 8
    · rw [if_pos e8, if_pos (Or.inl e8)]
      have := q.2.1 (Or.inl e8)
      match L with
      | b :: c :: t => simp at ih ⊢; omega
      | [b] => simp at ih; omega
      | [] => simp at ih; omega
    rw [if_neg e8]
    by_cases e9 : w k = 9
    · rw [if_pos e9, if_pos (Or.inr e9)]
      have := q.2.1 (Or.inr e9)
      match L with
      | b :: c :: t => simp at ih ⊢; omega
      | [b] => simp at ih; omega
      | [] => simp at ih; omega
    rw [if_neg e9, if_neg (by omega)]
    simp; omega
theorem evB_20 {w : Nat → Int} {a : Nat → Bool} {n : Nat} (r : ruK w n) {k : Nat} (hk : k ≤ n) : (evB w a k).length ≤ 20 := by
  have := evB_len (a := a) r k hk
  cases k with
  | zero => simp [evB]
  | succ k =>
    have := (r.1 k (by omega)).2.2
    omega
def row1 (h : HI) : List Bool → Prop
  | [] => True
  | b :: t => h 113 (t.length : Int) = (if b then 1 else 0) ∧ row1 h t
theorem row1_u {h : HI} {x : Int} : ∀ {L : List Bool} {p : Int}, (L.length : Int) ≤ p → row1 h L → row1 (hu h 113 p x) L
  | [], _, _, _ => trivial
  | b :: t, p, hp, q => by
    have hp' : (t.length : Int) + 1 ≤ p := by simpa using hp
    exact ⟨by rw [hu_j _ _ _ (by omega)]; exact q.1, row1_u (by omega) q.2⟩
theorem row1_c {h h' : HI} (e : h' 113 = h 113) : ∀ {L : List Bool}, row1 h L → row1 h' L
  | [], _ => trivial
  | b :: t, q => ⟨by rw [e]; exact q.1, row1_c e q.2⟩
section ME2
variable {l : Launch} {D : Nat} {ζ : ZP} {h : HI} {Q : Int → HI → Prop} {c : Int} {w : Nat → Int} {a : Nat → Bool} {n : Nat}
def hd1 (L : List Bool) : Int := match L with
  | b :: _ => if b then 1 else 0
  | [] => 0
/-- the class's side; what a step's first byte is -/
theorem s_fits (hn : 144 ≤ ζ.2.2.2.2) (n40 : n ≤ 40) (r : ruK w n) (h1 : h 8 1 = n) (hw : ∀ k : Nat, k < n → (w k = 7 → band (h 9 k) 255 = 12) ∧ (w k = 8 → band (h 9 k) 255 = 11) ∧ (w k = 9 → band (h 9 k) 255 = 10) ∧ (w k ≠ 7 → w k ≠ 8 → w k ≠ 9 → rg (band (h 9 k) 255) ∧ band (h 9 k) 255 ≠ 12 ∧ band (h 9 k) 255 ≠ 11 ∧ band (h 9 k) 255 ≠ 10 ∧ ∀ R : Int → HI → Prop, R (if a k then 1 else 0) h → RtI l D mX3_holds (zz ζ) [aI (h 9 k), aP 3, aP 40, aI c] h R)) (hq : Q (hd1 (evB w a n)) h) : RtI l (D + 1) mX3_fits (zz ζ) [aP 8, aP 3, aP 40, aI c] h Q := by
  refine e_X3_fits hn ?_
  have main : ∀ (m k : Nat), k + m = n → G l (D + 1) 0 0 mX3_fits (zz ζ) 6 [aP 8, aP 3, aP 40, aI c, aI (vlB (evB w a k)), aI k, aU] [] h (qI (zz ζ) Q) := by
    intro m
    induction m with
    | zero =>
      intro k hk
      have : k = n := by omega
      subst this
      have len := evB_len (a := a) r k (Nat.le_refl _)
      rw [r.2] at len
      have l20 := evB_20 (a := a) r (Nat.le_refl k)
      refine b_X3_fits_6 hn ⟨by constructor <;> omega, by rw [h1]; constructor <;> omega, iteP (by rw [h1]; omega) ?_⟩
      generalize evB w a k = L at *
      match L with
      | [] => simp at len
      | b :: t =>
        rw [vl_low l20]
        cases b
        · exact ⟨by decide, iteP rfl hq⟩
        · exact ⟨by decide, iteN (by decide) hq⟩
    | succ m ih =>
      intro k hk
      have len := evB_len (a := a) r k (by omega)
      have l20 := evB_20 (a := a) r (k := k) (by omega)
      have rk := r.1 k (by omega)
      have wk := hw k (by omega)
      have nx := ih (k + 1) (by omega)
      rw [show ((k + 1 : Nat) : Int) = (k : Int) + 1 by omega] at nx
      have eS : evB w a (k + 1) = stB (w k) (a k) (evB w a k) := rfl
      rw [eS] at nx
      have l20' := evB_20 (a := a) r (k := k + 1) (by omega)
      rw [eS] at l20'
      refine b_X3_fits_6 hn ⟨by constructor <;> omega, by rw [h1]; constructor <;> omega, iteN (by rw [h1]; omega) ⟨⟨by omega, by omega⟩, ?_⟩⟩
      generalize evB w a k = L at *
      unfold stB at nx l20'
      by_cases e7 : w k = 7
      · rw [if_pos e7] at nx
        rw [wk.1 e7]
        have := rk.1 e7
        match L with
        | [] => simp at len; omega
        | b :: t =>
          rw [vl_not l20]
          exact ⟨by decide, iteN (by decide) nx⟩
      rw [if_neg e7] at nx l20'
      by_cases e8 : w k = 8
      · rw [if_pos e8] at nx
        rw [wk.2.1 e8]
        have := rk.2.1 (Or.inl e8)
        match L with
        | [] => simp at len; omega
        | [b] => simp at len; omega
        | b :: d :: t =>
          rw [vl_and l20]
          exact ⟨by decide, iteP (by decide) (iteN (by decide) nx)⟩
      rw [if_neg e8] at nx l20'
      by_cases e9 : w k = 9
      · rw [if_pos e9] at nx
        rw [wk.2.2.1 e9]
        have := rk.2.1 (Or.inr e9)
        match L with
        | [] => simp at len; omega
        | [b] => simp at len; omega
        | b :: d :: t =>
          rw [vl_or l20]
          exact ⟨by decide, iteP (by decide) (iteP (by decide) (iteN (by decide) nx))⟩
      rw [if_neg e9] at nx
      obtain ⟨g1, g2, g3, g4, g5⟩ := wk.2.2.2 e7 e8 e9
      refine ⟨g1, iteP g2 (iteP g3 (iteP g4 (g5 _ ?_)))⟩
      rw [← vl_push l20] at nx
      cases ea : a k
      · rw [ea] at nx
        exact ⟨by decide, iteP rfl nx⟩
      · rw [ea] at nx
        exact ⟨by decide, iteN (by decide) nx⟩
  exact main n 0 (by omega)
/-- the reference's side -/
theorem s_mOne (hn : 144 ≤ ζ.2.2.2.2) (n40 : n ≤ 40) (r : ruK w n) (h1 : h 99 16 = n) (hw : ∀ k : Nat, k < n → h 99 (2627 + 3 * (k : Int)) = w k ∧ 0 ≤ w k ∧ w k ≤ 9 ∧ (w k ≠ 7 → w k ≠ 8 → w k ≠ 9 → ∀ (g : HI) (R : Int → HI → Prop), FL [(113, -1), (97, 28), (97, 29)] h g → (∀ g', FL [(97, 28), (97, 29)] g g' → R (if a k then 1 else 0) g') → RtI l D mX12_so (zz ζ) [aP 97, aI c, aI (w k), aI (h 99 (2627 + 3 * (k : Int) + 1)), aI (h 99 (2627 + 3 * (k : Int) + 2))] g R)) (hq : ∀ g, FL [(113, -1), (97, 28), (97, 29)] h g → Q (hd1 (evB w a n)) g) : RtI l (D + 1) mX12_meetsOne (zz ζ) [aP 97, aI c] h Q := by
  refine e_X12_meetsOne hn ?_
  have main : ∀ (m k : Nat) (g : HI), k + m = n → FL [(113, -1), (97, 28), (97, 29)] h g → row1 g (evB w a k) → G l (D + 1) 0 0 mX12_meetsOne (zz ζ) 4 [aP 97, aI c, aI (evB w a k).length, aI k, aU] [] g (qI (zz ζ) Q) := by
    intro m
    induction m with
    | zero =>
      intro k g hk f rw1
      have : k = n := by omega
      subst this
      have len := evB_len (a := a) r k (Nat.le_refl _)
      rw [r.2] at len
      have q := hq g f
      refine b_X12_meetsOne_4 hn ⟨by constructor <;> omega, by rw [f.c 99 rfl, h1]; constructor <;> omega, iteP (by rw [f.c 99 rfl, h1]; omega) ?_⟩
      generalize evB w a k = L at *
      match L with
      | [] => simp at len
      | [b] =>
        have e : g 113 0 = if b then 1 else 0 := rw1.1
        rw [e]
        cases b
        · exact ⟨Or.inl rfl, q⟩
        · exact ⟨Or.inr rfl, q⟩
      | b :: d :: t => simp at len; omega
    | succ m ih =>
      intro k g hk f rw1
      have len := evB_len (a := a) r k (by omega)
      have l20 := evB_20 (a := a) r (k := k) (by omega)
      have rk := r.1 k (by omega)
      have wk := hw k (by omega)
      have e99 : g 99 = h 99 := f.c 99 rfl
      have nx := fun g' => ih (k + 1) g' (by omega)
      rw [show ((k + 1 : Nat) : Int) = (k : Int) + 1 by omega] at nx
      have eS : evB w a (k + 1) = stB (w k) (a k) (evB w a k) := rfl
      rw [eS] at nx
      refine b_X12_meetsOne_4 hn ⟨by constructor <;> omega, by rw [e99, h1]; constructor <;> omega, iteN (by rw [e99, h1]; omega) ⟨⟨by omega, by omega⟩, ?_⟩⟩
      rw [e99, wk.1]
      refine ⟨by constructor <;> omega, ?_⟩
      generalize evB w a k = L at *
      unfold stB at nx
      by_cases e7 : w k = 7
      · rw [if_pos e7] at nx
        have := rk.1 e7
        match L with
        | [] => simp at len; omega
        | b :: t =>
          have nx' := nx (hu g 113 (t.length : Int) (if b then 0 else 1)) (f.ua rfl) ⟨by rw [hu_s]; cases b <;> rfl, row1_u (Int.le_refl _) rw1.2⟩
          simp only [List.length_cons] at nx' l20 ⊢
          have ep : ((t.length + 1 : Nat) : Int) - 1 = (t.length : Int) := by omega
          rw [ep, rw1.1]
          refine iteN (by omega) ⟨⟨by omega, by omega⟩, ?_⟩
          cases b
          · exact ⟨by decide, iteN (by decide) nx'⟩
          · exact ⟨by decide, iteP (by decide) nx'⟩
      rw [if_neg e7] at nx
      by_cases e89 : w k = 8 ∨ w k = 9
      · have := rk.2.1 e89
        have key : G l (D + 1) 0 0 mX12_meetsOne (zz ζ) 77 [aP 97, aI c, aI L.length, aI k, aI (w k)] [] g (qI (zz ζ) Q) := by
          match L with
          | [] => simp at len; omega
          | [b] => simp at len; omega
          | b :: d :: t =>
            have e1 : g 113 ((t.length : Int) + 1) = if b then 1 else 0 := by
              have := rw1.1
              simpa using this
            have e2 : g 113 (t.length : Int) = if d then 1 else 0 := rw1.2.1
            simp only [List.length_cons] at l20 ⊢
            have ep : ((t.length + 1 + 1 : Nat) : Int) + (-1) - 1 = (t.length : Int) := by omega
            have eq : ((t.length + 1 + 1 : Nat) : Int) + (-1) = (t.length : Int) + 1 := by omega
            have nz : ∀ x : Bool, (if w k = 8 then (d && b) else (d || b)) = x → G l (D + 1) 0 0 mX12_meetsOne (zz ζ) 4 [aP 97, aI c, aI ((t.length : Int) + 1), aI ((k : Int) + 1), aU] [] (hu g 113 (t.length : Int) (if x then 1 else 0)) (qI (zz ζ) Q) := by
              intro x ex
              by_cases e8 : w k = 8
              · rw [if_pos e8] at nx ex
                have := nx (hu g 113 (t.length : Int) (if x then 1 else 0)) (f.ua rfl) ⟨by rw [hu_s, ex], row1_u (Int.le_refl _) rw1.2.2⟩
                simpa using this
              · rw [if_neg e8] at nx ex
                rw [if_pos (by omega)] at nx
                have := nx (hu g 113 (t.length : Int) (if x then 1 else 0)) (f.ua rfl) ⟨by rw [hu_s, ex], row1_u (Int.le_refl _) rw1.2.2⟩
                simpa using this
            refine b_X12_meetsOne_77 hn ⟨by constructor <;> omega, ?_⟩
            rw [ep, eq, e1, e2]
            have in1 : (0 : Int) ≤ (t.length : Int) ∧ (t.length : Int) < 64 := by omega
            have in2 : (0 : Int) ≤ (t.length : Int) + 1 ∧ (t.length : Int) + 1 < 64 := by omega
            by_cases e8 : w k = 8
            · refine iteN (by omega) ⟨in1, ?_⟩
              rw [if_pos e8] at nz
              cases d
              · exact ⟨by decide, iteP rfl (nz false rfl)⟩
              · refine ⟨by decide, iteN (by decide) ⟨in2, ?_⟩⟩
                cases b
                · exact ⟨by decide, iteP rfl (nz false rfl)⟩
                · exact ⟨by decide, iteN (by decide) (nz true rfl)⟩
            · refine iteP e8 ⟨in1, ?_⟩
              rw [if_neg e8] at nz
              cases d
              · refine ⟨by decide, iteN (by decide) ⟨in2, ?_⟩⟩
                cases b
                · exact ⟨by decide, iteP rfl (nz false rfl)⟩
                · exact ⟨by decide, iteN (by decide) (nz true rfl)⟩
              · exact ⟨by decide, iteP (by decide) (nz true rfl)⟩
        refine iteP e7 ?_
        by_cases e8 : w k = 8
        · exact iteP e8 key
        · exact iteN e8 (iteN (by omega) key)
      · rw [if_neg (by omega), if_neg (by omega)] at nx
        refine iteP e7 (iteN (by omega) (iteP (by omega) ⟨⟨by omega, by omega⟩, ⟨by omega, by omega⟩, wk.2.2.2 e7 (by omega) (by omega) g _ f (fun g' f' => ⟨⟨by omega, by omega⟩, by cases a k <;> simp, ?_⟩)⟩))
        have := nx (hu g' 113 (L.length : Int) (if a k then 1 else 0)) ((f.trans (f'.mono rfl)).ua rfl) ⟨by rw [hu_s], row1_u (Int.le_refl _) (row1_c (f'.c 113 rfl) rw1)⟩
        simpa using this
  have := main n 0 h (by omega) FL.refl trivial
  exact this
end ME2
