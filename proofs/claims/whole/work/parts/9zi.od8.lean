/-! ORDER, CHECK: the reference's lift, its end -/
section OD8
variable {l : Launch} {D : Nat} {ζ : ZP} {Q : Int → HI → Prop} {QV : HI → Prop} {A B : Int → Int} {m M : Nat} {h : HI}
/-- all that lift tells of a set -/
def LD (A B : Int → Int) (m M : Nat) (g : HI) : Prop := (∀ x : Int, nd x → (0 ≤ g 135 x ∧ g 135 x < 120) ∧ -120 ≤ g 136 x ∧ g 136 x ≤ 120) ∧ ∀ q mv, egs A B m M q mv → vds A B m M (g 135) (g 136)
theorem LD_of {g : HI} (nA : ∀ k : Nat, k < m → nd (A k) ∧ nd (B k)) (lb : LB A B m M g) (lc : LCl A B m M (-1) g) (vl : VL 120 g) : LD A B m M g := by
  have v : ∀ x : Int, nd x → 0 ≤ g 135 x := fun x hx => vl x hx.1 hx.2
  refine ⟨fun x hx => ⟨((lb.1 x hx).2 (v x hx)).1, ((lb.1 x hx).2 (v x hx)).2.2⟩, fun q mv e => ⟨⟨fun c c0 c1 => ?_, fun k hk b => ?_⟩, fun q' mv' e' x y hx hy z => ?_⟩⟩
  · have n0 : nd (2 * c) := ⟨by omega, by omega⟩
    have n1 : nd (2 * c + 1) := ⟨by omega, by omega⟩
    have f0 : flp (2 * c) = 2 * c + 1 := by unfold flp; rw [if_pos (by omega)]
    have p := lc _ n0 (v _ n0) (by have := v _ n0; omega) _ n1 (Or.inl f0.symm)
    have s0 := lb.2 q mv e _ n0 (v _ n0)
    have s1 := lb.2 q mv e _ n1 (v _ n1)
    have o := e.1 c c0 c1
    rw [p] at s1
    exact ⟨p, by omega⟩
  · have n1 := nA k hk
    have p := lc _ n1.1 (v _ n1.1) (by have := v _ n1.1; omega) _ n1.2 (Or.inr ⟨k, hk, b, Or.inl ⟨rfl, rfl⟩⟩)
    have s0 := lb.2 q mv e _ n1.1 (v _ n1.1)
    have s1 := lb.2 q mv e _ n1.2 (v _ n1.2)
    have o := e.2 k hk b
    rw [p] at s1
    exact ⟨p.symm, by omega⟩
  · have s0 := lb.2 q' mv' e' x hx (v x hx)
    have s1 := lb.2 q' mv' e' y hy (v y hy)
    rw [← z] at s1
    exact ⟨s0.1.trans s1.1.symm, by omega⟩
theorem s_lift23 (hn : 144 ≤ ζ.2.2.2.2) (hM : M < 4096) (goal : ∀ g, SE h A B m g → LD A B m M g → QV g) : ∀ (f F : Nat) (g : HI), F + f = 120 → VL F g → SE h A B m g → LB A B m M g → LCl A B m M (-1) g → G l (D + 2) 0 0 mX12_lift (zz ζ) 23 [aP 97, aI M, aI F, aU, aU, aU, aU] [] g (qV (zz ζ) QV) := by
  intro f
  induction f with
  | zero =>
    intro F g e vl se lb lc
    have eF : F = 120 := by omega
    subst eF
    exact b_X12_lift_23 hn ⟨by decide, iteP (by decide) (goal g se (LD_of (fun k hk => (se.2.2 k hk).2.2) lb lc vl))⟩
  | succ f ih =>
    intro F g e vl se lb lc
    have hF : nd (F : Int) := ⟨by omega, by omega⟩
    have bF := lb.1 F hF
    have rF : rg (g 135 F) := by
      by_cases c : 0 ≤ g 135 F
      · have := (bF.2 c).1; unfold nd at this; constructor <;> omega
      · have := bF.1; constructor <;> omega
    have next : ∀ g' : HI, VL F g' → SE h A B m g' → LB A B m M g' → LCl A B m M (-1) g' → 0 ≤ g' 135 F → G l (D + 2) 0 0 mX12_lift (zz ζ) 23 [aP 97, aI M, aI (F + 1), aU, aU, aU, aU] [] g' (qV (zz ζ) QV) := by
      intro g' vl' se' lb' lc' vF
      have := ih (F + 1) g' (by omega) (fun x x0 x1 => by
        by_cases z : x = F
        · rw [z]; exact vF
        · exact vl' x x0 (by omega)) se' lb' lc'
      rw [show ((F + 1 : Nat) : Int) = (F : Int) + 1 by omega] at this
      exact this
    refine b_X12_lift_23 hn ⟨by constructor <;> omega, iteN (by omega) ⟨by omega, rF, ?_⟩⟩
    by_cases c : g 135 F < 0
    · refine iteP c ?_
      have e135 : ∀ x : Int, (hu (hu (hu g 137 0 F) 135 F F) 136 F 0) 135 x = if x = F then (F : Int) else g 135 x := by
        intro x
        rw [hu_c _ _ _ (by decide), hu_eq, hu_c _ _ _ (by decide)]
        by_cases z : x = F
        · rw [if_pos ⟨rfl, z⟩, if_pos z]
        · rw [if_neg (fun q => z q.2), if_neg z]
      have e136 : ∀ x : Int, (hu (hu (hu g 137 0 F) 135 F F) 136 F 0) 136 x = if x = F then 0 else g 136 x := by
        intro x
        rw [hu_eq, hu_c _ _ _ (by decide), hu_c _ _ _ (by decide)]
        by_cases z : x = F
        · rw [if_pos ⟨rfl, z⟩, if_pos z]
        · rw [if_neg (fun q => z q.2), if_neg z]
      have e137 : (hu (hu (hu g 137 0 F) 135 F F) 136 F 0) 137 0 = F := by
        rw [hu_c _ _ _ (by decide), hu_c _ _ _ (by decide), hu_s]
      have FL1 : FL L3 g (hu (hu (hu g 137 0 F) 135 F F) 136 F 0) := ((FL.refl.ua (by decide)).ua (by decide)).ua (by decide)
      generalize hu (hu (hu g 137 0 F) 135 F F) 136 F 0 = g' at e135 e136 e137 FL1 ⊢
      have noF : ∀ x : Int, nd x → g 135 x ≠ F := fun x hx z => by
        have := ((lb.1 x hx).2 (by rw [z]; omega)).2.1
        rw [z] at this; omega
      refine s_lift67 (h0 := h) (m := m) hn hM hF (fun g2 vl2 se2 lb2 lc2 v2 => next g2 vl2 se2 lb2 lc2 v2) 120 0 1 g' (by omega) (fun x x0 x1 => ?_) (se.fl FL1) ⟨fun x hx => ?_, fun q mv eg x hx vx => ?_⟩ (fun x hx vx nF y hy ad => ?_) ⟨fun j hj => ?_, fun x hx ex => ?_, fun j hj => by omega, ?_⟩ (by omega) (by omega)
      · rw [e135, if_neg (by omega)]; exact vl x x0 x1
      · rw [e135 x, e136 x]
        by_cases z : x = F
        · rw [if_pos z, if_pos z, e135, if_pos rfl]; exact ⟨by omega, fun _ => ⟨hF, rfl, by decide⟩⟩
        · rw [if_neg z, if_neg z]
          have o := lb.1 x hx
          refine ⟨o.1, fun vx => ?_⟩
          have o2 := o.2 vx
          refine ⟨o2.1, ?_, o2.2.2⟩
          rw [e135, if_neg (noF x hx)]
          exact o2.2.1
      · rw [e135 x] at vx ⊢
        rw [e136 x]
        by_cases z : x = F
        · rw [if_pos z, if_pos z, z]; exact ⟨rfl, by omega⟩
        · rw [if_neg z] at vx
          rw [if_neg z, if_neg z]
          exact lb.2 q mv eg x hx vx
      · rw [e135 x] at vx nF ⊢
        by_cases z : x = F
        · rw [if_pos z] at nF; exact absurd rfl nF
        · rw [if_neg z] at vx nF ⊢
          have o := lc x hx vx (by omega) y hy ad
          rw [e135, if_neg (fun q => by rw [q] at o; omega)]
          exact o
      · have : j = 0 := by omega
        subst this
        have e137' : g' 137 ((0 : Nat) : Int) = F := e137
        rw [e137', e135, e136, if_pos rfl, if_pos rfl]
        exact ⟨hF, rfl, by omega⟩
      · rw [e135 x] at ex
        by_cases z : x = F
        · exact ⟨0, by omega, by rw [z]; exact e137⟩
        · rw [if_neg z] at ex; exact absurd ex (noF x hx)
      · have := cN_of (q := vis g') (r := F) (n := 120) (by omega) (by unfold vis; rw [e135, if_pos rfl]; exact decide_eq_true (by omega))
        omega
    · exact iteN c (next g vl se lb lc (by omega))
theorem s_lift (hn : 144 ≤ ζ.2.2.2.2) (hM : M < 4096) (se : SE h A B m h) (hq : ∀ g, FL L3 h g → LD A B m M g → QV g) : RtV l (D + 2) mX12_lift (zz ζ) [aP 97, aI M] h QV := by
  refine e_X12_lift hn ?_
  have LP : ∀ (f k : Nat) (g : HI), k + f = 120 → FL [(135, -1)] h g → (∀ x : Int, 0 ≤ x → x < k → g 135 x = -1) → G l (D + 2) 0 0 mX12_lift (zz ζ) 2 [aP 97, aI M, aI k, aU, aU, aU, aU] [] g (qV (zz ζ) QV) := by
    intro f
    induction f with
    | zero =>
      intro k g e ff w
      have : k = 120 := by omega
      subst this
      refine b_X12_lift_2 hn ⟨by decide, iteP (by decide) ?_⟩
      have w' : ∀ x : Int, nd x → g 135 x = -1 := fun x hx => w x hx.1 hx.2
      exact s_lift23 (h := h) (A := A) (B := B) (m := m) hn hM (fun g2 se2 ld => hq g2 se2.1.2 ld) 120 0 g (by omega) (fun x x0 x1 => by omega) (se.fl (ff.mono (by decide))) ⟨fun x hx => by rw [w' x hx]; exact ⟨by omega, fun z => by omega⟩, fun q mv _ x hx vx => by rw [w' x hx] at vx; omega⟩ (fun x hx vx => by rw [w' x hx] at vx; omega)
    | succ f ih =>
      intro k g e ff w
      refine b_X12_lift_2 hn ⟨by constructor <;> omega, iteN (by omega) ⟨by omega, ?_⟩⟩
      have := ih (k + 1) (hu g 135 k (-1)) (by omega) (ff.ua (by decide)) (fun x x0 x1 => by
        rw [hu_eq]
        by_cases z : x = k
        · rw [if_pos ⟨rfl, z⟩]
        · rw [if_neg (fun q => z q.2)]; exact w x x0 (by omega))
      rw [show ((k + 1 : Nat) : Int) = (k : Int) + 1 by omega] at this
      exact this
  exact LP 120 0 h (by omega) FL.refl (fun x x0 x1 => by omega)
end OD8
