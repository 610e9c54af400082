/-! meets: the call -/
def mtR (P : Nat → Int) (k : Int) : Nat → Nat → Int → Int
  | 0, _, met => if k = -1 then met else -1
  | m + 1, c, met => if P c = 0 then mtR P k m (c + 1) met else if met = k then (c : Int) else mtR P k m (c + 1) (met + 1)
theorem mtR_bd {P : Nat → Int} {k : Int} : ∀ (m c : Nat) (met : Int), 0 ≤ met → met ≤ c → -1 ≤ mtR P k m c met ∧ mtR P k m c met ≤ c + m
  | 0, c, met, h0, h1 => by unfold mtR; split <;> omega
  | m + 1, c, met, h0, h1 => by
    unfold mtR
    split
    · have := mtR_bd (P := P) (k := k) m (c + 1) met h0 (by omega); omega
    · split
      · omega
      · have := mtR_bd (P := P) (k := k) m (c + 1) (met + 1) (by omega) (by omega); omega
theorem hd1_01 (L : List Bool) : hd1 L = 0 ∨ hd1 L = 1 := by
  match L with
  | [] => exact Or.inl rfl
  | false :: _ => exact Or.inl rfl
  | true :: _ => exact Or.inr rfl
section ME5
variable {l : Launch} {D : Nat} {ζ : ZP} {h : HI} {Q : Int → HI → Prop} {c x : Int}
theorem op_meets (i : Inv ζ h) (rx : rg x) : Op l (D + 60) ζ mX11_meets mX12_meets [aI x] h := by
  have hn := ζok_n i.1.1
  have sr : SR (stk 3 h) (h 99) (h 101) := i.1.2 2
  have a2 : h 99 11 = h 3 3 ∧ 0 ≤ h 3 3 ∧ h 3 3 ≤ 60 := ⟨sr.2.1.1.2.2, sr.2.1.1.1, sr.2.1.1.2.1⟩
  have su := sr.2.2.2.2.2
  have s1 : 0 ≤ h 8 1 ∧ h 8 1 ≤ 40 ∧ h 99 16 = h 8 1 := su.1
  have s2 : 0 ≤ h 8 2 ∧ h 8 2 ≤ 20 ∧ (h 8 2 = 0 ↔ h 8 1 = 0) := su.2.1
  obtain ⟨n, en⟩ : ∃ n : Nat, h 8 1 = n := ⟨(h 8 1).toNat, by omega⟩
  obtain ⟨C, eC⟩ : ∃ C : Nat, h 3 3 = C := ⟨(h 3 3).toNat, by omega⟩
  have e99 : hu h 97 0 0 99 = h 99 := hu_c _ _ _ (by decide)
  have fin0 : rg (-1) ∧ rg (-1) ∧ (-1 : Int) = -1 ∧ (hu h 97 0 0) 1000003 = h 1000003 ∧ (hu h 97 0 0) 1000004 = h 1000004 ∧ Inv ζ (hu h 97 0 0) := op_fin i rfl (by decide) FL.th rfl
  refine e_X11_meets hn ⟨by constructor <;> omega, iteI (fun y => ⟨rfl, rfl, e_X12_meets hn ⟨by constructor <;> omega, iteP (by omega) fin0⟩⟩) (fun y => ⟨rx, iteI (fun y2 => ?_) (fun y2 => ⟨rfl, rfl, e_X12_meets hn ⟨by constructor <;> omega, iteN (by omega) ⟨rx, iteN y2 fin0⟩⟩⟩)⟩)⟩
  have n0 : 0 < n := by omega
  let w : Nat → Int := fun k => h 99 (2627 + 3 * (k : Int))
  have sk : ∀ k : Nat, k < n → STP 8 (h 9 k) (w k) (h 99 (2627 + 3 * (k : Int) + 1)) (h 99 (2627 + 3 * (k : Int) + 2)) := fun k hk => (su.2.2.1 k (by show (k : Int) < h 8 1; omega)).1
  have ru : ruK w n := by
    refine ⟨fun k hk => ?_, ?_⟩
    · have := (su.2.2.1 k (by show (k : Int) < h 8 1; omega)).2
      exact ⟨this.1, this.2.1, this.2.2⟩
    · have := su.2.2.2 (by show (0 : Int) < h 8 1; omega)
      have e : (stk 3 h 5 1).toNat = n := by show (h 8 1).toNat = n; omega
      rw [e] at this
      exact this
  let A : Int → Nat → Bool := fun c k => atB h c (w k) (h 99 (2627 + 3 * (k : Int) + 1)) (h 99 (2627 + 3 * (k : Int) + 2))
  let P : Nat → Int := fun c => hd1 (evB w (A c) n)
  have P01 : ∀ c, P c = 0 ∨ P c = 1 := fun c => hd1_01 _
  have wb : ∀ k : Nat, k < n → 0 ≤ w k ∧ w k ≤ 9 := fun k hk => by
    have := sk k hk
    unfold STP at this
    omega
  refine i_refresh i (fun g f ig z ts tx => ?_)
  have opb : ∀ k : Nat, k < n → (w k = 7 → band (h 9 k) 255 = 12) ∧ (w k = 8 → band (h 9 k) 255 = 11) ∧ (w k = 9 → band (h 9 k) 255 = 10) := fun k hk => by
    have q := sk k hk
    unfold STP at q
    refine ⟨fun e => ?_, fun e => ?_, fun e => ?_⟩
    · rw [show h 9 k = 12 by omega]; decide
    · rw [show h 9 k = 11 by omega]; decide
    · rw [show h 9 k = 10 by omega]; decide
  have xl : ∀ (m c : Nat) (met : Int), c + m = C → 0 ≤ met → met ≤ c → ∀ {R : Int → HI → Prop}, R (mtR P x m c met) g → G l (D + 60) 0 0 mX11_meets (zz ζ) 35 [aP 0, aI x, aI met, aI c] [] g (qI (zz ζ) R) := by
    intro m
    induction m with
    | zero =>
      intro c met hc m0 m1 R hR
      unfold mtR at hR
      refine b_X11_meets_35 hn ⟨by constructor <;> omega, by rw [f.c 3 rfl]; constructor <;> omega, iteP (by rw [f.c 3 rfl]; omega) ⟨rx, iteI (fun y => ?_) (fun y => ?_)⟩⟩
      · rw [if_neg y] at hR; exact hR
      · rw [if_pos (Decidable.not_not.mp y)] at hR; exact hR
    | succ m ih =>
      intro c met hc m0 m1 R hR
      unfold mtR at hR
      refine b_X11_meets_35 hn ⟨by constructor <;> omega, by rw [f.c 3 rfl]; constructor <;> omega, iteN (by rw [f.c 3 rfl]; omega) ?_⟩
      refine s_fits (D := D + 58) (w := w) (a := A c) (n := n) hn (by omega) ru (by rw [f.c 8 rfl]; exact en) (fun k hk => ?_) ?_
      · rw [f.c 9 rfl]
        have o := opb k hk
        exact ⟨o.1, o.2.1, o.2.2, fun w7 w8 w9 => s_holds hn sr f rfl tx ⟨by omega, by omega⟩ (sk k hk) w7 w8 w9⟩
      · show rg (P c) ∧ (if P c = 0 then _ else _)
        rcases P01 c with e | e
        · rw [if_pos e] at hR
          rw [e]
          have kk := ih (c + 1) met (by omega) m0 (by omega) hR
          rw [show ((c + 1 : Nat) : Int) = (c : Int) + 1 by omega] at kk
          exact ⟨by decide, iteP rfl kk⟩
        · rw [if_neg (show ¬ P c = 0 by omega)] at hR
          rw [e]
          refine ⟨by decide, iteN (by decide) ⟨by constructor <;> omega, rx, iteI (fun y3 => ?_) (fun y3 => ?_)⟩⟩
          · rw [if_neg y3] at hR
            have kk := ih (c + 1) (met + 1) (by omega) (by omega) (by omega) hR
            rw [show ((c + 1 : Nat) : Int) = (c : Int) + 1 by omega] at kk
            exact kk
          · rw [if_pos (Decidable.not_not.mp y3)] at hR; exact hR
  refine xl C 0 0 (by omega) (by omega) (by omega) ⟨f.c _ rfl, f.c _ rfl, e_X12_meets hn ?_⟩
  rw [f.c 99 rfl]
  refine ⟨by constructor <;> omega, iteN (by omega) ⟨rx, iteP y2 (i_settle i (by rw [hu_c _ _ _ (by decide), f.c 99 rfl]) (fun k fm tsm tm => ?_))⟩⟩
  have k99 : k 99 = h 99 := by rw [fm.c 99 rfl, hu_c _ _ _ (by decide), f.c 99 rfl]
  have FG : FL ((97, 0) :: LM) g k := (FL.refl.u rfl).trans (fm.mono rfl)
  have ml : ∀ (m c : Nat) (met : Int) (k1 : HI), c + m = C → 0 ≤ met → met ≤ c → FL [(113, -1), (97, 28), (97, 29)] k k1 → ∀ {R : Int → HI → Prop}, (∀ k2, FL [(113, -1), (97, 28), (97, 29)] k k2 → R (mtR P x m c met) k2) → G l (D + 60) 0 0 mX12_meets (zz ζ) 30 [aP 97, aI x, aI met, aI c] [] k1 (qI (zz ζ) R) := by
    intro m
    induction m with
    | zero =>
      intro c met k1 hc m0 m1 f1 R hR'
      have hR := hR' k1 f1
      unfold mtR at hR
      refine b_X12_meets_30 hn ⟨by constructor <;> omega, by rw [f1.c 99 rfl, k99]; constructor <;> omega, iteP (by rw [f1.c 99 rfl, k99]; omega) ⟨rx, iteI (fun y => ?_) (fun y => ?_)⟩⟩
      · rw [if_neg y] at hR; exact hR
      · rw [if_pos (Decidable.not_not.mp y)] at hR; exact hR
    | succ m ih =>
      intro c met k1 hc m0 m1 f1 R hR'
      have e1 : k1 99 = h 99 := by rw [f1.c 99 rfl, k99]
      refine b_X12_meets_30 hn ⟨by constructor <;> omega, by rw [e1]; constructor <;> omega, iteN (by rw [e1]; omega) ?_⟩
      refine s_mOne (D := D + 58) (w := w) (a := A c) (n := n) hn (by omega) ru (by rw [e1]; omega) (fun q hq => ?_) (fun k2 f2 => ?_)
      · rw [e1]
        refine ⟨rfl, (wb q hq).1, (wb q hq).2, fun w7 w8 w9 g2 R2 f2 hR2 => ?_⟩
        have F2 : FL [(113, -1), (97, 28), (97, 29)] k g2 := f1.trans f2
        refine s_so hn sr (by rw [F2.c 99 rfl, k99]) (fun c' c0 c1 => ?_) ⟨by omega, by omega⟩ (sk q hq) w7 w8 w9 hR2
        rw [F2.c 109 rfl, F2.c 106 rfl, F2.c 107 rfl, F2.c 108 rfl]
        exact tm c' c0 c1
      · have F2 : FL [(113, -1), (97, 28), (97, 29)] k k2 := f1.trans f2
        show rg (P c) ∧ (if ¬ P c = 0 then _ else _)
        rcases P01 c with e | e
        · rw [e]
          have kk := ih (c + 1) met k2 (by omega) m0 (by omega) F2 (R := R) (fun k3 f3 => by
            have hR := hR' k3 f3
            unfold mtR at hR
            rw [if_pos e] at hR
            exact hR)
          rw [show ((c + 1 : Nat) : Int) = (c : Int) + 1 by omega] at kk
          exact ⟨by decide, iteN (by decide) kk⟩
        · rw [e]
          refine ⟨by decide, iteP (by decide) ⟨by constructor <;> omega, rx, iteI (fun y3 => ?_) (fun y3 => ?_)⟩⟩
          · have kk := ih (c + 1) (met + 1) k2 (by omega) (by omega) (by omega) F2 (R := R) (fun k3 f3 => by
              have hR := hR' k3 f3
              unfold mtR at hR
              rw [if_neg (show ¬ P c = 0 by omega), if_neg y3] at hR
              exact hR)
            rw [show ((c + 1 : Nat) : Int) = (c : Int) + 1 by omega] at kk
            exact kk
          · have hR := hR' k2 F2
            unfold mtR at hR
            rw [if_neg (show ¬ P c = 0 by omega), if_pos (Decidable.not_not.mp y3)] at hR
            exact hR
  refine ml C 0 0 k (by omega) (by omega) (by omega) FL.refl (fun k2 f2 => ?_)
  have mb := mtR_bd (P := P) (k := x) C 0 0 (by omega) (by omega)
  have F3 : FL ((113, -1) :: (97, 28) :: (97, 29) :: (97, 0) :: LM) g k2 := (FG.mono rfl).trans (f2.mono rfl)
  have := op_fin (r1 := mtR P x C 0 0) ig rfl (by constructor <;> omega) F3 rfl
  rw [f.c 1000003 rfl, f.c 1000004 rfl] at this
  exact this
end ME5
