/-! meets: the reference's steps; the call -/
section ME4
variable {l : Launch} {D : Nat} {ζ : ZP} {h : HI} {Q : Int → HI → Prop} {c x a b w t : Int}
theorem s_cmp3 {P : Prop} {R : Int → HI → Prop} {g : HI} (rx : rg x) (ra : rg a) (rb : rg b) (hq : R (if cmB x a b then 1 else 0) g) : (rg a) ∧ (if ¬ a = 60 then (if ¬ a = 61 then ((rg x) ∧ (rg b) ∧ (if x ≤ b then (R 0 g) else (R 1 g))) else ((rg x) ∧ (rg b) ∧ (if ¬ x = b then (R 0 g) else (R 1 g)))) else ((rg x) ∧ (rg b) ∧ (if b ≤ x then (R 0 g) else (R 1 g)))) := by
  unfold cmB at hq
  refine ⟨ra, iteI (fun y => iteI (fun y2 => ⟨rx, rb, iteI (fun y3 => ?_) (fun y3 => ?_)⟩) (fun y2 => ⟨rx, rb, iteI (fun y3 => ?_) (fun y3 => ?_)⟩)) (fun y => ⟨rx, rb, iteI (fun y3 => ?_) (fun y3 => ?_)⟩)⟩
  · rw [if_neg y2, if_neg y, decide_eq_false (show ¬ (b < x) by omega)] at hq; exact hq
  · rw [if_neg y2, if_neg y, decide_eq_true (show b < x by omega)] at hq; exact hq
  · rw [if_pos (show a = 61 by omega), decide_eq_false (show ¬ (x = b) by omega)] at hq; exact hq
  · rw [if_pos (show a = 61 by omega), decide_eq_true (show x = b by omega)] at hq; exact hq
  · rw [if_neg (show ¬ a = 61 by omega), if_pos (show a = 60 by omega), decide_eq_false (show ¬ (x < b) by omega)] at hq; exact hq
  · rw [if_neg (show ¬ a = 61 by omega), if_pos (show a = 60 by omega), decide_eq_true (show x < b by omega)] at hq; exact hq
theorem s_so (hn : 144 ≤ ζ.2.2.2.2) (sr : SR (stk 3 h) (h 99) (h 101)) {g : HI} (e99 : g 99 = h 99) (tm : tM (stk 3 h) g) (hc : 0 ≤ c ∧ c < h 3 3) (st : STP 8 t w a b) (w7 : w ≠ 7) (w8 : w ≠ 8) (w9 : w ≠ 9) (hq : ∀ g', FL [(97, 28), (97, 29)] g g' → Q (if atB h c w a b then 1 else 0) g') : RtI l (D + 4) mX12_so (zz ζ) [aP 97, aI c, aI w, aI a, aI b] g Q := by
  have ok := sr.2.2.1.2.1
  have C60 : h 3 3 ≤ 60 := sr.2.1.1.2.1
  rcases st with ⟨q, _⟩ | ⟨q, _⟩ | ⟨q, _⟩ | ⟨q1, q2, _⟩ | ⟨q1, q2, _⟩ | ⟨q1, q2, q3, q4, _⟩ | ⟨q1, q2, q3, q4, q5, q6, q7⟩
  · exact absurd q w7
  · exact absurd q w8
  · exact absurd q w9
  · subst q1
    have kn : (stk 3 h 0 10).toNat = (h 3 10).toNat := rfl
    have k := rsK_of sr
    rw [kn] at k
    refine e_X12_so hn ⟨by decide, iteN (by decide) (s_liesOf hn (n := (h 3 10).toNat) (by rw [e99]; exact k) (by constructor <;> omega) (fun g' f' => ?_))⟩
    rw [e99]
    have lb := lv3_bd (decide (1 < cN (rq (h 99) c) (h 3 10).toNat ∧ h 99 8 * rdays (h 99) c (h 3 10).toNat < rfell (h 99) c (h 3 10).toNat)) (rjp (h 99) c (h 3 10).toNat) (rwm (h 99) c (h 3 10).toNat)
    have hR' : Q (if lvV h c ≠ 0 then 1 else 0) g' := by
      have hR := hq g' f'
      unfold atB at hR
      simpa using hR
    refine ⟨by constructor <;> omega, iteI (fun y => ?_) (fun y => ?_)⟩
    · rw [if_neg (fun z : lvV h c ≠ 0 => z y)] at hR'; exact hR'
    · rw [if_pos (show lvV h c ≠ 0 from y)] at hR'; exact hR'
  · subst q1
    have po := (sr.2.2.2.2.1.2.2.2.1 c hc.1 hc.2)
    have po1 : -1 ≤ h 11 c := po.1
    have po2 : h 11 c < h 10 0 := po.2.1
    have m10 : h 10 0 ≤ 10 := sr.2.2.2.2.1.1.2.1
    have hR' : Q (if h 11 c ≠ -1 then 1 else 0) g := by
      have hR := hq g FL.refl
      unfold atB at hR
      simpa using hR
    refine e_X12_so hn ⟨by decide, iteP (by decide) (iteN (by decide) (s_mpackOf hn sr e99 hc ⟨by constructor <;> omega, iteI (fun y => ?_) (fun y => ?_)⟩))⟩
    · rw [if_neg (show ¬ (h 11 c ≠ -1) by omega)] at hR'; exact hR'
    · rw [if_pos (show h 11 c ≠ -1 by omega)] at hR'; exact hR'
  · subst q1
    have bx := sr.2.1.2 c hc.1 hc.2
    have bx0 : h 99 (17 + c) = h 22 c := bx.1
    have bx1 : 0 ≤ h 22 c := bx.2.1
    have bx2 : h 22 c < h 4 4 := bx.2.2
    have m8 : h 4 4 ≤ 8 := sr.1.2.1.2.1
    have hR' : Q (if h 22 c = a then 1 else 0) g := by
      have hR := hq g FL.refl
      unfold atB at hR
      simpa using hR
    refine e_X12_so hn ⟨by decide, iteP (by decide) (iteP (by decide) (iteN (by decide) ⟨⟨by omega, by omega⟩, ?_⟩))⟩
    rw [e99, bx0]
    refine ⟨by constructor <;> omega, by constructor <;> omega, iteI (fun y => ?_) (fun y => ?_)⟩
    · rw [if_neg y] at hR'; exact hR'
    · rw [if_pos (Decidable.not_not.mp y)] at hR'; exact hR'
  · have vb := tv3_bd (w := w) (c := c) ok
    have nb := (tv_bd ok c).1
    have q := tm c hc.1 hc.2
    have in60 : 0 ≤ c ∧ c < 60 := ⟨hc.1, by omega⟩
    refine e_X12_so hn ⟨by constructor <;> omega, iteP (by omega) (iteP (by omega) (iteP (by omega) ?_))⟩
    by_cases w6 : w = 6
    · have hR' : Q (if cmB c a b then 1 else 0) g := by
        have hR := hq g FL.refl
        unfold atB at hR
        rw [if_neg (show ¬ w = 0 by omega), if_neg (show ¬ w = 1 by omega), if_neg (show ¬ w = 2 by omega), if_pos w6] at hR
        exact hR
      exact iteP w6 (b_X12_so_78 hn ⟨by constructor <;> omega, iteP (by omega) (iteP (by omega) (iteP (by omega) (s_cmp3 (P := True) (by constructor <;> omega) (by constructor <;> omega) (by constructor <;> omega) hR')))⟩)
    · have hR' : Q (if (decide (tN (stk 3 h) c ≠ 0) && cmB (tv3 (stk 3 h) w c) a b) then 1 else 0) g := by
        have hR := hq g FL.refl
        unfold atB at hR
        rw [if_neg (show ¬ w = 0 by omega), if_neg (show ¬ w = 1 by omega), if_neg (show ¬ w = 2 by omega), if_neg w6] at hR
        exact hR
      refine iteN w6 ⟨in60, ?_⟩
      rw [q.1]
      by_cases z : tN (stk 3 h) c = 0
      · rw [decide_eq_false (show ¬ (tN (stk 3 h) c ≠ 0) by omega)] at hR'
        exact ⟨by constructor <;> omega, iteN (fun y => y z) hR'⟩
      · rw [decide_eq_true (show tN (stk 3 h) c ≠ 0 from z), Bool.true_and] at hR'
        refine ⟨by constructor <;> omega, iteP z (b_X12_so_78 hn ⟨by constructor <;> omega, ?_⟩)⟩
        rw [if_neg z, if_neg z, if_neg z] at q
        have rv : rg (tv3 (stk 3 h) w c) := by constructor <;> omega
        have ra : rg a := by constructor <;> omega
        have rb : rg b := by constructor <;> omega
        have cm := s_cmp3 (P := True) rv ra rb hR'
        by_cases w3 : w = 3
        · refine iteN (by omega) ⟨in60, ?_⟩
          have e : g 106 c = tv3 (stk 3 h) w c := by unfold tv3; rw [q.2.1, if_neg (by omega), if_pos w3]
          rw [e]; exact cm
        · by_cases w4 : w = 4
          · refine iteP w3 (iteN (by omega) ⟨in60, ?_⟩)
            have e : g 107 c = tv3 (stk 3 h) w c := by unfold tv3; rw [q.2.2.1, if_neg (by omega), if_neg w3]
            rw [e]; exact cm
          · refine iteP w3 (iteP w4 (iteN (by omega) ⟨in60, ?_⟩))
            have e : g 108 c = tv3 (stk 3 h) w c := by unfold tv3; rw [q.2.2.2, if_pos (by omega)]
            rw [e]; exact cm
end ME4
