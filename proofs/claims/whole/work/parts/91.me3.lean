/-! meets: the steps, both sides -/
theorem lo8 {t : Nat} (h : t < 2147483648) : band t 255 = ((t % 256 : Nat) : Int) := by
  have e := band_nat (a := t) (b := 255) h (by decide)
  refine e.trans ?_
  congr 1
  exact Nat.and_two_pow_sub_one_eq_mod t 8
theorem sr8 {t : Nat} (h : t < 2147483648) : bshr t 8 = ((t / 256 : Nat) : Int) := by
  have e := bshr_nat (a := t) (k := 8) h (by decide)
  refine e.trans ?_
  rw [Nat.shiftRight_eq_div_pow]
theorem sr16 {t : Nat} (h : t < 2147483648) : bshr t 16 = ((t / 65536 : Nat) : Int) := by
  have e := bshr_nat (a := t) (k := 16) h (by decide)
  refine e.trans ?_
  rw [Nat.shiftRight_eq_div_pow]
def cmB (x a b : Int) : Bool := if a = 61 then decide (x = b) else if a = 60 then decide (x < b) else decide (b < x)
def lvV (h : HI) (c : Int) : Int := lv3 (decide (1 < cN (rq (h 99) c) (h 3 10).toNat ∧ h 99 8 * rdays (h 99) c (h 3 10).toNat < rfell (h 99) c (h 3 10).toNat)) (rjp (h 99) c (h 3 10).toNat) (rwm (h 99) c (h 3 10).toNat)
def tv3 (S : HI) (w c : Int) : Int := if w = 5 then tS S c else if w = 3 then tH S c else tP S c
def atB (h : HI) (c w a b : Int) : Bool := if w = 0 then decide (lvV h c ≠ 0) else if w = 1 then decide (h 11 c ≠ -1) else if w = 2 then decide (h 22 c = a) else if w = 6 then cmB c a b else (decide (tN (stk 3 h) c ≠ 0) && cmB (tv3 (stk 3 h) w c) a b)
section ME3
variable {l : Launch} {D : Nat} {ζ : ZP} {h : HI} {Q : Int → HI → Prop} {c x a b w t : Int}
theorem s_compares (hn : 144 ≤ ζ.2.2.2.2) (rx : rg x) (ra : rg a) (rb : rg b) (hq : Q (if cmB x a b then 1 else 0) h) : RtI l (D + 1) mX3_compares (zz ζ) [aI x, aI a, aI b] h Q := by
  unfold cmB at hq
  refine e_X3_compares hn ⟨ra, iteI (fun y => iteI (fun y2 => ⟨rx, rb, iteI (fun y3 => ?_) (fun y3 => ?_)⟩) (fun y2 => ⟨rx, rb, iteI (fun y3 => ?_) (fun y3 => ?_)⟩)) (fun y => ⟨rx, rb, iteI (fun y3 => ?_) (fun y3 => ?_)⟩)⟩
  · rw [if_neg y, if_neg y2, decide_eq_false (show ¬ (b < x) by omega)] at hq; exact hq
  · rw [if_neg y, if_neg y2, decide_eq_true (show b < x by omega)] at hq; exact hq
  · rw [if_neg y, if_pos (show a = 60 by omega), decide_eq_false (show ¬ (x < b) by omega)] at hq; exact hq
  · rw [if_neg y, if_pos (show a = 60 by omega), decide_eq_true (show x < b by omega)] at hq; exact hq
  · rw [if_pos (show a = 61 by omega), decide_eq_false (show ¬ (x = b) by omega)] at hq; exact hq
  · rw [if_pos (show a = 61 by omega), decide_eq_true (show x = b by omega)] at hq; exact hq
theorem tv3_bd {S : HI} (ok : TDok (td S)) : 0 ≤ tv3 S w c ∧ tv3 S w c ≤ 14000 := by
  have b := tv_bd ok c
  have sb := tS_bd ok c
  unfold tv3
  split
  · omega
  · split <;> omega
theorem s_holds (hn : 144 ≤ ζ.2.2.2.2) (sr : SR (stk 3 h) (h 99) (h 101)) {g : HI} {L : List (Nat × Int)} (f : FL L h g) (cl : ((List.range 30).all (fun k => !inC L (3 + k)) && !inC L 99 && !inC L 101) = true) (tx : tX (stk 3 h) g) (hc : 0 ≤ c ∧ c < h 3 3) (st : STP 8 t w a b) (w7 : w ≠ 7) (w8 : w ≠ 8) (w9 : w ≠ 9) : rg (band t 255) ∧ band t 255 ≠ 12 ∧ band t 255 ≠ 11 ∧ band t 255 ≠ 10 ∧ ∀ R : Int → HI → Prop, R (if atB h c w a b then 1 else 0) g → RtI l (D + 4) mX3_holds (zz ζ) [aI t, aP 3, aP 40, aI c] g R := by
  simp only [Bool.and_eq_true, Bool.not_eq_true'] at cl
  have cx : ∀ k, k < 30 → g (3 + k) = h (3 + k) := fun k hk => f.c (3 + k) (by have := List.all_eq_true.mp cl.1.1 k (List.mem_range.mpr hk); simpa using this)
  have ok := sr.2.2.1.2.1
  have C60 : h 3 3 ≤ 60 := sr.2.1.1.2.1
  have e3 : g 3 = h 3 := cx 0 (by decide)
  have e11 : g 11 = h 11 := cx 8 (by decide)
  have e22 : g 22 = h 22 := cx 19 (by decide)
  have e99 : g 99 = h 99 := f.c 99 cl.1.2
  have e101 : g 101 = h 101 := f.c 101 cl.2
  have eS : stk 3 g = stk 3 h := stk_fl cx
  have srg : SR (stk 3 g) (g 99) (g 101) := by rw [eS, e99, e101]; exact sr
  rcases st with ⟨q, _⟩ | ⟨q, _⟩ | ⟨q, _⟩ | ⟨q1, q2, _⟩ | ⟨q1, q2, _⟩ | ⟨q1, q2, q3, q4, _⟩ | ⟨q1, q2, q3, q4, q5, q6, q7⟩
  · exact absurd q w7
  · exact absurd q w8
  · exact absurd q w9
  · subst q1; subst q2
    have e : band 14 255 = 14 := by decide
    rw [e]
    refine ⟨by decide, by decide, by decide, by decide, fun R hR => e_X3_holds hn ?_⟩
    rw [e]
    refine ⟨by decide, fun y => absurd y (by decide), fun _ => s_xliesOf hn srg ⟨hc.1, by rw [e3]; exact hc.2⟩ ?_, fun y => absurd y (by decide), fun y => absurd y (by decide), fun y => absurd y (by decide), fun y => absurd y (by decide), fun y => absurd y (by decide), fun y => absurd y (by decide)⟩
    rw [e99, e3]
    show rg (lvV h c) ∧ _
    have lb := lv3_bd (decide (1 < cN (rq (h 99) c) (h 3 10).toNat ∧ h 99 8 * rdays (h 99) c (h 3 10).toNat < rfell (h 99) c (h 3 10).toNat)) (rjp (h 99) c (h 3 10).toNat) (rwm (h 99) c (h 3 10).toNat)
    have hR' : R (if lvV h c ≠ 0 then 1 else 0) g := by
      unfold atB at hR
      simpa using hR
    refine ⟨⟨by show _ ≤ lvV h c; unfold lvV; omega, by show lvV h c ≤ _; unfold lvV; omega⟩, iteI (fun y => ?_) (fun y => ?_)⟩
    · rw [if_neg (fun z => z y)] at hR'; exact hR'
    · rw [if_pos (show lvV h c ≠ 0 from y)] at hR'; exact hR'
  · subst q1; subst q2
    have e : band 15 255 = 15 := by decide
    rw [e]
    refine ⟨by decide, by decide, by decide, by decide, fun R hR => e_X3_holds hn ?_⟩
    rw [e]
    have po := (sr.2.2.2.2.1.2.2.2.1 c hc.1 hc.2)
    have po1 : -1 ≤ h 11 c := po.1
    have po2 : h 11 c < h 10 0 := po.2.1
    have m10 : h 10 0 ≤ 10 := sr.2.2.2.2.1.1.2.1
    have hR' : R (if h 11 c ≠ -1 then 1 else 0) g := by
      unfold atB at hR
      simpa using hR
    refine ⟨by decide, fun y => absurd y (by decide), fun y => absurd y (by decide), fun _ => ⟨⟨hc.1, by omega⟩, ?_⟩, fun y => absurd y (by decide), fun y => absurd y (by decide), fun y => absurd y (by decide), fun y => absurd y (by decide), fun y => absurd y (by decide)⟩
    rw [e11]
    refine ⟨by constructor <;> omega, iteI (fun y => ?_) (fun y => ?_)⟩
    · rw [if_neg (fun z => z y)] at hR'; exact hR'
    · rw [if_pos y] at hR'; exact hR'
  · subst q1
    obtain ⟨T, eT⟩ : ∃ T : Nat, t = T := ⟨t.toNat, by omega⟩
    have b1 : band t 255 = 13 := by rw [eT, lo8 (by omega)]; omega
    have b2 : bshr t 16 = a := by rw [eT, sr16 (by omega)]; omega
    rw [b1]
    refine ⟨by decide, by decide, by decide, by decide, fun R hR => e_X3_holds hn ?_⟩
    rw [b1, b2, e22]
    have bx := (sr.2.1.2 c hc.1 hc.2).2
    have bx1 : 0 ≤ h 22 c := bx.1
    have bx2 : h 22 c < h 4 4 := bx.2
    have m8 : h 4 4 ≤ 8 := sr.1.2.1.2.1
    have hR' : R (if h 22 c = a then 1 else 0) g := by
      unfold atB at hR
      simpa using hR
    refine ⟨by decide, fun _ => ⟨⟨hc.1, by omega⟩, by constructor <;> omega, by constructor <;> omega, iteI (fun y => ?_) (fun y => ?_)⟩, fun y => absurd y (by decide), fun y => absurd y (by decide), fun y => absurd y (by decide), fun y => absurd y (by decide), fun y => absurd y (by decide), fun y => absurd y (by decide), fun y => absurd y (by decide)⟩
    · rw [if_neg y] at hR'; exact hR'
    · rw [if_pos (Decidable.not_not.mp y)] at hR'; exact hR'
  · obtain ⟨T, eT⟩ : ∃ T : Nat, t = T := ⟨t.toNat, by omega⟩
    have b1 : band t 255 = w + 13 := by rw [eT, lo8 (by omega)]; omega
    have b2 : bshr t 16 = b := by rw [eT, sr16 (by omega)]; omega
    have b3 : band (bshr t 8) 255 = a := by rw [eT, sr8 (by omega), lo8 (by omega)]; omega
    rw [b1]
    refine ⟨by constructor <;> omega, by omega, by omega, by omega, fun R hR => e_X3_holds hn ?_⟩
    rw [b1, b2]
    have vb := tv3_bd (w := w) (c := c) ok
    have nb := (tv_bd ok c).1
    have n46 := (tx c hc.1 (by omega)).1
    have m117 : w ≠ 6 → G l (D + 4) 0 0 mX3_holds (zz ζ) 117 [aI t, aU, aP 40, aI c, aI b] [] g (qI (zz ζ) R) := by
      intro w6
      have hR' : R (if (decide (tN (stk 3 h) c ≠ 0) && cmB (tv3 (stk 3 h) w c) a b) then 1 else 0) g := by
        unfold atB at hR
        rw [if_neg (show ¬ w = 0 by omega), if_neg (show ¬ w = 1 by omega), if_neg (show ¬ w = 2 by omega), if_neg w6] at hR
        exact hR
      refine b_X3_holds_117 hn (s_has hn ⟨hc.1, by omega⟩ (by rw [n46]; constructor <;> omega) ?_)
      rw [n46]
      by_cases z : tN (stk 3 h) c ≤ 0
      · rw [if_pos z]
        rw [decide_eq_false (show ¬ (tN (stk 3 h) c ≠ 0) by omega)] at hR'
        exact ⟨by decide, iteP rfl hR'⟩
      · rw [if_neg z]
        rw [decide_eq_true (show tN (stk 3 h) c ≠ 0 by omega), Bool.true_and] at hR'
        refine ⟨by decide, iteN (by decide) (s_toldOf hn ok tx ⟨hc.1, by omega⟩ (by rw [b1]; constructor <;> omega) ?_)⟩
        rw [if_neg (by omega), b1, b3]
        have ev : (if w + 13 - 16 + 1 = 3 then tS (stk 3 h) c else if w + 13 - 16 + 1 = 1 then tH (stk 3 h) c else tP (stk 3 h) c) = tv3 (stk 3 h) w c := by
          unfold tv3
          by_cases w5 : w = 5
          · rw [if_pos (by omega), if_pos w5]
          · rw [if_neg (by omega), if_neg w5]
            by_cases w3 : w = 3
            · rw [if_pos (by omega), if_pos w3]
            · rw [if_neg (by omega), if_neg w3]
        rw [ev]
        refine s_compares hn (by constructor <;> omega) (by constructor <;> omega) (by constructor <;> omega) ?_
        cases hb : cmB (tv3 (stk 3 h) w c) a b
        · rw [hb] at hR'; exact ⟨by decide, iteP rfl hR'⟩
        · rw [hb] at hR'; exact ⟨by decide, iteN (by decide) hR'⟩
    refine ⟨by constructor <;> omega, fun y => absurd y (by omega), fun y => absurd y (by omega), fun y => absurd y (by omega), fun y => m117 (by omega), fun y => m117 (by omega), fun y => m117 (by omega), fun y => ?_, fun y => absurd y (by omega)⟩
    rw [b3]
    refine s_compares hn (by constructor <;> omega) (by constructor <;> omega) (by constructor <;> omega) ?_
    have hR' : R (if cmB c a b then 1 else 0) g := by
      unfold atB at hR
      rw [if_neg (show ¬ w = 0 by omega), if_neg (show ¬ w = 1 by omega), if_neg (show ¬ w = 2 by omega), if_pos (show w = 6 by omega)] at hR
      exact hR
    cases hb : cmB c a b
    · rw [hb] at hR'; exact ⟨Or.inl rfl, hR'⟩
    · rw [hb] at hR'; exact ⟨Or.inr rfl, hR'⟩
end ME3
