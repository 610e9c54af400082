/-! inPack, life, ends -/
/-- the view of a pack that stands in the stock -/
def pvS (S : HI) (p : Int) : PV := ((S 11 p).toNat, (S 10 p / S 11 p).toNat, fun i => S 9 (p * 40 + i), tH S, tP S)
theorem pvS_ok {S : HI} {s nm : Int → Int} (i : SR S s nm) {p : Int} (h0 : 0 ≤ p) (h1 : p < S 7 0) : pvOk (pvS S p) ∧ ((pvS S p).1 : Int) = S 11 p ∧ (((pvS S p).1 * (pvS S p).2.1 : Nat) : Int) = S 10 p ∧ p < 10 ∧ ∀ i : Int, 0 ≤ i → i < S 10 p → (0 ≤ S 9 (p * 40 + i) ∧ S 9 (p * 40 + i) < S 0 3) ∧ tN S (S 9 (p * 40 + i)) ≠ 0 ∧ S 9 (p * 40 + i) = s (2107 + 40 * p + i) := by
  obtain ⟨sa, sc, sr, ss, sp, su⟩ := i
  obtain ⟨q1, q2, q3, q4, q5, q6⟩ := sp.2.2.1 p h0 h1
  have dv := Int.mul_ediv_cancel' (Int.dvd_of_emod_eq_zero q2.2.2.2)
  have e1 : (((S 11 p).toNat : Nat) : Int) = S 11 p := by omega
  have g0 : 0 ≤ S 10 p / S 11 p := Int.ediv_nonneg (by omega) (by omega)
  have e2 : (((S 10 p / S 11 p).toNat : Nat) : Int) = S 10 p / S 11 p := by omega
  have e3 : (((S 11 p).toNat * (S 10 p / S 11 p).toNat : Nat) : Int) = S 10 p := by rw [Int.natCast_mul, e1, e2]; exact dv
  have g1 : 1 ≤ S 10 p / S 11 p := by
    by_cases z : S 10 p / S 11 p = 0
    · rw [z, Int.mul_zero] at dv; omega
    · omega
  have p10 := sp.1.2.1
  have c60 := sc.1.2.1
  have cells : ∀ i : Int, 0 ≤ i → i < S 10 p → (0 ≤ S 9 (p * 40 + i) ∧ S 9 (p * 40 + i) < S 0 3) ∧ tN S (S 9 (p * 40 + i)) ≠ 0 ∧ S 9 (p * 40 + i) = s (2107 + 40 * p + i) := by
    intro i i0 i1
    obtain ⟨c1, c2, c3, c4, c5, c6⟩ := q5 i i0 i1
    have c4' : 0 < tN S (S 9 (p * 40 + i)) := c4
    exact ⟨c3, by omega, c1⟩
  refine ⟨⟨by show 1 ≤ (S 11 p).toNat; omega, by show 1 ≤ (S 10 p / S 11 p).toNat; omega, by show (S 11 p).toNat * (S 10 p / S 11 p).toNat ≤ 40; omega, fun i i0 i1 => ?_⟩, e1, e3, by omega, cells⟩
  have i1' : i < S 10 p := by rw [← e3]; exact i1
  have c := cells i i0 i1'
  have b := tv_bd sr.2.1 (S 9 (p * 40 + i))
  exact ⟨⟨c.1.1, by show S 9 (p * 40 + i) < 60; omega⟩, ⟨b.2.1.2.2 c.2.1, b.2.1.2.1⟩, ⟨b.2.2.2.2 c.2.1, b.2.2.2.1⟩⟩
section OP9
variable {l : Launch} {D : Nat} {ζ : ZP} {h : HI} {Q : Int → HI → Prop} {QV : HI → Prop} {p x : Int}
theorem s_hasP (hn : 144 ≤ ζ.2.2.2.2) (hx : rg x) (hb : rg (h 10 0)) (hq : Q (if 0 ≤ x ∧ x ≤ h 10 0 - 1 then 1 else 0) h) : RtI l (D + 1) mX1_has (zz ζ) [aP 10, aI x] h Q := by
  refine e_X1_has hn ⟨hx, iteI (fun c => ?_) (fun c => ⟨hb, iteI (fun c2 => ?_) (fun c2 => ?_)⟩)⟩
  · rw [if_neg (by omega)] at hq; exact hq
  · rw [if_neg (by omega)] at hq; exact hq
  · rw [if_pos (by omega)] at hq; exact hq
theorem s_isPack (hn : 144 ≤ ζ.2.2.2.2) (hx : rg x) (hb : rg (h 99 14 - 1)) (hq : Q (if 0 ≤ x ∧ x ≤ h 99 14 - 1 then 1 else 0) h) : RtI l (D + 2) mX12_isPack (zz ζ) [aP 97, aI x] h Q := by
  refine e_X12_isPack hn (s_isIn hn hx rg_0 hb ⟨?_, hq⟩)
  split
  · exact Or.inr rfl
  · exact Or.inl rfl
theorem op_inPack (i : Inv ζ h) (hp : rg p) (hx : rg x) : Op l (D + 60) ζ mX11_inPack mX12_inPack [aI p, aI x] h := by
  have hn := ζok_n i.1.1
  have sr : SR (stk 3 h) (h 99) (h 101) := i.1.2 2
  have a : h 99 14 = h 10 0 ∧ 0 ≤ h 10 0 ∧ h 10 0 ≤ 10 := ⟨sr.2.2.2.2.1.1.2.2, sr.2.2.2.2.1.1.1, sr.2.2.2.2.1.1.2.1⟩
  have e99 : hu h 97 0 0 99 = h 99 := hu_c _ _ _ (by decide)
  have rb : rg (h 10 0 - 1) := by constructor <;> omega
  refine e_X11_inPack hn (s_hasP hn hp (by constructor <;> omega) ?_)
  by_cases c : 0 ≤ p ∧ p ≤ h 10 0 - 1
  · rw [if_pos c]
    have v := pvS_ok sr c.1 (by show p < h 10 0; omega)
    have q1 := (sr.2.2.2.2.1.2.2.1 p c.1 (by show p < h 10 0; omega)).1
    have z1 : h 13 p = h 99 (1677 + 3 * p + 2) ∧ 1 ≤ h 13 p ∧ h 13 p ≤ 40 := q1
    have p10 : p < 10 := v.2.2.2.1
    refine ⟨by decide, iteN (by decide) ⟨⟨c.1, p10⟩, s_within hn hx rg_0 (by constructor <;> omega) ?_⟩⟩
    by_cases c2 : 0 ≤ x ∧ x ≤ h 13 p - 1
    · rw [if_pos c2]
      have w := v.2.2.2.2 x c2.1 (by show x < h 13 p; omega)
      have w1 : (0 ≤ h 12 (p * 40 + x) ∧ h 12 (p * 40 + x) < h 3 3) ∧ h 12 (p * 40 + x) = h 99 (2107 + 40 * p + x) := ⟨w.1, w.2.2⟩
      have c60 : h 3 3 ≤ 60 := sr.2.1.1.2.1
      refine ⟨by decide, iteP (by decide) (s_cellAt hn ⟨by omega, by omega⟩ ⟨rfl, rfl, e_X12_inPack hn (s_isPack hn hp (by rw [e99, a.1]; exact rb) ?_)⟩)⟩
      rw [e99, a.1, if_pos c]
      refine ⟨by decide, iteN (by decide) ⟨⟨by omega, by omega⟩, ?_⟩⟩
      rw [← z1.1]
      refine s_isIn hn hx rg_0 (by constructor <;> omega) ?_
      rw [if_pos c2, e99]
      exact ⟨by decide, iteN (by decide) ⟨⟨by omega, by omega⟩, op_fin i w1.2 (by constructor <;> omega) FL.th rfl⟩⟩
    · rw [if_neg c2]
      refine ⟨by decide, iteN (by decide) ⟨rfl, rfl, e_X12_inPack hn (s_isPack hn hp (by rw [e99, a.1]; exact rb) ?_)⟩⟩
      rw [e99, a.1, if_pos c]
      refine ⟨by decide, iteN (by decide) ⟨⟨by omega, by omega⟩, ?_⟩⟩
      rw [← z1.1]
      refine s_isIn hn hx rg_0 (by constructor <;> omega) ?_
      rw [if_neg c2]
      exact ⟨by decide, iteP rfl (op_fin i rfl (by decide) FL.th rfl)⟩
  · rw [if_neg c]
    refine ⟨by decide, iteP rfl ⟨rfl, rfl, e_X12_inPack hn (s_isPack hn hp (by rw [e99, a.1]; exact rb) ?_)⟩⟩
    rw [e99, a.1, if_neg c]
    exact ⟨by decide, iteP rfl (op_fin i rfl (by decide) FL.th rfl)⟩
/-- a pack's view on the class's side, behind a refresh -/
theorem pvX_of {g : HI} {L : List (Nat × Int)} (sr : SR (stk 3 h) (h 99) (h 101)) (h0 : 0 ≤ p) (h1 : p < h 10 0) (f : FL L h g) (c : (!inC L 12 && !inC L 13 && !inC L 14) = true) (tx : tX (stk 3 h) g) : pvX g p (pvS (stk 3 h) p) := by
  simp only [Bool.and_eq_true, Bool.not_eq_true'] at c
  have v := pvS_ok sr h0 h1
  have c60 : h 3 3 ≤ 60 := sr.2.1.1.2.1
  refine ⟨⟨h0, v.2.2.2.1⟩, ?_, ?_, fun i i0 i1 => ?_⟩
  · rw [f.c 13 c.1.2]; exact v.2.2.1.symm
  · rw [f.c 14 c.2]; exact v.2.1.symm
  · have i1' : i < h 13 p := by have := v.2.2.1; exact Int.lt_of_lt_of_le i1 (Int.le_of_eq this)
    have w := v.2.2.2.2 i i0 i1'
    have w1 : 0 ≤ h 12 (p * 40 + i) ∧ h 12 (p * 40 + i) < h 3 3 := w.1
    rw [f.c 12 c.1.1]
    have t := tx (h 12 (p * 40 + i)) w1.1 (by omega)
    exact ⟨rfl, t.2.1, t.2.2.1⟩
theorem pvM_of {g : HI} (sr : SR (stk 3 h) (h 99) (h 101)) (h0 : 0 ≤ p) (h1 : p < h 10 0) (e : g 99 = h 99) (tm : tM (stk 3 h) g) : pvM g p (pvS (stk 3 h) p) := by
  have v := pvS_ok sr h0 h1
  have q := sr.2.2.2.2.1.2.2.1 p h0 h1
  refine ⟨⟨h0, v.2.2.2.1⟩, ?_, ?_, fun i i0 i1 => ?_⟩
  · rw [e, v.2.2.1]; exact q.1.1.symm
  · rw [e, v.2.1]; exact q.2.1.1.symm
  · have i1' : i < h 13 p := by have := v.2.2.1; exact Int.lt_of_lt_of_le i1 (Int.le_of_eq this)
    have w := v.2.2.2.2 i i0 i1'
    have w1 : 0 ≤ h 12 (p * 40 + i) ∧ h 12 (p * 40 + i) < h 3 3 := w.1
    have w2 : tN (stk 3 h) (h 12 (p * 40 + i)) ≠ 0 := w.2.1
    have w3 : h 12 (p * 40 + i) = h 99 (2107 + 40 * p + i) := w.2.2
    have t := tm (h 12 (p * 40 + i)) w1.1 w1.2
    rw [if_neg w2, if_neg w2] at t
    rw [e, ← w3]
    exact ⟨rfl, t.2.1, t.2.2.1⟩
def lwA (h : HI) : Prop := (h 7 0 = h 99 2 ∧ 0 ≤ h 99 2 ∧ h 99 2 ≤ 99) ∧ (h 7 1 = h 99 3 ∧ 0 ≤ h 99 3 ∧ h 99 3 ≤ 99) ∧ (h 7 2 = h 99 4 ∧ 1 ≤ h 99 4 ∧ h 99 4 ≤ 999)
theorem lwA_of (sr : SR (stk 3 h) (h 99) (h 101)) : lwA h := by
  have a0 : h 99 2 = h 7 0 ∧ 0 ≤ h 7 0 ∧ h 7 0 ≤ 99 := sr.1.2.2.1 0 (by decide) (by decide)
  have a1 : h 99 3 = h 7 1 ∧ 0 ≤ h 7 1 ∧ h 7 1 ≤ 99 := sr.1.2.2.1 1 (by decide) (by decide)
  have a2 : h 99 4 = h 7 2 ∧ 1 ≤ h 7 2 ∧ h 7 2 ≤ 999 := sr.1.2.2.1 2 (by decide) (by decide)
  exact ⟨⟨a0.1.symm, by omega, by omega⟩, ⟨a1.1.symm, by omega, by omega⟩, ⟨a2.1.symm, by omega, by omega⟩⟩
theorem op_ends (i : Inv ζ h) (hp : rg p) : Op l (D + 60) ζ mX11_ends mX12_ends [aI p] h := by
  have hn := ζok_n i.1.1
  have sr : SR (stk 3 h) (h 99) (h 101) := i.1.2 2
  have a : h 99 14 = h 10 0 ∧ 0 ≤ h 10 0 ∧ h 10 0 ≤ 10 := ⟨sr.2.2.2.2.1.1.2.2, sr.2.2.2.2.1.1.1, sr.2.2.2.2.1.1.2.1⟩
  have e99 : hu h 97 0 0 99 = h 99 := hu_c _ _ _ (by decide)
  have rb : rg (h 10 0 - 1) := by constructor <;> omega
  have la := lwA_of sr
  refine e_X11_ends hn (s_hasP hn hp (by constructor <;> omega) ?_)
  by_cases c : 0 ≤ p ∧ p ≤ h 10 0 - 1
  · rw [if_pos c]
    have v := pvS_ok sr c.1 (by show p < h 10 0; omega)
    refine ⟨by decide, iteP (by decide) (i_refresh i (fun g f ig z ts tx => ?_))⟩
    have vx := pvX_of sr c.1 (by omega) f rfl tx
    refine s_endingRow hn v.1 vx (A := h 99 2) (B := h 99 3) (F := h 99 4) (by rw [f.c 7 rfl]; exact la.1) (by rw [f.c 7 rfl]; exact la.2.1) (by rw [f.c 7 rfl]; exact la.2.2) ⟨f.c _ rfl, f.c _ rfl, e_X12_ends hn (s_isPack hn hp (by rw [hu_c _ _ _ (by decide), f.c 99 rfl, a.1]; exact rb) ?_)⟩
    rw [hu_c _ _ _ (by decide), f.c 99 rfl, a.1, if_pos c]
    refine ⟨by decide, iteP (by decide) (i_settle i (by rw [hu_c _ _ _ (by decide), f.c 99 rfl]) (fun k fm tsm tm => ?_))⟩
    have k99 : k 99 = h 99 := by rw [fm.c 99 rfl, hu_c _ _ _ (by decide), f.c 99 rfl]
    have vm := pvM_of sr c.1 (by omega) k99 tm
    refine s_endOf hn v.1 vm (A := h 99 2) (B := h 99 3) (F := h 99 4) (by rw [k99]; exact ⟨rfl, la.1.2⟩) (by rw [k99]; exact ⟨rfl, la.2.1.2⟩) (by rw [k99]; exact ⟨rfl, la.2.2.2⟩) ?_
    have FG : FL ((97, 0) :: LM) g k := (FL.refl.u rfl).trans (fm.mono rfl)
    have al := amF_lt (f := pvc (h 99 2) (h 99 3) (h 99 4) (pvS (stk 3 h) p)) (n := (pvS (stk 3 h) p).1) (by have := v.1.1; omega)
    have b4 : (pvS (stk 3 h) p).1 ≤ 40 := by
      have := Nat.mul_le_mul_left (pvS (stk 3 h) p).1 v.1.2.1
      have := v.1.2.2.1
      omega
    have := op_fin (r1 := (amF (pvc (h 99 2) (h 99 3) (h 99 4) (pvS (stk 3 h) p)) (pvS (stk 3 h) p).1 : Int)) ig rfl (by constructor <;> omega) FG rfl
    rw [f.c 1000003 rfl, f.c 1000004 rfl] at this
    exact this
  · rw [if_neg c]
    refine ⟨by decide, iteN (by decide) ⟨rfl, rfl, e_X12_ends hn (s_isPack hn hp (by rw [e99, a.1]; exact rb) ?_)⟩⟩
    rw [e99, a.1, if_neg c]
    exact ⟨by decide, iteN (by decide) (op_fin i rfl (by decide) FL.th rfl)⟩
theorem op_life (i : Inv ζ h) (hp : rg p) : Op l (D + 60) ζ mX11_life mX12_life [aI p] h := by
  have hn := ζok_n i.1.1
  have sr : SR (stk 3 h) (h 99) (h 101) := i.1.2 2
  have a : h 99 14 = h 10 0 ∧ 0 ≤ h 10 0 ∧ h 10 0 ≤ 10 := ⟨sr.2.2.2.2.1.1.2.2, sr.2.2.2.2.1.1.1, sr.2.2.2.2.1.1.2.1⟩
  have e99 : hu h 97 0 0 99 = h 99 := hu_c _ _ _ (by decide)
  have rb : rg (h 10 0 - 1) := by constructor <;> omega
  have la := lwA_of sr
  refine e_X11_life hn (s_hasP hn hp (by constructor <;> omega) ?_)
  by_cases c : 0 ≤ p ∧ p ≤ h 10 0 - 1
  · rw [if_pos c]
    have v := pvS_ok sr c.1 (by show p < h 10 0; omega)
    refine ⟨by decide, iteP (by decide) (i_refresh i (fun g f ig z ts tx => ?_))⟩
    have vx := pvX_of sr c.1 (by omega) f rfl tx
    have al := amF_lt (f := pvc (h 99 2) (h 99 3) (h 99 4) (pvS (stk 3 h) p)) (n := (pvS (stk 3 h) p).1) (by have := v.1.1; omega)
    have xa : g 7 0 = h 99 2 ∧ 0 ≤ h 99 2 ∧ h 99 2 ≤ 99 := by rw [f.c 7 rfl]; exact la.1
    have xb : g 7 1 = h 99 3 ∧ 0 ≤ h 99 3 ∧ h 99 3 ≤ 99 := by rw [f.c 7 rfl]; exact la.2.1
    have xf : g 7 2 = h 99 4 ∧ 1 ≤ h 99 4 ∧ h 99 4 ≤ 999 := by rw [f.c 7 rfl]; exact la.2.2
    refine s_endingRow hn v.1 vx xa xb xf (s_xcyclesOf hn v.1 vx xa xb xf al ⟨f.c _ rfl, f.c _ rfl, e_X12_life hn (s_isPack hn hp (by rw [hu_c _ _ _ (by decide), f.c 99 rfl, a.1]; exact rb) ?_)⟩)
    rw [hu_c _ _ _ (by decide), f.c 99 rfl, a.1, if_pos c]
    refine ⟨by decide, iteP (by decide) (i_settle i (by rw [hu_c _ _ _ (by decide), f.c 99 rfl]) (fun k fm tsm tm => ?_))⟩
    have k99 : k 99 = h 99 := by rw [fm.c 99 rfl, hu_c _ _ _ (by decide), f.c 99 rfl]
    have vm := pvM_of sr c.1 (by omega) k99 tm
    have ma : k 99 2 = h 99 2 ∧ 0 ≤ h 99 2 ∧ h 99 2 ≤ 99 := by rw [k99]; exact ⟨rfl, la.1.2⟩
    have mb : k 99 3 = h 99 3 ∧ 0 ≤ h 99 3 ∧ h 99 3 ≤ 99 := by rw [k99]; exact ⟨rfl, la.2.1.2⟩
    have mf : k 99 4 = h 99 4 ∧ 1 ≤ h 99 4 ∧ h 99 4 ≤ 999 := by rw [k99]; exact ⟨rfl, la.2.2.2⟩
    refine s_endOf hn v.1 vm ma mb mf (s_mcyclesOf hn v.1 vm ma mb mf al ?_)
    have FG : FL ((97, 0) :: LM) g k := (FL.refl.u rfl).trans (fm.mono rfl)
    have cb : 0 ≤ pvc (h 99 2) (h 99 3) (h 99 4) (pvS (stk 3 h) p) (amF (pvc (h 99 2) (h 99 3) (h 99 4) (pvS (stk 3 h) p)) (pvS (stk 3 h) p).1) ∧ _ := cyc_bd _ _ _
    have := op_fin (r1 := pvc (h 99 2) (h 99 3) (h 99 4) (pvS (stk 3 h) p) (amF (pvc (h 99 2) (h 99 3) (h 99 4) (pvS (stk 3 h) p)) (pvS (stk 3 h) p).1)) ig rfl (by unfold pvc at cb ⊢; constructor <;> omega) FG rfl
    rw [f.c 1000003 rfl, f.c 1000004 rfl] at this
    exact this
  · rw [if_neg c]
    refine ⟨by decide, iteN (by decide) ⟨rfl, rfl, e_X12_life hn (s_isPack hn hp (by rw [e99, a.1]; exact rb) ?_)⟩⟩
    rw [e99, a.1, if_neg c]
    exact ⟨by decide, iteN (by decide) (op_fin i rfl (by decide) FL.th rfl)⟩
end OP9
