/-! mend: both sides -/
theorem plc_in {pc : Int → Int} {c : Int} {N : Nat} (h : plc pc c N ≠ -1) : 0 ≤ plc pc c N ∧ plc pc c N < N ∧ pc (plc pc c N) = c := by
  unfold plc at h ⊢
  have b := fst1_bd (fun i => decide (pc (i : Int) = c)) N 0
  have hr : fst1 (fun i => decide (pc (i : Int) = c)) 0 N = ((fst1 (fun i => decide (pc (i : Int) = c)) 0 N).toNat : Nat) := by omega
  have m := of_decide_eq_true (fst1_in (m := fun i => decide (pc (i : Int) = c)) _ hr)
  rw [← hr] at m
  exact ⟨by omega, by omega, m⟩
theorem plc_of {pc : Int → Int} {c : Int} {N : Nat} {j : Int} (h0 : 0 ≤ j) (h1 : j < N) (h : pc j = c) : plc pc c N ≠ -1 := by
  refine fst1_of (r := j.toNat) (by omega) (by omega) (decide_eq_true ?_)
  rw [show ((j.toNat : Nat) : Int) = j by omega]; exact h
section OP14
variable {l : Launch} {D : Nat} {ζ : ZP} {h : HI} {Q : Int → HI → Prop} {QV : HI → Prop} {p out inn day : Int}
theorem s_lastDay (hn : 144 ≤ ζ.2.2.2.2) (hp : 0 ≤ p ∧ p < 10) {m : Nat} (hm : h 99 15 = m) (m30 : m ≤ 30) (hs : ∀ k : Nat, k < m → rg (h 99 (2507 + 4 * (k : Int)))) (hq : Q (lday (h 99) p m) h) : RtI l (D + 1) mX12_lastDay (zz ζ) [aP 97, aI p] h Q := by
  refine e_X12_lastDay hn ⟨⟨by omega, by omega⟩, ?_⟩
  have main : ∀ (d k : Nat), k + d = m → G l (D + 1) 0 0 mX12_lastDay (zz ζ) 15 [aP 97, aI p, aI (lday (h 99) p k), aI k] [] h (qI (zz ζ) Q) := by
    intro d
    induction d with
    | zero =>
      intro k hk
      have : k = m := by omega
      subst this
      exact b_X12_lastDay_15 hn ⟨by constructor <;> omega, by rw [hm]; constructor <;> omega, iteP (by rw [hm]; omega) hq⟩
    | succ d ih =>
      intro k hk
      have kk := ih (k + 1) (by omega)
      rw [show ((k + 1 : Nat) : Int) = (k : Int) + 1 by omega] at kk
      have e : lday (h 99) p (k + 1) = if h 99 (2507 + 4 * (k : Int)) = p then h 99 (2507 + 4 * (k : Int) + 3) else lday (h 99) p k := rfl
      rw [e] at kk
      refine b_X12_lastDay_15 hn ⟨by constructor <;> omega, by rw [hm]; constructor <;> omega, iteN (by rw [hm]; omega) ⟨⟨by omega, by omega⟩, hs k (by omega), by constructor <;> omega, iteI (fun y => ?_) (fun y => ⟨⟨by omega, by omega⟩, ?_⟩)⟩⟩
      · rw [if_neg y] at kk; exact kk
      · rw [if_pos (Classical.not_not.mp y)] at kk; exact kk
  exact main m 0 (by omega)
theorem op_mend (i : Inv ζ h) (r1 : rg p) (r2 : rg out) (r3 : rg inn) (r4 : rg day) : Op l (D + 60) ζ mX11_mend mX12_mend [aI p, aI out, aI inn, aI day] h := by
  have hn := ζok_n i.1.1
  have sr : SR (stk 3 h) (h 99) (h 101) := i.1.2 2
  have ok := sr.2.2.1.2.1
  have a2 : h 99 11 = h 3 3 ∧ 0 ≤ h 3 3 ∧ h 3 3 ≤ 60 := ⟨sr.2.1.1.2.2, sr.2.1.1.1, sr.2.1.1.2.1⟩
  have sp := sr.2.2.2.2.1
  have a : h 99 14 = h 10 0 ∧ 0 ≤ h 10 0 ∧ h 10 0 ≤ 10 := ⟨sp.1.2.2, sp.1.1, sp.1.2.1⟩
  have am : h 99 15 = h 10 7 ∧ 0 ≤ h 10 7 ∧ h 10 7 ≤ 30 := ⟨sp.2.1.2.2, sp.2.1.1, sp.2.1.2.1⟩
  obtain ⟨m, em⟩ : ∃ m : Nat, h 10 7 = m := ⟨(h 10 7).toNat, by omega⟩
  have po : ∀ c, 0 ≤ c → c < h 3 3 → -1 ≤ h 11 c ∧ h 11 c < h 10 0 := fun c c0 c1 => ⟨(sp.2.2.2.1 c c0 c1).1, (sp.2.2.2.1 c c0 c1).2.1⟩
  -- what a pack gives
  have pv : 0 ≤ p → p < h 10 0 → p < 10 ∧ (∃ N : Nat, h 13 p = N ∧ N ≤ 40 ∧ h 99 (1677 + 3 * p + 2) = N ∧ (∀ y : Int, 0 ≤ y → y < N → h 12 (p * 40 + y) = h 99 (2107 + 40 * p + y) ∧ 0 ≤ h 12 (p * 40 + y) ∧ h 12 (p * 40 + y) < h 3 3 ∧ h 11 (h 12 (p * 40 + y)) = p)) ∧ h 16 p = lday (h 99) p m ∧ 0 ≤ h 16 p ∧ h 16 p ≤ 999 := by
    intro p0 p1
    obtain ⟨q1, q2, q3, q4, q5, q6⟩ := sp.2.2.1 p p0 p1
    have q1' : h 13 p = h 99 (1677 + 3 * p + 2) ∧ 1 ≤ h 13 p ∧ h 13 p ≤ 40 := q1
    have q4' : h 16 p = lday (h 99) p (h 10 7).toNat ∧ 0 ≤ h 16 p ∧ h 16 p ≤ 999 := q4
    rw [show (h 10 7).toNat = m by omega] at q4'
    refine ⟨by omega, ⟨(h 13 p).toNat, by omega, by omega, by omega, fun y y0 y1 => ?_⟩, q4'⟩
    obtain ⟨z1, z2, z3, z4, z5, z6⟩ := q5 y y0 (by show y < h 13 p; omega)
    exact ⟨z1, z3.1, z3.2, z6⟩
  have mrg : ∀ k : Nat, k < m → rg (h 99 (2507 + 4 * (k : Int))) := fun k hk => by
    have w := (sp.2.2.2.2.1 k (by show (k : Int) < h 10 7; omega)).1
    have w1 : h 17 k = h 99 (2507 + 4 * (k : Int)) ∧ 0 ≤ h 17 k ∧ h 17 k < h 10 0 := w
    constructor <;> omega
  have hA : ∀ A : Prop, (A ↔ (0 ≤ p ∧ p ≤ h 10 0 - 1) ∧ (h 16 p ≤ day ∧ day ≤ 999) ∧ h 10 7 < 30 ∧ ((0 ≤ out ∧ out ≤ h 3 3 - 1) ∧ h 11 out = p) ∧ ((0 ≤ inn ∧ inn ≤ h 3 3 - 1) ∧ h 11 inn = -1) ∧ 0 < tN (stk 3 h) inn) → ∀ (g : HI) (LX : List (Nat × Int)), FL LX h g → inC LX 99 = false → (∀ (R : Int → HI → Prop), (¬ A → ∀ k, FL ((97, 0) :: LM) g k → R 0 k) → (A → ∀ pl : Int, 0 ≤ pl → pl < h 13 p → h 12 (p * 40 + pl) = out → pl = plc (fun y => h 12 (p * 40 + y)) out (h 13 p).toNat → ∀ k, FL ((97, 0) :: (99, -1) :: LM) g k → k 99 = fu (fu (fu (fu (fu (fu (h 99) (2507 + 4 * (m : Int)) p) (2507 + 4 * (m : Int) + 1) pl) (2507 + 4 * (m : Int) + 2) inn) (2507 + 4 * (m : Int) + 3) day) (2107 + 40 * p + pl) inn) 15 ((m : Int) + 1) → R 1 k) → RtI l (D + 60) mX12_mend (zz ζ) [aP 97, aI p, aI out, aI inn, aI day] g R) := by
    intro A hAi g LX fx cx R hno hyes
    have e99 : hu g 97 0 0 99 = h 99 := by rw [hu_c _ _ _ (by decide), fx.c 99 cx]
    have F0 : FL ((97, 0) :: LM) g (hu g 97 0 0) := FL.refl.u rfl
    refine e_X12_mend hn ⟨by rw [fx.c 99 cx, am.1]; constructor <;> omega, ?_⟩
    rw [fx.c 99 cx, am.1]
    refine iteI (fun y => hno (fun q => by have := (hAi.mp q).2.2.1; omega) _ F0) (fun y => s_isPack hn r1 (by rw [e99, a.1]; constructor <;> omega) ?_)
    rw [e99, a.1]
    by_cases c1 : 0 ≤ p ∧ p ≤ h 10 0 - 1
    rotate_left
    · rw [if_neg c1]
      exact ⟨by decide, iteP rfl (hno (fun q => c1 (hAi.mp q).1) _ F0)⟩
    rw [if_pos c1]
    obtain ⟨p10, ⟨N, N1, N40, N2, hc⟩, d1, d2, d3⟩ := pv c1.1 (by omega)
    refine ⟨by decide, iteN (by decide) (s_isCell hn r3 (by rw [e99, a2.1]; constructor <;> omega) ?_)⟩
    rw [e99, a2.1]
    by_cases c2 : 0 ≤ inn ∧ inn ≤ h 3 3 - 1
    rotate_left
    · rw [if_neg c2]
      exact ⟨by decide, iteP rfl (hno (fun q => c2 (hAi.mp q).2.2.2.2.1.1) _ F0)⟩
    rw [if_pos c2]
    have cellr : ∀ y : Int, 0 ≤ y → y < N → h 99 (2107 + 40 * p + y) = (fun y => h 12 (p * 40 + y)) y ∧ rg ((fun y => h 12 (p * 40 + y)) y) := fun y y0 y1 => by
      have := hc y y0 y1
      exact ⟨this.1.symm, by show rg (h 12 (p * 40 + y)); constructor <;> omega⟩
    refine ⟨by decide, iteN (by decide) (s_mplaceOf hn ⟨c1.1, p10⟩ (N := N) (by rw [e99]; exact N2) N40 (pc := fun y => h 12 (p * 40 + y)) (fun y y0 y1 => by rw [e99]; exact cellr y y0 y1) r2 ?_)⟩
    have pb := fst1_bd (fun t => decide ((fun y => h 12 (p * 40 + y)) (t : Int) = out)) N 0
    have pb' : plc (fun y => h 12 (p * 40 + y)) out N = -1 ∨ (0 ≤ plc (fun y => h 12 (p * 40 + y)) out N ∧ plc (fun y => h 12 (p * 40 + y)) out N < N) := by unfold plc; omega
    refine ⟨by constructor <;> omega, iteI (fun y3 => hno (fun q => ?_) _ F0) (fun y3 => s_lastDay hn ⟨c1.1, p10⟩ (m := m) (by rw [e99, am.1, em]) (by omega) (fun k hk => by rw [e99]; exact mrg k hk) ?_)⟩
    · have q4 := (hAi.mp q).2.2.2.1
      obtain ⟨t, t0, t1, t2⟩ := (sp.2.2.2.1 out q4.1.1 (by show out < h 3 3; omega)).2.2 (by show 0 ≤ h 11 out; omega)
      have t1' : t < h 13 (h 11 out) := t1
      have t2' : h 12 (h 11 out * 40 + t) = out := t2
      rw [q4.2] at t1' t2'
      have := plc_of (pc := fun y => h 12 (p * 40 + y)) (c := out) (N := N) t0 (by omega) t2'
      omega
    have pin := plc_in (pc := fun y => h 12 (p * 40 + y)) (c := out) (N := N) (by omega)
    have hco := hc _ pin.1 pin.2.1
    have pin3 : h 12 (p * 40 + plc (fun y => h 12 (p * 40 + y)) out N) = out := pin.2.2
    rw [pin3] at hco
    rw [e99, ← d1]
    refine s_isIn hn r4 (by constructor <;> omega) (by decide) ?_
    by_cases c4 : h 16 p ≤ day ∧ day ≤ 999
    rotate_left
    · rw [if_neg c4]
      exact ⟨by decide, iteN (by decide) (hno (fun q => c4 (hAi.mp q).2.1) _ F0)⟩
    rw [if_pos c4]
    refine ⟨by decide, iteP (by decide) (i_settle i e99 (fun k fm ts tm => ?_))⟩
    have FK : FL ((97, 0) :: LM) g k := F0.trans (fm.mono rfl)
    have k99 : k 99 = h 99 := by rw [fm.c 99 rfl, e99]
    have ti := tm inn c2.1 (by show inn < h 3 3; omega)
    have tb := tv_bd ok inn
    rw [ti.1]
    refine ⟨⟨c2.1, by omega⟩, by constructor <;> omega, iteI (fun y5 => hno (fun q => by have := (hAi.mp q).2.2.2.2.2; omega) k FK) (fun y5 => s_mpackOf hn sr k99 ⟨c2.1, by omega⟩ ?_)⟩
    have pi := po inn c2.1 (by omega)
    refine ⟨by constructor <;> omega, iteI (fun y6 => ?_) (fun y6 => hno (fun q => by have := (hAi.mp q).2.2.2.2.1.2; omega) k FK)⟩
    have A0 : A := hAi.mpr ⟨c1, c4, by omega, ⟨⟨hco.2.1, by omega⟩, hco.2.2.2⟩, ⟨c2, by omega⟩, by omega⟩
    rw [k99, am.1, em]
    generalize hpl : plc (fun y => h 12 (p * 40 + y)) out N = pl at pin pin3 pb' y3
    refine ⟨⟨by omega, by omega⟩, s_mplaceOf hn ⟨c1.1, p10⟩ (N := N) ?_ N40 (pc := fun y => h 12 (p * 40 + y)) (fun y y0 y1 => ?_) r2 ?_⟩
    · rw [hu_j _ _ _ (by omega), k99]; exact N2
    · rw [hu_j _ _ _ (by omega), k99]; exact cellr y y0 y1
    rw [hpl]
    refine ⟨⟨by omega, by omega⟩, ⟨by omega, by omega⟩, ⟨by omega, by omega⟩, s_mplaceOf hn ⟨c1.1, p10⟩ (N := N) ?_ N40 (pc := fun y => h 12 (p * 40 + y)) (fun y y0 y1 => ?_) r2 ?_⟩
    · rw [hu_j _ _ _ (by omega), hu_j _ _ _ (by omega), hu_j _ _ _ (by omega), hu_j _ _ _ (by omega), k99]; exact N2
    · rw [hu_j _ _ _ (by omega), hu_j _ _ _ (by omega), hu_j _ _ _ (by omega), hu_j _ _ _ (by omega), k99]; exact cellr y y0 y1
    rw [hpl]
    refine ⟨⟨by omega, by omega⟩, ?_⟩
    have e15 : (hu (hu (hu (hu (hu k 99 (2507 + 4 * (m : Int)) p) 99 (2507 + 4 * (m : Int) + 1) pl) 99 (2507 + 4 * (m : Int) + 2) inn) 99 (2507 + 4 * (m : Int) + 3) day) 99 (2107 + 40 * p + pl) inn) 99 15 = m := by
      rw [hu_j _ _ _ (by omega), hu_j _ _ _ (by omega), hu_j _ _ _ (by omega), hu_j _ _ _ (by omega), hu_j _ _ _ (by omega), k99, am.1, em]
    rw [e15]
    refine hyes A0 pl pin.1 (by omega) pin3 (by rw [N1, Int.toNat_natCast]; exact hpl.symm) _ (((((((FK.mono rfl).ua rfl).ua rfl).ua rfl).ua rfl).ua rfl).ua rfl) ?_
    rw [hu_fu, hu_fu, hu_fu, hu_fu, hu_fu, hu_fu, k99]
  obtain ⟨A, hAi⟩ : ∃ A : Prop, A ↔ (0 ≤ p ∧ p ≤ h 10 0 - 1) ∧ (h 16 p ≤ day ∧ day ≤ 999) ∧ h 10 7 < 30 ∧ ((0 ≤ out ∧ out ≤ h 3 3 - 1) ∧ h 11 out = p) ∧ ((0 ≤ inn ∧ inn ≤ h 3 3 - 1) ∧ h 11 inn = -1) ∧ 0 < tN (stk 3 h) inn := ⟨_, Iff.rfl⟩
  have hM := hA A hAi
  have no0 : ¬ A → (h 1000003 = h 1000003 ∧ h 1000004 = h 1000004 ∧ RtI l (D + 60) mX12_mend (zz ζ) [aP 97, aI p, aI out, aI inn, aI day] h (fun r2 h2 => rg 0 ∧ rg r2 ∧ 0 = r2 ∧ h2 1000003 = h 1000003 ∧ h2 1000004 = h 1000004 ∧ Inv ζ h2)) := fun nA => ⟨rfl, rfl, hM h [] FL.refl rfl _ (fun _ k fk => op_fin i rfl (by decide) fk rfl) (fun a => absurd a nA)⟩
  refine e_X11_mend hn (s_hasP hn r1 (by constructor <;> omega) ?_)
  by_cases c1 : 0 ≤ p ∧ p ≤ h 10 0 - 1
  rotate_left
  · rw [if_neg c1]
    exact ⟨by decide, iteP rfl (no0 (fun q => c1 (hAi.mp q).1))⟩
  rw [if_pos c1]
  obtain ⟨p10, ⟨N, N1, N40, N2, hc⟩, d1, d2, d3⟩ := pv c1.1 (by omega)
  refine ⟨by decide, iteN (by decide) ⟨⟨c1.1, p10⟩, s_within hn r4 (by constructor <;> omega) (by decide) ?_⟩⟩
  by_cases c4 : h 16 p ≤ day ∧ day ≤ 999
  rotate_left
  · rw [if_neg c4]
    exact ⟨by decide, iteP rfl (no0 (fun q => c4 (hAi.mp q).2.1))⟩
  rw [if_pos c4]
  refine ⟨by decide, iteN (by decide) ⟨by constructor <;> omega, iteI (fun y1 => s_hasCell hn r2 (by constructor <;> omega) ?_) (fun y1 => no0 (fun q => y1 (hAi.mp q).2.2.1))⟩⟩
  by_cases c5 : 0 ≤ out ∧ out ≤ h 3 3 - 1
  rotate_left
  · rw [if_neg c5]
    exact ⟨by decide, iteP rfl (no0 (fun q => c5 (hAi.mp q).2.2.2.1.1))⟩
  rw [if_pos c5]
  have po1 := po out c5.1 (by omega)
  refine ⟨by decide, iteN (by decide) ⟨⟨c5.1, by omega⟩, by constructor <;> omega, r1, iteI (fun y2 => s_hasCell hn r3 (by constructor <;> omega) ?_) (fun y2 => no0 (fun q => y2 (hAi.mp q).2.2.2.1.2))⟩⟩
  by_cases c6 : 0 ≤ inn ∧ inn ≤ h 3 3 - 1
  rotate_left
  · rw [if_neg c6]
    exact ⟨by decide, iteP rfl (no0 (fun q => c6 (hAi.mp q).2.2.2.2.1.1))⟩
  rw [if_pos c6]
  have po2 := po inn c6.1 (by omega)
  refine ⟨by decide, iteN (by decide) ⟨⟨c6.1, by omega⟩, by constructor <;> omega, iteI (fun y3 => i_refresh i (fun g f ig z ts tx => ?_)) (fun y3 => no0 (fun q => y3 (hAi.mp q).2.2.2.2.1.2))⟩⟩
  have ti := tx inn c6.1 (by omega)
  have tb := tv_bd ok inn
  refine s_has hn ⟨c6.1, by omega⟩ (by rw [ti.1]; constructor <;> omega) ?_
  rw [ti.1]
  by_cases c7 : tN (stk 3 h) inn ≤ 0
  · rw [if_pos c7]
    refine ⟨by decide, iteP rfl ⟨f.c _ rfl, f.c _ rfl, hM g LQ f rfl _ (fun _ k fk => ?_) (fun q => by have := (hAi.mp q).2.2.2.2.2; omega)⟩⟩
    have := op_fin (r1 := 0) ig rfl (by decide) fk rfl
    rw [f.c 1000003 rfl, f.c 1000004 rfl] at this
    exact this
  rw [if_neg c7]
  have A0 : A := hAi.mpr ⟨c1, c4, y1, ⟨c5, y2⟩, ⟨c6, y3⟩, by omega⟩
  have g12 : g 12 = h 12 := f.c 12 rfl
  have g13 : g 13 = h 13 := f.c 13 rfl
  have g107 : g 10 7 = m := by rw [f.at 10 7 rfl, em]
  have pb' : plc (fun y => h 12 (p * 40 + y)) out N = -1 ∨ (0 ≤ plc (fun y => h 12 (p * 40 + y)) out N ∧ plc (fun y => h 12 (p * 40 + y)) out N < N) := by
    have pb := fst1_bd (fun t => decide ((fun y => h 12 (p * 40 + y)) (t : Int) = out)) N 0
    unfold plc; omega
  have pne : plc (fun y => h 12 (p * 40 + y)) out N ≠ -1 := by
    obtain ⟨t, t0, t1, t2⟩ := (sp.2.2.2.1 out c5.1 (by show out < h 3 3; omega)).2.2 (by show 0 ≤ h 11 out; omega)
    have t1' : t < h 13 (h 11 out) := t1
    have t2' : h 12 (h 11 out * 40 + t) = out := t2
    rw [y2] at t1' t2'
    exact plc_of (pc := fun y => h 12 (p * 40 + y)) (c := out) (N := N) t0 (by omega) t2'
  have pin := plc_in pne
  have pin3 : h 12 (p * 40 + plc (fun y => h 12 (p * 40 + y)) out N) = out := pin.2.2
  refine ⟨by decide, iteN (by decide) (e_X1_exchange hn (s_xplaceOf hn ⟨c1.1, p10⟩ (N := N) (by rw [g13]; exact N1) N40 (pc := fun y => h 12 (p * 40 + y)) (fun y y0 y1 => ?_) r2 ?_))⟩
  · rw [g12]
    have := hc y y0 y1
    exact ⟨rfl, by show rg (h 12 (p * 40 + y)); constructor <;> omega⟩
  generalize hpl : plc (fun y => h 12 (p * 40 + y)) out N = pl at pin pin3 pb' pne
  rw [g107]
  refine ⟨by constructor <;> omega, iteN pne ⟨by constructor <;> omega, iteP (by omega) ⟨⟨by omega, by omega⟩, ⟨by omega, by omega⟩, ⟨c5.1, by omega⟩, ⟨c6.1, by omega⟩, ⟨c1.1, p10⟩, by decide, iteN (by decide) ?_⟩⟩⟩
  generalize hG : (hu (hu (hu (hu (hu (hu (hu (hu (hu g 17 m p) 18 m pl) 19 m out) 20 m day) 10 7 ((m : Int) + 1)) 12 (p * 40 + pl) inn) 11 out (-1)) 11 inn p) 16 p day) = GG
  have fG : FL [(17, -1), (18, -1), (19, -1), (20, -1), (10, 7), (12, -1), (11, -1), (16, -1)] g GG := by
    subst hG
    exact ((((((((FL.refl.ua rfl).ua rfl).ua rfl).ua rfl).u rfl).ua rfl).ua rfl).ua rfl).ua rfl
  have FX : FL ((17, -1) :: (18, -1) :: (19, -1) :: (20, -1) :: (10, 7) :: (12, -1) :: (11, -1) :: (16, -1) :: LQ) h GG := (f.mono rfl).trans (fG.mono rfl)
  have w17 : GG 17 = fu (h 17) m p := by subst hG; funext j; rw [← f.c 17 rfl]; simp [hu, fu]
  have w18 : GG 18 = fu (h 18) m pl := by subst hG; funext j; rw [← f.c 18 rfl]; simp [hu, fu]
  have w19 : GG 19 = fu (h 19) m out := by subst hG; funext j; rw [← f.c 19 rfl]; simp [hu, fu]
  have w20 : GG 20 = fu (h 20) m day := by subst hG; funext j; rw [← f.c 20 rfl]; simp [hu, fu]
  have w12 : GG 12 = fu (h 12) (p * 40 + pl) inn := by subst hG; funext j; rw [← f.c 12 rfl]; simp [hu, fu]
  have w16 : GG 16 = fu (h 16) p day := by subst hG; funext j; rw [← f.c 16 rfl]; simp [hu, fu]
  have w11 : GG 11 = fu (fu (h 11) out (-1)) inn p := by subst hG; funext j; rw [← f.c 11 rfl]; simp [hu, fu]
  have w107 : GG 10 7 = (m : Int) + 1 := by subst hG; simp [hu]
  refine ⟨FX.c _ rfl, FX.c _ rfl, hM GG _ FX rfl _ (fun nA => absurd A0 nA) (fun _ pl' pl0 pl1 pl2 pl3 k fk e => ?_)⟩
  have epl : pl' = pl := by rw [pl3, N1, Int.toNat_natCast]; exact hpl
  subst epl
  have F : FL ((17, -1) :: (18, -1) :: (19, -1) :: (20, -1) :: (10, 7) :: (12, -1) :: (11, -1) :: (16, -1) :: (97, 0) :: (99, -1) :: (LQ ++ LM)) h k := (FX.mono rfl).trans (fk.mono rfl)
  have td' : td (stk 3 k) = td (stk 3 h) := td_eq (F.c 23 rfl) (F.c 24 rfl) (F.c 25 rfl) (F.c 26 rfl) (F.at 3 5 rfl) (F.at 3 3 rfl) (F.at 4 3 rfl)
  refine op_fin2 i rfl (by decide) F [2] rfl (new1 (n := 2) ?_) ?_
  · refine SR_mend (S := stk 3 h) (S' := stk 3 k) (s := h 99) (s' := k 99) (nm := h 101) (nm' := k 101) (p := p) (pl := pl') (out := out) (inn := inn) (day := day) (m := m) sr em (by omega) ⟨c1.1, by show p < h 10 0; omega⟩ ⟨pl0, pl1⟩ pl2 ⟨c6.1, by show inn < h 3 3; omega⟩ y3 (by omega) c4 ((fk.at 10 7 rfl).trans w107) (F.at 10 0 rfl) (F.c 3 rfl) (fun w hw h7 h8 h9 h13 h14 h15 h16 h17 => ?_) ((fk.c 11 rfl).trans w11) ((fk.c 12 rfl).trans w12) ((fk.c 16 rfl).trans w16) ((fk.c 17 rfl).trans w17) ((fk.c 18 rfl).trans w18) ((fk.c 19 rfl).trans w19) ((fk.c 20 rfl).trans w20) ?_ ⟨?_, ?_, ?_, ?_⟩ ?_ (fun j j0 j1 j2 => ?_) (F.c 101 rfl)
    · rw [stk_at 3 k hw, stk_at 3 h hw]
      refine F.c (3 + w) ?_
      simp only [inC, List.any_cons, List.any_append, LQ, LM, List.any_nil, Bool.or_false, Bool.or_eq_false_iff, beq_eq_false_iff_ne]
      omega
    · rw [e, fu_s]
    · rw [e, fu_n _ _ (by omega), fu_n _ _ (by omega), fu_n _ _ (by omega), fu_n _ _ (by omega), fu_n _ _ (by omega), fu_s]
    · rw [e, fu_n _ _ (by omega), fu_n _ _ (by omega), fu_n _ _ (by omega), fu_n _ _ (by omega), fu_s]
    · rw [e, fu_n _ _ (by omega), fu_n _ _ (by omega), fu_n _ _ (by omega), fu_s]
    · rw [e, fu_n _ _ (by omega), fu_n _ _ (by omega), fu_s]
    · rw [e, fu_n _ _ (by omega), fu_s]
    · rw [e, fu_n _ _ j0, fu_n _ _ j1, fu_n _ _ (by omega), fu_n _ _ (by omega), fu_n _ _ (by omega), fu_n _ _ (by omega)]
  · have FGK : FL ((17, -1) :: (18, -1) :: (19, -1) :: (20, -1) :: (10, 7) :: (12, -1) :: (11, -1) :: (16, -1) :: (97, 0) :: (99, -1) :: LM) g k := (fG.mono rfl).trans (fk.mono rfl)
    refine ⟨Or.inl (by rw [FGK.at 40 0 rfl]; exact z), fun _ => ?_⟩
    have tw := (ig.2.2 z).2
    have es : stk 3 g = stk 3 h := stk_fl (fun q hq => f.c (3 + q) (by
      simp only [inC, List.any_cons, List.any_nil, LQ, Bool.or_false, Bool.or_eq_false_iff, beq_eq_false_iff_ne]
      omega))
    rw [es] at tw
    rw [td']
    exact ⟨ts.fl FGK rfl, tw.fl FGK rfl⟩
end OP14
