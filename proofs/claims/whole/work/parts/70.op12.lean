/-! pack -/
theorem hiC_no {s : Int → Int} {p i : Int} : ∀ {m : Nat}, (∀ k : Nat, k < m → s (2507 + 4 * (k : Int)) ≠ p) → hiC s p i m = s (1707 + 40 * p + i)
  | 0, _ => rfl
  | m + 1, h => by
    unfold hiC
    rw [if_neg (fun q => h m (by omega) q.1)]
    exact hiC_no (fun k hk => h k (by omega))
theorem lday_no {s : Int → Int} {p : Int} : ∀ {m : Nat}, (∀ k : Nat, k < m → s (2507 + 4 * (k : Int)) ≠ p) → lday s p m = s (1677 + 3 * p)
  | 0, _ => rfl
  | m + 1, h => by
    unfold lday
    rw [if_neg (h m (by omega))]
    exact lday_no (fun k hk => h k (by omega))
theorem hiC_same {s s' : Int → Int} {p i : Int} (e0 : s' (1707 + 40 * p + i) = s (1707 + 40 * p + i)) : ∀ {m : Nat}, (∀ j : Int, 2507 ≤ j → j < 2507 + 4 * (m : Int) → s' j = s j) → hiC s' p i m = hiC s p i m
  | 0, _ => e0
  | m + 1, h => by
    unfold hiC
    rw [hiC_same e0 (m := m) (fun j h0 h1 => h j h0 (by omega)), h _ (by omega) (by omega), h _ (by omega) (by omega), h _ (by omega) (by omega)]
theorem lday_same {s s' : Int → Int} {p : Int} (e0 : s' (1677 + 3 * p) = s (1677 + 3 * p)) : ∀ {m : Nat}, (∀ j : Int, 2507 ≤ j → j < 2507 + 4 * (m : Int) → s' j = s j) → lday s' p m = lday s p m
  | 0, _ => e0
  | m + 1, h => by
    unfold lday
    rw [lday_same e0 (m := m) (fun j h0 h1 => h j h0 (by omega)), h _ (by omega) (by omega), h _ (by omega) (by omega)]
theorem SR_pack {S S' : HI} {s s' nm nm' : Int → Int} {P rows day : Int} {n : Nat} {t : Int → Int} (i : SR S s nm) (hP : P = S 7 0) (hP10 : P < 10) (n2 : 2 ≤ n) (n40 : n ≤ 40) (pkk : pk S t 1 n) (hrow : 1 ≤ rows ∧ rows ≤ n ∧ (n : Int) % rows = 0) (hday : 0 ≤ day ∧ day ≤ 999) (e70 : S' 7 0 = P + 1) (e77 : S' 7 7 = S 7 7) (e0 : S' 0 = S 0) (ek : ∀ k, k < 30 → k ≠ 7 → k < 8 ∨ 13 < k → S' k = S k) (e8a : ∀ j : Nat, j < n → S' 8 (t j) = P) (e8b : ∀ c : Int, (∀ j : Nat, j < n → t j ≠ c) → S' 8 c = S 8 c) (e9a : ∀ j : Nat, j < n → S' 9 (P * 40 + j) = t j) (e9b : ∀ j : Int, j < P * 40 → S' 9 j = S 9 j) (e10 : S' 10 = fu (S 10) P n) (e11 : S' 11 = fu (S 11) P rows) (e12 : S' 12 = fu (S 12) P day) (e13 : S' 13 = fu (S 13) P day) (s14 : s' 14 = P + 1) (sM : s' (1677 + 3 * P) = day ∧ s' (1677 + 3 * P + 1) = rows ∧ s' (1677 + 3 * P + 2) = n) (sF : ∀ j : Nat, j < n → s' (1707 + 40 * P + j) = t j ∧ s' (2107 + 40 * P + j) = t j) (sj : ∀ j : Int, j ≠ 14 → (j < 1677 + 3 * P ∨ 1677 + 3 * P + 2 < j) → (j < 1707 + 40 * P ∨ 1707 + 40 * P + 40 ≤ j) → (j < 2107 + 40 * P ∨ 2107 + 40 * P + 40 ≤ j) → s' j = s j) (en : nm' = nm) : SR S' s' nm' := by
  obtain ⟨sa, sc, sr, ss, sp, su⟩ := i
  obtain ⟨pa, pb, pc, pd, pe, pf⟩ := sp
  have P0 : 0 ≤ P := by omega
  have r1 := sc.1.2.1
  have kk : ∀ k, k < 30 → k ≠ 7 → k < 8 ∨ 13 < k → S' k = S k := ek
  have td' : td S' = td S := td_eq (kk 20 (by decide) (by decide) (by decide)) (kk 21 (by decide) (by decide) (by decide)) (kk 22 (by decide) (by decide) (by decide)) (kk 23 (by decide) (by decide) (by decide)) (by rw [e0]) (by rw [e0]) (by rw [kk 1 (by decide) (by decide) (by decide)])
  have c03 : S' 0 3 = S 0 3 := by rw [e0]
  have lo : ∀ j : Int, 0 ≤ j → j < 1677 → j ≠ 14 → s' j = s j := fun j h0 h1 h2 => sj j h2 (by omega) (by omega) (by omega)
  have hi : ∀ j : Int, 2507 ≤ j → s' j = s j := fun j h0 => sj j (by omega) (by omega) (by omega) (by omega)
  refine ⟨?_, ?_, ?_, ?_, ?_, ?_⟩
  · exact sa.to (by rw [kk 1 (by decide) (by decide) (by decide)]) (by rw [kk 1 (by decide) (by decide) (by decide)]) (agR_of (kk 3 (by decide) (by decide) (by decide))) (agR_of (kk 4 (by decide) (by decide) (by decide))) (fun j h0 h1 => lo j (by omega) (by omega) (by omega)) (fun j _ _ => by rw [en])
  · exact sc.to c03 (by rw [kk 1 (by decide) (by decide) (by decide)]) (agR_of (kk 19 (by decide) (by decide) (by decide))) (lo _ (by decide) (by decide) (by decide)) (fun j h0 h1 => lo j (by omega) (by omega) (by omega))
  · exact sr.to (kk 20 (by decide) (by decide) (by decide)) (kk 21 (by decide) (by decide) (by decide)) (kk 22 (by decide) (by decide) (by decide)) (kk 23 (by decide) (by decide) (by decide)) (by rw [e0]) c03 (by rw [kk 1 (by decide) (by decide) (by decide)]) (lo _ (by decide) (by decide) (by decide)) (fun j h0 h1 => lo j (by omega) (by omega) (by omega))
  · exact ss.to (by rw [e0]) c03 (agR_of (kk 24 (by decide) (by decide) (by decide))) (agR_of (kk 25 (by decide) (by decide) (by decide))) (agR_of (kk 26 (by decide) (by decide) (by decide))) (agR_of (kk 27 (by decide) (by decide) (by decide))) (agR_of (kk 28 (by decide) (by decide) (by decide))) (agR_of (kk 29 (by decide) (by decide) (by decide))) r1 (lo _ (by decide) (by decide) (by decide)) (lo _ (by decide) (by decide) (by decide)) (lo _ (by decide) (by decide) (by decide)) (fun j h0 h1 => lo j (by omega) (by omega) (by omega))
  · have m30 : (S 7 7).toNat ≤ 30 := by omega
    have noP : ∀ k : Nat, k < (S 7 7).toNat → s' (2507 + 4 * (k : Int)) ≠ P := fun k hk q => by
      have := (pe k (by omega)).1
      rw [hi _ (by omega)] at q
      omega
    have free : ∀ q : Int, 0 ≤ q → q < S 7 0 → ∀ y : Int, 0 ≤ y → y < S 10 q → ∀ j : Nat, j < n → t j ≠ S 9 (q * 40 + y) := by
      intro q q0 q1 y y0 y1 j hj e
      have w := (pc q q0 q1).2.2.2.2.1 y y0 y1
      have w2 := (pkk j hj).2.2.2 (by decide)
      rw [e, w.2.2.2.2.2] at w2
      omega
    refine ⟨⟨by omega, by omega, by rw [s14, e70]⟩, ⟨by omega, by omega, by rw [e77, lo _ (by decide) (by decide) (by decide)]; exact pb.2.2⟩, fun q q0 q1 => ?_, fun c c0 c1 => ?_, fun m hm => ?_, fun m m' hm hm' q => ?_⟩
    · by_cases e : q = P
      · subst e
        unfold SRp1
        rw [e10, e11, e12, e13, fu_s, fu_s, fu_s, fu_s, sM.1, sM.2.1, sM.2.2, e77, lday_no noP, c03, td']
        refine ⟨⟨rfl, by omega, by omega⟩, ⟨rfl, hrow.1, hrow.2.1, hrow.2.2⟩, ⟨rfl, hday⟩, ⟨sM.1.symm, hday⟩, fun y y0 y1 => ?_, fun y y' y0 y1 y2 y3 e => ?_⟩
        · obtain ⟨j, rfl⟩ : ∃ j : Nat, y = j := ⟨y.toNat, by omega⟩
          have pj := pkk j (by omega)
          have sf := sF j (by omega)
          rw [e9a j (by omega), sf.1, sf.2, hiC_no noP, sf.1, e8a j (by omega)]
          exact ⟨rfl, rfl, pj.1, pj.2.1, pj.1, rfl⟩
        · obtain ⟨j, rfl⟩ : ∃ j : Nat, y = j := ⟨y.toNat, by omega⟩
          obtain ⟨j', rfl⟩ : ∃ j' : Nat, y' = j' := ⟨y'.toNat, by omega⟩
          rw [e9a j (by omega), e9a j' (by omega)] at e
          by_cases z : j < j'
          · exact absurd e ((pkk j' (by omega)).2.2.1 j z)
          · by_cases z2 : j' < j
            · exact absurd e.symm ((pkk j (by omega)).2.2.1 j' z2)
            · omega
      · have ql : q < S 7 0 := by omega
        obtain ⟨c1, c2, c3, c4, c5, c6⟩ := pc q q0 ql
        unfold SRp1
        rw [e10, e11, e12, e13, fu_n _ _ e, fu_n _ _ e, fu_n _ _ e, fu_n _ _ e, e77, c03, td', sj _ (by omega) (by omega) (by omega) (by omega), sj _ (by omega) (by omega) (by omega) (by omega), sj _ (by omega) (by omega) (by omega) (by omega), lday_same (sj _ (by omega) (by omega) (by omega) (by omega)) (fun j h0 h1 => hi j h0)]
        refine ⟨c1, c2, c3, c4, fun y y0 y1 => ?_, fun y y' y0 y1 y2 y3 e' => ?_⟩
        · obtain ⟨z1, z2, z3, z4, z5, z6⟩ := c5 y y0 y1
          rw [e9b _ (by omega), sj (2107 + 40 * q + y) (by omega) (by omega) (by omega) (by omega), sj (1707 + 40 * q + y) (by omega) (by omega) (by omega) (by omega), hiC_same (sj _ (by omega) (by omega) (by omega) (by omega)) (fun j h0 h1 => hi j h0)]
          refine ⟨z1, z2, z3, z4, z5, ?_⟩
          rw [e8b _ (free q q0 ql y y0 y1)]; exact z6
        · rw [e9b _ (by omega), e9b _ (by omega)] at e'
          exact c6 y y' y0 y1 y2 y3 e'
    · rw [c03] at c1
      by_cases z : ∃ j : Nat, j < n ∧ t j = c
      · obtain ⟨j, hj, ej⟩ := z
        rw [← ej, e8a j hj]
        refine ⟨by omega, by omega, fun _ => ⟨j, by omega, ?_, e9a j hj⟩⟩
        rw [e10, fu_s]; omega
      · have z' : ∀ j : Nat, j < n → t j ≠ c := fun j hj e => z ⟨j, hj, e⟩
        obtain ⟨d1, d2, d3⟩ := pd c c0 c1
        rw [e8b c z']
        refine ⟨d1, by omega, fun h0 => ?_⟩
        obtain ⟨y, y0, y1, y2⟩ := d3 h0
        have w := (pc _ h0 d2).1
        refine ⟨y, y0, ?_, ?_⟩
        · rw [e10, fu_n _ _ (by omega)]; exact y1
        · rw [e9b _ (by omega)]; exact y2
    · rw [e77] at hm
      obtain ⟨m1, m2, m3, m4, m5⟩ := pe m hm
      have w := (pc _ m1.2.1 m1.2.2).1
      unfold SRm1
      rw [kk 14 (by decide) (by decide) (by decide), kk 15 (by decide) (by decide) (by decide), kk 16 (by decide) (by decide) (by decide), kk 17 (by decide) (by decide) (by decide), e70, c03, e10, e12, fu_n _ _ (by omega), fu_n _ _ (by omega), hi _ (by omega), hi _ (by omega), hi _ (by omega), hi _ (by omega), hiC_same (sj _ (by omega) (by omega) (by omega) (by omega)) (fun j h0 h1 => hi j h0)]
      exact ⟨⟨m1.1, m1.2.1, by omega⟩, m2, m3, m4, m5⟩
    · rw [e77] at hm'
      rw [kk 14 (by decide) (by decide) (by decide)] at q
      rw [kk 17 (by decide) (by decide) (by decide)]
      exact pf m m' hm hm' q
  · exact su.to (by rw [kk 5 (by decide) (by decide) (by decide)]) (by rw [kk 5 (by decide) (by decide) (by decide)]) (agR_of (kk 6 (by decide) (by decide) (by decide))) (lo _ (by decide) (by decide) (by decide)) (fun j h0 h1 => hi j (by omega))
section OP12
variable {l : Launch} {D : Nat} {ζ : ZP} {h : HI} {Q : Int → HI → Prop} {QV : HI → Prop} {x s day : Int}
theorem s_divides (hn : 144 ≤ ζ.2.2.2.2) {n : Int} (rs : rg s) (rn : rg n) (hq : Q (if 1 ≤ s ∧ s ≤ n ∧ n % s = 0 then 1 else 0) h) : RtI l (D + 1) mX11_divides (zz ζ) [aI s, aI n] h Q := by
  refine e_X11_divides hn ⟨rs, iteI (fun y => ?_) (fun y => ⟨rn, iteI (fun y2 => ?_) (fun y2 => ⟨by omega, ?_⟩)⟩)⟩
  · rw [if_neg (by omega)] at hq; exact hq
  · rw [if_neg (by omega)] at hq; exact hq
  · have e : n.tmod s = n % s := Int.tmod_eq_emod_of_nonneg (by omega)
    have b0 := Int.emod_nonneg n (show s ≠ 0 by omega)
    have b1 := Int.emod_lt_of_pos n (show 0 < s by omega)
    rw [e]
    refine ⟨by constructor <;> omega, iteI (fun y3 => ?_) (fun y3 => ?_)⟩
    · rw [if_neg (by omega)] at hq; exact hq
    · rw [if_pos (by omega)] at hq; exact hq
theorem op_pack (i : Inv ζ h) (rs : rg s) (rd : rg day) : Op l (D + 60) ζ mX11_pack mX12_pack [aI s, aI day] h := by
  have hn := ζok_n i.1.1
  have tp : tpI h := i.1.2 0
  have sr : SR (stk 3 h) (h 99) (h 101) := i.1.2 2
  have ok := sr.2.2.1.2.1
  have c60 : h 3 3 ≤ 60 := sr.2.1.1.2.1
  have a : h 99 14 = h 10 0 ∧ 0 ≤ h 10 0 ∧ h 10 0 ≤ 10 := ⟨sr.2.2.2.2.1.1.2.2, sr.2.2.2.2.1.1.1, sr.2.2.2.2.1.1.2.1⟩
  have t1 := tp.1
  have t2 := tp.2.1
  -- the reference refuses: whatever the reason
  have refuse : ∀ (g : HI), FL LPk h g → g 1 1 = 0 → trI g → ¬ ((2 ≤ h 1 1 ∧ h 1 1 ≤ 40) ∧ pk (stk 3 h) (tl h) 1 (h 1 1).toNat ∧ (1 ≤ s ∧ s ≤ h 1 1 ∧ h 1 1 % s = 0) ∧ (0 ≤ day ∧ day ≤ 999) ∧ h 10 0 < 10) → RtI l (D + 60) mX12_pack (zz ζ) [aP 97, aI s, aI day] g (fun r2 h2 => rg (-1) ∧ rg r2 ∧ -1 = r2 ∧ h2 1000003 = h 1000003 ∧ h2 1000004 = h 1000004 ∧ Inv ζ h2) := by
    intro g fx e11 tr no
    have fin : ∀ (L : List (Nat × Int)) (k : HI), FL L g k → L.all (fun q => inL LMk q.1 q.2) = true → k 97 2 = 0 → rg (-1) ∧ rg (-1) ∧ (-1 : Int) = -1 ∧ k 1000003 = h 1000003 ∧ k 1000004 = h 1000004 ∧ Inv ζ k := by
      intro L k fk cL e2
      have fk' : FL LMk g k := fk.mono cL
      have F : FL (LPk ++ LMk) h k := (fx.mono rfl).trans (fk'.mono rfl)
      exact op_fin2 i rfl (by decide) F [0] rfl (new1 (tp0 tp F (by rw [fk'.at 1 1 rfl]; exact e11) e2 rfl)) (tr.fl fk' rfl)
    have e97 : g 97 = h 97 := fx.c 97 rfl
    have e98 : g 98 = h 98 := fx.c 98 rfl
    have e99 : g 99 = h 99 := fx.c 99 rfl
    refine e_X12_pack hn (s_taken hn (fun g1 f1 a3 a2 a4 a5 => ?_))
    have F1 : FL [(97, 0), (97, 2), (97, 3), (97, 4), (97, 5)] g g1 := (FL.refl.u rfl).trans (f1.mono rfl)
    have n3 : g1 97 3 = h 1 1 := by rw [a3, hu_j _ _ _ (by decide), e97]; exact tp.2.2.1
    have g199 : g1 99 = h 99 := by rw [F1.c 99 rfl, e99]
    rw [g199, a.1]
    refine ⟨by constructor <;> omega, iteI (fun y => fin _ g1 F1 rfl a2) (fun y => s_tells i (g := g1) g199 (by rw [F1.c 98 rfl, e98]) n3 (by decide) (by decide) (fun c0 p k f e43 tm e114 => ?_) (fun _ k f => ?_))⟩
    rotate_left
    · exact ⟨by decide, iteP rfl (fin LMk k ((F1.mono rfl).trans (f.mono rfl)) rfl (by rw [f.at 97 2 rfl]; exact a2))⟩
    have FK : FL LMk g k := (F1.mono rfl).trans (f.mono rfl)
    have k2 : k 97 2 = 0 := by rw [f.at 97 2 rfl]; exact a2
    refine ⟨by decide, iteN (by decide) ⟨rs, iteI (fun _ => fin LMk k FK rfl k2) (fun y1 => ?_)⟩⟩
    rw [e43]
    have e : (h 1 1).tmod s = h 1 1 % s := Int.tmod_eq_emod_of_nonneg (by omega)
    have b0 := Int.emod_nonneg (h 1 1) (show s ≠ 0 by omega)
    have b1 := Int.emod_lt_of_pos (h 1 1) (show 0 < s by omega)
    rw [e]
    refine ⟨by constructor <;> omega, iteI (fun _ => fin LMk k FK rfl k2) (fun y2 => ⟨by omega, by constructor <;> omega, iteI (fun _ => fin LMk k FK rfl k2) (fun y3 => s_isIn hn rd rg_0 (by decide) ?_)⟩)⟩
    by_cases y4 : 0 ≤ day ∧ day ≤ 999
    rotate_left
    · rw [if_neg y4]
      exact ⟨by decide, iteN (by decide) (fin LMk k FK rfl k2)⟩
    rw [if_pos y4]
    refine ⟨by decide, iteP (by decide) ?_⟩
    -- some told cell stands in a pack
    have k99 : k 99 = h 99 := by rw [FK.c 99 rfl, e99]
    obtain ⟨n, en⟩ : ∃ n : Nat, h 1 1 = n := ⟨(h 1 1).toNat, by omega⟩
    have en' : (h 1 1).toNat = n := by omega
    rw [en'] at p
    have ex : ¬ (∀ j : Nat, j < n → h 11 (tl h j) = -1) := by
      intro all
      refine no ⟨c0, ?_, ⟨by omega, by omega, by omega⟩, y4, by omega⟩
      rw [en']
      intro j hj
      have pj := p j hj
      exact ⟨pj.1, pj.2.1, pj.2.2.1, fun _ => all j hj⟩
    have main : ∀ (m j : Nat), j + m = n → (∀ q : Nat, q < j → h 11 (tl h q) = -1) → G l (D + 60) 0 0 mX12_pack (zz ζ) 71 [aP 97, aI s, aI day, aI j, aU] [] k (qI (zz ζ) (fun r2 h2 => rg (-1) ∧ rg r2 ∧ -1 = r2 ∧ h2 1000003 = h 1000003 ∧ h2 1000004 = h 1000004 ∧ Inv ζ h2)) := by
      intro m
      induction m with
      | zero => intro j hj all; exact absurd (fun q hq => all q (by omega)) ex
      | succ m ih =>
        intro j hj all
        have pj := p j (by omega)
        have w := sr.2.2.2.2.1.2.2.2.1 (tl h j) pj.1.1 pj.1.2
        have w1 : -1 ≤ h 11 (tl h j) ∧ h 11 (tl h j) < h 10 0 := ⟨w.1, w.2.1⟩
        refine b_X12_pack_71 hn ⟨by constructor <;> omega, by rw [e43]; constructor <;> omega, iteN (by rw [e43]; omega) ⟨⟨by omega, by omega⟩, ?_⟩⟩
        rw [e114 j (by omega) (by omega)]
        refine s_mpackOf hn sr k99 pj.1 ⟨by constructor <;> omega, iteI (fun z => ?_) (fun z => fin LMk k FK rfl k2)⟩
        have kk := ih (j + 1) (by omega) (fun q hq => by
          by_cases eq : q = j
          · rw [eq]; omega
          · exact all q (by omega))
        rw [show ((j + 1 : Nat) : Int) = (j : Int) + 1 by omega] at kk
        exact kk
    exact main n 0 (by omega) (fun q hq => absurd hq (by omega))
  refine e_X11_pack hn (s_pick i (Or.inr rfl) (by decide) (by decide) (fun c0 pk0 g fx e11 tr tx e51 => ?_) (fun no g fx e11 tr => ?_))
  rotate_left
  · refine s_divides hn rs (by decide) ?_
    rw [if_neg (by omega)]
    exact ⟨by decide, iteP rfl ⟨fx.c _ rfl, fx.c _ rfl, refuse g fx e11 tr (fun q => no ⟨q.1, q.2.1⟩)⟩⟩
  refine s_divides hn rs (by constructor <;> omega) ?_
  by_cases y1 : 1 ≤ s ∧ s ≤ h 1 1 ∧ h 1 1 % s = 0
  rotate_left
  · rw [if_neg y1]
    exact ⟨by decide, iteP rfl ⟨fx.c _ rfl, fx.c _ rfl, refuse g fx e11 tr (fun q => y1 q.2.2.1)⟩⟩
  rw [if_pos y1]
  refine ⟨by decide, iteN (by decide) (s_within hn rd rg_0 (by decide) ?_)⟩
  by_cases y2 : 0 ≤ day ∧ day ≤ 999
  rotate_left
  · rw [if_neg y2]
    exact ⟨by decide, iteP rfl ⟨fx.c _ rfl, fx.c _ rfl, refuse g fx e11 tr (fun q => y2 q.2.2.2.1)⟩⟩
  rw [if_pos y2]
  have g100 : g 10 0 = h 10 0 := fx.at 10 0 rfl
  refine ⟨by decide, iteN (by decide) ⟨by rw [g100]; constructor <;> omega, ?_⟩⟩
  rw [g100]
  refine iteI (fun y3 => ?_) (fun y3 => ⟨fx.c _ rfl, fx.c _ rfl, refuse g fx e11 tr (fun q => y3 q.2.2.2.2)⟩)
  obtain ⟨n, en⟩ : ∃ n : Nat, h 1 1 = n := ⟨(h 1 1).toNat, by omega⟩
  have en' : (h 1 1).toNat = n := by omega
  rw [en] at c0 e51 y1 ⊢
  rw [en'] at pk0
  obtain ⟨P, eP⟩ : ∃ P : Int, h 10 0 = P := ⟨_, rfl⟩
  have P0 : 0 ≤ P ∧ P < 10 := by omega
  have cel : ∀ j : Nat, j < n → 0 ≤ tl h j ∧ tl h j < 60 := fun j hj => by
    have : 0 ≤ tl h j ∧ tl h j < h 3 3 := (pk0 j hj).1
    omega
  refine e_X1_make hn ?_
  rw [g100, eP]
  have xm : ∀ (m k : Nat) (g' : HI), k + m = n → FL [(12, -1), (11, -1)] g g' → (∀ j : Nat, j < k → g' 12 (P * 40 + j) = tl h j) → (∀ j : Int, j < P * 40 → g' 12 j = h 12 j) → (∀ j : Nat, j < k → g' 11 (tl h j) = P) → (∀ c : Int, (∀ j : Nat, j < k → tl h j ≠ c) → g' 11 c = h 11 c) → G l (D + 59) 0 0 mX1_make (zz ζ) 9 [aP 10, aP 51, aI n, aI s, aI day, aI P, aI k] [] g' (qI (zz ζ) (fun r1 h1 => h1 1000003 = h 1000003 ∧ h1 1000004 = h 1000004 ∧ RtI l (D + 60) mX12_pack (zz ζ) [aP 97, aI s, aI day] h1 (fun r2 h2 => rg r1 ∧ rg r2 ∧ r1 = r2 ∧ h2 1000003 = h 1000003 ∧ h2 1000004 = h 1000004 ∧ Inv ζ h2))) := by
    intro m
    induction m with
    | succ m ih =>
      intro k g' hk f' b1 b2 b3 b4
      have ck := cel k (by omega)
      have g51 : g' 51 k = tl h k := by rw [f'.c 51 rfl]; exact e51 k (by omega) (by omega)
      refine b_X1_make_9 hn ⟨by constructor <;> omega, by constructor <;> omega, iteN (by omega) ⟨⟨by omega, by omega⟩, ⟨by omega, by omega⟩, ?_⟩⟩
      rw [g51]
      refine ⟨ck, ?_⟩
      have kk := ih (k + 1) (hu (hu g' 12 (P * 40 + k) (tl h k)) 11 (tl h k) P) (by omega) ((f'.ua rfl).ua rfl) (fun j hj => ?_) (fun j hj => ?_) (fun j hj => ?_) (fun c hc => ?_)
      · rw [show ((k + 1 : Nat) : Int) = (k : Int) + 1 by omega] at kk
        exact kk
      · rw [hu_c _ _ _ (by decide)]
        by_cases e : j = k
        · rw [e, hu_s]
        · rw [hu_j _ _ _ (by omega)]; exact b1 j (by omega)
      · rw [hu_c _ _ _ (by decide), hu_j _ _ _ (by omega)]; exact b2 j hj
      · by_cases e : tl h j = tl h k
        · rw [e, hu_s]
        · rw [hu_j _ _ _ e, hu_c _ _ _ (by decide)]
          exact b3 j (by by_cases e2 : j = k
                         · rw [e2] at e; exact absurd rfl e
                         · omega)
      · rw [hu_j _ _ _ (fun e => hc k (by omega) e.symm), hu_c _ _ _ (by decide)]
        exact b4 c (fun j hj => hc j (by omega))
    | zero =>
      intro k g' hk f' b1 b2 b3 b4
      have : k = n := by omega
      subst this
      refine b_X1_make_9 hn ⟨by constructor <;> omega, by constructor <;> omega, iteP (by omega) ⟨P0, ?_⟩⟩
      have e10 : g' 10 0 = P := by rw [f'.at 10 0 rfl, g100, eP]
      rw [e10]
      generalize hG : (hu (hu (hu (hu (hu g' 13 P k) 14 P s) 15 P day) 16 P day) 10 0 (P + 1)) = GG
      have fG : FL [(13, -1), (14, -1), (15, -1), (16, -1), (10, 0)] g' GG := by subst hG; exact ((((FL.refl.ua rfl).ua rfl).ua rfl).ua rfl).u rfl
      have FX : FL ((12, -1) :: (11, -1) :: (13, -1) :: (14, -1) :: (15, -1) :: (16, -1) :: (10, 0) :: LPk) h GG := ((fx.mono rfl).trans (f'.mono rfl)).trans (fG.mono rfl)
      have w13 : GG 13 = fu (h 13) P k := by subst hG; rw [hu_c _ _ _ (by decide), hu_c _ _ _ (by decide), hu_c _ _ _ (by decide), hu_c _ _ _ (by decide), hu_fu, f'.c 13 rfl, fx.c 13 rfl]
      have w14 : GG 14 = fu (h 14) P s := by subst hG; rw [hu_c _ _ _ (by decide), hu_c _ _ _ (by decide), hu_c _ _ _ (by decide), hu_fu, hu_c _ _ _ (by decide), f'.c 14 rfl, fx.c 14 rfl]
      have w15 : GG 15 = fu (h 15) P day := by subst hG; rw [hu_c _ _ _ (by decide), hu_c _ _ _ (by decide), hu_fu, hu_c _ _ _ (by decide), hu_c _ _ _ (by decide), f'.c 15 rfl, fx.c 15 rfl]
      have w16 : GG 16 = fu (h 16) P day := by subst hG; rw [hu_c _ _ _ (by decide), hu_fu, hu_c _ _ _ (by decide), hu_c _ _ _ (by decide), hu_c _ _ _ (by decide), f'.c 16 rfl, fx.c 16 rfl]
      have w10 : GG 10 0 = P + 1 := by subst hG; rw [hu_s]
      have w12 : GG 12 = g' 12 := fG.c 12 rfl
      have w11 : GG 11 = g' 11 := fG.c 11 rfl
      -- the reference
      have e97 : GG 97 = h 97 := FX.c 97 rfl
      have e98 : GG 98 = h 98 := FX.c 98 rfl
      have e99 : GG 99 = h 99 := FX.c 99 rfl
      refine ⟨FX.c _ rfl, FX.c _ rfl, e_X12_pack hn (s_taken hn (fun g1 f1 a3 a2 a4 a5 => ?_))⟩
      have F1 : FL [(97, 0), (97, 2), (97, 3), (97, 4), (97, 5)] GG g1 := (FL.refl.u rfl).trans (f1.mono rfl)
      have n3 : g1 97 3 = h 1 1 := by rw [a3, hu_j _ _ _ (by decide), e97]; exact tp.2.2.1
      have g199 : g1 99 = h 99 := by rw [F1.c 99 rfl, e99]
      have pk0' : pk (stk 3 h) (tl h) 0 k := fun j hj => ⟨(pk0 j hj).1, (pk0 j hj).2.1, (pk0 j hj).2.2.1, fun z => absurd rfl z⟩
      rw [g199, a.1, eP]
      refine ⟨by constructor <;> omega, iteN (by omega) (s_tells i (g := g1) g199 (by rw [F1.c 98 rfl, e98]) n3 (by decide) (by decide) (fun _ _ kM f e43 tm e114 => ?_) (fun no => absurd ⟨by rw [en]; exact c0, by rw [en']; exact pk0'⟩ no))⟩
      rw [en] at e43 e114
      have FK : FL LMk GG kM := (F1.mono rfl).trans (f.mono rfl)
      have k2 : kM 97 2 = 0 := by rw [f.at 97 2 rfl]; exact a2
      have k99 : kM 99 = h 99 := by rw [FK.c 99 rfl, e99]
      have e : (k : Int).tmod s = (k : Int) % s := Int.tmod_eq_emod_of_nonneg (by omega)
      rw [e43, e, y1.2.2]
      refine ⟨by decide, iteN (by decide) ⟨rs, iteN (by omega) ⟨by constructor <;> omega, iteN (by omega) ⟨by omega, by decide, iteN (by decide) (s_isIn hn rd rg_0 (by decide) ?_)⟩⟩⟩⟩
      rw [if_pos y2]
      refine ⟨by decide, iteP (by decide) ?_⟩
      have mm : ∀ (m j : Nat), j + m = k → G l (D + 60) 0 0 mX12_pack (zz ζ) 71 [aP 97, aI s, aI day, aI j, aU] [] kM (qI (zz ζ) (fun r2 h2 => rg P ∧ rg r2 ∧ P = r2 ∧ h2 1000003 = h 1000003 ∧ h2 1000004 = h 1000004 ∧ Inv ζ h2)) := by
        intro m
        induction m with
        | succ m ih =>
          intro j hj
          have pj := pk0 j (by omega)
          have w2 : h 11 (tl h j) = -1 := pj.2.2.2 (by decide)
          refine b_X12_pack_71 hn ⟨by constructor <;> omega, by rw [e43]; constructor <;> omega, iteN (by rw [e43]; omega) ⟨⟨by omega, by omega⟩, ?_⟩⟩
          rw [e114 j (by omega) (by omega)]
          refine s_mpackOf hn sr k99 pj.1 ?_
          rw [w2]
          have kk := ih (j + 1) (by omega)
          rw [show ((j + 1 : Nat) : Int) = (j : Int) + 1 by omega] at kk
          exact ⟨by decide, iteP (by decide) kk⟩
        | zero =>
          intro j hj
          have : j = k := by omega
          subst this
          refine b_X12_pack_71 hn ⟨by constructor <;> omega, by rw [e43]; constructor <;> omega, iteP (by rw [e43]; omega) ?_⟩
          rw [k99, a.1, eP, e43]
          refine ⟨⟨by omega, by omega⟩, ⟨by omega, by omega⟩, ⟨by omega, by omega⟩, ?_⟩
          have m157 : ∀ (m q : Nat) (k' : HI), q + m = j → FL [(99, -1)] kM k' → (k' 99 (1677 + 3 * P) = day ∧ k' 99 (1677 + 3 * P + 1) = s ∧ k' 99 (1677 + 3 * P + 2) = j) → (∀ y : Nat, y < q → k' 99 (1707 + 40 * P + y) = tl h y ∧ k' 99 (2107 + 40 * P + y) = tl h y) → (∀ y : Int, (y < 1677 + 3 * P ∨ 1677 + 3 * P + 2 < y) → (y < 1707 + 40 * P ∨ 1707 + 40 * P + 40 ≤ y) → (y < 2107 + 40 * P ∨ 2107 + 40 * P + 40 ≤ y) → k' 99 y = h 99 y) → G l (D + 60) 0 0 mX12_pack (zz ζ) 157 [aP 97, aU, aU, aI P, aI q] [] k' (qI (zz ζ) (fun r2 h2 => rg P ∧ rg r2 ∧ P = r2 ∧ h2 1000003 = h 1000003 ∧ h2 1000004 = h 1000004 ∧ Inv ζ h2)) := by
            intro m
            induction m with
            | succ m ih =>
              intro q k' hq fk z1 z2 z3
              have e43' : k' 97 43 = j := by rw [fk.at 97 43 rfl]; exact e43
              have e114' : k' 114 q = tl h q := by rw [fk.c 114 rfl]; exact e114 q (by omega) (by omega)
              refine b_X12_pack_157 hn ⟨by constructor <;> omega, by rw [e43']; constructor <;> omega, iteN (by rw [e43']; omega) ⟨⟨by omega, by omega⟩, ⟨by omega, by omega⟩, ⟨by omega, by omega⟩, ?_⟩⟩
              rw [e114']
              have kk := ih (q + 1) (hu (hu k' 99 (1707 + 40 * P + q) (tl h q)) 99 (2107 + 40 * P + q) (tl h q)) (by omega) ((fk.ua rfl).ua rfl) ⟨?_, ?_, ?_⟩ (fun y hy => ?_) (fun y h1 h2 h3 => ?_)
              · rw [show ((q + 1 : Nat) : Int) = (q : Int) + 1 by omega] at kk
                exact kk
              · rw [hu_j _ _ _ (by omega), hu_j _ _ _ (by omega)]; exact z1.1
              · rw [hu_j _ _ _ (by omega), hu_j _ _ _ (by omega)]; exact z1.2.1
              · rw [hu_j _ _ _ (by omega), hu_j _ _ _ (by omega)]; exact z1.2.2
              · by_cases e : y = q
                · rw [e, hu_j _ _ _ (by omega), hu_s, hu_s]; exact ⟨rfl, rfl⟩
                · rw [hu_j _ _ _ (by omega), hu_j _ _ _ (by omega), hu_j _ _ _ (by omega), hu_j _ _ _ (by omega)]; exact z2 y (by omega)
              · rw [hu_j _ _ _ (by omega), hu_j _ _ _ (by omega)]; exact z3 y h1 h2 h3
            | zero =>
              intro q k' hq fk z1 z2 z3
              have : q = j := by omega
              subst this
              have e43' : k' 97 43 = q := by rw [fk.at 97 43 rfl]; exact e43
              refine b_X12_pack_157 hn ⟨by constructor <;> omega, by rw [e43']; constructor <;> omega, iteP (by rw [e43']; omega) ?_⟩
              have e14 : k' 99 14 = P := by rw [z3 14 (by omega) (by omega) (by omega), a.1, eP]
              rw [e14]
              generalize hK : hu k' 99 14 (P + 1) = KK
              have fK : FL [(99, -1)] k' KK := by subst hK; exact FL.refl.ua rfl
              have FMM : FL ((99, -1) :: LMk) GG KK := ((FK.mono rfl).trans (fk.mono rfl)).trans (fK.mono rfl)
              have FF : FL ((99, -1) :: (12, -1) :: (11, -1) :: (13, -1) :: (14, -1) :: (15, -1) :: (16, -1) :: (10, 0) :: (LPk ++ LMk)) h KK := (FX.mono rfl).trans (FMM.mono rfl)
              have v99 : ∀ y : Int, y ≠ 14 → KK 99 y = k' 99 y := fun y hy => by subst hK; exact hu_j _ _ _ hy
              have td' : td (stk 3 KK) = td (stk 3 h) := td_eq (FF.c 23 rfl) (FF.c 24 rfl) (FF.c 25 rfl) (FF.c 26 rfl) (FF.at 3 5 rfl) (FF.at 3 3 rfl) (FF.at 4 3 rfl)
              refine op_fin2 i rfl (by constructor <;> omega) FF [0, 2] rfl ?_ ?_
              · intro y hm
                rcases List.mem_cons.mp hm with e | hm
                · subst e
                  refine tp0 tp FF ?_ ?_ rfl
                  · rw [FMM.at 1 1 rfl, fG.at 1 1 rfl, f'.at 1 1 rfl]; exact e11
                  · rw [fK.at 97 2 rfl, fk.at 97 2 rfl]; exact k2
                · rw [List.mem_singleton] at hm
                  subst hm
                  refine SR_pack (S := stk 3 h) (S' := stk 3 KK) (s := h 99) (s' := KK 99) (nm := h 101) (nm' := KK 101) (P := P) (rows := s) (day := day) (n := q) (t := tl h) sr eP.symm P0.2 (by omega) (by omega) pk0 ⟨y1.1, y1.2.1, y1.2.2⟩ y2 ?_ (FF.at 10 7 rfl) (FF.c 3 rfl) (fun w hw h7 h8 => ?_) (fun j hj => ?_) (fun c hc => ?_) (fun j hj => ?_) (fun j hj => ?_) ?_ ?_ ?_ ?_ ?_ ⟨?_, ?_, ?_⟩ (fun j hj => ?_) (fun y g0 g1 g2 g3 => ?_) (FF.c 101 rfl)
                  · show KK 10 0 = P + 1; rw [FMM.at 10 0 rfl]; exact w10
                  · rw [stk_at 3 KK hw, stk_at 3 h hw]
                    refine FF.c (3 + w) ?_
                    simp only [inC, List.any_cons, List.any_append, LPk, LMk, List.any_nil, Bool.or_false, Bool.or_eq_false_iff, beq_eq_false_iff_ne]
                    omega
                  · show KK 11 (tl h j) = P; rw [FMM.c 11 rfl, w11]; exact b3 j hj
                  · show KK 11 c = h 11 c; rw [FMM.c 11 rfl, w11]; exact b4 c hc
                  · show KK 12 (P * 40 + j) = tl h j; rw [FMM.c 12 rfl, w12]; exact b1 j hj
                  · show KK 12 j = h 12 j; rw [FMM.c 12 rfl, w12]; exact b2 j hj
                  · exact (FMM.c 13 rfl).trans w13
                  · exact (FMM.c 14 rfl).trans w14
                  · exact (FMM.c 15 rfl).trans w15
                  · exact (FMM.c 16 rfl).trans w16
                  · subst hK; rw [hu_s]
                  · rw [v99 _ (by omega)]; exact z1.1
                  · rw [v99 _ (by omega)]; exact z1.2.1
                  · rw [v99 _ (by omega)]; exact z1.2.2
                  · rw [v99 _ (by omega), v99 _ (by omega)]; exact z2 j hj
                  · rw [v99 _ g0]; exact z3 y g1 g2 g3
              · have FGK : FL ((99, -1) :: (12, -1) :: (11, -1) :: (13, -1) :: (14, -1) :: (15, -1) :: (16, -1) :: (10, 0) :: LMk) g KK := ((f'.mono rfl).trans (fG.mono rfl)).trans (FMM.mono rfl)
                have t := tr
                have tdg : td (stk 3 g) = td (stk 3 h) := td_eq (fx.c 23 rfl) (fx.c 24 rfl) (fx.c 25 rfl) (fx.c 26 rfl) (fx.at 3 5 rfl) (fx.at 3 3 rfl) (fx.at 4 3 rfl)
                unfold trI at t ⊢
                rw [tdg] at t
                rw [FGK.c 40 rfl, td']
                exact ⟨t.1, fun z => ⟨(t.2 z).1.fl FGK rfl, (t.2 z).2.fl FGK rfl⟩⟩
          refine m157 j 0 _ (by omega) (((FL.refl.ua rfl).ua rfl).ua rfl) ⟨?_, ?_, ?_⟩ (fun y hy => absurd hy (by omega)) (fun y h1 h2 h3 => ?_)
          · rw [hu_j _ _ _ (by omega), hu_j _ _ _ (by omega), hu_s]
          · rw [hu_j _ _ _ (by omega), hu_s]
          · rw [hu_s]
          · rw [hu_j _ _ _ (by omega), hu_j _ _ _ (by omega), hu_j _ _ _ (by omega), k99]
      exact mm k 0 (by omega)
  exact xm n 0 g (by omega) FL.refl (fun j hj => absurd hj (by omega)) (fun j hj => by rw [fx.c 12 rfl]) (fun j hj => absurd hj (by omega)) (fun c hc => by rw [fx.c 11 rfl])
end OP12
