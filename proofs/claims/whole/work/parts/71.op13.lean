/-! mend -/
theorem lday_max {s : Int → Int} {p : Int} : ∀ {m : Nat}, (∀ k : Nat, k < m → s (2507 + 4 * (k : Int)) = p → s (1677 + 3 * p) ≤ s (2507 + 4 * (k : Int) + 3)) → (∀ k k' : Nat, k < k' → k' < m → s (2507 + 4 * (k : Int)) = p → s (2507 + 4 * (k' : Int)) = p → s (2507 + 4 * (k : Int) + 3) ≤ s (2507 + 4 * (k' : Int) + 3)) → s (1677 + 3 * p) ≤ lday s p m ∧ ∀ k : Nat, k < m → s (2507 + 4 * (k : Int)) = p → s (2507 + 4 * (k : Int) + 3) ≤ lday s p m
  | 0, _, _ => ⟨Int.le_refl _, fun k hk => absurd hk (by omega)⟩
  | m + 1, h1, h2 => by
    have ih := lday_max (m := m) (fun k hk => h1 k (by omega)) (fun k k' a b => h2 k k' a (by omega))
    unfold lday
    by_cases c : s (2507 + 4 * (m : Int)) = p
    · rw [if_pos c]
      refine ⟨h1 m (by omega) c, fun k hk e => ?_⟩
      by_cases z : k = m
      · rw [z]; exact Int.le_refl _
      · exact h2 k m (by omega) (by omega) e c
    · rw [if_neg c]
      refine ⟨ih.1, fun k hk e => ?_⟩
      by_cases z : k = m
      · rw [z] at e; exact absurd e c
      · exact ih.2 k (by omega) e
theorem SR_mend {S S' : HI} {s s' nm nm' : Int → Int} {p pl out inn day : Int} {m : Nat} (i : SR S s nm) (hm : S 7 7 = m) (hm30 : m < 30) (hp : 0 ≤ p ∧ p < S 7 0) (hpl : 0 ≤ pl ∧ pl < S 10 p) (hout : S 9 (p * 40 + pl) = out) (hin : 0 ≤ inn ∧ inn < S 0 3) (hfree : S 8 inn = -1) (htrue : 0 < tN S inn) (hday : S 13 p ≤ day ∧ day ≤ 999) (e77 : S' 7 7 = (m : Int) + 1) (e70 : S' 7 0 = S 7 0) (e0 : S' 0 = S 0) (ek : ∀ k, k < 30 → k ≠ 7 → k ≠ 8 → k ≠ 9 → k ≠ 13 → k ≠ 14 → k ≠ 15 → k ≠ 16 → k ≠ 17 → S' k = S k) (e8 : S' 8 = fu (fu (S 8) out (-1)) inn p) (e9 : S' 9 = fu (S 9) (p * 40 + pl) inn) (e13 : S' 13 = fu (S 13) p day) (e14 : S' 14 = fu (S 14) m p) (e15 : S' 15 = fu (S 15) m pl) (e16 : S' 16 = fu (S 16) m out) (e17 : S' 17 = fu (S 17) m day) (s15 : s' 15 = (m : Int) + 1) (sD : s' (2507 + 4 * (m : Int)) = p ∧ s' (2507 + 4 * (m : Int) + 1) = pl ∧ s' (2507 + 4 * (m : Int) + 2) = inn ∧ s' (2507 + 4 * (m : Int) + 3) = day) (sN : s' (2107 + 40 * p + pl) = inn) (sj : ∀ j : Int, j ≠ 15 → j ≠ 2107 + 40 * p + pl → (j < 2507 + 4 * (m : Int) ∨ 2507 + 4 * (m : Int) + 3 < j) → s' j = s j) (en : nm' = nm) : SR S' s' nm' := by
  obtain ⟨sa, sc, sr, ss, sp, su⟩ := i
  obtain ⟨pa, pb, pc, pd, pe, pf⟩ := sp
  have r1 := sc.1.2.1
  have pcp := pc p hp.1 hp.2
  obtain ⟨v1, v2, v3, v4, v5, v6⟩ := pcp
  have outb := v5 pl hpl.1 hpl.2
  rw [hout] at outb
  have oin : out ≠ inn := fun e => by rw [e, hfree] at outb; have := outb.2.2.2.2.2; omega
  have kk : ∀ k, k < 30 → k < 7 ∨ 9 < k ∧ k < 13 ∨ 17 < k → S' k = S k := fun k h1 h2 => ek k h1 (by omega) (by omega) (by omega) (by omega) (by omega) (by omega) (by omega) (by omega)
  have td' : td S' = td S := td_eq (kk 20 (by decide) (by decide)) (kk 21 (by decide) (by decide)) (kk 22 (by decide) (by decide)) (kk 23 (by decide) (by decide)) (by rw [e0]) (by rw [e0]) (by rw [kk 1 (by decide) (by decide)])
  have c03 : S' 0 3 = S 0 3 := by rw [e0]
  have mm : (S 7 7).toNat = m := by omega
  have mm' : (S' 7 7).toNat = m + 1 := by omega
  have lo : ∀ j : Int, j < 2107 → j ≠ 15 → s' j = s j := fun j h1 h2 => sj j h2 (by omega) (by omega)
  have hi1 : ∀ j : Int, 2507 ≤ j → j < 2507 + 4 * (m : Int) → s' j = s j := fun j h0 h1 => sj j (by omega) (by omega) (by omega)
  have hiS : ∀ (q y : Int) (k : Nat), 0 ≤ q → q < 10 → 0 ≤ y → y < 40 → k ≤ m → hiC s' q y k = hiC s q y k := fun q y k q0 q1 y0 y1 hk => hiC_same (lo _ (by omega) (by omega)) (fun j h0 h1 => hi1 j h0 (by omega))
  refine ⟨?_, ?_, ?_, ?_, ?_, ?_⟩
  · exact sa.to (by rw [kk 1 (by decide) (by decide)]) (by rw [kk 1 (by decide) (by decide)]) (agR_of (kk 3 (by decide) (by decide))) (agR_of (kk 4 (by decide) (by decide))) (fun j h0 h1 => lo j (by omega) (by omega)) (fun j _ _ => by rw [en])
  · exact sc.to c03 (by rw [kk 1 (by decide) (by decide)]) (agR_of (kk 19 (by decide) (by decide))) (lo _ (by decide) (by decide)) (fun j h0 h1 => lo j (by omega) (by omega))
  · exact sr.to (kk 20 (by decide) (by decide)) (kk 21 (by decide) (by decide)) (kk 22 (by decide) (by decide)) (kk 23 (by decide) (by decide)) (by rw [e0]) c03 (by rw [kk 1 (by decide) (by decide)]) (lo _ (by decide) (by decide)) (fun j h0 h1 => lo j (by omega) (by omega))
  · exact ss.to (by rw [e0]) c03 (agR_of (kk 24 (by decide) (by decide))) (agR_of (kk 25 (by decide) (by decide))) (agR_of (kk 26 (by decide) (by decide))) (agR_of (kk 27 (by decide) (by decide))) (agR_of (kk 28 (by decide) (by decide))) (agR_of (kk 29 (by decide) (by decide))) r1 (lo _ (by decide) (by decide)) (lo _ (by decide) (by decide)) (lo _ (by decide) (by decide)) (fun j h0 h1 => lo j (by omega) (by omega))
  · have tN' : ∀ c, tcn (td S') (tru (td S')).1 c = tN S c := fun c => by rw [td']; rfl
    refine ⟨⟨by omega, by omega, by rw [lo _ (by decide) (by decide), e70]; exact pa.2.2⟩, ⟨by omega, by omega, by rw [s15, e77]⟩, fun q q0 q1 => ?_, fun c c0 c1 => ?_, fun k hk => ?_, fun k k' hk hk' e => ?_⟩
    · rw [e70] at q1
      obtain ⟨c1, c2, c3, c4, c5, c6⟩ := pc q q0 q1
      have hq10 : q < 10 := by omega
      have cells : ∀ y : Int, 0 ≤ y → y < S 10 q → S' 9 (q * 40 + y) = if q = p ∧ y = pl then inn else S 9 (q * 40 + y) := by
        intro y y0 y1
        rw [e9]
        unfold fu
        by_cases z : q = p ∧ y = pl
        · rw [if_pos z, if_pos (by rw [z.1, z.2])]
        · rw [if_neg z, if_neg (fun e => z (by constructor <;> omega))]
      have notIn : ∀ y : Int, 0 ≤ y → y < S 10 q → S 9 (q * 40 + y) ≠ inn := fun y y0 y1 e => by
        have := (c5 y y0 y1).2.2.2.2.2
        rw [e, hfree] at this; omega
      unfold SRp1
      rw [kk 10 (by decide) (by decide), kk 11 (by decide) (by decide), kk 12 (by decide) (by decide), c03, lo _ (by omega) (by omega), lo _ (by omega) (by omega), lo _ (by omega) (by omega), mm']
      refine ⟨c1, c2, c3, ?_, fun y y0 y1 => ?_, fun y y' y0 y1 y2 y3 e => ?_⟩
      · have ls : lday s' q m = lday s q m := lday_same (lo _ (by omega) (by omega)) (fun j h0 h1 => hi1 j h0 h1)
        have l1 : lday s' q (m + 1) = if p = q then day else lday s q m := by
          show (if s' (2507 + 4 * (m : Int)) = q then s' (2507 + 4 * (m : Int) + 3) else lday s' q m) = _
          rw [sD.1, sD.2.2.2, ls]
        rw [l1, e13]
        rw [mm] at c4 v4
        by_cases z : q = p
        · rw [z, fu_s, if_pos rfl]; exact ⟨rfl, by omega, hday.2⟩
        · rw [fu_n _ _ z, if_neg (fun e => z e.symm)]; exact c4
      · obtain ⟨z1, z2, z3, z4, z5, z6⟩ := c5 y y0 y1
        rw [mm] at z2
        have h1 : hiC s' q y (m + 1) = if q = p ∧ y = pl then inn else hiC s q y m := by
          show (if s' (2507 + 4 * (m : Int)) = q ∧ s' (2507 + 4 * (m : Int) + 1) = y then s' (2507 + 4 * (m : Int) + 2) else hiC s' q y m) = _
          rw [sD.1, sD.2.1, sD.2.2.1, hiS q y m q0 hq10 y0 (by omega) (Nat.le_refl _)]
          by_cases z : q = p ∧ y = pl
          · rw [if_pos z, if_pos ⟨z.1.symm, z.2.symm⟩]
          · rw [if_neg z, if_neg (fun e => z ⟨e.1.symm, e.2.symm⟩)]
        rw [cells y y0 y1, h1, tN', lo (1707 + 40 * q + y) (by omega) (by omega), e8]
        by_cases z : q = p ∧ y = pl
        · rw [if_pos z, if_pos z]
          refine ⟨?_, rfl, hin, htrue, z5, ?_⟩
          · rw [z.1, z.2, sN]
          · rw [fu_s, z.1]
        · rw [if_neg z, if_neg z]
          refine ⟨?_, z2, z3, z4, z5, ?_⟩
          · rw [sj _ (by omega) (fun e => z (by constructor <;> omega)) (by omega)]; exact z1
          · rw [fu_n _ _ (notIn y y0 y1), fu_n _ _ (fun e => ?_)]
            · exact z6
            · have q1' := outb.2.2.2.2.2
              rw [← e, z6] at q1'
              exact z ⟨q1', by subst q1'; exact v6 y pl y0 y1 hpl.1 hpl.2 (by rw [e, hout])⟩
      · rw [cells y y0 y1, cells y' y2 y3] at e
        by_cases z : q = p ∧ y = pl
        · by_cases z' : q = p ∧ y' = pl
          · omega
          · rw [if_pos z, if_neg z'] at e
            exact absurd e.symm (notIn y' y2 y3)
        · by_cases z' : q = p ∧ y' = pl
          · rw [if_neg z, if_pos z'] at e
            exact absurd e (notIn y y0 y1)
          · rw [if_neg z, if_neg z'] at e
            exact c6 y y' y0 y1 y2 y3 e
    · rw [c03] at c1
      rw [e8, e70]
      by_cases z : c = inn
      · rw [z, fu_s]
        refine ⟨by omega, by omega, fun _ => ⟨pl, hpl.1, ?_, ?_⟩⟩
        · rw [kk 10 (by decide) (by decide)]; exact hpl.2
        · rw [e9, fu_s]
      · rw [fu_n _ _ z]
        by_cases z2 : c = out
        · rw [z2, fu_s]
          exact ⟨by omega, by omega, fun h => by omega⟩
        · rw [fu_n _ _ z2]
          obtain ⟨d1, d2, d3⟩ := pd c c0 c1
          refine ⟨d1, d2, fun h0 => ?_⟩
          obtain ⟨y, y0, y1, y2⟩ := d3 h0
          have w := (pc _ h0 d2).1
          refine ⟨y, y0, ?_, ?_⟩
          · rw [kk 10 (by decide) (by decide)]; exact y1
          · rw [e9, fu_n _ _ (fun e => ?_)]
            · exact y2
            · have : S 9 (S 8 c * 40 + y) = out := by rw [e]; exact hout
              rw [y2] at this
              exact z2 this
    · by_cases z : k = m
      · subst z
        unfold SRm1
        rw [e14, e15, e16, e17, fu_s, fu_s, fu_s, fu_s, sD.1, sD.2.1, sD.2.2.1, sD.2.2.2, e70, c03, kk 10 (by decide) (by decide), kk 12 (by decide) (by decide), hiS p pl k hp.1 (by omega) hpl.1 (by omega) (Nat.le_refl _)]
        have mx := lday_max (s := s) (p := p) (m := k) (fun y hy e => by
          have w := pe y (by omega)
          have w1 := w.1.1
          have w4 := w.2.2.2.1
          rw [w1, e] at w4
          rw [← v3.1]
          omega) (fun y y' a b e e' => by
          have w := pe y (by omega)
          have w' := pe y' (by omega)
          have := pf y y' a (by omega) (by rw [w.1.1, w'.1.1, e, e'])
          rw [w.2.2.2.1.1, w'.2.2.2.1.1] at this
          exact this)
        have v4' := v4
        rw [mm] at v4'
        have h2 := (v5 pl hpl.1 hpl.2).2.1
        rw [mm, hout] at h2
        refine ⟨⟨rfl, hp⟩, ⟨rfl, hpl⟩, hin, ⟨rfl, ?_, hday.2⟩, h2⟩
        rw [v3.1]; omega
      · have hk' : (k : Int) < S 7 7 := by omega
        obtain ⟨m1, m2, m3, m4, m5⟩ := pe k hk'
        have w := (pc _ m1.2.1 m1.2.2).1
        have ne : (k : Int) ≠ (m : Int) := by omega
        unfold SRm1
        rw [e14, e15, e16, e17, fu_n _ _ ne, fu_n _ _ ne, fu_n _ _ ne, fu_n _ _ ne, e70, c03, kk 10 (by decide) (by decide), kk 12 (by decide) (by decide), hi1 _ (by omega) (by omega), hi1 _ (by omega) (by omega), hi1 _ (by omega) (by omega), hi1 _ (by omega) (by omega), hiS _ _ k m1.2.1 (by omega) m2.2.1 (by omega) (by omega)]
        exact ⟨m1, m2, m3, m4, m5⟩
    · by_cases z : k' = m
      · subst z
        have ne : (k : Int) ≠ (k' : Int) := by omega
        rw [e14, fu_s, fu_n _ _ ne] at e
        rw [e17, fu_s, fu_n _ _ ne]
        have wk := pe k (by omega)
        have mx := lday_max (s := s) (p := p) (m := k') (fun y hy e => by
          have w := pe y (by omega)
          have w4 := w.2.2.2.1
          rw [w.1.1, e] at w4
          rw [← v3.1]
          omega) (fun y y' a b e e' => by
          have w := pe y (by omega)
          have w' := pe y' (by omega)
          have := pf y y' a (by omega) (by rw [w.1.1, w'.1.1, e, e'])
          rw [w.2.2.2.1.1, w'.2.2.2.1.1] at this
          exact this)
        have v4' := v4
        rw [mm] at v4'
        have := mx.2 k hk (by rw [← wk.1.1]; exact e)
        rw [wk.2.2.2.1.1]
        omega
      · have ne : (k : Int) ≠ (m : Int) := by omega
        have ne' : (k' : Int) ≠ (m : Int) := by omega
        rw [e14, fu_n _ _ ne, fu_n _ _ ne'] at e
        rw [e17, fu_n _ _ ne, fu_n _ _ ne']
        exact pf k k' hk (by omega) e
  · exact su.to (by rw [kk 5 (by decide) (by decide)]) (by rw [kk 5 (by decide) (by decide)]) (agR_of (kk 6 (by decide) (by decide))) (lo _ (by decide) (by decide)) (fun j h0 h1 => sj j (by omega) (by omega) (by omega))
