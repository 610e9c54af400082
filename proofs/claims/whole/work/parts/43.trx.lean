/-! TRUTH, the class's side -/
def TDX (d : TD) (h : HI) : Prop := h 23 = d.1 ∧ h 24 = d.2.1 ∧ h 25 = d.2.2.1 ∧ h 26 = d.2.2.2.1 ∧ h 3 5 = d.2.2.2.2.1 ∧ h 3 3 = d.2.2.2.2.2.1 ∧ h 4 3 = d.2.2.2.2.2.2
theorem TDX.fl {d : TD} {h h' : HI} {L : List (Nat × Int)} (t : TDX d h) (f : FL L h h') (c : (!inC L 23 && !inC L 24 && !inC L 25 && !inC L 26 && !inL L 3 5 && !inL L 3 3 && !inL L 4 3) = true) : TDX d h' := by
  simp only [Bool.and_eq_true, Bool.not_eq_true'] at c
  obtain ⟨⟨⟨⟨⟨⟨c1, c2⟩, c3⟩, c4⟩, c5⟩, c6⟩, c7⟩ := c
  obtain ⟨t1, t2, t3, t4, t5, t6, t7⟩ := t
  exact ⟨(f.c 23 c1).trans t1, (f.c 24 c2).trans t2, (f.c 25 c3).trans t3, (f.c 26 c4).trans t4, (f.at 3 5 c5).trans t5, (f.at 3 3 c6).trans t6, (f.at 4 3 c7).trans t7⟩
def TSX (t : TS) (h : HI) : Prop := ag6 (h 41) t.1 ∧ ag6 (h 42) t.2.1 ∧ ag6 (h 43) t.2.2
/-- what weighing tells -/
def TWX (d : TD) (t : TS) (h : HI) : Prop := ∀ c : Int, 0 ≤ c → c < 60 → h 46 c = tcn d t.1 c ∧ h 44 c = thv d t.1 d.2.2.1 t.2.1 c ∧ h 45 c = thv d t.1 d.2.2.2.1 t.2.2 c ∧ (0 < tcn d t.1 c → h 47 c = tlo d t.1 d.2.2.1 t.2.1 c ∧ h 48 c = thi d t.1 d.2.2.1 t.2.1 c)
def wgP (d : TD) (t : TS) (r : Nat) (g : HI) : Prop := ∀ c : Int, 0 ≤ c → c < 60 → g 46 c = cN (rdq d t.1 c) r ∧ g 44 c = cS (rdq d t.1 c) (rdx d d.2.2.1 t.2.1) r ∧ g 45 c = cS (rdq d t.1 c) (rdx d d.2.2.2.1 t.2.2) r ∧ (0 < cN (rdq d t.1 c) r → g 47 c = cLo (rdq d t.1 c) (rdx d d.2.2.1 t.2.1) r ∧ g 48 c = cHi (rdq d t.1 c) (rdx d d.2.2.1 t.2.1) r)
section TRX
variable {l : Launch} {D : Nat} {ζ : ZP} {h : HI} {Q : Int → HI → Prop} {QV : HI → Prop} {x y : Int}
theorem s_has (hn : 144 ≤ ζ.2.2.2.2) (h0 : 0 ≤ x ∧ x < 60) (h1 : rg (h 46 x)) (hq : Q (if h 46 x ≤ 0 then 0 else 1) h) : RtI l (D + 1) mX8_has (zz ζ) [aP 40, aI x] h Q := by
  refine e_X8_has hn ⟨h0, h1, ?_⟩
  exact iteI (fun c => by rw [if_pos c] at hq; exact hq) (fun c => by rw [if_neg c] at hq; exact hq)
theorem s_addTo (hn : 144 ≤ ζ.2.2.2.2) (h0 : 0 ≤ x ∧ x < 60) (h1 : rg (h 46 x)) (r : 0 < h 46 x → rg (h 47 x) ∧ rg (h 48 x)) (r2 : rg y) (hq : QV (hu (hu (hu (hu h 47 x (if h 46 x ≤ 0 then y else min (h 47 x) y)) 48 x (if h 46 x ≤ 0 then y else max (h 48 x) y)) 44 x (h 44 x + y)) 46 x (h 46 x + 1))) : RtV l (D + 2) mX8_addTo (zz ζ) [aP 40, aI x, aI y] h QV := by
  refine e_X8_addTo hn (s_has hn h0 h1 ?_)
  have e1 : ∀ v, hu h 47 x v 46 x = h 46 x := fun v => by simp [hu]
  have e2 : ∀ v, hu h 47 x v 44 x = h 44 x := fun v => by simp [hu]
  have e3 : ∀ v, hu h 47 x v 48 x = h 48 x := fun v => by simp [hu]
  by_cases c : h 46 x ≤ 0
  · rw [if_pos c] at hq ⊢
    rw [if_pos c] at hq
    refine ⟨by decide, iteP rfl (b_X8_addTo_27 hn ⟨h0, s_has hn h0 (by rw [e1]; exact h1) ?_⟩)⟩
    rw [e1, if_pos c]
    refine ⟨by decide, iteP rfl ⟨h0, ?_⟩⟩
    rw [e2]
    exact hq
  · rw [if_neg c] at hq ⊢
    rw [if_neg c] at hq
    have r' := r (by omega)
    refine ⟨by decide, iteN (by decide) ⟨h0, r'.1, r2, b_X8_addTo_27 hn ⟨h0, s_has hn h0 (by rw [e1]; exact h1) ?_⟩⟩⟩
    rw [e1, if_neg c]
    refine ⟨by decide, iteN (by decide) ⟨h0, by rw [e3]; exact r'.2, r2, ?_⟩⟩
    rw [e2, e3]
    exact hq
theorem s_weigh (hn : 144 ≤ ζ.2.2.2.2) {d : TD} {t : TS} {K : Int} (ok : TDok d) (hd : TDX d h) (ht : TSX t h) (hK : 0 ≤ K ∧ K ≤ 5000) (hb : tbd K t) (hq : ∀ h', FL [(44, -1), (45, -1), (46, -1), (47, -1), (48, -1)] h h' → TWX d t h' → QV h') : RtV l (D + 3) mX8_weigh (zz ζ) [aP 40, aP 3] h QV := by
  have okd := ok
  obtain ⟨o1, o2, o3, o4⟩ := ok
  have hxb : ∀ r, r < d.2.2.2.2.1 → (-7000 ≤ rdx d d.2.2.1 t.2.1 r ∧ rdx d d.2.2.1 t.2.1 r ≤ 7000) ∧ (-7000 ≤ rdx d d.2.2.2.1 t.2.2 r ∧ rdx d d.2.2.2.1 t.2.2 r ≤ 7000) := fun r hr => by
    have := rdx_bd okd hb r hr
    omega
  refine e_X8_weigh hn ?_
  refine lup (R := fun i g => G l (D + 3) 0 0 mX8_weigh (zz ζ) 2 [aP 40, aP 3, aI i] [] g (qV (zz ζ) QV)) (P := fun i g => FL [(44, -1), (45, -1), (46, -1), (47, -1), (48, -1)] h g ∧ ∀ c : Int, 0 ≤ c → c < i → g 44 c = 0 ∧ g 45 c = 0 ∧ g 46 c = 0) (N := 60) ?_ ?_ 0 h (by omega) (by omega) ⟨FL.refl, fun c h0 h1 => by omega⟩
  · intro i g h0 h1 p k
    refine b_X8_weigh_2 hn ⟨by constructor <;> omega, iteN (by omega) ⟨⟨h0, h1⟩, k _ ⟨((p.1.ua rfl).ua rfl).ua rfl, ?_⟩⟩⟩
    intro c c0 c1
    by_cases e : c = i
    · subst e; simp [hu]
    · have := p.2 c c0 (by omega)
      simp [hu, e, this]
  · intro g p
    refine b_X8_weigh_2 hn ⟨by decide, iteP (by decide) ?_⟩
    refine lup (R := fun i g => G l (D + 3) 0 0 mX8_weigh (zz ζ) 37 [aP 40, aP 3, aI i] [] g (qV (zz ζ) QV)) (P := fun i g => FL [(44, -1), (45, -1), (46, -1), (47, -1), (48, -1)] h g ∧ wgP d t i.toNat g) (N := (d.2.2.2.2.1 : Int)) ?_ ?_ 0 g (by omega) (by omega) ⟨p.1, fun c c0 c1 => ?_⟩
    · intro i g h0 h1 p k
      obtain ⟨r, rfl⟩ : ∃ r : Nat, i = r := ⟨i.toNat, by omega⟩
      have hd' := hd.fl p.1 rfl
      obtain ⟨d1, d2, d3, d4, d5, d6, d7⟩ := hd'
      have ht41 : g 41 = h 41 := p.1.c 41 rfl
      have ht42 : g 42 = h 42 := p.1.c 42 rfl
      have ht43 : g 43 = h 43 := p.1.c 43 rfl
      have hr := o4 r (by omega)
      have eb : g 41 (d.2.1 r) = t.1 (d.2.1 r) := by rw [ht41]; exact ht.1 _ (by omega) (by omega)
      have eh : g 42 (d.2.1 r) = t.2.1 (d.2.1 r) := by rw [ht42]; exact ht.2.1 _ (by omega) (by omega)
      have ep : g 43 (d.2.1 r) = t.2.2 (d.2.1 r) := by rw [ht43]; exact ht.2.2 _ (by omega) (by omega)
      have hj := (hb (d.2.1 r) (by omega) (by omega)).1
      have hx := hxb r (by omega)
      have hw := p.2 (d.1 r) (by omega) (by omega)
      rw [Int.toNat_natCast] at hw
      have n1 := cN_bd (rdq d t.1 (d.1 r)) r
      refine b_X8_weigh_37 hn ⟨by constructor <;> omega, by rw [d5]; constructor <;> omega, ?_⟩
      rw [d5, d2, eb]
      refine iteN (by omega) ⟨⟨by omega, by omega⟩, ⟨by omega, by omega⟩, by rcases hj with e | e <;> rw [e] <;> decide, ?_⟩
      have en : ((r : Int) + 1).toNat = r + 1 := by omega
      refine iteI (fun hj0 => k g ⟨p.1, ?_⟩) (fun hj1 => ?_)
      · intro c c0 c1
        have q := p.2 c c0 c1
        rw [Int.toNat_natCast] at q
        have hf : rdq d t.1 c r = false := decide_eq_false (fun e => e.2 hj0)
        rw [en]
        unfold cN cS cLo cHi
        rw [hf]
        simpa using q
      · rw [d1, d3, eh]
        have b1 := cLo_bd (q := rdq d t.1 (d.1 r)) (x := rdx d d.2.2.1 t.2.1) (n := r) (fun r' hr' _ => (hxb r' (by omega)).1)
        have b2 := cHi_bd (q := rdq d t.1 (d.1 r)) (x := rdx d d.2.2.1 t.2.1) (n := r) (fun r' hr' _ => (hxb r' (by omega)).1)
        refine s_addTo hn (by omega) (by rw [hw.1]; constructor <;> omega) (fun hp => ?_) (by show rg (rdx d d.2.2.1 t.2.1 r); constructor <;> omega) ?_
        · rw [hw.1] at hp
          have := hw.2.2.2 hp
          rw [this.1, this.2]
          exact ⟨by constructor <;> omega, by constructor <;> omega⟩
        · generalize hgg : (hu (hu (hu (hu g 47 (d.1 r) (if g 46 (d.1 r) ≤ 0 then d.2.2.1 r - t.2.1 (d.2.1 r) else min (g 47 (d.1 r)) (d.2.2.1 r - t.2.1 (d.2.1 r)))) 48 (d.1 r) (if g 46 (d.1 r) ≤ 0 then d.2.2.1 r - t.2.1 (d.2.1 r) else max (g 48 (d.1 r)) (d.2.2.1 r - t.2.1 (d.2.1 r)))) 44 (d.1 r) (g 44 (d.1 r) + (d.2.2.1 r - t.2.1 (d.2.1 r)))) 46 (d.1 r) (g 46 (d.1 r) + 1)) = gg
          have f : FL [(44, -1), (46, -1), (47, -1), (48, -1)] g gg := by
            subst hgg; exact (((FL.refl.ua rfl).ua rfl).ua rfl).ua rfl
          have e23 : gg 23 = d.1 := (f.c 23 rfl).trans d1
          have e24 : gg 24 = d.2.1 := (f.c 24 rfl).trans d2
          have e26 : gg 26 = d.2.2.2.1 := (f.c 26 rfl).trans d4
          have e43 : gg 43 = g 43 := f.c 43 rfl
          have e45 : gg 45 = g 45 := f.c 45 rfl
          rw [e23, e24, e26, e43, ep, e45]
          refine ⟨by omega, by omega, k _ ⟨(p.1.trans (f.mono rfl)).ua rfl, ?_⟩⟩
          intro c c0 c1
          rw [en]
          have q := p.2 c c0 c1
          rw [Int.toNat_natCast] at q
          by_cases e : c = d.1 r
          · have hf : rdq d t.1 c r = true := decide_eq_true ⟨e.symm, hj1⟩
            unfold cN cS cLo cHi
            rw [hf]
            subst e
            subst hgg
            simp only [if_true]
            have hle : (g 46 (d.1 r) ≤ 0) = (cN (rdq d t.1 (d.1 r)) r = 0) := by rw [q.1]; apply propext; omega
            refine ⟨by simp [hu, q.1], by simp [hu, q.2.1, rdx], by simp [hu, q.2.2.1, rdx], fun _ => ?_⟩
            by_cases e0 : cN (rdq d t.1 (d.1 r)) r = 0
            · simp [hu, hle, e0, rdx]
            · have := q.2.2.2 (by omega)
              simp [hu, hle, e0, rdx, this.1, this.2]
          · have hf : rdq d t.1 c r = false := decide_eq_false (fun e' => e e'.1.symm)
            unfold cN cS cLo cHi
            rw [hf]
            subst hgg
            simpa [hu, e] using q
    · intro g p
      have hd' := hd.fl p.1 rfl
      obtain ⟨d1, d2, d3, d4, d5, d6, d7⟩ := hd'
      have pw := p.2
      rw [Int.toNat_natCast] at pw
      refine b_X8_weigh_37 hn ⟨by constructor <;> omega, by rw [d5]; constructor <;> omega, iteP (by omega) ?_⟩
      refine lup (R := fun i g => G l (D + 3) 0 0 mX8_weigh (zz ζ) 127 [aP 40, aP 3, aI i] [] g (qV (zz ζ) QV)) (P := fun i g => FL [(44, -1), (45, -1), (46, -1), (47, -1), (48, -1)] h g ∧ ∀ c : Int, 0 ≤ c → c < 60 → g 46 c = tcn d t.1 c ∧ (c < i → g 44 c = thv d t.1 d.2.2.1 t.2.1 c ∧ g 45 c = thv d t.1 d.2.2.2.1 t.2.2 c) ∧ (i ≤ c → g 44 c = tsm d t.1 d.2.2.1 t.2.1 c ∧ g 45 c = tsm d t.1 d.2.2.2.1 t.2.2 c) ∧ (0 < tcn d t.1 c → g 47 c = tlo d t.1 d.2.2.1 t.2.1 c ∧ g 48 c = thi d t.1 d.2.2.1 t.2.1 c)) (N := (d.2.2.2.2.2.1 : Int)) ?_ ?_ 0 g (by omega) (by omega) ⟨p.1, fun c c0 c1 => ⟨(pw c c0 c1).1, fun q => by omega, fun _ => ⟨(pw c c0 c1).2.1, (pw c c0 c1).2.2.1⟩, (pw c c0 c1).2.2.2⟩⟩
      · intro i g h0 h1 p k
        have hd' := hd.fl p.1 rfl
        obtain ⟨d1, d2, d3, d4, d5, d6, d7⟩ := hd'
        have q := p.2 i h0 (by omega)
        have n1 := cN_bd (rdq d t.1 i) d.2.2.2.2.1
        have n2 : tcn d t.1 i = cN (rdq d t.1 i) d.2.2.2.2.1 := rfl
        have s1 := cS_bd (q := rdq d t.1 i) (x := rdx d d.2.2.1 t.2.1) (n := d.2.2.2.2.1) (fun r hr _ => (hxb r hr).1)
        have s2 := cS_bd (q := rdq d t.1 i) (x := rdx d d.2.2.2.1 t.2.2) (n := d.2.2.2.2.1) (fun r hr _ => (hxb r hr).2)
        have s1' : tsm d t.1 d.2.2.1 t.2.1 i = cS (rdq d t.1 i) (rdx d d.2.2.1 t.2.1) d.2.2.2.2.1 := rfl
        have s2' : tsm d t.1 d.2.2.2.1 t.2.2 i = cS (rdq d t.1 i) (rdx d d.2.2.2.1 t.2.2) d.2.2.2.2.1 := rfl
        have rgc : rg (g 46 i) := by rw [q.1, n2]; constructor <;> omega
        have tb := fun (c : Int) => thv_bd okd hK.1 hb c
        refine b_X8_weigh_127 hn ⟨by constructor <;> omega, by rw [d6]; constructor <;> omega, iteN (by rw [d6]; omega) (s_has hn ⟨h0, by omega⟩ rgc ?_)⟩
        by_cases c0 : g 46 i ≤ 0
        · rw [if_pos c0]
          refine ⟨by decide, iteP rfl (k g ⟨p.1, ?_⟩)⟩
          intro c q0 q1
          have qc := p.2 c q0 q1
          refine ⟨qc.1, fun hc => ?_, fun hc => qc.2.2.1 (by omega), qc.2.2.2⟩
          by_cases e : c = i
          · subst e
            have z : tcn d t.1 c = 0 := by rw [← qc.1]; have := qc.1; rw [n2] at this; omega
            have z1 := cS_zero (q := rdq d t.1 c) (x := rdx d d.2.2.1 t.2.1) (n := d.2.2.2.2.1) z
            have z2 := cS_zero (q := rdq d t.1 c) (x := rdx d d.2.2.2.1 t.2.2) (n := d.2.2.2.2.1) z
            have := qc.2.2.1 (by omega)
            rw [this.1, this.2, s1', s2', z1, z2]
            unfold thv tvl
            rw [if_pos z]; exact ⟨rfl, by rw [if_pos z]⟩
          · exact qc.2.1 (by omega)
        · rw [if_neg c0]
          have nz : tcn d t.1 i ≠ 0 := by rw [← q.1]; omega
          have hs := q.2.2.1 (by omega)
          have t1 : ¬ g 46 i = 0 := by omega
          refine ⟨by decide, iteN (by decide) ⟨⟨h0, by omega⟩, s_cut hn (by rw [hs.1, s1']; constructor <;> omega) rgc ?_⟩⟩
          rw [if_neg t1, hs.1, q.1]
          have tb1 : (tsm d t.1 d.2.2.1 t.2.1 i).tdiv (tcn d t.1 i) ≤ thv d t.1 d.2.2.1 t.2.1 i := by unfold thv tvl; rw [if_neg nz]; omega
          have tb2 : (tsm d t.1 d.2.2.2.1 t.2.2 i).tdiv (tcn d t.1 i) ≤ thv d t.1 d.2.2.2.1 t.2.2 i := by unfold thv tvl; rw [if_neg nz]; omega
          have tl : ∀ a b : Int, 0 < b → -1400000 ≤ a → -1400000 ≤ a.tdiv b := fun a b hb ha => by
            by_cases a0 : 0 ≤ a
            · have := Int.tdiv_nonneg a0 (Int.le_of_lt hb); omega
            · have e := Int.neg_tdiv (-a) b
              rw [Int.neg_neg] at e
              have := Int.tdiv_le_self (a := -a) b (by omega)
              omega
          have np : 0 < tcn d t.1 i := by rw [n2] at nz ⊢; omega
          have tl1 := tl (tsm d t.1 d.2.2.1 t.2.1 i) (tcn d t.1 i) np (by rw [s1']; omega)
          have tl2 := tl (tsm d t.1 d.2.2.2.1 t.2.2 i) (tcn d t.1 i) np (by rw [s2']; omega)
          have tbi := tb i
          have eh : thv d t.1 d.2.2.1 t.2.1 i = max 1 ((tsm d t.1 d.2.2.1 t.2.1 i).tdiv (tcn d t.1 i)) := by unfold thv tvl; rw [if_neg nz]
          have ep : thv d t.1 d.2.2.2.1 t.2.2 i = max 1 ((tsm d t.1 d.2.2.2.1 t.2.2 i).tdiv (tcn d t.1 i)) := by unfold thv tvl; rw [if_neg nz]
          refine ⟨by constructor <;> omega, ?_⟩
          rw [← eh]
          refine s_cut hn (by rw [hs.2, s2']; constructor <;> omega) (by rw [← q.1]; exact rgc) ?_
          rw [if_neg nz, hs.2]
          refine ⟨by constructor <;> omega, ?_⟩
          rw [← ep]
          refine k _ ⟨(p.1.ua rfl).ua rfl, ?_⟩
          intro c q0 q1
          have qc := p.2 c q0 q1
          by_cases e : c = i
          · subst e
            refine ⟨by simp [hu, qc.1], fun _ => by simp [hu], fun hc => by omega, fun hc => ?_⟩
            have := qc.2.2.2 hc
            simp [hu, this.1, this.2]
          · refine ⟨by simp [hu, qc.1], fun hc => ?_, fun hc => ?_, fun hc => ?_⟩
            · have := qc.2.1 (by omega)
              simp [hu, e, this.1, this.2]
            · have := qc.2.2.1 (by omega)
              simp [hu, e, this.1, this.2]
            · have := qc.2.2.2 hc
              simp [hu, this.1, this.2]
      · intro g p
        have hd' := hd.fl p.1 rfl
        obtain ⟨d1, d2, d3, d4, d5, d6, d7⟩ := hd'
        refine b_X8_weigh_127 hn ⟨by constructor <;> omega, by rw [d6]; constructor <;> omega, iteP (by omega) ?_⟩
        refine hq g p.1 ?_
        intro c q0 q1
        have qc := p.2 c q0 q1
        refine ⟨qc.1, ?_, ?_, qc.2.2.2⟩
        · by_cases e : c < d.2.2.2.2.2.1
          · exact (qc.2.1 e).1
          · have z : tcn d t.1 c = 0 := cN_zero (fun r hr => decide_eq_false (fun e' => by have := (o4 r hr).1; omega))
            rw [(qc.2.2.1 (by omega)).1]
            unfold thv tvl
            rw [if_pos z]
            exact cS_zero z
        · by_cases e : c < d.2.2.2.2.2.1
          · exact (qc.2.1 e).2
          · have z : tcn d t.1 c = 0 := cN_zero (fun r hr => decide_eq_false (fun e' => by have := (o4 r hr).1; omega))
            rw [(qc.2.2.1 (by omega)).2]
            unfold thv tvl
            rw [if_pos z]
            exact cS_zero z
    · have := p.2 c c0 c1
      exact ⟨by simp [this.2.2, cN], by simp [this.1, cS], by simp [this.2.1, cS], fun q => by simp [cN] at q⟩
end TRX
