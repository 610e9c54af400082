/-! places, packs of cells; shorted -/
def plc (pc : Int → Int) (c : Int) (N : Nat) : Int := fst1 (fun i => decide (pc i = c)) 0 N
section OP10
variable {l : Launch} {D : Nat} {ζ : ZP} {h : HI} {Q : Int → HI → Prop} {QV : HI → Prop} {p c x : Int}
theorem s_xplaceOf (hn : 144 ≤ ζ.2.2.2.2) (hp : 0 ≤ p ∧ p < 10) {N : Nat} (hN : h 13 p = N) (h40 : N ≤ 40) {pc : Int → Int} (hc : ∀ i : Int, 0 ≤ i → i < N → h 12 (p * 40 + i) = pc i ∧ rg (pc i)) (rc : rg c) (hq : Q (plc pc c N) h) : RtI l (D + 2) mX1_placeOf (zz ζ) [aP 10, aI p, aI c] h Q := by
  refine e_X1_placeOf hn ?_
  have main : ∀ (m k : Nat), k + m = N → fst1 (fun i => decide (pc i = c)) k m = plc pc c N → G l (D + 2) 0 0 mX1_placeOf (zz ζ) 2 [aP 10, aI p, aI c, aI k] [] h (qI (zz ζ) Q) := by
    intro m
    induction m with
    | zero =>
      intro k hk e
      refine b_X1_placeOf_2 hn ⟨hp, by constructor <;> omega, by rw [hN]; constructor <;> omega, iteP (by rw [hN]; omega) ?_⟩
      rw [← e] at hq; exact hq
    | succ m ih =>
      intro k hk e
      have ck := hc k (by omega) (by omega)
      unfold fst1 at e
      refine b_X1_placeOf_2 hn ⟨hp, by constructor <;> omega, by rw [hN]; constructor <;> omega, iteN (by rw [hN]; omega) (s_cellAt hn ⟨by omega, by omega⟩ ?_)⟩
      rw [ck.1]
      refine ⟨ck.2, rc, iteI (fun y => ?_) (fun y => ?_)⟩
      · rw [decide_eq_false y] at e
        have kk := ih (k + 1) (by omega) (by simpa using e)
        rw [show ((k + 1 : Nat) : Int) = (k : Int) + 1 by omega] at kk
        exact kk
      · rw [decide_eq_true (Classical.not_not.mp y)] at e
        simp only [if_true] at e
        rw [← e] at hq; exact hq
  exact main N 0 (by omega) rfl
theorem s_mplaceOf (hn : 144 ≤ ζ.2.2.2.2) (hp : 0 ≤ p ∧ p < 10) {N : Nat} (hN : h 99 (1677 + 3 * p + 2) = N) (h40 : N ≤ 40) {pc : Int → Int} (hc : ∀ i : Int, 0 ≤ i → i < N → h 99 (2107 + 40 * p + i) = pc i ∧ rg (pc i)) (rc : rg c) (hq : Q (plc pc c N) h) : RtI l (D + 1) mX12_placeOf (zz ζ) [aP 97, aI p, aI c] h Q := by
  refine e_X12_placeOf hn ?_
  have main : ∀ (m k : Nat), k + m = N → fst1 (fun i => decide (pc i = c)) k m = plc pc c N → G l (D + 1) 0 0 mX12_placeOf (zz ζ) 2 [aP 97, aI p, aI c, aI k] [] h (qI (zz ζ) Q) := by
    intro m
    induction m with
    | zero =>
      intro k hk e
      refine b_X12_placeOf_2 hn ⟨⟨by omega, by omega⟩, by constructor <;> omega, by rw [hN]; constructor <;> omega, iteP (by rw [hN]; omega) ?_⟩
      rw [← e] at hq; exact hq
    | succ m ih =>
      intro k hk e
      have ck := hc k (by omega) (by omega)
      unfold fst1 at e
      refine b_X12_placeOf_2 hn ⟨⟨by omega, by omega⟩, by constructor <;> omega, by rw [hN]; constructor <;> omega, iteN (by rw [hN]; omega) ⟨⟨by omega, by omega⟩, ?_⟩⟩
      rw [ck.1]
      refine ⟨ck.2, rc, iteI (fun y => ?_) (fun y => ?_)⟩
      · rw [decide_eq_false y] at e
        have kk := ih (k + 1) (by omega) (by simpa using e)
        rw [show ((k + 1 : Nat) : Int) = (k : Int) + 1 by omega] at kk
        exact kk
      · rw [decide_eq_true (Classical.not_not.mp y)] at e
        simp only [if_true] at e
        rw [← e] at hq; exact hq
  exact main N 0 (by omega) rfl
theorem s_mpackOf (hn : 144 ≤ ζ.2.2.2.2) (sr : SR (stk 3 h) (h 99) (h 101)) {g : HI} (e : g 99 = h 99) (hc : 0 ≤ c ∧ c < h 3 3) (hq : Q (h 11 c) g) : RtI l (D + 1) mX12_packOf (zz ζ) [aP 97, aI c] g Q := by
  have sp := sr.2.2.2.2.1
  have a : h 99 14 = h 10 0 ∧ 0 ≤ h 10 0 ∧ h 10 0 ≤ 10 := ⟨sp.1.2.2, sp.1.1, sp.1.2.1⟩
  have c60 : h 3 3 ≤ 60 := sr.2.1.1.2.1
  have w := sp.2.2.2.1 c hc.1 hc.2
  have w1 : -1 ≤ h 11 c ∧ h 11 c < h 10 0 := ⟨w.1, w.2.1⟩
  obtain ⟨M, hM⟩ : ∃ M : Nat, h 10 0 = M := ⟨(h 10 0).toNat, by omega⟩
  have e14 : g 99 14 = M := by rw [e, a.1, hM]
  refine e_X12_packOf hn ?_
  have main : ∀ (m k : Nat), k + m = M → (h 11 c = -1 ∨ (k : Int) ≤ h 11 c) → G l (D + 1) 0 0 mX12_packOf (zz ζ) 2 [aP 97, aI c, aI k, aU] [] g (qI (zz ζ) Q) := by
    intro m
    induction m with
    | zero =>
      intro k hk hb
      refine b_X12_packOf_2 hn ⟨by constructor <;> omega, by rw [e14]; constructor <;> omega, iteP (by rw [e14]; omega) ?_⟩
      rw [show h 11 c = -1 by omega] at hq; exact hq
    | succ m ih =>
      intro k hk hb
      have q := sp.2.2.1 k (by omega) (by show (k : Int) < h 10 0; omega)
      have q1 : h 13 k = h 99 (1677 + 3 * (k : Int) + 2) ∧ 1 ≤ h 13 k ∧ h 13 k ≤ 40 := q.1
      obtain ⟨N, hN⟩ : ∃ N : Nat, h 13 k = N := ⟨(h 13 k).toNat, by omega⟩
      refine b_X12_packOf_2 hn ⟨by constructor <;> omega, by rw [e14]; constructor <;> omega, iteN (by rw [e14]; omega) ?_⟩
      have inner : ∀ (d j : Nat), j + d = N → (∀ t : Int, 0 ≤ t → t < j → h 12 ((k : Int) * 40 + t) ≠ c) → G l (D + 1) 0 0 mX12_packOf (zz ζ) 15 [aP 97, aI c, aI k, aI j] [] g (qI (zz ζ) Q) := by
        intro d
        induction d with
        | zero =>
          intro j hj hno
          refine b_X12_packOf_15 hn ⟨⟨by omega, by omega⟩, by constructor <;> omega, by rw [e, ← q1.1]; constructor <;> omega, iteP (by rw [e, ← q1.1]; omega) ?_⟩
          have kk := ih (k + 1) (by omega) (by
            by_cases z : h 11 c = k
            · obtain ⟨t, t0, t1, t2⟩ := w.2.2 (by show 0 ≤ h 11 c; omega)
              have t1' : t < h 13 (h 11 c) := t1
              have t2' : h 12 (h 11 c * 40 + t) = c := t2
              rw [z] at t1' t2'
              exact absurd t2' (hno t t0 (by omega))
            · omega)
          rw [show ((k + 1 : Nat) : Int) = (k : Int) + 1 by omega] at kk
          exact kk
        | succ d ihd =>
          intro j hj hno
          have cj := q.2.2.2.2.1 j (by omega) (by show (j : Int) < h 13 k; omega)
          have cj1 : h 12 ((k : Int) * 40 + j) = h 99 (2107 + 40 * (k : Int) + j) := cj.1
          have cj2 : 0 ≤ h 12 ((k : Int) * 40 + j) ∧ h 12 ((k : Int) * 40 + j) < h 3 3 := cj.2.2.1
          have cj3 : h 11 (h 12 ((k : Int) * 40 + j)) = k := cj.2.2.2.2.2
          refine b_X12_packOf_15 hn ⟨⟨by omega, by omega⟩, by constructor <;> omega, by rw [e, ← q1.1]; constructor <;> omega, iteN (by rw [e, ← q1.1]; omega) ⟨⟨by omega, by omega⟩, ?_⟩⟩
          rw [e, ← cj1]
          refine ⟨by constructor <;> omega, by constructor <;> omega, iteI (fun y => ?_) (fun y => ?_)⟩
          · have kk := ihd (j + 1) (by omega) (fun t t0 t1 => by
              by_cases z : t = j
              · rw [z]; exact y
              · exact hno t t0 (by omega))
            rw [show ((j + 1 : Nat) : Int) = (j : Int) + 1 by omega] at kk
            exact kk
          · have y' : h 12 ((k : Int) * 40 + j) = c := Classical.not_not.mp y
            rw [y'] at cj3
            rw [cj3] at hq; exact hq
      exact inner N 0 (by omega) (fun t t0 t1 => by omega)
  exact main M 0 (by omega) (by omega)
/-- what one short does: pure -/
def shq (v : PV) (m : Int) (c : Int) (i : Nat) : Bool := decide (v.2.2.1 (m * v.2.1 + i) ≠ c)
def shg (v : PV) (m : Int) (c : Int) (i : Nat) : Int := (37000 : Int).tdiv (v.2.2.2.2 c + v.2.2.2.2 (v.2.2.1 (m * v.2.1 + i)))
def shr (v : PV) (m c fuse : Int) : Int := 10 * cN (fun i => shq v m c i && decide (fuse < shg v m c i)) v.2.1 + (if fuse < cS (shq v m c) (shg v m c) v.2.1 then 1 else 0)
theorem op_shorted (i : Inv ζ h) (hx : rg c) : Op l (D + 60) ζ mX11_shorted mX12_shorted [aI c] h := by
  have hn := ζok_n i.1.1
  have sr : SR (stk 3 h) (h 99) (h 101) := i.1.2 2
  have ok := sr.2.2.1.2.1
  have a2 : h 99 11 = h 3 3 ∧ 0 ≤ h 3 3 ∧ h 3 3 ≤ 60 := ⟨sr.2.1.1.2.2, sr.2.1.1.1, sr.2.1.1.2.1⟩
  have l4 : h 99 6 = h 7 4 ∧ 1 ≤ h 7 4 ∧ h 7 4 ≤ 999 := sr.1.2.2.1 4 (by decide) (by decide)
  have e99 : hu h 97 0 0 99 = h 99 := hu_c _ _ _ (by decide)
  refine e_X11_shorted hn (s_hasCell hn hx (by constructor <;> omega) ?_)
  by_cases c1 : 0 ≤ c ∧ c ≤ h 3 3 - 1
  rotate_left
  · rw [if_neg c1]
    refine ⟨by decide, iteP rfl ⟨rfl, rfl, e_X12_shorted hn (s_isCell hn hx (by rw [e99, a2.1]; constructor <;> omega) ?_)⟩⟩
    rw [e99, a2.1, if_neg c1]
    exact ⟨by decide, iteP rfl (op_fin i rfl (by decide) FL.th rfl)⟩
  rw [if_pos c1]
  have w := sr.2.2.2.2.1.2.2.2.1 c c1.1 (by show c < h 3 3; omega)
  have w1 : -1 ≤ h 11 c ∧ h 11 c < h 10 0 := ⟨w.1, w.2.1⟩
  have m10 : h 10 0 ≤ 10 := sr.2.2.2.2.1.1.2.1
  refine ⟨by decide, iteN (by decide) ⟨⟨c1.1, by omega⟩, by constructor <;> omega, iteI (fun y => ?_) (fun y => ?_)⟩⟩
  rotate_left
  · have y' : h 11 c = -1 := Classical.not_not.mp y
    refine ⟨rfl, rfl, e_X12_shorted hn (s_isCell hn hx (by rw [e99, a2.1]; constructor <;> omega) ?_)⟩
    rw [e99, a2.1, if_pos c1]
    refine ⟨by decide, iteN (by decide) (s_mpackOf hn sr e99 ⟨c1.1, by omega⟩ ?_)⟩
    rw [y']
    exact ⟨by decide, iteN (by decide) (op_fin i rfl (by decide) FL.th rfl)⟩
  have p0 : 0 ≤ h 11 c := by omega
  have v := pvS_ok sr (p := h 11 c) p0 w1.2
  have p10 : h 11 c < 10 := v.2.2.2.1
  obtain ⟨j, j0, j1, j2⟩ := w.2.2 p0
  have j1' : j < h 13 (h 11 c) := j1
  have j2' : h 12 (h 11 c * 40 + j) = c := j2
  have dist := (sr.2.2.2.2.1.2.2.1 (h 11 c) p0 w1.2).2.2.2.2.2
  have tc : tN (stk 3 h) c ≠ 0 := by
    have := (v.2.2.2.2 j j0 j1).2.1
    have e : stk 3 h 9 (h 11 c * 40 + j) = c := j2
    rwa [e] at this
  have bc := tv_bd ok c
  have o1 := v.1.1
  have o2 := v.1.2.1
  have o3 := v.1.2.2.1
  obtain ⟨R, E, hRE⟩ : ∃ R E : Nat, (pvS (stk 3 h) (h 11 c)).1 = R ∧ (pvS (stk 3 h) (h 11 c)).2.1 = E := ⟨_, _, rfl, rfl⟩
  have N13 : h 13 (h 11 c) = ((pvS (stk 3 h) (h 11 c)).1 * (pvS (stk 3 h) (h 11 c)).2.1 : Nat) := v.2.2.1.symm
  have N99 : h 99 (1677 + 3 * h 11 c + 2) = ((pvS (stk 3 h) (h 11 c)).1 * (pvS (stk 3 h) (h 11 c)).2.1 : Nat) := by
    rw [← N13]; exact (sr.2.2.2.2.1.2.2.1 (h 11 c) p0 w1.2).1.1.symm
  generalize hv : pvS (stk 3 h) (h 11 c) = V at v N13 N99 hRE o1 o2 o3
  have pcV : V.2.2.1 = fun i => h 12 (h 11 c * 40 + i) := by rw [← hv]; rfl
  have PV' : V.2.2.2.2 = tP (stk 3 h) := by rw [← hv]; rfl
  have cellsV : ∀ t : Int, 0 ≤ t → t < (V.1 * V.2.1 : Nat) → (0 ≤ V.2.2.1 t ∧ V.2.2.1 t < h 3 3) ∧ tN (stk 3 h) (V.2.2.1 t) ≠ 0 ∧ V.2.2.1 t = h 99 (2107 + 40 * h 11 c + t) := by
    intro t t0 t1
    rw [pcV]
    exact v.2.2.2.2 t t0 (by show t < h 13 (h 11 c); rw [N13]; exact t1)
  -- the place of c
  have jm : decide (V.2.2.1 ((j.toNat : Nat) : Int) = c) = true := decide_eq_true (by rw [pcV, show ((j.toNat : Nat) : Int) = j by omega]; exact j2')
  have pl : plc V.2.2.1 c (V.1 * V.2.1) = j := by
    have b := fst1_of (m := fun i => decide (V.2.2.1 i = c)) (r := j.toNat) (k := V.1 * V.2.1) (i := 0) (by omega) (by omega) jm
    have b2 := fst1_bd (fun i => decide (V.2.2.1 (i : Int) = c)) (V.1 * V.2.1) 0
    have hr : fst1 (fun i => decide (V.2.2.1 (i : Int) = c)) 0 (V.1 * V.2.1) = ((fst1 (fun i => decide (V.2.2.1 (i : Int) = c)) 0 (V.1 * V.2.1)).toNat : Nat) := by omega
    have b3 := of_decide_eq_true (fst1_in (m := fun i => decide (V.2.2.1 (i : Int) = c)) _ hr)
    unfold plc
    rw [← hr, pcV] at b3
    have b3' : h 12 (h 11 c * 40 + fst1 (fun i => decide (V.2.2.1 (i : Int) = c)) 0 (V.1 * V.2.1)) = c := by rw [pcV]; exact b3
    exact dist _ _ (by omega) (by show _ < h 13 (h 11 c); omega) j0 j1 (by show h 12 _ = h 12 _; rw [b3', j2'])
  have Epos : (0 : Int) < V.2.1 := by omega
  have E40 : V.2.1 ≤ 40 := by have := Nat.mul_le_mul_right V.2.1 o1; omega
  have dj := Int.tdiv_eq_ediv_of_nonneg (a := j) (b := V.2.1) j0
  have mlt : j / (V.2.1 : Int) < V.1 := Int.ediv_lt_of_lt_mul Epos (by rw [N13, Int.natCast_mul] at j1'; exact j1')
  have m0 : 0 ≤ j / (V.2.1 : Int) := Int.ediv_nonneg j0 (by omega)
  obtain ⟨r, hr⟩ : ∃ r : Nat, j / (V.2.1 : Int) = r := ⟨(j / (V.2.1 : Int)).toNat, by omega⟩
  have rlt : r < V.1 := by omega
  have gb : ∀ t : Nat, t < V.2.1 → (0 ≤ shg V r c t ∧ shg V r c t ≤ 37000) ∧ 0 < V.2.2.2.2 c + V.2.2.2.2 (V.2.2.1 ((r : Int) * V.2.1 + t)) ∧ V.2.2.2.2 c + V.2.2.2.2 (V.2.2.1 ((r : Int) * V.2.1 + t)) ≤ 12000 := by
    intro t ht
    have q := pv_at v.1 rlt ht
    have cv := cellsV _ q.1 q.2
    have bt := tv_bd ok (V.2.2.1 ((r : Int) * V.2.1 + t))
    have s0 : 0 < V.2.2.2.2 c + V.2.2.2.2 (V.2.2.1 ((r : Int) * V.2.1 + t)) := by rw [PV']; have := bc.2.2.2.2 tc; omega
    refine ⟨⟨Int.tdiv_nonneg (by decide) (by omega), Int.tdiv_le_self _ (by decide)⟩, s0, ?_⟩
    rw [PV']; omega
  have cSb : ∀ k : Nat, k ≤ V.2.1 → 0 ≤ cS (shq V r c) (shg V r c) k ∧ cS (shq V r c) (shg V r c) k ≤ 37000 * k := by
    intro k
    induction k with
    | zero => intro _; simp [cS]
    | succ k ih =>
      intro hk
      have := ih (by omega)
      have g1 := (gb k (by omega)).1
      unfold cS
      rw [show ((k + 1 : Nat) : Int) = (k : Int) + 1 by omega]
      split <;> omega
  have cNb := fun k => cN_bd (fun i => shq V r c i && decide (h 7 4 < shg V r c i)) k
  refine i_refresh i (fun g f ig z ts tx => ?_)
  have vx : pvX g (h 11 c) V := by rw [← hv]; exact pvX_of sr p0 w1.2 f rfl tx
  have g45 : ∀ t : Int, 0 ≤ t → t < 60 → g 45 t = V.2.2.2.2 t := fun t t0 t1 => by rw [PV']; exact (tx t t0 t1).2.2.1
  have e11 : g 11 c = h 11 c := by rw [f.c 11 rfl]
  rw [f.at 7 4 rfl]
  refine e_X1_shortOf hn ⟨⟨c1.1, by omega⟩, ?_⟩
  rw [e11]
  refine s_xplaceOf hn ⟨p0, p10⟩ (N := V.1 * V.2.1) vx.2.1 o3 (pc := V.2.2.1) (fun t t0 t1 => ⟨(vx.2.2.2 t t0 t1).1, by have := (cellsV t t0 t1).1; constructor <;> omega⟩) hx ?_
  rw [pl]
  have rj : rg j := by rw [N13] at j1'; constructor <;> omega
  refine ⟨rj, iteP (by omega) (s_rowSize hn v.1 vx (s_cut hn rj (by constructor <;> omega) ?_))⟩
  rw [if_neg (show ¬ (V.2.1 : Int) = 0 by omega), dj, hr]
  have rE : (r : Int) * V.2.1 + V.2.1 ≤ 40 := by
    have := re_lt rlt (i := V.2.1 - 1) (E := V.2.1) (by omega)
    have e : ((r * V.2.1 + (V.2.1 - 1) : Nat) : Int) = (r : Int) * V.2.1 + ((V.2.1 - 1 : Nat) : Int) := by rw [Int.natCast_add, Int.natCast_mul]
    omega
  have rE0 : 0 ≤ (r : Int) * V.2.1 := Int.mul_nonneg (by omega) (by omega)
  have mside : RtI l (D + 60) mX12_shorted (zz ζ) [aP 97, aI c] g (fun r2 h2 => rg (shr V r c (h 7 4)) ∧ rg r2 ∧ shr V r c (h 7 4) = r2 ∧ h2 1000003 = h 1000003 ∧ h2 1000004 = h 1000004 ∧ Inv ζ h2) := by
    have g99 : hu g 97 0 0 99 = h 99 := by rw [hu_c _ _ _ (by decide), f.c 99 rfl]
    refine e_X12_shorted hn (s_isCell hn hx (by rw [g99, a2.1]; constructor <;> omega) ?_)
    rw [g99, a2.1, if_pos c1]
    refine ⟨by decide, iteN (by decide) (s_mpackOf hn sr g99 ⟨c1.1, by omega⟩ ⟨by constructor <;> omega, iteP p0 (i_settle i g99 (fun k fm tsm tm => ?_))⟩)⟩
    have k99 : k 99 = h 99 := by rw [fm.c 99 rfl, g99]
    have vm : pvM k (h 11 c) V := by rw [← hv]; exact pvM_of sr p0 w1.2 k99 tm
    have FG : FL ((97, 0) :: LM) g k := (FL.refl.u rfl).trans (fm.mono rfl)
    refine s_mplaceOf hn ⟨p0, p10⟩ (N := V.1 * V.2.1) vm.2.1 o3 (pc := V.2.2.1) (fun t t0 t1 => ⟨(vm.2.2.2 t t0 t1).1, by have := (cellsV t t0 t1).1; constructor <;> omega⟩) hx (s_wide hn v.1 vm ?_)
    rw [pl, dj, hr]
    refine ⟨by rw [N13] at j1'; constructor <;> omega, by constructor <;> omega, by omega, ?_⟩
    have e6 : k 99 6 = h 7 4 := by rw [k99, l4.1]
    have main : ∀ (m t : Nat), t + m = V.2.1 → G l (D + 60) 0 0 mX12_shorted (zz ζ) 55 [aP 97, aI c, aI (h 11 c), aI r, aI (cN (fun i => shq V r c i && decide (h 7 4 < shg V r c i)) t), aI (cS (shq V r c) (shg V r c) t), aI t, aU, aU] [] k (qI (zz ζ) (fun r2 h2 => rg (shr V r c (h 7 4)) ∧ rg r2 ∧ shr V r c (h 7 4) = r2 ∧ h2 1000003 = h 1000003 ∧ h2 1000004 = h 1000004 ∧ Inv ζ h2)) := by
      intro m
      induction m with
      | zero =>
        intro t ht
        have : t = V.2.1 := by omega
        subst this
        have cb := cSb V.2.1 (Nat.le_refl _)
        have nb := cNb V.2.1
        refine b_X12_shorted_55 hn (s_wide hn v.1 vm ⟨by constructor <;> omega, by constructor <;> omega, iteP (by omega) ⟨by constructor <;> omega, by rw [e6]; constructor <;> omega, ?_⟩⟩)
        rw [e6]
        have fin : ∀ r2, shr V r c (h 7 4) = r2 → rg r2 → rg (shr V r c (h 7 4)) ∧ rg r2 ∧ shr V r c (h 7 4) = r2 ∧ k 1000003 = h 1000003 ∧ k 1000004 = h 1000004 ∧ Inv ζ k := by
          intro r2 er gr
          have := op_fin (r1 := shr V r c (h 7 4)) ig er (by rw [er]; exact gr) FG rfl
          rw [f.c 1000003 rfl, f.c 1000004 rfl] at this
          exact this
        refine iteI (fun u => fin _ ?_ (by constructor <;> omega)) (fun u => fin _ ?_ (by constructor <;> omega))
        · unfold shr; rw [if_neg (by omega)]
        · unfold shr; rw [if_pos (by omega)]
      | succ m ih =>
        intro t ht
        have q := pv_at v.1 rlt (i := t) (by omega)
        have cv := cellsV _ q.1 q.2
        have g1 := gb t (by omega)
        have vt := vm.2.2.2 _ q.1 q.2
        have nb := cNb t
        have cb := cSb t (by omega)
        have kk := ih (t + 1) (by omega)
        rw [show ((t + 1 : Nat) : Int) = (t : Int) + 1 by omega] at kk
        unfold cN cS at kk
        refine b_X12_shorted_55 hn (s_wide hn v.1 vm ⟨by constructor <;> omega, by constructor <;> omega, iteN (by omega) (s_wide hn v.1 vm ?_)⟩)
        rw [show 2107 + 40 * h 11 c + (V.2.1 : Int) * r + t = 2107 + 40 * h 11 c + ((r : Int) * V.2.1 + t) by rw [Int.mul_comm (V.2.1 : Int) r]; omega, vt.1, vt.2.2, e6]
        refine ⟨⟨by omega, by omega⟩, by constructor <;> omega, hx, iteI (fun u => ?_) (fun u => ?_)⟩
        · have sq : shq V r c t = true := decide_eq_true u
          have ec : k 107 c = V.2.2.2.2 c := by
            have := tm c c1.1 (by show c < h 3 3; omega)
            rw [PV', this.2.2.1, if_neg tc]
          have sg : (37000 : Int).tdiv (V.2.2.2.2 c + V.2.2.2.2 (V.2.2.1 ((r : Int) * V.2.1 + t))) = shg V r c t := rfl
          rw [ec, sg]
          refine ⟨⟨c1.1, by omega⟩, ⟨by omega, by omega⟩, by constructor <;> omega, by omega, by constructor <;> omega, by constructor <;> omega, iteI (fun u2 => ?_) (fun u2 => ?_)⟩
          · rw [sq, decide_eq_false (show ¬ h 7 4 < shg V r c t by omega)] at kk
            exact kk
          · rw [sq, decide_eq_true (show h 7 4 < shg V r c t by omega)] at kk
            exact kk
        · have sq : shq V r c t = false := decide_eq_false u
          rw [sq] at kk
          simp only [Bool.false_and, Bool.false_eq_true, if_false, Int.add_zero] at kk
          exact kk
    exact main V.2.1 0 (by omega)
  have main : ∀ (m t : Nat), t + m = V.2.1 → G l (D + 59) 0 0 mX1_shortOf (zz ζ) 55 [aP 10, aI c, aP 40, aI (h 7 4), aI (h 11 c), aU, aI V.2.1, aI ((r : Int) * V.2.1), aI (cN (fun i => shq V r c i && decide (h 7 4 < shg V r c i)) t), aI (cS (shq V r c) (shg V r c) t), aI ((r : Int) * V.2.1 + t), aU, aU] [] g (qI (zz ζ) (fun r1 h1 => h1 1000003 = h 1000003 ∧ h1 1000004 = h 1000004 ∧ RtI l (D + 60) mX12_shorted (zz ζ) [aP 97, aI c] h1 (fun r2 h2 => rg r1 ∧ rg r2 ∧ r1 = r2 ∧ h2 1000003 = h 1000003 ∧ h2 1000004 = h 1000004 ∧ Inv ζ h2))) := by
    intro m
    induction m with
    | zero =>
      intro t ht
      have : t = V.2.1 := by omega
      subst this
      have cb := cSb V.2.1 (Nat.le_refl _)
      have nb := cNb V.2.1
      refine b_X1_shortOf_55 hn ⟨by constructor <;> omega, by constructor <;> omega, iteP (by omega) ⟨by constructor <;> omega, by constructor <;> omega, ?_⟩⟩
      refine iteI (fun u => ?_) (fun u => ?_)
      · have e : 10 * cN (fun i => shq V r c i && decide (h 7 4 < shg V r c i)) V.2.1 + 0 = shr V r c (h 7 4) := by unfold shr; rw [if_neg (by omega)]
        rw [e]
        exact ⟨f.c _ rfl, f.c _ rfl, mside⟩
      · have e : 10 * cN (fun i => shq V r c i && decide (h 7 4 < shg V r c i)) V.2.1 + 1 = shr V r c (h 7 4) := by unfold shr; rw [if_pos (by omega)]
        rw [e]
        exact ⟨f.c _ rfl, f.c _ rfl, mside⟩
    | succ m ih =>
      intro t ht
      have q := pv_at v.1 rlt (i := t) (by omega)
      have cv := cellsV _ q.1 q.2
      have g1 := gb t (by omega)
      have vt := vx.2.2.2 _ q.1 q.2
      have nb := cNb t
      have cb := cSb t (by omega)
      have kk := ih (t + 1) (by omega)
      rw [show (r : Int) * V.2.1 + ((t + 1 : Nat) : Int) = (r : Int) * V.2.1 + t + 1 by omega] at kk
      unfold cN cS at kk
      refine b_X1_shortOf_55 hn ⟨by constructor <;> omega, by constructor <;> omega, iteN (by omega) (s_cellAt hn ⟨by omega, by omega⟩ ?_)⟩
      rw [vt.1]
      refine ⟨by constructor <;> omega, hx, iteI (fun u => ?_) (fun u => ⟨⟨c1.1, by omega⟩, ⟨by omega, by omega⟩, ?_⟩)⟩
      · have sq : shq V r c t = false := decide_eq_false (fun n => n u)
        rw [sq] at kk
        simp only [Bool.false_and, Bool.false_eq_true, if_false, Int.add_zero] at kk
        exact kk
      · have sq : shq V r c t = true := decide_eq_true u
        rw [g45 c c1.1 (by omega), vt.2.2]
        refine s_cut hn (by decide) (by constructor <;> omega) ?_
        have sg : (37000 : Int).tdiv (V.2.2.2.2 c + V.2.2.2.2 (V.2.2.1 ((r : Int) * V.2.1 + t))) = shg V r c t := rfl
        rw [if_neg (by omega), sg]
        refine ⟨by constructor <;> omega, by constructor <;> omega, iteI (fun u2 => ?_) (fun u2 => ?_)⟩
        · rw [sq, decide_eq_false (show ¬ h 7 4 < shg V r c t by omega)] at kk
          exact kk
        · rw [sq, decide_eq_true (show h 7 4 < shg V r c t by omega)] at kk
          exact kk
  have mm := main V.2.1 0 (by omega)
  rw [show (r : Int) * V.2.1 + ((0 : Nat) : Int) = (r : Int) * V.2.1 by omega] at mm
  exact mm
end OP10
