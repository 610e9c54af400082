/-! the calls, one by one: class and reference answer alike, and the invariant goes on -/
def Op (l : Launch) (D : Nat) (ζ : ZP) (mx mm : MT) (as : List AV) (h : HI) : Prop := RtI l D mx (zz ζ) (aP 0 :: as) h (fun r1 h1 => h1 1000003 = h 1000003 ∧ h1 1000004 = h 1000004 ∧ RtI l D mm (zz ζ) (aP 97 :: as) h1 (fun r2 h2 => rg r1 ∧ rg r2 ∧ r1 = r2 ∧ h2 1000003 = h 1000003 ∧ h2 1000004 = h 1000004 ∧ Inv ζ h2))
def kpL (ns : List Nat) (L : List (Nat × Int)) : Bool := !inC L 1000003 && !inC L 1000004 && (List.range 13).all (fun n => ns.contains n || okL n L)
def ktL (L : List (Nat × Int)) : Bool := (List.range 30).all (fun k => !inC L (3 + k)) && (List.range 11).all (fun k => !inC L (40 + k))
theorem Inv.fl {ζ : ZP} {h h' : HI} {L : List (Nat × Int)} (i : Inv ζ h) (f : FL L h h') (c : (kpL [] L && ktL L) = true) : Inv ζ h' := by
  simp only [Bool.and_eq_true] at c
  have c1 := c.1
  unfold kpL at c1
  simp only [Bool.and_eq_true] at c1
  exact ⟨i.1.upd f [] c1.2 (fun n hn => by cases hn), i.2.fl f c.2⟩
theorem Inv.upd {ζ : ZP} {h h' : HI} {L : List (Nat × Int)} (i : Inv ζ h) (f : FL L h h') (ns : List Nat) (c : (kpL ns L && ktL L) = true) (new : ∀ n ∈ ns, IP ζ h' n) : Inv ζ h' := by
  simp only [Bool.and_eq_true] at c
  have c1 := c.1
  unfold kpL at c1
  simp only [Bool.and_eq_true] at c1
  exact ⟨i.1.upd f ns c1.2 new, i.2.fl f c.2⟩
theorem op_fin {ζ : ZP} {h h' : HI} {L : List (Nat × Int)} {r1 r2 : Int} (i : Inv ζ h) (e : r1 = r2) (g : rg r1) (f : FL L h h') (c : (kpL [] L && ktL L) = true) : rg r1 ∧ rg r2 ∧ r1 = r2 ∧ h' 1000003 = h 1000003 ∧ h' 1000004 = h 1000004 ∧ Inv ζ h' := by
  have c' := c
  simp only [Bool.and_eq_true] at c'
  have c1 := c'.1
  unfold kpL at c1
  simp only [Bool.and_eq_true, Bool.not_eq_true'] at c1
  exact ⟨g, e ▸ g, e, f.c _ c1.1.1, f.c _ c1.1.2, i.fl f c⟩
theorem op_fin1 {ζ : ZP} {h h' : HI} {L : List (Nat × Int)} {r1 r2 : Int} (i : Inv ζ h) (e : r1 = r2) (g : rg r1) (f : FL L h h') (ns : List Nat) (c : (kpL ns L && ktL L) = true) (new : ∀ n ∈ ns, IP ζ h' n) : rg r1 ∧ rg r2 ∧ r1 = r2 ∧ h' 1000003 = h 1000003 ∧ h' 1000004 = h 1000004 ∧ Inv ζ h' := by
  have c' := c
  simp only [Bool.and_eq_true] at c'
  have c1 := c'.1
  unfold kpL at c1
  simp only [Bool.and_eq_true, Bool.not_eq_true'] at c1
  exact ⟨g, e ▸ g, e, f.c _ c1.1.1, f.c _ c1.1.2, i.upd f ns c new⟩
theorem FL.th {h : HI} {v : Int} : FL [(97, 0)] h (hu h 97 0 v) := FL.refl.u rfl
section OP1
variable {l : Launch} {D : Nat} {ζ : ZP} {h : HI} {x : Int}
theorem op_fault (i : Inv ζ h) : Op l (D + 60) ζ mX11_fault mX12_fault [] h := by
  have hn := ζok_n i.1.1
  have p : ftI h := i.1.2 1
  refine e_X11_fault hn ⟨rfl, rfl, e_X12_fault hn ?_⟩
  exact op_fin i p.1.symm (by have := p.2; constructor <;> omega) FL.th rfl
theorem op_lost (i : Inv ζ h) : Op l (D + 60) ζ mX11_lost mX12_lost [] h := by
  have hn := ζok_n i.1.1
  have p : loI h := i.1.2 7
  refine e_X11_lost hn ⟨rfl, rfl, e_X12_lost hn ?_⟩
  exact op_fin i p.1.symm p.2 FL.th rfl
theorem op_end (i : Inv ζ h) (hx : rg x) : Op l (D + 60) ζ mX11_end mX12_end [aI x] h := by
  have hn := ζok_n i.1.1
  have p : tpI h := i.1.2 0
  have g1 : rg (h 1 1) := by have := p.1; have := p.2.1; constructor <;> omega
  refine e_X11_end hn ⟨hx, iteI (fun c => ?_) (fun c => ⟨g1, iteI (fun c2 => ?_) (fun c2 => ?_)⟩)⟩
  · refine ⟨rfl, rfl, e_X12_end hn ⟨hx, iteP c ?_⟩⟩
    exact op_fin i rfl (by decide) FL.th rfl
  · refine ⟨rfl, rfl, e_X12_end hn ⟨hx, iteN c ⟨?_, ?_⟩⟩⟩
    · rw [hu_c _ _ _ (by decide), p.2.2.1]; exact g1
    · rw [hu_c _ _ _ (by decide), p.2.2.1]
      refine iteP c2 ?_
      refine op_fin1 (L := [(1, 1), (97, 0), (97, 2)]) i rfl (by decide) (((FL.refl.u rfl).u rfl).u rfl) [0] rfl ?_
      intro n hm
      rw [List.mem_singleton] at hm
      subst hm
      show tpI _
      unfold tpI
      have := p.2.2.2
      simp [hu]
      exact ⟨by omega, by have := p.2.1; omega, this⟩
  · refine ⟨rfl, rfl, e_X12_end hn ⟨hx, iteN c ⟨?_, ?_⟩⟩⟩
    · rw [p.2.2.1]; exact g1
    · rw [p.2.2.1]
      refine iteN c2 ?_
      exact op_fin i rfl (by decide) FL.th rfl
theorem op_rowAt (i : Inv ζ h) (hx : rg x) : Op l (D + 60) ζ mX11_rowAt mX12_rowAt [aI x] h := by
  have hn := ζok_n i.1.1
  have p : roI h := i.1.2 3
  have g1 : rg (h 52 0 - 1) := by have := p.1; have := p.2.1; constructor <;> omega
  refine e_X11_rowAt hn (s_within hn hx rg_0 g1 ?_)
  by_cases c : 0 ≤ x ∧ x ≤ h 52 0 - 1
  · rw [if_pos c]
    refine ⟨by decide, iteN (by decide) ⟨⟨by omega, by have := p.2.1; omega⟩, rfl, rfl, e_X12_rowAt hn ?_⟩⟩
    rw [p.2.2.1]
    refine s_isIn hn hx rg_0 g1 ?_
    rw [if_pos c]
    refine ⟨by decide, iteN (by decide) ⟨⟨by omega, by have := p.2.1; omega⟩, ?_⟩⟩
    have q := p.2.2.2.1 x c.1 (by omega)
    rw [hu_c _ _ _ (by decide)]
    exact op_fin i q.1.symm q.2 FL.th rfl
  · rw [if_neg c]
    refine ⟨by decide, iteP rfl ⟨rfl, rfl, e_X12_rowAt hn ?_⟩⟩
    rw [p.2.2.1]
    refine s_isIn hn hx rg_0 g1 ?_
    rw [if_neg c]
    exact ⟨by decide, iteP rfl (op_fin i rfl (by decide) FL.th rfl)⟩
theorem op_swapAt (i : Inv ζ h) (hx : rg x) : Op l (D + 60) ζ mX11_swapAt mX12_swapAt [aI x] h := by
  have hn := ζok_n i.1.1
  have p : swI h := i.1.2 4
  have g1 : rg (h 65 0 - 1) := by have := p.1; have := p.2.1; constructor <;> omega
  refine e_X11_swapAt hn (s_within hn hx rg_0 g1 ?_)
  by_cases c : 0 ≤ x ∧ x ≤ h 65 0 - 1
  · rw [if_pos c]
    refine ⟨by decide, iteN (by decide) ⟨⟨by omega, by have := p.2.1; omega⟩, rfl, rfl, e_X12_swapAt hn ?_⟩⟩
    rw [p.2.2.1]
    refine s_isIn hn hx rg_0 g1 ?_
    rw [if_pos c]
    refine ⟨by decide, iteN (by decide) ⟨⟨by omega, by have := p.2.1; omega⟩, ?_⟩⟩
    have q := p.2.2.2.1 x c.1 (by omega)
    rw [hu_c _ _ _ (by decide)]
    exact op_fin i q.1.symm q.2 FL.th rfl
  · rw [if_neg c]
    refine ⟨by decide, iteP rfl ⟨rfl, rfl, e_X12_swapAt hn ?_⟩⟩
    rw [p.2.2.1]
    refine s_isIn hn hx rg_0 g1 ?_
    rw [if_neg c]
    exact ⟨by decide, iteP rfl (op_fin i rfl (by decide) FL.th rfl)⟩
theorem op_shareAt (i : Inv ζ h) (hx : rg x) : Op l (D + 60) ζ mX11_shareAt mX12_shareAt [aI x] h := by
  have hn := ζok_n i.1.1
  have p : shI h := i.1.2 5
  have g1 : rg (h 70 0 - 1) := by have := p.1; have := p.2.1; constructor <;> omega
  refine e_X11_shareAt hn (s_within hn hx rg_0 g1 ?_)
  by_cases c : 0 ≤ x ∧ x ≤ h 70 0 - 1
  · rw [if_pos c]
    refine ⟨by decide, iteN (by decide) ⟨⟨by omega, by have := p.2.1; omega⟩, rfl, rfl, e_X12_shareAt hn ?_⟩⟩
    rw [p.2.2.1]
    refine s_isIn hn hx rg_0 g1 ?_
    rw [if_pos c]
    refine ⟨by decide, iteN (by decide) ⟨⟨by omega, by have := p.2.1; omega⟩, ?_⟩⟩
    have q := p.2.2.2 x c.1 (by omega)
    rw [hu_c _ _ _ (by decide)]
    exact op_fin i q.1.symm q.2 FL.th rfl
  · rw [if_neg c]
    refine ⟨by decide, iteP rfl ⟨rfl, rfl, e_X12_shareAt hn ?_⟩⟩
    rw [p.2.2.1]
    refine s_isIn hn hx rg_0 g1 ?_
    rw [if_neg c]
    exact ⟨by decide, iteP rfl (op_fin i rfl (by decide) FL.th rfl)⟩
theorem op_orderAt (i : Inv ζ h) (hx : rg x) : Op l (D + 60) ζ mX11_orderAt mX12_orderAt [aI x] h := by
  have hn := ζok_n i.1.1
  have p : orI h := i.1.2 9
  have g1 : rg (h 91 0 - 1) := by have := p.1; have := p.2.1; constructor <;> omega
  refine e_X11_orderAt hn (s_within hn hx rg_0 g1 ?_)
  by_cases c : 0 ≤ x ∧ x ≤ h 91 0 - 1
  · rw [if_pos c]
    refine ⟨by decide, iteN (by decide) ⟨⟨by omega, by have := p.2.1; omega⟩, rfl, rfl, e_X12_orderAt hn ?_⟩⟩
    rw [p.2.2.1]
    refine s_isIn hn hx rg_0 g1 ?_
    rw [if_pos c]
    refine ⟨by decide, iteN (by decide) ⟨⟨by omega, by have := p.2.1; omega⟩, ?_⟩⟩
    have q := p.2.2.2 x c.1 (by omega)
    rw [hu_c _ _ _ (by decide)]
    exact op_fin i q.1.symm q.2 FL.th rfl
  · rw [if_neg c]
    refine ⟨by decide, iteP rfl ⟨rfl, rfl, e_X12_orderAt hn ?_⟩⟩
    rw [p.2.2.1]
    refine s_isIn hn hx rg_0 g1 ?_
    rw [if_neg c]
    exact ⟨by decide, iteP rfl (op_fin i rfl (by decide) FL.th rfl)⟩
theorem op_rowsBy (i : Inv ζ h) (hx : rg x) : Op l (D + 60) ζ mX11_rowsBy mX12_rowsBy [aI x] h := by
  have hn := ζok_n i.1.1
  have p : roI h := i.1.2 3
  have g1 : rg (h 52 0) := by have := p.1; have := p.2.1; constructor <;> omega
  have gm : rg (h 97 48) := by rw [p.2.2.1]; exact g1
  refine e_X11_rowsBy hn ⟨g1, iteI (fun c => ?_) (fun c => s_within hn hx rg_0 (by decide) ?_)⟩
  · refine ⟨rfl, rfl, e_X12_rowsBy hn ⟨gm, ?_⟩⟩
    refine iteN (by rw [p.2.2.1]; omega) ?_
    exact op_fin i rfl (by decide) FL.th rfl
  · have q := p.2.2.2.2 c
    have c' : ¬ h 97 48 = 0 := by rw [p.2.2.1]; exact c
    by_cases c2 : 0 ≤ x ∧ x ≤ 1
    · rw [if_pos c2]
      refine ⟨by decide, iteP (by decide) ⟨hx, iteI (fun c3 => ?_) (fun c3 => ?_)⟩⟩
      · refine ⟨rfl, rfl, e_X12_rowsBy hn ⟨gm, iteP c' ⟨hx, iteP c3 (iteN (by omega) ?_)⟩⟩⟩
        exact op_fin i q.2.1.symm q.2.2.2 FL.th rfl
      · refine ⟨rfl, rfl, e_X12_rowsBy hn ⟨gm, iteP c' ⟨hx, iteN c3 ?_⟩⟩⟩
        exact op_fin i q.1.symm q.2.2.1 FL.th rfl
    · rw [if_neg c2]
      refine ⟨by decide, iteN (by decide) ⟨rfl, rfl, e_X12_rowsBy hn ⟨gm, iteP c' ⟨hx, iteP (by omega) (iteP (by omega) ?_)⟩⟩⟩⟩
      exact op_fin i rfl (by decide) FL.th rfl
theorem op_swapsBy (i : Inv ζ h) (hx : rg x) : Op l (D + 60) ζ mX11_swapsBy mX12_swapsBy [aI x] h := by
  have hn := ζok_n i.1.1
  have p : swI h := i.1.2 4
  have g1 : rg (h 65 0) := by have := p.1; have := p.2.1; constructor <;> omega
  have gm : rg (h 97 53) := by rw [p.2.2.1]; exact g1
  refine e_X11_swapsBy hn ⟨g1, iteI (fun c => ?_) (fun c => s_within hn hx rg_0 (by decide) ?_)⟩
  · refine ⟨rfl, rfl, e_X12_swapsBy hn ⟨gm, ?_⟩⟩
    refine iteN (by rw [p.2.2.1]; omega) ?_
    exact op_fin i rfl (by decide) FL.th rfl
  · have q := p.2.2.2.2 c
    have c' : ¬ h 97 53 = 0 := by rw [p.2.2.1]; exact c
    by_cases c2 : 0 ≤ x ∧ x ≤ 2
    · rw [if_pos c2]
      refine ⟨by decide, iteP (by decide) ⟨hx, iteI (fun c3 => iteI (fun c4 => ?_) (fun c4 => ?_)) (fun c3 => ?_)⟩⟩
      · refine ⟨rfl, rfl, e_X12_swapsBy hn ⟨gm, iteP c' ⟨hx, iteP c3 (iteP c4 (iteN (by omega) ?_))⟩⟩⟩
        exact op_fin i q.2.2.1.symm q.2.2.2.2.2 FL.th rfl
      · refine ⟨rfl, rfl, e_X12_swapsBy hn ⟨gm, iteP c' ⟨hx, iteP c3 (iteN c4 ?_)⟩⟩⟩
        exact op_fin i q.2.1.symm q.2.2.2.2.1 FL.th rfl
      · refine ⟨rfl, rfl, e_X12_swapsBy hn ⟨gm, iteP c' ⟨hx, iteN c3 ?_⟩⟩⟩
        exact op_fin i q.1.symm q.2.2.2.1 FL.th rfl
    · rw [if_neg c2]
      refine ⟨by decide, iteN (by decide) ⟨rfl, rfl, e_X12_swapsBy hn ⟨gm, iteP c' ⟨hx, iteP (by omega) (iteP (by omega) (iteP (by omega) ?_))⟩⟩⟩⟩
      exact op_fin i rfl (by decide) FL.th rfl
theorem op_bestBy (i : Inv ζ h) (hx : rg x) : Op l (D + 60) ζ mX11_bestBy mX12_bestBy [aI x] h := by
  have hn := ζok_n i.1.1
  have p : bmI h := i.1.2 6
  have gm : rg (h 97 59) := by rcases p with q | q <;> rw [q.1] <;> decide
  have mm : ∀ (r : Int), rg r → (x = 0 → r = h 0 10) → (x = 1 → r = h 0 11) → (x ≠ 0 → x ≠ 1 → r = -1) → RtI l (D + 60) mX12_bestBy (zz ζ) [aP 97, aI x] h (fun r2 h2 => rg r ∧ rg r2 ∧ r = r2 ∧ h2 1000003 = h 1000003 ∧ h2 1000004 = h 1000004 ∧ Inv ζ h2) := by
    intro r gr r0 r1 r2
    rcases p with q | q
    · refine e_X12_bestBy hn ⟨gm, iteN (by rw [q.1]; decide) (op_fin i ?_ gr FL.th rfl)⟩
      by_cases a : x = 0
      · rw [r0 a, q.2.1]
      · by_cases b : x = 1
        · rw [r1 b, q.2.2]
        · exact r2 a b
    · refine e_X12_bestBy hn ⟨gm, iteP (by rw [q.1]; decide) ⟨hx, iteI (fun a => iteI (fun b => op_fin i (r2 a b) gr FL.th rfl) (fun b => op_fin i ?_ gr FL.th rfl)) (fun a => op_fin i ?_ gr FL.th rfl)⟩⟩
      · rw [r1 (by omega), q.2.2.1]
      · rw [r0 (by omega), q.2.1]
  have g1 : rg (h 0 10) ∧ rg (h 0 11) := by
    rcases p with q | q
    · rw [q.2.1, q.2.2]; exact ⟨by decide, by decide⟩
    · exact ⟨q.2.2.2.1, q.2.2.2.2⟩
  refine e_X11_bestBy hn ⟨hx, iteI (fun a => iteI (fun b => ⟨rfl, rfl, mm _ (by decide) (fun e => absurd e a) (fun e => absurd e b) (fun _ _ => rfl)⟩) (fun b => ⟨rfl, rfl, mm _ g1.2 (fun e => absurd e a) (fun _ => rfl) (fun _ e => absurd (by omega) e)⟩)) (fun a => ⟨rfl, rfl, mm _ g1.1 (fun _ => rfl) (fun e => by omega) (fun e _ => absurd (by omega) e)⟩)⟩
end OP1
