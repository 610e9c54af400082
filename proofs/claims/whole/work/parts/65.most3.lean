/-! calls that empty the tape; most -/
def LMk : List (Nat × Int) := [(97, 0), (97, 2), (97, 3), (97, 4), (97, 5), (97, 43), (114, -1), (103, -1), (104, -1), (105, -1), (106, -1), (107, -1), (108, -1), (109, -1), (110, -1)]
theorem cLt_bd (v : Nat → Int) (n : Nat) (h : Int) : 0 ≤ cLt v n h ∧ cLt v n h ≤ n := cN_bd _ n
theorem tp0 {ζ : ZP} {h k : HI} {L : List (Nat × Int)} (t : tpI h) (F : FL L h k) (e1 : k 1 1 = 0) (e2 : k 97 2 = 0) (c : (!inC L 2 && !inC L 98) = true) : IP ζ k 0 := by
  simp only [Bool.and_eq_true, Bool.not_eq_true'] at c
  refine ⟨by omega, by omega, by omega, ?_⟩
  rw [F.c 2 c.1, F.c 98 c.2]
  exact t.2.2.2
section MOST3
variable {l : Launch} {D : Nat} {ζ : ZP} {h : HI} {Q : Int → HI → Prop} {QV : HI → Prop} {c x H : Int}
theorem s_taken (hn : 144 ≤ ζ.2.2.2.2) (hq : ∀ h', FL [(97, 2), (97, 3), (97, 4), (97, 5)] h h' → h' 97 3 = h 97 2 → h' 97 2 = 0 → h' 97 4 = 0 → h' 97 5 = x → QV h') : RtV l (D + 1) mX12_taken (zz ζ) [aP 97, aI x] h QV := by
  refine e_X12_taken hn (hq _ ((((FL.refl.u rfl).u rfl).u rfl).u rfl) ?_ ?_ ?_ ?_)
  · simp [hu]
  · simp [hu]
  · simp [hu]
  · simp [hu]
/-- told by the tape: what the reference does, behind what the class has done (g) -/
theorem s_told (i : Inv ζ h) {g : HI} {LX : List (Nat × Int)} (fx : FL LX h g) (cx : (!inC LX 97 && !inC LX 98 && !inC LX 99) = true) {lo hi : Int} (hlo : 1 ≤ lo ∧ lo ≤ 60) (hhi : lo ≤ hi ∧ hi ≤ 60) (hy : (lo ≤ h 1 1 ∧ h 1 1 ≤ hi) → pk (stk 3 h) (tl h) 0 (h 1 1).toNat → ∀ k, FL LMk g k → k 97 2 = 0 → k 97 43 = h 1 1 → tM (stk 3 h) k → (∀ j : Int, 0 ≤ j → j < h 1 1 → k 114 j = tl h j) → Q 1 k) (hz : ¬ ((lo ≤ h 1 1 ∧ h 1 1 ≤ hi) ∧ pk (stk 3 h) (tl h) 0 (h 1 1).toNat) → ∀ k, FL LMk g k → k 97 2 = 0 → Q 0 k) : RtV l (D + 10) mX12_taken (zz ζ) [aP 97, aI 540] (hu g 97 0 0) (fun h1 => RtI l (D + 10) mX12_tells (zz ζ) [aP 97, aI lo, aI hi] h1 Q) := by
  have hn := ζok_n i.1.1
  have tp : tpI h := i.1.2 0
  simp only [Bool.and_eq_true, Bool.not_eq_true'] at cx
  have e97 : g 97 = h 97 := fx.c 97 cx.1.1
  have e98 : g 98 = h 98 := fx.c 98 cx.1.2
  have e99 : g 99 = h 99 := fx.c 99 cx.2
  refine s_taken hn (fun g1 f1 a3 a2 a4 a5 => ?_)
  have F1 : FL [(97, 0), (97, 2), (97, 3), (97, 4), (97, 5)] g g1 := (FL.refl.u rfl).trans (f1.mono rfl)
  have n3 : g1 97 3 = h 1 1 := by rw [a3, hu_j _ _ _ (by decide), e97]; exact tp.2.2.1
  refine s_tells i (g := g1) (by rw [F1.c 99 rfl, e99]) (by rw [F1.c 98 rfl, e98]) n3 hlo hhi (fun c0 p k f e43 tm e114 => ?_) (fun no k f => ?_)
  · exact hy c0 p k ((F1.mono rfl).trans (f.mono rfl)) (by rw [f.at 97 2 rfl]; exact a2) e43 tm e114
  · exact hz no k ((F1.mono rfl).trans (f.mono rfl)) (by rw [f.at 97 2 rfl]; exact a2)
theorem op_most (i : Inv ζ h) {s p : Int} (rs : rg s) (rp : rg p) (rH : rg H) : Op l (D + 60) ζ mX11_most mX12_most [aI s, aI p, aI H] h := by
  have hn := ζok_n i.1.1
  have tp : tpI h := i.1.2 0
  have sr : SR (stk 3 h) (h 99) (h 101) := i.1.2 2
  have ok := sr.2.2.1.2.1
  have C60 : h 3 3 ≤ 60 := sr.2.1.1.2.1
  obtain ⟨n, en⟩ : ∃ n : Nat, h 1 1 = n := ⟨(h 1 1).toNat, by have := tp.1; omega⟩
  have en' : (h 1 1).toNat = n := by omega
  refine e_X11_most hn (s_pick i (Or.inl rfl) ⟨by decide, by decide⟩ ⟨by decide, by decide⟩ (fun c0 pk0 g fx e11 tr tx e51 => ?_) (fun no g fx e11 tr => ?_))
  rotate_left
  · -- refused
    refine ⟨by decide, iteP rfl ⟨fx.c _ rfl, fx.c _ rfl, e_X12_most hn (s_told i fx rfl ⟨by decide, by decide⟩ ⟨by decide, by decide⟩ (fun c0 p => absurd ⟨c0, p⟩ no) (fun _ k fm e2 => ?_))⟩⟩
    have F : FL (LPk ++ LMk) h k := (fx.mono rfl).trans (fm.mono rfl)
    exact ⟨by decide, iteP rfl (op_fin2 i rfl (by decide) F [0] rfl (new1 (tp0 tp F (by rw [fm.at 1 1 rfl]; exact e11) e2 rfl)) (tr.fl fm rfl))⟩
  rw [en] at c0 e51
  rw [en'] at pk0
  have fin : ∀ (r1 r2 : Int) (g' k : HI), r1 = r2 → rg r1 → FL [(51, -1)] g g' → FL ((123, -1) :: LMk) g' k → k 97 2 = 0 → rg r1 ∧ rg r2 ∧ r1 = r2 ∧ k 1000003 = h 1000003 ∧ k 1000004 = h 1000004 ∧ Inv ζ k := by
    intro r1 r2 g' k e r f1 f2 e2
    have F : FL (LPk ++ (123, -1) :: LMk) h k := ((fx.mono rfl).trans (f1.mono rfl)).trans (f2.mono rfl)
    refine op_fin2 i e r F [0] rfl (new1 (tp0 tp F ?_ e2 rfl)) ?_
    · rw [f2.at 1 1 rfl, f1.at 1 1 rfl]; exact e11
    · exact (tr.fl f1 rfl).fl f2 rfl
  have told : ∀ (g' : HI) (r1 : Int), FL [(51, -1)] g g' → rg r1 → (¬ ((1 ≤ s ∧ s ≤ 20) ∧ (1 ≤ p ∧ p ≤ 2) ∧ (1 ≤ H ∧ H ≤ 800)) → r1 = -1) → ((1 ≤ s ∧ s ≤ 20) → (1 ≤ p ∧ p ≤ 2) → (1 ≤ H ∧ H ≤ 800) → ∃ P : Int, r1 = P.tdiv s ∧ (p = 2 → ∀ a : Int → Int, srt a n (cLt (fun j => tH (stk 3 h) (tl h j)) n) → P = prF a H n 0 (n - 1)) ∧ (p = 1 → P = n - cLt (fun j => tH (stk 3 h) (tl h j)) n H)) → RtI l (D + 60) mX12_most (zz ζ) [aP 97, aI s, aI p, aI H] g' (fun r2 h2 => rg r1 ∧ rg r2 ∧ r1 = r2 ∧ h2 1000003 = h 1000003 ∧ h2 1000004 = h 1000004 ∧ Inv ζ h2) := by
    intro g' r1 fg rr hno hyes
    have fx' : FL LPk h g' := fx.trans (fg.mono rfl)
    refine e_X12_most hn (s_told i fx' rfl ⟨by decide, by decide⟩ ⟨by decide, by decide⟩ (fun _ _ k fm e2 e43 tm e114 => ?_) (fun no => absurd ⟨by rw [en]; exact c0, by rw [en']; exact pk0⟩ no))
    rw [en] at e43 e114
    have bad : ¬ ((1 ≤ s ∧ s ≤ 20) ∧ (1 ≤ p ∧ p ≤ 2) ∧ (1 ≤ H ∧ H ≤ 800)) → rg r1 ∧ rg (-1) ∧ r1 = -1 ∧ k 1000003 = h 1000003 ∧ k 1000004 = h 1000004 ∧ Inv ζ k := fun no => fin r1 (-1) g' k (hno no) rr fg (fm.mono rfl) e2
    refine ⟨by decide, iteN (by decide) (s_isIn hn rs (by decide) (by decide) ?_)⟩
    by_cases q1 : 1 ≤ s ∧ s ≤ 20
    rotate_left
    · rw [if_neg q1]
      exact ⟨by decide, iteP rfl (bad (fun a => q1 a.1))⟩
    rw [if_pos q1]
    refine ⟨by decide, iteN (by decide) (s_isIn hn rp (by decide) (by decide) ?_)⟩
    by_cases q2 : 1 ≤ p ∧ p ≤ 2
    rotate_left
    · rw [if_neg q2]
      exact ⟨by decide, iteP rfl (bad (fun a => q2 a.2.1))⟩
    rw [if_pos q2]
    refine ⟨by decide, iteN (by decide) (s_isIn hn rH (by decide) (by decide) ?_)⟩
    by_cases q3 : 1 ≤ H ∧ H ≤ 800
    rotate_left
    · rw [if_neg q3]
      exact ⟨by decide, iteN (by decide) (bad (fun a => q3 a.2.2))⟩
    rw [if_pos q3]
    have vals : ∀ j : Int, 0 ≤ j → j < n → (0 ≤ tl h j ∧ tl h j < h 3 3) ∧ k 106 (tl h j) = tH (stk 3 h) (tl h j) ∧ 0 ≤ tH (stk 3 h) (tl h j) ∧ tH (stk 3 h) (tl h j) ≤ 6000 := by
      intro j j0 j1
      have pj := pk0 j.toNat (by omega)
      unfold pk1 at pj
      rw [show ((j.toNat : Nat) : Int) = j by omega] at pj
      have t1 := tm (tl h j) pj.1.1 pj.1.2
      have b := tv_bd ok (tl h j)
      rw [t1.2.1, if_neg (by omega)]
      exact ⟨pj.1, rfl, b.2.1.1, b.2.1.2.1⟩
    refine ⟨by decide, iteP (by decide) (s_msort hn (n := n) (by omega) e43 (t := tl h) (V := fun j => tH (stk 3 h) (tl h j)) (fun j j0 j1 => ?_) (fun k2 f2 e123 => ?_))⟩
    · have v := vals j j0 j1
      exact ⟨e114 j j0 j1, ⟨v.1.1, by omega⟩, v.2.1, by constructor <;> omega⟩
    have s1 := srt_rev (v := fun j => tH (stk 3 h) (tl h j)) (b := fun k' => tH (stk 3 h) (tl h (sI (fun j => tH (stk 3 h) (tl h j)) (k 123) n k'))) (sI_srt (key := fun j => tH (stk 3 h) (tl h j)) (a := k 123) (n := n))
    obtain ⟨P, hP0, hP2, hP1⟩ := hyes q1 q2 q3
    rw [show k2 97 43 = n by rw [f2.at 97 43 rfl]; exact e43]
    refine s_mmost hn (n := n) (by omega) (by omega) (b := fun k' => tH (stk 3 h) (tl h (sI (fun j => tH (stk 3 h) (tl h j)) (k 123) n k'))) (fun j j0 j1 => ?_) q1 (by omega) rH (P := P) (fun e => hP2 e _ s1) (fun e => ?_) (fun P0 P1 => ?_)
    · rw [e123]
      have sb := sI_bd (key := fun j => tH (stk 3 h) (tl h j)) (a := k 123) (n := n) j j0 j1
      have v := vals _ sb.1 sb.2
      rw [f2.c 114 rfl, e114 _ sb.1 sb.2, f2.c 106 rfl]
      exact ⟨⟨sb.1, by omega⟩, ⟨v.1.1, by omega⟩, v.2.1, v.2.2.1, by omega⟩
    · refine ⟨P, ?_, ?_, rfl, fun j j0 j1 => ?_⟩
      · rw [hP1 e]; have := cLt_bd (fun j => tH (stk 3 h) (tl h j)) n H; omega
      · rw [hP1 e]; have := cLt_bd (fun j => tH (stk 3 h) (tl h j)) n H; omega
      · have y : tH (stk 3 h) (tl h (sI (fun j => tH (stk 3 h) (tl h j)) (k 123) n ((n : Int) - 1 - ((n : Int) - 1 - j)))) < H ↔ (n : Int) - 1 - j < cLt (fun j => tH (stk 3 h) (tl h j)) n H := s1 H ((n : Int) - 1 - j) (by omega) (by omega)
        rw [show (n : Int) - 1 - ((n : Int) - 1 - j) = j by omega] at y
        rw [hP1 e]
        show tH (stk 3 h) (tl h (sI (fun j => tH (stk 3 h) (tl h j)) (k 123) n j)) < H ↔ _
        rw [y]
        omega
    · exact fin r1 _ g' k2 hP0 rr fg ((fm.mono rfl).trans (f2.mono rfl)) (by rw [f2.at 97 2 rfl]; exact e2)
  rw [en]
  have xv : ∀ j : Int, 0 ≤ j → j < n → (0 ≤ g 51 j ∧ g 51 j < 60) ∧ g 51 j = tl h j ∧ g 44 (g 51 j) = tH (stk 3 h) (tl h j) ∧ 0 ≤ tH (stk 3 h) (tl h j) ∧ tH (stk 3 h) (tl h j) ≤ 6000 := by
    intro j j0 j1
    have pj := pk0 j.toNat (by omega)
    unfold pk1 at pj
    rw [show ((j.toNat : Nat) : Int) = j by omega] at pj
    have lt : tl h j < h 3 3 := pj.1.2
    have t1 := tx (tl h j) pj.1.1 (by omega)
    have b := tv_bd ok (tl h j)
    rw [e51 j j0 j1, t1.2.1]
    exact ⟨⟨pj.1.1, by omega⟩, rfl, rfl, b.2.1.1, b.2.1.2.1⟩
  have no1 : ∀ q : Prop, q → (¬ q → (-1 : Int) = -1) := fun _ _ _ => rfl
  refine ⟨by constructor <;> omega, iteN (by omega) (s_within hn rs (by decide) (by decide) ?_)⟩
  by_cases q1 : 1 ≤ s ∧ s ≤ 20
  rotate_left
  · rw [if_neg q1]
    exact ⟨by decide, iteP rfl ⟨fx.c _ rfl, fx.c _ rfl, told g (-1) FL.refl (by decide) (fun _ => rfl) (fun a => absurd a q1)⟩⟩
  rw [if_pos q1]
  refine ⟨by decide, iteN (by decide) (s_within hn rp (by decide) (by decide) ?_)⟩
  by_cases q2 : 1 ≤ p ∧ p ≤ 2
  rotate_left
  · rw [if_neg q2]
    exact ⟨by decide, iteP rfl ⟨fx.c _ rfl, fx.c _ rfl, told g (-1) FL.refl (by decide) (fun _ => rfl) (fun _ a => absurd a q2)⟩⟩
  rw [if_pos q2]
  refine ⟨by decide, iteN (by decide) (s_within hn rH (by decide) (by decide) ?_)⟩
  by_cases q3 : 1 ≤ H ∧ H ≤ 800
  rotate_left
  · rw [if_neg q3]
    exact ⟨by decide, iteN (by decide) ⟨fx.c _ rfl, fx.c _ rfl, told g (-1) FL.refl (by decide) (fun _ => rfl) (fun _ _ a => absurd a q3)⟩⟩
  rw [if_pos q3]
  have tb : ∀ P : Int, 0 ≤ P → P ≤ 60 → rg (P.tdiv s) := fun P p0 p1 => by
    have a := Int.tdiv_nonneg (a := P) (b := s) p0 (by omega)
    have b := Int.tdiv_le_self (a := P) s p0
    constructor <;> omega
  refine ⟨by decide, iteP (by decide) ⟨rp, iteI (fun y => ?_) (fun y => ?_)⟩⟩
  · refine s_strongPairs hn (n := n) (by omega) (by omega) (p := tl h) (V := tH (stk 3 h)) (fun j j0 j1 => ?_) (fun c c0 c1 => ?_) rH (fun g' a fg sa => ?_)
    · have v := xv j j0 j1
      exact ⟨v.2.1, by rw [← v.2.1]; exact v.1⟩
    · have b := tv_bd ok c
      exact ⟨(tx c c0 c1).2.1, b.2.1.1, by omega⟩
    · have pb := prF_bd (a := a) (h := H) n 0 ((n : Int) - 1)
      refine s_cut hn (by constructor <;> omega) rs ?_
      rw [if_neg (by omega)]
      refine ⟨by rw [fg.c 1000003 rfl, fx.c 1000003 rfl], by rw [fg.c 1000004 rfl, fx.c 1000004 rfl], told g' _ fg (tb _ pb.1 (by omega)) (fun no => absurd ⟨q1, q2, q3⟩ no) (fun _ _ _ => ⟨_, rfl, fun _ a' sa' => ?_, fun e => by omega⟩)⟩
      exact prF_congr (srt_uniq sa sa') n 0 _ (by omega) (by omega)
  · refine s_strongCells hn (n := n) (by omega) (v := fun j => tH (stk 3 h) (tl h j)) (fun j j0 j1 => ?_) rH ?_
    · have v := xv j j0 j1
      exact ⟨v.1, v.2.2.1, by constructor <;> omega⟩
    · have cb := cLt_bd (fun j => tH (stk 3 h) (tl h j)) n H
      refine s_cut hn (by constructor <;> omega) rs ?_
      rw [if_neg (by omega)]
      exact ⟨fx.c _ rfl, fx.c _ rfl, told g _ FL.refl (tb _ (by omega) (by omega)) (fun no => absurd ⟨q1, q2, q3⟩ no) (fun _ _ _ => ⟨_, rfl, fun e => by omega, fun _ => rfl⟩)⟩
end MOST3
