/-! truth out of the invariant; again -/
def LQ : List (Nat × Int) := [(40, 0), (41, -1), (42, -1), (43, -1), (44, -1), (45, -1), (46, -1), (47, -1), (48, -1), (49, -1), (50, -1)]
def LM : List (Nat × Int) := [(103, -1), (104, -1), (105, -1), (106, -1), (107, -1), (108, -1), (109, -1), (110, -1)]
/-- the true values of a stock -/
def tN (S : HI) (c : Int) : Int := tcn (td S) (tru (td S)).1 c
def tH (S : HI) (c : Int) : Int := thv (td S) (tru (td S)).1 (td S).2.2.1 (tru (td S)).2.1 c
def tP (S : HI) (c : Int) : Int := thv (td S) (tru (td S)).1 (td S).2.2.2.1 (tru (td S)).2.2 c
def tS (S : HI) (c : Int) : Int := thi (td S) (tru (td S)).1 (td S).2.2.1 (tru (td S)).2.1 c - tlo (td S) (tru (td S)).1 (td S).2.2.1 (tru (td S)).2.1 c
def tX (S : HI) (h : HI) : Prop := ∀ c : Int, 0 ≤ c → c < 60 → h 46 c = tN S c ∧ h 44 c = tH S c ∧ h 45 c = tP S c ∧ (0 < tN S c → h 48 c - h 47 c = tS S c ∧ (-7000 ≤ h 47 c ∧ h 47 c ≤ 7000) ∧ (-7000 ≤ h 48 c ∧ h 48 c ≤ 7000))
def tM (S : HI) (h : HI) : Prop := ∀ c : Int, 0 ≤ c → c < S 0 3 → h 109 c = tN S c ∧ h 106 c = (if tN S c = 0 then -1 else tH S c) ∧ h 107 c = (if tN S c = 0 then -1 else tP S c) ∧ h 108 c = (if tN S c = 0 then -1 else tS S c)
theorem tX.fl {S : HI} {h h' : HI} {L : List (Nat × Int)} (w : tX S h) (f : FL L h h') (c : (!inC L 44 && !inC L 45 && !inC L 46 && !inC L 47 && !inC L 48) = true) : tX S h' := by
  simp only [Bool.and_eq_true, Bool.not_eq_true'] at c
  obtain ⟨⟨⟨⟨c1, c2⟩, c3⟩, c4⟩, c5⟩ := c
  intro c q0 q1
  have := w c q0 q1
  rw [f.c 44 c1, f.c 45 c2, f.c 46 c3, f.c 47 c4, f.c 48 c5]; exact this
theorem tM.fl {S : HI} {h h' : HI} {L : List (Nat × Int)} (w : tM S h) (f : FL L h h') (c : (!inC L 106 && !inC L 107 && !inC L 108 && !inC L 109) = true) : tM S h' := by
  simp only [Bool.and_eq_true, Bool.not_eq_true'] at c
  obtain ⟨⟨⟨c1, c2⟩, c3⟩, c4⟩ := c
  intro c q0 q1
  have := w c q0 q1
  rw [f.c 106 c1, f.c 107 c2, f.c 108 c3, f.c 109 c4]; exact this
theorem tv_bd {S : HI} (ok : TDok (td S)) (c : Int) : (0 ≤ tN S c ∧ tN S c ≤ 200) ∧ (0 ≤ tH S c ∧ tH S c ≤ 6000 ∧ (tN S c ≠ 0 → 1 ≤ tH S c)) ∧ (0 ≤ tP S c ∧ tP S c ≤ 6000 ∧ (tN S c ≠ 0 → 1 ≤ tP S c)) := by
  have n1 := cN_bd (rdq (td S) (tru (td S)).1 c) (td S).2.2.2.2.1
  have o := ok.1
  have t := thv_bd ok (by decide) (tru_bd ok) c
  exact ⟨⟨n1.1, by unfold tN tcn; omega⟩, ⟨t.1.1, t.1.2.1, t.1.2.2⟩, ⟨t.2.1, t.2.2.1, t.2.2.2⟩⟩
theorem cLo_le_cHi {q : Nat → Bool} {x : Nat → Int} : ∀ {n : Nat}, cLo q x n ≤ cHi q x n
  | 0 => by simp [cLo, cHi]
  | n + 1 => by
    have ih := cLo_le_cHi (q := q) (x := x) (n := n)
    unfold cLo cHi
    cases q n with
    | false => simpa using ih
    | true => simp; split <;> omega
theorem tS_bd {S : HI} (ok : TDok (td S)) (c : Int) : 0 ≤ tS S c ∧ tS S c ≤ 14000 ∧ (-7000 ≤ tlo (td S) (tru (td S)).1 (td S).2.2.1 (tru (td S)).2.1 c ∧ tlo (td S) (tru (td S)).1 (td S).2.2.1 (tru (td S)).2.1 c ≤ 7000) ∧ (-7000 ≤ thi (td S) (tru (td S)).1 (td S).2.2.1 (tru (td S)).2.1 c ∧ thi (td S) (tru (td S)).1 (td S).2.2.1 (tru (td S)).2.1 c ≤ 7000) := by
  have hx := rdx_bd ok (tru_bd ok)
  have hb : ∀ r, r < (td S).2.2.2.2.1 → rdq (td S) (tru (td S)).1 c r = true → -7000 ≤ rdx (td S) (td S).2.2.1 (tru (td S)).2.1 r ∧ rdx (td S) (td S).2.2.1 (tru (td S)).2.1 r ≤ 7000 := fun r hr _ => by have := (hx r hr).1; omega
  have a := cLo_bd hb
  have b := cHi_bd hb
  have l := cLo_le_cHi (q := rdq (td S) (tru (td S)).1 c) (x := rdx (td S) (td S).2.2.1 (tru (td S)).2.1) (n := (td S).2.2.2.2.1)
  unfold tS tlo thi
  omega
theorem tX_of {S h : HI} (ok : TDok (td S)) (w : TWX (td S) (tru (td S)) h) : tX S h := by
  intro c c0 c1
  have q := w c c0 c1
  refine ⟨q.1, q.2.1, q.2.2.1, fun hp => ?_⟩
  have := q.2.2.2 hp
  have b := tS_bd ok c
  rw [this.1, this.2]
  exact ⟨rfl, b.2.2.1, b.2.2.2⟩
section OP8
variable {l : Launch} {D : Nat} {ζ : ZP} {h : HI} {Q : Int → HI → Prop} {QV : HI → Prop} {c x : Int}
theorem i_refresh (i : Inv ζ h) (hq : ∀ h', FL LQ h h' → Inv ζ h' → h' 40 0 = 0 → TSX (tru (td (stk 3 h))) h' → tX (stk 3 h) h' → QV h') : RtV l (D + 4) mX8_refresh (zz ζ) [aP 40, aP 3] h QV := by
  have hn := ζok_n i.1.1
  have sr : SR (stk 3 h) (h 99) (h 101) := i.1.2 2
  obtain ⟨sa, sc, sr', ss, sp, su⟩ := id sr
  have a0 : 0 ≤ h 4 3 := sa.1.1
  have a2 : 0 ≤ h 3 3 := sc.1.1
  have a3 : 0 ≤ h 3 5 := sr'.1.1
  have ok := sr'.2.1
  have tdx : TDX (td (stk 3 h)) h := ⟨rfl, rfl, rfl, rfl, (Int.toNat_of_nonneg a3).symm, (Int.toNat_of_nonneg a2).symm, (Int.toNat_of_nonneg a0).symm⟩
  refine s_refresh hn ok tdx (by rcases i.2.1 with e | e <;> rw [e] <;> decide) i.2.2 (fun g f z ts tw => ?_)
  have es : stk 3 g = stk 3 h := stk_fl (fun k hk => f.c (3 + k) (by
    simp only [inC, List.any_cons, List.any_nil, Bool.or_false, Bool.or_eq_false_iff, beq_eq_false_iff_ne]
    omega))
  refine hq g f ⟨i.1.upd f [] rfl (fun n hm => by cases hm), ⟨Or.inl z, fun _ => by rw [es]; exact ⟨ts, tw⟩⟩⟩ z ts (tX_of ok tw)
theorem i_settle (i : Inv ζ h) {g : HI} (e : g 99 = h 99) (hq : ∀ h', FL LM g h' → TSM (tru (td (stk 3 h))) h' → tM (stk 3 h) h' → QV h') : RtV l (D + 3) mX12_settle (zz ζ) [aP 97] g QV := by
  have hn := ζok_n i.1.1
  have sr : SR (stk 3 h) (h 99) (h 101) := i.1.2 2
  obtain ⟨sa, sc, sr', ss, sp, su⟩ := id sr
  have a0 : h 99 0 = h 4 3 ∧ 0 ≤ h 4 3 := ⟨sa.1.2.2, sa.1.1⟩
  have a2 : h 99 11 = h 3 3 ∧ 0 ≤ h 3 3 := ⟨sc.1.2.2, sc.1.1⟩
  have a3 : h 99 12 = h 3 5 ∧ 0 ≤ h 3 5 := ⟨sr'.1.2.2, sr'.1.1⟩
  have ok := sr'.2.1
  have tdm : TDM (td (stk 3 h)) g := by
    unfold TDM
    rw [e]
    refine ⟨?_, ?_, ?_, fun r hr => ?_⟩
    · rw [a3.1]; exact (Int.toNat_of_nonneg a3.2).symm
    · rw [a2.1]; exact (Int.toNat_of_nonneg a2.2).symm
    · rw [a0.1]; exact (Int.toNat_of_nonneg a0.2).symm
    · have hr' : r < (h 3 5).toNat := hr
      exact sr'.2.2.1 r (by show (r : Int) < h 3 5; omega)
  refine s_settle hn ok tdm (fun k f ts tw => hq k f ts ?_)
  intro c c0 c1
  have c1' : c < h 3 3 := c1
  exact tw c c0 (by show c < ((h 3 3).toNat : Nat); omega)
def agB (n sp : Int → Int) : Nat → Int
  | 0 => -1
  | c + 1 => if 1 < n c ∧ (agB n sp c < 0 ∨ sp (agB n sp c) < sp c) then (c : Int) else agB n sp c
theorem agB_bd (n sp : Int → Int) : ∀ C : Nat, agB n sp C = -1 ∨ (0 ≤ agB n sp C ∧ agB n sp C < C ∧ 1 < n (agB n sp C))
  | 0 => Or.inl rfl
  | C + 1 => by
    have := agB_bd n sp C
    unfold agB
    split
    · rename_i q
      right
      exact ⟨by omega, by omega, q.1⟩
    · rcases this with e | e
      · exact Or.inl e
      · right; exact ⟨e.1, by omega, e.2.2⟩
theorem s_toldOf (hn : 144 ≤ ζ.2.2.2.2) {S : HI} (ok : TDok (td S)) (w : tX S h) (hc : 0 ≤ c ∧ c < 60) (hx : rg x) (hq : Q (if tN S c = 0 then -1 else if x = 3 then tS S c else if x = 1 then tH S c else tP S c) h) : RtI l (D + 2) mX8_toldOf (zz ζ) [aP 40, aI c, aI x] h Q := by
  have q := w c hc.1 hc.2
  have b := tv_bd ok c
  refine e_X8_toldOf hn (s_has hn hc (by rw [q.1]; constructor <;> omega) ?_)
  rw [q.1]
  by_cases z : tN S c ≤ 0
  · rw [if_pos z]
    rw [if_pos (by omega)] at hq
    exact ⟨by decide, iteN (by decide) hq⟩
  · rw [if_neg z]
    rw [if_neg (by omega)] at hq
    refine ⟨by decide, iteP (by decide) ⟨hx, iteI (fun y => iteI (fun y2 => ⟨hc, ?_⟩) (fun y2 => ⟨hc, ?_⟩)) (fun y => ⟨hc, ?_⟩)⟩⟩
    · rw [if_neg y, if_neg y2, ← q.2.2.1] at hq; exact hq
    · rw [if_neg y, if_pos (by omega), ← q.2.1] at hq; exact hq
    · rw [if_pos (by omega), ← (q.2.2.2 (by omega)).1] at hq; exact hq
theorem op_again (i : Inv ζ h) : Op l (D + 60) ζ mX11_again mX12_again [] h := by
  have hn := ζok_n i.1.1
  refine e_X11_again hn (i_refresh i (fun g f ig z ts w => ?_))
  have sr : SR (stk 3 h) (h 99) (h 101) := i.1.2 2
  have ok := sr.2.2.1.2.1
  have a2 : h 99 11 = h 3 3 ∧ 0 ≤ h 3 3 ∧ h 3 3 ≤ 60 := ⟨sr.2.1.1.2.2, sr.2.1.1.1, sr.2.1.1.2.1⟩
  obtain ⟨C, hC⟩ : ∃ C : Nat, h 3 3 = C := ⟨(h 3 3).toNat, by omega⟩
  rw [f.at 3 3 rfl, hC]
  have xs : ∀ {R : Int → HI → Prop}, R (agB (tN (stk 3 h)) (tS (stk 3 h)) C) g → RtI l (D + 59) mX8_mostSpread (zz ζ) [aP 40, aI C] g R := by
    intro R hR
    refine e_X8_mostSpread hn ?_
    have main : ∀ (m c : Nat) (x3 : Int), c + m = C → x3 = (if agB (tN (stk 3 h)) (tS (stk 3 h)) c = -1 then -1 else tS (stk 3 h) (agB (tN (stk 3 h)) (tS (stk 3 h)) c)) → G l (D + 59) 0 0 mX8_mostSpread (zz ζ) 7 [aP 40, aI C, aI (agB (tN (stk 3 h)) (tS (stk 3 h)) c), aI x3, aI c] [] g (qI (zz ζ) R) := by
      intro m
      induction m with
      | zero =>
        intro c x3 hc e
        refine b_X8_mostSpread_7 hn ⟨by constructor <;> omega, by constructor <;> omega, iteP (by omega) ?_⟩
        rw [show c = C by omega]; exact hR
      | succ m ih =>
        intro c x3 hc e
        have q := w c (by omega) (by omega)
        have b := tv_bd ok c
        have sb := tS_bd ok c
        have sb2 := tS_bd ok (agB (tN (stk 3 h)) (tS (stk 3 h)) c)
        have ab := agB_bd (tN (stk 3 h)) (tS (stk 3 h)) c
        have ec : ((c + 1 : Nat) : Int) = (c : Int) + 1 := by omega
        have skip : ¬ (1 < tN (stk 3 h) c ∧ (agB (tN (stk 3 h)) (tS (stk 3 h)) c < 0 ∨ tS (stk 3 h) (agB (tN (stk 3 h)) (tS (stk 3 h)) c) < tS (stk 3 h) c)) → G l (D + 59) 0 0 mX8_mostSpread (zz ζ) 7 [aP 40, aI C, aI (agB (tN (stk 3 h)) (tS (stk 3 h)) c), aI x3, aI ((c : Int) + 1)] [] g (qI (zz ζ) R) := by
          intro no
          have k := ih (c + 1) x3 (by omega)
          have e1 : agB (tN (stk 3 h)) (tS (stk 3 h)) (c + 1) = agB (tN (stk 3 h)) (tS (stk 3 h)) c := if_neg no
          rw [e1, ec] at k
          exact k e
        refine b_X8_mostSpread_7 hn ⟨by constructor <;> omega, by constructor <;> omega, iteN (by omega) ⟨⟨by omega, by omega⟩, ?_⟩⟩
        rw [q.1]
        refine ⟨by constructor <;> omega, iteI (fun y => skip (fun u => by omega)) (fun y => s_toldOf hn ok w ⟨by omega, by omega⟩ (by decide) ?_)⟩
        rw [if_neg (by omega), if_pos rfl]
        have xr : -1 ≤ x3 ∧ x3 ≤ 14000 := by rw [e]; split <;> omega
        refine ⟨by constructor <;> omega, by constructor <;> omega, iteI (fun y2 => skip (fun u => ?_)) (fun y2 => s_toldOf hn ok w ⟨by omega, by omega⟩ (by decide) ?_)⟩
        · rw [e] at y2
          rcases ab with v | v
          · rw [if_pos v] at y2; omega
          · rw [if_neg (by omega)] at y2; omega
        · rw [if_neg (by omega), if_pos rfl]
          have e1 : agB (tN (stk 3 h)) (tS (stk 3 h)) (c + 1) = c := if_pos ⟨by omega, by
            rw [e] at y2
            rcases ab with v | v
            · left; omega
            · right; rw [if_neg (by omega)] at y2; omega⟩
          have k := ih (c + 1) (tS (stk 3 h) c) (by omega) (by rw [e1, if_neg (by omega)])
          rw [e1, ec] at k
          exact k
    have m0 := main C 0 (-1) (by omega) rfl
    exact m0
  refine xs ⟨f.c _ rfl, f.c _ rfl, e_X12_again hn (i_settle i (by rw [hu_c _ _ _ (by decide), f.c 99 rfl]) (fun k fm tsm wm => ?_))⟩
  have F : FL (LQ ++ (97, 0) :: LM) h k := ((f.mono rfl).u rfl).trans (fm.mono rfl)
  have k11 : k 99 11 = C := by rw [F.c 99 rfl, a2.1, hC]
  have main : ∀ (m c : Nat), c + m = C → G l (D + 60) 0 0 mX12_again (zz ζ) 13 [aP 97, aI (agB (tN (stk 3 h)) (tS (stk 3 h)) c), aI c] [] k (qI (zz ζ) (fun r2 h2 => rg (agB (tN (stk 3 h)) (tS (stk 3 h)) C) ∧ rg r2 ∧ agB (tN (stk 3 h)) (tS (stk 3 h)) C = r2 ∧ h2 1000003 = h 1000003 ∧ h2 1000004 = h 1000004 ∧ Inv ζ h2)) := by
    intro m
    induction m with
    | zero =>
      intro c hc
      refine b_X12_again_13 hn ⟨by constructor <;> omega, by rw [k11]; constructor <;> omega, iteP (by rw [k11]; omega) ?_⟩
      rw [show c = C by omega]
      have ab := agB_bd (tN (stk 3 h)) (tS (stk 3 h)) C
      have FG : FL ((97, 0) :: LM) g k := (FL.refl.u rfl).trans (fm.mono rfl)
      have := op_fin (r1 := agB (tN (stk 3 h)) (tS (stk 3 h)) C) ig rfl (by constructor <;> omega) FG rfl
      rw [f.c 1000003 rfl, f.c 1000004 rfl] at this
      exact this
    | succ m ih =>
      intro c hc
      have q := wm c (by omega) (by show (c : Int) < h 3 3; omega)
      have b := tv_bd ok c
      have sb := tS_bd ok c
      have ab := agB_bd (tN (stk 3 h)) (tS (stk 3 h)) c
      have ec : ((c + 1 : Nat) : Int) = (c : Int) + 1 := by omega
      have kk := ih (c + 1) (by omega)
      rw [ec, show agB (tN (stk 3 h)) (tS (stk 3 h)) (c + 1) = (if 1 < tN (stk 3 h) c ∧ (agB (tN (stk 3 h)) (tS (stk 3 h)) c < 0 ∨ tS (stk 3 h) (agB (tN (stk 3 h)) (tS (stk 3 h)) c) < tS (stk 3 h) c) then (c : Int) else agB (tN (stk 3 h)) (tS (stk 3 h)) c) from rfl] at kk
      refine b_X12_again_13 hn ⟨by constructor <;> omega, by rw [k11]; constructor <;> omega, iteN (by rw [k11]; omega) ⟨⟨by omega, by omega⟩, ?_⟩⟩
      rw [q.1]
      refine ⟨by constructor <;> omega, iteI (fun y => ?_) (fun y => ⟨by constructor <;> omega, iteI (fun y2 => ?_) (fun y2 => ?_)⟩)⟩
      · rw [if_neg (fun u => by omega)] at kk; exact kk
      · rw [if_pos ⟨by omega, Or.inl y2⟩] at kk; exact kk
      · have qa := wm (agB (tN (stk 3 h)) (tS (stk 3 h)) c) (by omega) (by show _ < h 3 3; omega)
        have sba := tS_bd ok (agB (tN (stk 3 h)) (tS (stk 3 h)) c)
        have ba := tv_bd ok (agB (tN (stk 3 h)) (tS (stk 3 h)) c)
        rw [q.2.2.2, qa.2.2.2, if_neg (by omega), if_neg (by omega)]
        refine ⟨⟨by omega, by omega⟩, by constructor <;> omega, by constructor <;> omega, iteI (fun y3 => ?_) (fun y3 => ?_)⟩
        · rw [if_neg (fun u => by omega)] at kk; exact kk
        · rw [if_pos ⟨by omega, Or.inr (by omega)⟩] at kk; exact kk
  exact main C 0 (by omega)
end OP8
