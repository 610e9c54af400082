/-! RULE: the reference's pile against the descent -/
def ERr (g0 : HI) (Q : Int → HI → Prop) (e : EE) : Prop := ∀ g, FL LUe g0 g → g 97 14 = e.1 → g 97 15 = e.2 → Q 0 g
def KA (l : Launch) (D : Nat) (ζ : ZP) (b : Int → Int) (n : Nat) (xn : Nat → List Int) (nx : Nat) (g0 : HI) (Q : Int → HI → Prop) (pc : Nat) (P : List Int) (s : RS) : Prop := ∀ g, FL LU g0 g → RM b n xn nx P s g → G l (D + 5) 0 0 mX12_cond (zz ζ) pc [aP 97, aU] [] g (qI (zz ζ) Q)
def Qo (l : Launch) (D : Nat) (ζ : ZP) (Q : Int → HI → Prop) : Int → HI → Prop := fun r1 h1 => (rg r1) ∧ (if ¬ r1 = 0 then G l (D + 5) 0 0 mX12_cond (zz ζ) 9 [aP 97, aU] [] h1 (qI (zz ζ) Q) else Q 0 h1)
def KO (l : Launch) (D : Nat) (ζ : ZP) (b : Int → Int) (n : Nat) (xn : Nat → List Int) (nx : Nat) (g0 : HI) (Q : Int → HI → Prop) (P : List Int) (s : RS) : Prop := ∀ g, FL LU g0 g → RM b n xn nx P s g → G l (D + 4) 0 0 mX12_one (zz ζ) 0 [aP 97, aU, aU] [] g (qI (zz ζ) (Qo l D ζ Q))
def cl (b : Int → Int) (n : Nat) (P : List Int) (s : RS) : List Int × RS := ((wdn 3 (wdn 1 P s).1.tail (wdn 1 P s).2).1, rGo (wdn 3 (wdn 1 P s).1.tail (wdn 1 P s).2).2 (tok b n 200 s.2.2.2).2.2.1)
def KB (l : Launch) (D : Nat) (ζ : ZP) (b : Int → Int) (n : Nat) (xn : Nat → List Int) (nx : Nat) (g0 : HI) (Q : Int → HI → Prop) (P : List Int) (s : RS) : Prop :=
  ((tok b n 200 s.2.2.2).1 = 41 → (10 : Int) ∈ P → KA l D ζ b n xn nx g0 Q 9 (cl b n P s).1 (cl b n P s).2) ∧
  (hWord (tok b n 200 s.2.2.2) = 11 → KA l D ζ b n xn nx g0 Q 0 (8 :: (wdn 2 P s).1) (rGo (wdn 2 P s).2 (tok b n 200 s.2.2.2).2.2.1)) ∧
  (hWord (tok b n 200 s.2.2.2) = 10 → KA l D ζ b n xn nx g0 Q 0 (9 :: (wdn 1 P s).1) (rGo (wdn 1 P s).2 (tok b n 200 s.2.2.2).2.2.1)) ∧
  (¬ ((tok b n 200 s.2.2.2).1 = 41 ∧ (10 : Int) ∈ P) → hWord (tok b n 200 s.2.2.2) ≠ 11 → hWord (tok b n 200 s.2.2.2) ≠ 10 → ((10 : Int) ∈ P → ERr g0 Q (1, (tok b n 200 s.2.2.2).2.1)) ∧ ((10 : Int) ∉ P → (tok b n 200 s.2.2.2).1 ≠ 0 → ERr g0 Q (1, (tok b n 200 s.2.2.2).2.1)) ∧ ((10 : Int) ∉ P → (tok b n 200 s.2.2.2).1 = 0 → ∀ g, FL LU g0 g → RM b n xn nx (wdn 1 P s).1 (wdn 1 P s).2 g → Q 1 g))
section RU7
variable {l : Launch} {D : Nat} {ζ : ZP} {h : HI} {Q : Int → HI → Prop} {b : Int → Int} {n nx : Nat} {xn : Nat → List Int} {s : RS} {P : List Int} {g0 : HI}
theorem wdn_p {k : Int} : ∀ {P : List Int} {s : RS}, (wdn k P s).2.2.2 = s.2.2 ∧ (wdn k P s).2.1 + (wdn k P s).1.length = s.1 + P.length ∧ (wdn k P s).1.length ≤ P.length
  | [], s => ⟨rfl, rfl, Nat.le_refl _⟩
  | x :: t, s => by
    rw [wdn]
    have l1 : (x :: t).length = t.length + 1 := rfl
    by_cases c : x ≠ 10 ∧ k ≤ bnds x
    · rw [if_pos c]
      have ih := wdn_p (k := k) (P := t) (s := rAdd s x 0 0)
      have e1 : (rAdd s x 0 0).2.2 = s.2.2 := rfl
      have e2 : (rAdd s x 0 0).1 = s.1 + 1 := rfl
      rw [e1, e2] at ih
      exact ⟨ih.1, by omega, by omega⟩
    · rw [if_neg c]; exact ⟨rfl, rfl, Nat.le_refl _⟩
theorem bnds_1 (x : Int) : 1 ≤ bnds x := by unfold bnds; repeat' split; all_goals omega
theorem wdn_open : ∀ {P : List Int} {s : RS}, (10 : Int) ∈ P → (wdn 1 P s).1 = 10 :: (wdn 1 P s).1.tail
  | [], _, h => by cases h
  | x :: t, s, h => by
    rw [wdn]
    by_cases c : x = 10
    · rw [if_neg (fun z => z.1 c), c]; rfl
    · rw [if_pos ⟨c, bnds_1 x⟩]
      rcases List.mem_cons.mp h with z | z
      · exact absurd z.symm c
      · exact wdn_open z
theorem wdn_go {k : Int} {q : Nat} : ∀ {P : List Int} {s : RS}, wdn k P (rGo s q) = ((wdn k P s).1, rGo (wdn k P s).2 q)
  | [], s => rfl
  | x :: t, s => by
    rw [wdn, wdn]
    by_cases c : x ≠ 10 ∧ k ≤ bnds x
    · rw [if_pos c, if_pos c]; exact wdn_go (P := t) (s := rAdd s x 0 0)
    · rw [if_neg c, if_neg c]
/-- behind an operand -/
theorem KA_of (hn : 144 ≤ ζ.2.2.2.2) (n540 : n ≤ 540) (hp : s.2.2.2 ≤ n) (p29 : P.length ≤ 29) (l64 : s.1 + P.length ≤ 64) (kb : KB l D ζ b n xn nx g0 Q P s) : KA l D ζ b n xn nx g0 Q 9 P s := by
  intro g f hx
  obtain ⟨k1, k2, k3, k4⟩ := kb
  have tk := tok_ok (b := b) (m := 200) n540 (by omega) hp
  have tx := hx.2.2.2
  have tp := hx.2.2.1.1
  -- where no bracket closes
  have c52 : ¬ ((tok b n 200 s.2.2.2).1 = 41 ∧ (10 : Int) ∈ P) → G l (D + 5) 0 0 mX12_cond (zz ζ) 52 [aP 97, aU] [] g (qI (zz ζ) Q) := by
    intro no
    have push : ∀ {k x1 x : Int}, rg k → (x1 = 0 ∧ x = 9 ∨ x1 = 1 ∧ x = 8) → KA l D ζ b n xn nx g0 Q 0 (x :: (wdn k P s).1) (rGo (wdn k P s).2 (tok b n 200 s.2.2.2).2.2.1) → G l (D + 5) 0 0 mX12_cond (zz ζ) 123 [aP 97, aI x1] [aI k, aP 97] g (qI (zz ζ) Q) := by
      intro k x1 x rk' hx1 ka
      have wp := wdn_p (k := k) (P := P) (s := s)
      refine b_X12_cond_123 hn (mr_Down (D := D + 2) hn rk' hx (by omega) l64 (fun g1 f1 y1 => ?_))
      have e34 := y1.2.1.1
      have t1 : TM (tok b n 200 s.2.2.2) g1 := by have := y1.2.2.2; rw [wp.1] at this; exact this
      have pu : ∀ v, v = 8 ∨ v = 9 → (v = x) → RtV l (D + 4) mX12_next (zz ζ) [aP 97] (hu (hu g1 112 (g1 97 34) v) 97 34 (g1 97 34 + 1)) (fun h2 => G l (D + 5) 0 0 mX12_cond (zz ζ) 0 [aP 97, aU] [] h2 (qI (zz ζ) Q)) := by
        intro v hv ev
        rw [e34]
        have y2 := RM_push y1 (x := v) (by omega)
        have F2 : FL LU g1 (hu (hu g1 112 (wdn k P s).1.length v) 97 34 ((wdn k P s).1.length + 1)) := (FL.refl.ua (by decide)).u (by decide)
        have t2 : TM (tok b n 200 s.2.2.2) (hu (hu g1 112 (wdn k P s).1.length v) 97 34 ((wdn k P s).1.length + 1)) := by have := y2.2.2.2; rw [wp.1] at this; exact this
        refine s_next (D := D + 2) hn n540 (by omega) tk.2.1.2 y2.2.2.1.1 t2.2.2.1 (fun g3 f3 t3 => ?_)
        rw [ev] at y2 f3 F2
        exact ka g3 (f.trans (f1.trans (F2.trans (f3.mono (by decide))))) (RM_go y2 f3 (by decide) t3)
      have bd : 0 ≤ g1 97 34 ∧ g1 97 34 < 30 := by rw [e34]; omega
      rcases hx1 with ⟨z1, z2⟩ | ⟨z1, z2⟩
      · subst z1 z2
        exact ⟨by decide, iteP rfl ⟨bd, pu 9 (Or.inr rfl) rfl⟩⟩
      · subst z1 z2
        exact ⟨by decide, iteN (by decide) ⟨bd, pu 8 (Or.inl rfl) rfl⟩⟩
    refine b_X12_cond_52 hn (mg_isWord (k := 11) hn n540 (by omega) hp tx (by decide) rfl (fun c => ⟨by decide, iteP (by decide) (iteN (by decide) (push (by decide) (Or.inr ⟨rfl, rfl⟩) (k2 c)))⟩) (fun n11 => ⟨by decide, iteN (by decide) ?_⟩))
    refine mg_isWord (k := 10) hn n540 (by omega) hp tx (by decide) rfl (fun c => ⟨by decide, iteP (by decide) (iteP rfl (push (by decide) (Or.inl ⟨rfl, rfl⟩) (k3 c)))⟩) (fun n10 => ⟨by decide, iteN (by decide) ?_⟩)
    obtain ⟨m1, m2, m3⟩ := k4 no n11 n10
    refine mr_isOpen (P := P) hn hx (by omega) (fun yes => ⟨by decide, iteN (by decide) ?_⟩) (fun nope => ⟨by decide, iteP rfl ?_⟩)
    · exact mg_bad hn tx (fun g' f' a1 a2 => ⟨Or.inl rfl, m1 yes g' ((f.mono (by decide)).trans (f'.mono (by decide))) a1 a2⟩)
    · have wp := wdn_p (k := 1) (P := P) (s := s)
      refine mr_Down (D := D + 2) hn (by decide) hx (by omega) l64 (fun g1 f1 y1 => ?_)
      have t1 : TM (tok b n 200 s.2.2.2) g1 := by have := y1.2.2.2; rw [wp.1] at this; exact this
      refine ⟨by rw [t1.1]; exact mkK_rg _, ?_⟩
      rw [t1.1]
      by_cases c0 : (tok b n 200 s.2.2.2).1 = 0
      · exact iteP ((mkK_0 tk.1).mpr c0) (m3 nope c0 g1 (f.trans f1) y1)
      · exact iteN (fun z => c0 ((mkK_0 tk.1).mp z)) (mg_bad hn t1 (fun g' f' a1 a2 => ⟨by decide, iteP rfl (m2 nope c0 g' (((f.trans f1).mono (by decide)).trans (f'.mono (by decide))) a1 a2)⟩))
  refine b_X12_cond_9 hn (mg_sign hn n540 (by omega) hp tx (by decide) ?_)
  by_cases c41 : (tok b n 200 s.2.2.2).1 = 41
  · rw [if_pos c41]
    refine ⟨by decide, iteN (by decide) (mr_isOpen (P := P) hn hx (by omega) (fun yes => ⟨by decide, iteN (by decide) ?_⟩) (fun nope => ⟨by decide, iteP rfl (c52 (fun z => nope z.2))⟩))⟩
    have ka := k1 c41 yes
    have wo := wdn_open (s := s) yes
    have wp := wdn_p (k := 1) (P := P) (s := s)
    refine mr_Down (D := D + 2) hn (by decide) hx (by omega) l64 (fun g1 f1 y1 => ?_)
    unfold cl at ka
    generalize (wdn 1 P s).1.tail = Q2 at wo ka
    rw [wo] at y1 wp
    have l1 : (10 :: Q2).length = Q2.length + 1 := rfl
    have e34 : g1 97 34 - 1 = Q2.length := by rw [y1.2.1.1, l1]; omega
    rw [e34]
    have wp3 := wdn_p (k := 3) (P := Q2) (s := (wdn 1 P s).2)
    have F2 : FL LU g1 (hu g1 97 34 Q2.length) := FL.refl.u (by decide)
    refine mr_Down (D := D + 2) hn (by decide) (RM_pop y1) (by omega) (by omega) (fun g3 f3 y3 => ?_)
    have t3 : TM (tok b n 200 s.2.2.2) g3 := by have := y3.2.2.2; rw [wp3.1, wp.1] at this; exact this
    refine s_next (D := D + 2) hn n540 (by omega) tk.2.1.2 y3.2.2.1.1 t3.2.2.1 (fun g4 f4 t4 => ?_)
    exact ka g4 (f.trans (f1.trans (F2.trans (f3.trans (f4.mono (by decide)))))) (RM_go y3 f4 (by decide) t4)
  · rw [if_neg c41]
    exact ⟨by decide, iteP rfl (c52 (fun z => c41 z.1))⟩
theorem KB_and (kb : KB l D ζ b n xn nx g0 Q P (rAdd s 8 0 0)) : KB l D ζ b n xn nx g0 Q (8 :: P) s := by
  have e1 : wdn 1 (8 :: P) s = wdn 1 P (rAdd s 8 0 0) := if_pos ⟨by decide, by decide⟩
  have e2 : wdn 2 (8 :: P) s = wdn 2 P (rAdd s 8 0 0) := if_pos ⟨by decide, by decide⟩
  have m : (10 : Int) ∈ 8 :: P ↔ (10 : Int) ∈ P := by simp
  unfold KB cl at kb ⊢
  rw [e1, e2, m]
  exact kb
theorem KB_or (kb : KB l D ζ b n xn nx g0 Q P (rAdd s 9 0 0)) (no : hWord (tok b n 200 s.2.2.2) ≠ 11) : KB l D ζ b n xn nx g0 Q (9 :: P) s := by
  have e1 : wdn 1 (9 :: P) s = wdn 1 P (rAdd s 9 0 0) := if_pos ⟨by decide, by decide⟩
  have m : (10 : Int) ∈ 9 :: P ↔ (10 : Int) ∈ P := by simp
  obtain ⟨k1, k2, k3, k4⟩ := kb
  unfold cl at k1
  refine ⟨?_, fun c => absurd c no, ?_, ?_⟩
  · unfold cl; rw [e1, m]; exact k1
  · rw [e1]; exact k3
  · rw [e1, m]; exact k4
end RU7
