/-! WELDS: the class reads, the other draft -/
theorem b83_readFrom_21 {l : Launch} {D : Nat} {ζ : ZP} {h : HI} {Q : Int → HI → Prop} {x2 : Int} (hn : 144 ≤ ζ.2.2.2.2) (w : (rg x2) ∧ (if x2 ≤ 0 then (Q 1 h) else ((rg (h 1 4)) ∧ (if (h 1 4) = 0 then (Q 1 h) else (RtI l D mX10_readStrip (zz ζ) [aP 83, aP 1] h (fun r1 h1 => (rg r1) ∧ (if ¬ r1 = 0 then (G l (D + 1) 0 0 mX10_readFrom (zz ζ) 21 [aP 83, aP 1, aI (x2 + (-1))] [] (hu h1 83 0 ((h1 83 0) + 1)) (qI (zz ζ) Q)) else (Q 0 h1)))))))) : G l (D + 1) 0 0 mX10_readFrom (zz ζ) 21 [aP 83, aP 1, aI x2] [] h (qI (zz ζ) Q) := b_X10_readFrom_21 (wc := 83) hn (Or.inr rfl) w
theorem e83_readFrom {l : Launch} {D : Nat} {ζ : ZP} {h : HI} {Q : Int → HI → Prop} (hn : 144 ≤ ζ.2.2.2.2) (w : RtV l D mX7_begin (zz ζ) [aP 1, aI 400] (hu (hu h 83 0 0) 83 4 0) (fun h1 => G l (D + 1) 0 0 mX10_readFrom (zz ζ) 21 [aP 83, aP 1, aI 540] [] h1 (qI (zz ζ) Q))) : RtI l (D + 1) mX10_readFrom (zz ζ) [aP 83, aP 1] h Q := e_X10_readFrom (wc := 83) hn (Or.inr rfl) w
theorem e83_readStrip {l : Launch} {D : Nat} {ζ : ZP} {h : HI} {Q : Int → HI → Prop} (hn : 144 ≤ ζ.2.2.2.2) (w : (rg (h 1 7)) ∧ (if (h 1 7) = 20 then ((rg (h 83 0)) ∧ (if (h 83 0) < 12 then (RtV l D mX7_step (zz ζ) [aP 1] h (fun h1 => RtI l D mX7_isName (zz ζ) [aP 1] h1 (fun r2 h2 => (rg r2) ∧ (if ¬ r2 = 0 then (RtI l D mX10_named (zz ζ) [aP 83, aI (h2 1 6)] h2 (fun r3 h3 => (rg r3) ∧ (if r3 = (-1) then ((0 ≤ (h3 83 0) ∧ (h3 83 0) < 12) ∧ RtV l D mX7_step (zz ζ) [aP 1] (hu h3 90 (h3 83 0) (h3 1 6)) (fun h4 => RtI l D mX10_readEnds (zz ζ) [aP 83, aP 1] h4 (fun r5 h5 => (rg r5) ∧ (if r5 = 0 then (Q 0 h5) else (RtI l D mX10_readAfters (zz ζ) [aP 83, aP 1] h5 (fun r6 h6 => (rg r6) ∧ (if r6 = 0 then (Q 0 h6) else (RtI l D mX10_readNears (zz ζ) [aP 83, aP 1] h6 (fun r7 h7 => (rg r7) ∧ (if r7 = 0 then (Q 0 h7) else (RtI l D mX7_takeSign (zz ζ) [aP 1, aI 59] h7 (fun r8 h8 => (rg r8) ∧ (if r8 = 0 then (Q 0 h8) else (Q 1 h8)))))))))))))) else (RtI l D mX7_refuse (zz ζ) [aP 1, aI 3] h3 (fun r9 h9 => (r9 = 0 ∨ r9 = 1) ∧ Q r9 h9))))) else (RtI l D mX7_refuse (zz ζ) [aP 1, aI 1] h2 (fun r10 h10 => (r10 = 0 ∨ r10 = 1) ∧ Q r10 h10)))))) else (RtI l D mX7_refuse (zz ζ) [aP 1, aI 4] h (fun r11 h11 => (r11 = 0 ∨ r11 = 1) ∧ Q r11 h11)))) else (RtI l D mX7_refuse (zz ζ) [aP 1, aI 1] h (fun r12 h12 => (r12 = 0 ∨ r12 = 1) ∧ Q r12 h12)))) : RtI l (D + 1) mX10_readStrip (zz ζ) [aP 83, aP 1] h Q := e_X10_readStrip (wc := 83) hn (Or.inr rfl) w
theorem b83_named_2 {l : Launch} {D : Nat} {ζ : ZP} {h : HI} {Q : Int → HI → Prop} {x1 x2 : Int} (hn : 144 ≤ ζ.2.2.2.2) (w : (rg x2) ∧ (rg (h 83 0)) ∧ (if (h 83 0) ≤ x2 then (Q (-1) h) else ((0 ≤ x2 ∧ x2 < 12) ∧ (rg (h 90 x2)) ∧ (rg x1) ∧ (if ¬ (h 90 x2) = x1 then (G l (D + 1) 0 0 mX10_named (zz ζ) 2 [aP 83, aI x1, aI (x2 + 1)] [] h (qI (zz ζ) Q)) else (Q x2 h))))) : G l (D + 1) 0 0 mX10_named (zz ζ) 2 [aP 83, aI x1, aI x2] [] h (qI (zz ζ) Q) := b_X10_named_2 (wc := 83) hn (Or.inr rfl) w
theorem e83_named {l : Launch} {D : Nat} {ζ : ZP} {h : HI} {Q : Int → HI → Prop} {x1 : Int} (hn : 144 ≤ ζ.2.2.2.2) (w : G l (D + 1) 0 0 mX10_named (zz ζ) 2 [aP 83, aI x1, aI 0] [] h (qI (zz ζ) Q)) : RtI l (D + 1) mX10_named (zz ζ) [aP 83, aI x1] h Q := e_X10_named (wc := 83) hn (Or.inr rfl) w
theorem e83_readNode {l : Launch} {D : Nat} {ζ : ZP} {h : HI} {Q : Int → HI → Prop} (hn : 144 ≤ ζ.2.2.2.2) (w : RtI l D mX7_isNumber (zz ζ) [aP 1, aI 0, aI 59] h (fun r1 h1 => (rg r1) ∧ (if ¬ r1 = 0 then (RtV l D mX7_step (zz ζ) [aP 1] (hu h1 83 9 (2 * (h1 1 6))) (fun h2 => (rg (h2 1 4)) ∧ (if (h2 1 4) = 43 then (if ¬ (h2 1 4) = 43 then (RtV l D mX7_step (zz ζ) [aP 1] (hu h2 83 9 ((h2 83 9) + 0)) (fun h3 => Q 1 h3)) else (RtV l D mX7_step (zz ζ) [aP 1] (hu h2 83 9 ((h2 83 9) + 1)) (fun h4 => Q 1 h4))) else (if (h2 1 4) = 45 then (if ¬ (h2 1 4) = 43 then (RtV l D mX7_step (zz ζ) [aP 1] (hu h2 83 9 ((h2 83 9) + 0)) (fun h5 => Q 1 h5)) else (RtV l D mX7_step (zz ζ) [aP 1] (hu h2 83 9 ((h2 83 9) + 1)) (fun h6 => Q 1 h6))) else (RtI l D mX7_refuse (zz ζ) [aP 1, aI 1] h2 (fun r7 h7 => (r7 = 0 ∨ r7 = 1) ∧ Q r7 h7)))))) else (Q 0 h1)))) : RtI l (D + 1) mX10_readNode (zz ζ) [aP 83, aP 1] h Q := e_X10_readNode (wc := 83) hn (Or.inr rfl) w
theorem e83_readEnds {l : Launch} {D : Nat} {ζ : ZP} {h : HI} {Q : Int → HI → Prop} (hn : 144 ≤ ζ.2.2.2.2) (w : RtI l D mX10_readNode (zz ζ) [aP 83, aP 1] h (fun r1 h1 => (rg r1) ∧ (if ¬ r1 = 0 then ((0 ≤ (h1 83 0) ∧ (h1 83 0) < 12) ∧ RtI l D mX10_readNode (zz ζ) [aP 83, aP 1] (hu h1 84 (h1 83 0) (h1 83 9)) (fun r2 h2 => (rg r2) ∧ (if ¬ r2 = 0 then ((0 ≤ (h2 83 0) ∧ (h2 83 0) < 12) ∧ Q 1 (hu h2 85 (h2 83 0) (h2 83 9))) else (Q 0 h2)))) else (Q 0 h1)))) : RtI l (D + 1) mX10_readEnds (zz ζ) [aP 83, aP 1] h Q := e_X10_readEnds (wc := 83) hn (Or.inr rfl) w
theorem b83_readAfters_14 {l : Launch} {D : Nat} {ζ : ZP} {h : HI} {Q : Int → HI → Prop} {x2 : Int} (hn : 144 ≤ ζ.2.2.2.2) (w : (rg x2) ∧ (if x2 ≤ 0 then (Q 1 h) else ((rg (h 1 7)) ∧ (if ¬ (h 1 7) = 21 then (Q 1 h) else (RtV l D mX7_step (zz ζ) [aP 1] h (fun h1 => RtI l D mX7_isName (zz ζ) [aP 1] h1 (fun r2 h2 => (rg r2) ∧ (if ¬ r2 = 0 then (RtI l D mX10_named (zz ζ) [aP 83, aI (h2 1 6)] h2 (fun r3 h3 => (rg r3) ∧ (if ¬ r3 = (-1) then ((0 ≤ (h3 83 0) ∧ (h3 83 0) < 12) ∧ RtV l D mX7_step (zz ζ) [aP 1] (hu h3 86 (h3 83 0) (bor (h3 86 (h3 83 0)) (bshl 1 r3))) (fun h4 => G l (D + 1) 0 0 mX10_readAfters (zz ζ) 14 [aP 83, aP 1, aI (x2 + (-1)), aU] [] h4 (qI (zz ζ) Q))) else (RtI l D mX7_refuse (zz ζ) [aP 1, aI 3] h3 (fun r5 h5 => (r5 = 0 ∨ r5 = 1) ∧ Q r5 h5))))) else (RtI l D mX7_refuse (zz ζ) [aP 1, aI 1] h2 (fun r6 h6 => (r6 = 0 ∨ r6 = 1) ∧ Q r6 h6)))))))))) : G l (D + 1) 0 0 mX10_readAfters (zz ζ) 14 [aP 83, aP 1, aI x2, aU] [] h (qI (zz ζ) Q) := b_X10_readAfters_14 (wc := 83) hn (Or.inr rfl) w
theorem e83_readAfters {l : Launch} {D : Nat} {ζ : ZP} {h : HI} {Q : Int → HI → Prop} (hn : 144 ≤ ζ.2.2.2.2) (w : (0 ≤ (h 83 0) ∧ (h 83 0) < 12) ∧ G l (D + 1) 0 0 mX10_readAfters (zz ζ) 14 [aP 83, aP 1, aI 540, aU] [] (hu h 86 (h 83 0) 0) (qI (zz ζ) Q)) : RtI l (D + 1) mX10_readAfters (zz ζ) [aP 83, aP 1] h Q := e_X10_readAfters (wc := 83) hn (Or.inr rfl) w
theorem b83_readNears_8 {l : Launch} {D : Nat} {ζ : ZP} {h : HI} {Q : Int → HI → Prop} {x2 : Int} (hn : 144 ≤ ζ.2.2.2.2) (w : (rg x2) ∧ (if x2 ≤ 0 then (Q 1 h) else ((rg (h 1 7)) ∧ (if ¬ (h 1 7) = 22 then (Q 1 h) else (RtV l D mX7_step (zz ζ) [aP 1] h (fun h1 => RtI l D mX10_readNode (zz ζ) [aP 83, aP 1] h1 (fun r2 h2 => (rg r2) ∧ (if ¬ r2 = 0 then ((0 ≤ (h2 83 4) ∧ (h2 83 4) < 64) ∧ RtI l D mX10_readNode (zz ζ) [aP 83, aP 1] (hu h2 88 (h2 83 4) (h2 83 9)) (fun r3 h3 => (rg r3) ∧ (if ¬ r3 = 0 then ((0 ≤ (h3 83 4) ∧ (h3 83 4) < 64) ∧ (0 ≤ ((hu h3 89 (h3 83 4) (h3 83 9)) 83 4) ∧ ((hu h3 89 (h3 83 4) (h3 83 9)) 83 4) < 64) ∧ G l (D + 1) 0 0 mX10_readNears (zz ζ) 8 [aP 83, aP 1, aI (x2 + (-1))] [] (hu (hu (hu h3 89 (h3 83 4) (h3 83 9)) 87 ((hu h3 89 (h3 83 4) (h3 83 9)) 83 4) ((hu h3 89 (h3 83 4) (h3 83 9)) 83 0)) 83 4 (((hu (hu h3 89 (h3 83 4) (h3 83 9)) 87 ((hu h3 89 (h3 83 4) (h3 83 9)) 83 4) ((hu h3 89 (h3 83 4) (h3 83 9)) 83 0)) 83 4) + 1)) (qI (zz ζ) Q)) else (Q 0 h3)))) else (Q 0 h2))))))))) : G l (D + 1) 0 0 mX10_readNears (zz ζ) 8 [aP 83, aP 1, aI x2] [] h (qI (zz ζ) Q) := b_X10_readNears_8 (wc := 83) hn (Or.inr rfl) w
theorem e83_readNears {l : Launch} {D : Nat} {ζ : ZP} {h : HI} {Q : Int → HI → Prop} (hn : 144 ≤ ζ.2.2.2.2) (w : G l (D + 1) 0 0 mX10_readNears (zz ζ) 8 [aP 83, aP 1, aI (64 - (h 83 4))] [] h (qI (zz ζ) Q)) : RtI l (D + 1) mX10_readNears (zz ζ) [aP 83, aP 1] h Q := e_X10_readNears (wc := 83) hn (Or.inr rfl) w
def LE83 : List (Nat × Int) := LT ++ [(1, 8), (1, 9), (83, -1), (84, -1), (85, -1), (86, -1), (87, -1), (88, -1), (89, -1), (90, -1)]
def LS83 : List (Nat × Int) := LT ++ [(83, 9)]
def LA83 : List (Nat × Int) := LT ++ [(86, -1)]
def LN83 : List (Nat × Int) := LT ++ [(83, 9), (83, 4), (87, -1), (88, -1), (89, -1)]
def LR83 : List (Nat × Int) := LT ++ [(83, 9), (83, 4), (84, -1), (85, -1), (86, -1), (87, -1), (88, -1), (89, -1), (90, -1)]
def NX83 (S : NS) (g : HI) : Prop := g 83 4 = S.1 ∧ ∀ j : Nat, j < S.1 → g 87 j = S.2.1 j ∧ g 88 j = S.2.2.1 j ∧ g 89 j = S.2.2.2 j
def WX83 (K : Int) (b : Int → Int) (n : Nat) : WS → HI → Prop
  | (k, nm, A, B, F, S, p), g => g 83 0 = K ∧ (∀ j : Nat, j < k → g 90 j = er (nm j) ∧ g 84 j = A j ∧ g 85 j = B j ∧ g 86 j = F j) ∧ NX83 S g ∧ tpc b n 400 g ∧ TX (tok b n 400 p) g
section WE83
variable {l : Launch} {D : Nat} {ζ : ZP} {h : HI} {Q : Int → HI → Prop} {QV : HI → Prop} {b : Int → Int} {n k p : Nat} {nm : Nat → List Int} {A B F : Nat → Int} {S : NS}
theorem c83_node (zk : ζok ζ) (n540 : n ≤ 540) (hp : p ≤ n) (tp : tpc b n 400 h) (tx : TX (tok b n 400 p) h) (hq : CR (wNode b n p) LE83 LS83 h (fun r g => g 83 9 = r.1 ∧ TX (tok b n 400 r.2) g) Q) : RtI l (D + 8) mX10_readNode (zz ζ) [aP 83, aP 1] h Q := by
  have hn := ζok_n zk
  have tk := tok_ok (b := b) (m := 400) n540 (by omega) hp
  have tk1 := tok_ok (b := b) (m := 400) n540 (by omega) tk.2.1.2
  unfold wNode at hq
  refine e83_readNode hn (cg_number hn n540 (by omega) hp tx (by decide) (by decide) (fun c1 c2 e6 => ⟨by decide, iteP (by decide) ?_⟩) (fun c1 g f a1 a2 => ⟨by decide, iteN (by decide) ?_⟩) (fun c1 c2 g f a1 a2 => ⟨by decide, iteN (by decide) ?_⟩))
  · rw [if_pos c1, if_neg c2] at hq
    rw [e6]
    have F : FL [(83, 9)] h (hu h 83 9 (2 * (tok b n 400 p).2.2.2.1)) := FL.refl.u (by decide)
    refine s_step zk n540 (by omega) tk.2.1.2 (tp.fl F (by decide)) (by rw [F.c 1 (by decide)]; exact tx.2.2.1) (fun g f1 t1 => ?_)
    have e9 : g 83 9 = 2 * (tok b n 400 p).2.2.2.1 := by rw [f1.at 83 9 (by decide), hu_s]
    have tp1 := (tp.fl F (by decide)).fl f1 (by decide)
    have F1 : FL LS83 h g := (F.mono (by decide)).trans (f1.mono (by decide))
    refine ⟨cg_rg4 n540 (by omega) tk.2.1.2 t1, ?_⟩
    rw [t1.1, e9]
    have F2 : ∀ v, FL [(83, 9)] g (hu g 83 9 v) := fun v => FL.refl.u (by decide)
    by_cases c3 : (tok b n 400 (tok b n 400 p).2.2.1).1 = 43
    · rw [if_pos c3] at hq
      refine iteP c3 (iteN (fun z => z c3) ?_)
      refine s_step zk n540 (by omega) tk1.2.1.2 (tp1.fl (F2 _) (by decide)) (by rw [(F2 _).c 1 (by decide)]; exact t1.2.2.1) (fun g' f2 t2 => ?_)
      exact hq g' ((F1.trans ((F2 _).mono (by decide))).trans (f2.mono (by decide))) ⟨by rw [f2.at 83 9 (by decide), hu_s], t2⟩
    · rw [if_neg c3] at hq
      refine iteN c3 ?_
      by_cases c4 : (tok b n 400 (tok b n 400 p).2.2.1).1 = 45
      · rw [if_pos c4] at hq
        refine iteP c4 (iteP c3 ?_)
        refine s_step zk n540 (by omega) tk1.2.1.2 (tp1.fl (F2 _) (by decide)) (by rw [(F2 _).c 1 (by decide)]; exact t1.2.2.1) (fun g' f2 t2 => ?_)
        exact hq g' ((F1.trans ((F2 _).mono (by decide))).trans (f2.mono (by decide))) ⟨by rw [f2.at 83 9 (by decide), hu_s]; omega, t2⟩
      · rw [if_neg c4] at hq
        exact iteN c4 (cg_refuse hn t1 (fun g' f' a1 a2 => ⟨Or.inl rfl, hq g' ((F1.mono (by decide)).trans (f'.mono (by decide))) a1 a2⟩))
  · rw [if_neg c1] at hq
    exact hq g (f.mono (by decide)) a1 a2
  · rw [if_pos c1, if_pos c2] at hq
    exact hq g (f.mono (by decide)) a1 a2
theorem c83_named (hn : 144 ≤ ζ.2.2.2.2) {L : List Int} (oL : okW L) (e0 : h 83 0 = k) (k12 : k ≤ 12) (hb : ∀ j : Nat, j < k → h 90 j = er (nm j) ∧ okW (nm j)) (hq : Q (wFd nm L k 0) h) : RtI l (D + 1) mX10_named (zz ζ) [aP 83, aI (er L)] h Q := by
  have o2 := okW_er oL
  have LP : ∀ (f i : Nat), i + f = k → wFd nm L k 0 = wFd nm L f i → G l (D + 1) 0 0 mX10_named (zz ζ) 2 [aP 83, aI (er L), aI i] [] h (qI (zz ζ) Q) := by
    intro f
    induction f with
    | zero =>
      intro i ei ew'
      rw [ew'] at hq
      exact b83_named_2 hn ⟨by constructor <;> omega, by rw [e0]; constructor <;> omega, iteP (by rw [e0]; omega) hq⟩
    | succ f ih =>
      intro i ei ew'
      have b1 := hb i (by omega)
      have o1 := okW_er b1.2
      refine b83_named_2 hn ⟨by constructor <;> omega, by rw [e0]; constructor <;> omega, iteN (by rw [e0]; omega) ⟨by omega, by rw [b1.1]; constructor <;> omega, by constructor <;> omega, ?_⟩⟩
      rw [b1.1]
      rw [wFd] at ew'
      by_cases c : nm i = L
      · rw [if_pos c] at ew'
        rw [ew'] at hq
        exact iteN (fun z => z (by rw [c])) hq
      · rw [if_neg c] at ew'
        exact iteP (fun z => c (er_inj b1.2.2.2 oL.2.2 z)) (ih (i + 1) (by omega) ew')
  exact e83_named hn (LP k 0 (by omega) rfl)
theorem c83_afters (zk : ζok ζ) (n540 : n ≤ 540) (k12 : k < 12) : ∀ {f : Nat} {acc : Int} {p : Nat} {g : HI}, p ≤ n → n + 1 ≤ p + 2 * f → f ≤ 540 → tpc b n 400 g → TX (tok b n 400 p) g → g 83 0 = k → (∀ j : Nat, j < k → g 90 j = er (nm j) ∧ okW (nm j)) → g 86 k = acc → CR (wAfter b n k nm f acc p) LE83 LA83 g (fun r g' => g' 86 k = r.1 ∧ (∀ j : Nat, j ≠ k → g' 86 j = g 86 j) ∧ TX (tok b n 400 r.2) g') Q → G l (D + 8) 0 0 mX10_readAfters (zz ζ) 14 [aP 83, aP 1, aI f, aU] [] g (qI (zz ζ) Q)
  | 0, acc, p, g, hp, hf, _, _, _, _, _, _, _ => by omega
  | f + 1, acc, p, g, hp, hf, f540, tp, tx, e0, hb, ea, hq => by
    have hn := ζok_n zk
    have tk := tok_ok (b := b) (m := 400) n540 (by omega) hp
    have tk1 := tok_ok (b := b) (m := 400) n540 (by omega) tk.2.1.2
    have e7 := cg_word tx
    have bw := hWord_bd (tok b n 400 p)
    refine b83_readAfters_14 hn ⟨by constructor <;> omega, iteN (by omega) ⟨by rw [e7]; constructor <;> omega, ?_⟩⟩
    rw [e7]
    rw [wAfter] at hq
    by_cases c : hWord (tok b n 400 p) = 21
    · rw [if_pos c] at hq
      refine iteN (fun z => z c) (s_step zk n540 (by omega) tk.2.1.2 tp tx.2.2.1 (fun g1 f1 t1 => ?_))
      have tp1 := tp.fl f1 (by decide)
      have z0 : g1 83 = g 83 := f1.c 83 (by decide)
      have z3 : g1 86 = g 86 := f1.c 86 (by decide)
      have z7 : g1 90 = g 90 := f1.c 90 (by decide)
      refine cg_isName hn n540 (by omega) tk.2.1.2 t1 (fun c1 c2 => ⟨by decide, iteP (by decide) ?_⟩) (fun c1 => ⟨by decide, iteN (by decide) ?_⟩)
      · rw [if_pos ⟨c1, c2⟩] at hq
        rw [(t1.2.2.2.2.1 c1).1]
        have oL := tok_okW tk1.1 c1
        have fd := wFd_bd (nm := nm) (L := (tok b n 400 (tok b n 400 p).2.2.1).2.2.2.2) (f := k) (i := 0)
        refine c83_named hn oL (by rw [z0]; exact e0) (by omega) (by rw [z7]; exact hb) ⟨by constructor <;> omega, ?_⟩
        by_cases c3 : wFd nm (tok b n 400 (tok b n 400 p).2.2.1).2.2.2.2 k 0 < 0
        · rw [if_pos c3] at hq
          exact iteN (by omega) (cg_refuse hn t1 (fun g' f' a1 a2 => ⟨Or.inl rfl, hq g' ((f1.mono (by decide)).trans (f'.mono (by decide))) a1 a2⟩))
        · rw [if_neg c3] at hq
          refine iteP (by omega) ⟨by rw [z0, e0]; omega, ?_⟩
          rw [z0, e0, z3, ea]
          have F : ∀ v, FL [(86, -1)] g1 (hu g1 86 k v) := fun v => FL.refl.ua (by decide)
          refine s_step zk n540 (by omega) tk1.2.1.2 (tp1.fl (F _) (by decide)) (by rw [(F _).c 1 (by decide)]; exact t1.2.2.1) (fun g2 f2 t2 => ?_)
          rw [show ((f + 1 : Nat) : Int) + (-1) = (f : Int) by omega]
          have p1 := tk.2.2 (by have := (hWord_sort (t := tok b n 400 p) (by omega)).1; omega) (by have := (hWord_sort (t := tok b n 400 p) (by omega)).1; omega)
          have p2 := tk1.2.2 (by omega) (by omega)
          have FF : FL LA83 g g2 := ((f1.mono (by decide)).trans ((F _).mono (by decide))).trans (f2.mono (by decide))
          refine c83_afters zk n540 k12 tk1.2.1.2 (by omega) (by omega) ((tp1.fl (F _) (by decide)).fl f2 (by decide)) t2 ?_ ?_ ?_ (hq.tr ((f1.mono (by decide)).trans (((F _).mono (by decide)).trans (f2.mono (by decide)))) (fun g' f' => FF.trans f') (fun r g' f' x => ⟨x.1, fun j hj => ?_, x.2.2⟩))
          · rw [f2.c 83 (by decide), (F _).c 83 (by decide), z0]; exact e0
          · rw [f2.c 90 (by decide), (F _).c 90 (by decide), z7]; exact hb
          · rw [f2.c 86 (by decide), hu_s]
          · rw [x.2.1 j hj, f2.c 86 (by decide), hu_j _ _ _ (by omega), z3]
      · rw [if_neg c1] at hq
        exact cg_refuse hn t1 (fun g' f' a1 a2 => ⟨Or.inl rfl, hq g' ((f1.mono (by decide)).trans (f'.mono (by decide))) a1 a2⟩)
    · rw [if_neg c] at hq
      exact iteP c (hq g FL.refl ⟨ea, fun _ _ => rfl, tx⟩)
theorem c83_nears (zk : ζok ζ) (n540 : n ≤ 540) : ∀ {f : Nat} {S : NS} {p : Nat} {g : HI}, p ≤ n → NO (k + 1) S p → f + S.1 = 64 → tpc b n 400 g → TX (tok b n 400 p) g → g 83 0 = k → NX83 S g → CR (wNear b n k f S p) LE83 LN83 g (fun r g' => NX83 r.1 g' ∧ TX (tok b n 400 r.2) g') Q → G l (D + 9) 0 0 mX10_readNears (zz ζ) 8 [aP 83, aP 1, aI f] [] g (qI (zz ζ) Q)
  | 0, S, p, g, hp, no, hf, tp, tx, e0, nx, hq => by
    have hn := ζok_n zk
    exact b83_readNears_8 hn ⟨by decide, iteP (by decide) (hq g FL.refl ⟨nx, tx⟩)⟩
  | f + 1, S, p, g, hp, no, hf, tp, tx, e0, nx, hq => by
    have hn := ζok_n zk
    have tk := tok_ok (b := b) (m := 400) n540 (by omega) hp
    have e7 := cg_word tx
    have bw := hWord_bd (tok b n 400 p)
    refine b83_readNears_8 hn ⟨by constructor <;> omega, iteN (by omega) ⟨by rw [e7]; constructor <;> omega, ?_⟩⟩
    rw [e7]
    rw [wNear] at hq
    by_cases c : hWord (tok b n 400 p) = 22
    · rw [if_pos c] at hq
      have na := near_at n540 hp c
      have s8 := no.2.1
      refine iteN (fun z => z c) (s_step zk n540 (by omega) tk.2.1.2 tp tx.2.2.1 (fun g1 f1 t1 => ?_))
      have tp1 := tp.fl f1 (by decide)
      have n1 := wNode_ok (b := b) n540 tk.2.1.2
      refine c83_node zk n540 tk.2.1.2 tp1 t1 ?_
      cases er1 : wNode b n (tok b n 400 p).2.2.1 with
      | inl e =>
        rw [er1] at hq
        exact fun g' f' a1 a2 => ⟨by decide, iteN (by decide) (hq g' ((f1.mono (by decide)).trans f') a1 a2)⟩
      | inr r =>
        rw [er1] at hq n1
        have hq : CR (sbd (wNode b n r.2) (fun q => wNear b n k f (nAdd S k r.1 q.1) q.2)) LE83 LN83 g (fun r g' => NX83 r.1 g' ∧ TX (tok b n 400 r.2) g') Q := hq
        intro g2 f2 ⟨e9, t2⟩
        have G2 : FL LN83 g g2 := (f1.mono (by decide)).trans (f2.mono (by decide))
        have tp2 := tp1.fl f2 (by decide)
        have z4 : g2 83 4 = S.1 := by rw [f2.at 83 4 (by decide), f1.c 83 (by decide)]; exact nx.1
        refine ⟨by decide, iteP (by decide) ⟨by rw [z4]; omega, ?_⟩⟩
        rw [z4, e9]
        have F3 : FL [(88, -1)] g2 (hu g2 88 S.1 r.1) := FL.refl.ua (by decide)
        have n2 := wNode_ok (b := b) n540 n1.2.2
        refine c83_node zk n540 n1.2.2 (tp2.fl F3 (by decide)) (by unfold TX; rw [F3.c 1 (by decide)]; exact t2) ?_
        have G3 : FL LN83 g (hu g2 88 S.1 r.1) := G2.trans (F3.mono (by decide))
        cases er2 : wNode b n r.2 with
        | inl e =>
          rw [er2] at hq
          exact fun g' f' a1 a2 => ⟨by decide, iteN (by decide) (hq g' ((G3.mono (by decide)).trans f') a1 a2)⟩
        | inr q =>
          rw [er2] at hq n2
          have hq : CR (wNear b n k f (nAdd S k r.1 q.1) q.2) LE83 LN83 g (fun r g' => NX83 r.1 g' ∧ TX (tok b n 400 r.2) g') Q := hq
          intro g4 f4 ⟨e9', t4⟩
          have G4 : FL LN83 g g4 := G3.trans (f4.mono (by decide))
          have y4 : g4 83 4 = S.1 := by rw [f4.at 83 4 (by decide), F3.c 83 (by decide)]; exact z4
          have y0 : g4 83 0 = k := by rw [G4.at 83 0 (by decide)]; exact e0
          have y5 : g4 88 = hu g2 88 S.1 r.1 88 := f4.c 88 (by decide)
          have tp4 := (tp2.fl F3 (by decide)).fl f4 (by decide)
          have a1 := n1.2.1
          have a2 := n2.2.1
          refine ⟨by decide, iteP (by decide) ?_⟩
          have u4 : ∀ x y : Int, hu g4 89 x y 83 4 = S.1 := fun x y => by rw [hu_c _ _ _ (by decide)]; exact y4
          have u0 : ∀ x y : Int, hu g4 89 x y 83 0 = k := fun x y => by rw [hu_c _ _ _ (by decide)]; exact y0
          have u44 : ∀ x y z w : Int, hu (hu g4 89 x y) 87 z w 83 4 = S.1 := fun x y z w => by rw [hu_c _ _ _ (by decide), hu_c _ _ _ (by decide)]; exact y4
          rw [y4, e9']
          rw [u4, u0, u44]
          refine ⟨by omega, by omega, ?_⟩
          rw [show ((f + 1 : Nat) : Int) + (-1) = (f : Int) by omega]
          have F5 : FL [(89, -1), (87, -1), (83, 4)] g4 (hu (hu (hu g4 89 S.1 q.1) 87 S.1 k) 83 4 (S.1 + 1)) := ((FL.refl.ua (by decide)).ua (by decide)).u (by decide)
          refine c83_nears zk n540 (f := f) (S := nAdd S k r.1 q.1) (p := q.2) n2.2.2 (nAdd_ok no (by omega) n1.1 n2.1 (by omega)) (by show f + (S.1 + 1) = 64; omega) (tp4.fl F5 (by decide)) (by unfold TX; rw [F5.c 1 (by decide)]; exact t4) (by rw [F5.at 83 0 (by decide)]; exact y0) ⟨?_, fun j hj => ?_⟩ (hq.tr ((G4.mono (by decide)).trans (F5.mono (by decide))) (fun g' f' => (G4.trans (F5.mono (by decide))).trans f') (fun r g' f' x => x))
          · rw [hu_s]; rfl
          · have hj : j < S.1 + 1 := hj
            show _ = fuI S.2.1 S.1 k j ∧ _ = fuI S.2.2.1 S.1 r.1 j ∧ _ = fuI S.2.2.2 S.1 q.1 j
            refine ⟨?_, ?_, ?_⟩
            · rw [hu_c _ _ _ (by decide), hu_eq, hu_c _ _ _ (by decide), f4.c 87 (by decide), F3.c 87 (by decide), f2.c 87 (by decide), f1.c 87 (by decide)]
              unfold fuI
              by_cases z : j = S.1
              · rw [if_pos ⟨rfl, by rw [z]⟩, if_pos z]
              · rw [if_neg (fun y => z (by have := y.2; omega)), if_neg z]; exact (nx.2 j (by omega)).1
            · rw [hu_c _ _ _ (by decide), hu_c _ _ _ (by decide), hu_c _ _ _ (by decide), y5, hu_eq, f2.c 88 (by decide), f1.c 88 (by decide)]
              unfold fuI
              by_cases z : j = S.1
              · rw [if_pos ⟨rfl, by rw [z]⟩, if_pos z]
              · rw [if_neg (fun y => z (by have := y.2; omega)), if_neg z]; exact (nx.2 j (by omega)).2.1
            · rw [hu_c _ _ _ (by decide), hu_c _ _ _ (by decide), hu_eq, f4.c 89 (by decide), F3.c 89 (by decide), f2.c 89 (by decide), f1.c 89 (by decide)]
              unfold fuI
              by_cases z : j = S.1
              · rw [if_pos ⟨rfl, by rw [z]⟩, if_pos z]
              · rw [if_neg (fun y => z (by have := y.2; omega)), if_neg z]; exact (nx.2 j (by omega)).2.2
    · rw [if_neg c] at hq
      exact iteP c (hq g FL.refl ⟨nx, tx⟩)
theorem c83_strip2 (zk : ζok ζ) (n540 : n ≤ 540) {L : List Int} (oL : okW L) (ho : WO n (k, nm, A, B, F, S, p)) (k12 : k < 12) (hx : WX83 k b n (k, nm, A, B, F, S, p) h) (e7 : h 90 k = er L) (hq : CR (wStrip2 b n L (k, nm, A, B, F, S, p)) LE83 LR83 h (fun s' g => WX83 k b n s' g) Q) : RtI l (D + 11) mX10_readEnds (zz ζ) [aP 83, aP 1] h (fun r5 h5 => (rg r5) ∧ (if r5 = 0 then Q 0 h5 else RtI l (D + 11) mX10_readAfters (zz ζ) [aP 83, aP 1] h5 (fun r6 h6 => (rg r6) ∧ (if r6 = 0 then Q 0 h6 else RtI l (D + 11) mX10_readNears (zz ζ) [aP 83, aP 1] h6 (fun r7 h7 => (rg r7) ∧ (if r7 = 0 then Q 0 h7 else RtI l (D + 11) mX7_takeSign (zz ζ) [aP 1, aI 59] h7 (fun r8 h8 => (rg r8) ∧ (if r8 = 0 then Q 0 h8 else Q 1 h8)))))))) := by
  have hn := ζok_n zk
  obtain ⟨x0, xs, xn, tp, tx⟩ := hx
  rw [wStrip2] at hq
  have n1 := wNode_ok (b := b) n540 ho.1
  refine e83_readEnds hn (c83_node zk n540 ho.1 tp tx ?_)
  cases er1 : wNode b n p with
  | inl e =>
    rw [er1] at hq
    exact fun g' f' a1 a2 => ⟨by decide, iteN (by decide) ⟨by decide, iteP rfl (hq g' f' a1 a2)⟩⟩
  | inr r1 =>
    rw [er1] at hq n1
    have hq : CR (sbd (wNode b n r1.2) (fun r2 => sbd (wAfter b n k nm 540 0 r2.2) (fun r3 => sbd (wNear b n k (64 - S.1) S r3.2) (fun r4 => sbd (wSign b n r4.2) (fun p5 => .inr (k + 1, fuN nm k L, fuI A k r1.1, fuI B k r2.1, fuI F k r3.1, r4.1, p5)))))) LE83 LR83 h (fun s' g => WX83 k b n s' g) Q := hq
    intro g1 f1 ⟨e9, t1⟩
    have z0 : g1 83 0 = k := by rw [f1.at 83 0 (by decide)]; exact x0
    refine ⟨by decide, iteP (by decide) ⟨by rw [z0]; omega, ?_⟩⟩
    rw [z0, e9]
    have F2 : FL [(84, -1)] g1 (hu g1 84 k r1.1) := FL.refl.ua (by decide)
    have tp2 := (tp.fl f1 (by decide)).fl F2 (by decide)
    have n2 := wNode_ok (b := b) n540 n1.2.2
    refine c83_node zk n540 n1.2.2 tp2 (by unfold TX; rw [F2.c 1 (by decide)]; exact t1) ?_
    have G2 : FL LR83 h (hu g1 84 k r1.1) := (f1.mono (by decide)).trans (F2.mono (by decide))
    cases er2 : wNode b n r1.2 with
    | inl e =>
      rw [er2] at hq
      exact fun g' f' a1 a2 => ⟨by decide, iteN (by decide) ⟨by decide, iteP rfl (hq g' ((G2.mono (by decide)).trans f') a1 a2)⟩⟩
    | inr r2 =>
      rw [er2] at hq n2
      have hq : CR (sbd (wAfter b n k nm 540 0 r2.2) (fun r3 => sbd (wNear b n k (64 - S.1) S r3.2) (fun r4 => sbd (wSign b n r4.2) (fun p5 => .inr (k + 1, fuN nm k L, fuI A k r1.1, fuI B k r2.1, fuI F k r3.1, r4.1, p5))))) LE83 LR83 h (fun s' g => WX83 k b n s' g) Q := hq
      intro g3 f3 ⟨e9', t3⟩
      have y0 : g3 83 0 = k := by rw [f3.at 83 0 (by decide), F2.c 83 (by decide)]; exact z0
      refine ⟨by decide, iteP (by decide) ⟨by rw [y0]; omega, by decide, iteN (by decide) ?_⟩⟩
      rw [y0, e9']
      have F4 : FL [(85, -1)] g3 (hu g3 85 k r2.1) := FL.refl.ua (by decide)
      have u0 : hu g3 85 k r2.1 83 0 = k := by rw [F4.c 83 (by decide)]; exact y0
      have F5 : FL [(86, -1)] (hu g3 85 k r2.1) (hu (hu g3 85 k r2.1) 86 k 0) := FL.refl.ua (by decide)
      have G5 : FL LR83 h (hu (hu g3 85 k r2.1) 86 k 0) := ((G2.trans (f3.mono (by decide))).trans (F4.mono (by decide))).trans (F5.mono (by decide))
      have tp5 := ((tp2.fl f3 (by decide)).fl F4 (by decide)).fl F5 (by decide)
      refine e83_readAfters hn ⟨by rw [u0]; omega, ?_⟩
      rw [u0]
      have z7 : hu (hu g3 85 k r2.1) 86 k 0 90 = h 90 := by rw [F5.c 90 (by decide), F4.c 90 (by decide), f3.c 90 (by decide), F2.c 90 (by decide), f1.c 90 (by decide)]
      have n3 := wAfter_ok (b := b) (nm := nm) (f := 540) (acc := 0) n540 (by omega : k ≤ 12) n2.2.2 (by omega) (by omega)
      refine c83_afters (D := D + 3) (nm := nm) zk n540 k12 (f := 540) (acc := 0) n2.2.2 (by omega) (by omega) tp5 (by unfold TX; rw [F5.c 1 (by decide), F4.c 1 (by decide)]; exact t3) (by rw [F5.c 83 (by decide)]; exact u0) (by rw [z7]; exact fun j hj => ⟨(xs j hj).1, (ho.2.2.1 j hj).1⟩) (hu_s _ _ _ _) ?_
      cases er3 : wAfter b n k nm 540 0 r2.2 with
      | inl e =>
        rw [er3] at hq
        exact fun g' f' a1 a2 => ⟨by decide, iteP rfl (hq g' ((G5.mono (by decide)).trans f') a1 a2)⟩
      | inr r3 =>
        rw [er3] at hq n3
        have hq : CR (sbd (wNear b n k (64 - S.1) S r3.2) (fun r4 => sbd (wSign b n r4.2) (fun p5 => .inr (k + 1, fuN nm k L, fuI A k r1.1, fuI B k r2.1, fuI F k r3.1, r4.1, p5)))) LE83 LR83 h (fun s' g => WX83 k b n s' g) Q := hq
        intro g6 f6 ⟨e3, o3, t6⟩
        have G6 : FL LR83 h g6 := G5.trans (f6.mono (by decide))
        have tp6 := tp5.fl f6 (by decide)
        have x4 : ∀ c, c = 87 ∨ c = 88 ∨ c = 89 → g6 c = h c := by
          intro c hc
          rcases hc with z | z | z <;> subst z
          · rw [f6.c 87 (by decide), F5.c 87 (by decide), F4.c 87 (by decide), f3.c 87 (by decide), F2.c 87 (by decide), f1.c 87 (by decide)]
          · rw [f6.c 88 (by decide), F5.c 88 (by decide), F4.c 88 (by decide), f3.c 88 (by decide), F2.c 88 (by decide), f1.c 88 (by decide)]
          · rw [f6.c 89 (by decide), F5.c 89 (by decide), F4.c 89 (by decide), f3.c 89 (by decide), F2.c 89 (by decide), f1.c 89 (by decide)]
        have y4 : g6 83 4 = S.1 := by rw [f6.c 83 (by decide), F5.c 83 (by decide), F4.c 83 (by decide), f3.at 83 4 (by decide), F2.c 83 (by decide), f1.at 83 4 (by decide)]; exact xn.1
        have w0 : g6 83 0 = k := by rw [f6.c 83 (by decide), F5.c 83 (by decide)]; exact u0
        refine ⟨by decide, iteN (by decide) (e83_readNears hn ?_)⟩
        rw [y4, show (64 : Int) - (S.1 : Int) = ((64 - S.1 : Nat) : Int) by have := ho.2.2.2.1; omega]
        have no6 := ho.2.2.2.mono (K' := k + 1) (q := r3.2) (by omega) (by have := n1.2.1; have := n2.2.1; have := n3.2.1; omega)
        have n4 := wNear_ok (b := b) (k := k) (f := 64 - S.1) n540 n3.2.2 no6
        refine c83_nears (D := D + 2) zk n540 n3.2.2 no6 (by have := ho.2.2.2.1; omega) tp6 t6 w0 ⟨y4, by rw [x4 87 (Or.inl rfl), x4 88 (Or.inr (Or.inl rfl)), x4 89 (Or.inr (Or.inr rfl))]; exact xn.2⟩ ?_
        cases er4 : wNear b n k (64 - S.1) S r3.2 with
        | inl e =>
          rw [er4] at hq
          exact fun g' f' a1 a2 => ⟨by decide, iteP rfl (hq g' ((G6.mono (by decide)).trans f') a1 a2)⟩
        | inr r4 =>
          rw [er4] at hq n4
          have hq : CR (sbd (wSign b n r4.2) (fun p5 => .inr (k + 1, fuN nm k L, fuI A k r1.1, fuI B k r2.1, fuI F k r3.1, r4.1, p5))) LE83 LR83 h (fun s' g => WX83 k b n s' g) Q := hq
          intro g7 f7 ⟨nx7, t7⟩
          have G7 : FL LR83 h g7 := G6.trans (f7.mono (by decide))
          have tp7 := tp6.fl f7 (by decide)
          have tk := tok_ok (b := b) (m := 400) n540 (by omega) n4.2.2
          refine ⟨by decide, iteN (by decide) (e_X7_takeSign hn ⟨cg_rg4 n540 (by omega) n4.2.2 t7, by decide, ?_⟩)⟩
          rw [t7.1]
          unfold wSign at hq
          by_cases c : (tok b n 400 r4.2).1 = 59
          · rw [if_pos c] at hq
            refine iteP c (s_step zk n540 (by omega) tk.2.1.2 tp7 t7.2.2.1 (fun g8 f8 t8 => ⟨by decide, iteN (by decide) ?_⟩))
            have hq : ∀ g, FL LR83 h g → WX83 k b n (k + 1, fuN nm k L, fuI A k r1.1, fuI B k r2.1, fuI F k r3.1, r4.1, (tok b n 400 r4.2).2.2.1) g → Q 1 g := hq
            refine hq g8 (G7.trans (f8.mono (by decide))) ⟨?_, fun j hj => ⟨?_, ?_, ?_, ?_⟩, ⟨?_, ?_⟩, tp7.fl f8 (by decide), t8⟩
            · rw [f8.c 83 (by decide), f7.at 83 0 (by decide)]; exact w0
            · rw [f8.c 90 (by decide), f7.c 90 (by decide), f6.c 90 (by decide), z7]
              unfold fuN
              by_cases z : j = k
              · rw [if_pos z, z]; exact e7
              · rw [if_neg z]; exact (xs j (by omega)).1
            · rw [f8.c 84 (by decide), f7.c 84 (by decide), f6.c 84 (by decide), F5.c 84 (by decide), F4.c 84 (by decide), f3.c 84 (by decide), hu_eq, f1.c 84 (by decide)]
              unfold fuI
              by_cases z : j = k
              · rw [if_pos ⟨rfl, by rw [z]⟩, if_pos z]
              · rw [if_neg (fun y => z (by have := y.2; omega)), if_neg z]; exact (xs j (by omega)).2.1
            · rw [f8.c 85 (by decide), f7.c 85 (by decide), f6.c 85 (by decide), F5.c 85 (by decide), hu_eq, f3.c 85 (by decide), F2.c 85 (by decide), f1.c 85 (by decide)]
              unfold fuI
              by_cases z : j = k
              · rw [if_pos ⟨rfl, by rw [z]⟩, if_pos z]
              · rw [if_neg (fun y => z (by have := y.2; omega)), if_neg z]; exact (xs j (by omega)).2.2.1
            · rw [f8.c 86 (by decide), f7.c 86 (by decide)]
              unfold fuI
              by_cases z : j = k
              · rw [if_pos z, z]; exact e3
              · rw [if_neg z, o3 j z, hu_j _ _ _ (by omega), F4.c 86 (by decide), f3.c 86 (by decide), F2.c 86 (by decide), f1.c 86 (by decide)]; exact (xs j (by omega)).2.2.2
            · rw [f8.c 83 (by decide)]; exact nx7.1
            · rw [f8.c 87 (by decide), f8.c 88 (by decide), f8.c 89 (by decide)]; exact nx7.2
          · rw [if_neg c] at hq
            exact iteN c (cg_refuse hn t7 (fun g' f' a1 a2 => ⟨Or.inl rfl, by decide, iteP rfl (hq g' ((G7.mono (by decide)).trans (f'.mono (by decide))) a1 a2)⟩))
theorem c83_strip (zk : ζok ζ) (n540 : n ≤ 540) {s : WS} (ho : WO n s) (hx : WX83 s.1 b n s h) (hq : CR (wStrip b n s) LE83 LR83 h (fun s' g => WX83 s.1 b n s' g) Q) : RtI l (D + 12) mX10_readStrip (zz ζ) [aP 83, aP 1] h Q := by
  obtain ⟨k, nm, A, B, F, S, p⟩ := s
  have hn := ζok_n zk
  have tk := tok_ok (b := b) (m := 400) n540 (by omega) ho.1
  have tk1 := tok_ok (b := b) (m := 400) n540 (by omega) tk.2.1.2
  obtain ⟨x0, xs, xn, tp, tx⟩ := hx
  have x0 : h 83 0 = k := x0
  have k12 := ho.2.1
  have e7 := cg_word tx
  have bw := hWord_bd (tok b n 400 p)
  rw [wStrip] at hq
  refine e83_readStrip hn ⟨by rw [e7]; constructor <;> omega, ?_⟩
  rw [e7]
  by_cases c : hWord (tok b n 400 p) = 20
  · rw [if_pos c] at hq
    refine iteP c ⟨by rw [x0]; constructor <;> omega, ?_⟩
    rw [x0]
    by_cases c1 : 12 ≤ k
    · rw [if_pos c1] at hq
      exact iteN (by omega) (cg_refuse hn tx (fun g' f' a1 a2 => ⟨Or.inl rfl, hq g' (f'.mono (by decide)) a1 a2⟩))
    · rw [if_neg c1] at hq
      refine iteP (by omega) (s_step zk n540 (by omega) tk.2.1.2 tp tx.2.2.1 (fun g1 f1 t1 => ?_))
      have tp1 := tp.fl f1 (by decide)
      have z0 : g1 83 = h 83 := f1.c 83 (by decide)
      have z7 : g1 90 = h 90 := f1.c 90 (by decide)
      refine cg_isName hn n540 (by omega) tk.2.1.2 t1 (fun c2 c3 => ⟨by decide, iteP (by decide) ?_⟩) (fun c2 => ⟨by decide, iteN (by decide) ?_⟩)
      · rw [if_pos ⟨c2, c3⟩] at hq
        have e6 := (t1.2.2.2.2.1 c2).1
        rw [e6]
        have oL := tok_okW tk1.1 c2
        have fd := wFd_bd (nm := nm) (L := (tok b n 400 (tok b n 400 p).2.2.1).2.2.2.2) (f := k) (i := 0)
        refine c83_named hn oL (by rw [z0]; exact x0) (by omega) (by rw [z7]; exact fun j hj => ⟨(xs j hj).1, (ho.2.2.1 j hj).1⟩) ⟨by constructor <;> omega, ?_⟩
        by_cases c4 : 0 ≤ wFd nm (tok b n 400 (tok b n 400 p).2.2.1).2.2.2.2 k 0
        · rw [if_pos c4] at hq
          exact iteN (by omega) (cg_refuse hn t1 (fun g' f' a1 a2 => ⟨Or.inl rfl, hq g' ((f1.mono (by decide)).trans (f'.mono (by decide))) a1 a2⟩))
        · rw [if_neg c4] at hq
          have x0' : g1 83 0 = k := by rw [z0]; exact x0
          refine iteP (by omega) ⟨by rw [x0']; omega, ?_⟩
          rw [x0', e6]
          have F2 : FL [(90, -1)] g1 (hu g1 90 k (er (tok b n 400 (tok b n 400 p).2.2.1).2.2.2.2)) := FL.refl.ua (by decide)
          refine s_step zk n540 (by omega) tk1.2.1.2 (tp1.fl F2 (by decide)) (by rw [F2.c 1 (by decide)]; exact t1.2.2.1) (fun g3 f3 t3 => ?_)
          have G3 : FL (LT ++ [(90, -1)]) h g3 := ((f1.mono (by decide)).trans (F2.mono (by decide))).trans (f3.mono (by decide))
          refine c83_strip2 zk n540 oL (A := A) (B := B) (F := F) (S := S) (p := (tok b n 400 (tok b n 400 p).2.2.1).2.2.1) (nm := nm) ⟨tk1.2.1.2, ho.2.1, ho.2.2.1, ho.2.2.2.mono (Nat.le_refl _) (by have := tk.2.1.1; have := tk1.2.1.1; omega)⟩ (by omega) ⟨?_, fun j hj => ⟨?_, ?_⟩, ⟨?_, ?_⟩, (tp1.fl F2 (by decide)).fl f3 (by decide), t3⟩ ?_ (hq.tr (G3.mono (by decide)) (fun g' f' => (G3.mono (by decide)).trans f') (fun r g' f' x => x))
          · rw [G3.c 83 (by decide)]; exact x0
          · rw [f3.c 90 (by decide), hu_j _ _ _ (by omega), z7]; exact (xs j hj).1
          · rw [G3.c 84 (by decide), G3.c 85 (by decide), G3.c 86 (by decide)]; exact (xs j hj).2
          · rw [G3.c 83 (by decide)]; exact xn.1
          · rw [G3.c 87 (by decide), G3.c 88 (by decide), G3.c 89 (by decide)]; exact xn.2
          · rw [f3.c 90 (by decide), hu_s]
      · rw [if_neg c2] at hq
        exact cg_refuse hn t1 (fun g' f' a1 a2 => ⟨Or.inl rfl, hq g' ((f1.mono (by decide)).trans (f'.mono (by decide))) a1 a2⟩)
  · rw [if_neg c] at hq
    exact iteN c (cg_refuse hn tx (fun g' f' a1 a2 => ⟨Or.inl rfl, hq g' (f'.mono (by decide)) a1 a2⟩))
def LRa83 : List (Nat × Int) := (83, 0) :: LR83
theorem c83_all (zk : ζok ζ) (n540 : n ≤ 540) : ∀ {f : Nat} {s : WS} {g : HI}, WO n s → n + 1 ≤ s.2.2.2.2.2.2 + 2 * f → f ≤ 540 → WX83 s.1 b n s g → CR (wAll b n f s) LE83 LRa83 g (fun s' g => WX83 s'.1 b n s' g) Q → G l (D + 13) 0 0 mX10_readFrom (zz ζ) 21 [aP 83, aP 1, aI f] [] g (qI (zz ζ) Q)
  | 0, s, g, ho, hf, _, _, _ => by
    obtain ⟨k, nm, A, B, F, S, p⟩ := s
    have := ho.1
    have : n + 1 ≤ p + 2 * 0 := hf
    omega
  | f + 1, s, g, ho, hf, f540, hx, hq => by
    have hn := ζok_n zk
    have hp : s.2.2.2.2.2.2 ≤ n := ho.1
    have tx : TX (tok b n 400 s.2.2.2.2.2.2) g := hx.2.2.2.2
    refine b83_readFrom_21 hn ⟨by constructor <;> omega, iteN (by omega) ⟨cg_rg4 n540 (by omega) hp tx, ?_⟩⟩
    rw [tx.1]
    rw [wAll] at hq
    by_cases c : (tok b n 400 s.2.2.2.2.2.2).1 = 0
    · rw [if_pos c] at hq
      exact iteP c (hq g FL.refl hx)
    · rw [if_neg c] at hq
      have k1 := wStrip_ok (b := b) n540 ho
      refine iteN c (c83_strip zk n540 ho hx ?_)
      cases e : wStrip b n s with
      | inl e' =>
        rw [e] at hq
        exact fun g' f' a1 a2 => ⟨by decide, iteN (by decide) (hq g' f' a1 a2)⟩
      | inr s' =>
        have s1 : s'.1 = s.1 + 1 := by
          obtain ⟨k, nm, A, B, F, S, p⟩ := s
          exact wStrip_k e
        rw [e] at k1 hq
        intro g1 f1 x1
        refine ⟨by decide, iteP (by decide) ?_⟩
        have e0 : g1 83 0 = s.1 := x1.1
        rw [e0, show ((f + 1 : Nat) : Int) + (-1) = (f : Int) by omega]
        have F : FL [(83, 0)] g1 (hu g1 83 0 (s.1 + 1)) := FL.refl.u (by decide)
        have hq : CR (wAll b n f s') LE83 LRa83 g (fun s' g => WX83 s'.1 b n s' g) Q := hq
        refine c83_all zk n540 (f := f) (s := s') k1.1 (by have := k1.2; omega) (by omega) ?_ (hq.tr ((f1.mono (by decide)).trans (F.mono (by decide))) (fun g' f' => ((f1.mono (by decide)).trans (F.mono (by decide))).trans f') (fun r g' f' x => x))
        obtain ⟨k', nm', A', B', F', S', p'⟩ := s'
        refine ⟨?_, ?_, ⟨?_, ?_⟩, x1.2.2.2.1.fl F (by decide), ?_⟩
        · rw [hu_s, s1]; omega
        · rw [F.c 90 (by decide), F.c 84 (by decide), F.c 85 (by decide), F.c 86 (by decide)]; exact x1.2.1
        · rw [F.at 83 4 (by decide)]; exact x1.2.2.1.1
        · rw [F.c 87 (by decide), F.c 88 (by decide), F.c 89 (by decide)]; exact x1.2.2.1.2
        · unfold TX; rw [F.c 1 (by decide)]; exact x1.2.2.2.2
end WE83
