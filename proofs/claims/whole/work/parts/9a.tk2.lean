/-! tokens: the class -/
def TX (t : TKn) (g : HI) : Prop := g 1 4 = t.1 ∧ g 1 5 = t.2.1 ∧ g 1 3 = t.2.2.1 ∧ (t.1 = 3 → g 1 6 = t.2.2.2.1) ∧ (t.1 = 2 → g 1 6 = er t.2.2.2.2 ∧ g 1 7 = wdO (er t.2.2.2.2)) ∧ (t.1 ≠ 2 → g 1 7 = -1)
def tpc (b : Int → Int) (n m : Nat) (g : HI) : Prop := (g 1 1 = n ∧ g 1 2 = m) ∧ ∀ j : Nat, j < 540 → g 2 j = b j ∧ -128 ≤ b j ∧ b j ≤ 127
def LT : List (Nat × Int) := [(1, 3), (1, 4), (1, 5), (1, 6), (1, 7)]
theorem tpc.fl {b : Int → Int} {n m : Nat} {g g' : HI} {L : List (Nat × Int)} (w : tpc b n m g) (f : FL L g g') (c : (!inL L 1 1 && !inL L 1 2 && !inC L 2) = true) : tpc b n m g' := by
  simp only [Bool.and_eq_true, Bool.not_eq_true'] at c
  unfold tpc at w ⊢
  rw [f.at 1 1 c.1.1, f.at 1 2 c.1.2, f.c 2 c.2]
  exact w
section TK2
variable {l : Launch} {D : Nat} {ζ : ZP} {h : HI} {Q : Int → HI → Prop} {QV : HI → Prop} {b : Int → Int} {n m q p : Nat}
theorem s_stepOver (hn : 144 ≤ ζ.2.2.2.2) (hqn : q < n) (n540 : n ≤ 540) (h1 : h 1 1 = n) (h3 : h 1 3 = q) (h6 : h 1 6 = 0) (hb : ∀ j : Nat, j < 540 → h 2 j = b j ∧ -128 ≤ b j ∧ b j ≤ 127) (hq : ∀ g, FL [(1, 3), (1, 4), (1, 6)] h g → g 1 3 = (tkR b q (rnP b n q)).2.2.1 → g 1 4 = (tkR b q (rnP b n q)).1 → ((tkR b q (rnP b n q)).1 = 3 → g 1 6 = (tkR b q (rnP b n q)).2.2.2.1) → ((tkR b q (rnP b n q)).1 = 2 → g 1 6 = er (tkR b q (rnP b n q)).2.2.2.2) → QV g) : RtV l (D + 2) mX7_stepOver (zz ζ) [aP 1] h QV := by
  have b0 := hb q (by omega)
  refine e_X7_stepOver hn ⟨by rw [h3]; omega, ?_⟩
  rw [h3, b0.1]
  -- the end
  have fin : ∀ (k : Nat) (g : HI), q + k ≤ n → FL [(1, 3), (1, 6)] h g → g 1 3 = (q + k : Nat) → g 1 6 = cvl b q k → rnP b n q = q + k → (∀ j : Nat, j < k → isAl (b ((q + j : Nat) : Int)) ∨ isDg (b ((q + j : Nat) : Int))) → G l (D + 2) 0 0 mX7_stepOver (zz ζ) 122 [aP 1, aI (b q), aI (lcn b q k), aI ((k : Int) - lcn b q k), aU] [] g (qV (zz ζ) QV) := by
    intro k g hk f e3 e6 er' al
    have le := lcn_le (b := b) (q := q) k
    rw [er'] at hq
    have K : q + k - q = k := by omega
    have out : ∀ (v : Int) (g' : HI), FL [(1, 3), (1, 4), (1, 6)] h g' → g' 1 3 = (tkR b q (q + k)).2.2.1 → g' 1 4 = v → v = (tkR b q (q + k)).1 → g' 1 6 = cvl b q k → k ≠ 0 → (v = 3 → lcn b q k = 0) → (v = 2 → lcn b q k = k) → QV g' := by
      intro v g' f' a3 a4 ev a6 k0 v3 v2
      refine hq g' f' a3 (by rw [a4, ev]) (fun z => ?_) (fun z => ?_)
      · rw [← ev] at z
        have l0 := v3 z
        unfold tkR
        rw [if_neg (by omega), K, if_neg (by omega), if_pos l0, a6]
      · rw [← ev] at z
        have lk := v2 z
        unfold tkR
        rw [if_neg (by omega), K, if_pos lk, a6]
        exact (lrv_ok (lcn_all.mp lk)).2
    have fl4 : ∀ v, FL [(1, 3), (1, 4), (1, 6)] h (hu g 1 4 v) := fun v => (f.mono rfl).u rfl
    have s3 : ∀ v, (hu g 1 4 v) 1 3 = (q + k : Nat) := fun v => by rw [hu_j _ _ _ (by decide)]; exact e3
    have s6 : ∀ v, (hu g 1 4 v) 1 6 = cvl b q k := fun v => by rw [hu_j _ _ _ (by decide)]; exact e6
    have nx : k ≠ 0 → (tkR b q (q + k)).2.2.1 = q + k := fun k0 => by
      unfold tkR
      rw [if_neg (by omega)]
      split
      · rfl
      · split <;> rfl
    refine b_X7_stepOver_122 hn ⟨by constructor <;> omega, iteI (fun y => ⟨by constructor <;> omega, iteI (fun y1 => ⟨by constructor <;> omega, iteI (fun y2 => ?_) (fun y2 => iteI (fun y3 => ?_) (fun y3 => ?_))⟩) (fun y1 => ⟨by constructor <;> omega, iteI (fun y2 => ?_) (fun y2 => ?_)⟩)⟩) (fun y => ?_)⟩
    · refine out 1 _ (fl4 1) (by rw [s3, nx (by omega)]) (hu_s _ _ _ _) ?_ (s6 1) (by omega) (fun z => by omega) (fun z => by omega)
      unfold tkR
      rw [if_neg (by omega), K, if_neg (by omega), if_neg (by omega)]
    · refine out 1 _ (fl4 1) (by rw [s3, nx (by omega)]) (hu_s _ _ _ _) ?_ (s6 1) (by omega) (fun z => by omega) (fun z => by omega)
      unfold tkR
      rw [if_neg (by omega), K, if_neg (by omega), if_pos (by omega), if_neg (by omega)]
    · refine out 3 _ (fl4 3) (by rw [s3, nx (by omega)]) (hu_s _ _ _ _) ?_ (s6 3) (by omega) (fun z => by omega) (fun z => by omega)
      unfold tkR
      rw [if_neg (by omega), K, if_neg (by omega), if_pos (by omega), if_pos (by omega)]
    · refine out 1 _ (fl4 1) (by rw [s3, nx (by omega)]) (hu_s _ _ _ _) ?_ (s6 1) (by omega) (fun z => by omega) (fun z => by omega)
      unfold tkR
      rw [if_neg (by omega), K, if_pos (by omega), if_neg (by omega)]
    · refine out 2 _ (fl4 2) (by rw [s3, nx (by omega)]) (hu_s _ _ _ _) ?_ (s6 2) (by omega) (fun z => by omega) (fun z => by omega)
      unfold tkR
      rw [if_neg (by omega), K, if_pos (by omega), if_pos (by omega)]
    · have k0 : k = 0 := by omega
      subst k0
      have et : tkR b q (q + 0) = (if isSg (b q) then b q else 1, (q : Int), q + 1, 0, []) := by
        unfold tkR
        rw [if_pos (by omega)]
      rw [et] at hq
      have done : ∀ v, v = (if isSg (b q) then b q else 1) → QV (hu (hu g 1 4 v) 1 3 (g 1 3 + 1)) := fun v ev => by
        refine hq _ ((fl4 v).u rfl) ?_ ?_ (fun z => ?_) (fun z => ?_)
        · rw [hu_s, e3]; show ((q + 0 : Nat) : Int) + 1 = ((q + 1 : Nat) : Int); omega
        · rw [hu_j _ _ _ (by decide), hu_s]; exact ev
        · exfalso
          have z' : (if isSg (b q) then b q else 1) = 3 := z
          by_cases s : isSg (b q)
          · rw [if_pos s] at z'; omega
          · rw [if_neg s] at z'; omega
        · exfalso
          have z' : (if isSg (b q) then b q else 1) = 2 := z
          by_cases s : isSg (b q)
          · rw [if_pos s] at z'; omega
          · rw [if_neg s] at z'; omega
      have yes : isSg (b q) → QV (hu (hu g 1 4 (b q)) 1 3 (g 1 3 + 1)) := fun s => done _ (if_pos s).symm
      have none : ¬ isSg (b q) → QV (hu (hu g 1 4 1) 1 3 (g 1 3 + 1)) := fun s => done _ (if_neg s).symm
      exact ⟨by constructor <;> omega, iteI (fun y => yes (by omega)) (fun y1 => iteI (fun y => yes (by omega)) (fun y2 => iteI (fun y => yes (by omega)) (fun y3 => iteI (fun y => yes (by omega)) (fun y4 => iteI (fun y => yes (by omega)) (fun y5 => iteI (fun y => none (by omega)) (fun y6 => iteI (fun y => none (by omega)) (fun y7 => yes (by omega))))))))⟩
  have main : ∀ (f k : Nat) (g : HI), n - (q + k) = f → q + k ≤ n → FL [(1, 3), (1, 6)] h g → g 1 3 = (q + k : Nat) → g 1 6 = cvl b q k → rnP b n q = rnP b n (q + k) → (∀ j : Nat, j < k → isAl (b ((q + j : Nat) : Int)) ∨ isDg (b ((q + j : Nat) : Int))) → G l (D + 2) 0 0 mX7_stepOver (zz ζ) 14 [aP 1, aI (b q), aI (lcn b q k), aI ((k : Int) - lcn b q k), aU] [] g (qV (zz ζ) QV) := by
    intro f
    induction f with
    | zero =>
      intro k g hf hk F e3 e6 er' al
      have g1 : g 1 1 = n := by rw [F.at 1 1 rfl]; exact h1
      exact b_X7_stepOver_14 hn ⟨by rw [e3]; constructor <;> omega, by rw [g1]; constructor <;> omega, iteP (by rw [g1, e3]; omega) (fin k g hk F e3 e6 (by rw [er', rnP_stop (Or.inl (by omega))]) al)⟩
    | succ f ih =>
      intro k g hf hk F e3 e6 er' al
      have g1 : g 1 1 = n := by rw [F.at 1 1 rfl]; exact h1
      have bk := hb (q + k) (by omega)
      have g2 : g 2 ((q + k : Nat) : Int) = b ((q + k : Nat) : Int) := by rw [F.c 2 rfl]; exact bk.1
      have le := lcn_le (b := b) (q := q) k
      refine b_X7_stepOver_14 hn ⟨by rw [e3]; constructor <;> omega, by rw [g1]; constructor <;> omega, iteN (by rw [g1, e3]; omega) ⟨by rw [e3]; omega, ?_⟩⟩
      rw [e3, g2, e6]
      have stop : ¬ (isAl (b ((q + k : Nat) : Int)) ∨ isDg (b ((q + k : Nat) : Int))) → G l (D + 2) 0 0 mX7_stepOver (zz ζ) 122 [aP 1, aI (b q), aI (lcn b q k), aI ((k : Int) - lcn b q k), aU] [] g (qV (zz ζ) QV) := fun no => fin k g hk F e3 e6 (by rw [er', rnP_stop (Or.inr no)]) al
      have go : ∀ (v : Int), isAl (b ((q + k : Nat) : Int)) ∨ isDg (b ((q + k : Nat) : Int)) → v = cvl b q (k + 1) → G l (D + 2) 0 0 mX7_stepOver (zz ζ) 14 [aP 1, aI (b q), aI (lcn b q (k + 1)), aI (((k + 1 : Nat) : Int) - lcn b q (k + 1)), aU] [] (hu (hu g 1 6 v) 1 3 (((q + k : Nat) : Int) + 1)) (qV (zz ζ) QV) := fun v a ev => by
        refine ih (k + 1) _ (by omega) (by omega) ((F.u rfl).u rfl) (by rw [hu_s]; omega) (by rw [hu_j _ _ _ (by decide), hu_s]; exact ev) (by rw [er', rnP_step (by omega) a]; rfl) (fun j hj => ?_)
        by_cases c : j = k
        · rw [c]; exact a
        · exact al j (by omega)
      have eS : lcn b q (k + 1) = lcn b q k + (if isAl (b ((q + k : Nat) : Int)) then 1 else 0) := rfl
      have letter : isAl (b ((q + k : Nat) : Int)) → G l (D + 2) 0 0 mX7_stepOver (zz ζ) 14 [aP 1, aI (b q), aI ((lcn b q k : Int) + 1), aI ((k : Int) - lcn b q k), aU] [] (hu (hu g 1 6 (cvl b q k * 32 + b ((q + k : Nat) : Int) - 97 + 1)) 1 3 (((q + k : Nat) : Int) + 1)) (qV (zz ζ) QV) := fun a => by
        have kk := go (cvl b q k * 32 + b ((q + k : Nat) : Int) - 97 + 1) (Or.inl a) (by
          show _ = if isDg (b ((q + k : Nat) : Int)) then _ else _
          rw [if_neg (by omega)])
        rw [eS, if_pos a, show ((lcn b q k + 1 : Nat) : Int) = (lcn b q k : Int) + 1 by omega, show ((k + 1 : Nat) : Int) - ((lcn b q k : Int) + 1) = (k : Int) - lcn b q k by omega] at kk
        exact kk
      have digit : isDg (b ((q + k : Nat) : Int)) → G l (D + 2) 0 0 mX7_stepOver (zz ζ) 14 [aP 1, aI (b q), aI (lcn b q k), aI ((k : Int) - lcn b q k + 1), aU] [] (hu (hu g 1 6 (cvl b q k * 10 + b ((q + k : Nat) : Int) - 48)) 1 3 (((q + k : Nat) : Int) + 1)) (qV (zz ζ) QV) := fun a => by
        have kk := go (cvl b q k * 10 + b ((q + k : Nat) : Int) - 48) (Or.inr a) (by
          show _ = if isDg (b ((q + k : Nat) : Int)) then _ else _
          rw [if_pos a])
        have eS' : lcn b q (k + 1) = lcn b q k := by rw [eS, if_neg (by omega)]; omega
        rw [eS', show ((k + 1 : Nat) : Int) - (lcn b q k : Int) = (k : Int) - lcn b q k + 1 by omega] at kk
        exact kk
      exact ⟨by constructor <;> omega, iteI (fun y => iteI (fun y2 => stop (by omega)) (fun y2 => by omega)) (fun y => iteI (fun y2 => iteI (fun y3 => stop (by omega)) (fun y3 => iteI (fun y4 => stop (by omega)) (fun y4 => letter (by omega)))) (fun y2 => digit (by omega)))⟩
  exact main (n - q) 0 h (by omega) (by omega) FL.refl h3 h6 rfl (fun j hj => by omega)
theorem s_step (zk : ζok ζ) (n540 : n ≤ 540) (m540 : m ≤ 540) (hp : p ≤ n) (w : tpc b n m h) (h3 : h 1 3 = p) (hq : ∀ g, FL LT h g → TX (tok b n m p) g → QV g) : RtV l (D + 6) mX7_step (zz ζ) [aP 1] h QV := by
  have hn := ζok_n zk
  refine e_X7_step hn ?_
  -- behind the spaces
  have exit : ∀ (q : Nat) (g : HI), q ≤ n → FL [(1, 3)] h g → g 1 3 = q → skP b n p = q → (rg (g 1 2)) ∧ (if g 1 1 ≤ g 1 2 then G l (D + 6) 0 0 mX7_step (zz ζ) 100 [aP 1] [] (hu (hu g 1 7 (-1)) 1 6 0) (qV (zz ζ) QV) else if g 1 3 < g 1 2 then G l (D + 6) 0 0 mX7_step (zz ζ) 100 [aP 1] [] (hu (hu g 1 7 (-1)) 1 6 0) (qV (zz ζ) QV) else QV (hu (hu (hu (hu g 1 7 (-1)) 1 6 0) 1 4 1) 1 5 (g 1 2))) := by
    intro q g hqn F e3 es
    have wg := w.fl F rfl
    have et : tok b n m p = tkQ b n m q := by unfold tok; rw [es]
    rw [et] at hq
    have s100 : ¬ (m < n ∧ m ≤ q) → G l (D + 6) 0 0 mX7_step (zz ζ) 100 [aP 1] [] (hu (hu g 1 7 (-1)) 1 6 0) (qV (zz ζ) QV) := by
      intro no
      have k3 : (hu (hu g 1 7 (-1)) 1 6 0) 1 3 = q := by rw [hu_j _ _ _ (by decide), hu_j _ _ _ (by decide)]; exact e3
      have k1 : (hu (hu g 1 7 (-1)) 1 6 0) 1 1 = n := by rw [hu_j _ _ _ (by decide), hu_j _ _ _ (by decide)]; exact wg.1.1
      refine b_X7_step_100 hn ⟨by rw [k3]; constructor <;> omega, by rw [k1]; constructor <;> omega, iteI (fun y => ?_) (fun y => ?_)⟩
      · rw [k3, k1] at y
        rw [k3]
        have eq : tkQ b n m q = tkR b q (rnP b n q) := by
          unfold tkQ
          rw [if_neg no, if_neg (by omega)]
        rw [eq] at hq
        have rb := rnP_bd (b := b) (n := n) (f := n - q) (p := q) (Nat.le_refl _) hqn
        have ok := tkR_ok (b := b) (q := q) (e := rnP b n q) (n := n) (by omega) n540 rb.1 rb.2.1
        have pl : (tkR b q (rnP b n q)).2.1 = q := by
          unfold tkR
          split
          · rfl
          · split
            · rfl
            · split <;> rfl
        refine s_stepOver hn (b := b) (q := q) (n := n) (by omega) n540 (by rw [hu_j _ _ _ (by decide)]; exact k1) (by rw [hu_j _ _ _ (by decide)]; exact k3) (by rw [hu_j _ _ _ (by decide), hu_s]) (fun j hj => by rw [hu_c _ _ _ (by decide), hu_c _ _ _ (by decide), hu_c _ _ _ (by decide)]; exact wg.2 j hj) (fun g1 f1 a3 a4 a6 a6' => ?_)
        have a5 : g1 1 5 = q := by rw [f1.at 1 5 rfl, hu_s]
        have FF : FL LT h g1 := ((((F.mono rfl).u rfl).u rfl).u rfl).trans (f1.mono rfl)
        have r4 : rg (g1 1 4) := by
          rw [a4]
          rcases ok.1.1 with z | z | z | z | z
          · rw [z]; decide
          · rw [z]; decide
          · rw [z]; decide
          · rw [z]; decide
          · constructor <;> omega
        refine ⟨r4, iteI (fun z => ?_) (fun z => ?_)⟩
        · rw [a4] at z
          refine hq _ (FF.u rfl) ⟨by rw [hu_j _ _ _ (by decide)]; exact a4, by rw [hu_j _ _ _ (by decide), pl]; exact a5, by rw [hu_j _ _ _ (by decide)]; exact a3, fun y => by rw [hu_j _ _ _ (by decide)]; exact a6 y, fun y => absurd y z, fun _ => hu_s _ _ _ _⟩
        · rw [a4] at z
          have z2 := Classical.not_not.mp z
          have e6 := a6' z2
          have v := ok.1.2.2.2.2 z2
          have lt := er_lt v.2
          have nn := er_nn v.2
          have pw : 32 ^ (tkR b q (rnP b n q)).2.2.2.2.length ≤ 1073741824 := Nat.le_trans (Nat.pow_le_pow_right (by decide) v.1.2) (by decide)
          refine s_wordOf zk (by rw [e6]; constructor <;> omega) ?_
          rw [e6]
          refine hq _ (FF.u rfl) ⟨by rw [hu_j _ _ _ (by decide)]; exact a4, by rw [hu_j _ _ _ (by decide), pl]; exact a5, by rw [hu_j _ _ _ (by decide)]; exact a3, fun y => by rw [hu_j _ _ _ (by decide)]; exact a6 y, fun y => ⟨by rw [hu_j _ _ _ (by decide)]; exact a6' y, hu_s _ _ _ _⟩, fun y => absurd z2 y⟩
      · rw [k3, k1] at y
        have eq : tkQ b n m q = (0, (n : Int), q, 0, []) := by
          unfold tkQ
          rw [if_neg no, if_pos (by omega)]
        rw [eq] at hq
        rw [k1]
        refine hq _ (((((F.mono rfl).u rfl).u rfl).u rfl).u rfl) ⟨?_, ?_, ?_, fun z => ?_, fun z => ?_, fun _ => ?_⟩
        · rw [hu_j _ _ _ (by decide), hu_s]
        · rw [hu_s]
        · rw [hu_j _ _ _ (by decide), hu_j _ _ _ (by decide)]; exact k3
        · have : (0 : Int) = 3 := z
          omega
        · have : (0 : Int) = 2 := z
          omega
        · rw [hu_j _ _ _ (by decide), hu_j _ _ _ (by decide), hu_j _ _ _ (by decide), hu_s]
    rw [wg.1.1, wg.1.2, e3]
    refine ⟨by constructor <;> omega, iteI (fun y => s100 (by omega)) (fun y => iteI (fun y2 => s100 (by omega)) (fun y2 => ?_))⟩
    have eq : tkQ b n m q = (1, (m : Int), q, 0, []) := by
      unfold tkQ
      rw [if_pos ⟨by omega, by omega⟩]
    rw [eq] at hq
    refine hq _ (((((F.mono rfl).u rfl).u rfl).u rfl).u rfl) ⟨?_, ?_, ?_, fun z => ?_, fun z => ?_, fun _ => ?_⟩
    · rw [hu_j _ _ _ (by decide), hu_s]
    · rw [hu_s]
    · rw [hu_j _ _ _ (by decide), hu_j _ _ _ (by decide), hu_j _ _ _ (by decide), hu_j _ _ _ (by decide)]; exact e3
    · have : (1 : Int) = 3 := z
      omega
    · have : (1 : Int) = 2 := z
      omega
    · rw [hu_j _ _ _ (by decide), hu_j _ _ _ (by decide), hu_j _ _ _ (by decide), hu_s]
  have main : ∀ (f q : Nat) (g : HI), n - q = f → q ≤ n → FL [(1, 3)] h g → g 1 3 = q → skP b n p = skP b n q → G l (D + 6) 0 0 mX7_step (zz ζ) 0 [aP 1] [] g (qV (zz ζ) QV) := by
    intro f
    induction f with
    | zero =>
      intro q g hf hqn F e3 es
      have wg := w.fl F rfl
      exact b_X7_step_0 hn ⟨by rw [e3]; constructor <;> omega, by rw [wg.1.1]; constructor <;> omega, iteP (by rw [wg.1.1, e3]; omega) (exit q g hqn F e3 (by rw [es, skP_stop (Or.inl (by omega))]))⟩
    | succ f ih =>
      intro q g hf hqn F e3 es
      have wg := w.fl F rfl
      have bq := wg.2 q (by omega)
      have nxt : isSp (b q) → G l (D + 6) 0 0 mX7_step (zz ζ) 0 [aP 1] [] (hu g 1 3 (g 1 3 + 1)) (qV (zz ζ) QV) := fun s => ih (q + 1) _ (by omega) (by omega) (F.u rfl) (by rw [hu_s, e3]; omega) (by rw [es, skP_step (by omega) s])
      refine b_X7_step_0 hn ⟨by rw [e3]; constructor <;> omega, by rw [wg.1.1]; constructor <;> omega, iteN (by rw [wg.1.1, e3]; omega) ⟨by rw [e3]; omega, by rw [e3, bq.1]; constructor <;> omega, ?_⟩⟩
      have e2 : g 2 (g 1 3) = b q := by rw [e3]; exact bq.1
      rw [e2]
      exact iteI (fun y => nxt (Or.inl y)) (fun y => iteI (fun y2 => exit q g hqn F e3 (by rw [es, skP_stop (Or.inr (by omega))])) (fun y2 => nxt (Or.inr (by omega))))
  exact main (n - p) p h rfl hp FL.refl h3 rfl
end TK2
