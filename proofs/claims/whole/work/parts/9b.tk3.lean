/-! tokens: the reference -/
def mkK (k : Int) : Int := if k = 0 then 0 else if k = 1 then 4 else if k = 2 then 1 else if k = 3 then 2 else 3
def TM (t : TKn) (g : HI) : Prop := g 97 10 = mkK t.1 ∧ g 97 11 = t.2.1 ∧ g 97 4 = t.2.2.1 ∧ (t.1 = 3 → g 97 13 = t.2.2.2.1) ∧ (t.1 = 2 → g 97 16 = ew t.2.2.2.2) ∧ (isSg t.1 → g 97 13 = t.1)
def tpm (b : Int → Int) (n m : Nat) (g : HI) : Prop := (g 97 3 = n ∧ g 97 5 = m) ∧ ∀ j : Nat, j < 540 → g 98 j = b j ∧ -128 ≤ b j ∧ b j ≤ 127
def LN : List (Nat × Int) := [(97, 4), (97, 10), (97, 11), (97, 12), (97, 13), (97, 16)]
theorem tpm.fl {b : Int → Int} {n m : Nat} {g g' : HI} {L : List (Nat × Int)} (w : tpm b n m g) (f : FL L g g') (c : (!inL L 97 3 && !inL L 97 5 && !inC L 98) = true) : tpm b n m g' := by
  simp only [Bool.and_eq_true, Bool.not_eq_true'] at c
  unfold tpm at w ⊢
  rw [f.at 97 3 c.1.1, f.at 97 5 c.1.2, f.c 98 c.2]
  exact w
def pkv (b : Int → Int) (n p : Nat) : Int := if n ≤ p then -1 else if 0 ≤ b p then b p else b p + 256
def wfn (b : Int → Int) (q : Nat) : Nat → Int
  | 0 => 0
  | k + 1 => if k < 6 then wfn b q k * 256 + b ((q + k : Nat) : Int) else wfn b q k
def nfn (b : Int → Int) (q : Nat) : Nat → Int
  | 0 => 0
  | k + 1 => if k < 3 then 10 * nfn b q k + b ((q + k : Nat) : Int) - 48 else nfn b q k
theorem wfn_bd {b : Int → Int} {q : Nat} : ∀ {k : Nat}, k ≤ 6 → (∀ j : Nat, j < k → isAl (b ((q + j : Nat) : Int)) ∨ isDg (b ((q + j : Nat) : Int))) → 0 ≤ wfn b q k ∧ wfn b q k < (256 ^ k : Nat)
  | 0, _, _ => by show (0 : Int) ≤ 0 ∧ (0 : Int) < ((1 : Nat) : Int); omega
  | k + 1, hk, h => by
    have ih := wfn_bd (b := b) (q := q) (k := k) (by omega) (fun j hj => h j (by omega))
    have c := h k (by omega)
    have e : wfn b q (k + 1) = wfn b q k * 256 + b ((q + k : Nat) : Int) := if_pos (by omega)
    rw [e, Nat.pow_succ]
    omega
theorem wfn_ew {b : Int → Int} {q : Nat} : ∀ {k : Nat}, k ≤ 6 → wfn b q k = ew (lrv b q k)
  | 0, _ => rfl
  | k + 1, hk => by
    have ih := wfn_ew (b := b) (q := q) (k := k) (by omega)
    have e : wfn b q (k + 1) = wfn b q k * 256 + b ((q + k : Nat) : Int) := if_pos (by omega)
    rw [e, ih]
    show _ = ew (lrv b q k) * 256 + (b ((q + k : Nat) : Int) - 96 + 96)
    omega
theorem nfn_cvl {b : Int → Int} {q : Nat} : ∀ {k : Nat}, k ≤ 3 → (∀ j : Nat, j < k → isDg (b ((q + j : Nat) : Int))) → nfn b q k = cvl b q k
  | 0, _, _ => rfl
  | k + 1, hk, h => by
    have ih := nfn_cvl (b := b) (q := q) (k := k) (by omega) (fun j hj => h j (by omega))
    have e : nfn b q (k + 1) = 10 * nfn b q k + b ((q + k : Nat) : Int) - 48 := if_pos (by omega)
    have e2 : cvl b q (k + 1) = cvl b q k * 10 + b ((q + k : Nat) : Int) - 48 := if_pos (h k (by omega))
    rw [e, e2, ih]
    omega
section TK3
variable {l : Launch} {D : Nat} {ζ : ZP} {h : HI} {Q : Int → HI → Prop} {QV : HI → Prop} {b : Int → Int} {n m q p : Nat}
theorem pkv_bd (hb : ∀ j : Nat, j < 540 → -128 ≤ b j ∧ b j ≤ 127) (n540 : n ≤ 540) : (-1 ≤ pkv b n p ∧ pkv b n p ≤ 255) ∧ (pkv b n p < 0 ↔ n ≤ p) ∧ (p < n → (isAl (pkv b n p) ↔ isAl (b p)) ∧ (isDg (pkv b n p) ↔ isDg (b p)) ∧ (isSp (pkv b n p) ↔ isSp (b p)) ∧ (isSg (pkv b n p) ↔ isSg (b p)) ∧ (isSg (b p) ∨ isAl (b p) ∨ isDg (b p) → pkv b n p = b p)) := by
  unfold pkv
  by_cases c : n ≤ p
  · rw [if_pos c]
    exact ⟨by omega, ⟨fun _ => c, fun _ => by omega⟩, fun z => by omega⟩
  · rw [if_neg c]
    have := hb p (by omega)
    split
    · exact ⟨by omega, ⟨fun _ => by omega, fun z => absurd z c⟩, fun _ => ⟨Iff.rfl, Iff.rfl, Iff.rfl, Iff.rfl, fun _ => rfl⟩⟩
    · exact ⟨by omega, ⟨fun _ => by omega, fun z => absurd z c⟩, fun _ => ⟨⟨fun z => by omega, fun z => by omega⟩, ⟨fun z => by omega, fun z => by omega⟩, ⟨fun z => by omega, fun z => by omega⟩, ⟨fun z => by omega, fun z => by omega⟩, fun z => by omega⟩⟩
theorem s_peek (hn : 144 ≤ ζ.2.2.2.2) (n540 : n ≤ 540) (hp : p ≤ 540) (w : tpm b n m h) (e4 : h 97 4 = p) (hq : Q (pkv b n p) h) : RtI l (D + 1) mX12_peek (zz ζ) [aP 97] h Q := by
  unfold pkv at hq
  refine e_X12_peek hn ⟨by rw [e4]; constructor <;> omega, by rw [w.1.1]; constructor <;> omega, ?_⟩
  rw [e4, w.1.1]
  by_cases c : n ≤ p
  · rw [if_pos c] at hq
    exact iteP (by omega) hq
  · rw [if_neg c] at hq
    have bp := w.2 p (by omega)
    refine iteN (by omega) ⟨by omega, ?_⟩
    rw [bp.1, b255 bp.2]
    exact hq
theorem s_isSmall (hn : 144 ≤ ζ.2.2.2.2) {x : Int} (rx : rg x) (hy : isAl x → Q 1 h) (hz : ¬ isAl x → Q 0 h) : RtI l (D + 1) mX12_isSmall (zz ζ) [aI x] h Q := e_X12_isSmall hn ⟨rx, iteI (fun y => hz (by omega)) (fun y => iteI (fun y2 => hz (by omega)) (fun y2 => hy (by omega)))⟩
theorem s_isDigit (hn : 144 ≤ ζ.2.2.2.2) {x : Int} (rx : rg x) (hy : isDg x → Q 1 h) (hz : ¬ isDg x → Q 0 h) : RtI l (D + 1) mX12_isDigit (zz ζ) [aI x] h Q := e_X12_isDigit hn ⟨rx, iteI (fun y => hz (by omega)) (fun y => iteI (fun y2 => hz (by omega)) (fun y2 => hy (by omega)))⟩
/-- the run of letters and digits -/
theorem s_mrun (hn : 144 ≤ ζ.2.2.2.2) (n540 : n ≤ 540) (hqn : q < n) (w : tpm b n m h) (a0 : isAl (b q) ∨ isDg (b q)) (e11 : h 97 11 = q) (e4 : h 97 4 = q) (e12 : h 97 12 = 0) (e13 : h 97 13 = 0) (e16 : h 97 16 = 0) {x2 : Int} (ex2 : x2 = if isAl (b q) then 1 else 0) (hq : ∀ g, FL LN h g → TM (tkR b q (rnP b n q)) g → QV g) : G l (D + 2) 0 0 mX12_next (zz ζ) 193 [aP 97, aU, aI x2, aI 1] [] h (qV (zz ζ) QV) := by
  have hb : ∀ j : Nat, j < 540 → -128 ≤ b j ∧ b j ≤ 127 := fun j hj => (w.2 j hj).2
  have r2 : rg x2 := by rw [ex2]; split <;> decide
  -- the end
  have fin : ∀ (k : Nat) (x3 : Int) (g : HI), 1 ≤ k → q + k ≤ n → FL LN h g → g 97 11 = q → g 97 4 = (q + k : Nat) → g 97 12 = k → g 97 13 = nfn b q k → g 97 16 = wfn b q k → (x3 = 0 ∨ x3 = 1) → (x3 = 1 ↔ ∀ j : Nat, j < k → (isAl (b ((q + j : Nat) : Int)) ↔ isAl (b q))) → rnP b n q = q + k → (∀ j : Nat, j < k → isAl (b ((q + j : Nat) : Int)) ∨ isDg (b ((q + j : Nat) : Int))) → (rg x3) ∧ (if x3 = 0 then QV (hu g 97 10 4) else ((rg x2) ∧ (if x2 = 0 then ((rg (g 97 12)) ∧ (if g 97 12 ≤ 3 then (if x2 = 0 then QV (hu g 97 10 2) else QV (hu g 97 10 1)) else QV (hu g 97 10 4))) else ((rg (g 97 12)) ∧ (if g 97 12 ≤ 6 then (if x2 = 0 then QV (hu g 97 10 2) else QV (hu g 97 10 1)) else QV (hu g 97 10 4)))))) := by
    intro k x3 g k1 hk F a11 a4 a12 a13 a16 x3v x3i er' al
    rw [er'] at hq
    have K : q + k - q = k := by omega
    have q0 : ((q + 0 : Nat) : Int) = q := by omega
    -- what is told
    have out : ∀ (c : Int) (t : TKn), tkR b q (q + k) = t → mkK t.1 = c → t.2.1 = q → t.2.2.1 = q + k → (t.1 = 3 → t.2.2.2.1 = nfn b q k) → (t.1 = 2 → ew t.2.2.2.2 = wfn b q k) → ¬ isSg t.1 → QV (hu g 97 10 c) := by
      intro c t et ec e1 e2 e3 e5 ns
      refine hq _ (F.u rfl) ?_
      rw [et]
      refine ⟨by rw [hu_s]; exact ec.symm, by rw [hu_j _ _ _ (by decide), e1]; exact a11, by rw [hu_j _ _ _ (by decide), e2]; exact a4, fun z => ?_, fun z => ?_, fun z => absurd z ns⟩
      · rw [hu_j _ _ _ (by decide), e3 z]; exact a13
      · rw [hu_j _ _ _ (by decide), e5 z]; exact a16
    have r3 : rg x3 := by rcases x3v with z | z <;> rw [z] <;> decide
    have mixed : lcn b q k ≠ k → lcn b q k ≠ 0 → QV (hu g 97 10 4) := fun n1 n2 => by
      refine out 4 (1, (q : Int), q + k, 0, []) ?_ rfl rfl rfl (fun z => by have : (1 : Int) = 3 := z; omega) (fun z => by have : (1 : Int) = 2 := z; omega) (fun z => by have : isSg (1 : Int) := z; omega)
      unfold tkR
      rw [if_neg (by omega), K, if_neg n1, if_neg n2]
    by_cases c0 : isAl (b q)
    · rw [if_pos c0] at ex2
      have n0 : lcn b q k ≠ 0 := fun z => lcn_none.mp z 0 (by omega) (by rw [q0]; exact c0)
      refine ⟨r3, iteI (fun y => ?_) (fun y => ⟨r2, iteN (by omega) ⟨by rw [a12]; constructor <;> omega, ?_⟩⟩)⟩
      · refine mixed (fun z => ?_) n0
        have all := lcn_all.mp z
        have := x3i.mpr (fun j hj => ⟨fun _ => c0, fun _ => all j hj⟩)
        omega
      · have ai := x3i.mp (by omega)
        have lk : lcn b q k = k := lcn_all.mpr (fun j hj => (ai j hj).mpr c0)
        rw [a12]
        by_cases k6 : k ≤ 6
        · refine iteP (by omega) (iteN (by omega) (out 1 (2, (q : Int), q + k, 0, lrv b q k) ?_ rfl rfl rfl (fun z => by have : (2 : Int) = 3 := z; omega) (fun _ => (wfn_ew k6).symm) (fun z => by have : isSg (2 : Int) := z; omega)))
          unfold tkR
          rw [if_neg (by omega), K, if_pos lk, if_pos k6]
        · refine iteN (by omega) (out 4 (1, (q : Int), q + k, 0, lrv b q k) ?_ rfl rfl rfl (fun z => by have : (1 : Int) = 3 := z; omega) (fun z => by have : (1 : Int) = 2 := z; omega) (fun z => by have : isSg (1 : Int) := z; omega))
          unfold tkR
          rw [if_neg (by omega), K, if_pos lk, if_neg k6]
    · rw [if_neg c0] at ex2
      have nk : lcn b q k ≠ k := fun z => c0 (by have := lcn_all.mp z 0 (by omega); rw [q0] at this; exact this)
      refine ⟨r3, iteI (fun y => ?_) (fun y => ⟨r2, iteP ex2 ⟨by rw [a12]; constructor <;> omega, ?_⟩⟩)⟩
      · refine mixed nk (fun z => ?_)
        have no := lcn_none.mp z
        have := x3i.mpr (fun j hj => ⟨fun z => absurd z (no j hj), fun z => absurd z c0⟩)
        omega
      · have ai := x3i.mp (by omega)
        have l0 : lcn b q k = 0 := lcn_none.mpr (fun j hj z => c0 ((ai j hj).mp z))
        have dg : ∀ j : Nat, j < k → isDg (b ((q + j : Nat) : Int)) := fun j hj => (al j hj).resolve_left (fun z => c0 ((ai j hj).mp z))
        rw [a12]
        by_cases k3 : k ≤ 3
        · refine iteP (by omega) (iteP ex2 (out 2 (3, (q : Int), q + k, cvl b q k, []) ?_ rfl rfl rfl (fun _ => (nfn_cvl k3 dg).symm) (fun z => by have : (3 : Int) = 2 := z; omega) (fun z => by have : isSg (3 : Int) := z; omega)))
          unfold tkR
          rw [if_neg (by omega), K, if_neg nk, if_pos l0, if_pos k3]
        · refine iteN (by omega) (out 4 (1, (q : Int), q + k, cvl b q k, []) ?_ rfl rfl rfl (fun z => by have : (1 : Int) = 3 := z; omega) (fun z => by have : (1 : Int) = 2 := z; omega) (fun z => by have : isSg (1 : Int) := z; omega))
          unfold tkR
          rw [if_neg (by omega), K, if_neg nk, if_pos l0, if_neg k3]
  have main : ∀ (f k : Nat) (x3 : Int) (g : HI), n - (q + k) = f → q + k ≤ n → FL LN h g → g 97 11 = q → g 97 4 = (q + k : Nat) → g 97 12 = k → g 97 13 = nfn b q k → g 97 16 = wfn b q k → (x3 = 0 ∨ x3 = 1) → (x3 = 1 ↔ ∀ j : Nat, j < k → (isAl (b ((q + j : Nat) : Int)) ↔ isAl (b q))) → rnP b n q = rnP b n (q + k) → (∀ j : Nat, j < k → isAl (b ((q + j : Nat) : Int)) ∨ isDg (b ((q + j : Nat) : Int))) → G l (D + 2) 0 0 mX12_next (zz ζ) 193 [aP 97, aU, aI x2, aI x3] [] g (qV (zz ζ) QV) := by
    intro f
    induction f with
    | zero =>
      intro k x3 g hf hk F a11 a4 a12 a13 a16 x3v x3i er' al
      have wg := w.fl F rfl
      have pb := pkv_bd (b := b) (n := n) (p := q + k) hb n540
      have p1 : pkv b n (q + k) = -1 := by unfold pkv; rw [if_pos (by omega)]
      refine b_X12_next_193 hn (s_peek hn n540 (by omega) wg a4 (s_isSmall hn (by constructor <;> omega) (fun z => by omega) (fun z => ⟨by decide, iteN (by decide) (s_peek hn n540 (by omega) wg a4 (s_isDigit hn (by constructor <;> omega) (fun z => by omega) (fun z => ⟨by decide, iteP rfl ?_⟩)))⟩)))
      exact fin k x3 g (by omega) hk F a11 a4 a12 a13 a16 x3v x3i (by rw [er', rnP_stop (Or.inl (by omega))]) al
    | succ f ih =>
      intro k x3 g hf hk F a11 a4 a12 a13 a16 x3v x3i er' al
      have wg := w.fl F rfl
      have pb := pkv_bd (b := b) (n := n) (p := q + k) hb n540
      have pe := pb.2.2 (by omega)
      have rp : rg (pkv b n (q + k)) := by constructor <;> omega
      have r3 : rg x3 := by rcases x3v with z | z <;> rw [z] <;> decide
      -- a byte more
      have go : isAl (b ((q + k : Nat) : Int)) ∨ isDg (b ((q + k : Nat) : Int)) → G l (D + 2) 0 0 mX12_next (zz ζ) 213 [aP 97, aU, aI x2, aI x3] [] g (qV (zz ζ) QV) := by
        intro a
        have ep : pkv b n (q + k) = b ((q + k : Nat) : Int) := pe.2.2.2.2 (by rcases a with z | z; exact Or.inr (Or.inl z); exact Or.inr (Or.inr z))
        have bk : 48 ≤ b ((q + k : Nat) : Int) ∧ b ((q + k : Nat) : Int) ≤ 122 := by omega
        have s260 : ∀ (y3 : Int) (g1 : HI), FL LN h g1 → g1 97 11 = q → g1 97 4 = (q + k : Nat) → g1 97 12 = k → g1 97 13 = nfn b q k → g1 97 16 = wfn b q (k + 1) → (y3 = 0 ∨ y3 = 1) → (y3 = 1 ↔ ∀ j : Nat, j < k + 1 → (isAl (b ((q + j : Nat) : Int)) ↔ isAl (b q))) → G l (D + 2) 0 0 mX12_next (zz ζ) 260 [aP 97, aU, aI x2, aI y3] [] g1 (qV (zz ζ) QV) := by
          intro y3 g1 F1 b11 b4 b12 b13 b16 y3v y3i
          have w1 := w.fl F1 rfl
          have nx : ∀ (g2 : HI), FL LN h g2 → g2 97 11 = q → g2 97 4 = (q + k : Nat) + 1 → g2 97 12 = (k : Int) + 1 → g2 97 13 = nfn b q (k + 1) → g2 97 16 = wfn b q (k + 1) → G l (D + 2) 0 0 mX12_next (zz ζ) 193 [aP 97, aU, aI x2, aI y3] [] g2 (qV (zz ζ) QV) := fun g2 F2 c11 c4 c12 c13 c16 => ih (k + 1) y3 g2 (by omega) (by omega) F2 c11 (by rw [c4]; omega) (by rw [c12]; omega) c13 c16 y3v y3i (by rw [er', rnP_step (by omega) a]; rfl) (fun j hj => by
            by_cases c : j = k
            · rw [c]; exact a
            · exact al j (by omega))
          refine b_X12_next_260 hn ⟨by rw [b12]; constructor <;> omega, iteI (fun z => ?_) (fun z => s_peek hn n540 (by omega) w1 b4 ?_)⟩
          · refine nx _ ((F1.u rfl).u rfl) ?_ ?_ ?_ ?_ ?_
            · rw [hu_j _ _ _ (by decide), hu_j _ _ _ (by decide)]; exact b11
            · rw [hu_s, b4]
            · rw [hu_j _ _ _ (by decide), hu_s, b12]
            · rw [hu_j _ _ _ (by decide), hu_j _ _ _ (by decide), b13]
              show _ = if k < 3 then _ else _
              rw [if_neg (by omega)]
            · rw [hu_j _ _ _ (by decide), hu_j _ _ _ (by decide)]; exact b16
          · refine nx _ (((F1.u rfl).u rfl).u rfl) ?_ ?_ ?_ ?_ ?_
            · rw [hu_j _ _ _ (by decide), hu_j _ _ _ (by decide), hu_j _ _ _ (by decide)]; exact b11
            · rw [hu_s, b4]
            · rw [hu_j _ _ _ (by decide), hu_s, b12]
            · rw [hu_j _ _ _ (by decide), hu_j _ _ _ (by decide), hu_s, b13, ep]
              show _ = if k < 3 then _ else _
              rw [if_pos (by omega)]
            · rw [hu_j _ _ _ (by decide), hu_j _ _ _ (by decide), hu_j _ _ _ (by decide)]; exact b16
        -- the word
        have sw : ∀ (y3 : Int), (y3 = 0 ∨ y3 = 1) → (y3 = 1 ↔ ∀ j : Nat, j < k + 1 → (isAl (b ((q + j : Nat) : Int)) ↔ isAl (b q))) → (rg (g 97 12)) ∧ (if 6 ≤ g 97 12 then G l (D + 2) 0 0 mX12_next (zz ζ) 260 [aP 97, aU, aI x2, aI y3] [] g (qV (zz ζ) QV) else RtI l (D + 1) mX12_peek (zz ζ) [aP 97] g (fun r1 h1 => (rg r1) ∧ G l (D + 2) 0 0 mX12_next (zz ζ) 260 [aP 97, aU, aI x2, aI y3] [] (hu h1 97 16 (lbor (lbshl (g 97 16) 8) r1)) (qV (zz ζ) QV))) := by
          intro y3 y3v y3i
          rw [a12]
          refine ⟨by constructor <;> omega, iteI (fun z => s260 y3 g F a11 a4 a12 a13 ?_ y3v y3i) (fun z => s_peek hn n540 (by omega) wg a4 ⟨rp, s260 y3 _ (F.u rfl) ?_ ?_ ?_ ?_ ?_ y3v y3i⟩)⟩
          · rw [a16]
            show _ = if k < 6 then _ else _
            rw [if_neg (by omega)]
          · rw [hu_j _ _ _ (by decide)]; exact a11
          · rw [hu_j _ _ _ (by decide)]; exact a4
          · rw [hu_j _ _ _ (by decide)]; exact a12
          · rw [hu_j _ _ _ (by decide)]; exact a13
          · have wb := wfn_bd (b := b) (q := q) (k := k) (by omega) al
            have pw : 256 ^ k ≤ 281474976710656 := Nat.le_trans (Nat.pow_le_pow_right (by decide) (show k ≤ 6 by omega)) (by decide)
            rw [hu_s, a16, ep, word_add ⟨wb.1, by omega⟩ ⟨by omega, by omega⟩]
            show _ = if k < 6 then _ else _
            rw [if_pos (by omega)]
        refine b_X12_next_213 hn ⟨r3, iteI (fun z => ?_) (fun z => s_peek hn n540 (by omega) wg a4 (s_isSmall hn rp (fun y => ⟨by decide, r2, iteI (fun y2 => ?_) (fun y2 => ?_)⟩) (fun y => ⟨by decide, r2, iteI (fun y2 => ?_) (fun y2 => ?_)⟩)))⟩
        · subst z
          refine sw 0 (Or.inl rfl) ⟨fun z => by omega, fun z => x3i.mpr (fun j hj => z j (by omega))⟩
        · have y' := pe.1.mp y
          have no : ¬ isAl (b q) := fun c => by rw [if_pos c] at ex2; omega
          exact sw 0 (Or.inl rfl) ⟨fun z => by omega, fun z => absurd ((z k (by omega)).mp y') no⟩
        · have y' := pe.1.mp y
          have c0 : isAl (b q) := by
            apply Classical.byContradiction
            intro c
            rw [if_neg c] at ex2
            omega
          refine sw 1 (Or.inr rfl) ⟨fun _ j hj => ?_, fun _ => rfl⟩
          by_cases c : j = k
          · rw [c]; exact ⟨fun _ => c0, fun _ => y'⟩
          · exact x3i.mp (by omega) j (by omega)
        · have y' : ¬ isAl (b ((q + k : Nat) : Int)) := fun c => y (pe.1.mpr c)
          have c0 : isAl (b q) := by
            apply Classical.byContradiction
            intro c
            rw [if_neg c] at ex2
            omega
          exact sw 0 (Or.inl rfl) ⟨fun z => by omega, fun z => absurd ((z k (by omega)).mpr c0) y'⟩
        · have y' : ¬ isAl (b ((q + k : Nat) : Int)) := fun c => y (pe.1.mpr c)
          have no : ¬ isAl (b q) := fun c => by rw [if_pos c] at ex2; omega
          refine sw 1 (Or.inr rfl) ⟨fun _ j hj => ?_, fun _ => rfl⟩
          by_cases c : j = k
          · rw [c]; exact ⟨fun z => absurd z y', fun z => absurd z no⟩
          · exact x3i.mp (by omega) j (by omega)
      refine b_X12_next_193 hn (s_peek hn n540 (by omega) wg a4 (s_isSmall hn rp (fun z => ⟨by decide, iteP (by decide) (go (Or.inl (pe.1.mp z)))⟩) (fun z => ⟨by decide, iteN (by decide) (s_peek hn n540 (by omega) wg a4 (s_isDigit hn rp (fun z2 => ⟨by decide, iteN (by decide) (go (Or.inr (pe.2.1.mp z2)))⟩) (fun z2 => ⟨by decide, iteP rfl ?_⟩)))⟩)))
      have na : ¬ isAl (b ((q + k : Nat) : Int)) := fun c => z (pe.1.mpr c)
      have nd : ¬ isDg (b ((q + k : Nat) : Int)) := fun c => z2 (pe.2.1.mpr c)
      have k1 : 1 ≤ k := by
        apply Classical.byContradiction
        intro y
        have : k = 0 := by omega
        subst this
        rw [Nat.add_zero] at na nd
        rcases a0 with c | c
        · exact na c
        · exact nd c
      exact fin k x3 g k1 hk F a11 a4 a12 a13 a16 x3v x3i (by rw [er', rnP_stop (Or.inr (fun c => by rcases c with c | c; exact na c; exact nd c))]) al
  exact main (n - q) 0 1 h (by omega) (by omega) FL.refl e11 e4 e12 e13 e16 (Or.inr rfl) ⟨fun _ j hj => by omega, fun _ => rfl⟩ rfl (fun j hj => by omega)
theorem s_next (hn : 144 ≤ ζ.2.2.2.2) (n540 : n ≤ 540) (m540 : m ≤ 540) (hp : p ≤ n) (w : tpm b n m h) (h4 : h 97 4 = p) (hq : ∀ g, FL LN h g → TM (tok b n m p) g → QV g) : RtV l (D + 2) mX12_next (zz ζ) [aP 97] h QV := by
  have hb : ∀ j : Nat, j < 540 → -128 ≤ b j ∧ b j ≤ 127 := fun j hj => (w.2 j hj).2
  refine e_X12_next hn ?_
  have exit : ∀ (q : Nat) (g : HI), q ≤ n → FL [(97, 4)] h g → g 97 4 = q → skP b n p = q → (rg (g 97 3)) ∧ (rg (g 97 5)) ∧ (if g 97 3 ≤ g 97 5 then G l (D + 2) 0 0 mX12_next (zz ζ) 80 [aP 97, aU, aU, aU] [] (hu (hu g 97 11 (g 97 4)) 97 12 0) (qV (zz ζ) QV) else ((rg (g 97 4)) ∧ (if g 97 4 < g 97 5 then G l (D + 2) 0 0 mX12_next (zz ζ) 80 [aP 97, aU, aU, aU] [] (hu (hu g 97 11 (g 97 4)) 97 12 0) (qV (zz ζ) QV) else QV (hu (hu (hu (hu g 97 11 (g 97 4)) 97 12 0) 97 11 (g 97 5)) 97 10 4)))) := by
    intro q g hqn F e4 es
    have wg := w.fl F rfl
    have et : tok b n m p = tkQ b n m q := by unfold tok; rw [es]
    rw [et] at hq
    have s80 : ¬ (m < n ∧ m ≤ q) → G l (D + 2) 0 0 mX12_next (zz ζ) 80 [aP 97, aU, aU, aU] [] (hu (hu g 97 11 q) 97 12 0) (qV (zz ζ) QV) := by
      intro no
      have F1 : FL LN h (hu (hu g 97 11 q) 97 12 0) := ((F.mono rfl).u rfl).u rfl
      have w1 := w.fl F1 rfl
      have k4 : (hu (hu g 97 11 q) 97 12 0) 97 4 = q := by rw [hu_j _ _ _ (by decide), hu_j _ _ _ (by decide)]; exact e4
      have k11 : (hu (hu g 97 11 q) 97 12 0) 97 11 = q := by rw [hu_j _ _ _ (by decide), hu_s]
      have k12 : (hu (hu g 97 11 q) 97 12 0) 97 12 = 0 := hu_s _ _ _ _
      generalize (hu (hu g 97 11 q) 97 12 0) = g1 at F1 w1 k4 k11 k12 ⊢
      have pb := pkv_bd (b := b) (n := n) (p := q) hb n540
      have rp : rg (pkv b n q) := by constructor <;> omega
      refine b_X12_next_80 hn (s_peek hn n540 (by omega) w1 k4 ⟨rp, iteI (fun y => ?_) (fun y => ?_)⟩)
      · have qn : q < n := by
          apply Classical.byContradiction
          intro z
          have := pb.2.1.mpr (by omega)
          omega
        have pe := pb.2.2 qn
        have eq : tkQ b n m q = tkR b q (rnP b n q) := by
          unfold tkQ
          rw [if_neg no, if_neg (by omega)]
        rw [eq] at hq
        have run : ∀ x2, isAl (b q) ∨ isDg (b q) → x2 = (if isAl (b q) then 1 else 0) → G l (D + 2) 0 0 mX12_next (zz ζ) 193 [aP 97, aU, aI x2, aI 1] [] (hu (hu g1 97 16 0) 97 13 0) (qV (zz ζ) QV) := fun x2 a ex => s_mrun hn n540 qn (w1.fl (FL.refl.u rfl |>.u rfl : FL [(97, 16), (97, 13)] g1 _) rfl) a (by rw [hu_j _ _ _ (by decide), hu_j _ _ _ (by decide)]; exact k11) (by rw [hu_j _ _ _ (by decide), hu_j _ _ _ (by decide)]; exact k4) (by rw [hu_j _ _ _ (by decide), hu_j _ _ _ (by decide)]; exact k12) (hu_s _ _ _ _) (by rw [hu_j _ _ _ (by decide), hu_s]) ex (fun g2 f2 t2 => hq g2 (((F1.u rfl).u rfl).trans f2) t2)
        refine s_isSmall hn rp (fun a => ⟨by decide, iteP (by decide) (s_isSmall hn rp (fun _ => run 1 (Or.inl (pe.1.mp a)) (if_pos (pe.1.mp a)).symm) (fun z => absurd a z))⟩) (fun na => ⟨by decide, iteN (by decide) (s_isDigit hn rp (fun dg => ⟨by decide, iteP (by decide) (s_isSmall hn rp (fun z => absurd z na) (fun _ => run 0 (Or.inr (pe.2.1.mp dg)) (if_neg (fun c => na (pe.1.mpr c))).symm))⟩) (fun nd => ⟨by decide, iteN (by decide) ?_⟩))⟩)
        -- a sign, or no token
        have er' : rnP b n q = q := rnP_stop (Or.inr (fun c => by rcases c with c | c; exact na (pe.1.mpr c); exact nd (pe.2.1.mpr c)))
        have et : tkR b q (rnP b n q) = (if isSg (b q) then b q else 1, (q : Int), q + 1, 0, []) := by
          rw [er']
          unfold tkR
          rw [if_pos rfl]
        rw [et] at hq
        have FF : ∀ v, FL LN h (hu (hu (hu g1 97 10 v) 97 13 (pkv b n q)) 97 4 (g1 97 4 + 1)) := fun v => ((F1.u rfl).u rfl).u rfl
        have e10 : ∀ v, (hu (hu (hu g1 97 10 v) 97 13 (pkv b n q)) 97 4 (g1 97 4 + 1)) 97 10 = v := fun v => by rw [hu_j _ _ _ (by decide), hu_j _ _ _ (by decide), hu_s]
        have e13 : ∀ v, (hu (hu (hu g1 97 10 v) 97 13 (pkv b n q)) 97 4 (g1 97 4 + 1)) 97 13 = pkv b n q := fun v => by rw [hu_j _ _ _ (by decide), hu_s]
        have e11 : ∀ v, (hu (hu (hu g1 97 10 v) 97 13 (pkv b n q)) 97 4 (g1 97 4 + 1)) 97 11 = q := fun v => by rw [hu_j _ _ _ (by decide), hu_j _ _ _ (by decide), hu_j _ _ _ (by decide)]; exact k11
        have e44 : ∀ v, (hu (hu (hu g1 97 10 v) 97 13 (pkv b n q)) 97 4 (g1 97 4 + 1)) 97 4 = (q + 1 : Nat) := fun v => by rw [hu_s, k4]; omega
        have yes : isSg (pkv b n q) → QV (hu (hu (hu g1 97 10 3) 97 13 (pkv b n q)) 97 4 (g1 97 4 + 1)) := fun s => by
          have s' := pe.2.2.2.1.mp s
          rw [if_pos s'] at hq
          refine hq _ (FF 3) ⟨?_, e11 3, e44 3, fun z => ?_, fun z => ?_, fun _ => ?_⟩
          · rw [e10]
            show 3 = mkK (b q)
            unfold mkK
            rw [if_neg (by omega), if_neg (by omega), if_neg (by omega), if_neg (by omega)]
          · have : b q = 3 := z
            omega
          · have : b q = 2 := z
            omega
          · rw [e13]; exact pe.2.2.2.2 (Or.inl s')
        have nope : ¬ isSg (pkv b n q) → QV (hu (hu (hu g1 97 10 4) 97 13 (pkv b n q)) 97 4 (g1 97 4 + 1)) := fun s => by
          have s' : ¬ isSg (b q) := fun c => s (pe.2.2.2.1.mpr c)
          rw [if_neg s'] at hq
          refine hq _ (FF 4) ⟨by rw [e10]; rfl, e11 4, e44 4, fun z => ?_, fun z => ?_, fun z => ?_⟩
          · have : (1 : Int) = 3 := z
            omega
          · have : (1 : Int) = 2 := z
            omega
          · have : isSg (1 : Int) := z
            omega
        exact iteI (fun y => yes (by omega)) (fun y1 => iteI (fun y => yes (by omega)) (fun y2 => iteI (fun y => yes (by omega)) (fun y3 => iteI (fun y => yes (by omega)) (fun y4 => iteI (fun y => yes (by omega)) (fun y5 => iteI (fun y => nope (by omega)) (fun y6 => iteI (fun y => nope (by omega)) (fun y7 => yes (by omega))))))))
      · have qn : n ≤ q := pb.2.1.mp (by omega)
        have eq : tkQ b n m q = (0, (n : Int), q, 0, []) := by
          unfold tkQ
          rw [if_neg no, if_pos qn]
        rw [eq] at hq
        have qe : q = n := by omega
        refine hq _ (F1.u rfl) ⟨hu_s _ _ _ _, ?_, ?_, fun z => ?_, fun z => ?_, fun z => ?_⟩
        · rw [hu_j _ _ _ (by decide), k11, qe]
        · rw [hu_j _ _ _ (by decide)]; exact k4
        · have : (0 : Int) = 3 := z
          omega
        · have : (0 : Int) = 2 := z
          omega
        · have : isSg (0 : Int) := z
          omega
    rw [wg.1.1, wg.1.2, e4]
    refine ⟨by constructor <;> omega, by constructor <;> omega, iteI (fun y => s80 (by omega)) (fun y => ⟨by constructor <;> omega, iteI (fun y2 => s80 (by omega)) (fun y2 => ?_)⟩)⟩
    have eq : tkQ b n m q = (1, (m : Int), q, 0, []) := by
      unfold tkQ
      rw [if_pos ⟨by omega, by omega⟩]
    rw [eq] at hq
    refine hq _ (((((F.mono rfl).u rfl).u rfl).u rfl).u rfl) ⟨?_, ?_, ?_, fun z => ?_, fun z => ?_, fun z => ?_⟩
    · rw [hu_s]; rfl
    · rw [hu_j _ _ _ (by decide), hu_s]
    · rw [hu_j _ _ _ (by decide), hu_j _ _ _ (by decide), hu_j _ _ _ (by decide), hu_j _ _ _ (by decide)]; exact e4
    · have : (1 : Int) = 3 := z
      omega
    · have : (1 : Int) = 2 := z
      omega
    · have : isSg (1 : Int) := z
      omega
  have main : ∀ (f q : Nat) (g : HI), n - q = f → q ≤ n → FL [(97, 4)] h g → g 97 4 = q → skP b n p = skP b n q → G l (D + 2) 0 0 mX12_next (zz ζ) 0 [aP 97, aU, aU, aU] [] g (qV (zz ζ) QV) := by
    intro f
    induction f with
    | zero =>
      intro q g hf hqn F e4 es
      have wg := w.fl F rfl
      have p1 : pkv b n q = -1 := by unfold pkv; rw [if_pos (by omega)]
      refine b_X12_next_0 hn (s_peek hn n540 (by omega) wg e4 ?_)
      rw [p1]
      refine ⟨by decide, iteN (by decide) (s_peek hn n540 (by omega) wg e4 ?_)⟩
      rw [p1]
      exact ⟨by decide, iteP (by decide) (exit q g hqn F e4 (by rw [es, skP_stop (Or.inl (by omega))]))⟩
    | succ f ih =>
      intro q g hf hqn F e4 es
      have wg := w.fl F rfl
      have pb := pkv_bd (b := b) (n := n) (p := q) hb n540
      have pe := pb.2.2 (by omega)
      have rp : rg (pkv b n q) := by constructor <;> omega
      have nxt : isSp (pkv b n q) → G l (D + 2) 0 0 mX12_next (zz ζ) 0 [aP 97, aU, aU, aU] [] (hu g 97 4 (g 97 4 + 1)) (qV (zz ζ) QV) := fun s => ih (q + 1) _ (by omega) (by omega) (F.u rfl) (by rw [hu_s, e4]; omega) (by rw [es, skP_step (by omega) (pe.2.2.1.mp s)])
      exact b_X12_next_0 hn (s_peek hn n540 (by omega) wg e4 ⟨rp, iteI (fun y => nxt (Or.inl y)) (fun y => s_peek hn n540 (by omega) wg e4 ⟨rp, iteI (fun y2 => exit q g hqn F e4 (by rw [es, skP_stop (Or.inr (fun c => by have := pe.2.2.1.mpr c; omega))])) (fun y2 => nxt (Or.inr (by omega)))⟩)⟩)
  exact main (n - p) p h rfl hp FL.refl h4 rfl
end TK3
