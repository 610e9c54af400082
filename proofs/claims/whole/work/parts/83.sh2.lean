/-! share: the class's search -/
def shH (t : Int → Int) (b n : Nat) (A : Int) (g : HI) : Prop := g 70 0 = n ∧ g 70 4 = b ∧ g 70 5 = A ∧ ∀ j : Int, 0 ≤ j → j < n → g 71 j = t j
theorem shH.fl {t : Int → Int} {b n : Nat} {A : Int} {g g' : HI} (h : shH t b n A g) (f : FL [(70, 3), (72, -1), (73, -1), (74, -1)] g g') : shH t b n A g' := ⟨by rw [f.at 70 0 rfl]; exact h.1, by rw [f.at 70 4 rfl]; exact h.2.1, by rw [f.at 70 5 rfl]; exact h.2.2.1, by rw [f.c 71 rfl]; exact h.2.2.2⟩
theorem canW_snoc {b : Nat} {p : Int → Int} {i : Nat} {r : Int} (h : canW b p i) (h0 : 0 ≤ r) (h1 : r ≤ usW p i) (h2 : r < b) : canW b (fu p i r) (i + 1) ∧ usW (fu p i r) (i + 1) = (if r = usW p i then usW p i + 1 else usW p i) := by
  have e : ∀ j : Nat, j < i → fu p i r j = p j := fun j hj => fu_n _ _ (by omega)
  have eu : ∀ k : Nat, k ≤ i → usW (fu p i r) k = usW p k := fun k hk => usW_congr (fun j hj => e j (by omega))
  refine ⟨fun j hj => ?_, ?_⟩
  · rw [eu j (by omega)]
    by_cases c : j = i
    · rw [c, fu_s]; exact ⟨h0, h1, h2⟩
    · rw [e j (by omega)]; exact h j (by omega)
  · show (if fu p i r i = usW (fu p i r) i then usW (fu p i r) i + 1 else usW (fu p i r) i) = _
    rw [eu i (Nat.le_refl _), fu_s]
theorem ldW_snoc {t p : Int → Int} {i : Nat} {r q : Int} : ldW t (fu p i r) q (i + 1) = ldW t p q i + (if r = q then t i else 0) := by
  show ldW t (fu p i r) q i + (if decide (fu p i r i = q) then t i else 0) = _
  rw [ldW_congr (w := fu p i r) (w' := p) (fun j hj => fu_n _ _ (by omega)), fu_s]
  simp only [decide_eq_true_eq]
section SH2
variable {l : Launch} {D : Nat} {ζ : ZP} {h : HI} {Q : Int → HI → Prop} {QV : HI → Prop} {t : Int → Int} {b n : Nat} {A : Int}
theorem s_take (hn : 144 ≤ ζ.2.2.2.2) (H : shH t b n A h) (b1 : 1 ≤ b) (b4 : b ≤ 4) (n9 : n ≤ 9) (ht : ∀ j : Nat, j < n → 0 ≤ t j ∧ t j ≤ 99) (hc : canW b (h 73) n) (hb : ∀ r : Int, 0 ≤ r → r < b → h 74 r = ldW t (h 73) r n) (hL : 0 ≤ h 70 3 ∧ h 70 3 ≤ 1000) (hq : ∀ g', FL [(70, 3), (72, -1), (73, -1), (74, -1)] h g' → g' 73 = h 73 → g' 74 = h 74 → (0 ≤ g' 70 3 ∧ g' 70 3 ≤ 1000) → shS t b n (exW n (h 73)) (h 70 3) (g' 70 3) (h 72) (g' 72) → QV g') : RtV l (D + 1) mX4_take (zz ζ) [aP 70] h QV := by
  refine e_X4_take hn ?_
  have lb : ∀ r : Int, 0 ≤ ldW t (h 73) r n ∧ ldW t (h 73) r n ≤ 99 * n := fun r => ldW_bd ht (Nat.le_refl _)
  have mb := fun k => mn_bd (f := fun r : Nat => ldW t (h 73) r n) (K := 0) (L := 891) (n := k) (fun r _ => by have := lb r; omega)
  have main : ∀ (m r : Nat) (x1 : Int), r + m = b → x1 = (if r = 0 then 0 else mxF (fun r : Nat => ldW t (h 73) r n) r) → G l (D + 1) 0 0 mX4_take (zz ζ) 4 [aP 70, aI x1, aI r] [] h (qV (zz ζ) QV) := by
    intro m
    induction m with
    | zero =>
      intro r x1 hr e
      have : r = b := by omega
      subst this
      rw [if_neg (by omega)] at e
      have ev : x1 = vlW t r n (h 73) := e
      have vb : 0 ≤ x1 ∧ x1 ≤ 891 := by rw [e]; exact (mb r).2.1
      refine b_X4_take_4 hn ⟨by constructor <;> omega, by rw [H.2.1]; constructor <;> omega, iteP (by rw [H.2.1]; omega) ⟨by constructor <;> omega, by constructor <;> omega, iteI (fun y => ?_) (fun y => ⟨?_, ?_⟩)⟩⟩
      · refine hq h FL.refl rfl rfl hL (shS_none (fun u cu su => ?_))
        rw [vlW_congr (w := u) (w' := h 73) su, ← ev]; exact y
      · rw [H.1]; omega
      · rw [H.1]
        have c72 : ∀ j : Nat, j < n → (hcp (hu h 70 3 x1) 73 0 72 0 n) 72 j = h 73 j := fun j hj => by
          unfold hcp
          rw [if_pos ⟨rfl, by omega, by omega⟩, hu_c _ _ _ (by decide)]
          congr 1; omega
        have c3 : (hcp (hu h 70 3 x1) 73 0 72 0 n) 70 3 = x1 := by
          unfold hcp
          rw [if_neg (fun q => absurd q.1 (by decide)), hu_s]
        refine hq _ ?_ ?_ ?_ (by rw [c3]; omega) ⟨by rw [c3]; omega, fun e' => by rw [c3] at e'; omega, fun u cu su => ?_, fun _ => ⟨canW_congr (fun j hj => (c72 j hj).symm) hc, fun j hj => c72 j hj, ?_, fun u cu su lx => ?_⟩⟩
        · intro k j q
          unfold hcp
          by_cases c : k = 72 ∧ 0 ≤ j ∧ j < 0 + (n : Int)
          · rw [c.1] at q; simp [inL] at q
          · rw [if_neg c, hu_eq, if_neg (fun z => by rw [z.1, z.2] at q; simp [inL] at q)]
        · funext j; unfold hcp; rw [if_neg (fun q => absurd q.1 (by decide)), hu_c _ _ _ (by decide)]
        · funext j; unfold hcp; rw [if_neg (fun q => absurd q.1 (by decide)), hu_c _ _ _ (by decide)]
        · rw [c3, vlW_congr (w := u) (w' := h 73) su, ← ev]; exact Int.le_refl _
        · rw [c3, vlW_congr (w' := h 73) c72, ← ev]
        · obtain ⟨k, h1, h2, h3⟩ := lx
          rw [su k h1, c72 k h1] at h3
          omega
    | succ m ih =>
      intro r x1 hr e
      have x1b : 0 ≤ x1 ∧ x1 ≤ 891 := by
        rw [e]; split
        · omega
        · exact (mb r).2.1
      have lr := lb r
      have g74 := hb r (by omega) (by omega)
      refine b_X4_take_4 hn ⟨by constructor <;> omega, by rw [H.2.1]; constructor <;> omega, iteN (by rw [H.2.1]; omega) ⟨⟨by omega, by omega⟩, by constructor <;> omega, ?_⟩⟩
      rw [g74]
      refine ⟨by constructor <;> omega, ?_⟩
      have kk := ih (r + 1) (max x1 (ldW t (h 73) r n)) (by omega) (by
        rw [if_neg (by omega)]
        show _ = max (mxF (fun r : Nat => ldW t (h 73) r n) r) (ldW t (h 73) r n)
        by_cases z : r = 0
        · subst z
          rw [if_pos rfl] at e
          have l0 := lb ((0 : Nat) : Int)
          show _ = max (ldW t (h 73) ((0 : Nat) : Int) n) (ldW t (h 73) ((0 : Nat) : Int) n)
          omega
        · rw [if_neg z] at e; rw [e])
      rw [show ((r + 1 : Nat) : Int) = (r : Int) + 1 by omega] at kk
      exact kk
  have m0 := main b 0 0 (by omega) rfl
  exact m0
theorem s_place (hn : 144 ≤ ζ.2.2.2.2) (b1 : 1 ≤ b) (b4 : b ≤ 4) (n9 : n ≤ 9) (ht : ∀ j : Nat, j < n → 0 ≤ t j ∧ t j ≤ 99) (hAr : rg A) (hAll : ∀ u, canW b u n → A ≤ vlW t b n u) : ∀ (m i : Nat) (h : HI) (QV : HI → Prop), i + m = n → shH t b n A h → canW b (h 73) i → (∀ r : Int, 0 ≤ r → r < b → h 74 r = ldW t (h 73) r i) → (0 ≤ h 70 3 ∧ h 70 3 ≤ 1000) → (∀ g', FL [(70, 3), (72, -1), (73, -1), (74, -1)] h g' → (∀ j : Nat, j < i → g' 73 j = h 73 j) → (∀ r : Int, 0 ≤ r → r < b → g' 74 r = h 74 r) → (0 ≤ g' 70 3 ∧ g' 70 3 ≤ 1000) → shS t b n (exW i (h 73)) (h 70 3) (g' 70 3) (h 72) (g' 72) → QV g') → RtV l (D + m + 2) mX4_place (zz ζ) [aP 70, aI i, aI (usW (h 73) i)] h QV := by
  intro m
  induction m with
  | zero =>
    intro i h QV hi H hc hb hL hq
    have : i = n := by omega
    subst this
    refine e_X4_place hn ⟨by constructor <;> omega, by rw [H.1]; constructor <;> omega, iteN (by rw [H.1]; omega) (s_take hn H b1 b4 n9 ht hc hb hL (fun g' f e73 e74 gL sS => ?_))⟩
    exact hq g' f (fun j _ => by rw [e73]) (fun r _ _ => by rw [e74]) gL sS
  | succ m ih =>
    intro i h QV hi H hc hb hL hq
    have ub := usW_bd (h 73) i
    refine e_X4_place hn ⟨by constructor <;> omega, by rw [H.1]; constructor <;> omega, iteP (by rw [H.1]; omega) ?_⟩
    have sval : ∀ (L : Int) (S : (Int → Int) → Prop), (∀ u, canW b u n → S u → L ≤ vlW t b n u) → ∀ w, shS t b n S L L w w := fun L S hS w => shS_none hS
    have loop : ∀ (d r : Nat) (g : HI), r + d = b → FL [(70, 3), (72, -1), (73, -1), (74, -1)] h g → (∀ j : Nat, j < i → g 73 j = h 73 j) → (∀ q : Int, 0 ≤ q → q < b → g 74 q = h 74 q) → (0 ≤ g 70 3 ∧ g 70 3 ≤ 1000) → shS t b n (fun u => exW i (h 73) u ∧ u i < r) (h 70 3) (g 70 3) (h 72) (g 72) → G l (D + m + 3) 0 0 mX4_place (zz ζ) 15 [aP 70, aI i, aI (usW (h 73) i), aI r] [] g (qV (zz ζ) QV) := by
      intro d
      induction d with
      | zero =>
        intro r g hr f p73 p74 gL sS
        have Hg := H.fl f
        have fin : QV g := hq g f p73 p74 gL (shS_imp sS (fun u cu => ⟨fun q => q.1, fun q => ⟨q, by have := (cu i (by omega)).2.2; omega⟩⟩))
        exact b_X4_place_15 hn ⟨by constructor <;> omega, by constructor <;> omega, iteI (fun _ => fin) (fun _ => ⟨by rw [Hg.2.1]; constructor <;> omega, iteP (by rw [Hg.2.1]; omega) fin⟩)⟩
      | succ d ihd =>
        intro r g hr f p73 p74 gL sS
        have Hg := H.fl f
        have usame : ∀ u, canW b u n → exW i (h 73) u → u i ≤ usW (h 73) i := fun u cu ex => by
          have := (cu i (by omega)).2.1
          rwa [usW_congr (w := u) (w' := h 73) ex] at this
        refine b_X4_place_15 hn ⟨by constructor <;> omega, by constructor <;> omega, iteI (fun y => ?_) (fun y => ⟨by rw [Hg.2.1]; constructor <;> omega, iteN (by rw [Hg.2.1]; omega) ⟨by constructor <;> omega, by rw [Hg.2.2.1]; exact hAr, iteI (fun y2 => ?_) (fun y2 => ⟨⟨by omega, by omega⟩, ⟨by omega, by omega⟩, ?_⟩)⟩⟩)⟩
        · refine hq g f p73 p74 gL (shS_imp sS (fun u cu => ⟨fun q => q.1, fun q => ⟨q, ?_⟩⟩))
          have := usame u cu q; omega
        · rw [Hg.2.2.1] at y2
          refine hq g f p73 p74 gL (shS_imp (shS_seq (S2 := fun u => exW i (h 73) u ∧ (r : Int) ≤ u i) sS (shS_none (fun u cu _ => by have := hAll u cu; omega)) (fun u v su sv lx => ?_) (fun u v su e => ⟨fun j hj => by rw [← e j (by omega)]; exact su.1 j hj, by rw [← e i (by omega)]; exact su.2⟩)) (fun u cu => ⟨fun q => q.elim (fun z => z.1) (fun z => z.1), fun q => ?_⟩))
          · obtain ⟨k, k1, k2, k3⟩ := lx
            by_cases c : k < i
            · rw [su.1 k c, sv.1 k c] at k3; omega
            · by_cases c2 : k = i
              · rw [c2] at k3; have := su.2; have := sv.2; omega
              · have := k2 i (by omega); have := su.2; have := sv.2; omega
          · by_cases c : u i < r
            · exact Or.inl ⟨q, c⟩
            · exact Or.inr ⟨q, by omega⟩
        · rw [p74 r (by omega) (by omega), hb r (by omega) (by omega), Hg.2.2.2 i (by omega) (by omega)]
          have lr := ldW_bd (t := t) (w := h 73) (r := (r : Int)) ht (k := i) (by omega)
          have ti := ht i (by omega)
          have seqord : ∀ u v, (exW i (h 73) u ∧ u i < r) → (exW i (h 73) v ∧ v i = r) → ¬ lxW n v u := by
            intro u v su sv lx
            obtain ⟨k, k1, k2, k3⟩ := lx
            by_cases c : k < i
            · rw [su.1 k c, sv.1 k c] at k3; omega
            · by_cases c2 : k = i
              · rw [c2] at k3; have := su.2; have := sv.2; omega
              · have := k2 i (by omega); have := su.2; have := sv.2; omega
          have seqc : ∀ u v, (exW i (h 73) u ∧ u i < r) → (∀ j : Nat, j < n → u j = v j) → (exW i (h 73) v ∧ v i < r) := fun u v su e => ⟨fun j hj => by rw [← e j (by omega)]; exact su.1 j hj, by rw [← e i (by omega)]; exact su.2⟩
          have nextS : ∀ u, canW b u n → (((exW i (h 73) u ∧ u i < r) ∨ (exW i (h 73) u ∧ u i = r)) ↔ (exW i (h 73) u ∧ u i < ((r + 1 : Nat) : Int))) := fun u _ => ⟨fun q => q.elim (fun z => ⟨z.1, by have := z.2; omega⟩) (fun z => ⟨z.1, by have := z.2; omega⟩), fun q => by
            by_cases c : u i < r
            · exact Or.inl ⟨q.1, c⟩
            · exact Or.inr ⟨q.1, by have := q.2; omega⟩⟩
          refine ⟨by constructor <;> omega, iteI (fun y3 => ?_) (fun y3 => ?_)⟩
          · -- too much already
            have none : shS t b n (fun u => exW i (h 73) u ∧ u i = r) (g 70 3) (g 70 3) (g 72) (g 72) := shS_none (fun u cu su => by
              have e1 : ldW t u r (i + 1) = ldW t (h 73) r i + t i := by
                show ldW t u r i + (if decide (u i = r) then t i else 0) = _
                rw [ldW_congr (w := u) (w' := h 73) su.1, decide_eq_true su.2]; rfl
              have e2 := ldW_mono (t := t) (w := u) (r := (r : Int)) (n := n) (fun j hj => (ht j hj).1) (i := i + 1) (k := n) (by omega) (Nat.le_refl _)
              have e3 := (mxI_le (f := fun q => ldW t u q n) (x := vlW t b n u) b1).mp (Int.le_refl _) r (by omega)
              omega)
            have kk := ihd (r + 1) g (by omega) f p73 p74 gL (shS_imp (shS_seq sS none seqord seqc) nextS)
            rw [show ((r + 1 : Nat) : Int) = (r : Int) + 1 by omega] at kk
            exact kk
          · -- go down
            have ca : canW b (g 73) i := canW_congr (fun j hj => (p73 j hj).symm) hc
            have eu : usW (g 73) i = usW (h 73) i := usW_congr p73
            have sn := canW_snoc ca (r := (r : Int)) (by omega) (by rw [eu]; omega) (by omega)
            rw [eu] at sn
            have child : ∀ (x2 : Int), x2 = usW (fu (g 73) i r) (i + 1) → RtV l (D + m + 2) mX4_place (zz ζ) [aP 70, aI ((i : Int) + 1), aI x2] (hu (hu g 73 i r) 74 r (ldW t (h 73) r i + t i)) (fun h1 => G l (D + m + 3) 0 0 mX4_place (zz ζ) 15 [aP 70, aI i, aI (usW (h 73) i), aI ((r : Int) + 1)] [] (hu h1 74 r (h1 74 r - h1 71 i)) (qV (zz ζ) QV)) := by
              intro x2 ex2
              have e73 : (hu (hu g 73 i r) 74 r (ldW t (h 73) r i + t i)) 73 = fu (g 73) i r := by rw [hu_c _ _ _ (by decide), hu_fu]
              have fC : FL [(70, 3), (72, -1), (73, -1), (74, -1)] g (hu (hu g 73 i r) 74 r (ldW t (h 73) r i + t i)) := (FL.refl.ua rfl).ua rfl
              have e3 : (hu (hu g 73 i r) 74 r (ldW t (h 73) r i + t i)) 70 3 = g 70 3 := by rw [hu_c _ _ _ (by decide), hu_c _ _ _ (by decide)]
              have e72 : (hu (hu g 73 i r) 74 r (ldW t (h 73) r i + t i)) 72 = g 72 := by rw [hu_c _ _ _ (by decide), hu_c _ _ _ (by decide)]
              have e74 : ∀ q : Int, 0 ≤ q → q < b → (hu (hu g 73 i r) 74 r (ldW t (h 73) r i + t i)) 74 q = ldW t (fu (g 73) i r) q (i + 1) := by
                intro q q0 q1
                rw [ldW_snoc, ldW_congr (w := g 73) (w' := h 73) p73]
                by_cases c : q = r
                · rw [c, hu_s, if_pos rfl]
                · rw [hu_j _ _ _ c, hu_c _ _ _ (by decide), p74 q q0 q1, hb q q0 q1, if_neg (fun z => c z.symm)]; omega
              generalize (hu (hu g 73 i r) 74 r (ldW t (h 73) r i + t i)) = gC at e73 fC e3 e72 e74 ⊢
              have kk := ih (i + 1) gC (fun h1 => G l (D + m + 3) 0 0 mX4_place (zz ζ) 15 [aP 70, aI i, aI (usW (h 73) i), aI ((r : Int) + 1)] [] (hu h1 74 r (h1 74 r - h1 71 i)) (qV (zz ζ) QV)) (by omega) (Hg.fl fC) (by rw [e73]; exact sn.1) (by rw [e73]; exact e74) (by rw [e3]; exact gL) (fun g1 f1 q73 q74 q3 qS => ?_)
              · rw [e73, ← ex2, show ((i + 1 : Nat) : Int) = (i : Int) + 1 by omega] at kk
                exact kk
              · have FG : FL [(70, 3), (72, -1), (73, -1), (74, -1)] h (hu g1 74 r (g1 74 r - g1 71 i)) := ((f.trans fC).trans f1).ua rfl
                have g171 : g1 71 i = t i := by rw [f1.c 71 rfl]; exact (Hg.fl fC).2.2.2 i (by omega) (by omega)
                rw [e73] at q73
                rw [e3, e72, e73] at qS
                have qS' : shS t b n (fun u => exW i (h 73) u ∧ u i = r) (g 70 3) (g1 70 3) (g 72) (g1 72) := shS_imp qS (fun u cu => ⟨fun ex => ⟨fun j hj => ?_, ?_⟩, fun ex j hj => ?_⟩)
                · have nx := ihd (r + 1) (hu g1 74 r (g1 74 r - g1 71 i)) (by omega) FG (fun j hj => ?_) (fun q q0 q1 => ?_) (by rw [hu_c _ _ _ (by decide)]; exact q3) (by
                    rw [hu_c _ _ _ (by decide), hu_c _ _ _ (by decide)]
                    exact shS_imp (shS_seq sS qS' seqord seqc) nextS)
                  · rw [show ((r + 1 : Nat) : Int) = (r : Int) + 1 by omega] at nx
                    exact nx
                  · rw [hu_c _ _ _ (by decide), q73 j (by omega), fu_n _ _ (by omega)]; exact p73 j hj
                  · by_cases c : q = r
                    · rw [c, hu_s, g171, q74 r (by omega) (by omega), e74 r (by omega) (by omega), ldW_snoc, if_pos rfl, ldW_congr (w := g 73) (w' := h 73) p73, hb r (by omega) (by omega)]; omega
                    · rw [hu_j _ _ _ c, q74 q q0 q1, e74 q q0 q1, ldW_snoc, if_neg (fun z => c z.symm), ldW_congr (w := g 73) (w' := h 73) p73, hb q q0 q1]; omega
                · rw [ex j (by omega), fu_n _ _ (by omega)]; exact p73 j hj
                · have := ex i (by omega); rw [fu_s] at this; exact this
                · by_cases c : j = i
                  · rw [c, fu_s]; exact ex.2
                  · rw [fu_n _ _ (by omega), p73 j (by omega)]; exact ex.1 j (by omega)
            refine iteI (fun y4 => ?_) (fun y4 => ?_)
            · refine child _ ?_
              rw [sn.2, if_neg y4]
            · refine child _ ?_
              rw [sn.2, if_pos (Classical.not_not.mp y4)]
    exact loop b 0 h (by omega) FL.refl (fun _ _ => rfl) (fun _ _ _ => rfl) hL (shS_none (fun u cu su => by have := (cu i (by omega)).1; have := su.2; omega))
end SH2
