/-! rows: the class's search -/
def rwL : List (Nat × Int) := [(52, 2), (52, 3), (52, 4), (53, -1), (56, -1), (57, -1), (58, -1), (59, -1)]
theorem rowH.fl {v fl : Int → Int} {s e n : Nat} {g g' : HI} (H : rowH v fl s e n g) (f : FL rwL g g') : rowH v fl s e n g' := by
  unfold rowH dnh dnf rzI at H ⊢
  rw [f.at 52 0 rfl, f.at 52 5 rfl, f.at 52 6 rfl, f.c 54 rfl, f.c 55 rfl, f.c 60 rfl, f.c 61 rfl, f.c 62 rfl, f.c 63 rfl]
  exact H
theorem exW_on {n i : Nat} {p : Int → Int} (hi : i ≤ n) : onP n (exW i p) := fun u v su e j hj => by rw [← e j (by omega)]; exact su j hj
theorem seq_ord {n i : Nat} {p : Int → Int} {r : Nat} (u v : Int → Int) (su : exW i p u ∧ u i < r) (sv : exW i p v ∧ v i = r) : ¬ lxW n v u := by
  intro lx
  obtain ⟨k, k1, k2, k3⟩ := lx
  by_cases c : k < i
  · rw [su.1 k c, sv.1 k c] at k3; omega
  · by_cases c2 : k = i
    · rw [c2] at k3; have := su.2; have := sv.2; omega
    · have := k2 i (by omega); have := su.2; have := sv.2; omega
theorem seq_on {n i : Nat} {p : Int → Int} {r : Nat} (hi : i < n) : onP n (fun u => exW i p u ∧ u i < (r : Int)) := fun u v su e => ⟨fun j hj => by rw [← e j (by omega)]; exact su.1 j hj, by rw [← e i (by omega)]; exact su.2⟩
theorem seq_nx {i : Nat} {p : Int → Int} {r : Nat} (u : Int → Int) : (((exW i p u ∧ u i < r) ∨ (exW i p u ∧ u i = r)) ↔ (exW i p u ∧ u i < ((r + 1 : Nat) : Int))) := ⟨fun q => q.elim (fun z => ⟨z.1, by have := z.2; omega⟩) (fun z => ⟨z.1, by have := z.2; omega⟩), fun q => by
  by_cases c : u i < r
  · exact Or.inl ⟨q.1, c⟩
  · exact Or.inr ⟨q.1, by have := q.2; omega⟩⟩
theorem cn_full {s e n i : Nat} {p u : Int → Int} {r : Nat} (hr : r < s) (hi : i < n) (cu : rwC s e n u) (x : exW i p u) (ur : u i = r) : cnW p r i + 1 ≤ e := by
  have e1 : cnW u r (i + 1) = cnW p r i + 1 := by
    show ldW (fun _ => 1) u r i + (if decide (u i = r) then 1 else 0) = _
    rw [ldW_congr (w := u) (w' := p) x, decide_eq_true ur]; rfl
  have e2 : cnW u r (i + 1) ≤ cnW u r n := ldW_mono (t := fun _ => 1) (w := u) (r := (r : Int)) (n := n) (fun j hj => by show (0 : Int) ≤ 1; omega) (i := i + 1) (k := n) (by omega) (Nat.le_refl _)
  have := cu.2 r hr
  omega
section RWC
variable {l : Launch} {D : Nat} {ζ : ZP} {v fl : Int → Int} {s e n : Nat}
theorem s_rplace (hn : 144 ≤ ζ.2.2.2.2) (n12 : n ≤ 12) (s1 : 1 ≤ s) (s12 : s ≤ 12) (hse : s * e = n) : ∀ (m i : Nat) (h : HI) (QV : HI → Prop), i + m = n → rowH v fl s e n h → rwP v fl s e i (h 56) h → rbO h → (i = n → rwV v fl s n (h 56) < rLB h) → (∀ g', FL rwL h g' → (∀ j : Nat, j < i → g' 56 j = h 56 j) → (∀ r : Nat, r < s → g' 57 r = h 57 r ∧ g' 58 r = h 58 r ∧ g' 59 r = h 59 r) → rbO g' → rwS n (rwC s e n) (rwV v fl s n) (exW i (h 56)) (rLB h) (rLB g') (h 53) (g' 53) → QV g') → RtV l (D + m + 4) mX2_place (zz ζ) [aP 52, aI i, aI (usW (h 56) i)] h QV := by
  intro m
  induction m with
  | zero =>
    intro i h QV hi H P B hx hq
    have : i = n := by omega
    subst this
    have vb : ∀ j : Nat, j < i → 0 ≤ v j ∧ v j ≤ 10000 := fun j hj => (H.2.1 j hj).1.2
    have fb : ∀ j : Nat, j < i → 0 ≤ fl j ∧ fl j ≤ 1000000 := fun j hj => (H.2.1 j hj).2.2
    have op := rw_open hse (Nat.le_refl _) P.1 (fun r hr => (P.2 r hr).2)
    have C : rwC s e i (h 56) := ⟨P.1, fun r hr => by have := op r hr; omega⟩
    refine e_X2_place hn ⟨by constructor <;> omega, by rw [H.1.1]; constructor <;> omega, iteN (by rw [H.1.1]; omega) (s_rtake hn (f := fun r : Nat => ldW v (h 56) r i) (fl := fun r : Nat => ldW fl (h 56) r i) n12 s1 s12 H.1.1 H.1.2.1 (fun r hr => ?_) (fun g' F e2 e3 e4 e53 => ?_))⟩
    · have pr := (P.2 r hr).1
      have q1 := ld_bdL (t := v) (w := h 56) (r := r) (L := 10000) (k := i) (n := i) vb (Nat.le_refl _)
      have q2 := ld_bdL (t := fl) (w := h 56) (r := r) (L := 1000000) (k := i) (n := i) fb (Nat.le_refl _)
      exact ⟨⟨pr.1, q1.1, by omega⟩, pr.2.1, q2.1, by omega⟩
    · have w1 := w_bdL (t := v) (u := h 56) (s := s) (n := i) s1 vb
      have w2 := w_bdL (t := fl) (u := h 56) (s := s) (n := i) s1 fb
      have e2' : g' 52 2 = wkW v (h 56) s i := e2
      have e3' : g' 52 3 = tpW v (h 56) s i - wkW v (h 56) s i := e3
      have e4' : g' 52 4 = tpW fl (h 56) s i - wkW fl (h 56) s i := e4
      refine hq g' (F.mono rfl) (fun j _ => by rw [F.c 56 rfl]) (fun r _ => by rw [F.c 57 rfl, F.c 58 rfl, F.c 59 rfl]; exact ⟨rfl, rfl, rfl⟩) ?_ ?_
      · unfold rbO
        rw [e2', e3', e4']
        omega
      · have el : rLB g' = rwV v fl s i (h 56) := by unfold rLB rwV; rw [e2', e3', e4']
        exact rwS_one rwC_on rwV_on (exW_on (Nat.le_refl _)) (w := h 56) (fun _ _ => rfl) (fun u cu su j hj => su j hj) (Or.inr ⟨C, hx rfl, el, e53⟩)
  | succ m ih =>
    intro i h QV hi H P B hx hq
    have ub := usW_bd (h 56) i
    have hc := P.1
    refine e_X2_place hn ⟨by constructor <;> omega, by rw [H.1.1]; constructor <;> omega, iteP (by rw [H.1.1]; omega) ?_⟩
    have loop : ∀ (d r : Nat) (g : HI), r + d = s → FL rwL h g → (∀ j : Nat, j < i → g 56 j = h 56 j) → (∀ q : Nat, q < s → g 57 q = h 57 q ∧ g 58 q = h 58 q ∧ g 59 q = h 59 q) → rbO g → rwS n (rwC s e n) (rwV v fl s n) (fun u => exW i (h 56) u ∧ u i < r) (rLB h) (rLB g) (h 53) (g 53) → G l (D + m + 5) 0 0 mX2_place (zz ζ) 15 [aP 52, aI i, aI (usW (h 56) i), aI r] [] g (qV (zz ζ) QV) := by
      intro d
      induction d with
      | zero =>
        intro r g hr f p56 p57 Bg sS
        have Hg := H.fl f
        have fin : QV g := hq g f p56 p57 Bg (rwS_imp sS (fun u cu => ⟨fun q => q.1, fun q => ⟨q, by have := (cu.1 i (by omega)).2.2; omega⟩⟩))
        exact b_X2_place_15 hn ⟨by constructor <;> omega, by constructor <;> omega, iteI (fun _ => fin) (fun _ => ⟨by rw [Hg.1.2.1]; constructor <;> omega, iteP (by rw [Hg.1.2.1]; omega) fin⟩)⟩
      | succ d ihd =>
        intro r g hr f p56 p57 Bg sS
        have Hg := H.fl f
        have pr := P.2 r (by omega)
        have gr := p57 r (by omega)
        have usame : ∀ u, rwC s e n u → exW i (h 56) u → u i ≤ usW (h 56) i := fun u cu ex => by
          have := (cu.1 i (by omega)).2.1
          rwa [usW_congr (w := u) (w' := h 56) ex] at this
        have vi := H.2.1 i (by omega)
        refine b_X2_place_15 hn ⟨by constructor <;> omega, by constructor <;> omega, iteI (fun y => ?_) (fun y => ⟨by rw [Hg.1.2.1]; constructor <;> omega, iteN (by rw [Hg.1.2.1]; omega) ⟨⟨by omega, by omega⟩, ?_⟩⟩)⟩
        · refine hq g f p56 p57 Bg (rwS_imp sS (fun u cu => ⟨fun q => q.1, fun q => ⟨q, ?_⟩⟩))
          have := usame u cu q; omega
        · rw [gr.2.2, pr.1.2.2, Hg.1.2.2]
          have cb : 0 ≤ cnW (h 56) r i ∧ cnW (h 56) r i ≤ 1 * i := ld_bdL (t := fun _ => 1) (w := h 56) (r := r) (L := 1) (k := i) (n := i) (fun _ _ => by show (0 : Int) ≤ 1 ∧ (1 : Int) ≤ 1; omega) (Nat.le_refl _)
          have he : e ≤ n := by rw [← hse]; exact Nat.le_mul_of_pos_left e (by omega)
          refine ⟨by constructor <;> omega, by constructor <;> omega, iteI (fun y3 => ?_) (fun y3 => ?_)⟩
          · have kk := ihd (r + 1) g (by omega) f p56 p57 Bg (rwS_imp (rwS_seq rwC_on rwV_on sS (rwS_none (S := fun u => exW i (h 56) u ∧ u i = r) (fun u cu su => absurd (cn_full (by omega) (by omega) cu su.1 su.2) (by omega))) seq_ord (seq_on (by omega))) (fun u _ => seq_nx u))
            rw [show ((r + 1 : Nat) : Int) = (r : Int) + 1 by omega] at kk
            exact kk
          · have ca : canW s (g 56) i := canW_congr (fun j hj => (p56 j hj).symm) hc
            have eu : usW (g 56) i = usW (h 56) i := usW_congr p56
            have sn := canW_snoc ca (r := (r : Int)) (by omega) (by rw [eu]; omega) (by omega)
            rw [eu] at sn
            refine e_X2_put hn ⟨⟨by omega, by omega⟩, ⟨by omega, by omega⟩, ?_⟩
            have fC : FL rwL g (hu (hu (hu (hu g 56 i r) 57 r (g 57 r + 1 * g 54 i)) 58 r (g 58 r + 1 * g 55 i)) 59 r (g 59 r + 1)) := (((FL.refl.ua rfl).ua rfl).ua rfl).ua rfl
            have e56 : (hu (hu (hu (hu g 56 i r) 57 r (g 57 r + 1 * g 54 i)) 58 r (g 58 r + 1 * g 55 i)) 59 r (g 59 r + 1)) 56 = fu (g 56) i r := by rw [hu_c _ _ _ (by decide), hu_c _ _ _ (by decide), hu_c _ _ _ (by decide), hu_fu]
            have e52 : (hu (hu (hu (hu g 56 i r) 57 r (g 57 r + 1 * g 54 i)) 58 r (g 58 r + 1 * g 55 i)) 59 r (g 59 r + 1)) 52 = g 52 := by rw [hu_c _ _ _ (by decide), hu_c _ _ _ (by decide), hu_c _ _ _ (by decide), hu_c _ _ _ (by decide)]
            have e53 : (hu (hu (hu (hu g 56 i r) 57 r (g 57 r + 1 * g 54 i)) 58 r (g 58 r + 1 * g 55 i)) 59 r (g 59 r + 1)) 53 = g 53 := by rw [hu_c _ _ _ (by decide), hu_c _ _ _ (by decide), hu_c _ _ _ (by decide), hu_c _ _ _ (by decide)]
            have e57 : ∀ q : Nat, q < s → (hu (hu (hu (hu g 56 i r) 57 r (g 57 r + 1 * g 54 i)) 58 r (g 58 r + 1 * g 55 i)) 59 r (g 59 r + 1)) 57 q = ldW v (fu (g 56) i r) q (i + 1) ∧ (hu (hu (hu (hu g 56 i r) 57 r (g 57 r + 1 * g 54 i)) 58 r (g 58 r + 1 * g 55 i)) 59 r (g 59 r + 1)) 58 q = ldW fl (fu (g 56) i r) q (i + 1) ∧ (hu (hu (hu (hu g 56 i r) 57 r (g 57 r + 1 * g 54 i)) 58 r (g 58 r + 1 * g 55 i)) 59 r (g 59 r + 1)) 59 q = cnW (fu (g 56) i r) q (i + 1) := by
              intro q hq1
              have pq := P.2 q hq1
              have gq := p57 q hq1
              unfold cnW
              rw [ldW_snoc, ldW_snoc, ldW_snoc, ldW_congr (w := g 56) (w' := h 56) p56, ldW_congr (w := g 56) (w' := h 56) p56, ldW_congr (w := g 56) (w' := h 56) p56]
              have pc : h 59 q = ldW (fun _ => 1) (h 56) q i := pq.1.2.2
              by_cases c : (q : Int) = r
              · rw [if_pos c.symm, if_pos c.symm, if_pos c.symm]
                rw [hu_c _ _ _ (by decide), hu_c _ _ _ (by decide), c, hu_s, hu_c _ _ _ (by decide), hu_s, hu_s]
                have : q = r := by omega
                subst this
                rw [gq.1, gq.2.1, gq.2.2, pq.1.1, pq.1.2.1, pc, (Hg.2.1 i (by omega)).1.1, (Hg.2.1 i (by omega)).2.1]
                exact ⟨by omega, by omega, rfl⟩
              · rw [if_neg (fun z => c z.symm), if_neg (fun z => c z.symm), if_neg (fun z => c z.symm)]
                rw [hu_c _ _ _ (by decide), hu_c _ _ _ (by decide), hu_j _ _ _ c, hu_c _ _ _ (by decide), hu_c _ _ _ (by decide), hu_j _ _ _ c, hu_c _ _ _ (by decide), hu_c _ _ _ (by decide), hu_j _ _ _ c, hu_c _ _ _ (by decide), hu_c _ _ _ (by decide), hu_c _ _ _ (by decide)]
                rw [gq.1, gq.2.1, gq.2.2, pq.1.1, pq.1.2.1, pc]
                exact ⟨by omega, by omega, by omega⟩
            generalize (hu (hu (hu (hu g 56 i r) 57 r (g 57 r + 1 * g 54 i)) 58 r (g 58 r + 1 * g 55 i)) 59 r (g 59 r + 1)) = gC at fC e56 e52 e53 e57 ⊢
            have HC := Hg.fl fC
            have BC : rbO gC := by unfold rbO; rw [e52]; exact Bg
            have eL : rLB gC = rLB g := by unfold rLB; rw [e52]
            have PC : rwP v fl s e (i + 1) (gC 56) gC := by
              rw [e56]
              refine ⟨sn.1, fun q hq1 => ⟨e57 q hq1, ?_⟩⟩
              have pq := P.2 q hq1
              have : cnW (fu (g 56) i r) q (i + 1) = cnW (h 56) q i + (if (r : Int) = q then 1 else 0) := by
                unfold cnW
                rw [ldW_snoc, ldW_congr (w := g 56) (w' := h 56) p56]
              rw [this]
              split
              · have : q = r := by omega
                subst this; omega
              · omega
            have exS : ∀ u, exW (i + 1) (gC 56) u ↔ (exW i (h 56) u ∧ u i = r) := fun u => by
              rw [e56]
              refine ⟨fun ex => ⟨fun j hj => by rw [ex j (by omega), fu_n _ _ (by omega)]; exact p56 j hj, by have := ex i (by omega); rw [fu_s] at this; exact this⟩, fun ex j hj => ?_⟩
              by_cases c : j = i
              · rw [c, fu_s]; exact ex.2
              · rw [fu_n _ _ (by omega), p56 j (by omega)]; exact ex.1 j (by omega)
            have back : ∀ g1, FL rwL gC g1 → (∀ j : Nat, j < i + 1 → g1 56 j = gC 56 j) → (∀ q : Nat, q < s → g1 57 q = gC 57 q ∧ g1 58 q = gC 58 q ∧ g1 59 q = gC 59 q) → rbO g1 → rwS n (rwC s e n) (rwV v fl s n) (exW (i + 1) (gC 56)) (rLB gC) (rLB g1) (gC 53) (g1 53) → RtV l (D + m + 4) mX2_put (zz ζ) [aP 52, aI i, aI r, aI (-1)] g1 (fun h3 => G l (D + m + 5) 0 0 mX2_place (zz ζ) 15 [aP 52, aI i, aI (usW (h 56) i), aI ((r : Int) + 1)] [] h3 (qV (zz ζ) QV)) := by
              intro g1 f1 q56 q57 B1 S1
              refine e_X2_put hn ⟨⟨by omega, by omega⟩, ⟨by omega, by omega⟩, ?_⟩
              have H1 := HC.fl f1
              have F1 : FL rwL h (hu (hu (hu (hu g1 56 i r) 57 r (g1 57 r + -1 * g1 54 i)) 58 r (g1 58 r + -1 * g1 55 i)) 59 r (g1 59 r + -1)) := ((((((f.trans fC).trans f1).ua rfl).ua rfl).ua rfl).ua rfl)
              have k56 : ∀ j : Nat, j < i → (hu (hu (hu (hu g1 56 i r) 57 r (g1 57 r + -1 * g1 54 i)) 58 r (g1 58 r + -1 * g1 55 i)) 59 r (g1 59 r + -1)) 56 j = h 56 j := fun j hj => by
                rw [hu_c _ _ _ (by decide), hu_c _ _ _ (by decide), hu_c _ _ _ (by decide), hu_j _ _ _ (by omega), q56 j (by omega), e56, fu_n _ _ (by omega)]; exact p56 j hj
              have k52 : (hu (hu (hu (hu g1 56 i r) 57 r (g1 57 r + -1 * g1 54 i)) 58 r (g1 58 r + -1 * g1 55 i)) 59 r (g1 59 r + -1)) 52 = g1 52 := by rw [hu_c _ _ _ (by decide), hu_c _ _ _ (by decide), hu_c _ _ _ (by decide), hu_c _ _ _ (by decide)]
              have k53 : (hu (hu (hu (hu g1 56 i r) 57 r (g1 57 r + -1 * g1 54 i)) 58 r (g1 58 r + -1 * g1 55 i)) 59 r (g1 59 r + -1)) 53 = g1 53 := by rw [hu_c _ _ _ (by decide), hu_c _ _ _ (by decide), hu_c _ _ _ (by decide), hu_c _ _ _ (by decide)]
              have k57 : ∀ q : Nat, q < s → (hu (hu (hu (hu g1 56 i r) 57 r (g1 57 r + -1 * g1 54 i)) 58 r (g1 58 r + -1 * g1 55 i)) 59 r (g1 59 r + -1)) 57 q = h 57 q ∧ (hu (hu (hu (hu g1 56 i r) 57 r (g1 57 r + -1 * g1 54 i)) 58 r (g1 58 r + -1 * g1 55 i)) 59 r (g1 59 r + -1)) 58 q = h 58 q ∧ (hu (hu (hu (hu g1 56 i r) 57 r (g1 57 r + -1 * g1 54 i)) 58 r (g1 58 r + -1 * g1 55 i)) 59 r (g1 59 r + -1)) 59 q = h 59 q := by
                intro q hq1
                have pq := P.2 q hq1
                have eq := e57 q hq1
                have qq := q57 q hq1
                unfold cnW at eq
                rw [ldW_snoc, ldW_snoc, ldW_snoc, ldW_congr (w := g 56) (w' := h 56) p56, ldW_congr (w := g 56) (w' := h 56) p56, ldW_congr (w := g 56) (w' := h 56) p56] at eq
                have pc : h 59 q = ldW (fun _ => 1) (h 56) q i := pq.1.2.2
                by_cases c : (q : Int) = r
                · rw [if_pos c.symm, if_pos c.symm, if_pos c.symm] at eq
                  rw [hu_c _ _ _ (by decide), hu_c _ _ _ (by decide), c, hu_s, hu_c _ _ _ (by decide), hu_s, hu_s]
                  have : q = r := by omega
                  subst this
                  rw [qq.1, qq.2.1, qq.2.2, eq.1, eq.2.1, eq.2.2, pq.1.1, pq.1.2.1, pc, (H1.2.1 i (by omega)).1.1, (H1.2.1 i (by omega)).2.1]
                  exact ⟨by omega, by omega, by omega⟩
                · rw [if_neg (fun z => c z.symm), if_neg (fun z => c z.symm), if_neg (fun z => c z.symm)] at eq
                  rw [hu_c _ _ _ (by decide), hu_c _ _ _ (by decide), hu_j _ _ _ c, hu_c _ _ _ (by decide), hu_c _ _ _ (by decide), hu_j _ _ _ c, hu_c _ _ _ (by decide), hu_c _ _ _ (by decide), hu_j _ _ _ c, hu_c _ _ _ (by decide), hu_c _ _ _ (by decide), hu_c _ _ _ (by decide)]
                  rw [qq.1, qq.2.1, qq.2.2, eq.1, eq.2.1, eq.2.2, pq.1.1, pq.1.2.1, pc]
                  exact ⟨by omega, by omega, by omega⟩
              generalize (hu (hu (hu (hu g1 56 i r) 57 r (g1 57 r + -1 * g1 54 i)) 58 r (g1 58 r + -1 * g1 55 i)) 59 r (g1 59 r + -1)) = g2 at F1 k56 k52 k53 k57 ⊢
              have eL2 : rLB g2 = rLB g1 := by unfold rLB; rw [k52]
              rw [eL, e53] at S1
              have nx := ihd (r + 1) g2 (by omega) F1 k56 k57 (by unfold rbO; rw [k52]; exact B1) (by
                rw [eL2, k53]
                exact rwS_imp (rwS_seq rwC_on rwV_on sS (rwS_imp S1 (fun u _ => exS u)) seq_ord (seq_on (by omega))) (fun u _ => seq_nx u))
              rw [show ((r + 1 : Nat) : Int) = (r : Int) + 1 by omega] at nx
              exact nx
            have go := s_hope (l := l) (D := D + m + 1) (ζ := ζ) (h := gC) (Q := fun r2 h2 => rg r2 ∧ (if r2 = 0 then RtV l (D + m + 4) mX2_put (zz ζ) [aP 52, aI i, aI r, aI (-1)] h2 (fun h3 => G l (D + m + 5) 0 0 mX2_place (zz ζ) 15 [aP 52, aI i, aI (usW (h 56) i), aI ((r : Int) + 1)] [] h3 (qV (zz ζ) QV)) else if ¬ (r : Int) = usW (h 56) i then RtV l (D + m + 4) mX2_place (zz ζ) [aP 52, aI ((i : Int) + 1), aI (usW (h 56) i)] h2 (fun h4 => RtV l (D + m + 4) mX2_put (zz ζ) [aP 52, aI i, aI r, aI (-1)] h4 (fun h5 => G l (D + m + 5) 0 0 mX2_place (zz ζ) 15 [aP 52, aI i, aI (usW (h 56) i), aI ((r : Int) + 1)] [] h5 (qV (zz ζ) QV))) else RtV l (D + m + 4) mX2_place (zz ζ) [aP 52, aI ((i : Int) + 1), aI (usW (h 56) i + 1)] h2 (fun h6 => RtV l (D + m + 4) mX2_put (zz ζ) [aP 52, aI i, aI r, aI (-1)] h6 (fun h7 => G l (D + m + 5) 0 0 mX2_place (zz ζ) 15 [aP 52, aI i, aI (usW (h 56) i), aI ((r : Int) + 1)] [] h7 (qV (zz ζ) QV))))) hn n12 s1 s12 hse (i := i + 1) (by omega) HC PC BC (fun yes => ?_) (fun no => ?_)
            · rw [show ((i + 1 : Nat) : Int) = (i : Int) + 1 by omega] at go
              exact go
            · have kk := ih (i + 1) gC (fun h4 => RtV l (D + m + 4) mX2_put (zz ζ) [aP 52, aI i, aI r, aI (-1)] h4 (fun h5 => G l (D + m + 5) 0 0 mX2_place (zz ζ) 15 [aP 52, aI i, aI (usW (h 56) i), aI ((r : Int) + 1)] [] h5 (qV (zz ζ) QV))) (by omega) HC PC BC yes back
              rw [show ((i + 1 : Nat) : Int) = (i : Int) + 1 by omega, e56, sn.2] at kk
              refine ⟨by decide, iteN (by decide) (iteI (fun y4 => ?_) (fun y4 => ?_))⟩
              · rw [if_neg y4] at kk; exact kk
              · rw [if_pos (Classical.not_not.mp y4)] at kk; exact kk
            · exact ⟨by decide, iteP rfl (back gC FL.refl (fun _ _ => rfl) (fun _ _ => ⟨rfl, rfl, rfl⟩) BC (rwS_none (fun u cu su => no u cu su)))⟩
    exact loop s 0 h (by omega) FL.refl (fun _ _ => rfl) (fun _ _ => ⟨rfl, rfl, rfl⟩) B (rwS_none (fun u cu su => by have := (cu.1 i (by omega)).1; have := su.2; omega))
end RWC
