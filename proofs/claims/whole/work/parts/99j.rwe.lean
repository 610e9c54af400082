/-! rows: the reference's walk, level by level -/
section RWE
variable {l : Launch} {D : Nat} {ζ : ZP} {v fl : Int → Int} {s e n : Nat} {Q : Int → HI → Prop}
def mCt (l : Launch) (D : Nat) (ζ : ZP) (s : Nat) (Q : Int → HI → Prop) (i : Nat) (g : HI) : Prop := if i = 0 then G l (D + 4) 0 0 mX12_rows (zz ζ) 96 [aP 97, aI s, aI ((i : Int) + (-1)), aU, aU] [] g (qI (zz ζ) Q) else RtV l (D + 3) mX12_put (zz ζ) [aP 97, aI ((i : Int) + (-1)), aI (g 115 ((i : Int) + (-1))), aI (-1)] g (fun h2 => G l (D + 4) 0 0 mX12_rows (zz ζ) 96 [aP 97, aI s, aI ((i : Int) + (-1)), aU, aU] [] h2 (qI (zz ζ) Q))
theorem s_mwalk (hn : 144 ≤ ζ.2.2.2.2) (n1 : 1 ≤ n) (n12 : n ≤ 12) (s1 : 1 ≤ s) (s12 : s ≤ 12) (hse : s * e = n) : ∀ (m i : Nat) (g : HI), i + m = n → mrH v fl n g → mrP v fl s e i (g 115) g → rmO g → (i < n → g 116 i = 0) → (∀ g', FL rmL g g' → (∀ j : Nat, j < i → g' 115 j = g 115 j) → (∀ j : Nat, j < i → g' 116 j = g 116 j) → (∀ r : Nat, r < s → g' 117 r = g 117 r ∧ g' 118 r = g 118 r ∧ g' 119 r = g 119 r) → rmO g' → rwS n (rwC s e n) (rwV v fl s n) (exW i (g 115)) (mLB g) (mLB g') (g 120) (g' 120) → mCt l D ζ s Q i g') → G l (D + 4) 0 0 mX12_rows (zz ζ) 96 [aP 97, aI s, aI i, aU, aU] [] g (qI (zz ζ) Q) := by
  intro m
  induction m with
  | zero =>
    intro i g hi H P B _ hq
    have : i = n := by omega
    subst this
    have op := rw_open hse (Nat.le_refl _) P.1 (fun r hr => (P.2 r hr).2)
    have C : rwC s e i (g 115) := ⟨P.1, fun r hr => by have := op r hr; omega⟩
    refine b_X12_rows_96 hn ⟨by constructor <;> omega, iteN (by omega) ⟨by rw [H.1]; constructor <;> omega, iteN (by rw [H.1]; omega) (s_mweigh hn n12 s1 s12 H P C B (fun g' f B' S' => ⟨⟨by omega, by omega⟩, ?_⟩))⟩⟩
    have kk := hq g' (f.mono rfl) (fun j _ => by rw [f.c 115 rfl]) (fun j _ => by rw [f.c 116 rfl]) (fun r _ => by rw [f.c 117 rfl, f.c 118 rfl, f.c 119 rfl]; exact ⟨rfl, rfl, rfl⟩) B' S'
    unfold mCt at kk
    rw [if_neg (by omega)] at kk
    exact kk
  | succ m ih =>
    intro i g hi H P B ht hq
    have hc := P.1
    have ub := usW_bd (g 115) i
    have he : e ≤ n := by rw [← hse]; exact Nat.le_mul_of_pos_left e (by omega)
    have loop : ∀ (d r : Nat) (g1 : HI), r + d = s → FL rmL g g1 → (∀ j : Nat, j < i → g1 115 j = g 115 j) → (∀ j : Nat, j < i → g1 116 j = g 116 j) → (∀ q : Nat, q < s → g1 117 q = g 117 q ∧ g1 118 q = g 118 q ∧ g1 119 q = g 119 q) → rmO g1 → g1 116 i = r → rwS n (rwC s e n) (rwV v fl s n) (fun u => exW i (g 115) u ∧ u i < r) (mLB g) (mLB g1) (g 120) (g1 120) → G l (D + 4) 0 0 mX12_rows (zz ζ) 96 [aP 97, aI s, aI i, aU, aU] [] g1 (qI (zz ζ) Q) := by
      intro d
      induction d with
      | zero =>
        intro r g1 hr f p115 p116 p117 B1 er sS
        have Hg := H.fl f
        have us : ∀ k : Nat, k ≤ i → usW (g1 115) k = usW (g 115) k := fun k hk => usW_congr (fun j hj => p115 j (by omega))
        have done : mCt l D ζ s Q i (hu g1 116 i ((r : Int) + 1)) := by
          refine hq _ (f.ua rfl) (fun j hj => by rw [hu_c _ _ _ (by decide)]; exact p115 j hj) (fun j hj => by rw [hu_j _ _ _ (by omega)]; exact p116 j hj) (fun q hq1 => by rw [hu_c _ _ _ (by decide), hu_c _ _ _ (by decide), hu_c _ _ _ (by decide)]; exact p117 q hq1) ?_ ?_
          · unfold rmO; rw [hu_c _ _ _ (by decide)]; exact B1
          · have : mLB (hu g1 116 i ((r : Int) + 1)) = mLB g1 := by unfold mLB; rw [hu_c _ _ _ (by decide)]
            rw [this, hu_c _ _ _ (by decide)]
            exact rwS_imp sS (fun u cu => ⟨fun q => q.1, fun q => ⟨q, by have := (cu.1 i (by omega)).2.2; omega⟩⟩)
        have stop : rg ((i : Int) + (-1)) ∧ (if (i : Int) + (-1) < 0 then G l (D + 4) 0 0 mX12_rows (zz ζ) 96 [aP 97, aI s, aI ((i : Int) + (-1)), aU, aU] [] (hu g1 116 i ((r : Int) + 1)) (qI (zz ζ) Q) else (0 ≤ (i : Int) + (-1) ∧ (i : Int) + (-1) < 60) ∧ RtV l (D + 3) mX12_put (zz ζ) [aP 97, aI ((i : Int) + (-1)), aI (g1 115 ((i : Int) + (-1))), aI (-1)] (hu g1 116 i ((r : Int) + 1)) (fun h1 => G l (D + 4) 0 0 mX12_rows (zz ζ) 96 [aP 97, aI s, aI ((i : Int) + (-1)), aU, aU] [] h1 (qI (zz ζ) Q))) := by
          unfold mCt at done
          refine ⟨by constructor <;> omega, iteI (fun y => ?_) (fun y => ⟨⟨by omega, by omega⟩, ?_⟩)⟩
          · rw [if_pos (by omega)] at done; exact done
          · rw [if_neg (by omega), hu_c _ _ _ (by decide)] at done; exact done
        have l136 : ∀ (d k : Nat), k + d = i → G l (D + 4) 0 0 mX12_rows (zz ζ) 136 [aP 97, aI s, aI i, aI (usW (g 115) k), aI k] [] g1 (qI (zz ζ) Q) := by
          intro d
          induction d with
          | zero =>
            intro k hk
            have : k = i := by omega
            subst this
            refine b_X12_rows_136 hn ⟨by constructor <;> omega, by constructor <;> omega, iteP (by omega) ⟨⟨by omega, by omega⟩, ?_⟩⟩
            rw [er]
            exact ⟨by constructor <;> omega, by constructor <;> omega, iteI (fun _ => stop) (fun _ => ⟨by constructor <;> omega, iteN (by omega) stop⟩)⟩
          | succ d ihk =>
            intro k hk
            have uk := usW_bd (g 115) k
            have wk := hc k (by omega)
            have sk : usW (g 115) (k + 1) = if g 115 k = usW (g 115) k then usW (g 115) k + 1 else usW (g 115) k := rfl
            have kk := ihk (k + 1) (by omega)
            rw [sk, show ((k + 1 : Nat) : Int) = (k : Int) + 1 by omega] at kk
            refine b_X12_rows_136 hn ⟨by constructor <;> omega, by constructor <;> omega, iteN (by omega) ⟨⟨by omega, by omega⟩, ?_⟩⟩
            rw [p115 k (by omega)]
            refine ⟨by constructor <;> omega, by constructor <;> omega, iteI (fun y => ?_) (fun y => ?_)⟩
            · rw [if_neg (by omega)] at kk; exact kk
            · rw [if_pos (by omega)] at kk
              rw [show g 115 k + 1 = usW (g 115) k + 1 by omega]
              exact kk
        exact b_X12_rows_96 hn ⟨by constructor <;> omega, iteN (by omega) ⟨by rw [Hg.1]; constructor <;> omega, iteP (by rw [Hg.1]; omega) (l136 i 0 (by omega))⟩⟩
      | succ d ihd =>
        intro r g1 hr f p115 p116 p117 B1 er sS
        have Hg := H.fl f
        have pr := P.2 r (by omega)
        have gr := p117 r (by omega)
        have usame : ∀ u, rwC s e n u → exW i (g 115) u → u i ≤ usW (g 115) i := fun u cu ex => by
          have := (cu.1 i (by omega)).2.1
          rwa [usW_congr (w := u) (w' := g 115) ex] at this
        -- the next r
        have bm' : rmO (hu g1 116 i ((r : Int) + 1)) := by unfold rmO; rw [hu_c _ _ _ (by decide)]; exact B1
        have ml' : mLB (hu g1 116 i ((r : Int) + 1)) = mLB g1 := by unfold mLB; rw [hu_c _ _ _ (by decide)]
        have stop : usW (g 115) i < r → rg ((i : Int) + (-1)) ∧ (if (i : Int) + (-1) < 0 then G l (D + 4) 0 0 mX12_rows (zz ζ) 96 [aP 97, aI s, aI ((i : Int) + (-1)), aU, aU] [] (hu g1 116 i ((r : Int) + 1)) (qI (zz ζ) Q) else (0 ≤ (i : Int) + (-1) ∧ (i : Int) + (-1) < 60) ∧ RtV l (D + 3) mX12_put (zz ζ) [aP 97, aI ((i : Int) + (-1)), aI (g1 115 ((i : Int) + (-1))), aI (-1)] (hu g1 116 i ((r : Int) + 1)) (fun h1 => G l (D + 4) 0 0 mX12_rows (zz ζ) 96 [aP 97, aI s, aI ((i : Int) + (-1)), aU, aU] [] h1 (qI (zz ζ) Q))) := by
          intro y0
          have done : mCt l D ζ s Q i (hu g1 116 i ((r : Int) + 1)) := by
            refine hq _ (f.ua rfl) (fun j hj => by rw [hu_c _ _ _ (by decide)]; exact p115 j hj) (fun j hj => by rw [hu_j _ _ _ (by omega)]; exact p116 j hj) (fun q hq1 => by rw [hu_c _ _ _ (by decide), hu_c _ _ _ (by decide), hu_c _ _ _ (by decide)]; exact p117 q hq1) bm' ?_
            rw [ml', hu_c _ _ _ (by decide)]
            exact rwS_imp sS (fun u cu => ⟨fun q => q.1, fun q => ⟨q, by have := usame u cu q; omega⟩⟩)
          unfold mCt at done
          refine ⟨by constructor <;> omega, iteI (fun y => ?_) (fun y => ⟨⟨by omega, by omega⟩, ?_⟩)⟩
          · rw [if_pos (by omega)] at done; exact done
          · rw [if_neg (by omega), hu_c _ _ _ (by decide)] at done; exact done
        have cb : 0 ≤ cnW (g 115) r i ∧ cnW (g 115) r i ≤ 1 * i := ld_bdL (t := fun _ => 1) (w := g 115) (r := r) (L := 1) (k := i) (n := i) (fun _ _ => by show (0 : Int) ≤ 1 ∧ (1 : Int) ≤ 1; omega) (Nat.le_refl _)
        have ediv : (n : Int).tdiv s = e := by
          rw [← hse, Int.natCast_mul, Int.mul_comm]
          exact Int.mul_tdiv_cancel _ (by omega)
        have step : r ≤ usW (g 115) i → (0 ≤ (r : Int) ∧ (r : Int) < 60) ∧ rg (g1 97 43) ∧ (s : Int) ≠ 0 ∧ rg (g1 117 r) ∧ rg ((g1 97 43).tdiv s) ∧ (if ¬ g1 117 r = (g1 97 43).tdiv s then RtV l (D + 3) mX12_put (zz ζ) [aP 97, aI i, aI r, aI 1] (hu (hu g1 116 i ((r : Int) + 1)) 115 i r) (fun h2 => rg ((i : Int) + 1) ∧ rg (h2 97 43) ∧ (if h2 97 43 ≤ (i : Int) + 1 then G l (D + 4) 0 0 mX12_rows (zz ζ) 96 [aP 97, aI s, aI ((i : Int) + 1), aU, aU] [] h2 (qI (zz ζ) Q) else (0 ≤ (i : Int) + 1 ∧ (i : Int) + 1 < 60) ∧ G l (D + 4) 0 0 mX12_rows (zz ζ) 96 [aP 97, aI s, aI ((i : Int) + 1), aU, aU] [] (hu h2 116 ((i : Int) + 1) 0) (qI (zz ζ) Q))) else G l (D + 4) 0 0 mX12_rows (zz ζ) 96 [aP 97, aI s, aI i, aU, aU] [] (hu g1 116 i ((r : Int) + 1)) (qI (zz ζ) Q)) := by
          intro y0
          rw [Hg.1, ediv, gr.1, pr.1.2.2]
          refine ⟨⟨by omega, by omega⟩, by constructor <;> omega, by omega, by constructor <;> omega, by constructor <;> omega, iteI (fun y => ?_) (fun y => ?_)⟩
          · -- put, and down
            have H1 : mrH v fl n (hu (hu g1 116 i ((r : Int) + 1)) 115 i r) := Hg.fl ((FL.refl.ua rfl).ua rfl)
            have ca : canW s (g1 115) i := canW_congr (fun j hj => (p115 j hj).symm) hc
            have eu : usW (g1 115) i = usW (g 115) i := usW_congr p115
            have sn := canW_snoc ca (r := (r : Int)) (by omega) (by rw [eu]; omega) (by omega)
            refine s_mput hn (j := i) H1 (by omega) n12 ⟨by omega, by omega⟩ ?_
            -- the heap below
            have go : ∀ gC, FL rmL g1 gC → gC 115 = fu (g1 115) i r → (∀ q : Nat, q < s → gC 118 q = ldW v (fu (g1 115) i r) q (i + 1) ∧ gC 119 q = ldW fl (fu (g1 115) i r) q (i + 1) ∧ gC 117 q = cnW (fu (g1 115) i r) q (i + 1)) → (∀ j : Nat, j < i → gC 116 j = g1 116 j) → gC 116 i = (r : Int) + 1 → (i + 1 < n → gC 116 ((i : Int) + 1) = 0) → gC 97 = g1 97 → gC 120 = g1 120 → G l (D + 4) 0 0 mX12_rows (zz ζ) 96 [aP 97, aI s, aI ((i : Int) + 1), aU, aU] [] gC (qI (zz ζ) Q) := by
              intro gC fC e115 e117 e116 e116i e116n e97 e120
              have HC := Hg.fl fC
              have BC : rmO gC := by unfold rmO; rw [e97]; exact B1
              have eL : mLB gC = mLB g1 := by unfold mLB; rw [e97]
              have PC : mrP v fl s e (i + 1) (gC 115) gC := by
                rw [e115]
                refine ⟨sn.1, fun q hq1 => ⟨e117 q hq1, ?_⟩⟩
                have pq := P.2 q hq1
                have : cnW (fu (g1 115) i r) q (i + 1) = cnW (g 115) q i + (if (r : Int) = q then 1 else 0) := by
                  unfold cnW
                  rw [ldW_snoc, ldW_congr (w := g1 115) (w' := g 115) p115]
                rw [this]
                split
                · have : q = r := by omega
                  subst this; omega
                · omega
              have exS : ∀ u, exW (i + 1) (gC 115) u ↔ (exW i (g 115) u ∧ u i = r) := fun u => by
                rw [e115]
                refine ⟨fun ex => ⟨fun j hj => by rw [ex j (by omega), fu_n _ _ (by omega)]; exact p115 j hj, by have := ex i (by omega); rw [fu_s] at this; exact this⟩, fun ex j hj => ?_⟩
                by_cases c : j = i
                · rw [c, fu_s]; exact ex.2
                · rw [fu_n _ _ (by omega), p115 j (by omega)]; exact ex.1 j (by omega)
              have kk := ih (i + 1) gC (by omega) HC PC BC (fun y2 => by rw [show ((i + 1 : Nat) : Int) = (i : Int) + 1 by omega]; exact e116n y2) (fun g2 f2 q115 q116 q117 B2 S2 => ?_)
              · rw [show ((i + 1 : Nat) : Int) = (i : Int) + 1 by omega] at kk
                exact kk
              · unfold mCt
                rw [if_neg (by omega), show ((i + 1 : Nat) : Int) + (-1) = (i : Int) by omega]
                have a115 : g2 115 i = r := by rw [q115 i (by omega), e115, fu_s]
                rw [a115]
                refine s_mput hn (j := i) (HC.fl f2) (by omega) n12 ⟨by omega, by omega⟩ ?_
                have k97 : (hu (hu (hu g2 117 r (g2 117 r + -1)) 118 r (g2 118 r + -1 * v i)) 119 r (g2 119 r + -1 * fl i)) 97 = g2 97 := by rw [hu_c _ _ _ (by decide), hu_c _ _ _ (by decide), hu_c _ _ _ (by decide)]
                have k120 : (hu (hu (hu g2 117 r (g2 117 r + -1)) 118 r (g2 118 r + -1 * v i)) 119 r (g2 119 r + -1 * fl i)) 120 = g2 120 := by rw [hu_c _ _ _ (by decide), hu_c _ _ _ (by decide), hu_c _ _ _ (by decide)]
                have k115 : (hu (hu (hu g2 117 r (g2 117 r + -1)) 118 r (g2 118 r + -1 * v i)) 119 r (g2 119 r + -1 * fl i)) 115 = g2 115 := by rw [hu_c _ _ _ (by decide), hu_c _ _ _ (by decide), hu_c _ _ _ (by decide)]
                have k116 : (hu (hu (hu g2 117 r (g2 117 r + -1)) 118 r (g2 118 r + -1 * v i)) 119 r (g2 119 r + -1 * fl i)) 116 = g2 116 := by rw [hu_c _ _ _ (by decide), hu_c _ _ _ (by decide), hu_c _ _ _ (by decide)]
                have F1 : FL rmL g (hu (hu (hu g2 117 r (g2 117 r + -1)) 118 r (g2 118 r + -1 * v i)) 119 r (g2 119 r + -1 * fl i)) := ((((f.trans fC).trans f2).ua rfl).ua rfl).ua rfl
                have k117 : ∀ q : Nat, q < s → (hu (hu (hu g2 117 r (g2 117 r + -1)) 118 r (g2 118 r + -1 * v i)) 119 r (g2 119 r + -1 * fl i)) 117 q = g 117 q ∧ (hu (hu (hu g2 117 r (g2 117 r + -1)) 118 r (g2 118 r + -1 * v i)) 119 r (g2 119 r + -1 * fl i)) 118 q = g 118 q ∧ (hu (hu (hu g2 117 r (g2 117 r + -1)) 118 r (g2 118 r + -1 * v i)) 119 r (g2 119 r + -1 * fl i)) 119 q = g 119 q := by
                  intro q hq1
                  have pq := P.2 q hq1
                  have eq := e117 q hq1
                  have qq := q117 q hq1
                  unfold cnW at eq
                  rw [ldW_snoc, ldW_snoc, ldW_snoc, ldW_congr (w := g1 115) (w' := g 115) p115, ldW_congr (w := g1 115) (w' := g 115) p115, ldW_congr (w := g1 115) (w' := g 115) p115] at eq
                  have pc : g 117 q = ldW (fun _ => 1) (g 115) q i := pq.1.2.2
                  by_cases c : (q : Int) = r
                  · rw [if_pos c.symm, if_pos c.symm, if_pos c.symm] at eq
                    have : q = r := by omega
                    subst this
                    rw [hu_c _ _ _ (by decide), hu_c _ _ _ (by decide), hu_s, hu_c _ _ _ (by decide), hu_s, hu_s]
                    rw [qq.1, qq.2.1, qq.2.2, eq.1, eq.2.1, eq.2.2, pq.1.1, pq.1.2.1, pc]
                    exact ⟨by omega, by omega, by omega⟩
                  · rw [if_neg (fun z => c z.symm), if_neg (fun z => c z.symm), if_neg (fun z => c z.symm)] at eq
                    rw [hu_c _ _ _ (by decide), hu_c _ _ _ (by decide), hu_j _ _ _ c, hu_c _ _ _ (by decide), hu_j _ _ _ c, hu_c _ _ _ (by decide), hu_j _ _ _ c, hu_c _ _ _ (by decide), hu_c _ _ _ (by decide)]
                    rw [qq.1, qq.2.1, qq.2.2, eq.1, eq.2.1, eq.2.2, pq.1.1, pq.1.2.1, pc]
                    exact ⟨by omega, by omega, by omega⟩
                generalize (hu (hu (hu g2 117 r (g2 117 r + -1)) 118 r (g2 118 r + -1 * v i)) 119 r (g2 119 r + -1 * fl i)) = g3 at k97 k120 k115 k116 F1 k117 ⊢
                have eL3 : mLB g3 = mLB g2 := by unfold mLB; rw [k97]
                rw [eL, e120] at S2
                exact ihd (r + 1) g3 (by omega) F1 (fun j hj => by rw [k115, q115 j (by omega), e115, fu_n _ _ (by omega)]; exact p115 j hj) (fun j hj => by rw [k116, q116 j (by omega), e116 j hj]; exact p116 j hj) k117 (by unfold rmO; rw [k97]; exact B2) (by rw [k116, q116 i (by omega), e116i]; omega) (by
                  rw [eL3, k120]
                  exact rwS_imp (rwS_seq rwC_on rwV_on sS (rwS_imp S2 (fun u _ => exS u)) seq_ord (seq_on (by omega))) (fun u _ => seq_nx u))
            have x97 : ∀ a b c : Int, (hu (hu (hu (hu (hu g1 116 i ((r : Int) + 1)) 115 i r) 117 r a) 118 r b) 119 r c) 97 = g1 97 := fun a b c => by rw [hu_c _ _ _ (by decide), hu_c _ _ _ (by decide), hu_c _ _ _ (by decide), hu_c _ _ _ (by decide), hu_c _ _ _ (by decide)]
            have x115 : ∀ a b c : Int, (hu (hu (hu (hu (hu g1 116 i ((r : Int) + 1)) 115 i r) 117 r a) 118 r b) 119 r c) 115 = fu (g1 115) i r := fun a b c => by rw [hu_c _ _ _ (by decide), hu_c _ _ _ (by decide), hu_c _ _ _ (by decide), hu_fu, hu_c _ _ _ (by decide)]
            have x116 : ∀ a b c : Int, (hu (hu (hu (hu (hu g1 116 i ((r : Int) + 1)) 115 i r) 117 r a) 118 r b) 119 r c) 116 = fu (g1 116) i ((r : Int) + 1) := fun a b c => by rw [hu_c _ _ _ (by decide), hu_c _ _ _ (by decide), hu_c _ _ _ (by decide), hu_c _ _ _ (by decide), hu_fu]
            have x120 : ∀ a b c : Int, (hu (hu (hu (hu (hu g1 116 i ((r : Int) + 1)) 115 i r) 117 r a) 118 r b) 119 r c) 120 = g1 120 := fun a b c => by rw [hu_c _ _ _ (by decide), hu_c _ _ _ (by decide), hu_c _ _ _ (by decide), hu_c _ _ _ (by decide), hu_c _ _ _ (by decide)]
            have xFL : ∀ a b c : Int, FL rmL g1 (hu (hu (hu (hu (hu g1 116 i ((r : Int) + 1)) 115 i r) 117 r a) 118 r b) 119 r c) := fun a b c => ((((FL.refl.ua rfl).ua rfl).ua rfl).ua rfl).ua rfl
            have x117 : ∀ q : Nat, q < s → (hu (hu (hu (hu (hu g1 116 i ((r : Int) + 1)) 115 i r) 117 r (g1 117 r + 1)) 118 r (g1 118 r + 1 * v i)) 119 r (g1 119 r + 1 * fl i)) 118 q = ldW v (fu (g1 115) i r) q (i + 1) ∧ (hu (hu (hu (hu (hu g1 116 i ((r : Int) + 1)) 115 i r) 117 r (g1 117 r + 1)) 118 r (g1 118 r + 1 * v i)) 119 r (g1 119 r + 1 * fl i)) 119 q = ldW fl (fu (g1 115) i r) q (i + 1) ∧ (hu (hu (hu (hu (hu g1 116 i ((r : Int) + 1)) 115 i r) 117 r (g1 117 r + 1)) 118 r (g1 118 r + 1 * v i)) 119 r (g1 119 r + 1 * fl i)) 117 q = cnW (fu (g1 115) i r) q (i + 1) := by
              intro q hq1
              have pq := P.2 q hq1
              have gq := p117 q hq1
              unfold cnW
              rw [ldW_snoc, ldW_snoc, ldW_snoc, ldW_congr (w := g1 115) (w' := g 115) p115, ldW_congr (w := g1 115) (w' := g 115) p115, ldW_congr (w := g1 115) (w' := g 115) p115]
              have pc : g 117 q = ldW (fun _ => 1) (g 115) q i := pq.1.2.2
              by_cases c : (q : Int) = r
              · have : q = r := by omega
                subst this
                rw [if_pos rfl, if_pos rfl, if_pos rfl, hu_c _ _ _ (by decide), hu_s, hu_s, hu_c _ _ _ (by decide), hu_c _ _ _ (by decide), hu_s]
                rw [gq.1, gq.2.1, gq.2.2, pq.1.1, pq.1.2.1, pc]
                exact ⟨by omega, by omega, rfl⟩
              · rw [if_neg (fun z => c z.symm), if_neg (fun z => c z.symm), if_neg (fun z => c z.symm)]
                rw [hu_c _ _ _ (by decide), hu_j _ _ _ c, hu_c _ _ _ (by decide), hu_c _ _ _ (by decide), hu_c _ _ _ (by decide), hu_j _ _ _ c, hu_c _ _ _ (by decide), hu_c _ _ _ (by decide), hu_c _ _ _ (by decide), hu_c _ _ _ (by decide), hu_c _ _ _ (by decide), hu_c _ _ _ (by decide), hu_j _ _ _ c, hu_c _ _ _ (by decide), hu_c _ _ _ (by decide)]
                rw [gq.1, gq.2.1, gq.2.2, pq.1.1, pq.1.2.1, pc]
                exact ⟨by omega, by omega, by omega⟩
            rw [show (hu (hu g1 116 i ((r : Int) + 1)) 115 i r) 117 r = g1 117 r by rw [hu_c _ _ _ (by decide), hu_c _ _ _ (by decide)], show (hu (hu g1 116 i ((r : Int) + 1)) 115 i r) 118 r = g1 118 r by rw [hu_c _ _ _ (by decide), hu_c _ _ _ (by decide)], show (hu (hu g1 116 i ((r : Int) + 1)) 115 i r) 119 r = g1 119 r by rw [hu_c _ _ _ (by decide), hu_c _ _ _ (by decide)], x97, Hg.1]
            refine ⟨by constructor <;> omega, by constructor <;> omega, iteI (fun y3 => ?_) (fun y3 => ⟨⟨by omega, by omega⟩, ?_⟩)⟩
            · exact go _ (xFL _ _ _) (x115 _ _ _) x117 (fun j hj => by rw [x116, fu_n _ _ (by omega)]) (by rw [x116, fu_s]) (fun y4 => absurd y4 (by omega)) (x97 _ _ _) (x120 _ _ _)
            · have u8 : ∀ gg : HI, (hu gg 116 ((i : Int) + 1) 0) 118 = gg 118 := fun gg => hu_c _ _ _ (by decide)
              have u9 : ∀ gg : HI, (hu gg 116 ((i : Int) + 1) 0) 119 = gg 119 := fun gg => hu_c _ _ _ (by decide)
              have u7 : ∀ gg : HI, (hu gg 116 ((i : Int) + 1) 0) 117 = gg 117 := fun gg => hu_c _ _ _ (by decide)
              refine go _ ((xFL _ _ _).ua rfl) (by rw [hu_c _ _ _ (by decide)]; exact x115 _ _ _) (fun q hq1 => by rw [u8, u9, u7]; exact x117 q hq1) (fun j hj => by rw [hu_j _ _ _ (by omega), x116, fu_n _ _ (by omega)]) (by rw [hu_j _ _ _ (by omega), x116, fu_s]) (fun _ => by rw [hu_s]) (by rw [hu_c _ _ _ (by decide)]; exact x97 _ _ _) (by rw [hu_c _ _ _ (by decide)]; exact x120 _ _ _)
          · -- full
            exact ihd (r + 1) (hu g1 116 i ((r : Int) + 1)) (by omega) (f.ua rfl) (fun j hj => by rw [hu_c _ _ _ (by decide)]; exact p115 j hj) (fun j hj => by rw [hu_j _ _ _ (by omega)]; exact p116 j hj) (fun q hq1 => by rw [hu_c _ _ _ (by decide), hu_c _ _ _ (by decide), hu_c _ _ _ (by decide)]; exact p117 q hq1) bm' (by rw [hu_s]; omega) (by
              rw [ml', hu_c _ _ _ (by decide)]
              exact rwS_imp (rwS_seq rwC_on rwV_on sS (rwS_none (S := fun u => exW i (g 115) u ∧ u i = r) (fun u cu su => absurd (cn_full (by omega) (by omega) cu su.1 su.2) (by omega))) seq_ord (seq_on (by omega))) (fun u _ => seq_nx u))
        have l136 : ∀ (d k : Nat), k + d = i → G l (D + 4) 0 0 mX12_rows (zz ζ) 136 [aP 97, aI s, aI i, aI (usW (g 115) k), aI k] [] g1 (qI (zz ζ) Q) := by
          intro d
          induction d with
          | zero =>
            intro k hk
            have : k = i := by omega
            subst this
            refine b_X12_rows_136 hn ⟨by constructor <;> omega, by constructor <;> omega, iteP (by omega) ⟨⟨by omega, by omega⟩, ?_⟩⟩
            rw [er]
            exact ⟨by constructor <;> omega, by constructor <;> omega, iteI (fun y => stop y) (fun y => ⟨by constructor <;> omega, iteP (by omega) (step (by omega))⟩)⟩
          | succ d ihk =>
            intro k hk
            have uk := usW_bd (g 115) k
            have wk := hc k (by omega)
            have sk : usW (g 115) (k + 1) = if g 115 k = usW (g 115) k then usW (g 115) k + 1 else usW (g 115) k := rfl
            have kk := ihk (k + 1) (by omega)
            rw [sk, show ((k + 1 : Nat) : Int) = (k : Int) + 1 by omega] at kk
            refine b_X12_rows_136 hn ⟨by constructor <;> omega, by constructor <;> omega, iteN (by omega) ⟨⟨by omega, by omega⟩, ?_⟩⟩
            rw [p115 k (by omega)]
            refine ⟨by constructor <;> omega, by constructor <;> omega, iteI (fun y => ?_) (fun y => ?_)⟩
            · rw [if_neg (by omega)] at kk; exact kk
            · rw [if_pos (by omega)] at kk
              rw [show g 115 k + 1 = usW (g 115) k + 1 by omega]
              exact kk
        exact b_X12_rows_96 hn ⟨by constructor <;> omega, iteN (by omega) ⟨by rw [Hg.1]; constructor <;> omega, iteP (by rw [Hg.1]; omega) (l136 i 0 (by omega))⟩⟩
    exact loop s 0 g (by omega) FL.refl (fun _ _ => rfl) (fun _ _ => rfl) (fun _ _ => ⟨rfl, rfl, rfl⟩) B (ht (by omega)) (rwS_none (fun u cu su => by have := (cu.1 i (by omega)).1; have := su.2; omega))
end RWE
