/-! rows: the reference's walk -/
def rmL : List (Nat × Int) := [(97, 44), (97, 45), (97, 46), (115, -1), (116, -1), (117, -1), (118, -1), (119, -1), (120, -1)]
def mrH (v fl : Int → Int) (n : Nat) (g : HI) : Prop := g 97 43 = n ∧ ∀ j : Nat, j < n → (0 ≤ g 114 j ∧ g 114 j < 60) ∧ (g 106 (g 114 j) = v j ∧ 0 ≤ v j ∧ v j ≤ 10000) ∧ (1 ≤ g 107 (g 114 j) ∧ g 107 (g 114 j) ≤ 10000) ∧ (1000000 : Int).tdiv (g 107 (g 114 j)) = fl j ∧ 0 ≤ fl j ∧ fl j ≤ 1000000
theorem mrH.fl {v fl : Int → Int} {n : Nat} {g g' : HI} (H : mrH v fl n g) (f : FL rmL g g') : mrH v fl n g' := by
  unfold mrH at H ⊢
  rw [f.at 97 43 rfl, f.c 114 rfl, f.c 106 rfl, f.c 107 rfl]
  exact H
def mrP (v fl : Int → Int) (s e i : Nat) (p : Int → Int) (g : HI) : Prop := canW s p i ∧ ∀ r : Nat, r < s → (g 118 r = ldW v p r i ∧ g 119 r = ldW fl p r i ∧ g 117 r = cnW p r i) ∧ cnW p r i ≤ e
def rmO (g : HI) : Prop := (-1 ≤ g 97 44 ∧ g 97 44 ≤ 1000000) ∧ (g 97 44 ≠ -1 → (0 ≤ g 97 45 ∧ g 97 45 ≤ 20000000) ∧ (0 ≤ g 97 46 ∧ g 97 46 ≤ 20000000))
def mLB (g : HI) : Int := if g 97 44 = -1 then rv3 (-1) 2147483647 2147483647 else rv3 (g 97 44) (g 97 45) (g 97 46)
section RWD
variable {l : Launch} {D : Nat} {ζ : ZP} {v fl : Int → Int} {s e n : Nat}
theorem s_mput (hn : 144 ≤ ζ.2.2.2.2) {g : HI} {QV : HI → Prop} {j : Nat} {r y : Int} (H : mrH v fl n g) (hj : j < n) (n12 : n ≤ 12) (hr : 0 ≤ r ∧ r < 60) (hq : QV (hu (hu (hu g 117 r (g 117 r + y)) 118 r (g 118 r + y * v j)) 119 r (g 119 r + y * fl j))) : RtV l (D + 2) mX12_put (zz ζ) [aP 97, aI j, aI r, aI y] g QV := by
  have hj' := H.2 j hj
  refine e_X12_put hn ⟨hr, ⟨by omega, by omega⟩, hj'.1, e_X12_flowOf hn ⟨hj'.1, ?_⟩⟩
  rw [hu_c _ _ _ (by decide), hu_c _ _ _ (by decide), hj'.2.1.1]
  refine ⟨by constructor <;> omega, iteP (by omega) ⟨by omega, ?_⟩⟩
  rw [hj'.2.2.2.1]
  exact hq
theorem s_mweigh (hn : 144 ≤ ζ.2.2.2.2) {g : HI} {QV : HI → Prop} (n12 : n ≤ 12) (s1 : 1 ≤ s) (s12 : s ≤ 12) (H : mrH v fl n g) (P : mrP v fl s e n (g 115) g) (C : rwC s e n (g 115)) (B : rmO g) (hq : ∀ g', FL [(97, 44), (97, 45), (97, 46), (120, -1)] g g' → rmO g' → rwS n (rwC s e n) (rwV v fl s n) (exW n (g 115)) (mLB g) (mLB g') (g 120) (g' 120) → QV g') : RtV l (D + 1) mX12_weigh (zz ζ) [aP 97, aI s] g QV := by
  have vb : ∀ j : Nat, j < n → 0 ≤ v j ∧ v j ≤ 10000 := fun j hj => (H.2 j hj).2.1.2
  have fb : ∀ j : Nat, j < n → 0 ≤ fl j ∧ fl j ≤ 1000000 := fun j hj => (H.2 j hj).2.2.2.2
  have lb : ∀ r : Nat, 0 ≤ ldW v (g 115) r n ∧ ldW v (g 115) r n ≤ 10000 * n := fun r => ld_bdL vb (Nat.le_refl _)
  have lf : ∀ r : Nat, 0 ≤ ldW fl (g 115) r n ∧ ldW fl (g 115) r n ≤ 1000000 * n := fun r => ld_bdL fb (Nat.le_refl _)
  have b1 := fun k => mn_bd (f := fun r : Nat => ldW v (g 115) r n) (K := 0) (L := 120000) (n := k) (fun r _ => by have := lb r; show 0 ≤ ldW v (g 115) r n ∧ ldW v (g 115) r n ≤ 120000; omega)
  have b2 := fun k => mn_bd (f := fun r : Nat => ldW fl (g 115) r n) (K := 0) (L := 12000000) (n := k) (fun r _ => by have := lf r; show 0 ≤ ldW fl (g 115) r n ∧ ldW fl (g 115) r n ≤ 12000000; omega)
  have x0 : exW n (g 115) (g 115) := fun _ _ => rfl
  have one : ∀ u, rwC s e n u → exW n (g 115) u → ∀ j : Nat, j < n → u j = g 115 j := fun u cu su j hj => su j hj
  -- the copy
  have copy : ∀ (m j : Nat) (k : HI), j + m = n → FL [(97, 44), (97, 45), (97, 46), (120, -1)] g k → k 97 44 = wkW v (g 115) s n → k 97 45 = tpW v (g 115) s n - wkW v (g 115) s n → k 97 46 = tpW fl (g 115) s n - wkW fl (g 115) s n → (∀ q : Nat, q < j → k 120 q = g 115 q) → rwV v fl s n (g 115) < mLB g → G l (D + 1) 0 0 mX12_weigh (zz ζ) 228 [aP 97, aU, aU, aU, aU, aU, aU, aI j] [] k (qV (zz ζ) QV) := by
    intro m
    induction m with
    | zero =>
      intro j k hj f a4 a5 a6 a120 lt
      have : j = n := by omega
      subst this
      have w1 := w_bdL (t := v) (u := g 115) (s := s) (n := j) s1 vb
      have w2 := w_bdL (t := fl) (u := g 115) (s := s) (n := j) s1 fb
      refine b_X12_weigh_228 hn ⟨by constructor <;> omega, by rw [f.at 97 43 rfl, H.1]; constructor <;> omega, iteP (by rw [f.at 97 43 rfl, H.1]; omega) (hq k f ⟨by rw [a4]; omega, fun _ => by rw [a5, a6]; omega⟩ ?_)⟩
      have el : mLB k = rwV v fl s j (g 115) := by unfold mLB rwV; rw [if_neg (by rw [a4]; omega), a4, a5, a6]
      exact rwS_one rwC_on rwV_on (exW_on (Nat.le_refl _)) x0 one (Or.inr ⟨C, lt, el, a120⟩)
    | succ m ih =>
      intro j k hj f a4 a5 a6 a120 lt
      refine b_X12_weigh_228 hn ⟨by constructor <;> omega, by rw [f.at 97 43 rfl, H.1]; constructor <;> omega, iteN (by rw [f.at 97 43 rfl, H.1]; omega) ⟨⟨by omega, by omega⟩, ?_⟩⟩
      have kk := ih (j + 1) (hu k 120 j (k 115 j)) (by omega) (f.ua rfl) (by rw [hu_c _ _ _ (by decide)]; exact a4) (by rw [hu_c _ _ _ (by decide)]; exact a5) (by rw [hu_c _ _ _ (by decide)]; exact a6) (fun q hq1 => by
        by_cases c : q = j
        · rw [c, hu_s, f.c 115 rfl]
        · rw [hu_j _ _ _ (by omega)]; exact a120 q (by omega)) lt
      rw [show ((j + 1 : Nat) : Int) = (j : Int) + 1 by omega] at kk
      exact kk
  have main : ∀ (m k : Nat), k + m = s → 1 ≤ k → G l (D + 1) 0 0 mX12_weigh (zz ζ) 33 [aP 97, aI s, aI (mnF (fun r : Nat => ldW v (g 115) r n) k), aI (mxF (fun r : Nat => ldW v (g 115) r n) k), aI (mnF (fun r : Nat => ldW fl (g 115) r n) k), aI (mxF (fun r : Nat => ldW fl (g 115) r n) k), aI k, aU] [] g (qV (zz ζ) QV) := by
    intro m
    induction m with
    | zero =>
      intro k hk k1
      have : k = s := by omega
      subst this
      have q1 : (0 ≤ wkW v (g 115) k n ∧ wkW v (g 115) k n ≤ 120000) ∧ (0 ≤ tpW v (g 115) k n ∧ tpW v (g 115) k n ≤ 120000) ∧ wkW v (g 115) k n ≤ tpW v (g 115) k n := b1 k
      have q2 : (0 ≤ wkW fl (g 115) k n ∧ wkW fl (g 115) k n ≤ 12000000) ∧ (0 ≤ tpW fl (g 115) k n ∧ tpW fl (g 115) k n ≤ 12000000) ∧ wkW fl (g 115) k n ≤ tpW fl (g 115) k n := b2 k
      have e1 : mnF (fun r : Nat => ldW v (g 115) r n) k = wkW v (g 115) k n := rfl
      have e2 : mxF (fun r : Nat => ldW v (g 115) r n) k = tpW v (g 115) k n := rfl
      have e3 : mnF (fun r : Nat => ldW fl (g 115) r n) k = wkW fl (g 115) k n := rfl
      have e4 : mxF (fun r : Nat => ldW fl (g 115) r n) k = tpW fl (g 115) k n := rfl
      rw [e1, e2, e3, e4]
      have go : rwV v fl k n (g 115) < mLB g → G l (D + 1) 0 0 mX12_weigh (zz ζ) 228 [aP 97, aU, aU, aU, aU, aU, aU, aI 0] [] (hu (hu (hu g 97 44 (wkW v (g 115) k n)) 97 45 (tpW v (g 115) k n - wkW v (g 115) k n)) 97 46 (tpW fl (g 115) k n - wkW fl (g 115) k n)) (qV (zz ζ) QV) := fun lt => copy n 0 _ (by omega) (((FL.refl.u rfl).u rfl).u rfl) (by rw [hu_j _ _ _ (by decide), hu_j _ _ _ (by decide), hu_s]) (by rw [hu_j _ _ _ (by decide), hu_s]) (by rw [hu_s]) (fun q hq1 => absurd hq1 (by omega)) lt
      have no : mLB g ≤ rwV v fl k n (g 115) → QV g := fun ge => hq g FL.refl B (rwS_one rwC_on rwV_on (exW_on (Nat.le_refl _)) x0 one (Or.inl ⟨Or.inr ge, rfl, fun _ _ => rfl⟩))
      have B1 := B.1
      by_cases z : g 97 44 = -1
      · have lt : rwV v fl k n (g 115) < mLB g := by
          unfold rwV mLB
          rw [if_pos z, rv3_lt (by unfold rvK; omega) (by unfold rvK; omega) (by unfold rvK; omega) (by unfold rvK; omega)]
          omega
        exact b_X12_weigh_33 hn ⟨by constructor <;> omega, by constructor <;> omega, iteP (by omega) ⟨by constructor <;> omega, by constructor <;> omega, iteP (by omega) (go lt)⟩⟩
      · have B2 := B.2 z
        have key : rwV v fl k n (g 115) < mLB g ↔ (g 97 44 < wkW v (g 115) k n ∨ (wkW v (g 115) k n = g 97 44 ∧ (tpW v (g 115) k n - wkW v (g 115) k n < g 97 45 ∨ (tpW v (g 115) k n - wkW v (g 115) k n = g 97 45 ∧ tpW fl (g 115) k n - wkW fl (g 115) k n < g 97 46)))) := by
          unfold rwV mLB
          rw [if_neg z, rv3_lt (by unfold rvK; omega) (by unfold rvK; omega) (by unfold rvK; omega) (by unfold rvK; omega)]
        have no' : ¬ (g 97 44 < wkW v (g 115) k n ∨ (wkW v (g 115) k n = g 97 44 ∧ (tpW v (g 115) k n - wkW v (g 115) k n < g 97 45 ∨ (tpW v (g 115) k n - wkW v (g 115) k n = g 97 45 ∧ tpW fl (g 115) k n - wkW fl (g 115) k n < g 97 46)))) → QV g := fun q => no (by
          have := mt key.mp q
          omega)
        refine b_X12_weigh_33 hn ⟨by constructor <;> omega, by constructor <;> omega, iteP (by omega) ⟨by constructor <;> omega, by constructor <;> omega, iteI (fun y => go (key.mpr (Or.inl y))) (fun y => iteI (fun y2 => no' (by omega)) (fun y2 => ⟨by constructor <;> omega, by constructor <;> omega, iteI (fun y3 => go (key.mpr (Or.inr ⟨by omega, Or.inl y3⟩))) (fun y3 => iteI (fun y4 => no' (by omega)) (fun y4 => ⟨by constructor <;> omega, by constructor <;> omega, iteI (fun y5 => no' (by omega)) (fun y5 => go (key.mpr (Or.inr ⟨by omega, Or.inr ⟨by omega, by omega⟩⟩)))⟩))⟩))⟩⟩
    | succ m ih =>
      intro k hk k1
      have q1 := b1 k
      have q2 := b2 k
      have pk := (P.2 k (by omega)).1
      have l1 := lb k
      have l2 := lf k
      have kk := ih (k + 1) (by omega) (by omega)
      rw [show ((k + 1 : Nat) : Int) = (k : Int) + 1 by omega] at kk
      have s1' : mnF (fun r : Nat => ldW v (g 115) r n) (k + 1) = min (mnF (fun r : Nat => ldW v (g 115) r n) k) (ldW v (g 115) k n) := rfl
      have s2' : mxF (fun r : Nat => ldW v (g 115) r n) (k + 1) = max (mxF (fun r : Nat => ldW v (g 115) r n) k) (ldW v (g 115) k n) := rfl
      have s3' : mnF (fun r : Nat => ldW fl (g 115) r n) (k + 1) = min (mnF (fun r : Nat => ldW fl (g 115) r n) k) (ldW fl (g 115) k n) := rfl
      have s4' : mxF (fun r : Nat => ldW fl (g 115) r n) (k + 1) = max (mxF (fun r : Nat => ldW fl (g 115) r n) k) (ldW fl (g 115) k n) := rfl
      rw [s1', s2', s3', s4'] at kk
      have n84 : ∀ a b : Int, a = min (mnF (fun r : Nat => ldW v (g 115) r n) k) (ldW v (g 115) k n) → b = max (mxF (fun r : Nat => ldW v (g 115) r n) k) (ldW v (g 115) k n) → G l (D + 1) 0 0 mX12_weigh (zz ζ) 84 [aP 97, aI s, aI a, aU, aI (mnF (fun r : Nat => ldW fl (g 115) r n) k), aI (mxF (fun r : Nat => ldW fl (g 115) r n) k), aI k, aU] [aI b] g (qV (zz ζ) QV) := by
        intro a b ea eb
        have n33 : ∀ c d : Int, c = min (mnF (fun r : Nat => ldW fl (g 115) r n) k) (ldW fl (g 115) k n) → d = max (mxF (fun r : Nat => ldW fl (g 115) r n) k) (ldW fl (g 115) k n) → G l (D + 1) 0 0 mX12_weigh (zz ζ) 33 [aP 97, aI s, aI a, aI b, aI c, aI d, aI ((k : Int) + 1), aU] [] g (qV (zz ζ) QV) := by
          intro c d ec ed
          rw [ea, eb, ec, ed]
          exact kk
        refine b_X12_weigh_84 hn ⟨⟨by omega, by omega⟩, ?_⟩
        rw [pk.2.1]
        exact ⟨by constructor <;> omega, by constructor <;> omega, iteI (fun y => ⟨by constructor <;> omega, iteI (fun y2 => n33 _ _ (by omega) (by omega)) (fun y2 => n33 _ _ (by omega) (by omega))⟩) (fun y => ⟨by constructor <;> omega, iteI (fun y2 => n33 _ _ (by omega) (by omega)) (fun y2 => n33 _ _ (by omega) (by omega))⟩)⟩
      refine b_X12_weigh_33 hn ⟨by constructor <;> omega, by constructor <;> omega, iteN (by omega) ⟨⟨by omega, by omega⟩, ?_⟩⟩
      rw [pk.1]
      exact ⟨by constructor <;> omega, by constructor <;> omega, iteI (fun y => ⟨by constructor <;> omega, iteI (fun y2 => n84 _ _ (by omega) (by omega)) (fun y2 => n84 _ _ (by omega) (by omega))⟩) (fun y => ⟨by constructor <;> omega, iteI (fun y2 => n84 _ _ (by omega) (by omega)) (fun y2 => n84 _ _ (by omega) (by omega))⟩)⟩
  have kk := main (s - 1) 1 (by omega) (by omega)
  have e1 : ∀ k : Nat → Int, mnF k 1 = k 0 ∧ mxF k 1 = k 0 := fun k => ⟨by show min (k 0) (k 0) = _; omega, by show max (k 0) (k 0) = _; omega⟩
  rw [(e1 _).1, (e1 _).2, (e1 _).1, (e1 _).2] at kk
  have p0 := (P.2 0 (by omega)).1
  have z1 : g 118 0 = ldW v (g 115) ((0 : Nat) : Int) n := p0.1
  have z2 : g 119 0 = ldW fl (g 115) ((0 : Nat) : Int) n := p0.2.1
  refine e_X12_weigh hn ?_
  rw [z1, z2]
  exact kk
end RWD
