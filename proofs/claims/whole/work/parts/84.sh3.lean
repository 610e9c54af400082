/-! share: the class's find; what holds of every way -/
theorem sm_add {f g : Nat → Int} : ∀ {n : Nat}, sm (fun r => f r + g r) n = sm f n + sm g n
  | 0 => rfl
  | n + 1 => by
    show sm (fun r => f r + g r) n + (f n + g n) = sm f n + f n + (sm g n + g n)
    rw [sm_add]; omega
theorem sm_ind {x u : Int} : ∀ {b : Nat}, sm (fun r : Nat => if u = (r : Int) then x else 0) b = if 0 ≤ u ∧ u < b then x else 0
  | 0 => by
    show (0 : Int) = _
    rw [if_neg (by omega)]
  | b + 1 => by
    show sm (fun r : Nat => if u = (r : Int) then x else 0) b + (if u = (b : Int) then x else 0) = _
    rw [sm_ind]
    by_cases e : u = b
    · rw [if_neg (by omega), if_pos e, if_pos (by omega)]; omega
    · rw [if_neg e]
      by_cases c : 0 ≤ u ∧ u < b
      · rw [if_pos c, if_pos (by omega)]; omega
      · rw [if_neg c, if_neg (by omega)]; omega
theorem ld_total {t w : Int → Int} {b : Nat} : ∀ {n : Nat}, (∀ j : Nat, j < n → 0 ≤ w j ∧ w j < b) → sm (fun r : Nat => ldW t w r n) b = sm (fun j : Nat => t j) n
  | 0, _ => by
    have : ∀ k : Nat, sm (fun r : Nat => ldW t w r 0) k = 0 := by
      intro k
      induction k with
      | zero => rfl
      | succ k ih => show sm _ k + ldW t w k 0 = 0; rw [ih]; rfl
    exact this b
  | n + 1, h => by
    have e : (fun r : Nat => ldW t w r (n + 1)) = (fun r : Nat => ldW t w r n + (if w n = (r : Int) then t n else 0)) := by
      funext r
      show ldW t w r n + (if decide (w n = (r : Int)) then t n else 0) = _
      simp only [decide_eq_true_eq]
    rw [e, sm_add, ld_total (fun j hj => h j (by omega)), sm_ind, if_pos (h n (by omega))]
    rfl
theorem ld_le {t w : Int → Int} {r : Int} : ∀ {n : Nat}, (∀ j : Nat, j < n → 0 ≤ t j) → ldW t w r n ≤ sm (fun j : Nat => t j) n
  | 0, _ => by simp [ldW, cS, sm]
  | n + 1, h => by
    have ih := ld_le (t := t) (w := w) (r := r) (n := n) (fun j hj => h j (by omega))
    have := h n (by omega)
    show ldW t w r n + (if decide (w n = r) then t n else 0) ≤ sm (fun j : Nat => t j) n + t n
    split <;> omega
theorem vl_le {t w : Int → Int} {b n : Nat} (b1 : 1 ≤ b) (ht : ∀ j : Nat, j < n → 0 ≤ t j) : vlW t b n w ≤ sm (fun j : Nat => t j) n := (mxI_le b1).mpr (fun r _ => ld_le ht)
theorem vl_ge {t u : Int → Int} {b n : Nat} (b1 : 1 ≤ b) (cu : canW b u n) : (sm (fun j : Nat => t j) n + b - 1) / (b : Int) ≤ vlW t b n u := by
  have tot := ld_total (t := t) (w := u) (b := b) (n := n) (fun j hj => ⟨(cu j hj).1, (cu j hj).2.2⟩)
  have up : sm (fun r : Nat => ldW t u r n) b ≤ vlW t b n u * b := by
    have aux : ∀ k : Nat, k ≤ b → sm (fun r : Nat => ldW t u r n) k ≤ vlW t b n u * k := by
      intro k
      induction k with
      | zero => intro _; simp [sm]
      | succ k ih =>
        intro hk
        have := ih (by omega)
        have e := (mxI_le (f := fun q => ldW t u q n) (x := vlW t b n u) b1).mp (Int.le_refl _) k (by omega)
        show sm (fun r : Nat => ldW t u r n) k + ldW t u k n ≤ _
        rw [show ((k + 1 : Nat) : Int) = (k : Int) + 1 by omega, Int.mul_add]
        omega
    exact aux b (Nat.le_refl _)
  have : (sm (fun j : Nat => t j) n + b - 1) / (b : Int) < vlW t b n u + 1 := Int.ediv_lt_of_lt_mul (by omega) (by rw [Int.add_mul]; omega)
  omega
theorem can0 {b n : Nat} (b1 : 1 ≤ b) : canW b (fun _ => 0) n := fun j _ => ⟨Int.le_refl _, (usW_bd _ j).1, by show (0 : Int) < b; omega⟩
theorem shS_R {t : Int → Int} {b n : Nat} (b1 : 1 ≤ b) (ht : ∀ j : Nat, j < n → 0 ≤ t j) {S : (Int → Int) → Prop} {L L' : Int} {w w' : Int → Int} (h : shS t b n S L L' w w') (hS : ∀ u, canW b u n → S u) (hL : sm (fun j : Nat => t j) n < L) : shR t b n L' w' := by
  have z := h.2.2.1 _ (can0 b1) (hS _ (can0 b1))
  have z2 := vl_le (t := t) (w := fun _ => 0) (b := b) (n := n) b1 ht
  have q := h.2.2.2 (by omega)
  exact ⟨q.1, q.2.2.1, fun u cu => ⟨h.2.2.1 u cu (hS u cu), q.2.2.2 u cu (hS u cu)⟩⟩
section SH3
variable {l : Launch} {D : Nat} {ζ : ZP} {h : HI} {Q : Int → HI → Prop} {QV : HI → Prop} {t : Int → Int} {b n : Nat}
theorem s_shfind (hn : 144 ≤ ζ.2.2.2.2) (b1 : 1 ≤ b) (b4 : b ≤ 4) (n9 : n ≤ 9) (ht : ∀ j : Nat, j < n → 0 ≤ t j ∧ t j ≤ 99) (h0 : h 70 0 = n) (h4 : h 70 4 = b) (h71 : ∀ j : Int, 0 ≤ j → j < n → h 71 j = t j) (hq : ∀ g', FL [(70, 3), (70, 5), (72, -1), (73, -1), (74, -1)] h g' → shR t b n (g' 70 3) (g' 72) → QV g') : RtV l (D + 15) mX4_find (zz ζ) [aP 70] h QV := by
  have sb := fun k (hk : k ≤ n) => sm_bd (f := fun j : Nat => t j) (K := 0) (L := 99) (n := k) (fun j hj => ht j (by omega))
  refine e_X4_find hn ?_
  have m29 : ∀ (m r : Nat) (g : HI), r + m = b → FL [(74, -1)] h g → (∀ q : Int, 0 ≤ q → q < r → g 74 q = 0) → G l (D + 15) 0 0 mX4_find (zz ζ) 29 [aP 70, aI (sm (fun j : Nat => t j) n), aI r] [] g (qV (zz ζ) QV) := by
    intro m
    induction m with
    | zero =>
      intro r g hr f z
      have sn := sb n (Nat.le_refl _)
      have g4 : g 70 4 = b := by rw [f.at 70 4 rfl]; exact h4
      refine b_X4_find_29 hn ⟨by constructor <;> omega, by rw [g4]; constructor <;> omega, iteP (by rw [g4]; omega) ?_⟩
      rw [g4]
      refine s_cut hn (by constructor <;> omega) (by constructor <;> omega) ?_
      rw [if_neg (by omega)]
      have ed := Int.tdiv_eq_ediv_of_nonneg (a := sm (fun j : Nat => t j) n + b - 1) (b := (b : Int)) (by omega)
      have d0 := Int.tdiv_nonneg (a := sm (fun j : Nat => t j) n + b - 1) (b := (b : Int)) (by omega) (by omega)
      have d1 := Int.tdiv_le_self (a := sm (fun j : Nat => t j) n + b - 1) (b : Int) (by omega)
      generalize hA : (sm (fun j : Nat => t j) n + b - 1).tdiv (b : Int) = A at ed d0 d1
      generalize hG : hu (hu g 70 5 A) 70 3 (sm (fun j : Nat => t j) n + 1) = GG
      have fG : FL [(70, 3), (70, 5)] g GG := by subst hG; exact (FL.refl.u rfl).u rfl
      have v3 : GG 70 3 = sm (fun j : Nat => t j) n + 1 := by subst hG; rw [hu_s]
      have v5 : GG 70 5 = A := by subst hG; rw [hu_j _ _ _ (by decide), hu_s]
      have H : shH t b n A GG := ⟨by rw [fG.at 70 0 rfl, f.at 70 0 rfl]; exact h0, by rw [fG.at 70 4 rfl]; exact g4, v5, by rw [fG.c 71 rfl, f.c 71 rfl]; exact h71⟩
      have kk := s_place (l := l) (D := D + 12 - n) hn b1 b4 n9 ht (A := A) (by constructor <;> omega) (fun u cu => by have := vl_ge (t := t) b1 cu; omega) n 0 GG QV (by omega) H (fun j hj => absurd hj (by omega)) (fun q q0 q1 => by
        rw [fG.c 74 rfl, z q q0 (by omega)]; rfl) (by rw [v3]; omega) (fun g' f' p73 p74 p3 pS => ?_)
      · rw [show D + 12 - n + n + 2 = D + 14 by omega] at kk
        exact kk
      · rw [v3] at pS
        refine hq g' (((f.mono rfl).trans (fG.mono rfl)).trans (f'.mono rfl)) (shS_R b1 (fun j hj => (ht j hj).1) pS (fun u cu j hj => absurd hj (by omega)) (by omega))
    | succ m ih =>
      intro r g hr f z
      have g4 : g 70 4 = b := by rw [f.at 70 4 rfl]; exact h4
      refine b_X4_find_29 hn ⟨by constructor <;> omega, by rw [g4]; constructor <;> omega, iteN (by rw [g4]; omega) ⟨⟨by omega, by omega⟩, ?_⟩⟩
      have kk := ih (r + 1) (hu g 74 r 0) (by omega) (f.ua rfl) (fun q q0 q1 => by
        by_cases e : q = r
        · rw [e, hu_s]
        · rw [hu_j _ _ _ e]; exact z q q0 (by omega))
      rw [show ((r + 1 : Nat) : Int) = (r : Int) + 1 by omega] at kk
      exact kk
  have m4 : ∀ (m k : Nat), k + m = n → G l (D + 15) 0 0 mX4_find (zz ζ) 4 [aP 70, aI (sm (fun j : Nat => t j) k), aI k] [] h (qV (zz ζ) QV) := by
    intro m
    induction m with
    | zero =>
      intro k hk
      have : k = n := by omega
      subst this
      exact b_X4_find_4 hn ⟨by constructor <;> omega, by rw [h0]; constructor <;> omega, iteP (by rw [h0]; omega) (m29 b 0 h (by omega) FL.refl (fun q q0 q1 => by omega))⟩
    | succ m ih =>
      intro k hk
      refine b_X4_find_4 hn ⟨by constructor <;> omega, by rw [h0]; constructor <;> omega, iteN (by rw [h0]; omega) ⟨⟨by omega, by omega⟩, ?_⟩⟩
      rw [h71 k (by omega) (by omega)]
      have kk := ih (k + 1) (by omega)
      rw [show ((k + 1 : Nat) : Int) = (k : Int) + 1 by omega] at kk
      exact kk
  exact m4 n 0 (by omega)
end SH3
