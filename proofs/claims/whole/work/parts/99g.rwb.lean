/-! rows: hopeful at the class's tables -/
theorem ris_elem {v : Int → Int} {K L : Int} : ∀ {m i : Nat} {a : Int → Int}, risA v i m a → (∀ j : Nat, i ≤ j → j < i + m → K ≤ v j ∧ v j ≤ L) → ∀ j : Nat, j < m → K ≤ a j ∧ a j ≤ L
  | 0, _, _, _, _, _, hj => absurd hj (by omega)
  | m + 1, i, b, h, hv, j, hj => by
    obtain ⟨a, p, h, hp, hb⟩ := h
    have ih := ris_elem h (fun j j0 j1 => hv j (by omega) (by omega))
    have hp1 := hp.1
    rw [hb j hj]
    unfold rinA
    by_cases j1 : (j : Int) < p
    · rw [if_pos j1]; exact ih j (by omega)
    · rw [if_neg j1]
      by_cases j2 : (j : Int) = p
      · rw [if_pos j2]; exact hv i (by omega) (by omega)
      · rw [if_neg j2, show ((j : Int) - 1) = ((j - 1 : Nat) : Int) by omega]; exact ih (j - 1) (by omega)
theorem pf_bd {a : Int → Int} {L : Int} {m : Nat} (h : ∀ j : Nat, j < m → 0 ≤ a j ∧ a j ≤ L) {k : Nat} (hk : k ≤ m) : 0 ≤ pfA a k ∧ pfA a k ≤ L * k := by
  have := sm_bd (f := fun j : Nat => a j) (K := 0) (L := L) (n := k) (fun j hj => h j (by omega))
  unfold pfA
  rw [Int.zero_mul] at this
  exact this
theorem sf_bd {a : Int → Int} {L : Int} {m : Nat} (h : ∀ j : Nat, j < m → 0 ≤ a j ∧ a j ≤ L) {k : Nat} (hk : k ≤ m) : 0 ≤ sfA a m k ∧ sfA a m k ≤ L * k := by
  have := sm_bd (f := fun j : Nat => a ((m : Int) - 1 - j)) (K := 0) (L := L) (n := k) (fun j hj => by
    have q := h (m - 1 - j) (by omega)
    rw [show ((m - 1 - j : Nat) : Int) = (m : Int) - 1 - j by omega] at q
    exact q)
  unfold sfA
  rw [Int.zero_mul] at this
  exact this
theorem ld_bdL {t w : Int → Int} {r L : Int} {n : Nat} (ht : ∀ j : Nat, j < n → 0 ≤ t j ∧ t j ≤ L) : ∀ {k : Nat}, k ≤ n → 0 ≤ ldW t w r k ∧ ldW t w r k ≤ L * k
  | 0, _ => by simp [ldW, cS]
  | k + 1, hk => by
    have ih := ld_bdL (t := t) (w := w) (r := r) ht (k := k) (by omega)
    have tk := ht k (by omega)
    show 0 ≤ ldW t w r k + (if decide (w k = r) then t k else 0) ∧ ldW t w r k + (if decide (w k = r) then t k else 0) ≤ L * ((k + 1 : Nat) : Int)
    rw [show ((k + 1 : Nat) : Int) = (k : Int) + 1 by omega, Int.mul_add]
    split <;> omega
theorem w_bdL {t u : Int → Int} {L : Int} {s n : Nat} (s1 : 1 ≤ s) (ht : ∀ j : Nat, j < n → 0 ≤ t j ∧ t j ≤ L) : 0 ≤ wkW t u s n ∧ wkW t u s n ≤ tpW t u s n ∧ tpW t u s n ≤ L * n := by
  have a := wk_row (v := t) (w := u) (s := s) (n := n) s1 (r := 0) (by omega)
  refine ⟨(mnI_le s1).mpr (fun r hr => (ld_bdL ht (Nat.le_refl _)).1), by omega, (mxI_le s1).mpr (fun r hr => (ld_bdL ht (Nat.le_refl _)).2)⟩
theorem rw_open {s e n i : Nat} {p : Int → Int} (hse : s * e = n) (hi : i ≤ n) (P1 : canW s p i) (P2 : ∀ r : Nat, r < s → cnW p r i ≤ e) : ∀ r : Nat, r < s → 0 ≤ (e : Int) - cnW p r i ∧ (e : Int) - cnW p r i ≤ (n - i : Nat) := by
  have t1 := ld_total (t := fun _ => 1) (w := p) (b := s) (n := i) (fun j hj => ⟨(P1 j hj).1, (P1 j hj).2.2⟩)
  have t2 := sm_bd (f := fun _ : Nat => (1 : Int)) (K := 1) (L := 1) (n := i) (fun _ _ => by omega)
  have t3 := sm_bd (f := fun _ : Nat => (e : Int)) (K := e) (L := e) (n := s) (fun _ _ => by omega)
  have t4 := sm_add (f := fun r : Nat => (e : Int) - cnW p r i) (g := fun r : Nat => cnW p r i) (n := s)
  have t5 := sm_congr (f := fun r : Nat => (e : Int) - cnW p r i + cnW p r i) (g := fun _ : Nat => (e : Int)) (n := s) (fun r _ => by show (e : Int) - cnW p r i + cnW p r i = e; omega)
  intro r hr
  have t6 := sm_top (f := fun r : Nat => (e : Int) - cnW p r i) (m := 0) (j := r) hr (fun q hq => by have := P2 q hq; show 0 ≤ (e : Int) - cnW p q i; omega)
  have t7 : (e : Int) * s = n := by rw [← hse, Int.natCast_mul, Int.mul_comm]
  have t8 := P2 r hr
  have t9 : sm (fun r : Nat => cnW p r i) s = i := by
    show sm (fun r : Nat => ldW (fun _ => 1) p r i) s = i
    omega
  rw [Int.zero_mul] at t6
  have t6' : (e : Int) - cnW p r i ≤ sm (fun r : Nat => (e : Int) - cnW p r i) s := by
    have : (e : Int) - cnW p r i + 0 ≤ sm (fun r : Nat => (e : Int) - cnW p r i) s := t6
    omega
  omega
def rowH (v fl : Int → Int) (s e n : Nat) (g : HI) : Prop := (g 52 0 = n ∧ g 52 5 = s ∧ g 52 6 = e) ∧ (∀ j : Nat, j < n → (g 54 j = v j ∧ 0 ≤ v j ∧ v j ≤ 10000) ∧ g 55 j = fl j ∧ 0 ≤ fl j ∧ fl j ≤ 1000000) ∧ dnh v n 0 g ∧ dnf fl n 0 g ∧ rzI g
def rbO (g : HI) : Prop := (-1 ≤ g 52 2 ∧ g 52 2 ≤ 1000000) ∧ (0 ≤ g 52 3 ∧ g 52 3 ≤ 2147483647) ∧ (0 ≤ g 52 4 ∧ g 52 4 ≤ 2147483647)
def rLB (g : HI) : Int := rv3 (g 52 2) (g 52 3) (g 52 4)
def rwP (v fl : Int → Int) (s e i : Nat) (p : Int → Int) (g : HI) : Prop := canW s p i ∧ ∀ r : Nat, r < s → (g 57 r = ldW v p r i ∧ g 58 r = ldW fl p r i ∧ g 59 r = cnW p r i) ∧ cnW p r i ≤ e
section RWB
variable {l : Launch} {D : Nat} {ζ : ZP} {h : HI} {Q : Int → HI → Prop} {v fl : Int → Int} {s e n i : Nat} {p : Int → Int}
theorem s_hope (hn : 144 ≤ ζ.2.2.2.2) (n12 : n ≤ 12) (s1 : 1 ≤ s) (s12 : s ≤ 12) (hse : s * e = n) (hi : i ≤ n) (H : rowH v fl s e n h) (P : rwP v fl s e i p h) (B : rbO h) (hy : (i = n → rwV v fl s n p < rLB h) → Q 1 h) (hz : (∀ u, rwC s e n u → exW i p u → rLB h ≤ rwV v fl s n u) → Q 0 h) : RtI l (D + 3) mX2_hopeful (zz ζ) [aP 52, aI ((i : Int) * 13)] h Q := by
  have zh : ∀ q : Int, 0 ≤ q → q ≤ 12 → h 60 (q * 13) = 0 ∧ h 61 (q * 13) = 0 := fun q q0 q1 => ⟨(H.2.2.2.2 q q0 q1).1, (H.2.2.2.2 q q0 q1).2.1⟩
  have zf : ∀ q : Int, 0 ≤ q → q ≤ 12 → h 62 (q * 13) = 0 ∧ h 63 (q * 13) = 0 := fun q q0 q1 => ⟨(H.2.2.2.2 q q0 q1).2.2.1, (H.2.2.2.2 q q0 q1).2.2.2⟩
  obtain ⟨a, ra, ta⟩ := tab_h n12 H.2.2.1 zh hi
  obtain ⟨a', ra', ta'⟩ := tab_f n12 H.2.2.2.1 zf hi
  obtain ⟨a0, ra0, ta0⟩ := tab_h n12 H.2.2.1 zh (i := 0) (by omega)
  obtain ⟨a0', ra0', ta0'⟩ := tab_f n12 H.2.2.2.1 zf (i := 0) (by omega)
  rw [Nat.sub_zero] at ra0 ta0 ra0' ta0'
  have et : h 61 n = sm (fun j : Nat => v j) n := by
    have := (ta0 n (Nat.le_refl _)).2
    rw [ris_tot ra0, show ((0 : Nat) : Int) * 13 + n = n by omega] at this
    exact this
  have et' : h 63 n = sm (fun j : Nat => fl j) n := by
    have := (ta0' n (Nat.le_refl _)).2
    rw [ris_tot ra0', show ((0 : Nat) : Int) * 13 + n = n by omega] at this
    exact this
  have vb : ∀ j : Nat, j < n → 0 ≤ v j ∧ v j ≤ 10000 := fun j hj => (H.2.1 j hj).1.2
  have fb : ∀ j : Nat, j < n → 0 ≤ fl j ∧ fl j ≤ 1000000 := fun j hj => (H.2.1 j hj).2.2
  have tb := sm_bd (f := fun j : Nat => v j) (K := 0) (L := 10000) (n := n) vb
  have tb' := sm_bd (f := fun j : Nat => fl j) (K := 0) (L := 1000000) (n := n) fb
  have ea := ris_elem (K := 0) (L := 10000) ra (fun j _ j1 => vb j (by omega))
  have ea' := ris_elem (K := 0) (L := 1000000) ra' (fun j _ j1 => fb j (by omega))
  have op := rw_open hse hi P.1 (fun r hr => (P.2 r hr).2)
  have bu : ∀ u, (0 ≤ tpW v u s n - wkW v u s n ∧ tpW v u s n - wkW v u s n < rvK) ∧ (0 ≤ tpW fl u s n - wkW fl u s n ∧ tpW fl u s n - wkW fl u s n < rvK) := fun u => by
    have q := w_bdL (t := v) (u := u) (s := s) (n := n) s1 vb
    have q' := w_bdL (t := fl) (u := u) (s := s) (n := n) s1 fb
    unfold rvK
    omega
  have bb : (0 ≤ h 52 3 ∧ h 52 3 < rvK) ∧ (0 ≤ h 52 4 ∧ h 52 4 < rvK) := by
    have := B.2
    unfold rvK
    omega
  refine s_hopeful hn (tot := sm (fun j : Nat => v j) n) (ft := sm (fun j : Nat => fl j) n) (A := fun r : Nat => ldW v p r i + sfA a (n - i) ((e : Int) - cnW p r i).toNat) (B := fun r : Nat => ldW v p r i + pfA a ((e : Int) - cnW p r i).toNat) (A' := fun r : Nat => ldW fl p r i + sfA a' (n - i) ((e : Int) - cnW p r i).toNat) (B' := fun r : Nat => ldW fl p r i + pfA a' ((e : Int) - cnW p r i).toNat) n12 s1 s12 H.1.1 H.1.2.1 H.1.2.2 ⟨et, by omega, by omega⟩ ⟨et', by omega, by omega⟩ B.1 B.2.1 B.2.2 (fun r hr => ?_) (fun r hr => ?_) (fun y1 y2 => hy (fun ei => ?_)) (fun no => hz (fun u C x => ?_))
  · have pr := (P.2 r hr).1
    have o := op r hr
    obtain ⟨k, ek⟩ : ∃ k : Nat, (e : Int) - cnW p r i = k := ⟨((e : Int) - cnW p r i).toNat, by omega⟩
    have tk := ta k (by omega)
    have l1 := ld_bdL (t := v) (w := p) (r := r) (L := 10000) (k := i) (n := n) vb hi
    have l2 := pf_bd ea (k := k) (by omega)
    have l3 := sf_bd ea (k := k) (by omega)
    show _ ∧ _ = ldW v p r i + sfA a (n - i) ((e : Int) - cnW p r i).toNat ∧ _ = ldW v p r i + pfA a ((e : Int) - cnW p r i).toNat ∧ (0 ≤ ldW v p r i + sfA a (n - i) ((e : Int) - cnW p r i).toNat ∧ ldW v p r i + sfA a (n - i) ((e : Int) - cnW p r i).toNat ≤ 1000000) ∧ (0 ≤ ldW v p r i + pfA a ((e : Int) - cnW p r i).toNat ∧ ldW v p r i + pfA a ((e : Int) - cnW p r i).toNat ≤ 1000000)
    rw [pr.2.2, ek, Int.toNat_natCast, pr.1, tk.1, tk.2]
    exact ⟨⟨by omega, by omega⟩, rfl, rfl, by omega, by omega⟩
  · have pr := (P.2 r hr).1
    have o := op r hr
    obtain ⟨k, ek⟩ : ∃ k : Nat, (e : Int) - cnW p r i = k := ⟨((e : Int) - cnW p r i).toNat, by omega⟩
    have tk := ta' k (by omega)
    have l1 := ld_bdL (t := fl) (w := p) (r := r) (L := 1000000) (k := i) (n := n) fb hi
    have l2 := pf_bd ea' (k := k) (by omega)
    have l3 := sf_bd ea' (k := k) (by omega)
    show _ ∧ _ = ldW fl p r i + sfA a' (n - i) ((e : Int) - cnW p r i).toNat ∧ _ = ldW fl p r i + pfA a' ((e : Int) - cnW p r i).toNat ∧ (0 ≤ ldW fl p r i + sfA a' (n - i) ((e : Int) - cnW p r i).toNat ∧ ldW fl p r i + sfA a' (n - i) ((e : Int) - cnW p r i).toNat ≤ 20000000) ∧ (0 ≤ ldW fl p r i + pfA a' ((e : Int) - cnW p r i).toNat ∧ ldW fl p r i + pfA a' ((e : Int) - cnW p r i).toNat ≤ 20000000)
    rw [pr.2.2, ek, Int.toNat_natCast, pr.2.1, tk.1, tk.2]
    exact ⟨⟨by omega, by omega⟩, rfl, rfl, by omega, by omega⟩
  · subst ei
    have C : rwC s e i p := ⟨P.1, fun r hr => by have := op r hr; omega⟩
    have x : exW i p p := fun _ _ => rfl
    have w1 := wk_fold s1 hi C x ra (by omega)
    have w2 := tp_fold s1 hi C x ra (by omega)
    have w3 := wk_fold s1 hi C x ra' (by omega)
    have w4 := tp_fold s1 hi C x ra' (by omega)
    have z0 : ∀ r : Nat, r < s → ((e : Int) - cnW p r i).toNat = 0 := fun r hr => by have := C.2 r hr; omega
    have e1 : ∀ (t b : Int → Int) (r : Nat), r < s → ldW t p r i + sfA b (i - i) ((e : Int) - cnW p r i).toNat = ldW t p r i := fun t b r hr => by
      rw [z0 r hr]; show _ + 0 = _; omega
    have e2 : ∀ (t b : Int → Int) (r : Nat), r < s → ldW t p r i + pfA b ((e : Int) - cnW p r i).toNat = ldW t p r i := fun t b r hr => by
      rw [z0 r hr]; show _ + 0 = _; omega
    have w1' : fmn ((sm (fun j : Nat => v j) i).tdiv s) (fun r : Nat => ldW v p r i + sfA a (i - i) ((e : Int) - cnW p r i).toNat) s ≤ wkW v p s i := (mnI_le s1).mpr (fun r hr => by
      have := (fmn_le.mp (Int.le_refl (fmn ((sm (fun j : Nat => v j) i).tdiv s) (fun r : Nat => ldW v p r i + sfA a (i - i) ((e : Int) - cnW p r i).toNat) s))).2 r hr
      simp only [e1 v a r hr] at this
      exact this)
    have w3' : fmn ((sm (fun j : Nat => fl j) i).tdiv s) (fun r : Nat => ldW fl p r i + sfA a' (i - i) ((e : Int) - cnW p r i).toNat) s ≤ wkW fl p s i := (mnI_le s1).mpr (fun r hr => by
      have := (fmn_le.mp (Int.le_refl (fmn ((sm (fun j : Nat => fl j) i).tdiv s) (fun r : Nat => ldW fl p r i + sfA a' (i - i) ((e : Int) - cnW p r i).toNat) s))).2 r hr
      simp only [e1 fl a' r hr] at this
      exact this)
    have w2' : tpW v p s i ≤ fmx ((sm (fun j : Nat => v j) i + s - 1).tdiv s) (fun r : Nat => ldW v p r i + pfA a ((e : Int) - cnW p r i).toNat) s := (mxI_le s1).mpr (fun r hr => by
      have := (fmx_le.mp (Int.le_refl (fmx ((sm (fun j : Nat => v j) i + s - 1).tdiv s) (fun r : Nat => ldW v p r i + pfA a ((e : Int) - cnW p r i).toNat) s))).2 r hr
      simp only [e2 v a r hr] at this
      exact this)
    have w4' : tpW fl p s i ≤ fmx ((sm (fun j : Nat => fl j) i + s - 1).tdiv s) (fun r : Nat => ldW fl p r i + pfA a' ((e : Int) - cnW p r i).toNat) s := (mxI_le s1).mpr (fun r hr => by
      have := (fmx_le.mp (Int.le_refl (fmx ((sm (fun j : Nat => fl j) i + s - 1).tdiv s) (fun r : Nat => ldW fl p r i + pfA a' ((e : Int) - cnW p r i).toNat) s))).2 r hr
      simp only [e2 fl a' r hr] at this
      exact this)
    unfold rwV rLB
    rw [rv3_lt (bu p).1 (bu p).2 bb.1 bb.2]
    generalize fmn ((sm (fun j : Nat => v j) i).tdiv s) (fun r : Nat => ldW v p r i + sfA a (i - i) ((e : Int) - cnW p r i).toNat) s = M at *
    generalize fmx ((sm (fun j : Nat => v j) i + s - 1).tdiv s) (fun r : Nat => ldW v p r i + pfA a ((e : Int) - cnW p r i).toNat) s = T at *
    generalize fmn ((sm (fun j : Nat => fl j) i).tdiv s) (fun r : Nat => ldW fl p r i + sfA a' (i - i) ((e : Int) - cnW p r i).toNat) s = M' at *
    generalize fmx ((sm (fun j : Nat => fl j) i + s - 1).tdiv s) (fun r : Nat => ldW fl p r i + pfA a' ((e : Int) - cnW p r i).toNat) s = T' at *
    have y1' := y1.1
    clear y1
    omega
  · unfold rLB
    have w1 := wk_fold s1 hi C x ra (by omega)
    have w2 := tp_fold s1 hi C x ra (by omega)
    have w3 := wk_fold s1 hi C x ra' (by omega)
    have w4 := tp_fold s1 hi C x ra' (by omega)
    exact rw_hope (LU := fmx ((sm (fun j : Nat => fl j) n + s - 1).tdiv s) (fun r : Nat => ldW fl p r i + pfA a' ((e : Int) - cnW p r i).toNat) s - fmn ((sm (fun j : Nat => fl j) n).tdiv s) (fun r : Nat => ldW fl p r i + sfA a' (n - i) ((e : Int) - cnW p r i).toNat) s) s1 bb.1 bb.2 (bu u).1 (bu u).2 w1 w2 (by omega) (row_tot C) no
end RWB
