/-! HOUSE: the call -/
def hs0 : HS := (0, fun _ => [], 0, fun _ => [], fun i => lawv 2 i, fun _ => false, 0)
theorem hs0_ok {n : Nat} : HO n hs0 := by
  refine ⟨by omega, by omega, by omega, fun k hk => by omega, fun k hk => by omega, fun k k' hk => by omega, ?_⟩
  decide
/-- the stock renewed -/
theorem SR_new {S : HI} {s nm : Int → Int} {n nb nx p : Nat} {bn xn : Nat → List Int} {lw : Int → Int} {td' : Nat → Bool} (ho : HO n (nb, bn, nx, xn, lw, td', p)) (a1 : S 1 3 = nb) (a2 : S 1 4 = nx) (a3 : ∀ k : Nat, k < nx → S 3 k = er (xn k) ∧ nm (6 + (k : Int)) = ew (xn k)) (a4 : ∀ i : Nat, i < 9 → S 4 i = lw i) (z : S 0 3 = 0 ∧ S 0 5 = 0 ∧ S 0 10 = 0 ∧ S 7 0 = 0 ∧ S 7 7 = 0 ∧ S 5 1 = 0 ∧ S 5 2 = 0) (zr : ∀ j : Int, j < 0 ∨ 200 ≤ j → S 20 j = 0 ∧ S 21 j = 0 ∧ S 22 j = 0 ∧ S 23 j = 0) (s0 : s 0 = nb) (s1 : s 1 = nx) (sl : ∀ i : Nat, i < 9 → s (2 + (i : Int)) = lw i) (sz : ∀ j : Int, 11 ≤ j → j ≤ 16 → s j = 0) : SR S s nm := by
  obtain ⟨h1, h2, h3, h4, h5, h6, h7⟩ := ho
  refine ⟨⟨⟨by omega, by omega, by omega⟩, ⟨by omega, by omega, by omega⟩, fun i i0 i9 => ?_, fun c c0 c1 => ?_, fun c c' c0 c1 c0' c1' e => ?_⟩, ⟨⟨by omega, by omega, by rw [sz 11 (by omega) (by omega), z.1]⟩, fun c c0 c1 => by omega⟩, ⟨⟨by omega, by omega, by rw [sz 12 (by omega) (by omega), z.2.1]⟩, ?_, fun r hr => by omega, zr⟩, ⟨⟨by omega, by omega, by rw [sz 13 (by omega) (by omega), z.2.2.1]⟩, fun k hk => by omega, fun k k' _ hk => by omega, fun c c0 c1 => by omega⟩, ⟨⟨by omega, by omega, by rw [sz 14 (by omega) (by omega), z.2.2.2.1]⟩, ⟨by omega, by omega, by rw [sz 15 (by omega) (by omega), z.2.2.2.2.1]⟩, fun p p0 p1 => by omega, fun c c0 c1 => by omega, fun m hm => by omega, fun m m' _ hm => by omega⟩, ⟨⟨by omega, by omega, by rw [sz 16 (by omega) (by omega), z.2.2.2.2.2.1]⟩, ⟨by omega, by omega, by rw [z.2.2.2.2.2.1, z.2.2.2.2.2.2]⟩, fun k hk => by omega, fun q => by omega⟩⟩
  · obtain ⟨k, rfl⟩ := Int.eq_ofNat_of_zero_le i0
    have := h7 k (by omega)
    rw [sl k (by omega), a4 k (by omega)]
    exact ⟨rfl, this⟩
  · obtain ⟨k, rfl⟩ := Int.eq_ofNat_of_zero_le c0
    have q := a3 k (by omega)
    have o := h5 k (by omega)
    exact ⟨xn k, o.1, o.2.1, o.2.2, q.1, q.2⟩
  · obtain ⟨k, rfl⟩ := Int.eq_ofNat_of_zero_le c0
    obtain ⟨k', rfl⟩ := Int.eq_ofNat_of_zero_le c0'
    rw [(a3 k (by omega)).1, (a3 k' (by omega)).1] at e
    have := h6 k k' (by omega) (by omega) (er_inj (h5 k (by omega)).2.2 (h5 k' (by omega)).2.2 e)
    rw [this]
  · unfold TDok td
    refine ⟨by show (S 0 5).toNat ≤ 200; omega, by show (S 0 3).toNat ≤ 60; omega, by show (S 1 3).toNat ≤ 6; omega, fun r hr => ?_⟩
    have : r < (S 0 5).toNat := hr
    omega
section HO7
variable {l : Launch} {D : Nat} {ζ : ZP} {h : HI} {Q : Int → HI → Prop} {QV : HI → Prop} {b : Int → Int} {n nb nx p : Nat} {bn xn : Nat → List Int} {lw : Int → Int} {td : Nat → Bool}
/-- the class reads it all -/
theorem c_house (zk : ζok ζ) (n540 : n ≤ 540) (e1 : h 1 1 = n) (hb : ∀ j : Nat, j < 540 → h 2 j = b j ∧ -128 ≤ b j ∧ b j ≤ 127) (hq : ∀ g', FL LHa h g' → match hAll b n 540 0 hs0 with
    | .inl e => g' 1 8 = e.1 → g' 1 9 = e.2 → Q 0 g'
    | .inr q => HX b n q.2 g' → g' 34 5 = q.1 → Q 1 g') : RtI l (D + 12) mX0_readFrom (zz ζ) [aP 34, aP 1] h Q := by
  have hn := ζok_n zk
  refine e_X0_readFrom hn (e_X7_begin hn ?_)
  have F : FL LHa h (hu (hu (hu (hu (hcs (hu (hu (hu (hu h 34 3 0) 34 4 0) 34 5 0) 34 6 0) 2 0 37 0 9) 1 2 500) 1 3 0) 1 8 0) 1 9 0) := by
    refine ((((?_ : FL LHa h (hcs (hu (hu (hu (hu h 34 3 0) 34 4 0) 34 5 0) 34 6 0) 2 0 37 0 9)).u (by decide)).u (by decide)).u (by decide)).u (by decide)
    intro k j q
    unfold hcs
    rw [if_neg (fun z => ?_)]
    · exact ((((FL.refl (L := LHa) (h := h)).u (by decide)).u (by decide)).u (by decide)).u (by decide) k j q
    · have : inL LHa 37 j = true := inL_of.mpr ⟨(37, -1), by decide, rfl, Or.inl rfl⟩
      rw [z.1, this] at q
      cases q
  generalize hg : hu (hu (hu (hu (hcs (hu (hu (hu (hu h 34 3 0) 34 4 0) 34 5 0) 34 6 0) 2 0 37 0 9) 1 2 500) 1 3 0) 1 8 0) 1 9 0 = g at F ⊢
  have e34 : g 34 3 = 0 ∧ g 34 4 = 0 ∧ g 34 5 = 0 ∧ g 34 6 = 0 := by
    rw [← hg]; simp [hu, hcs]
  have e37 : ∀ i : Nat, i < 9 → g 37 i = lawv 2 i := by
    intro i hi; rw [← hg]
    rw [hu_c _ _ _ (by decide), hu_c _ _ _ (by decide), hu_c _ _ _ (by decide), hu_c _ _ _ (by decide)]
    unfold hcs
    rw [if_pos ⟨rfl, by omega, by omega⟩]
    congr 1; omega
  have g2 : g 2 = h 2 := F.c 2 (by decide)
  have g18 : g 1 8 = 0 := by rw [← hg, hu_j _ _ _ (by decide), hu_s]
  have tp : tpc b n 500 g := by
    refine ⟨⟨?_, ?_⟩, ?_⟩
    · rw [F.at 1 1 (by decide)]; exact e1
    · rw [← hg, hu_j _ _ _ (by decide), hu_j _ _ _ (by decide), hu_j _ _ _ (by decide), hu_s]; rfl
    · rw [g2]; exact hb
  refine s_step (p := 0) zk n540 (by omega) (by omega) tp (by rw [← hg, hu_j _ _ _ (by decide), hu_j _ _ _ (by decide), hu_s]; rfl) (fun g1 f1 t1 => ?_)
  have e34' : g1 34 = g 34 := f1.c 34 (by decide)
  have e37' : g1 37 = g 37 := f1.c 37 (by decide)
  refine c_all (D := D + 1) (b := b) zk n540 (f := 540) (k := 0) (s := hs0) (g := g1) hs0_ok (by show n + 1 ≤ 0 + 2 * 540; omega) (by omega) ⟨⟨⟨by rw [e34']; exact e34.1, fun k hk => by omega⟩, ⟨by rw [e34']; exact e34.2.1, fun k hk => by omega⟩, ⟨by rw [e37']; exact e37, by rw [f1.at 1 8 (by decide)]; exact g18⟩, ⟨0, by decide, by rw [e34']; exact e34.2.2.2, fun w _ _ => by simp⟩⟩, tp.fl f1 (by decide), t1⟩ (by rw [e34']; exact e34.2.2.1) (fun g' f' => hq g' ((F.trans (f1.mono (by decide))).trans f'))
/-- the reference reads it all -/
theorem m_house (zk : ζok ζ) (n540 : n ≤ 540) (e2 : h 97 2 = n) (hb : ∀ j : Nat, j < 540 → h 98 j = b j ∧ -128 ≤ b j ∧ b j ≤ 127) (rs : rsI h) (hq : ∀ g', FL LGa h g' → g' 97 2 = 0 → match hAll b n 540 0 hs0 with
    | .inl e => g' 97 14 = e.1 → g' 97 15 = e.2 → Q ((-1) - e.2) g'
    | .inr q => HM b n q.2 g' → g' 97 18 = q.1 → G l (D + 7) 0 0 mX12_house (zz ζ) 80 [aP 97, aI 0] [] g' (qI (zz ζ) Q)) : RtI l (D + 7) mX12_house (zz ζ) [aP 97] h Q := by
  have hn := ζok_n zk
  refine e_X12_house hn (e_X12_taken hn (e_X12_plainHouse hn ?_))
  have ee : hu h 97 0 0 97 2 = n := by rw [hu_j _ _ _ (by decide)]; exact e2
  rw [ee]
  have F : FL LGa h (hu (hu (hu (hu (hu (hu (hu (hu (hu (hu (hu (hu (hu (hu (hu (hu (hu (hu (hu h 97 0 0) 97 3 n) 97 2 0) 97 4 0) 97 5 500) 97 14 0) 97 19 0) 97 18 0) 100 0 0) 100 1 0) 100 2 2) 100 3 1) 100 4 100) 100 5 5) 100 6 100) 100 7 2) 100 8 3) 100 9 20) 100 10 40) := ((((((((((((((((((FL.refl.u (by decide)).u (by decide)).u (by decide)).u (by decide)).u (by decide)).u (by decide)).u (by decide)).u (by decide)).ua (by decide)).ua (by decide)).ua (by decide)).ua (by decide)).ua (by decide)).ua (by decide)).ua (by decide)).ua (by decide)).ua (by decide)).ua (by decide)).ua (by decide)
  generalize hg : hu (hu (hu (hu (hu (hu (hu (hu (hu (hu (hu (hu (hu (hu (hu (hu (hu (hu (hu h 97 0 0) 97 3 n) 97 2 0) 97 4 0) 97 5 500) 97 14 0) 97 19 0) 97 18 0) 100 0 0) 100 1 0) 100 2 2) 100 3 1) 100 4 100) 100 5 5) 100 6 100) 100 7 2) 100 8 3) 100 9 20) 100 10 40 = g at F ⊢
  have e97 : (g 97 3 = n ∧ g 97 5 = 500 ∧ g 97 4 = 0 ∧ g 97 14 = 0) ∧ g 97 19 = 0 ∧ g 97 18 = 0 ∧ g 97 2 = 0 := by
    rw [← hg]; simp [hu]
  have e100 : (g 100 0 = 0 ∧ g 100 1 = 0) ∧ ∀ i : Nat, i < 9 → g 100 (2 + i) = lawv 2 i := by
    refine ⟨by rw [← hg]; simp [hu], fun i hi => ?_⟩
    have : i = 0 ∨ i = 1 ∨ i = 2 ∨ i = 3 ∨ i = 4 ∨ i = 5 ∨ i = 6 ∨ i = 7 ∨ i = 8 := by omega
    rw [← hg]
    rcases this with z | z | z | z | z | z | z | z | z <;> subst z <;> rfl
  have tp : tpm b n 500 g := ⟨⟨e97.1.1, e97.1.2.1⟩, by rw [F.c 98 (by decide)]; exact hb⟩
  refine m_step (p := 0) (nb := 0) (bn := fun _ => []) (nx := 0) (xn := fun _ => []) (lw := fun i => lawv 2 i) (td := fun _ => false) hn n540 (by omega) ⟨⟨e100.1.1, fun k hk => by omega⟩, ⟨e100.1.2, fun k hk => by omega⟩, ⟨e100.2, e97.1.2.2.2⟩, ⟨0, by decide, e97.2.1, fun w _ _ => by simp⟩, by unfold rsI; rw [F.c 102 (by decide)]; exact rs⟩ tp e97.1.2.2.1 (fun g1 f1 x1 => ?_)
  have g12 : g1 97 2 = 0 := by rw [f1.at 97 2 (by decide)]; exact e97.2.2.2
  refine m_all (b := b) zk n540 (f := 540) (k := 0) (s := hs0) (g := g1) hs0_ok (by show n + 1 ≤ 0 + 2 * 540; omega) x1 (by rw [f1.at 97 18 (by decide)]; exact e97.2.2.1) (fun g' f' => hq g' ((F.trans (f1.mono (by decide))).trans (f'.mono (by decide))) (by rw [f'.at 97 2 (by decide)]; exact g12))
/-- the reference's stock and names -/
theorem m_copy (hn : 144 ≤ ζ.2.2.2.2) {g0 : HI} (hq : ∀ g, FL [(99, -1), (101, -1)] g0 g → (∀ j : Int, 0 ≤ j → j < 2819 → g 99 j = if j < 11 then g0 100 j else 0) → (∀ j : Int, 0 ≤ j → j < 14 → g 101 j = g0 101 (14 + j)) → Q (g0 97 18) g) : G l (D + 1) 0 0 mX12_house (zz ζ) 80 [aP 97, aI 0] [] g0 (qI (zz ζ) Q) := by
  have L1 := lup (N := 2819) (R := fun i g => G l (D + 1) 0 0 mX12_house (zz ζ) 80 [aP 97, aI i] [] g (qI (zz ζ) Q)) (P := fun i g => FL [(99, -1)] g0 g ∧ ∀ j : Int, 0 ≤ j → j < i → g 99 j = if j < 11 then g0 100 j else 0) ?_ ?_
  · exact L1 0 g0 (by omega) (by omega) ⟨FL.refl, fun j h0 h1 => by omega⟩
  · rintro i g h0 h1 ⟨f, w⟩ k1
    have st : ∀ v, v = (if i < 11 then g0 100 i else 0) → G l (D + 1) 0 0 mX12_house (zz ζ) 80 [aP 97, aI (i + 1)] [] (hu g 99 i v) (qI (zz ζ) Q) := by
      intro v ev
      refine k1 _ ⟨f.ua (by decide), fun j j0 j1 => ?_⟩
      rw [hu_eq]
      by_cases z : j = i
      · rw [if_pos ⟨rfl, z⟩, z]; exact ev
      · rw [if_neg (fun q => z q.2)]; exact w j j0 (by omega)
    refine b_X12_house_80 hn ⟨by constructor <;> omega, iteN (by omega) ?_⟩
    by_cases c : 11 ≤ i
    · exact iteP c ⟨by omega, st 0 (by rw [if_neg (by omega)])⟩
    · exact iteN c ⟨by omega, by omega, st _ (by rw [if_pos (by omega), f.c 100 (by decide)])⟩
  · rintro g ⟨f, w⟩
    refine b_X12_house_80 hn ⟨by decide, iteP (by omega) ?_⟩
    have L2 := lup (N := 14) (R := fun i g => G l (D + 1) 0 0 mX12_house (zz ζ) 117 [aP 97, aI i] [] g (qI (zz ζ) Q)) (P := fun i g' => FL [(101, -1)] g g' ∧ (∀ j : Int, 0 ≤ j → j < i → g' 101 j = g0 101 (14 + j)) ∧ ∀ j : Int, 14 ≤ j → g' 101 j = g0 101 j) ?_ ?_
    · exact L2 0 g (by omega) (by omega) ⟨FL.refl, fun j h0 h1 => by omega, fun j hj => by rw [f.c 101 (by decide)]⟩
    · rintro i g' h0 h1 ⟨f', w1, w2⟩ k1
      refine b_X12_house_117 hn ⟨by constructor <;> omega, iteN (by omega) ⟨by omega, by omega, k1 _ ⟨f'.ua (by decide), fun j j0 j1 => ?_, fun j hj => ?_⟩⟩⟩
      · rw [hu_eq]
        by_cases z : j = i
        · rw [if_pos ⟨rfl, z⟩, z]; exact w2 _ (by omega)
        · rw [if_neg (fun q => z q.2)]; exact w1 j j0 (by omega)
      · rw [hu_j _ _ _ (by omega)]; exact w2 j hj
    · rintro g' ⟨f', w1, w2⟩
      refine b_X12_house_117 hn ⟨by decide, iteP (by omega) ?_⟩
      rw [f'.at 97 18 (by decide), f.at 97 18 (by decide)]
      refine hq g' ((f.mono (by decide)).trans (f'.mono (by decide))) (fun j j0 j1 => ?_) w1
      rw [f'.c 99 (by decide)]; exact w j j0 j1
def LC : List (Nat × Int) := [(5, -1), (6, -1), (7, -1), (4, 3), (4, 4), (4, 5), (8, 1), (8, 2), (10, 0), (10, 7), (3, 3), (3, 5), (3, 10)]
theorem s_renew (hn : 144 ≤ ζ.2.2.2.2) (hq : ∀ g, FL LC h g → (g 4 3 = h 34 3 ∧ g 4 4 = h 34 4) → (∀ k : Int, 0 ≤ k → k < 8 → g 6 k = h 36 k) → (∀ k : Int, 0 ≤ k → k < 9 → g 7 k = h 37 k) → (g 3 3 = 0 ∧ g 3 5 = 0 ∧ g 3 10 = 0 ∧ g 10 0 = 0 ∧ g 10 7 = 0 ∧ g 8 1 = 0 ∧ g 8 2 = 0) → QV g) : RtV l (D + 2) mX5_renew (zz ζ) [aP 3, aP 34] h QV := by
  refine e_X5_renew hn (e_X0_copyFrom_r hn (e_X1_clear hn ?_))
  have F0 : FL LC h (hcp (hcp (hcp h 35 0 5 0 6) 36 0 6 0 8) 37 0 7 0 9) := ((FL.refl.cp (by decide)).cp (by decide)).cp (by decide)
  have a6 : ∀ k : Int, 0 ≤ k → k < 8 → hcp (hcp (hcp h 35 0 5 0 6) 36 0 6 0 8) 37 0 7 0 9 6 k = h 36 k := by
    intro k k0 k1
    rw [cp_c (by decide), cp_s k0 k1, cp_c (by decide)]
  have a7 : ∀ k : Int, 0 ≤ k → k < 9 → hcp (hcp (hcp h 35 0 5 0 6) 36 0 6 0 8) 37 0 7 0 9 7 k = h 37 k := by
    intro k k0 k1
    rw [cp_s k0 k1, cp_c (by decide), cp_c (by decide)]
  have a34 : hcp (hcp (hcp h 35 0 5 0 6) 36 0 6 0 8) 37 0 7 0 9 34 = h 34 := F0.c 34 (by decide)
  generalize hcp (hcp (hcp h 35 0 5 0 6) 36 0 6 0 8) 37 0 7 0 9 = t at F0 a6 a7 a34 ⊢
  rw [a34]
  refine hq _ ((((((((((F0.u (by decide)).u (by decide)).u (by decide)).u (by decide)).u (by decide)).u (by decide)).u (by decide)).u (by decide)).u (by decide)).u (by decide)) ⟨?_, ?_⟩ (fun k k0 k1 => ?_) (fun k k0 k1 => ?_) ⟨?_, ?_, ?_, ?_, ?_, ?_, ?_⟩
  · simp [hu]
  · simp [hu]
  · rw [← a6 k k0 k1]; simp [hu]
  · rw [← a7 k k0 k1]; simp [hu]
  all_goals simp [hu]
theorem op_house (i : Inv ζ h) : Op l (D + 60) ζ mX11_house mX12_house [] h := by
  have zk := i.1.1
  have hn := ζok_n zk
  have tp : tpI h := i.1.2 0
  have rs : rsI h := i.1.2 10
  have sr : SR (stk 3 h) (h 99) (h 101) := i.1.2 2
  obtain ⟨n, en⟩ := Int.eq_ofNat_of_zero_le tp.1
  have n540 : n ≤ 540 := by have := tp.2.1; omega
  have hb : ∀ j : Nat, j < 540 → h 2 j = h 2 j ∧ -128 ≤ h 2 j ∧ h 2 j ≤ 127 := fun j hj => ⟨rfl, (tp.2.2.2 j (by omega) (by omega)).2⟩
  have ok := hAll_ok (b := h 2) (f := 540) (k := 0) n540 (s := hs0) hs0_ok (by show n + 1 ≤ 0 + 2 * 540; omega)
  refine e_X11_house hn (c_house (D := D + 47) (b := h 2) zk n540 en hb (fun g1 f1 => ?_))
  -- what the reference starts from
  have mh : ∀ (hc : HI) (Q' : Int → HI → Prop), (hc 97 = h 97) → (hc 98 = h 98) → (hc 102 = h 102) → (∀ g', FL LGa hc g' → g' 97 2 = 0 → match hAll (h 2) n 540 0 hs0 with
    | .inl e => g' 97 14 = e.1 → g' 97 15 = e.2 → Q' ((-1) - e.2) g'
    | .inr q => HM (h 2) n q.2 g' → g' 97 18 = q.1 → G l (D + 60) 0 0 mX12_house (zz ζ) 80 [aP 97, aI 0] [] g' (qI (zz ζ) Q')) → RtI l (D + 60) mX12_house (zz ζ) [aP 97] hc Q' := by
    intro hc Q' a1 a2 a3 hq
    refine m_house (D := D + 53) zk n540 (by rw [a1, tp.2.2.1, en]) (fun j hj => ⟨by rw [a2]; exact (tp.2.2.2 j (by omega) (by omega)).1, (hb j hj).2⟩) (by unfold rsI; rw [a3]; exact rs) hq
  cases e : hAll (h 2) n 540 0 hs0 with
  | inl er' =>
    rw [e] at ok mh
    intro a1 a2
    refine ⟨by decide, iteN (by decide) ?_⟩
    have F : FL ((1, 1) :: LHa) h (hu g1 1 1 0) := (f1.mono (by decide)).u (by decide)
    refine ⟨F.c _ (by decide), F.c _ (by decide), mh _ _ (F.c 97 (by decide)) (F.c 98 (by decide)) (F.c 102 (by decide)) (fun g2 f2 z2 a3 a4 => ?_)⟩
    rw [a2]
    have F2 : FL ((1, 1) :: LHa ++ LGa) h g2 := (F.mono (by decide)).trans (f2.mono (by decide))
    refine op_fin1 i rfl (by have := ok.2; constructor <;> omega) F2 [0, 1, 2] (by decide +kernel) ?_
    have c1 : g2 1 = hu g1 1 1 0 1 := f2.c 1 (by decide)
    intro m hm
    have : m = 0 ∨ m = 1 ∨ m = 2 := by simpa using hm
    rcases this with z | z | z <;> subst z
    · show tpI g2
      refine ⟨?_, ?_, ?_, ?_⟩
      · rw [c1, hu_s]; decide
      · rw [c1, hu_s]; decide
      · rw [c1, hu_s]; exact z2
      · rw [F2.c 98 (by decide), F2.c 2 (by decide)]; exact tp.2.2.2
    · show ftI g2
      unfold ftI
      rw [a3, c1, hu_j _ _ _ (by decide), a1]
      exact ⟨rfl, by have := ok.1; omega, ok.1.2⟩
    · show SR (stk 3 g2) (g2 99) (g2 101)
      rw [stk_fl (h := h) (h' := g2) (fun k hk => F2.c (3 + k) ?_), F2.c 99 (by decide)]
      · refine sr.ag (fun j _ _ => rfl) (fun j j0 j1 => ?_)
        obtain ⟨k, rfl⟩ := Int.eq_ofNat_of_zero_le (show 0 ≤ j by omega)
        have : ∀ k : Nat, k < 14 → inL ((1, 1) :: LHa ++ LGa) 101 (k : Int) = false := by decide +kernel
        exact F2.at 101 k (this k (by omega))
      · have : ∀ k : Nat, k < 30 → inC ((1, 1) :: LHa ++ LGa) (3 + k) = false := by decide +kernel
        exact this k hk
  | inr q =>
    obtain ⟨k, nb, bn, nx, xn, lw, td', p⟩ := q
    rw [e] at ok mh
    intro x1 e5
    refine ⟨by decide, iteP (by decide) (s_renew hn (fun g2 f2 r1 r2 r3 r4 => ?_))⟩
    have F1 : FL ((1, 1) :: LHa) h (hu g1 1 1 0) := (f1.mono (by decide)).u (by decide)
    have F2 : FL ((1, 1) :: (40, 0) :: LHa ++ LC) h (hu g2 40 0 1) := ((F1.mono (by decide)).trans (f2.mono (by decide))).u (by decide)
    have e34 : hu g1 1 1 0 34 = g1 34 := hu_c _ _ _ (by decide)
    have e36 : hu g1 1 1 0 36 = g1 36 := hu_c _ _ _ (by decide)
    have e37 : hu g1 1 1 0 37 = g1 37 := hu_c _ _ _ (by decide)
    rw [e34] at r1
    rw [e36] at r2
    rw [e37] at r3
    have r5 : g2 34 5 = k := by rw [f2.c 34 (by decide), e34]; exact e5
    have r11 : hu g2 40 0 1 1 = hu g1 1 1 0 1 := by rw [hu_c _ _ _ (by decide)]; exact f2.c 1 (by decide)
    refine ⟨F2.c _ (by decide), F2.c _ (by decide), mh _ _ (F2.c 97 (by decide)) (F2.c 98 (by decide)) (F2.c 102 (by decide)) (fun g3 f3 z3 x3 e18 => ?_)⟩
    refine m_copy hn (fun g4 f4 s4 n4 => ?_)
    rw [e18, r5]
    have F4 : FL ((1, 1) :: (40, 0) :: LHa ++ LC ++ LGa ++ [(99, -1), (101, -1)]) h g4 := ((F2.mono (by decide)).trans (f3.mono (by decide))).trans (f4.mono (by decide +kernel))
    have FF : FL (LGa ++ [(99, -1), (101, -1)]) (hu g2 40 0 1) g4 := (f3.mono (by decide)).trans (f4.mono (by decide))
    have ho : HO n (nb, bn, nx, xn, lw, td', p) := ok.1
    refine ⟨⟨by omega, by have : k ≤ 0 + 540 := ok.2; omega⟩, ⟨by omega, by have : k ≤ 0 + 540 := ok.2; omega⟩, rfl, F4.c _ (by decide +kernel), F4.c _ (by decide +kernel), i.1.upd F4 [0, 1, 2] (by decide +kernel) ?_, ?_⟩
    · intro m hm
      have : m = 0 ∨ m = 1 ∨ m = 2 := by simpa using hm
      rcases this with z | z | z <;> subst z
      · show tpI g4
        have c1 : g4 1 = hu g1 1 1 0 1 := (FF.c 1 (by decide)).trans r11
        refine ⟨?_, ?_, ?_, ?_⟩
        · rw [c1, hu_s]; decide
        · rw [c1, hu_s]; decide
        · rw [c1, hu_s, f4.at 97 2 (by decide)]; exact z3
        · rw [F4.c 98 (by decide +kernel), F4.c 2 (by decide +kernel)]; exact tp.2.2.2
      · show ftI g4
        have c1 : g4 1 = hu g1 1 1 0 1 := (FF.c 1 (by decide)).trans r11
        unfold ftI
        rw [f4.at 97 14 (by decide), x3.1.2.2.1.2, c1, hu_j _ _ _ (by decide), x1.1.2.2.1.2]
        decide
      · show SR (stk 3 g4) (g4 99) (g4 101)
        have cs : ∀ c : Nat, c < 30 → g4 (3 + c) = g2 (3 + c) := by
          intro c hc
          have : ∀ k : Nat, k < 30 → inC (LGa ++ [(99, -1), (101, -1)]) (3 + k) = false := by decide +kernel
          rw [FF.c (3 + c) (this c hc), hu_c _ _ _ (by omega)]
        have st : ∀ c : Nat, c < 30 → stk 3 g4 c = g2 (3 + c) := by
          intro c hc
          funext j
          unfold stk
          rw [if_pos hc, cs c hc]
        refine SR_new ho ?_ ?_ (fun c hc => ⟨?_, ?_⟩) (fun c hc => ?_) ?_ ?_ ?_ ?_ (fun c hc => ?_) (fun j j0 j1 => ?_)
        · rw [st 1 (by decide), r1.1]; exact x1.1.1.1
        · rw [st 1 (by decide), r1.2]; exact x1.1.2.1.1
        · have := ho.2.2.1
          rw [st 3 (by decide), r2 c (by omega) (by omega)]; exact x1.1.2.1.2 c hc
        · have := ho.2.2.1
          rw [n4 _ (by omega) (by omega), show (14 : Int) + (6 + (c : Int)) = 20 + c by omega]; exact x3.1.2.1.2 c hc
        · rw [st 4 (by decide), r3 c (by omega) (by omega)]; exact x1.1.2.2.1.1 c hc
        · rw [st 0 (by decide), st 7 (by decide), st 5 (by decide)]; exact r4
        · have zr := sr.2.2.1.2.2.2
          have z : ∀ c : Nat, 20 ≤ c → c ≤ 23 → stk 3 g4 c = stk 3 h c := by
            intro c c1 c2
            have : ∀ k : Nat, k < 24 → 20 ≤ k → inC ((1, 1) :: (40, 0) :: LHa ++ LC) (3 + k) = false := by decide +kernel
            rw [st c (by omega)]
            have e1 := F2.c (3 + c) (this c (by omega) c1)
            rw [hu_c _ _ _ (by omega)] at e1
            rw [e1]
            funext j
            unfold stk
            rw [if_pos (by omega)]
          rw [z 20 (by decide) (by decide), z 21 (by decide) (by decide), z 22 (by decide) (by decide), z 23 (by decide) (by decide)]
          exact zr
        · rw [s4 0 (by decide) (by decide), if_pos (by decide)]; exact x3.1.1.1
        · rw [s4 1 (by decide) (by decide), if_pos (by decide)]; exact x3.1.2.1.1
        · rw [s4 _ (by omega) (by omega), if_pos (by omega)]; exact x3.1.2.2.1.1 c hc
        · rw [s4 j (by omega) (by omega), if_neg (by omega)]
    · have e40 : g4 40 0 = 1 := by rw [FF.c 40 (by decide), hu_s]
      exact ⟨Or.inr e40, fun z => by omega⟩
end HO7
