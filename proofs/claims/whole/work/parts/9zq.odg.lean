/-! ORDER: the reference's, and both alike -/
section ODG
variable {l : Launch} {D : Nat} {ζ : ZP} {Q : Int → HI → Prop} {h g : HI} {W : Nat}
def Vd (W : Nat) (h : HI) (M : Nat) : Prop := ∃ p lv, vdw W h M p lv
/-- ends, from s on -/
def EP (W : Nat) (h : HI) (s : Nat) (g : HI) : Prop := ∀ N : Nat, s ≤ N → N < 2 ^ (h W 0).toNat → (g 138 N = 0 ∨ g 138 N = 1) ∧ (Vd W h N → ∀ f : Nat, bts N (h W 0).toNat + f = ((h W 0).toNat : Int) → (g 138 N = 1 ↔ En W h f N))
def IN (W : Nat) (h : HI) (M k : Nat) (g : HI) : Prop := EP W h (M + 1) g ∧ (g 138 M = 0 ∨ g 138 M = 1) ∧ (Vd W h M → (g 138 M = 1 → ∀ f : Nat, bts M (h W 0).toNat + f = ((h W 0).toNat : Int) → En W h f M) ∧ (g 138 M = 0 → M ≠ 2 ^ (h W 0).toNat - 1 ∧ ∀ j : Nat, j < k → ∀ f : Nat, bts M (h W 0).toNat + (f + 1) = ((h W 0).toNat : Int) → ¬ (cnw W h M j ∧ En W h f (M ||| 2 ^ j))))
def LMq : List (Nat × Int) := [(97, 0), (135, -1), (136, -1), (137, -1), (138, -1)]
theorem EP_hu {M : Nat} {v : Int} (e : EP W h (M + 1) g) : EP W h (M + 1) (hu g 138 M v) := by
  intro N h1 h2
  rw [hu_j _ _ _ (by omega)]; exact e N h1 h2
theorem EP_c {s : Nat} {g' : HI} (e : EP W h s g) (c : g' 138 = g 138) : EP W h s g' := by
  unfold EP; rw [c]; exact e
theorem IN_end {M k : Nat} (hM : M < 2 ^ (h W 0).toNat) (i : IN W h M k g) (d : g 138 M ≠ 0 ∨ (h W 0).toNat ≤ k) : EP W h M g := by
  intro N h1 h2
  by_cases z : N = M
  · subst z
    refine ⟨i.2.1, fun v f hf => ⟨fun e => (i.2.2 v).1 e f hf, fun en => ?_⟩⟩
    rcases i.2.1 with e | e
    · exfalso
      have q := (i.2.2 v).2 e
      cases f with
      | zero => exact q.1 en
      | succ f =>
        obtain ⟨j, j1, j2⟩ := en
        rcases d with d | d
        · exact d e
        · exact q.2 j (by omega) f (by omega) j2
    · exact e
  · exact i.1 N (by omega) h2
theorem s_mord40 (hn : 144 ≤ ζ.2.2.2.2) (hW : isW W) (we : weI W h) {M : Nat} (hM : M < 2 ^ (h W 0).toNat) (hq : ∀ g, FL LMq h g → EP W h M g → G l (D + 5) 0 0 mX12_order (zz ζ) 18 [aP 97, aI ((2 ^ (h W 0).toNat - 1 : Nat) : Int), aI ((M : Int) + (-1)), aU, aU] [] g (qI (zz ζ) Q)) : ∀ (n k : Nat) (g : HI), k + n = (h W 0).toNat → FL LMq h g → IN W h M k g → G l (D + 5) 0 0 mX12_order (zz ζ) 40 [aP 97, aI ((2 ^ (h W 0).toNat - 1 : Nat) : Int), aI M, aI k, aU] [] g (qI (zz ζ) Q) := by
  have m12 := we.1.2.1
  have m0 := we.1.1
  have p12 := pw12 (show (h W 0).toNat ≤ 12 by omega)
  intro n
  induction n with
  | zero =>
    intro k g e f i
    obtain ⟨weg, gW⟩ := weI_fl hW we f (by decide)
    have e133 : g 133 0 = h W 0 := by have := weg.1.2.2; rw [this, show g W = h W from gW 0 (by omega)]
    exact b_X12_order_40 hn ⟨by constructor <;> omega, by rw [e133]; constructor <;> omega, iteP (by rw [e133]; omega) (hq g f (IN_end hM i (Or.inr (by omega))))⟩
  | succ n ih =>
    intro k g e f i
    obtain ⟨weg, gW⟩ := weI_fl hW we f (by decide)
    have e133 : g 133 0 = h W 0 := by have := weg.1.2.2; rw [this, show g W = h W from gW 0 (by omega)]
    have hk : k < (h W 0).toNat := by omega
    have p2 : 2 ^ k < 4096 := Nat.lt_of_lt_of_le (Nat.pow_lt_pow_right (a := 2) (by omega) (show k < 12 by omega)) (by decide)
    have eM : bor (M : Int) (bshl 1 (k : Int)) = ((M ||| 2 ^ k : Nat) : Int) := by rw [bshl_1 k (by omega), bor_nat (by omega) (by omega)]
    have M2 : M ||| 2 ^ k < 2 ^ (h W 0).toNat := or_lt hM hk
    have i01 : rg (g 138 M) := by rcases i.2.1 with z | z <;> rw [z] <;> decide
    refine b_X12_order_40 hn ⟨by constructor <;> omega, by rw [e133]; constructor <;> omega, iteN (by rw [e133]; omega) ⟨by omega, i01, ?_⟩⟩
    by_cases c : g 138 M = 0
    · refine iteN (fun z => z c) ?_
      -- not from k on
      have nx : ∀ g1 : HI, FL LMq h g1 → g1 138 = g 138 → (Vd W h M → ∀ f : Nat, bts M (h W 0).toNat + (f + 1) = ((h W 0).toNat : Int) → ¬ (cnw W h M k ∧ En W h f (M ||| 2 ^ k))) → G l (D + 5) 0 0 mX12_order (zz ζ) 40 [aP 97, aI ((2 ^ (h W 0).toNat - 1 : Nat) : Int), aI M, aI ((k : Int) + 1), aU] [] (hu g1 138 M 0) (qI (zz ζ) Q) := by
        intro g1 f1 e1 z
        have := ih (k + 1) (hu g1 138 M 0) (by omega) (f1.ua (by decide)) ⟨EP_hu (EP_c i.1 e1), Or.inl (hu_s _ _ _ _), fun v => ⟨fun q => by rw [hu_s] at q; omega, fun _ => ⟨((i.2.2 v).2 c).1, fun j hj => ?_⟩⟩⟩
        · rw [show ((k + 1 : Nat) : Int) = (k : Int) + 1 by omega] at this
          exact this
        · by_cases y : j = k
          · rw [y]; exact z v
          · exact ((i.2.2 v).2 c).2 j (by omega)
      rw [tb32 (by omega) (by omega), eM]
      cases b : M.testBit k with
      | true => exact ⟨by decide, iteP (by decide) (nx g f rfl (fun _ _ _ q => by have := q.1.1; rw [b] at this; cases this))⟩
      | false =>
        refine ⟨by decide, iteN (by decide) ⟨by omega, ?_⟩⟩
        have ep := i.1 (M ||| 2 ^ k) (by have := or_gt b; omega) M2
        refine ⟨by rcases ep.1 with z | z <;> rw [z] <;> decide, ?_⟩
        have hb2 := bts_add b hk
        by_cases d : g 138 ((M ||| 2 ^ k : Nat) : Int) = 0
        · refine iteP d (nx g f rfl (fun v f' hf q => ?_))
          obtain ⟨p, lv, vd⟩ := v
          have := (ep.2 (cnw_next we hk vd q.1) f' (by omega)).mpr q.2
          omega
        · refine iteN d (s_mcanNext hn hW we weg gW (by omega) hk (fun r g1 f1 r01 iff _ => ?_))
          rcases r01 with z | z <;> subst z
          · refine ⟨by decide, iteP rfl (nx g1 (f.trans (f1.mono (by decide))) (f1.c 138 (by decide)) (fun v f' hf q => ?_))⟩
            obtain ⟨p, lv, vd⟩ := v
            have := (iff p lv vd).mpr q.1
            omega
          · refine ⟨by decide, iteN (by decide) ?_⟩
            have := ih (k + 1) (hu g1 138 M 1) (by omega) ((f.trans (f1.mono (by decide))).ua (by decide)) ⟨EP_hu (EP_c i.1 (f1.c 138 (by decide))), Or.inr (hu_s _ _ _ _), fun v => ⟨fun _ f' hf => ?_, fun q => by rw [hu_s] at q; omega⟩⟩
            · rw [show ((k + 1 : Nat) : Int) = (k : Int) + 1 by omega] at this
              exact this
            · obtain ⟨p, lv, vd⟩ := v
              have cn := (iff p lv vd).mp rfl
              have lt := bts_lt b hk
              obtain ⟨f2, rfl⟩ : ∃ f2, f' = f2 + 1 := ⟨f' - 1, by omega⟩
              refine ⟨k, hk, cn, (ep.2 (cnw_next we hk vd cn) f2 (by omega)).mp ?_⟩
              rcases ep.1 with y | y
              · exact absurd y d
              · exact y
    · exact iteP c (hq g f (IN_end hM i (Or.inl c)))
theorem s_mord140 (hn : 144 ≤ ζ.2.2.2.2) (hW : isW W) (we : weI W h) {M t f : Nat} (ht : t + (f + 1) = (h W 0).toNat) (hM : M < 2 ^ (h W 0).toNat) (hb : bts M (h W 0).toNat = t) {p lv : Int → Int} (vd : vdw W h M p lv) (en : En W h (f + 1) M) (hq : ∀ (k : Nat) g1, FL ((139, -1) :: LMq) h g1 → g1 138 = g 138 → g1 139 = g 139 → k < (h W 0).toNat → (cnw W h M k ∧ En W h f (M ||| 2 ^ k)) → (∀ j : Nat, j < k → ¬ (cnw W h M j ∧ En W h f (M ||| 2 ^ j))) → G l (D + 5) 0 0 mX12_order (zz ζ) 127 [aP 97, aU, aI ((M ||| 2 ^ k : Nat) : Int), aI ((t : Int) + 1), aU] [] (hu g1 139 t k) (qI (zz ζ) Q)) : ∀ (n k : Nat) (g1 : HI), k + n = (h W 0).toNat → FL ((139, -1) :: LMq) h g1 → g1 138 = g 138 → g1 139 = g 139 → EP W h 0 g1 → (∀ j : Nat, j < k → ¬ (cnw W h M j ∧ En W h f (M ||| 2 ^ j))) → G l (D + 5) 0 0 mX12_order (zz ζ) 140 [aP 97, aU, aI M, aI t, aI k] [] g1 (qI (zz ζ) Q) := by
  have m12 := we.1.2.1
  have m0 := we.1.1
  have p12 := pw12 (show (h W 0).toNat ≤ 12 by omega)
  intro n
  induction n with
  | zero =>
    intro k g1 e f1 e8 e9 ep no
    obtain ⟨j, j1, j2⟩ := en
    exact absurd j2 (no j (by omega))
  | succ n ih =>
    intro k g1 e f1 e8 e9 ep no
    obtain ⟨weg, gW⟩ := weI_fl hW we f1 (by decide)
    have hk : k < (h W 0).toNat := by omega
    have p2 : 2 ^ k < 4096 := Nat.lt_of_lt_of_le (Nat.pow_lt_pow_right (a := 2) (by omega) (show k < 12 by omega)) (by decide)
    have eM : bor (M : Int) (bshl 1 (k : Int)) = ((M ||| 2 ^ k : Nat) : Int) := by rw [bshl_1 k (by omega), bor_nat (by omega) (by omega)]
    have M2 : M ||| 2 ^ k < 2 ^ (h W 0).toNat := or_lt hM hk
    have nx : ∀ g2 : HI, FL ((139, -1) :: LMq) h g2 → g2 138 = g1 138 → g2 139 = g1 139 → ¬ (cnw W h M k ∧ En W h f (M ||| 2 ^ k)) → G l (D + 5) 0 0 mX12_order (zz ζ) 140 [aP 97, aU, aI M, aI t, aI ((k : Int) + 1)] [] g2 (qI (zz ζ) Q) := by
      intro g2 f2 a8 a9 z
      have := ih (k + 1) g2 (by omega) f2 (a8.trans e8) (a9.trans e9) (EP_c ep a8) (fun j hj => by
        by_cases y : j = k
        · rw [y]; exact z
        · exact no j (by omega))
      rw [show ((k + 1 : Nat) : Int) = (k : Int) + 1 by omega] at this
      exact this
    refine b_X12_order_140 hn ?_
    rw [tb32 (by omega) (by omega), eM]
    cases b : M.testBit k with
    | true => exact ⟨by decide, iteP rfl (nx g1 f1 rfl rfl (fun q => by have := q.1.1; rw [b] at this; cases this))⟩
    | false =>
      refine ⟨by decide, iteN (by decide) ⟨by omega, ?_⟩⟩
      have e1 := ep (M ||| 2 ^ k) (by omega) M2
      have hb2 := bts_add b hk
      refine ⟨by rcases e1.1 with z | z <;> rw [z] <;> decide, ?_⟩
      by_cases d : g1 138 ((M ||| 2 ^ k : Nat) : Int) = 0
      · refine iteP d (nx g1 f1 rfl rfl (fun q => ?_))
        have := (e1.2 (cnw_next we hk vd q.1) f (by omega)).mpr q.2
        omega
      · refine iteN d (s_mcanNext hn hW we weg gW (by omega) hk (fun r g2 f2 r01 iff _ => ?_))
        have F2 : FL ((139, -1) :: LMq) h g2 := f1.trans (f2.mono (by decide))
        have iff' := iff p lv vd
        rcases r01 with z | z <;> subst z
        · exact ⟨by decide, iteN (by decide) (nx g2 F2 (f2.c 138 (by decide)) (f2.c 139 (by decide)) (fun q => by have := iff'.mpr q.1; omega))⟩
        · refine ⟨by decide, iteP (by decide) ⟨by omega, hq k g2 F2 ((f2.c 138 (by decide)).trans e8) ((f2.c 139 (by decide)).trans e9) hk ⟨iff'.mp rfl, ?_⟩ no⟩⟩
          refine (e1.2 (cnw_next we hk vd (iff'.mp rfl)) f (by omega)).mp ?_
          rcases e1.1 with y | y
          · exact absurd y d
          · exact y
theorem s_mord127 (hn : 144 ≤ ζ.2.2.2.2) (hW : isW W) (we : weI W h) : ∀ (f t M : Nat) (g : HI), t + f = (h W 0).toNat → M < 2 ^ (h W 0).toNat → bts M (h W 0).toNat = t → Vd W h M → En W h f M → EP W h 0 g → FL ((139, -1) :: LMq) h g → (∀ g', FL ((139, -1) :: LMq) h g' → (∀ j : Int, j < t → g' 139 j = g 139 j) → LX W h (g' 139) f M t → Q (h W 0) (hu g' 97 78 (h W 0))) → G l (D + 5) 0 0 mX12_order (zz ζ) 127 [aP 97, aU, aI M, aI t, aU] [] g (qI (zz ζ) Q) := by
  have m12 := we.1.2.1
  have m0 := we.1.1
  intro f
  induction f with
  | zero =>
    intro t M g e hM hb v en ep fl hq
    obtain ⟨weg, gW⟩ := weI_fl hW we fl (by decide)
    have e133 : g 133 0 = h W 0 := by have := weg.1.2.2; rw [this, show g W = h W from gW 0 (by omega)]
    refine b_X12_order_127 hn ?_
    rw [e133]
    exact ⟨by constructor <;> omega, by constructor <;> omega, iteP (by omega) (hq g fl (fun _ _ => rfl) trivial)⟩
  | succ f ih =>
    intro t M g e hM hb v en ep fl hq
    obtain ⟨weg, gW⟩ := weI_fl hW we fl (by decide)
    have e133 : g 133 0 = h W 0 := by have := weg.1.2.2; rw [this, show g W = h W from gW 0 (by omega)]
    obtain ⟨p, lv, vd⟩ := v
    refine b_X12_order_127 hn ⟨by constructor <;> omega, by rw [e133]; constructor <;> omega, iteN (by rw [e133]; omega) ?_⟩
    refine s_mord140 (g := g) hn hW we e hM hb vd en (fun k g1 f1 e8 e9 hk ce no => ?_) (h W 0).toNat 0 g (by omega) fl rfl rfl ep (fun j hj => by omega)
    rw [show (t : Int) + 1 = ((t + 1 : Nat) : Int) by omega]
    refine ih (t + 1) (M ||| 2 ^ k) (hu g1 139 t k) (by omega) (or_lt hM hk) (by rw [bts_add ce.1.1 hk, hb]; omega) (cnw_next we hk vd ce.1) ce.2 (EP_c ep (by rw [hu_c _ _ _ (by decide)]; exact e8)) (f1.ua (by decide)) (fun g' f' kp lx => hq g' f' (fun j hj => ?_) ⟨k, hk, ?_, ce, no, lx⟩)
    · have := kp j (by omega)
      rw [hu_j _ _ _ (by omega), e9] at this
      exact this
    · have := kp t (by omega)
      rw [hu_s] at this
      exact this
theorem bts_0 (N : Nat) : bts 0 N = 0 := by
  induction N with
  | zero => rfl
  | succ N ih =>
    have u : bts 0 (N + 1) = bts 0 N + (if (0 : Nat).testBit N then 1 else 0) := rfl
    rw [u, ih, Nat.zero_testBit]; rfl
theorem s_morder (hn : 144 ≤ ζ.2.2.2.2) (hW : isW W) (we : weI W h) (hq1 : ∀ g, FL ((139, -1) :: LMq) h g → En W h (h W 0).toNat 0 → LX W h (g 139) (h W 0).toNat 0 0 → Q (h W 0) (hu g 97 78 (h W 0))) (hq0 : ∀ g, FL LMq h g → ¬ En W h (h W 0).toNat 0 → Q (-1) g) : RtI l (D + 5) mX12_order (zz ζ) [aP 97] h Q := by
  have m12 := we.1.2.1
  have m0 := we.1.1
  have p12 := pw12 (show (h W 0).toNat ≤ 12 by omega)
  have pp : 0 < 2 ^ (h W 0).toNat := Nat.two_pow_pos _
  refine e_X12_order hn ?_
  have e133 : h 133 0 = ((h W 0).toNat : Nat) := by rw [we.1.2.2]; omega
  rw [e133, bshl_1 _ (by omega), show ((2 ^ (h W 0).toNat : Nat) : Int) - 1 = ((2 ^ (h W 0).toNat - 1 : Nat) : Int) by omega]
  have LP : ∀ (s : Nat) (g : HI), s ≤ 2 ^ (h W 0).toNat → FL LMq h g → EP W h s g → G l (D + 5) 0 0 mX12_order (zz ζ) 18 [aP 97, aI ((2 ^ (h W 0).toNat - 1 : Nat) : Int), aI ((s : Int) + (-1)), aU, aU] [] g (qI (zz ζ) Q) := by
    intro s
    induction s with
    | zero =>
      intro g _ f ep
      have e0 := ep 0 (by omega) pp
      have e0' : g 138 0 = 1 ↔ En W h (h W 0).toNat 0 := e0.2 ⟨_, _, vds_0⟩ (h W 0).toNat (by rw [bts_0]; omega)
      have e01 : g 138 0 = 0 ∨ g 138 0 = 1 := e0.1
      refine b_X12_order_18 hn ⟨by decide, iteP (by decide) ⟨by rcases e01 with z | z <;> rw [z] <;> decide, ?_⟩⟩
      rcases e01 with z | z
      · exact iteN (fun q => q z) (hq0 g f (fun en => by have := e0'.mpr en; omega))
      · refine iteP (by rw [z]; decide) ?_
        exact s_mord127 hn hW we (h W 0).toNat 0 0 g (by omega) pp (bts_0 _) ⟨_, _, vds_0⟩ (e0'.mp z) ep (f.mono (by decide)) (fun g' f' _ lx => hq1 g' f' (e0'.mp z) lx)
    | succ M ih =>
      intro g hs f ep
      rw [show ((M + 1 : Nat) : Int) + (-1) = (M : Int) by omega]
      have nx : ∀ g1, FL LMq h g1 → IN W h M 0 g1 → G l (D + 5) 0 0 mX12_order (zz ζ) 40 [aP 97, aI ((2 ^ (h W 0).toNat - 1 : Nat) : Int), aI M, aI 0, aU] [] g1 (qI (zz ζ) Q) := fun g1 f1 i => s_mord40 hn hW we (by omega) (fun g2 f2 ep2 => ih g2 (by omega) f2 ep2) (h W 0).toNat 0 g1 (by omega) f1 i
      refine b_X12_order_18 hn ⟨by constructor <;> omega, iteN (by omega) ⟨by constructor <;> omega, ?_⟩⟩
      by_cases c : (M : Int) = ((2 ^ (h W 0).toNat - 1 : Nat) : Int)
      · refine iteN (fun z => z c) ⟨by omega, nx _ (f.ua (by decide)) ⟨EP_hu ep, Or.inr (hu_s _ _ _ _), fun v => ⟨fun _ f' hf => ?_, fun q => by rw [hu_s] at q; omega⟩⟩⟩
        have eM : M = 2 ^ (h W 0).toNat - 1 := by omega
        have := (full_iff (M := M) (by omega)).mp eM
        have : f' = 0 := by omega
        subst this
        exact eM
      · exact iteP c ⟨by omega, nx _ (f.ua (by decide)) ⟨EP_hu ep, Or.inl (hu_s _ _ _ _), fun v => ⟨fun q => by rw [hu_s] at q; omega, fun _ => ⟨by omega, fun j hj => by omega⟩⟩⟩⟩
  have := LP (2 ^ (h W 0).toNat) (hu h 97 0 0) (Nat.le_refl _) (FL.refl.u (by decide)) (fun N h1 h2 => by omega)
  rw [show ((2 ^ (h W 0).toNat : Nat) : Int) + (-1) = ((2 ^ (h W 0).toNat - 1 : Nat) : Int) by omega] at this
  exact this
theorem En_congr {g : HI} (gW : ∀ c, c ≤ 7 → g (W + c) = h (W + c)) : En W g = En W h ∧ LX W g = LX W h := by
  have g0 : g W = h W := gW 0 (by omega)
  have e : ∀ f M, En W g f M ↔ En W h f M := by
    intro f
    induction f with
    | zero => intro M; unfold En; rw [g0]
    | succ f ih =>
      intro M
      unfold En cnw
      rw [g0, gW 1 (by omega), gW 2 (by omega), gW 3 (by omega), gW 4 (by omega), gW 5 (by omega), gW 6 (by omega)]
      simp only [ih]
  have e' : En W g = En W h := by funext f M; exact propext (e f M)
  refine ⟨e', ?_⟩
  funext c f
  induction f with
  | zero => rfl
  | succ f ih =>
    funext M t
    unfold LX cnw
    rw [g0, gW 1 (by omega), gW 2 (by omega), gW 3 (by omega), gW 4 (by omega), gW 5 (by omega), gW 6 (by omega), e', ih]
theorem op_order (i : Inv ζ h) : Op l (D + 60) ζ mX11_order mX12_order [] h := by
  have zk := i.1.1
  have hn := ζok_n zk
  have hW := ζok_W zk
  have we : weI ζ.1 h := i.1.2 8
  have m12 := we.1.2.1
  have m0 := we.1.1
  refine e_X11_order hn hW (s_findOrder (D := D + 41) hn hW we (fun g f en lx e91 => ⟨by decide, iteN (by decide) ?_⟩) (fun g f ne => ⟨by decide, iteP rfl ?_⟩))
  · obtain ⟨weg, gW⟩ := weI_fl hW we f (by decide)
    have g0 : g ζ.1 = h ζ.1 := gW 0 (by omega)
    obtain ⟨c1, c2⟩ := En_congr gW
    refine ⟨f.c _ (by decide), f.c _ (by decide), s_morder (D := D + 55) hn hW weg (fun g2 f2 en2 lx2 => ?_) (fun g2 f2 ne2 => ?_)⟩
    · rw [g0] at lx2 ⊢
      rw [c2] at lx2
      have F : FL ([(91, 0), (92, -1), (93, -1), (94, -1), (95, -1), (96, -1)] ++ ((97, 78) :: (139, -1) :: LMq)) h (hu g2 97 78 (h ζ.1 0)) := ((f.mono (by decide)).trans (f2.mono (by decide))).u (by decide)
      refine op_fin1 i rfl (by constructor <;> omega) F [9] (by decide +kernel) ?_
      intro m hm
      rw [List.mem_singleton] at hm
      subst hm
      show orI _
      have e1 : (hu g2 97 78 (h ζ.1 0)) 91 0 = h ζ.1 0 := by rw [hu_c _ _ _ (by decide), f2.c 91 (by decide)]; exact e91
      refine ⟨by rw [e1]; exact m0, by rw [e1]; exact m12, by rw [e1, hu_s], fun j j0 j1 => ?_⟩
      rw [e1] at j1
      obtain ⟨k, rfl⟩ := Int.eq_ofNat_of_zero_le j0
      have := LX_uniq lx lx2 k (by omega) (by omega)
      rw [hu_c _ _ _ (by decide), hu_c _ _ _ (by decide), f2.c 92 (by decide)]
      exact ⟨this.1.symm, by constructor <;> omega⟩
    · rw [g0, c1] at ne2; exact absurd en ne2
  · obtain ⟨weg, gW⟩ := weI_fl hW we f (by decide)
    have g0 : g ζ.1 = h ζ.1 := gW 0 (by omega)
    obtain ⟨c1, c2⟩ := En_congr gW
    refine ⟨f.c _ (by decide), f.c _ (by decide), s_morder (D := D + 55) hn hW weg (fun g2 f2 en2 lx2 => ?_) (fun g2 f2 ne2 => ?_)⟩
    · rw [g0, c1] at en2; exact absurd en2 ne
    · exact op_fin i rfl (by decide) ((f.mono (L' := LGo ++ LMq) (by decide)).trans (f2.mono (by decide))) (by decide +kernel)
end ODG
