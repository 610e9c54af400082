/-! tokens at any limit -/
section TK5
variable {l : Launch} {D : Nat} {ζ : ZP} {h : HI} {Q : Int → HI → Prop} {QV : HI → Prop} {b : Int → Int} {m n p : Nat}
theorem cg_isName (hn : 144 ≤ ζ.2.2.2.2) (n540 : n ≤ 540) (m540 : m ≤ 540) (hp : p ≤ n) (t : TX (tok b n m p) h) (hy : (tok b n m p).1 = 2 → wdO (er (tok b n m p).2.2.2.2) = -1 → Q 1 h) (hz : ¬ ((tok b n m p).1 = 2 ∧ wdO (er (tok b n m p).2.2.2.2) = -1) → Q 0 h) : RtI l (D + 1) mX7_isName (zz ζ) [aP 1] h Q := by
  have tk := tok_ok (b := b) (m := m) n540 m540 hp
  have r4 : rg (h 1 4) := by rw [t.1]; have := tk.1.1; constructor <;> omega
  refine e_X7_isName hn ⟨r4, ?_⟩
  rw [t.1]
  by_cases c : (tok b n m p).1 = 2
  · have e7 := (t.2.2.2.2.1 c).2
    refine iteN (fun z => z c) ⟨?_, ?_⟩
    · rw [e7]
      rcases wd_bd (er (tok b n m p).2.2.2.2) with z | ⟨k, k1, k2⟩
      · rw [z]; decide
      · rw [k2]; constructor <;> omega
    · rw [e7]
      by_cases c2 : wdO (er (tok b n m p).2.2.2.2) = -1
      · exact iteN (fun z => z c2) (hy c c2)
      · exact iteP c2 (hz (fun z => c2 z.2))
  · exact iteP c (hz (fun z => c z.1))
theorem mg_isWord (hn : 144 ≤ ζ.2.2.2.2) (n540 : n ≤ 540) (m540 : m ≤ 540) (hp : p ≤ n) (t : TM (tok b n m p) h) {k : Nat} (hk : k < 23) {x : Int} (ex : x = rsvL.getD k 0) (hy : hWord (tok b n m p) = k → Q 1 h) (hz : hWord (tok b n m p) ≠ k → Q 0 h) : RtI l (D + 1) mX12_isWord (zz ζ) [aP 97, aL x] h Q := by
  have tk := tok_ok (b := b) (m := m) n540 m540 hp
  have r := rsv_rl k hk
  refine e_X12_isWord hn ⟨by rw [t.1]; exact mkK_rg _, ?_⟩
  rw [t.1]
  by_cases c : (tok b n m p).1 = 2
  · have e := t.2.2.2.2.1 c
    have ok := tok_okW tk.1 c
    have eb := okW_ew ok
    refine iteN (fun z => z ((mkK_1 tk.1).mpr c)) ⟨by rw [e]; constructor <;> omega, by rw [ex]; constructor <;> omega, ?_⟩
    rw [e, ex]
    have hw : hWord (tok b n m p) = wdO (er (tok b n m p).2.2.2.2) := if_pos c
    have iw := wd_k ok.2.2 hk
    rw [hw] at hy hz
    by_cases c2 : ew (tok b n m p).2.2.2.2 = rsvL.getD k 0
    · exact iteN (fun z => z c2) (hy (iw.mpr c2))
    · exact iteP c2 (hz (fun z => c2 (iw.mp z)))
  · refine iteP (fun z => c ((mkK_1 tk.1).mp z)) (hz ?_)
    unfold hWord
    rw [if_neg c]
    omega
theorem mg_isName (hn : 144 ≤ ζ.2.2.2.2) (n540 : n ≤ 540) (m540 : m ≤ 540) (hp : p ≤ n) (t : TM (tok b n m p) h) (rs : rsI h) (hy : (tok b n m p).1 = 2 → wdO (er (tok b n m p).2.2.2.2) = -1 → Q 1 h) (hz : ¬ ((tok b n m p).1 = 2 ∧ wdO (er (tok b n m p).2.2.2.2) = -1) → Q 0 h) : RtI l (D + 1) mX12_isName (zz ζ) [aP 97] h Q := by
  have tk := tok_ok (b := b) (m := m) n540 m540 hp
  have LP := lups1 (σ := Int) (N := 23) (R := fun i x => G l (D + 1) 0 0 mX12_isName (zz ζ) 16 [aP 97, aI x, aI i] [] h (qI (zz ζ) Q)) (P := fun i x => (x = 0 ∨ x = 1) ∧ (x = 1 ↔ (tok b n m p).1 = 2 ∧ ∀ k : Nat, (k : Int) < i → ew (tok b n m p).2.2.2.2 ≠ rsvL.getD k 0)) ?_ ?_
  · refine e_X12_isName hn ⟨by rw [t.1]; exact mkK_rg _, ?_⟩
    rw [t.1]
    by_cases c : (tok b n m p).1 = 2
    · exact iteN (fun z => z ((mkK_1 tk.1).mpr c)) (LP 0 1 (by omega) (by omega) ⟨Or.inr rfl, ⟨fun _ => ⟨c, fun k hk => by omega⟩, fun _ => rfl⟩⟩)
    · exact iteP (fun z => c ((mkK_1 tk.1).mp z)) (LP 0 0 (by omega) (by omega) ⟨Or.inl rfl, ⟨fun z => by omega, fun z => absurd z.1 c⟩⟩)
  · rintro i x h0 h1 ⟨x01, xi⟩ k1
    obtain ⟨k, rfl⟩ := Int.eq_ofNat_of_zero_le h0
    have e102 : h 102 k = rsvL.getD k 0 := rs k (by omega)
    have r := rsv_rl k (by omega)
    refine b_X12_isName_16 hn ⟨by constructor <;> omega, iteN (by omega) ⟨by constructor <;> omega, ?_⟩⟩
    by_cases c : x = 0
    · refine iteP c (k1 0 ⟨Or.inl rfl, ⟨fun z => by omega, fun z => ?_⟩⟩)
      have := xi.mpr ⟨z.1, fun j hj => z.2 j (by omega)⟩
      omega
    · have x1 : x = 1 := by omega
      have y := xi.mp x1
      have e := t.2.2.2.2.1 y.1
      have eb := okW_ew (tok_okW tk.1 y.1)
      refine iteN c ⟨by omega, by rw [e]; constructor <;> omega, by rw [e102]; constructor <;> omega, ?_⟩
      rw [e, e102]
      by_cases c2 : ew (tok b n m p).2.2.2.2 = rsvL.getD k 0
      · exact iteP c2 (k1 0 ⟨Or.inl rfl, ⟨fun z => by omega, fun z => absurd c2 (z.2 k (by omega))⟩⟩)
      · refine iteN c2 (k1 1 ⟨Or.inr rfl, ⟨fun z => ⟨y.1, fun j hj => ?_⟩, fun _ => rfl⟩⟩)
        by_cases q : j = k
        · rw [q]; exact c2
        · exact y.2 j (by omega)
  · rintro x ⟨x01, xi⟩
    refine b_X12_isName_16 hn ⟨by decide, iteP (by omega) ⟨x01, ?_⟩⟩
    by_cases c : x = 1
    · have y := xi.mp c
      rw [c]
      exact hy y.1 ((wd_no (tok_okW tk.1 y.1).2.2).mpr (fun k hk => y.2 k (by omega)))
    · have x0 : x = 0 := by omega
      rw [x0]
      exact hz (fun z => c (xi.mpr ⟨z.1, fun k hk => (wd_no (tok_okW tk.1 z.1).2.2).mp z.2 k (by omega)⟩))
theorem tok_lt (hp : p ≤ n) (n540 : n ≤ 540) (m540 : m ≤ 540) (c0 : (tok b n m p).1 ≠ 0) (c1 : (tok b n m p).1 ≠ 1) : p < m := by
  have sk := skP_bd (b := b) (n := n) (f := n - p) (Nat.le_refl _) hp
  unfold tok tkQ at c0 c1
  by_cases z : m < n ∧ m ≤ skP b n p
  · rw [if_pos z] at c1; exact absurd rfl c1
  · rw [if_neg z] at c0
    by_cases z2 : n ≤ skP b n p
    · rw [if_pos z2] at c0; exact absurd rfl c0
    · omega
theorem tok_len (hp : p ≤ n) (n540 : n ≤ 540) (m540 : m ≤ 540) (c : (tok b n m p).1 = 2) : p + (tok b n m p).2.2.2.2.length ≤ (tok b n m p).2.2.1 := by
  have sk := skP_bd (b := b) (n := n) (f := n - p) (Nat.le_refl _) hp
  unfold tok tkQ at c ⊢
  by_cases z : m < n ∧ m ≤ skP b n p
  · rw [if_pos z] at c; exact absurd c (by show ¬ (1 : Int) = 2; omega)
  · rw [if_neg z] at c ⊢
    by_cases z2 : n ≤ skP b n p
    · rw [if_pos z2] at c; exact absurd c (by show ¬ (0 : Int) = 2; omega)
    · rw [if_neg z2] at c ⊢
      generalize skP b n p = q at sk z z2 c ⊢
      have rb := rnP_bd (b := b) (n := n) (f := n - q) (p := q) (Nat.le_refl _) (by omega)
      generalize rnP b n q = e at rb c ⊢
      unfold tkR at c ⊢
      by_cases y : e = q
      · rw [if_pos y] at c
        split at c
        · have : b q = 2 := c
          have : isSg (b q) := by assumption
          omega
        · exact absurd c (by show ¬ (1 : Int) = 2; omega)
      · rw [if_neg y] at c ⊢
        by_cases y2 : lcn b q (e - q) = e - q
        · rw [if_pos y2]
          have al := lcn_all.mp y2
          have := (lrv_ok al).1.1
          show p + (lrv b q (e - q)).length ≤ e
          omega
        · rw [if_neg y2] at c
          split at c
          · split at c
            · exact absurd c (by show ¬ (3 : Int) = 2; omega)
            · exact absurd c (by show ¬ (1 : Int) = 2; omega)
          · exact absurd c (by show ¬ (1 : Int) = 2; omega)
theorem hWord_rv {t : TKn} (ok : TKok t) {k : Nat} (hk : k < 23) (e : hWord t = k) : t.1 = 2 ∧ t.2.2.2.2 = rvW k := by
  have a := hWord_sort (t := t) (by omega)
  rw [a.2] at e
  have oL := tok_okW ok a.1
  have r := rw_at hk
  refine ⟨a.1, ew_inj oL.2.2 r.2 ?_⟩
  rw [(wd_k oL.2.2 hk).mp e, r.1.2]
theorem cg_word (t : TX (tok b n m p) h) : h 1 7 = hWord (tok b n m p) := by
  unfold hWord
  by_cases c : (tok b n m p).1 = 2
  · rw [if_pos c]; exact (t.2.2.2.2.1 c).2
  · rw [if_neg c]; exact t.2.2.2.2.2 c
theorem hWord_bd (t : TKn) : -1 ≤ hWord t ∧ hWord t < 23 := by
  unfold hWord
  split
  · rcases wd_bd (er t.2.2.2.2) with z | ⟨k, k1, k2⟩
    · rw [z]; decide
    · rw [k2]; constructor <;> omega
  · decide
theorem cg_rg4 (n540 : n ≤ 540) (m540 : m ≤ 540) (hp : p ≤ n) (t : TX (tok b n m p) h) : rg (h 1 4) := by
  have tk := tok_ok (b := b) n540 m540 hp
  rw [t.1]; have := tk.1.1; constructor <;> omega
/-- the class refuses -/
theorem cg_refuse (hn : 144 ≤ ζ.2.2.2.2) (t : TX (tok b n m p) h) {k : Int} (hq : ∀ g, FL [(1, 8), (1, 9)] h g → g 1 8 = k → g 1 9 = (tok b n m p).2.1 → Q 0 g) : RtI l (D + 1) mX7_refuse (zz ζ) [aP 1, aI k] h Q := by
  refine e_X7_refuse hn (hq _ ((FL.refl.u (by decide)).u (by decide)) ?_ ?_)
  · rw [hu_j _ _ _ (by decide), hu_s]
  · rw [hu_s]; exact t.2.1
theorem mg_bad (hn : 144 ≤ ζ.2.2.2.2) (t : TM (tok b n m p) h) {k : Int} (hq : ∀ g, FL [(97, 14), (97, 15)] h g → g 97 14 = k → g 97 15 = (tok b n m p).2.1 → Q 0 g) : RtI l (D + 1) mX12_bad (zz ζ) [aP 97, aI k] h Q := by
  refine e_X12_bad hn (hq _ ((FL.refl.u (by decide)).u (by decide)) ?_ ?_)
  · rw [hu_j _ _ _ (by decide), hu_s]
  · rw [hu_s]; exact t.2.1
/-- the class asks for a number -/
theorem cg_number (hn : 144 ≤ ζ.2.2.2.2) (n540 : n ≤ 540) (m540 : m ≤ 540) (hp : p ≤ n) (t : TX (tok b n m p) h) {lo hi : Int} (rlo : rg lo) (rhi : rg hi) (hy : (tok b n m p).1 = 3 → ¬ ((tok b n m p).2.2.2.1 < lo ∨ hi < (tok b n m p).2.2.2.1) → h 1 6 = (tok b n m p).2.2.2.1 → Q 1 h) (hz1 : (tok b n m p).1 ≠ 3 → ∀ g, FL [(1, 8), (1, 9)] h g → g 1 8 = 1 → g 1 9 = (tok b n m p).2.1 → Q 0 g) (hz2 : (tok b n m p).1 = 3 → ((tok b n m p).2.2.2.1 < lo ∨ hi < (tok b n m p).2.2.2.1) → ∀ g, FL [(1, 8), (1, 9)] h g → g 1 8 = 2 → g 1 9 = (tok b n m p).2.1 → Q 0 g) : RtI l (D + 2) mX7_isNumber (zz ζ) [aP 1, aI lo, aI hi] h Q := by
  have tk := tok_ok (b := b) n540 m540 hp
  refine e_X7_isNumber hn ⟨cg_rg4 n540 m540 hp t, ?_⟩
  rw [t.1]
  by_cases c : (tok b n m p).1 = 3
  · have v := tk.1.2.2.2.1 c
    have e6 := t.2.2.2.1 c
    refine iteP c ⟨by rw [e6]; constructor <;> omega, rlo, ?_⟩
    have rf : ((tok b n m p).2.2.2.1 < lo ∨ hi < (tok b n m p).2.2.2.1) → RtI l (D + 1) mX7_refuse (zz ζ) [aP 1, aI 2] h (fun r1 h1 => (rg r1) ∧ (if r1 = 0 then Q 0 h1 else Q 1 h1)) := fun z => cg_refuse hn t (fun g f a1 a2 => ⟨by decide, iteP rfl (hz2 c z g f a1 a2)⟩)
    refine iteI (fun z => rf (Or.inl (by omega))) (fun z => ⟨rhi, iteI (fun z2 => ?_) (fun z2 => rf (Or.inr (by omega)))⟩)
    exact hy c (by omega) e6
  · exact iteN c (cg_refuse hn t (fun g f a1 a2 => ⟨Or.inl rfl, hz1 c g f a1 a2⟩))
theorem mg_sign (hn : 144 ≤ ζ.2.2.2.2) (n540 : n ≤ 540) (m540 : m ≤ 540) (hp : p ≤ n) (t : TM (tok b n m p) h) {c : Int} (sc : isSg c) (hq : Q (if (tok b n m p).1 = c then 1 else 0) h) : RtI l (D + 1) mX12_isSign (zz ζ) [aP 97, aI c] h Q := by
  have tk := tok_ok (b := b) n540 m540 hp
  refine e_X12_isSign hn ⟨by rw [t.1]; exact mkK_rg _, ?_⟩
  rw [t.1]
  by_cases z : isSg (tok b n m p).1
  · have e13 := t.2.2.2.2.2 z
    refine iteN (fun y => y ((mkK_3 tk.1).mpr z)) ⟨by rw [e13]; constructor <;> omega, by constructor <;> omega, ?_⟩
    rw [e13]
    by_cases y : (tok b n m p).1 = c
    · rw [if_pos y] at hq; exact iteN (fun q => q y) hq
    · rw [if_neg y] at hq; exact iteP y hq
  · rw [if_neg (fun y => z (by omega))] at hq
    exact iteP (fun y => z ((mkK_3 tk.1).mp y)) hq
end TK5
