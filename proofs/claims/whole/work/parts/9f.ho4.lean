/-! HOUSE: the reference reads -/
def LG : List (Nat × Int) := LN ++ [(97, 14), (97, 15), (97, 17), (97, 19), (100, -1)] ++ (List.range 14).map (fun (k : Nat) => ((101, (14 : Int) + (k : Int)) : Nat × Int))
def wh (w : Nat) : Nat := if w = 2 then 2 else w + 1
def ix (w : Nat) : Nat := if w = 2 then 0 else w - 1
def MB (nb : Nat) (bn : Nat → List Int) (nx : Nat) (xn : Nat → List Int) (lw : Int → Int) (td : Nat → Bool) (g : HI) : Prop := (g 100 0 = nb ∧ ∀ k : Nat, k < nb → g 101 (14 + k) = ew (bn k)) ∧ (g 100 1 = nx ∧ ∀ k : Nat, k < nx → g 101 (20 + k) = ew (xn k)) ∧ ((∀ i : Nat, i < 9 → g 100 (2 + i) = lw i) ∧ g 97 14 = 0) ∧ (∃ T : Nat, T < 2048 ∧ g 97 19 = T ∧ ∀ w, 2 ≤ w → w ≤ 9 → T.testBit (wh w) = td w) ∧ rsI g
def HM (b : Int → Int) (n : Nat) : HS → HI → Prop
  | (nb, bn, nx, xn, lw, td, p), g => MB nb bn nx xn lw td g ∧ tpm b n 500 g ∧ TM (tok b n 500 p) g
def MHQ (b : Int → Int) (n : Nat) (r : HR) (Q : Int → HI → Prop) (g : HI) : Prop := match r with
  | .inl e => g 97 14 = e.1 → g 97 15 = e.2 → tpm b n 500 g → rsI g → Q 0 g
  | .inr s => HM b n s g → Q 1 g
theorem ew_lt : ∀ {L : List Int}, (∀ x ∈ L, 1 ≤ x ∧ x ≤ 26) → ew L < (256 ^ L.length : Nat)
  | [], _ => by show (0 : Int) < ((1 : Nat) : Int); omega
  | x :: t, h => by
    have ih := ew_lt (L := t) (fun y hy => h y (List.mem_cons_of_mem _ hy))
    have c := h x List.mem_cons_self
    show ew t * 256 + (x + 96) < ((256 ^ (t.length + 1) : Nat) : Int)
    rw [Nat.pow_succ]
    omega
theorem okW_ew {L : List Int} (h : okW L) : 0 ≤ ew L ∧ ew L < 281474976710656 := by
  refine ⟨ew_nn h.2.2, ?_⟩
  have a := ew_lt h.2.2
  have c : 256 ^ L.length ≤ 256 ^ 6 := Nat.pow_le_pow_right (by omega) h.2.1
  have d : (256 : Nat) ^ 6 = 281474976710656 := by decide
  omega
theorem rsv_rl : ∀ k : Nat, k < 23 → 0 ≤ rsvL.getD k 0 ∧ rsvL.getD k 0 < 281474976710656 := by decide
theorem mkK_1 {t : TKn} (h : TKok t) : mkK t.1 = 1 ↔ t.1 = 2 := by
  unfold mkK
  constructor
  · intro z
    repeat' split at z
    all_goals omega
  · intro z; rw [z]; rfl
theorem mkK_2 {t : TKn} (h : TKok t) : mkK t.1 = 2 ↔ t.1 = 3 := by
  unfold mkK
  constructor
  · intro z
    repeat' split at z
    all_goals omega
  · intro z; rw [z]; rfl
theorem mkK_0 {t : TKn} (h : TKok t) : mkK t.1 = 0 ↔ t.1 = 0 := by
  unfold mkK
  constructor
  · intro z
    repeat' split at z
    all_goals omega
  · intro z; rw [z]; rfl
theorem mkK_3 {t : TKn} (h : TKok t) : mkK t.1 = 3 ↔ isSg t.1 := by
  unfold mkK
  have := h.1
  constructor
  · intro z
    repeat' split at z
    all_goals omega
  · intro z
    repeat' split
    all_goals omega
theorem mkK_rg (k : Int) : rg (mkK k) := by
  unfold mkK
  repeat' split
  all_goals decide
theorem tok_okW {t : TKn} (h : TKok t) (c : t.1 = 2) : okW t.2.2.2.2 := ⟨(h.2.2.2.2 c).1.1, (h.2.2.2.2 c).1.2, (h.2.2.2.2 c).2⟩
theorem inLG {j : Int} (h : 14 ≤ j ∧ j < 28) : inL LG 101 j = true := by
  obtain ⟨k, rfl⟩ := Int.eq_ofNat_of_zero_le (show 0 ≤ j by omega)
  have : ∀ k : Nat, k < 28 → 14 ≤ k → inL LG 101 (k : Int) = true := by decide
  exact this k (by omega) (by omega)
section HO4
variable {l : Launch} {D : Nat} {ζ : ZP} {h : HI} {Q : Int → HI → Prop} {QV : HI → Prop} {b : Int → Int} {n nb nx p : Nat} {bn xn : Nat → List Int} {lw : Int → Int} {td : Nat → Bool}
theorem MB.fl {L : List (Nat × Int)} {g g' : HI} (a : MB nb bn nx xn lw td g) (f : FL L g g') (c : (!inC L 100 && !inC L 101 && !inC L 102 && !inL L 97 19 && !inL L 97 14) = true) : MB nb bn nx xn lw td g' := by
  simp only [Bool.and_eq_true, Bool.not_eq_true'] at c
  unfold MB rsI
  rw [f.c 100 c.1.1.1.1, f.c 101 c.1.1.1.2, f.c 102 c.1.1.2, f.at 97 19 c.1.2, f.at 97 14 c.2]
  exact a
theorem m_step (hn : 144 ≤ ζ.2.2.2.2) (n540 : n ≤ 540) (hp : p ≤ n) (hb : MB nb bn nx xn lw td h) (w : tpm b n 500 h) (e : h 97 4 = p) (hq : ∀ g, FL LN h g → HM b n (nb, bn, nx, xn, lw, td, p) g → QV g) : RtV l (D + 2) mX12_next (zz ζ) [aP 97] h QV := by
  refine s_next hn n540 (by omega) hp w e (fun g f t => hq g f ⟨hb.fl f (by decide), w.fl f (by decide), t⟩)
theorem LN_LG : LN.all (fun q => inL LG q.1 q.2) = true := by decide
theorem m_bad (hn : 144 ≤ ζ.2.2.2.2) (hx : HM b n (nb, bn, nx, xn, lw, td, p) h) {k : Int} (hq : ∀ g, FL LG h g → MHQ b n (.inl (k, (tok b n 500 p).2.1)) Q g) : RtI l (D + 1) mX12_bad (zz ζ) [aP 97, aI k] h Q := by
  refine e_X12_bad hn ?_
  have F : FL LG h (hu (hu h 97 14 k) 97 15 (h 97 11)) := (FL.refl.u (by decide)).u (by decide)
  refine hq _ F ?_ ?_ ?_ ?_
  · rw [hu_j _ _ _ (by decide), hu_s]
  · rw [hu_s]; exact hx.2.2.2.1
  · exact hx.2.1.fl (L := [(97, 14), (97, 15)]) ((FL.refl.u (by decide)).u (by decide)) (by decide)
  · intro j hj; rw [hu_c _ _ _ (by decide), hu_c _ _ _ (by decide)]; exact hx.1.2.2.2.2 j hj
theorem m_isWord (hn : 144 ≤ ζ.2.2.2.2) (n540 : n ≤ 540) (hp : p ≤ n) (t : TM (tok b n 500 p) h) {k : Nat} (hk : k < 23) {x : Int} (ex : x = rsvL.getD k 0) (hy : hWord (tok b n 500 p) = k → Q 1 h) (hz : hWord (tok b n 500 p) ≠ k → Q 0 h) : RtI l (D + 1) mX12_isWord (zz ζ) [aP 97, aL x] h Q := by
  have tk := tok_ok (b := b) (m := 500) n540 (by omega) hp
  have r := rsv_rl k hk
  refine e_X12_isWord hn ⟨by rw [t.1]; exact mkK_rg _, ?_⟩
  rw [t.1]
  by_cases c : (tok b n 500 p).1 = 2
  · have e := t.2.2.2.2.1 c
    have ok := tok_okW tk.1 c
    have eb := okW_ew ok
    refine iteN (fun z => z ((mkK_1 tk.1).mpr c)) ⟨by rw [e]; constructor <;> omega, by rw [ex]; constructor <;> omega, ?_⟩
    rw [e, ex]
    have hw : hWord (tok b n 500 p) = wdO (er (tok b n 500 p).2.2.2.2) := if_pos c
    have iw := wd_k ok.2.2 hk
    rw [hw] at hy hz
    by_cases c2 : ew (tok b n 500 p).2.2.2.2 = rsvL.getD k 0
    · exact iteN (fun z => z c2) (hy (iw.mpr c2))
    · exact iteP c2 (hz (fun z => c2 (iw.mp z)))
  · refine iteP (fun z => c ((mkK_1 tk.1).mp z)) (hz ?_)
    unfold hWord
    rw [if_neg c]
    omega
theorem m_isName (hn : 144 ≤ ζ.2.2.2.2) (n540 : n ≤ 540) (hp : p ≤ n) (t : TM (tok b n 500 p) h) (rs : rsI h) (hy : (tok b n 500 p).1 = 2 → wdO (er (tok b n 500 p).2.2.2.2) = -1 → Q 1 h) (hz : ¬ ((tok b n 500 p).1 = 2 ∧ wdO (er (tok b n 500 p).2.2.2.2) = -1) → Q 0 h) : RtI l (D + 1) mX12_isName (zz ζ) [aP 97] h Q := by
  have tk := tok_ok (b := b) (m := 500) n540 (by omega) hp
  have LP := lups1 (σ := Int) (N := 23) (R := fun i x => G l (D + 1) 0 0 mX12_isName (zz ζ) 16 [aP 97, aI x, aI i] [] h (qI (zz ζ) Q)) (P := fun i x => (x = 0 ∨ x = 1) ∧ (x = 1 ↔ (tok b n 500 p).1 = 2 ∧ ∀ k : Nat, (k : Int) < i → ew (tok b n 500 p).2.2.2.2 ≠ rsvL.getD k 0)) ?_ ?_
  · refine e_X12_isName hn ⟨by rw [t.1]; exact mkK_rg _, ?_⟩
    rw [t.1]
    by_cases c : (tok b n 500 p).1 = 2
    · exact iteN (fun z => z ((mkK_1 tk.1).mpr c)) (LP 0 1 (by omega) (by omega) ⟨Or.inr rfl, ⟨fun _ => ⟨c, fun k hk => by omega⟩, fun _ => rfl⟩⟩)
    · exact iteP (fun z => c ((mkK_1 tk.1).mp z)) (LP 0 0 (by omega) (by omega) ⟨Or.inl rfl, ⟨fun z => by omega, fun z => absurd z.1 c⟩⟩)
  · rintro i x h0 h1 ⟨x01, xi⟩ k1
    obtain ⟨k, rfl⟩ := Int.eq_ofNat_of_zero_le h0
    have e102 : h 102 k = rsvL.getD k 0 := rs k (by omega)
    have r := rsv_rl k (by omega)
    refine b_X12_isName_16 hn ⟨by constructor <;> omega, iteN (by omega) ⟨by constructor <;> omega, ?_⟩⟩
    by_cases c : x = 0
    · refine iteP c (k1 0 ⟨Or.inl rfl, ⟨fun z => by omega, fun z => ?_⟩⟩)
      have := xi.mpr ⟨z.1, fun j hj => z.2 j (by omega)⟩
      omega
    · have x1 : x = 1 := by omega
      have y := xi.mp x1
      have e := t.2.2.2.2.1 y.1
      have eb := okW_ew (tok_okW tk.1 y.1)
      refine iteN c ⟨by omega, by rw [e]; constructor <;> omega, by rw [e102]; constructor <;> omega, ?_⟩
      rw [e, e102]
      by_cases c2 : ew (tok b n 500 p).2.2.2.2 = rsvL.getD k 0
      · exact iteP c2 (k1 0 ⟨Or.inl rfl, ⟨fun z => by omega, fun z => absurd c2 (z.2 k (by omega))⟩⟩)
      · refine iteN c2 (k1 1 ⟨Or.inr rfl, ⟨fun z => ⟨y.1, fun j hj => ?_⟩, fun _ => rfl⟩⟩)
        by_cases q : j = k
        · rw [q]; exact c2
        · exact y.2 j (by omega)
  · rintro x ⟨x01, xi⟩
    refine b_X12_isName_16 hn ⟨by decide, iteP (by omega) ⟨x01, ?_⟩⟩
    by_cases c : x = 1
    · have y := xi.mp c
      rw [c]
      exact hy y.1 ((wd_no (tok_okW tk.1 y.1).2.2).mpr (fun k hk => y.2 k (by omega)))
    · have x0 : x = 0 := by omega
      rw [x0]
      exact hz (fun z => c (xi.mpr ⟨z.1, fun k hk => (wd_no (tok_okW tk.1 z.1).2.2).mp z.2 k (by omega)⟩))
theorem m_isTold (hn : 144 ≤ ζ.2.2.2.2) {L : List Int} (oL : okW L) {u : Int} {N : Nat} (hu : 14 ≤ u ∧ u + N ≤ 28) (e16 : h 97 16 = ew L) (hb : ∀ k : Nat, k < N → h 101 (u + k) = ew (bn k) ∧ okW (bn k)) (hq : Q (if hTold N bn L = true then 1 else 0) h) : RtI l (D + 1) mX12_isTold (zz ζ) [aP 97, aI u, aI N] h Q := by
  refine e_X12_isTold hn ?_
  have LP := lup (N := (N : Int)) (R := fun i g => G l (D + 1) 0 0 mX12_isTold (zz ζ) 2 [aP 97, aI u, aI N, aI i] [] g (qI (zz ζ) Q)) (P := fun i g => g = h ∧ ∀ k : Nat, (k : Int) < i → bn k ≠ L) ?_ ?_
  · exact LP 0 h (by omega) (by omega) ⟨rfl, fun k hk => by omega⟩
  · rintro i g h0 h1 ⟨rfl, no⟩ k1
    obtain ⟨k, rfl⟩ := Int.eq_ofNat_of_zero_le h0
    have b1 := hb k (by omega)
    have o1 := okW_ew b1.2
    have o2 := okW_ew oL
    refine b_X12_isTold_2 hn ⟨by constructor <;> omega, by constructor <;> omega, iteN (by omega) ⟨by omega, ?_⟩⟩
    rw [b1.1, e16]
    refine ⟨by constructor <;> omega, by constructor <;> omega, ?_⟩
    by_cases c : ew (bn k) = ew L
    · have e1 := ew_inj b1.2.2.2 oL.2.2 c
      rw [hTold_iff.mpr ⟨k, by omega, e1⟩, if_pos rfl] at hq
      exact iteN (fun z => z c) hq
    · refine iteP c (k1 _ ⟨rfl, fun j hj => ?_⟩)
      by_cases z : j = k
      · rw [z]; exact fun q => c (by rw [q])
      · exact no j (by omega)
  · rintro g ⟨rfl, no⟩
    refine b_X12_isTold_2 hn ⟨by constructor <;> omega, by constructor <;> omega, iteP (by omega) ?_⟩
    have nt : hTold N bn L = false := by
      cases q : hTold N bn L with
      | false => rfl
      | true =>
        obtain ⟨k, a1, a2⟩ := hTold_iff.mp q
        exact absurd a2 (no k (by omega))
    rw [nt, if_neg (by decide)] at hq
    exact hq
theorem m_takes (hn : 144 ≤ ζ.2.2.2.2) (n540 : n ≤ 540) (ho : HO n (nb, bn, nx, xn, lw, td, p)) (hx : HM b n (nb, bn, nx, xn, lw, td, p) h) {lo hi i : Int} (rlo : rg lo) (rhi : rg hi) (hq : ∀ g, FL LG h g → match hTake b n lo hi i (nb, bn, nx, xn, lw, td, p) with | .inl e => g 97 14 = e.1 → g 97 15 = e.2 → tpm b n 500 g → rsI g → Q 0 g | .inr _ => g 97 17 = (tok b n 500 p).2.2.2.1 → HM b n (nb, bn, nx, xn, lw, td, (tok b n 500 p).2.2.1) g → Q 1 g) : RtI l (D + 3) mX12_takes (zz ζ) [aP 97, aI lo, aI hi] h Q := by
  have tk := tok_ok (b := b) (m := 500) n540 (by omega) ho.1
  refine e_X12_takes hn ⟨by rw [hx.2.2.1]; exact mkK_rg _, ?_⟩
  rw [hx.2.2.1]
  by_cases c : (tok b n 500 p).1 = 3
  · have v := tk.1.2.2.2.1 c
    have e13 := hx.2.2.2.2.2.1 c
    refine iteP ((mkK_2 tk.1).mpr c) ?_
    rw [e13]
    refine e_X12_isIn hn ⟨by constructor <;> omega, rlo, ?_⟩
    by_cases c1 : (tok b n 500 p).2.2.2.1 < lo ∨ hi < (tok b n 500 p).2.2.2.1
    · have e : hTake b n lo hi i (nb, bn, nx, xn, lw, td, p) = .inl (2, (tok b n 500 p).2.1) := by rw [hTake, if_pos c, if_pos c1]
      rw [e] at hq
      have fin : (rg 0) ∧ (if ¬ (0 : Int) = 0 then RtV l (D + 2) mX12_next (zz ζ) [aP 97] (hu h 97 17 (h 97 13)) (fun h2 => Q 1 h2) else RtI l (D + 2) mX12_bad (zz ζ) [aP 97, aI 2] h (fun r3 h3 => (r3 = 0 ∨ r3 = 1) ∧ Q r3 h3)) := ⟨by decide, iteN (by decide) (m_bad hn hx (fun g f a1 a2 a3 a4 => ⟨Or.inl rfl, hq g f a1 a2 a3 a4⟩))⟩
      exact iteI (fun _ => fin) (fun z => ⟨rhi, iteI (fun _ => fin) (fun z2 => by omega)⟩)
    · have e : hTake b n lo hi i (nb, bn, nx, xn, lw, td, p) = .inr (nb, bn, nx, xn, fu lw i (tok b n 500 p).2.2.2.1, td, (tok b n 500 p).2.2.1) := by rw [hTake, if_pos c, if_neg c1]
      rw [e] at hq
      refine iteN (by omega) ⟨rhi, iteN (by omega) ⟨by decide, iteP (by decide) ?_⟩⟩
      rw [e13]
      have F : FL [(97, 17)] h (hu h 97 17 (tok b n 500 p).2.2.2.1) := FL.refl.u (by decide)
      refine m_step hn n540 tk.2.1.2 (hx.1.fl F (by decide)) (hx.2.1.fl F (by decide)) (by rw [hu_j _ _ _ (by decide)]; exact hx.2.2.2.2.1) (fun g f x => hq g ((F.mono (by decide)).trans (f.mono LN_LG)) ?_ x)
      rw [f.at 97 17 (by decide), hu_s]
  · have e : hTake b n lo hi i (nb, bn, nx, xn, lw, td, p) = .inl (1, (tok b n 500 p).2.1) := by rw [hTake, if_neg c]
    rw [e] at hq
    exact iteN (fun z => c ((mkK_2 tk.1).mp z)) (m_bad hn hx (fun g f a1 a2 a3 a4 => ⟨Or.inl rfl, hq g f a1 a2 a3 a4⟩))
end HO4
