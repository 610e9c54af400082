/-! HOUSE: the class reads -/
def LH : List (Nat × Int) := LT ++ [(1, 8), (1, 9), (34, 3), (34, 4), (34, 6), (35, -1), (36, -1), (37, -1)]
def HB (nb : Nat) (bn : Nat → List Int) (nx : Nat) (xn : Nat → List Int) (lw : Int → Int) (td : Nat → Bool) (g : HI) : Prop := (g 34 3 = nb ∧ ∀ k : Nat, k < nb → g 35 k = er (bn k)) ∧ (g 34 4 = nx ∧ ∀ k : Nat, k < nx → g 36 k = er (xn k)) ∧ ((∀ i : Nat, i < 9 → g 37 i = lw i) ∧ g 1 8 = 0) ∧ ∃ T : Nat, T < 1024 ∧ g 34 6 = T ∧ ∀ w, 2 ≤ w → w ≤ 9 → T.testBit w = td w
def HX (b : Int → Int) (n : Nat) : HS → HI → Prop
  | (nb, bn, nx, xn, lw, td, p), g => HB nb bn nx xn lw td g ∧ tpc b n 500 g ∧ TX (tok b n 500 p) g
def HQ (b : Int → Int) (n : Nat) (r : HR) (Q : Int → HI → Prop) (g : HI) : Prop := match r with
  | .inl e => g 1 8 = e.1 → g 1 9 = e.2 → tpc b n 500 g → Q 0 g
  | .inr s => HX b n s g → Q 1 g
theorem okW_er {L : List Int} (h : okW L) : 0 ≤ er L ∧ er L < 1073741824 := by
  refine ⟨er_nn h.2.2, ?_⟩
  have a := er_lt h.2.2
  have c : 32 ^ L.length ≤ 32 ^ 6 := Nat.pow_le_pow_right (by omega) h.2.1
  have d : (32 : Nat) ^ 6 = 1073741824 := by decide
  omega
section HO2
variable {l : Launch} {D : Nat} {ζ : ZP} {h : HI} {Q : Int → HI → Prop} {QV : HI → Prop} {b : Int → Int} {n nb nx p : Nat} {bn xn : Nat → List Int} {lw : Int → Int} {td : Nat → Bool}
theorem HB.fl {L : List (Nat × Int)} {g g' : HI} (a : HB nb bn nx xn lw td g) (f : FL L g g') (c : (!inC L 34 && !inC L 35 && !inC L 36 && !inC L 37 && !inL L 1 8) = true) : HB nb bn nx xn lw td g' := by
  simp only [Bool.and_eq_true, Bool.not_eq_true'] at c
  unfold HB
  rw [f.c 34 c.1.1.1.1, f.c 35 c.1.1.1.2, f.c 36 c.1.1.2, f.c 37 c.1.2, f.at 1 8 c.2]
  exact a
theorem c_step (zk : ζok ζ) (n540 : n ≤ 540) (hp : p ≤ n) (hb : HB nb bn nx xn lw td h) (w : tpc b n 500 h) (e : h 1 3 = p) (hq : ∀ g, FL LH h g → HX b n (nb, bn, nx, xn, lw, td, p) g → QV g) : RtV l (D + 6) mX7_step (zz ζ) [aP 1] h QV := by
  refine s_step zk n540 (by omega) hp w e (fun g f t => hq g (f.mono (by decide)) ⟨hb.fl f (by decide), w.fl f (by decide), t⟩)
/-- refused -/
theorem c_refuse (hn : 144 ≤ ζ.2.2.2.2) (hx : HX b n (nb, bn, nx, xn, lw, td, p) h) {k : Int} (hq : ∀ g, FL LH h g → HQ b n (.inl (k, (tok b n 500 p).2.1)) Q g) : RtI l (D + 1) mX7_refuse (zz ζ) [aP 1, aI k] h Q := by
  refine e_X7_refuse hn ?_
  have F : FL LH h (hu (hu h 1 8 k) 1 9 (h 1 5)) := (FL.refl.u (by decide)).u (by decide)
  refine hq _ F ?_ ?_ ?_
  · rw [hu_j _ _ _ (by decide), hu_s]
  · rw [hu_s]; exact hx.2.2.2.1
  · exact hx.2.1.fl (L := [(1, 8), (1, 9)]) ((FL.refl.u (by decide)).u (by decide)) (by decide)
theorem lawv_rg (t : Nat) (i : Nat) (h : t < 3) (h' : i < 9) : 0 ≤ lawv t i ∧ lawv t i ≤ 999 := by
  have : ∀ t : Nat, t < 3 → ∀ i : Nat, i < 9 → 0 ≤ lawv t i ∧ lawv t i ≤ 999 := by decide
  exact this t h i h'
theorem c_value (zk : ζok ζ) (n540 : n ≤ 540) (ho : HO n (nb, bn, nx, xn, lw, td, p)) (hx : HX b n (nb, bn, nx, xn, lw, td, p) h) {i : Nat} (hi : i < 9) (hq : ∀ g, FL LH h g → HQ b n (hTake b n (lawv 0 i) (lawv 1 i) i (nb, bn, nx, xn, lw, td, p)) Q g) : RtI l (D + 8) mX0_readValue (zz ζ) [aP 34, aP 1, aI i] h Q := by
  have hn := ζok_n zk
  have tk := tok_ok (b := b) (m := 500) n540 (by omega) ho.1
  have ri : rg (i : Int) := by constructor <;> omega
  have l0 := lawv_rg 0 i (by omega) hi
  have l1 := lawv_rg 1 i (by omega) hi
  obtain ⟨hb, tp, t4, t5, t3, t6, t2⟩ := hx
  have r4 : rg (h 1 4) := by rw [t4]; have := tk.1.1; constructor <;> omega
  refine e_X0_readValue hn ⟨ri, iteN (by omega) (iteN (by omega) ⟨by omega, e_X7_isNumber hn ⟨r4, ?_⟩⟩)⟩
  rw [hTake] at hq
  rw [t4]
  by_cases c : (tok b n 500 p).1 = 3
  · rw [if_pos c] at hq
    have v := tk.1.2.2.2.1 c
    have e6 := t6 c
    refine iteP c ⟨by rw [e6]; constructor <;> omega, ⟨by omega, by omega⟩, ?_⟩
    rw [e6]
    by_cases c1 : (tok b n 500 p).2.2.2.1 < lawv 0 i
    · rw [if_pos (Or.inl c1)] at hq
      exact iteP c1 (c_refuse hn ⟨hb, tp, t4, t5, t3, t6, t2⟩ (fun g f a1 a2 a3 => ⟨by decide, iteP rfl ⟨by decide, iteN (by decide) (hq g f a1 a2 a3)⟩⟩))
    · refine iteN c1 ⟨⟨by omega, by omega⟩, ?_⟩
      by_cases c2 : (tok b n 500 p).2.2.2.1 ≤ lawv 1 i
      · rw [if_neg (by omega)] at hq
        refine iteP c2 ⟨by decide, iteP (by decide) ?_⟩
        have F : FL [(37, -1)] h (hu h 37 i (tok b n 500 p).2.2.2.1) := FL.refl.ua (by decide)
        refine c_step (p := (tok b n 500 p).2.2.1) (nb := nb) (bn := bn) (nx := nx) (xn := xn) (lw := fu lw i (tok b n 500 p).2.2.2.1) (td := td) zk n540 tk.2.1.2 ⟨?_, ?_, ⟨?_, by rw [F.c 1 (by decide)]; exact hb.2.2.1.2⟩, ?_⟩ (tp.fl F (by decide)) ?_ (fun g f x => hq g ((F.mono (by decide)).trans f) x)
        · rw [F.c 34 (by decide), F.c 35 (by decide)]; exact hb.1
        · rw [F.c 34 (by decide), F.c 36 (by decide)]; exact hb.2.1
        · intro j hj
          rw [hu_eq]
          unfold fu
          by_cases z : (j : Int) = i
          · rw [if_pos ⟨rfl, z⟩, if_pos z]
          · rw [if_neg (fun q => z q.2), if_neg z]; exact hb.2.2.1.1 j hj
        · rw [F.c 34 (by decide)]; exact hb.2.2.2
        · rw [F.c 1 (by decide)]; exact t3
      · rw [if_pos (Or.inr (by omega))] at hq
        exact iteN c2 (c_refuse hn ⟨hb, tp, t4, t5, t3, t6, t2⟩ (fun g f a1 a2 a3 => ⟨by decide, iteP rfl ⟨by decide, iteN (by decide) (hq g f a1 a2 a3)⟩⟩))
  · rw [if_neg c] at hq
    exact iteN c (c_refuse hn ⟨hb, tp, t4, t5, t3, t6, t2⟩ (fun g f a1 a2 a3 => ⟨Or.inl rfl, by decide, iteN (by decide) (hq g f a1 a2 a3)⟩))
theorem c_boxNamed (hn : 144 ≤ ζ.2.2.2.2) {L : List Int} (oL : okW L) (e : h 34 4 = nx) (n8 : nx ≤ 8) (hb : ∀ k : Nat, k < nx → h 36 k = er (xn k) ∧ okW (xn k)) (hy : ∀ k : Nat, k < nx → xn k = L → Q k h) (hz : hTold nx xn L = false → Q (-1) h) : RtI l (D + 1) mX0_boxNamed (zz ζ) [aP 34, aI (er L)] h Q := by
  refine e_X0_boxNamed_d hn ?_
  have LP := lup (N := (nx : Int)) (R := fun i g => G l (D + 1) 0 0 mX0_boxNamed (zz ζ) 2 [aP 34, aI (er L), aI i] [] g (qI (zz ζ) Q)) (P := fun i g => g = h ∧ ∀ k : Nat, (k : Int) < i → xn k ≠ L) ?_ ?_
  · exact LP 0 h (by omega) (by omega) ⟨rfl, fun k hk => by omega⟩
  · rintro i g h0 h1 ⟨rfl, no⟩ k1
    obtain ⟨k, rfl⟩ := Int.eq_ofNat_of_zero_le h0
    refine b_X0_boxNamed_d_2 hn ⟨by constructor <;> omega, by rw [e]; constructor <;> omega, iteN (by rw [e]; omega) ⟨by omega, ?_⟩⟩
    have b1 := hb k (by omega)
    have o1 := okW_er b1.2
    have o2 := okW_er oL
    refine ⟨by rw [b1.1]; constructor <;> omega, by constructor <;> omega, ?_⟩
    rw [b1.1]
    by_cases c : er (xn k) = er L
    · refine iteN (fun z => z c) (hy k (by omega) (er_inj b1.2.2.2 oL.2.2 c))
    · refine iteP c (k1 _ ⟨rfl, fun j hj => ?_⟩)
      by_cases z : j = k
      · rw [z]; exact fun q => c (by rw [q])
      · exact no j (by omega)
  · rintro g ⟨rfl, no⟩
    refine b_X0_boxNamed_d_2 hn ⟨by constructor <;> omega, by rw [e]; constructor <;> omega, iteP (by rw [e]; omega) (hz ?_)⟩
    cases q : hTold nx xn L with
    | false => rfl
    | true =>
      obtain ⟨k, a1, a2⟩ := hTold_iff.mp q
      exact absurd a2 (no k (by omega))
theorem c_isTold (hn : 144 ≤ ζ.2.2.2.2) {L : List Int} (oL : okW L) (ho : HO n (nb, bn, nx, xn, lw, td, p)) (hb : HB nb bn nx xn lw td h) (hq : Q (if (hTold nb bn L || hTold nx xn L) = true then 1 else 0) h) : RtI l (D + 2) mX0_isTold (zz ζ) [aP 34, aI (er L)] h Q := by
  refine e_X0_isTold hn ?_
  have LP := lup (N := (nb : Int)) (R := fun i g => G l (D + 2) 0 0 mX0_isTold (zz ζ) 2 [aP 34, aI (er L), aI i] [] g (qI (zz ζ) Q)) (P := fun i g => g = h ∧ ∀ k : Nat, (k : Int) < i → bn k ≠ L) ?_ ?_
  · exact LP 0 h (by omega) (by omega) ⟨rfl, fun k hk => by omega⟩
  · rintro i g h0 h1 ⟨rfl, no⟩ k1
    obtain ⟨k, rfl⟩ := Int.eq_ofNat_of_zero_le h0
    have := ho.2.1
    refine b_X0_isTold_2 hn ⟨by constructor <;> omega, by rw [hb.1.1]; constructor <;> omega, iteN (by rw [hb.1.1]; omega) ⟨by omega, ?_⟩⟩
    have b1 := hb.1.2 k (by omega)
    have ok1 := ho.2.2.2.1 k (by omega)
    have o1 := okW_er ok1
    have o2 := okW_er oL
    refine ⟨by rw [b1]; constructor <;> omega, by constructor <;> omega, ?_⟩
    rw [b1]
    by_cases c : er (bn k) = er L
    · have e1 := er_inj ok1.2.2 oL.2.2 c
      rw [hTold_iff.mpr ⟨k, by omega, e1⟩, Bool.true_or, if_pos rfl] at hq
      exact iteN (fun z => z c) hq
    · refine iteP c (k1 _ ⟨rfl, fun j hj => ?_⟩)
      by_cases z : j = k
      · rw [z]; exact fun q => c (by rw [q])
      · exact no j (by omega)
  · rintro g ⟨rfl, no⟩
    have := ho.2.1
    have n8 := ho.2.2.1
    refine b_X0_isTold_2 hn ⟨by constructor <;> omega, by rw [hb.1.1]; constructor <;> omega, iteP (by rw [hb.1.1]; omega) ?_⟩
    have nt : hTold nb bn L = false := by
      cases q : hTold nb bn L with
      | false => rfl
      | true =>
        obtain ⟨k, a1, a2⟩ := hTold_iff.mp q
        exact absurd a2 (no k (by omega))
    rw [nt, Bool.false_or] at hq
    refine c_boxNamed hn oL hb.2.1.1 n8 (fun k hk => ⟨hb.2.1.2 k hk, ho.2.2.2.2.1 k hk⟩) (fun k hk e => ?_) (fun e => ?_)
    · rw [hTold_iff.mpr ⟨k, hk, e⟩, if_pos rfl] at hq
      exact ⟨by constructor <;> omega, iteN (by omega) hq⟩
    · rw [e, if_neg (by decide)] at hq
      exact ⟨by decide, iteP rfl hq⟩
end HO2
