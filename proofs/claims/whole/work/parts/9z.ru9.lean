/-! RULE: the call -/
def rs0 : RS := (0, fun _ => (0, 0, 0), 0, 0)
def rTop (b : Int → Int) (n : Nat) (xn : Nat → List Int) (nx F : Nat) : Sum EE RS := sbd (rR b n xn nx F 3 1 rs0) (fun s => if (tok b n 200 s.2.2.2).1 = 0 then .inr s else .inl (1, (tok b n 200 s.2.2.2).2.1))
theorem rs0_ok {n nx : Nat} : RI n nx rs0 := ⟨by show 0 ≤ n; omega, by decide, by decide, fun k hk => by have : k < 0 := hk; omega, by show (0 : Int) ≤ 0; omega, by show (0 : Int) ≤ ((0 : Nat) : Int); omega⟩
theorem rTop_ok {b : Int → Int} {n nx F : Nat} {xn : Nat → List Int} (n540 : n ≤ 540) (n8 : nx ≤ 8) (hF : 4 * (n + 1) + 2 ≤ F) : SP (rTop b n xn nx F) (fun s => RG n nx rs0 1 s) := by
  refine SP_bd (rR_ok n540 n8 (by decide) rs0_ok (by show 4 * (n + 1 - 0) + 2 ≤ F; omega) (fun z => by omega)) (fun s g => ?_)
  have g1 : RG n nx rs0 1 s := g
  by_cases c : (tok b n 200 s.2.2.2).1 = 0
  · rw [if_pos c]; exact g1
  · rw [if_neg c]; exact r_ek n540 g1.1.1 (by decide)
/-- the stock with a new rule -/
theorem SR_rule {S S' : HI} {s s' nm nm' : Int → Int} {n nx : Nat} {t : RS} (i : SR S s nm) (n8 : nx ≤ 8) (g : RG n nx rs0 1 t) (ek : ∀ k, k ≠ 5 → k ≠ 6 → S' k = S k) (e1 : S' 5 1 = t.1) (e2 : S' 5 2 = t.2.2.1) (e6 : ∀ k : Nat, k < t.1 → S' 6 k = stv (t.2.1 k)) (f0 : ∀ j : Int, j ≤ 2626 → j ≠ 16 → s' j = s j) (f16 : s' 16 = t.1) (fc : ∀ k : Nat, k < t.1 → s' (2627 + 3 * (k : Int)) = (t.2.1 k).1 ∧ s' (2627 + 3 * (k : Int) + 1) = (t.2.1 k).2.1 ∧ s' (2627 + 3 * (k : Int) + 2) = (t.2.1 k).2.2) (fn : nm' = nm) : SR S' s' nm' := by
  obtain ⟨ia, ic, ir, is, ip, iu⟩ := i
  subst fn
  have a : ∀ k, k ≠ 5 → k ≠ 6 → ∀ n : Int, agR n (S k) (S' k) := fun k h5 h6 n j _ _ => by rw [ek k h5 h6]
  have sg : ∀ a b : Int, b ≤ 2626 → (16 < a ∨ b < 16) → agS a b s s' := fun a b hb h j j0 j1 => f0 j (by omega) (by omega)
  have etd : td S' = td S := by
    unfold td
    rw [ek 20 (by decide) (by decide), ek 21 (by decide) (by decide), ek 22 (by decide) (by decide), ek 23 (by decide) (by decide), ek 0 (by decide) (by decide), ek 1 (by decide) (by decide)]
  refine ⟨ia.to (by rw [ek 1 (by decide) (by decide)]) (by rw [ek 1 (by decide) (by decide)]) (a 3 (by decide) (by decide) _) (a 4 (by decide) (by decide) _) (sg _ _ (by decide) (Or.inr (by decide))) (fun j _ _ => rfl), ic.to (by rw [ek 0 (by decide) (by decide)]) (by rw [ek 1 (by decide) (by decide)]) (a 19 (by decide) (by decide) _) (f0 11 (by decide) (by decide)) (sg _ _ (by decide) (Or.inl (by decide))), ir.to (ek 20 (by decide) (by decide)) (ek 21 (by decide) (by decide)) (ek 22 (by decide) (by decide)) (ek 23 (by decide) (by decide)) (by rw [ek 0 (by decide) (by decide)]) (by rw [ek 0 (by decide) (by decide)]) (by rw [ek 1 (by decide) (by decide)]) (f0 12 (by decide) (by decide)) (sg _ _ (by decide) (Or.inl (by decide))), is.to (by rw [ek 0 (by decide) (by decide)]) (by rw [ek 0 (by decide) (by decide)]) (a 24 (by decide) (by decide) _) (a 25 (by decide) (by decide) _) (a 26 (by decide) (by decide) _) (a 27 (by decide) (by decide) _) (a 28 (by decide) (by decide) _) (a 29 (by decide) (by decide) _) ic.1.2.1 (f0 9 (by decide) (by decide)) (f0 10 (by decide) (by decide)) (f0 13 (by decide) (by decide)) (sg _ _ (by decide) (Or.inl (by decide))), ip.to (by rw [ek 7 (by decide) (by decide)]) (by rw [ek 7 (by decide) (by decide)]) ic.1.2.1 (by rw [ek 0 (by decide) (by decide)]; exact Int.le_refl _) (fun c c0 c1 => by rw [ek 0 (by decide) (by decide)] at c1; omega) (fun c _ _ => by rw [ek 8 (by decide) (by decide)]) (a 9 (by decide) (by decide) _) (a 10 (by decide) (by decide) _) (a 11 (by decide) (by decide) _) (a 12 (by decide) (by decide) _) (a 13 (by decide) (by decide) _) (a 14 (by decide) (by decide) _) (a 15 (by decide) (by decide) _) (a 16 (by decide) (by decide) _) (a 17 (by decide) (by decide) _) (fun c hc => by rw [etd]; exact hc) (f0 14 (by decide) (by decide)) (f0 15 (by decide) (by decide)) (sg _ _ (by decide) (Or.inl (by decide))), ?_⟩
  obtain ⟨⟨r1, r2, r3, r4, r5, r6⟩, g2, g3, g4, g5, g6⟩ := g
  have g4 : 0 + 1 ≤ t.2.2.1 := g4
  have g5 : dpc t.2.1 t.1 = 0 + ((1 : Nat) : Int) := g5
  have dk : ∀ k, k ≤ t.1 → dep (fun k => s' (2627 + 3 * (k : Int))) k = dpc t.2.1 k := fun k hk => dep_to (fun j hj => (fc j (by omega)).1)
  have l0 : t.1 ≠ 0 := fun z => by
    rw [z] at g5
    have : (0 : Int) = 0 + ((1 : Nat) : Int) := g5
    omega
  refine ⟨⟨by omega, by omega, by rw [f16, e1]⟩, ⟨by omega, by omega, by rw [e1, e2]; omega⟩, fun k hk => ?_, fun _ => ?_⟩
  · rw [e1] at hk
    have hk : k < t.1 := by omega
    have c := fc k hk
    have rc := r4 k hk
    rw [e6 k hk, c.1, c.2.1, c.2.2, dk k (by omega), dk (k + 1) (by omega)]
    exact ⟨(stv_ok rc.1 n8).1, rc.2.1, rc.2.2.1, rc.2.2.2⟩
  · have tn : (S' 5 1).toNat = t.1 := by rw [e1]; exact Int.toNat_natCast _
    rw [tn, dk t.1 (Nat.le_refl _), g5]; rfl
section RU9
variable {l : Launch} {D : Nat} {ζ : ZP} {h : HI} {Q : Int → HI → Prop} {b : Int → Int} {n nx F : Nat} {xn : Nat → List Int}
def LQa : List (Nat × Int) := (1, 2) :: LQx
theorem rc_read (zk : ζok ζ) (n540 : n ≤ 540) (n8 : nx ≤ 8) (hF : 4 * (n + 1) + 2 ≤ F) (e1 : h 1 1 = n) (hb : ∀ j : Nat, j < 540 → h 2 j = b j ∧ -128 ≤ b j ∧ b j ≤ 127) (bx : BX xn nx h) (hq : match rTop b n xn nx F with
    | .inl e => ∀ g, FL LQa h g → g 1 8 = e.1 → g 1 9 = e.2 → Q 0 g
    | .inr s => ∀ g, FL LQa h g → g 1 8 = 0 → RX b n s g → Q 1 g) : RtI l (D + 36) mX3_readFrom (zz ζ) [aP 38, aP 1, aP 4] h Q := by
  have hn := ζok_n zk
  refine e_X3_readFrom hn (e_X7_begin (D := D + 34) hn ?_)
  have F0 : FL LQa h (hu (hu (hu (hu (hu (hu h 38 1 0) 38 2 0) 1 2 200) 1 3 0) 1 8 0) 1 9 0) := (((((FL.refl.u (by decide)).u (by decide)).u (by decide)).u (by decide)).u (by decide)).u (by decide)
  have v : ((hu (hu (hu (hu (hu (hu h 38 1 0) 38 2 0) 1 2 200) 1 3 0) 1 8 0) 1 9 0) 1 2 = 200 ∧ (hu (hu (hu (hu (hu (hu h 38 1 0) 38 2 0) 1 2 200) 1 3 0) 1 8 0) 1 9 0) 1 3 = 0 ∧ (hu (hu (hu (hu (hu (hu h 38 1 0) 38 2 0) 1 2 200) 1 3 0) 1 8 0) 1 9 0) 1 8 = 0) ∧ (hu (hu (hu (hu (hu (hu h 38 1 0) 38 2 0) 1 2 200) 1 3 0) 1 8 0) 1 9 0) 38 1 = 0 ∧ (hu (hu (hu (hu (hu (hu h 38 1 0) 38 2 0) 1 2 200) 1 3 0) 1 8 0) 1 9 0) 38 2 = 0 := by simp [hu]
  generalize hu (hu (hu (hu (hu (hu h 38 1 0) 38 2 0) 1 2 200) 1 3 0) 1 8 0) 1 9 0 = g at F0 v ⊢
  have tp : tpc b n 200 g := ⟨⟨by rw [F0.at 1 1 (by decide)]; exact e1, v.1.1⟩, by rw [F0.c 2 (by decide)]; exact hb⟩
  refine s_step (D := D + 28) (p := 0) zk n540 (by omega) (by omega) tp v.1.2.1 (fun g1 f1 t1 => ?_)
  have F1 : FL LQa h g1 := F0.trans (f1.mono (by decide))
  have z8 : g1 1 8 = 0 := by rw [f1.at 1 8 (by decide)]; exact v.1.2.2
  have ok := rR_ok (b := b) (xn := xn) n540 n8 (f := F) (m := 3) (d := 1) (by decide) (rs0_ok (n := n) (nx := nx)) (by show 4 * (n + 1 - 0) + 2 ≤ F; omega) (fun z => by omega)
  have main := fun Q' => rc_main (l := l) (b := b) (xn := xn) zk n540 n8 (f := F) (m := 3) (d := 1) (D := D) (s := rs0) (g := g1) (Q := Q') (by decide) (by decide) (by decide) rs0_ok (by show 4 * (n + 1 - 0) + 2 ≤ F; omega) (fun z => by omega) ((bx.fl F0 (by decide)).fl f1 (by decide)) ⟨⟨by rw [f1.c 38 (by decide)]; exact v.2.1, by rw [f1.c 38 (by decide)]; exact v.2.2⟩, fun k hk => by have : k < 0 := hk; omega, tp.fl f1 (by decide), t1⟩
  refine main _ ?_
  unfold rTop at hq
  cases er1 : rR b n xn nx F 3 1 rs0 with
  | inl e =>
    rw [er1] at hq
    exact fun g' f' a1 a2 => ⟨by decide, iteN (by decide) (hq g' (F1.trans (f'.mono (by decide))) a1 a2)⟩
  | inr s =>
    rw [er1] at hq ok
    intro g2 f2 x2
    have hp : s.2.2.2 ≤ n := ok.1.1
    have tx := x2.2.2.2
    refine ⟨by decide, iteP (by decide) ⟨cg_rg4 n540 (by omega) hp tx, ?_⟩⟩
    rw [tx.1]
    have hq : match (if (tok b n 200 s.2.2.2).1 = 0 then .inr s else .inl (1, (tok b n 200 s.2.2.2).2.1) : Sum EE RS) with
      | .inl e => ∀ g, FL LQa h g → g 1 8 = e.1 → g 1 9 = e.2 → Q 0 g
      | .inr s => ∀ g, FL LQa h g → g 1 8 = 0 → RX b n s g → Q 1 g := hq
    by_cases c : (tok b n 200 s.2.2.2).1 = 0
    · rw [if_pos c] at hq
      exact iteP c (hq g2 (F1.trans (f2.mono (by decide))) (by rw [f2.at 1 8 (by decide)]; exact z8) x2)
    · rw [if_neg c] at hq
      exact iteN c (cg_refuse hn tx (fun g3 f3 a1 a2 => ⟨by decide, iteP rfl (hq g3 ((F1.trans (f2.mono (by decide))).trans (f3.mono (by decide))) a1 a2)⟩))
def LUa : List (Nat × Int) := [(97, 0), (97, 2), (97, 3), (97, 5), (97, 14), (97, 15)] ++ LU
theorem mr_read (hn : 144 ≤ ζ.2.2.2.2) (n540 : n ≤ 540) (n8 : nx ≤ 8) (di : ∀ k k', k < nx → k' < nx → xn k = xn k' → k = k') (hF : 4 * (n + 1) + 2 ≤ F) (e2 : h 97 2 = n) (hb : ∀ j : Nat, j < 540 → h 98 j = b j ∧ -128 ≤ b j ∧ b j ≤ 127) (rs : rsI h) (bm : h 99 1 = nx ∧ ∀ k : Nat, k < nx → h 101 (6 + k) = ew (xn k) ∧ okW (xn k)) (hq : match rTop b n xn nx F with
    | .inl e => ∀ g, FL LUa h g → g 97 2 = 0 → g 97 14 = e.1 → Q ((-1) - e.2) g
    | .inr s => ∀ g, FL LUa h g → g 97 2 = 0 → g 97 14 = 0 → RM b n xn nx [] s g → G l (D + 6) 0 0 mX12_rule (zz ζ) 63 [aP 97, aI 0] [] (hu g 99 16 s.1) (qI (zz ζ) Q)) : RtI l (D + 6) mX12_rule (zz ζ) [aP 97] h Q := by
  refine e_X12_rule hn (e_X12_taken hn ?_)
  have ee : hu h 97 0 0 97 2 = n := by rw [hu_j _ _ _ (by decide)]; exact e2
  rw [ee]
  have F0 : FL LUa h (hu (hu (hu (hu (hu (hu (hu (hu (hu h 97 0 0) 97 3 n) 97 2 0) 97 4 0) 97 5 200) 97 14 0) 97 33 0) 97 34 0) 97 35 0) := ((((((((FL.refl.u (by decide)).u (by decide)).u (by decide)).u (by decide)).u (by decide)).u (by decide)).u (by decide)).u (by decide)).u (by decide)
  have v : (((hu (hu (hu (hu (hu (hu (hu (hu (hu h 97 0 0) 97 3 n) 97 2 0) 97 4 0) 97 5 200) 97 14 0) 97 33 0) 97 34 0) 97 35 0) 97 3 = n ∧ (hu (hu (hu (hu (hu (hu (hu (hu (hu h 97 0 0) 97 3 n) 97 2 0) 97 4 0) 97 5 200) 97 14 0) 97 33 0) 97 34 0) 97 35 0) 97 5 = 200) ∧ (hu (hu (hu (hu (hu (hu (hu (hu (hu h 97 0 0) 97 3 n) 97 2 0) 97 4 0) 97 5 200) 97 14 0) 97 33 0) 97 34 0) 97 35 0) 97 4 = 0) ∧ ((hu (hu (hu (hu (hu (hu (hu (hu (hu h 97 0 0) 97 3 n) 97 2 0) 97 4 0) 97 5 200) 97 14 0) 97 33 0) 97 34 0) 97 35 0) 97 14 = 0 ∧ (hu (hu (hu (hu (hu (hu (hu (hu (hu h 97 0 0) 97 3 n) 97 2 0) 97 4 0) 97 5 200) 97 14 0) 97 33 0) 97 34 0) 97 35 0) 97 2 = 0) ∧ (hu (hu (hu (hu (hu (hu (hu (hu (hu h 97 0 0) 97 3 n) 97 2 0) 97 4 0) 97 5 200) 97 14 0) 97 33 0) 97 34 0) 97 35 0) 97 33 = 0 ∧ (hu (hu (hu (hu (hu (hu (hu (hu (hu h 97 0 0) 97 3 n) 97 2 0) 97 4 0) 97 5 200) 97 14 0) 97 33 0) 97 34 0) 97 35 0) 97 34 = 0 ∧ (hu (hu (hu (hu (hu (hu (hu (hu (hu h 97 0 0) 97 3 n) 97 2 0) 97 4 0) 97 5 200) 97 14 0) 97 33 0) 97 34 0) 97 35 0) 97 35 = 0 := by simp [hu]
  generalize hu (hu (hu (hu (hu (hu (hu (hu (hu h 97 0 0) 97 3 n) 97 2 0) 97 4 0) 97 5 200) 97 14 0) 97 33 0) 97 34 0) 97 35 0 = g at F0 v ⊢
  have tp : tpm b n 200 g := ⟨v.1.1, by rw [F0.c 98 (by decide)]; exact hb⟩
  refine s_next (D := D + 3) (p := 0) hn n540 (by omega) (by omega) tp v.1.2 (fun g1 f1 t1 => ?_)
  have F1 : FL LUa h g1 := F0.trans (f1.mono (by decide))
  have z2 : g1 97 2 = 0 := by rw [f1.at 97 2 (by decide)]; exact v.2.1.2
  have z14 : g1 97 14 = 0 := by rw [f1.at 97 14 (by decide)]; exact v.2.1.1
  have rm : RM b n xn nx [] rs0 g1 := by
    refine ⟨⟨⟨?_, ?_⟩, fun k hk => by have : k < 0 := hk; omega⟩, ⟨?_, True.intro, fun x hx => by cases hx⟩, ⟨tp.fl f1 (by decide), rs_fl (rs_fl rs F0 (by decide)) f1 (by decide), ?_⟩, t1⟩
    · rw [f1.at 97 33 (by decide)]; exact v.2.2.1
    · rw [f1.at 97 35 (by decide)]; exact v.2.2.2.2
    · rw [f1.at 97 34 (by decide)]; exact v.2.2.2.1
    · rw [F1.c 99 (by decide), F1.c 101 (by decide)]; exact bm
  refine e_X12_cond hn ?_
  have main := fun Q' => mr_main (l := l) (D := D) (b := b) (xn := xn) (g0 := g1) (Q := Q') hn n540 n8 di (f := F) (m := 3) (d := 1) (s := rs0) (P := []) (by decide) rs0_ok (by show 4 * (n + 1 - 0) + 2 ≤ F; omega) (fun z => by omega) rfl (by decide) (by decide) (by decide)
  refine KC_of hn (main _ (fun x t e => by cases e) ?_) g1 FL.refl rm
  unfold rTop at hq
  cases er1 : rR b n xn nx F 3 1 rs0 with
  | inl e =>
    rw [er1] at hq
    exact fun g' f' a1 a2 => ⟨by decide, iteN (by decide) (by rw [a2]; exact hq g' (F1.trans (f'.mono (by decide))) (by rw [f'.at 97 2 (by decide)]; exact z2) a1)⟩
  | inr s =>
    rw [er1] at hq
    have hq : match (if (tok b n 200 s.2.2.2).1 = 0 then .inr s else .inl (1, (tok b n 200 s.2.2.2).2.1) : Sum EE RS) with
      | .inl e => ∀ g, FL LUa h g → g 97 2 = 0 → g 97 14 = e.1 → Q ((-1) - e.2) g
      | .inr s => ∀ g, FL LUa h g → g 97 2 = 0 → g 97 14 = 0 → RM b n xn nx [] s g → G l (D + 6) 0 0 mX12_rule (zz ζ) 63 [aP 97, aI 0] [] (hu g 99 16 s.1) (qI (zz ζ) Q) := hq
    refine fun n11 n10 => ⟨fun _ z => (by cases z), fun c => absurd c n11, fun c => absurd c n10, fun _ _ _ => ⟨fun z => (by cases z), fun _ c0 => ?_, fun _ c0 => ?_⟩⟩
    · rw [if_neg c0] at hq
      exact fun g' f' a1 a2 => ⟨by decide, iteN (by decide) (by rw [a2]; exact hq g' (F1.trans (f'.mono (by decide))) (by rw [f'.at 97 2 (by decide)]; exact z2) a1)⟩
    · rw [if_pos c0] at hq
      intro g' f' x'
      refine ⟨by decide, iteP (by decide) ?_⟩
      have x' : RM b n xn nx [] s g' := x'
      rw [x'.1.1.1]
      exact hq g' (F1.trans (f'.mono (by decide))) (by rw [f'.at 97 2 (by decide)]; exact z2) (by rw [f'.at 97 14 (by decide)]; exact z14) x'
end RU9
