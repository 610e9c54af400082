/-! RULE: the reference's reading is the descent -/
def RRs (g0 : HI) (Q : Int → HI → Prop) (r : Sum EE RS) (K : RS → Prop) : Prop := match r with
  | .inl e => ERr g0 Q e
  | .inr s => K s
theorem RRs_bd {g0 : HI} {Q : Int → HI → Prop} {r : Sum EE RS} {f : RS → Sum EE RS} {K K' : RS → Prop} (a : RRs g0 Q (sbd r f) K) (h : ∀ s, r = .inr s → RRs g0 Q (f s) K → K' s) : RRs g0 Q r K' := by
  cases r with
  | inl e => exact a
  | inr s => exact h s rfl a
def hd9 (P : List Int) : Prop := ∀ x t, P = x :: t → x = 9 ∨ x = 10
def hd10 (P : List Int) : Prop := ∀ x t, P = x :: t → x = 10
section RU8
variable {l : Launch} {D : Nat} {ζ : ZP} {Q : Int → HI → Prop} {b : Int → Int} {n nx : Nat} {xn : Nat → List Int} {g0 : HI}
theorem wdn_stay {k : Int} {P : List Int} {s : RS} (h : ∀ x t, P = x :: t → x = 10 ∨ bnds x < k) : wdn k P s = (P, s) := by
  cases P with
  | nil => rfl
  | cons x t =>
    rw [wdn, if_neg (fun z => ?_)]
    have := h x t rfl
    omega
theorem hd9_3 {P : List Int} {s : RS} (h : hd9 P) {k : Int} (hk : 2 ≤ k) : wdn k P s = (P, s) := wdn_stay (fun x t e => by
  rcases h x t e with z | z
  · right; rw [z]; show (1 : Int) < k; omega
  · left; exact z)
theorem hd10_1 {P : List Int} {s : RS} (h : hd10 P) {k : Int} : wdn k P s = (P, s) := wdn_stay (fun x t e => Or.inl (h x t e))
theorem mr_one (hn : 144 ≤ ζ.2.2.2.2) (n540 : n ≤ 540) (n8 : nx ≤ 8) (di : ∀ k k', k < nx → k' < nx → xn k = xn k' → k = k') {f d : Nat} {s : RS} {P : List Int} (h : RI n nx s) (cd : cntO P + 1 = d) (d9 : d ≤ 9) (pl : P.length ≤ 28) (lp : s.1 + P.length ≤ 2 * s.2.2.1) (hq : RRs g0 Q (rR b n xn nx (f + 1) 0 d s) (fun s' => KB l D ζ b n xn nx g0 Q (wdn 3 P s').1 (wdn 3 P s').2)) (br : (tok b n 200 s.2.2.2).1 = 40 → ¬ (20 ≤ s.2.2.1 ∨ 8 < d) → KO l D ζ b n xn nx g0 Q (10 :: P) (rOne1 s (tok b n 200 s.2.2.2).2.2.1)) (nt : hWord (tok b n 200 s.2.2.2) = 12 → ¬ (20 ≤ s.2.2.1 ∨ 8 < d) → KO l D ζ b n xn nx g0 Q (7 :: P) (rOne1 s (tok b n 200 s.2.2.2).2.2.1)) : KO l D ζ b n xn nx g0 Q P s := by
  intro g F hx
  have hp := h.1
  have tk := tok_ok (b := b) (m := 200) n540 (by omega) hp
  have tx := hx.2.2.2
  have tp := hx.2.2.1.1
  have o20 := h.2.1
  have e35 := hx.1.1.2
  have bw := hWord_bd (tok b n 200 s.2.2.2)
  have le2 := h.2.2.1
  rw [rR] at hq
  have w40 : (tok b n 200 s.2.2.2).1 = 40 → hWord (tok b n 200 s.2.2.2) = -1 := fun c => if_neg (by omega)
  -- behind the first test
  have go : ((tok b n 200 s.2.2.2).1 = 40 ∨ (12 ≤ hWord (tok b n 200 s.2.2.2) ∧ hWord (tok b n 200 s.2.2.2) ≤ 19)) → G l (D + 4) 0 0 mX12_one (zz ζ) 36 [aP 97, aI (if hWord (tok b n 200 s.2.2.2) = 12 then 1 else 0), aI (atv (hWord (tok b n 200 s.2.2.2)))] [] g (qI (zz ζ) (Qo l D ζ Q)) := by
    intro c
    rw [if_pos c] at hq
    have bad4 : (20 ≤ s.2.2.1 ∨ 8 < d) → RtI l (D + 3) mX12_bad (zz ζ) [aP 97, aI 4] g (fun r1 h1 => (r1 = 0 ∨ r1 = 1) ∧ Qo l D ζ Q r1 h1) := by
      intro c1
      rw [if_pos c1] at hq
      exact mg_bad hn tx (fun g' f' a1 a2 => ⟨Or.inl rfl, by decide, iteN (by decide) (hq g' ((F.mono (by decide)).trans (f'.mono (by decide))) a1 a2)⟩)
    refine b_X12_one_36 hn ⟨by rw [e35]; constructor <;> omega, ?_⟩
    rw [e35]
    by_cases c20 : 20 ≤ s.2.2.1
    · exact iteP (by omega) (bad4 (Or.inl c20))
    · refine iteN (by omega) (mr_open hn hx (by omega) ⟨by constructor <;> omega, ?_⟩)
      by_cases c8 : 8 < d
      · exact iteN (fun y => y (by omega)) (bad4 (Or.inr c8))
      · have c1 : ¬ (20 ≤ s.2.2.1 ∨ 8 < d) := by omega
        rw [if_neg c1] at hq
        refine iteP (by omega) ?_
        rw [e35]
        have F1 : FL [(97, 35)] g (hu g 97 35 (s.2.2.1 + 1)) := FL.refl.u (by decide)
        refine s_next (D := D + 1) hn n540 (by omega) tk.2.1.2 (tp.fl F1 (by decide)) (by rw [F1.at 97 4 (by decide)]; exact tx.2.2.1) (fun g1 f1 t1 => ?_)
        have FF : FL LU g g1 := (F1.mono (by decide)).trans (f1.mono (by decide))
        have x1 : RM b n xn nx P (rOne1 s (tok b n 200 s.2.2.2).2.2.1) g1 := by
          have f2 := f1
          refine ⟨⟨⟨?_, ?_⟩, ?_⟩, ⟨?_, ?_, hx.2.1.2.2⟩, ⟨(tp.fl F1 (by decide)).fl f1 (by decide), rs_fl (rs_fl hx.2.2.1.2.1 F1 (by decide)) f1 (by decide), ?_⟩, t1⟩
          · rw [f1.at 97 33 (by decide), F1.at 97 33 (by decide)]; exact hx.1.1.1
          · rw [f1.at 97 35 (by decide), hu_s]; show _ = ((s.2.2.1 + 1 : Nat) : Int); omega
          · rw [f1.c 111 (by decide), F1.c 111 (by decide)]; exact hx.1.2
          · rw [f1.at 97 34 (by decide), F1.at 97 34 (by decide)]; exact hx.2.1.1
          · exact PLc_c (fun j _ _ => by rw [f1.c 112 (by decide), F1.c 112 (by decide)]) hx.2.1.2.1
          · rw [f1.c 99 (by decide), F1.c 99 (by decide), f1.c 101 (by decide), F1.c 101 (by decide)]; exact hx.2.2.1.2.2
        have e34 := x1.2.1.1
        have pu : ∀ v : Int, v = 7 ∨ v = 10 → KO l D ζ b n xn nx g0 Q (v :: P) (rOne1 s (tok b n 200 s.2.2.2).2.2.1) → G l (D + 4) 0 0 mX12_one (zz ζ) 0 [aP 97, aU, aU] [] (hu (hu g1 112 (g1 97 34) v) 97 34 (g1 97 34 + 1)) (qI (zz ζ) (Qo l D ζ Q)) := by
          intro v hv ko
          rw [e34]
          exact ko _ (F.trans (FF.trans ((FL.refl.ua (by decide)).u (by decide)))) (RM_push x1 (by omega))
        have bd : 0 ≤ g1 97 34 ∧ g1 97 34 < 30 := by rw [e34]; omega
        by_cases c40 : (tok b n 200 s.2.2.2).1 = 40
        · rw [w40 c40]
          refine ⟨by decide, iteN (by decide) ⟨by decide, iteP (by decide) ⟨bd, pu 10 (Or.inr rfl) (br c40 c1)⟩⟩⟩
        · rw [if_neg c40] at hq
          have c' : 12 ≤ hWord (tok b n 200 s.2.2.2) ∧ hWord (tok b n 200 s.2.2.2) ≤ 19 := by rcases c with z | z; exact absurd z c40; exact z
          by_cases c12 : hWord (tok b n 200 s.2.2.2) = 12
          · rw [c12]
            exact ⟨by decide, iteN (by decide) ⟨by decide, iteN (by decide) ⟨bd, pu 7 (Or.inl rfl) (nt c12 c1)⟩⟩⟩
          · rw [if_neg c12] at hq
            have av : 0 ≤ atv (hWord (tok b n 200 s.2.2.2)) ∧ atv (hWord (tok b n 200 s.2.2.2)) ≤ 6 := by
              generalize hWord (tok b n 200 s.2.2.2) = w at c' c12
              have : w = 13 ∨ w = 14 ∨ w = 15 ∨ w = 16 ∨ w = 17 ∨ w = 18 ∨ w = 19 := by omega
              rcases this with z | z | z | z | z | z | z <;> rw [z] <;> decide
            refine ⟨by constructor <;> omega, iteP av.1 ?_⟩
            have h1 := RI_one h tk.2.1.2 (by omega)
            have at_ok := rAtom_ok (b := b) (xn := xn) n540 n8 (w := hWord (tok b n 200 s.2.2.2)) (by omega) h1 (by show 1 ≤ s.2.2.1 + 1; omega) (by show s.1 + 2 ≤ 2 * (s.2.2.1 + 1); omega) (by show dpc s.2.1 s.1 + 1 ≤ ((s.2.2.1 + 1 : Nat) : Int); have := h.2.2.2.2.2; omega)
            refine mr_asks (D := D) (s := rOne1 s (tok b n 200 s.2.2.2).2.2.1) (w := hWord (tok b n 200 s.2.2.2)) hn n540 n8 di tk.2.1.2 x1 (by omega) (by show s.1 + 1 + P.length ≤ 64; omega) (by omega) ?_
            revert hq at_ok
            cases rAtom b n xn nx (hWord (tok b n 200 s.2.2.2)) (rOne1 s (tok b n 200 s.2.2.2).2.2.1) with
            | inl e => exact fun hq _ g' f' a1 a2 => ⟨Or.inl rfl, by decide, iteN (by decide) (hq g' (((F.trans FF).mono (by decide)).trans f') a1 a2)⟩
            | inr s' =>
              intro hq ok g' f' x'
              have wp := wdn_p (k := 3) (P := P) (s := s')
              have e1 : s'.1 = s.1 + 1 := ok.2.2.1
              refine ⟨Or.inr rfl, by decide, iteP (by decide) (KA_of hn n540 (by rw [wp.1]; exact ok.1.1) (by omega) (by omega) hq g' (F.trans (FF.trans f')) x')⟩
  have hw12 : ∀ {Q' : Int → HI → Prop}, Q' (if hWord (tok b n 200 s.2.2.2) = 12 then 1 else 0) g → RtI l (D + 3) mX12_isWord (zz ζ) [aP 97, aL 7237492] g Q' := by
    intro Q' q
    refine mg_isWord (k := 12) hn n540 (by omega) hp tx (by decide) rfl (fun c => ?_) (fun c => ?_)
    · have c : hWord (tok b n 200 s.2.2.2) = 12 := c
      rw [if_pos c] at q; exact q
    · have c : hWord (tok b n 200 s.2.2.2) ≠ 12 := c
      rw [if_neg c] at q; exact q
  refine b_X12_one_0 hn (hw12 (mr_atom (D := D + 1) hn n540 hp tx ?_))
  by_cases c12 : hWord (tok b n 200 s.2.2.2) = 12
  · have g12 := go (Or.inr (by omega))
    rw [if_pos c12] at g12 ⊢
    exact ⟨by decide, iteP (by decide) g12⟩
  · have av : rg (atv (hWord (tok b n 200 s.2.2.2))) := by
      unfold atv
      repeat' split
      all_goals decide
    rw [if_neg c12] at go ⊢
    refine ⟨by decide, iteN (by decide) ⟨av, ?_⟩⟩
    by_cases ca : 13 ≤ hWord (tok b n 200 s.2.2.2) ∧ hWord (tok b n 200 s.2.2.2) ≤ 19
    · have a0 : 0 ≤ atv (hWord (tok b n 200 s.2.2.2)) := by
        have ca' := ca
        generalize hWord (tok b n 200 s.2.2.2) = w at ca'
        have : w = 13 ∨ w = 14 ∨ w = 15 ∨ w = 16 ∨ w = 17 ∨ w = 18 ∨ w = 19 := by omega
        rcases this with z | z | z | z | z | z | z <;> rw [z] <;> decide
      exact iteP a0 (go (Or.inr (by omega)))
    · have a0 : atv (hWord (tok b n 200 s.2.2.2)) = -1 := by
        unfold atv
        rw [if_neg (by omega), if_neg (by omega), if_neg (by omega), if_neg (by omega), if_neg (by omega), if_neg (by omega), if_neg (by omega)]
      refine iteN (by rw [a0]; decide) (mg_sign hn n540 (by omega) hp tx (by decide) ?_)
      by_cases c40 : (tok b n 200 s.2.2.2).1 = 40
      · rw [if_pos c40]; exact ⟨by decide, iteP (by decide) (go (Or.inl c40))⟩
      · rw [if_neg c40]
        rw [if_neg (by omega)] at hq
        exact ⟨by decide, iteN (by decide) (mg_bad hn tx (fun g' f' a1 a2 => ⟨Or.inl rfl, by decide, iteN (by decide) (hq g' ((F.mono (by decide)).trans (f'.mono (by decide))) a1 a2)⟩))⟩
/-- what a part of the text asks of the reference, by its kind -/
def MG (l : Launch) (D : Nat) (ζ : ZP) (b : Int → Int) (n : Nat) (xn : Nat → List Int) (nx : Nat) (g0 : HI) (Q : Int → HI → Prop) (f m d : Nat) (P : List Int) (s : RS) : Prop := match m with
  | 0 => RRs g0 Q (rR b n xn nx f 0 d s) (fun s' => KB l D ζ b n xn nx g0 Q (wdn 3 P s').1 (wdn 3 P s').2) → KO l D ζ b n xn nx g0 Q P s
  | 1 => hd9 P → RRs g0 Q (rR b n xn nx f 1 d s) (fun s' => hWord (tok b n 200 s'.2.2.2) ≠ 11 → KB l D ζ b n xn nx g0 Q P s') → KO l D ζ b n xn nx g0 Q P s
  | 2 => hd9 P → RRs g0 Q (rR b n xn nx f 2 d s) (fun s' => hWord (tok b n 200 s'.2.2.2) ≠ 11 → KB l D ζ b n xn nx g0 Q P s') → KB l D ζ b n xn nx g0 Q P s
  | 3 => hd10 P → RRs g0 Q (rR b n xn nx f 3 d s) (fun s' => hWord (tok b n 200 s'.2.2.2) ≠ 11 → hWord (tok b n 200 s'.2.2.2) ≠ 10 → KB l D ζ b n xn nx g0 Q P s') → KO l D ζ b n xn nx g0 Q P s
  | _ => hd10 P → hWord (tok b n 200 s.2.2.2) ≠ 11 → RRs g0 Q (rR b n xn nx f 4 d s) (fun s' => hWord (tok b n 200 s'.2.2.2) ≠ 11 → hWord (tok b n 200 s'.2.2.2) ≠ 10 → KB l D ζ b n xn nx g0 Q P s') → KB l D ζ b n xn nx g0 Q P s
def em (m : Nat) : Nat := if m = 2 ∨ m = 4 then 1 else 0
def lm (m : Nat) : Nat := if m = 0 then 2 else if m ≤ 2 then 1 else 0
theorem KC_of (hn : 144 ≤ ζ.2.2.2.2) {P : List Int} {s : RS} (ko : KO l D ζ b n xn nx g0 Q P s) : KA l D ζ b n xn nx g0 Q 0 P s := fun g f x => b_X12_cond_0 hn (e_X12_one hn (ko g f x))
theorem mr_main (hn : 144 ≤ ζ.2.2.2.2) (n540 : n ≤ 540) (n8 : nx ≤ 8) (di : ∀ k k', k < nx → k' < nx → xn k = xn k' → k = k') : ∀ {f m d : Nat} {s : RS} {P : List Int}, m ≤ 4 → RI n nx s → 4 * (n + 1 - s.2.2.2) + rk m ≤ f → (m = 2 ∨ m = 4 → 1 ≤ dpc s.2.1 s.1) → cntO P + 1 = d → d ≤ 9 → P.length ≤ 3 * (d - 1) + lm m → s.1 + P.length + em m ≤ 2 * s.2.2.1 → MG l D ζ b n xn nx g0 Q f m d P s
  | 0, m, d, s, P, _, h, hf, _, _, _, _, _ => by have := h.1; omega
  | f + 1, 0, d, s, P, _, h, hf, _, cd, d9, pl, lp => by
    have hf : 4 * (n + 1 - s.2.2.2) + 0 ≤ f + 1 := hf
    have pl : P.length ≤ 3 * (d - 1) + 2 := pl
    have lp : s.1 + P.length + 0 ≤ 2 * s.2.2.1 := lp
    have tk := tok_ok (b := b) (m := 200) n540 (by omega) h.1
    intro hq
    have q1 : (rOne1 s (tok b n 200 s.2.2.2).2.2.1).2.2.2 = (tok b n 200 s.2.2.2).2.2.1 := rfl
    have q0 := hq
    rw [rR] at q0
    refine mr_one hn n540 n8 di h cd d9 (by omega) (by omega) hq (fun c40 c1 => ?_) (fun c12 c1 => ?_)
    · rw [if_pos (Or.inl c40), if_neg c1, if_pos c40] at q0
      have p1 := tk.2.2 (by omega) (by omega)
      have h1 := RI_one h tk.2.1.2 (by omega)
      have ok := rR_ok (b := b) (xn := xn) n540 n8 (f := f) (m := 3) (d := d + 1) (by decide) h1 (by rw [q1]; show 4 * _ + 2 ≤ f; omega) (fun z => by omega)
      have c2 : cntO (10 :: P) + 1 = d + 1 := by show cntO P + 1 + 1 = d + 1; omega
      have l2 : (10 :: P).length = P.length + 1 := rfl
      have ih := mr_main hn n540 n8 di (f := f) (m := 3) (d := d + 1) (s := rOne1 s (tok b n 200 s.2.2.2).2.2.1) (P := 10 :: P) (by decide) h1 (by rw [q1]; show 4 * _ + 2 ≤ f; omega) (fun z => by omega) c2 (by omega) (by show (10 :: P).length ≤ 3 * (d + 1 - 1) + 0; omega) (by show s.1 + (10 :: P).length + 0 ≤ 2 * (s.2.2.1 + 1); omega)
      refine ih (fun x t e => by cases e; rfl) (RRs_bd q0 (fun s' e' hq' n11 n10 => ?_))
      rw [e'] at ok
      have ok1 := ok.1.1
      have tk' := tok_ok (b := b) (m := 200) n540 (by omega) ok1
      unfold rClose at hq'
      have w1 : ∀ k : Int, wdn k (10 :: P) s' = (10 :: P, s') := fun k => if_neg (fun z => z.1 rfl)
      refine ⟨fun c41 _ => ?_, fun c => absurd c n11, fun c => absurd c n10, fun no _ _ => ⟨fun _ => ?_, fun z => absurd List.mem_cons_self z, fun z => absurd List.mem_cons_self z⟩⟩
      · rw [if_pos c41] at hq'
        have kb : KB l D ζ b n xn nx g0 Q (wdn 3 P (rGo s' (tok b n 200 s'.2.2.2).2.2.1)).1 (wdn 3 P (rGo s' (tok b n 200 s'.2.2.2).2.2.1)).2 := hq'
        have wp := wdn_p (k := 3) (P := P) (s := rGo s' (tok b n 200 s'.2.2.2).2.2.1)
        have g3 := ok.2.2.1
        have g3 : s'.1 + 2 * (s.2.2.1 + 1) + 1 ≤ s.1 + 2 * s'.2.2.1 := g3
        have e1 : (rGo s' (tok b n 200 s'.2.2.2).2.2.1).1 = s'.1 := rfl
        have o' := ok.1.2.1
        have ka := KA_of hn n540 (by rw [wp.1]; exact tk'.2.1.2) (by omega) (by omega) kb
        unfold cl
        rw [w1 1]
        rw [wdn_go] at ka
        exact ka
      · rw [if_neg (fun z => no ⟨z, List.mem_cons_self⟩)] at hq'
        exact hq'
    · have c40 : (tok b n 200 s.2.2.2).1 ≠ 40 := by have := (hWord_sort (t := tok b n 200 s.2.2.2) (by omega)).1; omega
      rw [if_pos (Or.inr (by omega)), if_neg c1, if_neg c40, if_pos c12] at q0
      have p1 := tk.2.2 (by have := (hWord_sort (t := tok b n 200 s.2.2.2) (by omega)).1; omega) (by have := (hWord_sort (t := tok b n 200 s.2.2.2) (by omega)).1; omega)
      have h1 := RI_one h tk.2.1.2 (by omega)
      have c2 : cntO (7 :: P) + 1 = d + 1 := by show cntO P + 1 + 1 = d + 1; omega
      have l2 : (7 :: P).length = P.length + 1 := rfl
      have ih := mr_main hn n540 n8 di (f := f) (m := 0) (d := d + 1) (s := rOne1 s (tok b n 200 s.2.2.2).2.2.1) (P := 7 :: P) (by decide) h1 (by rw [q1]; show 4 * _ + 0 ≤ f; omega) (fun z => by omega) c2 (by omega) (by show (7 :: P).length ≤ 3 * (d + 1 - 1) + 2; omega) (by show s.1 + (7 :: P).length + 0 ≤ 2 * (s.2.2.1 + 1); omega)
      refine ih (RRs_bd q0 (fun s' e' hq' => ?_))
      have w3 : wdn 3 (7 :: P) s' = wdn 3 P (rAdd s' 7 0 0) := if_pos ⟨by decide, by decide⟩
      rw [w3]
      exact hq'
  | f + 1, 1, d, s, P, _, h, hf, _, cd, d9, pl, lp => by
    have hf : 4 * (n + 1 - s.2.2.2) + 1 ≤ f + 1 := hf
    have pl : P.length ≤ 3 * (d - 1) + 1 := pl
    have lp : s.1 + P.length + 0 ≤ 2 * s.2.2.1 := lp
    intro h9 hq
    rw [rR] at hq
    have ok := rR_ok (b := b) (xn := xn) n540 n8 (f := f) (m := 0) (d := d) (by decide) h (by show 4 * _ + 0 ≤ f; omega) (fun z => by omega)
    refine mr_main hn n540 n8 di (f := f) (m := 0) (d := d) (P := P) (by decide) h (by show 4 * _ + 0 ≤ f; omega) (fun z => by omega) cd d9 (by show P.length ≤ 3 * (d - 1) + 2; omega) (by show s.1 + P.length + 0 ≤ _; omega) (RRs_bd hq (fun s' e' hq' => ?_))
    rw [hd9_3 h9 (by decide)]
    show KB l D ζ b n xn nx g0 Q P s'
    rw [e'] at ok
    have k2 : s.2.2.2 + 1 ≤ s'.2.2.2 := ok.2.1
    have k3 : s'.1 + 2 * s.2.2.1 + 1 ≤ s.1 + 2 * s'.2.2.1 := ok.2.2.1
    have k1 := ok.1.1
    have k5 : dpc s'.2.1 s'.1 = dpc s.2.1 s.1 + (1 : Nat) := ok.2.2.2.2.1
    have d0 := h.2.2.2.2.1
    exact mr_main hn n540 n8 di (f := f) (m := 2) (d := d) (s := s') (P := P) (by decide) ok.1 (by show 4 * _ + 1 ≤ f; omega) (fun _ => by omega) cd d9 (by show P.length ≤ 3 * (d - 1) + 1; omega) (by show s'.1 + P.length + 1 ≤ _; omega) h9 hq'
  | f + 1, 2, d, s, P, _, h, hf, dd, cd, d9, pl, lp => by
    have hf : 4 * (n + 1 - s.2.2.2) + 1 ≤ f + 1 := hf
    have pl : P.length ≤ 3 * (d - 1) + 1 := pl
    have lp : s.1 + P.length + 1 ≤ 2 * s.2.2.1 := lp
    have dd := dd (Or.inl rfl)
    have tk := tok_ok (b := b) (m := 200) n540 (by omega) h.1
    intro h9 hq
    rw [rR] at hq
    by_cases c : hWord (tok b n 200 s.2.2.2) = 11
    · rw [if_pos c] at hq
      have w := (hWord_sort (t := tok b n 200 s.2.2.2) (by omega)).1
      have p1 := tk.2.2 (by omega) (by omega)
      have q1 : (rGo s (tok b n 200 s.2.2.2).2.2.1).2.2.2 = (tok b n 200 s.2.2.2).2.2.1 := rfl
      have h1 := RI_go h tk.2.1.2
      have ok := rR_ok (b := b) (xn := xn) n540 n8 (f := f) (m := 0) (d := d) (by decide) h1 (by rw [q1]; show 4 * _ + 0 ≤ f; omega) (fun z => by omega)
      have l2 : (8 :: P).length = P.length + 1 := rfl
      have c2 : cntO (8 :: P) + 1 = d := by show cntO P + 0 + 1 = d; omega
      refine ⟨fun z => by omega, fun _ => ?_, fun z => by omega, fun _ z => absurd c z⟩
      rw [hd9_3 h9 (by decide)]
      refine KC_of hn (mr_main hn n540 n8 di (f := f) (m := 0) (d := d) (s := rGo s (tok b n 200 s.2.2.2).2.2.1) (P := 8 :: P) (by decide) h1 (by rw [q1]; show 4 * _ + 0 ≤ f; omega) (fun z => by omega) c2 d9 (by show (8 :: P).length ≤ 3 * (d - 1) + 2; omega) (by show s.1 + (8 :: P).length + 0 ≤ 2 * s.2.2.1; omega) (RRs_bd hq (fun s' e' hq' => ?_)))
      rw [e'] at ok
      obtain ⟨g1', g2', g3', g4', g5', g6'⟩ := ok
      have g2' : (tok b n 200 s.2.2.2).2.2.1 + 1 ≤ s'.2.2.2 := g2'
      have g3' : s'.1 + 2 * s.2.2.1 + 1 ≤ s.1 + 2 * s'.2.2.1 := g3'
      have g5' : dpc s'.2.1 s'.1 = dpc s.2.1 s.1 + (1 : Nat) := g5'
      have r := RI_joint (Or.inl rfl) g1' (by omega) (by omega)
      have np := g1'.1
      have w3 : wdn 3 (8 :: P) s' = (8 :: P, s') := if_neg (fun z => absurd z.2 (by decide))
      rw [w3]
      refine KB_and ?_
      exact mr_main hn n540 n8 di (f := f) (m := 2) (d := d) (s := rAdd s' 8 0 0) (P := P) (by decide) r.1 (by show 4 * (n + 1 - s'.2.2.2) + 1 ≤ f; omega) (fun _ => by show 1 ≤ dpc (rAdd s' 8 0 0).2.1 (s'.1 + 1); rw [r.2, g5']; omega) cd d9 (by show P.length ≤ 3 * (d - 1) + 1; omega) (by show s'.1 + 1 + P.length + 1 ≤ 2 * s'.2.2.1; omega) h9 hq'
    · rw [if_neg c] at hq
      exact hq c
  | f + 1, 3, d, s, P, _, h, hf, _, cd, d9, pl, lp => by
    have hf : 4 * (n + 1 - s.2.2.2) + 2 ≤ f + 1 := hf
    have pl : P.length ≤ 3 * (d - 1) + 0 := pl
    have lp : s.1 + P.length + 0 ≤ 2 * s.2.2.1 := lp
    intro h10 hq
    rw [rR] at hq
    have ok := rR_ok (b := b) (xn := xn) n540 n8 (f := f) (m := 1) (d := d) (by decide) h (by show 4 * _ + 1 ≤ f; omega) (fun z => by omega)
    refine mr_main hn n540 n8 di (f := f) (m := 1) (d := d) (P := P) (by decide) h (by show 4 * _ + 1 ≤ f; omega) (fun z => by omega) cd d9 (by show P.length ≤ 3 * (d - 1) + 1; omega) (by show s.1 + P.length + 0 ≤ _; omega) (fun x t e => Or.inr (h10 x t e)) (RRs_bd hq (fun s' e' hq' n11 => ?_))
    rw [e'] at ok
    have k2 : s.2.2.2 + 1 ≤ s'.2.2.2 := ok.2.1
    have k3 : s'.1 + 2 * s.2.2.1 + 1 ≤ s.1 + 2 * s'.2.2.1 := ok.2.2.1
    have k1 := ok.1.1
    have k5 : dpc s'.2.1 s'.1 = dpc s.2.1 s.1 + (1 : Nat) := ok.2.2.2.2.1
    have d0 := h.2.2.2.2.1
    exact mr_main hn n540 n8 di (f := f) (m := 4) (d := d) (P := P) (by decide) ok.1 (by show 4 * _ + 2 ≤ f; omega) (fun _ => by omega) cd d9 (by show P.length ≤ 3 * (d - 1) + 0; omega) (by show s'.1 + P.length + 1 ≤ _; omega) h10 n11 hq'
  | f + 1, 4, d, s, P, _, h, hf, dd, cd, d9, pl, lp => by
    have hf : 4 * (n + 1 - s.2.2.2) + 2 ≤ f + 1 := hf
    have pl : P.length ≤ 3 * (d - 1) + 0 := pl
    have lp : s.1 + P.length + 1 ≤ 2 * s.2.2.1 := lp
    have dd := dd (Or.inr rfl)
    have tk := tok_ok (b := b) (m := 200) n540 (by omega) h.1
    intro h10 n11 hq
    rw [rR] at hq
    by_cases c : hWord (tok b n 200 s.2.2.2) = 10
    · rw [if_pos c] at hq
      have w := (hWord_sort (t := tok b n 200 s.2.2.2) (by omega)).1
      have p1 := tk.2.2 (by omega) (by omega)
      have q1 : (rGo s (tok b n 200 s.2.2.2).2.2.1).2.2.2 = (tok b n 200 s.2.2.2).2.2.1 := rfl
      have h1 := RI_go h tk.2.1.2
      have ok := rR_ok (b := b) (xn := xn) n540 n8 (f := f) (m := 1) (d := d) (by decide) h1 (by rw [q1]; show 4 * _ + 1 ≤ f; omega) (fun z => by omega)
      have l2 : (9 :: P).length = P.length + 1 := rfl
      have c2 : cntO (9 :: P) + 1 = d := by show cntO P + 0 + 1 = d; omega
      refine ⟨fun z => by omega, fun z => absurd z n11, fun _ => ?_, fun _ _ z => absurd c z⟩
      rw [hd10_1 h10]
      refine KC_of hn (mr_main hn n540 n8 di (f := f) (m := 1) (d := d) (s := rGo s (tok b n 200 s.2.2.2).2.2.1) (P := 9 :: P) (by decide) h1 (by rw [q1]; show 4 * _ + 1 ≤ f; omega) (fun z => by omega) c2 d9 (by show (9 :: P).length ≤ 3 * (d - 1) + 1; omega) (by show s.1 + (9 :: P).length + 0 ≤ 2 * s.2.2.1; omega) (fun x t e => by cases e; exact Or.inl rfl) (RRs_bd hq (fun s' e' hq' m11 => ?_)))
      rw [e'] at ok
      obtain ⟨g1', g2', g3', g4', g5', g6'⟩ := ok
      have g2' : (tok b n 200 s.2.2.2).2.2.1 + 1 ≤ s'.2.2.2 := g2'
      have g3' : s'.1 + 2 * s.2.2.1 + 1 ≤ s.1 + 2 * s'.2.2.1 := g3'
      have g5' : dpc s'.2.1 s'.1 = dpc s.2.1 s.1 + (1 : Nat) := g5'
      have r := RI_joint (Or.inr rfl) g1' (by omega) (by omega)
      have np := g1'.1
      refine KB_or ?_ m11
      exact mr_main hn n540 n8 di (f := f) (m := 4) (d := d) (s := rAdd s' 9 0 0) (P := P) (by decide) r.1 (by show 4 * (n + 1 - s'.2.2.2) + 2 ≤ f; omega) (fun _ => by show 1 ≤ dpc (rAdd s' 9 0 0).2.1 (s'.1 + 1); rw [r.2, g5']; omega) cd d9 (by show P.length ≤ 3 * (d - 1) + 0; omega) (by show s'.1 + 1 + P.length + 1 ≤ 2 * s'.2.2.1; omega) h10 m11 hq'
    · rw [if_neg c] at hq
      exact hq n11 c
  | f + 1, m + 5, d, s, P, hm, _, _, _, _, _, _, _ => by omega
end RU8
