/-! RULE: the reference's pile -/
def PLc : List Int → HI → Prop
  | [], _ => True
  | x :: t, h => h 112 t.length = x ∧ PLc t h
def pOk (P : List Int) : Prop := ∀ x ∈ P, x = 7 ∨ x = 8 ∨ x = 9 ∨ x = 10
def cntO : List Int → Nat
  | [] => 0
  | x :: t => cntO t + (if x = 7 ∨ x = 10 then 1 else 0)
def bnds (x : Int) : Int := if x = 7 then 3 else if x = 8 then 2 else 1
theorem bnds_rg (x : Int) : rg (bnds x) := by
  unfold bnds
  repeat' split
  all_goals decide
def wdn (least : Int) : List Int → RS → List Int × RS
  | [], s => ([], s)
  | x :: t, s => if x ≠ 10 ∧ least ≤ bnds x then wdn least t (rAdd s x 0 0) else (x :: t, s)
def RM (b : Int → Int) (n : Nat) (xn : Nat → List Int) (nx : Nat) (P : List Int) (s : RS) (g : HI) : Prop := ((g 97 33 = s.1 ∧ g 97 35 = s.2.2.1) ∧ (∀ k : Nat, k < s.1 → g 111 (3 * (k : Int)) = (s.2.1 k).1 ∧ g 111 (3 * (k : Int) + 1) = (s.2.1 k).2.1 ∧ g 111 (3 * (k : Int) + 2) = (s.2.1 k).2.2)) ∧ (g 97 34 = P.length ∧ PLc P g ∧ pOk P) ∧ (tpm b n 200 g ∧ rsI g ∧ g 99 1 = nx ∧ ∀ k : Nat, k < nx → g 101 (6 + k) = ew (xn k) ∧ okW (xn k)) ∧ TM (tok b n 200 s.2.2.2) g
def LU : List (Nat × Int) := LN ++ [(97, 33), (97, 34), (97, 35), (111, -1), (112, -1)]
def LUe : List (Nat × Int) := LU ++ [(97, 14), (97, 15)]
section RU5
variable {l : Launch} {D : Nat} {ζ : ZP} {h : HI} {Q : Int → HI → Prop} {QV : HI → Prop} {b : Int → Int} {n nx : Nat} {xn : Nat → List Int} {s : RS} {P : List Int}
theorem PLc_c : ∀ {P : List Int} {g g' : HI}, (∀ j : Int, 0 ≤ j → j < P.length → g' 112 j = g 112 j) → PLc P g → PLc P g'
  | [], _, _, _, _ => True.intro
  | x :: t, g, g', e, p => by
    have l1 : (x :: t).length = t.length + 1 := rfl
    exact ⟨by rw [e t.length (by omega) (by omega)]; exact p.1, PLc_c (fun j j0 j1 => e j j0 (by omega)) p.2⟩
theorem PLc_at : ∀ {P : List Int} {g : HI} {j : Nat}, PLc P g → j < P.length → g 112 j ∈ P
  | x :: t, g, j, p, hj => by
    have l1 : (x :: t).length = t.length + 1 := rfl
    by_cases z : j = t.length
    · rw [z, p.1]; exact List.mem_cons_self
    · exact List.mem_cons_of_mem _ (PLc_at p.2 (by omega))
/-- tokens move, the rest stands -/
theorem RM_go {L : List (Nat × Int)} {g : HI} {p : Nat} (hx : RM b n xn nx P s h) (f : FL L h g) (c : (!inL L 97 33 && !inL L 97 34 && !inL L 97 35 && !inC L 111 && !inC L 112 && !inL L 97 3 && !inL L 97 5 && !inC L 98 && !inC L 102 && !inC L 99 && !inC L 101) = true) (t : TM (tok b n 200 p) g) : RM b n xn nx P (rGo s p) g := by
  simp only [Bool.and_eq_true, Bool.not_eq_true'] at c
  obtain ⟨⟨⟨⟨⟨⟨⟨⟨⟨⟨c1, c2⟩, c3⟩, c4⟩, c5⟩, c6⟩, c7⟩, c8⟩, c9⟩, c10⟩, c11⟩ := c
  refine ⟨⟨⟨?_, ?_⟩, ?_⟩, ⟨?_, ?_, hx.2.1.2.2⟩, ⟨?_, ?_, ?_⟩, t⟩
  · rw [f.at 97 33 c1]; exact hx.1.1.1
  · rw [f.at 97 35 c3]; exact hx.1.1.2
  · rw [f.c 111 c4]; exact hx.1.2
  · rw [f.at 97 34 c2]; exact hx.2.1.1
  · exact PLc_c (fun j _ _ => by rw [f.c 112 c5]) hx.2.1.2.1
  · unfold tpm; rw [f.at 97 3 c6, f.at 97 5 c7, f.c 98 c8]; exact hx.2.2.1.1
  · unfold rsI; rw [f.c 102 c9]; exact hx.2.2.1.2.1
  · rw [f.c 99 c10, f.c 101 c11]; exact hx.2.2.1.2.2
/-- a push -/
theorem RM_push (hx : RM b n xn nx P s h) {x : Int} (ox : x = 7 ∨ x = 8 ∨ x = 9 ∨ x = 10) : RM b n xn nx (x :: P) s (hu (hu h 112 P.length x) 97 34 (P.length + 1)) := by
  refine ⟨⟨⟨?_, ?_⟩, fun k hk => ?_⟩, ⟨?_, ⟨?_, ?_⟩, ?_⟩, ⟨⟨⟨?_, ?_⟩, ?_⟩, fun k hk => ?_, ?_, fun k hk => ?_⟩, ?_⟩
  · rw [hu_j _ _ _ (by decide), hu_c _ _ _ (by decide)]; exact hx.1.1.1
  · rw [hu_j _ _ _ (by decide), hu_c _ _ _ (by decide)]; exact hx.1.1.2
  · rw [hu_c _ _ _ (by decide), hu_c _ _ _ (by decide)]; exact hx.1.2 k hk
  · rw [hu_s]; show _ = ((P.length + 1 : Nat) : Int); omega
  · rw [hu_c _ _ _ (by decide), hu_s]
  · exact PLc_c (fun j j0 j1 => by rw [hu_c _ _ _ (by decide), hu_j _ _ _ (by omega)]) hx.2.1.2.1
  · intro y hy
    rcases List.mem_cons.mp hy with z | z
    · rw [z]; exact ox
    · exact hx.2.1.2.2 y z
  · rw [hu_j _ _ _ (by decide), hu_c _ _ _ (by decide)]; exact hx.2.2.1.1.1.1
  · rw [hu_j _ _ _ (by decide), hu_c _ _ _ (by decide)]; exact hx.2.2.1.1.1.2
  · rw [hu_c _ _ _ (by decide), hu_c _ _ _ (by decide)]; exact hx.2.2.1.1.2
  · rw [hu_c _ _ _ (by decide), hu_c _ _ _ (by decide)]; exact hx.2.2.1.2.1 k hk
  · rw [hu_c _ _ _ (by decide), hu_c _ _ _ (by decide)]; exact hx.2.2.1.2.2.1
  · rw [hu_c _ _ _ (by decide), hu_c _ _ _ (by decide)]; exact hx.2.2.1.2.2.2 k hk
  · unfold TM
    rw [hu_j _ _ _ (by decide), hu_j _ _ _ (by decide), hu_j _ _ _ (by decide), hu_j _ _ _ (by decide), hu_j _ _ _ (by decide), hu_c _ _ _ (by decide)]
    exact hx.2.2.2
/-- a pop -/
theorem RM_pop {x : Int} (hx : RM b n xn nx (x :: P) s h) : RM b n xn nx P s (hu h 97 34 P.length) := by
  refine ⟨⟨⟨?_, ?_⟩, fun k hk => ?_⟩, ⟨?_, ?_, ?_⟩, ⟨⟨⟨?_, ?_⟩, ?_⟩, fun k hk => ?_, ?_, fun k hk => ?_⟩, ?_⟩
  · rw [hu_j _ _ _ (by decide)]; exact hx.1.1.1
  · rw [hu_j _ _ _ (by decide)]; exact hx.1.1.2
  · rw [hu_c _ _ _ (by decide)]; exact hx.1.2 k hk
  · rw [hu_s]
  · exact PLc_c (fun j j0 j1 => by rw [hu_c _ _ _ (by decide)]) hx.2.1.2.1.2
  · intro y hy; exact hx.2.1.2.2 y (List.mem_cons_of_mem _ hy)
  · rw [hu_j _ _ _ (by decide)]; exact hx.2.2.1.1.1.1
  · rw [hu_j _ _ _ (by decide)]; exact hx.2.2.1.1.1.2
  · rw [hu_c _ _ _ (by decide)]; exact hx.2.2.1.1.2
  · rw [hu_c _ _ _ (by decide)]; exact hx.2.2.1.2.1 k hk
  · rw [hu_c _ _ _ (by decide)]; exact hx.2.2.1.2.2.1
  · rw [hu_c _ _ _ (by decide)]; exact hx.2.2.1.2.2.2 k hk
  · unfold TM
    rw [hu_j _ _ _ (by decide), hu_j _ _ _ (by decide), hu_j _ _ _ (by decide), hu_j _ _ _ (by decide), hu_j _ _ _ (by decide)]
    exact hx.2.2.2
/-- a writing -/
theorem mr_write (hn : 144 ≤ ζ.2.2.2.2) (hx : RM b n xn nx P s h) (l63 : s.1 < 64) {w x y : Int} (hq : ∀ g, FL LU h g → RM b n xn nx P (rAdd s w x y) g → QV g) : RtV l (D + 1) mX12_write (zz ζ) [aP 97, aI w, aI x, aI y] h QV := by
  have e := hx.1.1.1
  refine e_X12_write hn ⟨by rw [e]; omega, by rw [e]; omega, by rw [e]; omega, ?_⟩
  rw [e]
  have F : FL [(111, -1), (97, 33)] h (hu (hu (hu (hu h 111 (3 * s.1) w) 111 (3 * s.1 + 1) x) 111 (3 * s.1 + 2) y) 97 33 (s.1 + 1)) := (((FL.refl.ua (by decide)).ua (by decide)).ua (by decide)).u (by decide)
  refine hq _ (F.mono (by decide)) ⟨⟨⟨?_, ?_⟩, fun k hk => ?_⟩, ⟨?_, ?_, hx.2.1.2.2⟩, ⟨hx.2.2.1.1.fl F (by decide), ?_, ?_⟩, ?_⟩
  · rw [hu_s]; show _ = ((s.1 + 1 : Nat) : Int); omega
  · rw [F.at 97 35 (by decide)]; exact hx.1.1.2
  · have hk : k < s.1 + 1 := hk
    rw [hu_c _ _ _ (by decide)]
    by_cases z : k = s.1
    · rw [z, add_at]
      refine ⟨?_, ?_, ?_⟩
      · rw [hu_j _ _ _ (by omega), hu_j _ _ _ (by omega), hu_s]
      · rw [hu_j _ _ _ (by omega), hu_s]
      · rw [hu_s]
    · rw [add_ne (by omega)]
      have o := hx.1.2 k (by omega)
      refine ⟨?_, ?_, ?_⟩
      · rw [hu_j _ _ _ (by omega), hu_j _ _ _ (by omega), hu_j _ _ _ (by omega)]; exact o.1
      · rw [hu_j _ _ _ (by omega), hu_j _ _ _ (by omega), hu_j _ _ _ (by omega)]; exact o.2.1
      · rw [hu_j _ _ _ (by omega), hu_j _ _ _ (by omega), hu_j _ _ _ (by omega)]; exact o.2.2
  · rw [F.at 97 34 (by decide)]; exact hx.2.1.1
  · exact PLc_c (fun j _ _ => by rw [F.c 112 (by decide)]) hx.2.1.2.1
  · exact rs_fl hx.2.2.1.2.1 F (by decide)
  · rw [F.c 99 (by decide), F.c 101 (by decide)]; exact hx.2.2.1.2.2
  · unfold TM
    rw [F.at 97 10 (by decide), F.at 97 11 (by decide), F.at 97 4 (by decide), F.at 97 13 (by decide), F.at 97 16 (by decide)]
    exact hx.2.2.2
theorem mr_down (hn : 144 ≤ ζ.2.2.2.2) {least : Int} (rl' : rg least) : ∀ {P : List Int} {s : RS} {h : HI}, RM b n xn nx P s h → P.length ≤ 30 → s.1 + P.length ≤ 64 → (∀ g, FL LU h g → RM b n xn nx (wdn least P s).1 (wdn least P s).2 g → QV g) → G l (D + 2) 0 0 mX12_writeDown (zz ζ) 0 [aP 97, aI least] [] h (qV (zz ζ) QV)
  | [], s, h, hx, _, _, hq => by
    have e := hx.2.1.1
    have e0 : h 97 34 = 0 := e
    exact b_X12_writeDown_0 hn ⟨by rw [e0]; decide, iteP (by rw [e0]; decide) (hq h FL.refl hx)⟩
  | x :: t, s, h, hx, p30, l64, hq => by
    have l1 : (x :: t).length = t.length + 1 := rfl
    have e : h 97 34 = ((t.length + 1 : Nat) : Int) := hx.2.1.1
    have e' : h 97 34 - 1 = t.length := by rw [e]; omega
    have ex : h 112 t.length = x := hx.2.1.2.1.1
    have ox := hx.2.1.2.2 x List.mem_cons_self
    refine b_X12_writeDown_0 hn ⟨by rw [e]; constructor <;> omega, iteN (by rw [e]; omega) ?_⟩
    rw [e', ex]
    refine ⟨by omega, by constructor <;> omega, ?_⟩
    rw [wdn] at hq
    have bb : ∀ {Q' : Int → HI → Prop}, Q' (bnds x) h → RtI l (D + 1) mX12_binds (zz ζ) [aI x] h Q' := by
      intro Q' q
      unfold bnds at q
      refine e_X12_binds hn ⟨by constructor <;> omega, ?_⟩
      by_cases c7 : x = 7
      · rw [if_pos c7] at q; exact iteN (fun z => z c7) q
      · rw [if_neg c7] at q
        refine iteP c7 ?_
        by_cases c8 : x = 8
        · rw [if_pos c8] at q; exact iteN (fun z => z c8) q
        · rw [if_neg c8] at q; exact iteP c8 q
    by_cases c : x = 10
    · rw [if_neg (fun z => z.1 c)] at hq
      exact iteP c (hq h FL.refl hx)
    · refine iteN c (bb ⟨bnds_rg x, rl', ?_⟩)
      by_cases c2 : bnds x < least
      · rw [if_neg (by omega)] at hq
        exact iteP c2 (hq h FL.refl hx)
      · rw [if_pos ⟨c, by omega⟩] at hq
        refine iteN c2 ⟨by rw [e']; omega, ?_⟩
        rw [e', ex]
        have F : FL LU h (hu h 97 34 t.length) := FL.refl.u (by decide)
        refine mr_write hn (RM_pop hx) (by omega) (fun g1 f1 x1 => ?_)
        exact mr_down hn rl' (P := t) (s := rAdd s x 0 0) x1 (by omega) (by show s.1 + 1 + t.length ≤ 64; omega) (fun g f y => hq g ((F.trans f1).trans f) y)
theorem mr_Down (hn : 144 ≤ ζ.2.2.2.2) {least : Int} (rl' : rg least) (hx : RM b n xn nx P s h) (p30 : P.length ≤ 30) (l64 : s.1 + P.length ≤ 64) (hq : ∀ g, FL LU h g → RM b n xn nx (wdn least P s).1 (wdn least P s).2 g → QV g) : RtV l (D + 2) mX12_writeDown (zz ζ) [aP 97, aI least] h QV := e_X12_writeDown hn (mr_down hn rl' hx p30 l64 hq)
theorem PLc_cnt : ∀ {P : List Int} {g : HI} {i : Nat} {x : Int}, PLc P g → i < P.length → x = g 112 i → ∃ A B : List Int, P = A ++ x :: B ∧ B.length = i
  | y :: t, g, i, x, p, hi, e => by
    have l1 : (y :: t).length = t.length + 1 := rfl
    by_cases z : i = t.length
    · exact ⟨[], t, by rw [e, z, p.1]; rfl, z.symm⟩
    · obtain ⟨A, B, h1, h2⟩ := PLc_cnt p.2 (by omega : i < t.length) e
      exact ⟨y :: A, B, by rw [h1]; rfl, h2⟩
end RU5
