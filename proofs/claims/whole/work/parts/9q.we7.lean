/-! WELDS: the call, by the draft -/
section WE7
variable {l : Launch} {D : Nat} {ζ : ZP} {h : HI} {Q : Int → HI → Prop} {QV : HI → Prop} {b : Int → Int} {n k p : Nat}
def LC75 : List (Nat × Int) := [(1, 2), (1, 8), (1, 9), (75, 0), (75, 4)] ++ LR75
theorem c75_read (zk : ζok ζ) (n540 : n ≤ 540) (e1 : h 1 1 = n) (hb : ∀ j : Nat, j < 540 → h 2 j = b j ∧ -128 ≤ b j ∧ b j ≤ 127) (hq : match wAll b n 540 ws0 with
    | .inl e => ∀ g, FL (LC75 ++ LE75) h g → g 1 8 = e.1 → g 1 9 = e.2 → Q 0 g
    | .inr s => ∀ g, FL (LC75 ++ LE75) h g → g 1 8 = 0 → WX75 s.1 b n s g → Q 1 g) : RtI l (D + 13) mX10_readFrom (zz ζ) [aP 75, aP 1] h Q := by
  have hn := ζok_n zk
  refine e75_readFrom hn (e_X7_begin hn ?_)
  have F : FL LC75 h (hu (hu (hu (hu (hu (hu h 75 0 0) 75 4 0) 1 2 400) 1 3 0) 1 8 0) 1 9 0) := (((((FL.refl.u (by decide)).u (by decide)).u (by decide)).u (by decide)).u (by decide)).u (by decide)
  have v : ((hu (hu (hu (hu (hu (hu h 75 0 0) 75 4 0) 1 2 400) 1 3 0) 1 8 0) 1 9 0) 1 2 = 400 ∧ (hu (hu (hu (hu (hu (hu h 75 0 0) 75 4 0) 1 2 400) 1 3 0) 1 8 0) 1 9 0) 1 3 = 0 ∧ (hu (hu (hu (hu (hu (hu h 75 0 0) 75 4 0) 1 2 400) 1 3 0) 1 8 0) 1 9 0) 1 8 = 0) ∧ (hu (hu (hu (hu (hu (hu h 75 0 0) 75 4 0) 1 2 400) 1 3 0) 1 8 0) 1 9 0) 75 0 = 0 ∧ (hu (hu (hu (hu (hu (hu h 75 0 0) 75 4 0) 1 2 400) 1 3 0) 1 8 0) 1 9 0) 75 4 = 0 := by simp [hu]
  generalize hu (hu (hu (hu (hu (hu h 75 0 0) 75 4 0) 1 2 400) 1 3 0) 1 8 0) 1 9 0 = g at F v ⊢
  have tp : tpc b n 400 g := ⟨⟨by rw [F.at 1 1 (by decide)]; exact e1, v.1.1⟩, by rw [F.c 2 (by decide)]; exact hb⟩
  refine s_step (p := 0) zk n540 (by omega) (by omega) tp v.1.2.1 (fun g1 f1 t1 => ?_)
  have F1 : FL (LC75 ++ LE75) h g1 := (F.mono (by decide)).trans (f1.mono (by decide))
  have z8 : g1 1 8 = 0 := by rw [f1.at 1 8 (by decide)]; exact v.1.2.2
  refine c75_all zk n540 (f := 540) (s := ws0) (b := b) ws0_ok (by show n + 1 ≤ 0 + 2 * 540; omega) (by omega) ⟨by rw [f1.c 75 (by decide)]; exact v.2.1, fun j hj => by omega, ⟨by rw [f1.c 75 (by decide)]; exact v.2.2, fun j hj => by have : j < 0 := hj; omega⟩, tp.fl f1 (by decide), t1⟩ ?_
  revert hq
  cases wAll b n 540 ws0 with
  | inl e => exact fun hq g' f' a1 a2 => hq g' (F1.trans (f'.mono (by decide))) a1 a2
  | inr s => exact fun hq g' f' x => hq g' (F1.trans (f'.mono (by decide))) (by rw [f'.at 1 8 (by decide)]; exact z8) x
theorem op75_welds (i : Inv ζ h) (hz : ζ.1 = 83 ∧ ζ.2.1 = 75) : OpZ l (D + 60) 0 0 ζ mX11_welds mX12_welds [] h := by
  have zk := i.1.1
  have hn := ζok_n zk
  have tp : tpI h := i.1.2 0
  have rs : rsI h := i.1.2 10
  have we : weI ζ.1 h := i.1.2 8
  rw [hz.1] at we
  obtain ⟨n, en⟩ := Int.eq_ofNat_of_zero_le tp.1
  have n540 : n ≤ 540 := by have := tp.2.1; omega
  have hb : ∀ j : Nat, j < 540 → h 2 j = h 2 j ∧ -128 ≤ h 2 j ∧ h 2 j ≤ 127 := fun j hj => ⟨rfl, (tp.2.2.2 j (by omega) (by omega)).2⟩
  have ok := wAll_ok (b := h 2) (f := 540) n540 (s := ws0) ws0_ok (by show n + 1 ≤ 0 + 2 * 540; omega)
  refine e_X11_welds hn (by rw [hz.2]; decide) ?_
  rw [hz.2]
  refine c75_read (D := D + 46) (b := h 2) zk n540 en hb ?_
  have mh : ∀ (ζ1 : ZP) (hc : HI) (Q' : Int → HI → Prop), 144 ≤ ζ1.2.2.2.2 → (hc 97 = h 97) → (hc 98 = h 98) → (hc 102 = h 102) → (match wAll (h 2) n 540 ws0 with
    | .inl e => ∀ g, FL LM0 hc g → KP hc g → g 97 2 = 0 → g 97 14 = e.1 → Q' ((-1) - e.2) g
    | .inr s => ∀ g, FL LM0 hc g → KP hc g → g 97 2 = 0 → g 97 14 = 0 → WM (h 2) n s g → G l (D + 60) 0 0 mX12_welds (zz ζ1) 82 [aP 97, aI 0] [] (hu (hu g 133 0 s.1) 134 0 s.2.2.2.2.2.1.1) (qI (zz ζ1) Q')) → RtI l (D + 60) mX12_welds (zz ζ1) [aP 97] hc Q' := by
    intro ζ1 hc Q' hn1 a1 a2 a3 hq
    exact mw_read (D := D + 55) hn1 n540 (by rw [a1, tp.2.2.1, en]) (fun j hj => ⟨by rw [a2]; exact (tp.2.2.2 j (by omega) (by omega)).1, (hb j hj).2⟩) (by unfold rsI; rw [a3]; exact rs) hq
  cases e : wAll (h 2) n 540 ws0 with
  | inl er' =>
    rw [e] at ok mh
    intro g1 f1 a1 a2
    refine ⟨by decide, iteN (by decide) ?_⟩
    have F : FL ((1, 1) :: (LC75 ++ LE75)) h (hu g1 1 1 0) := (f1.mono (by decide)).u (by decide)
    refine ⟨ζ, _, rfl, rfl, F.c _ (by decide), F.c _ (by decide), mh ζ _ _ hn (F.c 97 (by decide)) (F.c 98 (by decide)) (F.c 102 (by decide)) (fun g2 f2 kp2 z2 a3 => ?_)⟩
    rw [hu_j _ _ _ (by decide), a2]
    have F2 : FL ((1, 1) :: (LC75 ++ LE75) ++ LM0) h g2 := (F.mono (by decide +kernel)).trans (f2.mono (by decide +kernel))
    have c1 : g2 1 = hu g1 1 1 0 1 := f2.c 1 (by decide)
    refine op_fin1 i rfl (by have := ok.2; constructor <;> omega) F2 [0, 1, 8] (by decide +kernel) ?_
    intro m hm
    have : m = 0 ∨ m = 1 ∨ m = 8 := by simpa using hm
    rcases this with z | z | z <;> subst z
    · show tpI g2
      refine ⟨?_, ?_, ?_, ?_⟩
      · rw [c1, hu_s]; decide
      · rw [c1, hu_s]; decide
      · rw [c1, hu_s]; exact z2
      · rw [F2.c 98 (by decide +kernel), F2.c 2 (by decide +kernel)]; exact tp.2.2.2
    · show ftI g2
      unfold ftI
      rw [a3, c1, hu_j _ _ _ (by decide), a1]
      exact ⟨rfl, by have := ok.1; omega, ok.1.2⟩
    · show weI ζ.1 g2
      rw [hz.1]
      have kp : KP h g2 := (KP.fl F (by decide)).trans kp2
      refine weI_keep we (fun c hc => F2.c (83 + c) ?_) kp (F2.at 133 0 (by decide +kernel)) (F2.at 134 0 (by decide +kernel))
      have : ∀ k : Nat, k < 7 → inC ((1, 1) :: (LC75 ++ LE75) ++ LM0) (83 + k) = false := by decide +kernel
      exact this c (by omega)
  | inr s =>
    rw [e] at ok mh
    obtain ⟨k, nm, A, B, F', S, p⟩ := s
    intro g1 f1 a1 x1
    refine ⟨by decide, iteP (by decide) ?_⟩
    have F : FL ((1, 1) :: (LC75 ++ LE75)) h (hu g1 1 1 0) := (f1.mono (by decide)).u (by decide)
    have ho : WO n (k, nm, A, B, F', S, p) := ok
    have e0 : hu g1 1 1 0 75 0 = k := by rw [hu_c _ _ _ (by decide)]; exact x1.1
    rw [e0]
    have n1 : 144 ≤ (((75, 83, ζ.2.2) : ZP)).2.2.2.2 := hn
    rw [hz.1]
    refine ⟨(75, 83, ζ.2.2), _, rfl, rfl, F.c _ (by decide), F.c _ (by decide), mh _ _ _ n1 (F.c 97 (by decide)) (F.c 98 (by decide)) (F.c 102 (by decide)) (fun g2 f2 kp2 z2 a3 x2 => ?_)⟩
    have k12 := ho.2.1
    have n64 := ho.2.2.2.1
    refine mw_copy (D := D + 59) n1 (k := k) (nn := S.1) k12 n64 (by rw [hu_c _ _ _ (by decide), hu_s]) (hu_s _ _ _ _) (fun g3 f3 s3 n3 => ?_)
    have F2 : FL ((1, 1) :: (LC75 ++ LE75) ++ LM0 ++ [(133, -1), (134, -1)]) h (hu (hu g2 133 0 k) 134 0 S.1) := (((F.mono (by decide +kernel)).trans (f2.mono (by decide +kernel))).ua (by decide +kernel)).ua (by decide +kernel)
    have F3 : FL ((1, 1) :: (LC75 ++ LE75) ++ LM0 ++ [(133, -1), (134, -1)]) h g3 := F2.trans (f3.mono (by decide +kernel))
    have H : FL (LM0 ++ [(133, -1), (134, -1)]) (hu g1 1 1 0) g3 := (((f2.mono (by decide +kernel)).ua (by decide +kernel)).ua (by decide +kernel)).trans (f3.mono (by decide +kernel))
    have c1 : g3 1 = hu g1 1 1 0 1 := H.c 1 (by decide +kernel)
    have cw : ∀ c, c ≤ 6 → g3 (75 + c) = g1 (75 + c) := by
      intro c hc
      have : ∀ k : Nat, k < 7 → inC (LM0 ++ [(133, -1), (134, -1)]) (75 + k) = false := by decide +kernel
      rw [H.c (75 + c) (this c (by omega)), hu_c _ _ _ (by omega)]
    have z133 : g3 133 0 = k := by rw [f3.c 133 (by decide), hu_c _ _ _ (by decide), hu_s]
    have z134 : g3 134 0 = S.1 := by rw [f3.c 134 (by decide), hu_s]
    have u : ∀ c, c < 133 → hu (hu g2 133 0 k) 134 0 S.1 c = g2 c := by
      intro c hc; rw [hu_c _ _ _ (by omega), hu_c _ _ _ (by omega)]
    have wn : weI 75 g3 := by
      have w0 : g3 75 = g1 75 := cw 0 (by omega)
      have w1 : g3 76 = g1 76 := cw 1 (by omega)
      have w2 : g3 77 = g1 77 := cw 2 (by omega)
      have w3 : g3 78 = g1 78 := cw 3 (by omega)
      have w4 : g3 79 = g1 79 := cw 4 (by omega)
      have w5 : g3 80 = g1 80 := cw 5 (by omega)
      have w6 : g3 81 = g1 81 := cw 6 (by omega)
      have x10 : g1 75 0 = k := x1.1
      have x14 : g1 75 4 = S.1 := x1.2.2.1.1
      show (0 ≤ g3 75 0 ∧ g3 75 0 ≤ 12 ∧ g3 133 0 = g3 75 0) ∧ (∀ k : Int, 0 ≤ k → k < g3 75 0 → (g3 127 k = g3 76 k ∧ 0 ≤ g3 76 k ∧ g3 76 k < 120) ∧ (g3 128 k = g3 77 k ∧ 0 ≤ g3 77 k ∧ g3 77 k < 120) ∧ (g3 129 k = g3 78 k ∧ 0 ≤ g3 78 k ∧ g3 78 k < 4096)) ∧ (0 ≤ g3 75 4 ∧ g3 75 4 ≤ 64 ∧ g3 134 0 = g3 75 4) ∧ ∀ n : Int, 0 ≤ n → n < g3 75 4 → (g3 130 n = g3 79 n ∧ 0 ≤ g3 79 n ∧ g3 79 n < g3 75 0) ∧ (g3 131 n = g3 80 n ∧ 0 ≤ g3 80 n ∧ g3 80 n < 120) ∧ (g3 132 n = g3 81 n ∧ 0 ≤ g3 81 n ∧ g3 81 n < 120)
      rw [w0, w1, w2, w3, w4, w5, w6, x10, x14, z133, z134]
      refine ⟨⟨by omega, by omega, rfl⟩, fun c c0 c1 => ?_, ⟨by omega, by omega, rfl⟩, fun c c0 c1 => ?_⟩
      · obtain ⟨j, rfl⟩ := Int.eq_ofNat_of_zero_le c0
        have q := s3 j c0 c1
        have xx := x1.2.1 j (by omega)
        have mm := x2.2.1 j (by omega)
        have bd := ho.2.2.1 j (by omega)
        rw [q.1, q.2.1, q.2.2, u 127 (by decide), u 128 (by decide), u 129 (by decide), mm.2.1, mm.2.2.1, mm.2.2.2, xx.2.1, xx.2.2.1, xx.2.2.2]
        exact ⟨⟨rfl, bd.2.1⟩, ⟨rfl, bd.2.2.1⟩, ⟨rfl, bd.2.2.2⟩⟩
      · obtain ⟨j, rfl⟩ := Int.eq_ofNat_of_zero_le c0
        have q := n3 j c0 c1
        have xx := x1.2.2.1.2 j (by omega)
        have mm := x2.2.2.1.2 j (by omega)
        have bd := ho.2.2.2.2.2 j (by omega)
        rw [q.1, q.2.1, q.2.2, u 130 (by decide), u 131 (by decide), u 132 (by decide), mm.1, mm.2.1, mm.2.2, xx.1, xx.2.1, xx.2.2]
        exact ⟨⟨rfl, bd.1⟩, ⟨rfl, bd.2.1⟩, ⟨rfl, bd.2.2⟩⟩
    have rk : rg (k : Int) := by constructor <;> omega
    refine ⟨rk, rk, rfl, F3.c _ (by decide +kernel), F3.c _ (by decide +kernel), ⟨⟨Or.inl ⟨rfl, rfl⟩, zk.2⟩, fun m => ?_⟩, ?_⟩
    · have old := i.1.upd (h' := g3) F3 [0, 1, 8] (by decide +kernel)
      by_cases m0 : m = 0
      · subst m0
        show tpI g3
        refine ⟨?_, ?_, ?_, ?_⟩
        · rw [c1, hu_s]; decide
        · rw [c1, hu_s]; decide
        · rw [c1, hu_s, f3.c 97 (by decide), u 97 (by decide)]; exact z2
        · rw [F3.c 98 (by decide +kernel), F3.c 2 (by decide +kernel)]; exact tp.2.2.2
      · by_cases m1 : m = 1
        · subst m1
          show ftI g3
          unfold ftI
          rw [f3.c 97 (by decide), u 97 (by decide), a3, c1, hu_j _ _ _ (by decide), a1]
          decide
        · by_cases m8 : m = 8
          · subst m8; exact wn
          · by_cases m13 : m < 13
            · have := (IP.fl (ζ := ζ) zk F3 m (by
                have : ∀ n : Nat, n < 13 → n ≠ 0 → n ≠ 1 → n ≠ 8 → okL n ((1, 1) :: (LC75 ++ LE75) ++ LM0 ++ [(133, -1), (134, -1)]) = true := by decide +kernel
                exact this m m13 m0 m1 m8) (i.1.2 m))
              have key : ∀ m, m ≠ 8 → IP (75, 83, ζ.2.2) g3 m = IP ζ g3 m := by
                intro m hm
                match m with
                | 0 | 1 | 2 | 3 | 4 | 5 | 6 | 7 | 9 | 10 | 11 | 12 => rfl
                | 8 => exact absurd rfl hm
                | _ + 13 => rfl
              rw [key m m8]; exact this
            · match m with
              | 0 | 1 | 2 | 3 | 4 | 5 | 6 | 7 | 8 | 9 | 10 | 11 | 12 => omega
              | _ + 13 => exact True.intro
    · exact i.2.fl F3 (by decide +kernel)
end WE7
section WE7
variable {l : Launch} {D : Nat} {ζ : ZP} {h : HI} {Q : Int → HI → Prop} {QV : HI → Prop} {b : Int → Int} {n k p : Nat}
def LC83 : List (Nat × Int) := [(1, 2), (1, 8), (1, 9), (83, 0), (83, 4)] ++ LR83
theorem c83_read (zk : ζok ζ) (n540 : n ≤ 540) (e1 : h 1 1 = n) (hb : ∀ j : Nat, j < 540 → h 2 j = b j ∧ -128 ≤ b j ∧ b j ≤ 127) (hq : match wAll b n 540 ws0 with
    | .inl e => ∀ g, FL (LC83 ++ LE83) h g → g 1 8 = e.1 → g 1 9 = e.2 → Q 0 g
    | .inr s => ∀ g, FL (LC83 ++ LE83) h g → g 1 8 = 0 → WX83 s.1 b n s g → Q 1 g) : RtI l (D + 13) mX10_readFrom (zz ζ) [aP 83, aP 1] h Q := by
  have hn := ζok_n zk
  refine e83_readFrom hn (e_X7_begin hn ?_)
  have F : FL LC83 h (hu (hu (hu (hu (hu (hu h 83 0 0) 83 4 0) 1 2 400) 1 3 0) 1 8 0) 1 9 0) := (((((FL.refl.u (by decide)).u (by decide)).u (by decide)).u (by decide)).u (by decide)).u (by decide)
  have v : ((hu (hu (hu (hu (hu (hu h 83 0 0) 83 4 0) 1 2 400) 1 3 0) 1 8 0) 1 9 0) 1 2 = 400 ∧ (hu (hu (hu (hu (hu (hu h 83 0 0) 83 4 0) 1 2 400) 1 3 0) 1 8 0) 1 9 0) 1 3 = 0 ∧ (hu (hu (hu (hu (hu (hu h 83 0 0) 83 4 0) 1 2 400) 1 3 0) 1 8 0) 1 9 0) 1 8 = 0) ∧ (hu (hu (hu (hu (hu (hu h 83 0 0) 83 4 0) 1 2 400) 1 3 0) 1 8 0) 1 9 0) 83 0 = 0 ∧ (hu (hu (hu (hu (hu (hu h 83 0 0) 83 4 0) 1 2 400) 1 3 0) 1 8 0) 1 9 0) 83 4 = 0 := by simp [hu]
  generalize hu (hu (hu (hu (hu (hu h 83 0 0) 83 4 0) 1 2 400) 1 3 0) 1 8 0) 1 9 0 = g at F v ⊢
  have tp : tpc b n 400 g := ⟨⟨by rw [F.at 1 1 (by decide)]; exact e1, v.1.1⟩, by rw [F.c 2 (by decide)]; exact hb⟩
  refine s_step (p := 0) zk n540 (by omega) (by omega) tp v.1.2.1 (fun g1 f1 t1 => ?_)
  have F1 : FL (LC83 ++ LE83) h g1 := (F.mono (by decide)).trans (f1.mono (by decide))
  have z8 : g1 1 8 = 0 := by rw [f1.at 1 8 (by decide)]; exact v.1.2.2
  refine c83_all zk n540 (f := 540) (s := ws0) (b := b) ws0_ok (by show n + 1 ≤ 0 + 2 * 540; omega) (by omega) ⟨by rw [f1.c 83 (by decide)]; exact v.2.1, fun j hj => by omega, ⟨by rw [f1.c 83 (by decide)]; exact v.2.2, fun j hj => by have : j < 0 := hj; omega⟩, tp.fl f1 (by decide), t1⟩ ?_
  revert hq
  cases wAll b n 540 ws0 with
  | inl e => exact fun hq g' f' a1 a2 => hq g' (F1.trans (f'.mono (by decide))) a1 a2
  | inr s => exact fun hq g' f' x => hq g' (F1.trans (f'.mono (by decide))) (by rw [f'.at 1 8 (by decide)]; exact z8) x
theorem op83_welds (i : Inv ζ h) (hz : ζ.1 = 75 ∧ ζ.2.1 = 83) : OpZ l (D + 60) 0 0 ζ mX11_welds mX12_welds [] h := by
  have zk := i.1.1
  have hn := ζok_n zk
  have tp : tpI h := i.1.2 0
  have rs : rsI h := i.1.2 10
  have we : weI ζ.1 h := i.1.2 8
  rw [hz.1] at we
  obtain ⟨n, en⟩ := Int.eq_ofNat_of_zero_le tp.1
  have n540 : n ≤ 540 := by have := tp.2.1; omega
  have hb : ∀ j : Nat, j < 540 → h 2 j = h 2 j ∧ -128 ≤ h 2 j ∧ h 2 j ≤ 127 := fun j hj => ⟨rfl, (tp.2.2.2 j (by omega) (by omega)).2⟩
  have ok := wAll_ok (b := h 2) (f := 540) n540 (s := ws0) ws0_ok (by show n + 1 ≤ 0 + 2 * 540; omega)
  refine e_X11_welds hn (by rw [hz.2]; decide) ?_
  rw [hz.2]
  refine c83_read (D := D + 46) (b := h 2) zk n540 en hb ?_
  have mh : ∀ (ζ1 : ZP) (hc : HI) (Q' : Int → HI → Prop), 144 ≤ ζ1.2.2.2.2 → (hc 97 = h 97) → (hc 98 = h 98) → (hc 102 = h 102) → (match wAll (h 2) n 540 ws0 with
    | .inl e => ∀ g, FL LM0 hc g → KP hc g → g 97 2 = 0 → g 97 14 = e.1 → Q' ((-1) - e.2) g
    | .inr s => ∀ g, FL LM0 hc g → KP hc g → g 97 2 = 0 → g 97 14 = 0 → WM (h 2) n s g → G l (D + 60) 0 0 mX12_welds (zz ζ1) 82 [aP 97, aI 0] [] (hu (hu g 133 0 s.1) 134 0 s.2.2.2.2.2.1.1) (qI (zz ζ1) Q')) → RtI l (D + 60) mX12_welds (zz ζ1) [aP 97] hc Q' := by
    intro ζ1 hc Q' hn1 a1 a2 a3 hq
    exact mw_read (D := D + 55) hn1 n540 (by rw [a1, tp.2.2.1, en]) (fun j hj => ⟨by rw [a2]; exact (tp.2.2.2 j (by omega) (by omega)).1, (hb j hj).2⟩) (by unfold rsI; rw [a3]; exact rs) hq
  cases e : wAll (h 2) n 540 ws0 with
  | inl er' =>
    rw [e] at ok mh
    intro g1 f1 a1 a2
    refine ⟨by decide, iteN (by decide) ?_⟩
    have F : FL ((1, 1) :: (LC83 ++ LE83)) h (hu g1 1 1 0) := (f1.mono (by decide)).u (by decide)
    refine ⟨ζ, _, rfl, rfl, F.c _ (by decide), F.c _ (by decide), mh ζ _ _ hn (F.c 97 (by decide)) (F.c 98 (by decide)) (F.c 102 (by decide)) (fun g2 f2 kp2 z2 a3 => ?_)⟩
    rw [hu_j _ _ _ (by decide), a2]
    have F2 : FL ((1, 1) :: (LC83 ++ LE83) ++ LM0) h g2 := (F.mono (by decide +kernel)).trans (f2.mono (by decide +kernel))
    have c1 : g2 1 = hu g1 1 1 0 1 := f2.c 1 (by decide)
    refine op_fin1 i rfl (by have := ok.2; constructor <;> omega) F2 [0, 1, 8] (by decide +kernel) ?_
    intro m hm
    have : m = 0 ∨ m = 1 ∨ m = 8 := by simpa using hm
    rcases this with z | z | z <;> subst z
    · show tpI g2
      refine ⟨?_, ?_, ?_, ?_⟩
      · rw [c1, hu_s]; decide
      · rw [c1, hu_s]; decide
      · rw [c1, hu_s]; exact z2
      · rw [F2.c 98 (by decide +kernel), F2.c 2 (by decide +kernel)]; exact tp.2.2.2
    · show ftI g2
      unfold ftI
      rw [a3, c1, hu_j _ _ _ (by decide), a1]
      exact ⟨rfl, by have := ok.1; omega, ok.1.2⟩
    · show weI ζ.1 g2
      rw [hz.1]
      have kp : KP h g2 := (KP.fl F (by decide)).trans kp2
      refine weI_keep we (fun c hc => F2.c (75 + c) ?_) kp (F2.at 133 0 (by decide +kernel)) (F2.at 134 0 (by decide +kernel))
      have : ∀ k : Nat, k < 7 → inC ((1, 1) :: (LC83 ++ LE83) ++ LM0) (75 + k) = false := by decide +kernel
      exact this c (by omega)
  | inr s =>
    rw [e] at ok mh
    obtain ⟨k, nm, A, B, F', S, p⟩ := s
    intro g1 f1 a1 x1
    refine ⟨by decide, iteP (by decide) ?_⟩
    have F : FL ((1, 1) :: (LC83 ++ LE83)) h (hu g1 1 1 0) := (f1.mono (by decide)).u (by decide)
    have ho : WO n (k, nm, A, B, F', S, p) := ok
    have e0 : hu g1 1 1 0 83 0 = k := by rw [hu_c _ _ _ (by decide)]; exact x1.1
    rw [e0]
    have n1 : 144 ≤ (((83, 75, ζ.2.2) : ZP)).2.2.2.2 := hn
    rw [hz.1]
    refine ⟨(83, 75, ζ.2.2), _, rfl, rfl, F.c _ (by decide), F.c _ (by decide), mh _ _ _ n1 (F.c 97 (by decide)) (F.c 98 (by decide)) (F.c 102 (by decide)) (fun g2 f2 kp2 z2 a3 x2 => ?_)⟩
    have k12 := ho.2.1
    have n64 := ho.2.2.2.1
    refine mw_copy (D := D + 59) n1 (k := k) (nn := S.1) k12 n64 (by rw [hu_c _ _ _ (by decide), hu_s]) (hu_s _ _ _ _) (fun g3 f3 s3 n3 => ?_)
    have F2 : FL ((1, 1) :: (LC83 ++ LE83) ++ LM0 ++ [(133, -1), (134, -1)]) h (hu (hu g2 133 0 k) 134 0 S.1) := (((F.mono (by decide +kernel)).trans (f2.mono (by decide +kernel))).ua (by decide +kernel)).ua (by decide +kernel)
    have F3 : FL ((1, 1) :: (LC83 ++ LE83) ++ LM0 ++ [(133, -1), (134, -1)]) h g3 := F2.trans (f3.mono (by decide +kernel))
    have H : FL (LM0 ++ [(133, -1), (134, -1)]) (hu g1 1 1 0) g3 := (((f2.mono (by decide +kernel)).ua (by decide +kernel)).ua (by decide +kernel)).trans (f3.mono (by decide +kernel))
    have c1 : g3 1 = hu g1 1 1 0 1 := H.c 1 (by decide +kernel)
    have cw : ∀ c, c ≤ 6 → g3 (83 + c) = g1 (83 + c) := by
      intro c hc
      have : ∀ k : Nat, k < 7 → inC (LM0 ++ [(133, -1), (134, -1)]) (83 + k) = false := by decide +kernel
      rw [H.c (83 + c) (this c (by omega)), hu_c _ _ _ (by omega)]
    have z133 : g3 133 0 = k := by rw [f3.c 133 (by decide), hu_c _ _ _ (by decide), hu_s]
    have z134 : g3 134 0 = S.1 := by rw [f3.c 134 (by decide), hu_s]
    have u : ∀ c, c < 133 → hu (hu g2 133 0 k) 134 0 S.1 c = g2 c := by
      intro c hc; rw [hu_c _ _ _ (by omega), hu_c _ _ _ (by omega)]
    have wn : weI 83 g3 := by
      have w0 : g3 83 = g1 83 := cw 0 (by omega)
      have w1 : g3 84 = g1 84 := cw 1 (by omega)
      have w2 : g3 85 = g1 85 := cw 2 (by omega)
      have w3 : g3 86 = g1 86 := cw 3 (by omega)
      have w4 : g3 87 = g1 87 := cw 4 (by omega)
      have w5 : g3 88 = g1 88 := cw 5 (by omega)
      have w6 : g3 89 = g1 89 := cw 6 (by omega)
      have x10 : g1 83 0 = k := x1.1
      have x14 : g1 83 4 = S.1 := x1.2.2.1.1
      show (0 ≤ g3 83 0 ∧ g3 83 0 ≤ 12 ∧ g3 133 0 = g3 83 0) ∧ (∀ k : Int, 0 ≤ k → k < g3 83 0 → (g3 127 k = g3 84 k ∧ 0 ≤ g3 84 k ∧ g3 84 k < 120) ∧ (g3 128 k = g3 85 k ∧ 0 ≤ g3 85 k ∧ g3 85 k < 120) ∧ (g3 129 k = g3 86 k ∧ 0 ≤ g3 86 k ∧ g3 86 k < 4096)) ∧ (0 ≤ g3 83 4 ∧ g3 83 4 ≤ 64 ∧ g3 134 0 = g3 83 4) ∧ ∀ n : Int, 0 ≤ n → n < g3 83 4 → (g3 130 n = g3 87 n ∧ 0 ≤ g3 87 n ∧ g3 87 n < g3 83 0) ∧ (g3 131 n = g3 88 n ∧ 0 ≤ g3 88 n ∧ g3 88 n < 120) ∧ (g3 132 n = g3 89 n ∧ 0 ≤ g3 89 n ∧ g3 89 n < 120)
      rw [w0, w1, w2, w3, w4, w5, w6, x10, x14, z133, z134]
      refine ⟨⟨by omega, by omega, rfl⟩, fun c c0 c1 => ?_, ⟨by omega, by omega, rfl⟩, fun c c0 c1 => ?_⟩
      · obtain ⟨j, rfl⟩ := Int.eq_ofNat_of_zero_le c0
        have q := s3 j c0 c1
        have xx := x1.2.1 j (by omega)
        have mm := x2.2.1 j (by omega)
        have bd := ho.2.2.1 j (by omega)
        rw [q.1, q.2.1, q.2.2, u 127 (by decide), u 128 (by decide), u 129 (by decide), mm.2.1, mm.2.2.1, mm.2.2.2, xx.2.1, xx.2.2.1, xx.2.2.2]
        exact ⟨⟨rfl, bd.2.1⟩, ⟨rfl, bd.2.2.1⟩, ⟨rfl, bd.2.2.2⟩⟩
      · obtain ⟨j, rfl⟩ := Int.eq_ofNat_of_zero_le c0
        have q := n3 j c0 c1
        have xx := x1.2.2.1.2 j (by omega)
        have mm := x2.2.2.1.2 j (by omega)
        have bd := ho.2.2.2.2.2 j (by omega)
        rw [q.1, q.2.1, q.2.2, u 130 (by decide), u 131 (by decide), u 132 (by decide), mm.1, mm.2.1, mm.2.2, xx.1, xx.2.1, xx.2.2]
        exact ⟨⟨rfl, bd.1⟩, ⟨rfl, bd.2.1⟩, ⟨rfl, bd.2.2⟩⟩
    have rk : rg (k : Int) := by constructor <;> omega
    refine ⟨rk, rk, rfl, F3.c _ (by decide +kernel), F3.c _ (by decide +kernel), ⟨⟨Or.inr ⟨rfl, rfl⟩, zk.2⟩, fun m => ?_⟩, ?_⟩
    · have old := i.1.upd (h' := g3) F3 [0, 1, 8] (by decide +kernel)
      by_cases m0 : m = 0
      · subst m0
        show tpI g3
        refine ⟨?_, ?_, ?_, ?_⟩
        · rw [c1, hu_s]; decide
        · rw [c1, hu_s]; decide
        · rw [c1, hu_s, f3.c 97 (by decide), u 97 (by decide)]; exact z2
        · rw [F3.c 98 (by decide +kernel), F3.c 2 (by decide +kernel)]; exact tp.2.2.2
      · by_cases m1 : m = 1
        · subst m1
          show ftI g3
          unfold ftI
          rw [f3.c 97 (by decide), u 97 (by decide), a3, c1, hu_j _ _ _ (by decide), a1]
          decide
        · by_cases m8 : m = 8
          · subst m8; exact wn
          · by_cases m13 : m < 13
            · have := (IP.fl (ζ := ζ) zk F3 m (by
                have : ∀ n : Nat, n < 13 → n ≠ 0 → n ≠ 1 → n ≠ 8 → okL n ((1, 1) :: (LC83 ++ LE83) ++ LM0 ++ [(133, -1), (134, -1)]) = true := by decide +kernel
                exact this m m13 m0 m1 m8) (i.1.2 m))
              have key : ∀ m, m ≠ 8 → IP (83, 75, ζ.2.2) g3 m = IP ζ g3 m := by
                intro m hm
                match m with
                | 0 | 1 | 2 | 3 | 4 | 5 | 6 | 7 | 9 | 10 | 11 | 12 => rfl
                | 8 => exact absurd rfl hm
                | _ + 13 => rfl
              rw [key m m8]; exact this
            · match m with
              | 0 | 1 | 2 | 3 | 4 | 5 | 6 | 7 | 8 | 9 | 10 | 11 | 12 => omega
              | _ + 13 => exact True.intro
    · exact i.2.fl F3 (by decide +kernel)
end WE7
theorem op_welds {l : Launch} {D : Nat} {ζ : ZP} {h : HI} (i : Inv ζ h) : OpZ l (D + 60) 0 0 ζ mX11_welds mX12_welds [] h := by
  rcases i.1.1.1 with z | z
  · exact op83_welds i z
  · exact op75_welds i z
