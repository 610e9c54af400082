/-! count, days, feed -/
theorem pst_o {h : HI} {tc ob : Nat} {sl x s : Int} (hne : tc ≠ ob) {k : Nat} {j : Int} (hk : ¬ (k = ob ∧ j = sl)) : pst h tc ob sl x s k j = if k = tc ∧ j = h ob sl then b8 (b8 (bshr x s)) else h k j := by
  unfold pst
  rw [hu_eq, if_neg hk, hu_eq]
theorem b8_bd (x : Int) : -128 ≤ b8 x ∧ b8 x ≤ 127 := by
  unfold b8
  rw [Int8.toInt_toInt32]
  generalize (Int32.ofInt x).toInt8 = y
  have a := Int8.le_toInt y
  have b := Int8.toInt_lt y
  omega
/-- tapes alike, with bytes -/
def tpE (h : HI) (n : Int) : Prop := h 1 1 = n ∧ h 97 2 = n ∧ ∀ j : Int, 0 ≤ j → j < 540 → h 98 j = h 2 j ∧ -128 ≤ h 2 j ∧ h 2 j ≤ 127
def fdX (h : HI) : List (Int × Int) → HI
  | [] => h
  | q :: t => fdX (pst h 2 1 1 q.1 q.2) t
def fdM (h : HI) : List (Int × Int) → HI
  | [] => h
  | q :: t => fdM (pst h 98 97 2 q.1 q.2) t
theorem fdX_fl : ∀ {L : List (Int × Int)} {h : HI}, FL [(1, 1), (2, -1)] h (fdX h L)
  | [], h => FL.refl
  | q :: t, h => FL.trans (h' := pst h 2 1 1 q.1 q.2) ((FL.refl.ua rfl).u rfl) (fdX_fl (L := t))
theorem fdM_fl : ∀ {L : List (Int × Int)} {h : HI}, FL [(97, 2), (98, -1)] h (fdM h L)
  | [], h => FL.refl
  | q :: t, h => FL.trans (h' := pst h 98 97 2 q.1 q.2) ((FL.refl.ua rfl).u rfl) (fdM_fl (L := t))
theorem fdX_n : ∀ {L : List (Int × Int)} {h : HI}, fdX h L 1 1 = h 1 1 + L.length
  | [], h => by simp [fdX]
  | q :: t, h => by
    show fdX (pst h 2 1 1 q.1 q.2) t 1 1 = _
    rw [fdX_n, pst_n]; simp; omega
theorem fdM_n : ∀ {L : List (Int × Int)} {h : HI}, fdM h L 97 2 = h 97 2 + L.length
  | [], h => by simp [fdM]
  | q :: t, h => by
    show fdM (pst h 98 97 2 q.1 q.2) t 97 2 = _
    rw [fdM_n, pst_n]; simp; omega
theorem fd_eq : ∀ {L : List (Int × Int)} {g k : HI} {n : Int}, g 1 1 = n → k 97 2 = n → (∀ j : Int, 0 ≤ j → j < 540 → k 98 j = g 2 j ∧ -128 ≤ g 2 j ∧ g 2 j ≤ 127) → ∀ j : Int, 0 ≤ j → j < 540 → fdM k L 98 j = fdX g L 2 j ∧ -128 ≤ fdX g L 2 j ∧ fdX g L 2 j ≤ 127
  | [], g, k, n, h1, h2, h3 => h3
  | q :: t, g, k, n, h1, h2, h3 => by
    refine fd_eq (L := t) (g := pst g 2 1 1 q.1 q.2) (k := pst k 98 97 2 q.1 q.2) (n := n + 1) (by rw [pst_n, h1]) (by rw [pst_n, h2]) ?_
    intro j h0 h5
    rw [pst_o (by decide) (by simp), pst_o (by decide) (by simp), h1, h2]
    have q3 := h3 j h0 h5
    by_cases e : j = n
    · simp [e]; exact b8_bd _
    · simp [e]; exact q3
def f5 (a b c d e : Int) : List (Int × Int) := [(a, 24), (a, 16), (a, 8), (a, 0), (b, 24), (b, 16), (b, 8), (b, 0), (c, 24), (c, 16), (c, 8), (c, 0), (d, 24), (d, 16), (d, 8), (d, 0), (e, 24), (e, 16), (e, 8), (e, 0)]
section OP2
variable {l : Launch} {D : Nat} {ζ : ZP} {h : HI} {x : Int}
theorem op_feed (i : Inv ζ h) {a b c d e : Int} : Op l (D + 60) ζ mX11_feed mX12_feed [aI a, aI b, aI c, aI d, aI e] h := by
  have hn := ζok_n i.1.1
  have p : tpI h := i.1.2 0
  obtain ⟨p1, p2, p3, p4⟩ := p
  refine e_X11_feed hn ⟨by constructor <;> omega, iteI (fun q => ?_) (fun q => ?_)⟩
  · refine s_add hn (by omega) (by omega) ?_
    have n1 : ∀ (g : HI) (y : Int), put4 g 2 1 1 y 1 1 = g 1 1 + 4 := fun g y => by
      unfold put4; rw [pst_n, pst_n, pst_n, pst_n]; omega
    have n2 : ∀ (g : HI) (y : Int), put4 g 98 97 2 y 97 2 = g 97 2 + 4 := fun g y => by
      unfold put4; rw [pst_n, pst_n, pst_n, pst_n]; omega
    refine s_add hn (by rw [n1]; omega) (by rw [n1]; omega) ?_
    refine s_add hn (by rw [n1, n1]; omega) (by rw [n1, n1]; omega) ?_
    refine s_add hn (by rw [n1, n1, n1]; omega) (by rw [n1, n1, n1]; omega) ?_
    refine s_add hn (by rw [n1, n1, n1, n1]; omega) (by rw [n1, n1, n1, n1]; omega) ?_
    have ex : put4 (put4 (put4 (put4 (put4 h 2 1 1 a) 2 1 1 b) 2 1 1 c) 2 1 1 d) 2 1 1 e = fdX h (f5 a b c d e) := rfl
    rw [ex]
    have fx := fdX_fl (L := f5 a b c d e) (h := h)
    have nx := fdX_n (L := f5 a b c d e) (h := h)
    have ln : (f5 a b c d e).length = 20 := rfl
    rw [ln] at nx
    generalize hg : fdX h (f5 a b c d e) = g at fx nx ⊢
    have m2 : g 97 2 = h 97 2 := fx.at 97 2 rfl
    refine ⟨fx.c _ rfl, fx.c _ rfl, e_X12_feed hn ⟨by rw [m2, p3]; constructor <;> omega, iteP (by rw [m2, p3]; exact q) ?_⟩⟩
    have m3 : hu g 97 0 0 97 2 = h 1 1 := by rw [hu_j _ _ _ (by decide), m2, p3]
    refine s_four hn (by rw [m3]; omega) (by rw [m3]; omega) ?_
    refine s_four hn (by rw [n2, m3]; omega) (by rw [n2, m3]; omega) ?_
    refine s_four hn (by rw [n2, n2, m3]; omega) (by rw [n2, n2, m3]; omega) ?_
    refine s_four hn (by rw [n2, n2, n2, m3]; omega) (by rw [n2, n2, n2, m3]; omega) ?_
    refine s_four hn (by rw [n2, n2, n2, n2, m3]; omega) (by rw [n2, n2, n2, n2, m3]; omega) ?_
    have em : put4 (put4 (put4 (put4 (put4 (hu g 97 0 0) 98 97 2 a) 98 97 2 b) 98 97 2 c) 98 97 2 d) 98 97 2 e = fdM (hu g 97 0 0) (f5 a b c d e) := rfl
    rw [em]
    have fm := fdM_fl (L := f5 a b c d e) (h := hu g 97 0 0)
    have nm := fdM_n (L := f5 a b c d e) (h := hu g 97 0 0)
    rw [ln, m3] at nm
    have tp := fd_eq (L := f5 a b c d e) (g := h) (k := hu g 97 0 0) (n := h 1 1) rfl m3 (fun j j0 j1 => by
      rw [hu_c _ _ _ (by decide), fx.c 98 rfl]; exact p4 j j0 j1)
    rw [hg] at tp
    generalize fdM (hu g 97 0 0) (f5 a b c d e) = k at fm nm tp ⊢
    have F : FL [(1, 1), (2, -1), (97, 0), (97, 2), (98, -1)] h k := ((fx.mono rfl).u rfl).trans (fm.mono rfl)
    have k1 : k 1 1 = g 1 1 := by rw [fm.at 1 1 rfl, hu_c _ _ _ (by decide)]
    have k2 : k 2 = g 2 := by rw [fm.c 2 rfl, hu_c _ _ _ (by decide)]
    refine op_fin1 i (by rw [nx, nm]) (by rw [nx]; constructor <;> omega) F [0] rfl ?_
    intro n hm
    rw [List.mem_singleton] at hm
    subst hm
    refine ⟨by rw [k1, nx]; omega, by rw [k1, nx]; omega, by rw [k1, nx, nm], ?_⟩
    rw [k2]
    exact tp
  · refine ⟨rfl, rfl, e_X12_feed hn ⟨by rw [p3]; constructor <;> omega, iteN (by rw [p3]; exact q) ?_⟩⟩
    exact op_fin i rfl (by decide) FL.th rfl
theorem op_count (i : Inv ζ h) (hx : rg x) : Op l (D + 60) ζ mX11_count mX12_count [aI x] h := by
  have hn := ζok_n i.1.1
  have tp : tpI h := i.1.2 0
  have sr : SR (stk 3 h) (h 99) (h 101) := i.1.2 2
  have we : weI ζ.1 h := i.1.2 8
  obtain ⟨sa, sc, sr, ss, sp, su⟩ := sr
  have mm : ∀ (r : Int), rg r → (x = 0 → r = h 99 0) → (x = 1 → r = h 99 1) → (x = 2 → r = h 99 11) → (x = 3 → r = h 99 12) → (x = 4 → r = h 99 13) → (x = 5 → r = h 99 14) → (x = 6 → r = h 99 15) → (x = 7 → r = h 133 0) → (x = 8 → r = h 97 2) → (x < 0 ∨ 8 < x → r = -1) → RtI l (D + 60) mX12_count (zz ζ) [aP 97, aI x] h (fun r2 h2 => rg r ∧ rg r2 ∧ r = r2 ∧ h2 1000003 = h 1000003 ∧ h2 1000004 = h 1000004 ∧ Inv ζ h2) := by
    intro r gr r0 r1 r2 r3 r4 r5 r6 r7 r8 r9
    refine e_X12_count hn ⟨hx, fun e => op_fin i (r0 e) gr FL.th rfl, fun e => op_fin i (r1 e) gr FL.th rfl, fun e => op_fin i (r2 e) gr FL.th rfl, fun e => op_fin i (r3 e) gr FL.th rfl, fun e => op_fin i (r4 e) gr FL.th rfl, fun e => op_fin i (r5 e) gr FL.th rfl, fun e => op_fin i (r6 e) gr FL.th rfl, fun e => op_fin i (r7 e) gr FL.th rfl, fun e => op_fin i (r8 e) gr FL.th rfl, fun e => op_fin i (r9 e) gr FL.th rfl⟩
  have a0 : h 99 0 = h 4 3 ∧ 0 ≤ h 4 3 ∧ h 4 3 ≤ 6 := ⟨sa.1.2.2, sa.1.1, sa.1.2.1⟩
  have a1 : h 99 1 = h 4 4 ∧ 0 ≤ h 4 4 ∧ h 4 4 ≤ 8 := ⟨sa.2.1.2.2, sa.2.1.1, sa.2.1.2.1⟩
  have a2 : h 99 11 = h 3 3 ∧ 0 ≤ h 3 3 ∧ h 3 3 ≤ 60 := ⟨sc.1.2.2, sc.1.1, sc.1.2.1⟩
  have a3 : h 99 12 = h 3 5 ∧ 0 ≤ h 3 5 ∧ h 3 5 ≤ 200 := ⟨sr.1.2.2, sr.1.1, sr.1.2.1⟩
  have a4 : h 99 13 = h 3 10 ∧ 0 ≤ h 3 10 ∧ h 3 10 ≤ 200 := ⟨ss.1.2.2, ss.1.1, ss.1.2.1⟩
  have a5 : h 99 14 = h 10 0 ∧ 0 ≤ h 10 0 ∧ h 10 0 ≤ 10 := ⟨sp.1.2.2, sp.1.1, sp.1.2.1⟩
  have a6 : h 99 15 = h 10 7 ∧ 0 ≤ h 10 7 ∧ h 10 7 ≤ 30 := ⟨sp.2.1.2.2, sp.2.1.1, sp.2.1.2.1⟩
  have a7 : h 133 0 = h ζ.1 0 ∧ 0 ≤ h ζ.1 0 ∧ h ζ.1 0 ≤ 12 := ⟨we.1.2.2, we.1.1, we.1.2.1⟩
  have a8 : h 97 2 = h 1 1 ∧ 0 ≤ h 1 1 ∧ h 1 1 ≤ 540 := ⟨tp.2.2.1, tp.1, tp.2.1⟩
  refine e_X11_count hn (ζok_W i.1.1) ⟨hx, fun e => ⟨rfl, rfl, mm _ ?_ ?_ ?_ ?_ ?_ ?_ ?_ ?_ ?_ ?_ ?_⟩, fun e => ⟨rfl, rfl, mm _ ?_ ?_ ?_ ?_ ?_ ?_ ?_ ?_ ?_ ?_ ?_⟩, fun e => ⟨rfl, rfl, mm _ ?_ ?_ ?_ ?_ ?_ ?_ ?_ ?_ ?_ ?_ ?_⟩, fun e => ⟨rfl, rfl, mm _ ?_ ?_ ?_ ?_ ?_ ?_ ?_ ?_ ?_ ?_ ?_⟩, fun e => ⟨rfl, rfl, mm _ ?_ ?_ ?_ ?_ ?_ ?_ ?_ ?_ ?_ ?_ ?_⟩, fun e => ⟨rfl, rfl, mm _ ?_ ?_ ?_ ?_ ?_ ?_ ?_ ?_ ?_ ?_ ?_⟩, fun e => ⟨rfl, rfl, mm _ ?_ ?_ ?_ ?_ ?_ ?_ ?_ ?_ ?_ ?_ ?_⟩, fun e => ⟨rfl, rfl, mm _ ?_ ?_ ?_ ?_ ?_ ?_ ?_ ?_ ?_ ?_ ?_⟩, fun e => ⟨rfl, rfl, mm _ ?_ ?_ ?_ ?_ ?_ ?_ ?_ ?_ ?_ ?_ ?_⟩, fun e => ⟨rfl, rfl, mm _ ?_ ?_ ?_ ?_ ?_ ?_ ?_ ?_ ?_ ?_ ?_⟩⟩
  all_goals first
    | (constructor <;> omega)
    | (intro e'; omega)
theorem op_days (i : Inv ζ h) (hx : rg x) : Op l (D + 60) ζ mX11_days mX12_days [aI x] h := by
  have hn := ζok_n i.1.1
  have sr : SR (stk 3 h) (h 99) (h 101) := i.1.2 2
  have a := sr.1.2.2.1 5 (by decide) (by decide)
  have a1 : h 99 7 = h 7 5 := a.1
  have a2 : 0 ≤ h 7 5 ∧ h 7 5 ≤ 99 := ⟨a.2.1, a.2.2⟩
  refine e_X11_days hn (s_within hn hx (by decide) (by decide) ?_)
  by_cases c : 1 ≤ x ∧ x ≤ 99
  · rw [if_pos c]
    have t0 := Int.tdiv_nonneg (a := 2 * h 7 5) (b := x) (by omega) (by omega)
    have t1 := Int.tdiv_le_self (a := 2 * h 7 5) x (by omega)
    refine ⟨by decide, iteP (by decide) (s_cut hn (by constructor <;> omega) hx ?_)⟩
    rw [if_neg (by omega)]
    refine ⟨rfl, rfl, e_X12_days hn (s_isIn hn hx (by decide) (by decide) ?_)⟩
    rw [if_pos c]
    have e7 : hu h 97 0 0 99 7 = h 7 5 := by rw [hu_c _ _ _ (by decide)]; exact a1
    rw [e7]
    refine ⟨by decide, iteN (by decide) ⟨by constructor <;> omega, hx, by omega, ?_⟩⟩
    exact op_fin i rfl (by constructor <;> omega) FL.th rfl
  · rw [if_neg c]
    refine ⟨by decide, iteN (by decide) ⟨rfl, rfl, e_X12_days hn (s_isIn hn hx (by decide) (by decide) ?_)⟩⟩
    rw [if_neg c]
    exact ⟨by decide, iteP rfl (op_fin i rfl (by decide) FL.th rfl)⟩
end OP2
