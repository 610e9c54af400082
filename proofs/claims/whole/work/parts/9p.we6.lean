/-! WELDS: the call -/
def ws0 : WS := (0, fun _ => [], fun _ => 0, fun _ => 0, fun _ => 0, (0, fun _ => 0, fun _ => 0, fun _ => 0), 0)
theorem ws0_ok {n : Nat} : WO n ws0 := ⟨by omega, by omega, fun j hj => by omega, ⟨by decide, by decide, fun j hj => by have : j < 0 := hj; omega⟩⟩
theorem zz_13 {ζ : ZP} {w : Nat} : zz (w, ζ.2) = (ru (zz ζ).1 0 13 (some w), (zz ζ).2) := by
  refine Prod.ext ?_ rfl
  funext a j
  show (if a = 33 then (if j = 0 then ζ.2.2.1 else if j = 1 then ζ.2.2.2.1 else none) else if a = 0 ∧ j = 13 then some w else if a = 0 ∧ j = 14 then some ζ.2.1 else rlA a j) = (if a = 0 ∧ j = 13 then some w else (if a = 33 then (if j = 0 then ζ.2.2.1 else if j = 1 then ζ.2.2.2.1 else none) else if a = 0 ∧ j = 13 then some ζ.1 else if a = 0 ∧ j = 14 then some ζ.2.1 else rlA a j))
  by_cases c2 : a = 0 ∧ j = 13
  · rw [if_neg (by omega), if_pos c2, if_pos c2]
  · rw [if_neg c2, if_neg c2, if_neg c2]
theorem zz_14 {ζ : ZP} {w : Nat} : zz (ζ.1, w, ζ.2.2) = (ru (zz ζ).1 0 14 (some w), (zz ζ).2) := by
  refine Prod.ext ?_ rfl
  funext a j
  show (if a = 33 then (if j = 0 then ζ.2.2.1 else if j = 1 then ζ.2.2.2.1 else none) else if a = 0 ∧ j = 13 then some ζ.1 else if a = 0 ∧ j = 14 then some w else rlA a j) = (if a = 0 ∧ j = 14 then some w else (if a = 33 then (if j = 0 then ζ.2.2.1 else if j = 1 then ζ.2.2.2.1 else none) else if a = 0 ∧ j = 13 then some ζ.1 else if a = 0 ∧ j = 14 then some ζ.2.1 else rlA a j))
  by_cases c2 : a = 0 ∧ j = 14
  · rw [if_neg (by omega), if_neg (by omega), if_pos c2, if_pos c2]
  · rw [if_neg c2, if_neg c2, if_neg c2]
theorem e_X11_welds {l : Launch} {D : Nat} {ζ : ZP} {h : HI} {Q : Option AV → HI → ZR → Prop} (hn : 144 ≤ ζ.2.2.2.2) (hs1 : isW ζ.2.1) (w : RtI l D mX10_readFrom (zz ζ) [aP ζ.2.1, aP 1] h (fun r1 h1 => (rg r1) ∧ (if ¬ r1 = 0 then Q (some (aI (hu h1 1 1 0 ζ.2.1 0))) (hu h1 1 1 0) (zz (ζ.2.1, ζ.1, ζ.2.2)) else Q (some (aI ((-1) - hu h1 1 1 0 1 9))) (hu h1 1 1 0) (zz ζ)))) : Ret l (D + 1) 0 0 mX11_welds (zz ζ) [aP 0] h Q := by
  refine Ret.of 2 pn_X11 [aP 0, aU, aU] rfl rfl ?_
  refine g_aload_n dX11_welds_0 rfl ?_
  refine g_getR dX11_welds_1 fl_X11_90 sh_0 (al_0 hn) (fun _ _ _ => rfl) rf_0_14 ?_
  refine g_aload_n dX11_welds_4 rfl ?_
  refine g_getR dX11_welds_5 fl_X11_10 sh_0 (al_0 hn) (fun _ _ _ => rfl) rf_0_0 ?_
  refine g_callVI (n := 1) (As := [aP 1]) (st := []) dX11_welds_8 ml_X11_381 (shw_0 hs1) rfl (alw_0 hs1 hn) rfl rfl (Nat.le_of_ble_eq_true rfl) (RtI.mono w (fun r1 h1 w => ?_))
  refine g_istore_n (ls' := [aP 0, aI r1, aU]) dX11_welds_11 (Nat.le_of_ble_eq_true rfl) rfl rfl ?_
  refine g_aload_n dX11_welds_12 rfl ?_
  refine g_getR dX11_welds_13 fl_X11_10 sh_0 (al_0 hn) (fun _ _ _ => rfl) rf_0_0 ?_
  refine g_iconst dX11_welds_16 ?_
  refine g_putI (J := 1) dX11_welds_17 fl_X11_100 sh_1 (al_1 hn) rfl rfl ?_
  refine g_iload_n dX11_welds_20 rfl ?_
  obtain ⟨o1, w⟩ := w
  refine g_if_ne (tgt := 34) dX11_welds_21 rfl o1 ?_
  refine ite_imp (fun w => ?_) (fun w => ?_) w
  · refine g_aload_n dX11_welds_34 rfl ?_
    refine g_getR dX11_welds_35 fl_X11_86 sh_0 (al_0 hn) (fun _ _ _ => rfl) rf_0_13 ?_
    refine g_astore_n (ls' := [aP 0, aI r1, aP ζ.1]) dX11_welds_38 (Nat.le_of_ble_eq_true rfl) rfl rfl ?_
    refine g_aload_n dX11_welds_39 rfl ?_
    refine g_aload_n dX11_welds_40 rfl ?_
    refine g_getR dX11_welds_41 fl_X11_90 sh_0 (al_0 hn) (fun _ _ _ => rfl) rf_0_14 ?_
    refine g_putR0 (z' := zz (ζ.2.1, ζ.2)) zz_13 dX11_welds_44 fl_X11_86 sh_0 (al_0 hn) (fun _ _ _ => rfl) (fun _ o => by cases o <;> exact ⟨rfl, rfl⟩) ?_
    refine g_aload_n dX11_welds_47 rfl ?_
    refine g_aload_n dX11_welds_48 rfl ?_
    refine g_putR0 (z' := zz (ζ.2.1, ζ.1, ζ.2.2)) (zz_14 (ζ := (ζ.2.1, ζ.2)) (w := ζ.1)) dX11_welds_49 fl_X11_90 sh_0 (al_0 hn) (fun _ _ _ => rfl) (fun _ o => by cases o <;> exact ⟨rfl, rfl⟩) ?_
    refine g_aload_n dX11_welds_52 rfl ?_
    refine g_getR dX11_welds_53 fl_X11_86 sh_0 (al_0 (ζ := (ζ.2.1, ζ.1, ζ.2.2)) hn) (fun _ _ _ => rfl) (rf_0_13 (ζ := (ζ.2.1, ζ.1, ζ.2.2))) ?_
    refine g_getI (J := 0) dX11_welds_56 fl_X11_382 (shw_0 hs1) (alw_0 (ζ := (ζ.2.1, ζ.1, ζ.2.2)) hs1 hn) (fun _ _ _ => rfl) rfl ?_
    exact g_reti dX11_welds_59 rfl w
  · refine g_iconst dX11_welds_24 ?_
    refine g_aload_n dX11_welds_25 rfl ?_
    refine g_getR dX11_welds_26 fl_X11_10 sh_0 (al_0 hn) (fun _ _ _ => rfl) rf_0_0 ?_
    refine g_getI (J := 9) dX11_welds_29 fl_X11_111 sh_1 (al_1 hn) (fun _ _ _ => rfl) rfl ?_
    refine g_isub dX11_welds_32 ?_
    exact g_reti dX11_welds_33 rfl w
section WE6
variable {l : Launch} {D : Nat} {ζ : ZP} {h : HI} {Q : Int → HI → Prop} {QV : HI → Prop} {b : Int → Int} {n k p : Nat}
def LM0 : List (Nat × Int) := [(97, 0), (97, 2), (97, 3), (97, 5), (97, 14), (97, 15)] ++ LMs
/-- the reference reads it all -/
theorem mw_read (hn : 144 ≤ ζ.2.2.2.2) (n540 : n ≤ 540) (e2 : h 97 2 = n) (hb : ∀ j : Nat, j < 540 → h 98 j = b j ∧ -128 ≤ b j ∧ b j ≤ 127) (rs : rsI h) (hq : match wAll b n 540 ws0 with
    | .inl e => ∀ g, FL LM0 h g → KP h g → g 97 2 = 0 → g 97 14 = e.1 → Q ((-1) - e.2) g
    | .inr s => ∀ g, FL LM0 h g → KP h g → g 97 2 = 0 → g 97 14 = 0 → WM b n s g → G l (D + 5) 0 0 mX12_welds (zz ζ) 82 [aP 97, aI 0] [] (hu (hu g 133 0 s.1) 134 0 s.2.2.2.2.2.1.1) (qI (zz ζ) Q)) : RtI l (D + 5) mX12_welds (zz ζ) [aP 97] h Q := by
  refine e_X12_welds hn (e_X12_taken hn ?_)
  have ee : hu h 97 0 0 97 2 = n := by rw [hu_j _ _ _ (by decide)]; exact e2
  rw [ee]
  have F : FL ([(97, 0), (97, 2), (97, 3), (97, 4), (97, 5), (97, 14), (133, 1), (134, 1)]) h (hu (hu (hu (hu (hu (hu (hu (hu h 97 0 0) 97 3 n) 97 2 0) 97 4 0) 97 5 400) 97 14 0) 133 1 0) 134 1 0) := (((((((FL.refl.u (by decide)).u (by decide)).u (by decide)).u (by decide)).u (by decide)).u (by decide)).u (by decide)).u (by decide)
  have e97 : (hu (hu (hu (hu (hu (hu (hu (hu h 97 0 0) 97 3 n) 97 2 0) 97 4 0) 97 5 400) 97 14 0) 133 1 0) 134 1 0) 97 = (hu (hu (hu (hu (hu (hu h 97 0 0) 97 3 n) 97 2 0) 97 4 0) 97 5 400) 97 14 0) 97 := by rw [hu_c _ _ _ (by decide), hu_c _ _ _ (by decide)]
  have v : (hu (hu (hu (hu (hu (hu (hu (hu h 97 0 0) 97 3 n) 97 2 0) 97 4 0) 97 5 400) 97 14 0) 133 1 0) 134 1 0) 133 1 = 0 ∧ (hu (hu (hu (hu (hu (hu (hu (hu h 97 0 0) 97 3 n) 97 2 0) 97 4 0) 97 5 400) 97 14 0) 133 1 0) 134 1 0) 134 1 = 0 := by simp [hu]
  have w : ((hu (hu (hu (hu (hu (hu h 97 0 0) 97 3 n) 97 2 0) 97 4 0) 97 5 400) 97 14 0) 97 3 = n ∧ (hu (hu (hu (hu (hu (hu h 97 0 0) 97 3 n) 97 2 0) 97 4 0) 97 5 400) 97 14 0) 97 5 = 400) ∧ (hu (hu (hu (hu (hu (hu h 97 0 0) 97 3 n) 97 2 0) 97 4 0) 97 5 400) 97 14 0) 97 4 = 0 ∧ (hu (hu (hu (hu (hu (hu h 97 0 0) 97 3 n) 97 2 0) 97 4 0) 97 5 400) 97 14 0) 97 14 = 0 ∧ (hu (hu (hu (hu (hu (hu h 97 0 0) 97 3 n) 97 2 0) 97 4 0) 97 5 400) 97 14 0) 97 2 = 0 := by simp [hu]
  rw [← e97] at w
  generalize hu (hu (hu (hu (hu (hu (hu (hu h 97 0 0) 97 3 n) 97 2 0) 97 4 0) 97 5 400) 97 14 0) 133 1 0) 134 1 0 = g at F v w ⊢
  have tp : tpm b n 400 g := ⟨w.1, by rw [F.c 98 (by decide)]; exact hb⟩
  refine s_next (p := 0) hn n540 (by omega) (by omega) tp w.2.1 (fun g1 f1 t1 => ?_)
  have K1 : KP h g1 := KP.fl ((F.mono (L' := LN ++ [(97, 0), (97, 2), (97, 3), (97, 4), (97, 5), (97, 14), (133, 1), (134, 1)]) (by decide)).trans (f1.mono (by decide))) (by decide)
  have F1 : FL LM0 h g1 := (F.mono (by decide)).trans (f1.mono (by decide))
  have z2 : g1 97 2 = 0 := by rw [f1.at 97 2 (by decide)]; exact w.2.2.2
  have z14 : g1 97 14 = 0 := by rw [f1.at 97 14 (by decide)]; exact w.2.2.1
  refine mw_all (b := b) hn n540 (f := 540) (s := ws0) ws0_ok (by show n + 1 ≤ 0 + 2 * 540; omega) ⟨by rw [f1.c 133 (by decide)]; exact v.1, fun j hj => by omega, ⟨by rw [f1.c 134 (by decide)]; exact v.2, fun j hj => by have : j < 0 := hj; omega⟩, ⟨tp.fl f1 (by decide), rs_fl (rs_fl rs F (by decide)) f1 (by decide)⟩, t1⟩ ?_
  revert hq
  cases wAll b n 540 ws0 with
  | inl e => exact fun hq g' f' a1 a2 => hq g' (F1.trans (f'.1.mono (by decide))) (K1.trans f'.2) (by rw [f'.1.at 97 2 (by decide)]; exact z2) a1
  | inr s => exact fun hq g' f' x => hq g' (F1.trans (f'.1.mono (by decide))) (K1.trans f'.2) (by rw [f'.1.at 97 2 (by decide)]; exact z2) (by rw [f'.1.at 97 14 (by decide)]; exact z14) x
/-- drafts become what stands -/
theorem mw_copy (hn : 144 ≤ ζ.2.2.2.2) {g0 : HI} {k nn : Nat} (k12 : k ≤ 12) (n64 : nn ≤ 64) (e1 : g0 133 0 = k) (e2 : g0 134 0 = nn) (hq : ∀ g, FL [(127, -1), (128, -1), (129, -1), (130, -1), (131, -1), (132, -1)] g0 g → (∀ j : Int, 0 ≤ j → j < k → g 127 j = g0 127 (12 + j) ∧ g 128 j = g0 128 (12 + j) ∧ g 129 j = g0 129 (12 + j)) → (∀ j : Int, 0 ≤ j → j < nn → g 130 j = g0 130 (80 + j) ∧ g 131 j = g0 131 (80 + j) ∧ g 132 j = g0 132 (80 + j)) → Q k g) : G l (D + 1) 0 0 mX12_welds (zz ζ) 82 [aP 97, aI 0] [] g0 (qI (zz ζ) Q) := by
  have L1 := lup (N := (k : Int)) (R := fun i g => G l (D + 1) 0 0 mX12_welds (zz ζ) 82 [aP 97, aI i] [] g (qI (zz ζ) Q)) (P := fun i g => FL [(127, -1), (128, -1), (129, -1)] g0 g ∧ (∀ j : Int, 0 ≤ j → j < i → g 127 j = g0 127 (12 + j) ∧ g 128 j = g0 128 (12 + j) ∧ g 129 j = g0 129 (12 + j)) ∧ ∀ j : Int, 12 ≤ j → g 127 j = g0 127 j ∧ g 128 j = g0 128 j ∧ g 129 j = g0 129 j) ?_ ?_
  · exact L1 0 g0 (by omega) (by omega) ⟨FL.refl, fun j h0 h1 => by omega, fun _ _ => ⟨rfl, rfl, rfl⟩⟩
  · rintro i g h0 h1 ⟨f, w1, w2⟩ k1
    have z1 : g 133 0 = k := by rw [f.c 133 (by decide)]; exact e1
    refine b_X12_welds_82 hn ⟨by constructor <;> omega, by rw [z1]; constructor <;> omega, iteN (by rw [z1]; omega) ⟨by omega, by omega, k1 _ ⟨((f.ua (by decide)).ua (by decide)).ua (by decide), fun j j0 j1 => ?_, fun j hj => ?_⟩⟩⟩
    · have u := w2 (12 + i) (by omega)
      by_cases z : j = i
      · subst z
        refine ⟨?_, ?_, ?_⟩
        · rw [hu_c _ _ _ (by decide), hu_c _ _ _ (by decide), hu_s]; exact u.1
        · rw [hu_c _ _ _ (by decide), hu_s]; exact u.2.1
        · rw [hu_s]; exact u.2.2
      · have o := w1 j j0 (by omega)
        refine ⟨?_, ?_, ?_⟩
        · rw [hu_c _ _ _ (by decide), hu_c _ _ _ (by decide), hu_j _ _ _ z]; exact o.1
        · rw [hu_c _ _ _ (by decide), hu_j _ _ _ z, hu_c _ _ _ (by decide)]; exact o.2.1
        · rw [hu_j _ _ _ z, hu_c _ _ _ (by decide), hu_c _ _ _ (by decide)]; exact o.2.2
    · have o := w2 j hj
      have z : j ≠ i := by omega
      refine ⟨?_, ?_, ?_⟩
      · rw [hu_c _ _ _ (by decide), hu_c _ _ _ (by decide), hu_j _ _ _ z]; exact o.1
      · rw [hu_c _ _ _ (by decide), hu_j _ _ _ z, hu_c _ _ _ (by decide)]; exact o.2.1
      · rw [hu_j _ _ _ z, hu_c _ _ _ (by decide), hu_c _ _ _ (by decide)]; exact o.2.2
  · rintro g ⟨f, w1, w2⟩
    have z1 : g 133 0 = k := by rw [f.c 133 (by decide)]; exact e1
    refine b_X12_welds_82 hn ⟨by constructor <;> omega, by rw [z1]; constructor <;> omega, iteP (by rw [z1]; omega) ?_⟩
    have L2 := lup (N := (nn : Int)) (R := fun i g => G l (D + 1) 0 0 mX12_welds (zz ζ) 145 [aP 97, aI i] [] g (qI (zz ζ) Q)) (P := fun i g' => FL [(130, -1), (131, -1), (132, -1)] g g' ∧ (∀ j : Int, 0 ≤ j → j < i → g' 130 j = g0 130 (80 + j) ∧ g' 131 j = g0 131 (80 + j) ∧ g' 132 j = g0 132 (80 + j)) ∧ ∀ j : Int, 80 ≤ j → g' 130 j = g0 130 j ∧ g' 131 j = g0 131 j ∧ g' 132 j = g0 132 j) ?_ ?_
    · exact L2 0 g (by omega) (by omega) ⟨FL.refl, fun j h0 h1 => by omega, fun _ _ => by rw [f.c 130 (by decide), f.c 131 (by decide), f.c 132 (by decide)]; exact ⟨rfl, rfl, rfl⟩⟩
    · rintro i g' h0 h1 ⟨f', v1, v2⟩ k1
      have z2 : g' 134 0 = nn := by rw [f'.c 134 (by decide), f.c 134 (by decide)]; exact e2
      refine b_X12_welds_145 hn ⟨by constructor <;> omega, by rw [z2]; constructor <;> omega, iteN (by rw [z2]; omega) ⟨by omega, by omega, k1 _ ⟨((f'.ua (by decide)).ua (by decide)).ua (by decide), fun j j0 j1 => ?_, fun j hj => ?_⟩⟩⟩
      · have u := v2 (80 + i) (by omega)
        by_cases z : j = i
        · subst z
          refine ⟨?_, ?_, ?_⟩
          · rw [hu_s]; exact u.1
          · rw [hu_c _ _ _ (by decide), hu_c _ _ _ (by decide), hu_s]; exact u.2.1
          · rw [hu_c _ _ _ (by decide), hu_s]; exact u.2.2
        · have o := v1 j j0 (by omega)
          refine ⟨?_, ?_, ?_⟩
          · rw [hu_j _ _ _ z, hu_c _ _ _ (by decide), hu_c _ _ _ (by decide)]; exact o.1
          · rw [hu_c _ _ _ (by decide), hu_c _ _ _ (by decide), hu_j _ _ _ z]; exact o.2.1
          · rw [hu_c _ _ _ (by decide), hu_j _ _ _ z, hu_c _ _ _ (by decide)]; exact o.2.2
      · have o := v2 j hj
        have z : j ≠ i := by omega
        refine ⟨?_, ?_, ?_⟩
        · rw [hu_j _ _ _ z, hu_c _ _ _ (by decide), hu_c _ _ _ (by decide)]; exact o.1
        · rw [hu_c _ _ _ (by decide), hu_c _ _ _ (by decide), hu_j _ _ _ z]; exact o.2.1
        · rw [hu_c _ _ _ (by decide), hu_j _ _ _ z, hu_c _ _ _ (by decide)]; exact o.2.2
    · rintro g' ⟨f', v1, v2⟩
      have z2 : g' 134 0 = nn := by rw [f'.c 134 (by decide), f.c 134 (by decide)]; exact e2
      refine b_X12_welds_145 hn ⟨by constructor <;> omega, by rw [z2]; constructor <;> omega, iteP (by rw [z2]; omega) ?_⟩
      rw [f'.c 133 (by decide), z1]
      refine hq g' ((f.mono (by decide)).trans (f'.mono (by decide))) (fun j j0 j1 => ?_) v1
      rw [f'.c 127 (by decide), f'.c 128 (by decide), f'.c 129 (by decide)]; exact w1 j j0 j1
theorem weI_keep {O : Nat} {h g : HI} (i : weI O h) (e : ∀ c, c ≤ 6 → g (O + c) = h (O + c)) (kp : KP h g) (e1 : g 133 0 = h 133 0) (e2 : g 134 0 = h 134 0) : weI O g := by
  have e0 : g O = h O := e 0 (by omega)
  obtain ⟨a1, a2, a3, a4⟩ := i
  unfold weI
  rw [e0, e 1 (by omega), e 2 (by omega), e 3 (by omega), e 4 (by omega), e 5 (by omega), e 6 (by omega), e1, e2]
  refine ⟨a1, fun c c0 c1 => ?_, a3, fun c c0 c1 => ?_⟩
  · have q := kp.1 c (by omega)
    rw [q.1, q.2.1, q.2.2]; exact a2 c c0 c1
  · have q := kp.2 c (by omega)
    rw [q.1, q.2.1, q.2.2]; exact a4 c c0 c1
end WE6
