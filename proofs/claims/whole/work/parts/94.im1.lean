/-! image, where its place has been used before (or there is no such place) -/
theorem e_X11_image_old {l : Launch} {D : Nat} {ζ : ZP} {h : HI} {Q : Int → HI → Prop} {x1 : Int} {u : Nat} (hn : 144 ≤ ζ.2.2.2.2) (hu0 : isU u) (hun : u + 30 ≤ ζ.2.2.2.2) (ho : 0 ≤ x1 ∧ x1 < 2 → (zz ζ).1 33 x1.toNat = some u) (w : RtI l D mX11_within (zz ζ) [aI x1, aI 0, aI 1] h (fun r1 h1 => (rg r1) ∧ (if ¬ r1 = 0 then ((0 ≤ x1 ∧ x1 < 2) ∧ RtV l D mX5_copyFrom (zz ζ) [aP u, aP 3] h1 (fun h2 => Q 1 h2)) else Q 0 h1))) : RtI l (D + 1) mX11_image (zz ζ) [aP 0, aI x1] h Q := by
  refine RtI.of 0 pn_X11 [aP 0, aI x1] rfl rfl ?_
  refine g_iload_n dX11_image_0 rfl ?_
  refine g_iconst dX11_image_1 ?_
  refine g_iconst dX11_image_2 ?_
  refine g_callSI (n := 3) (As := [aI x1, aI 0, aI 1]) (st := []) dX11_image_3 ml_X11_145 rfl rfl (Nat.le_of_ble_eq_true rfl) rfl (RtI.mono w (fun r1 h1 w => ?_))
  obtain ⟨o1, w⟩ := w
  refine g_if_ne (tgt := 11) dX11_image_6 rfl o1 ?_
  refine ite_imp (fun w => ?_) (fun w => ?_) w
  · obtain ⟨o2, w⟩ := w
    refine g_aload_n dX11_image_11 rfl ?_
    refine g_getR dX11_image_12 fl_X11_23 sh_0 (al_0 hn) (fun _ _ _ => rfl) rf_0_2 ?_
    refine g_iload_n dX11_image_15 rfl ?_
    refine g_aald dX11_image_16 sh_33 (al_33 hn) (Nat.le_of_ble_eq_true rfl) o2 (ho o2) ?_
    refine g_nonnull (tgt := 33) dX11_image_17 rfl ?_
    refine g_aload_n dX11_image_33 rfl ?_
    refine g_getR dX11_image_34 fl_X11_23 sh_0 (al_0 hn) (fun _ _ _ => rfl) rf_0_2 ?_
    refine g_iload_n dX11_image_37 rfl ?_
    refine g_aald dX11_image_38 sh_33 (al_33 hn) (Nat.le_of_ble_eq_true rfl) o2 (ho o2) ?_
    refine g_aload_n dX11_image_39 rfl ?_
    refine g_getR dX11_image_40 fl_X11_19 sh_0 (al_0 hn) (fun _ _ _ => rfl) rf_0_1 ?_
    refine g_callVV (n := 1) (As := [aP 3]) (st := []) dX11_image_43 ml_X11_395 (shu_0 hu0) rfl (alu_0 hun) rfl rfl (Nat.le_of_ble_eq_true rfl) (RtV.mono w (fun h2 w3 => ?_))
    refine g_iconst dX11_image_46 ?_
    exact g_retZ dX11_image_47 rfl (Or.inr rfl) w3
  · refine g_iconst dX11_image_9 ?_
    exact g_retZ dX11_image_10 rfl (Or.inl rfl) w
section IM1
variable {l : Launch} {D : Nat} {ζ : ZP} {h : HI} {Q : Int → HI → Prop} {QV : HI → Prop} {x : Int}
/-- the reference's copies -/
theorem s_mcpOut (hn : 144 ≤ ζ.2.2.2.2) (hx : 0 ≤ x ∧ x < 2) (hq : ∀ k, FL [(140, -1), (141, -1), (142, -1)] h k → (∀ j : Int, 0 ≤ j → j < 2819 → k 140 (2819 * x + j) = h 99 j) → (∀ j : Int, j < 2819 * x ∨ 2819 * x + 2819 ≤ j → k 140 j = h 140 j) → (∀ j : Int, 0 ≤ j → j < 14 → k 141 (14 * x + j) = h 101 j) → (∀ j : Int, j < 14 * x ∨ 14 * x + 14 ≤ j → k 141 j = h 141 j) → k 142 x = 1 → (∀ j : Int, j ≠ x → k 142 j = h 142 j) → Q 1 k) : G l (D + 1) 0 0 mX12_image (zz ζ) 18 [aP 97, aI x, aI 0] [] h (qI (zz ζ) Q) := by
  have m51 : ∀ (m q : Nat) (k : HI), q + m = 14 → FL [(140, -1), (141, -1)] h k → (∀ j : Int, 0 ≤ j → j < 2819 → k 140 (2819 * x + j) = h 99 j) → (∀ j : Int, j < 2819 * x ∨ 2819 * x + 2819 ≤ j → k 140 j = h 140 j) → (∀ j : Int, 0 ≤ j → j < q → k 141 (14 * x + j) = h 101 j) → (∀ j : Int, j < 14 * x ∨ 14 * x + 14 ≤ j → k 141 j = h 141 j) → G l (D + 1) 0 0 mX12_image (zz ζ) 51 [aP 97, aI x, aI q] [] k (qI (zz ζ) Q) := by
    intro m
    induction m with
    | zero =>
      intro q k hm f a a' b b'
      refine b_X12_image_51 hn ⟨by constructor <;> omega, iteP (by omega) ⟨hx, hq _ ((f.mono rfl).ua rfl) ?_ ?_ ?_ ?_ ?_ ?_⟩⟩
      · rw [hu_c _ _ _ (by decide)]; exact a
      · rw [hu_c _ _ _ (by decide)]; exact a'
      · rw [hu_c _ _ _ (by decide)]; exact fun j j0 j1 => b j j0 (by omega)
      · rw [hu_c _ _ _ (by decide)]; exact b'
      · rw [hu_s]
      · intro j hj; rw [hu_j _ _ _ hj, f.c 142 rfl]
    | succ m ih =>
      intro q k hm f a a' b b'
      refine b_X12_image_51 hn ⟨by constructor <;> omega, iteN (by omega) ⟨⟨by omega, by omega⟩, ⟨by omega, by omega⟩, ?_⟩⟩
      rw [f.c 101 rfl]
      have kk := ih (q + 1) (hu k 141 (14 * x + q) (h 101 q)) (by omega) (f.ua rfl) (by rw [hu_c _ _ _ (by decide)]; exact a) (by rw [hu_c _ _ _ (by decide)]; exact a') (fun j j0 j1 => by
        by_cases e : j = q
        · rw [e, hu_s]
        · rw [hu_j _ _ _ (by omega)]; exact b j j0 (by omega)) (fun j hj => by rw [hu_j _ _ _ (by omega)]; exact b' j hj)
      rw [show ((q + 1 : Nat) : Int) = (q : Int) + 1 by omega] at kk
      exact kk
  have m18 : ∀ (m q : Nat) (k : HI), q + m = 2819 → FL [(140, -1), (141, -1)] h k → (∀ j : Int, 0 ≤ j → j < q → k 140 (2819 * x + j) = h 99 j) → (∀ j : Int, j < 2819 * x ∨ 2819 * x + 2819 ≤ j → k 140 j = h 140 j) → k 141 = h 141 → G l (D + 1) 0 0 mX12_image (zz ζ) 18 [aP 97, aI x, aI q] [] k (qI (zz ζ) Q) := by
    intro m
    induction m with
    | zero =>
      intro q k hm f a a' e
      exact b_X12_image_18 hn ⟨by constructor <;> omega, iteP (by omega) (m51 14 0 k (by omega) f (fun j j0 j1 => a j j0 (by omega)) a' (fun j j0 j1 => by omega) (fun j _ => by rw [e]))⟩
    | succ m ih =>
      intro q k hm f a a' e
      refine b_X12_image_18 hn ⟨by constructor <;> omega, iteN (by omega) ⟨⟨by omega, by omega⟩, ⟨by omega, by omega⟩, ?_⟩⟩
      rw [f.c 99 rfl]
      have kk := ih (q + 1) (hu k 140 (2819 * x + q) (h 99 q)) (by omega) (f.ua rfl) (fun j j0 j1 => by
        by_cases e : j = q
        · rw [e, hu_s]
        · rw [hu_j _ _ _ (by omega)]; exact a j j0 (by omega)) (fun j hj => by rw [hu_j _ _ _ (by omega)]; exact a' j hj) (by rw [hu_c _ _ _ (by decide)]; exact e)
      rw [show ((q + 1 : Nat) : Int) = (q : Int) + 1 by omega] at kk
      exact kk
  exact m18 2819 0 h (by omega) FL.refl (fun j j0 j1 => by omega) (fun j _ => rfl) rfl
/-- the reference's side of image: what it leaves -/
theorem s_mimage (hn : 144 ≤ ζ.2.2.2.2) (rx : rg x) (hz : ¬ (0 ≤ x ∧ x < 2) → Q 0 (hu h 97 0 0)) (hy : (0 ≤ x ∧ x < 2) → ∀ k, FL [(97, 0), (140, -1), (141, -1), (142, -1)] h k → (∀ j : Int, 0 ≤ j → j < 2819 → k 140 (2819 * x + j) = h 99 j) → (∀ j : Int, j < 2819 * x ∨ 2819 * x + 2819 ≤ j → k 140 j = h 140 j) → (∀ j : Int, 0 ≤ j → j < 14 → k 141 (14 * x + j) = h 101 j) → (∀ j : Int, j < 14 * x ∨ 14 * x + 14 ≤ j → k 141 j = h 141 j) → k 142 x = 1 → (∀ j : Int, j ≠ x → k 142 j = h 142 j) → Q 1 k) : RtI l (D + 2) mX12_image (zz ζ) [aP 97, aI x] h Q := by
  refine e_X12_image hn (s_isIn hn rx (by decide) (by decide) ?_)
  by_cases y : 0 ≤ x ∧ x ≤ 1
  · rw [if_pos y]
    have y2 : 0 ≤ x ∧ x < 2 := by omega
    refine ⟨by decide, iteP (by decide) (s_mcpOut hn y2 (fun k f a a' b b' c c' => ?_))⟩
    have e99 : hu h 97 0 0 99 = h 99 := hu_c _ _ _ (by decide)
    have e101 : hu h 97 0 0 101 = h 101 := hu_c _ _ _ (by decide)
    have e140 : hu h 97 0 0 140 = h 140 := hu_c _ _ _ (by decide)
    have e141 : hu h 97 0 0 141 = h 141 := hu_c _ _ _ (by decide)
    have e142 : hu h 97 0 0 142 = h 142 := hu_c _ _ _ (by decide)
    rw [e99] at a
    rw [e101] at b
    rw [e140] at a'
    rw [e141] at b'
    rw [e142] at c'
    exact hy y2 k ((FL.refl.u rfl).trans (f.mono rfl)) a a' b b' c c'
  · rw [if_neg y]
    exact ⟨by decide, iteN (by decide) (hz (fun q => y ⟨q.1, by omega⟩))⟩
end IM1
