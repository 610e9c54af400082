/-! LAW: the cases that throw, welds, image; written by wip/whole/gen/gen_law2.py -/
theorem RetW.mono {l : Launch} {d mc ms : Nat} {i : MT} {hh : List (Nat × Nat × Nat × Nat)} {z : ZR} {as : List AV} {h : HI} {Q Q' : Option AV → HI → ZR → Prop} (hr : RetW l d mc ms i hh z as h Q) (hq : ∀ v h' z', Q v h' z' → Q' v h' z') : RetW l d mc ms i hh z as h Q' := by
  intro E ρ
  have := hr E ρ
  intro p e h1 h2 h3 s m args below h4 h5 h6 h7
  obtain ⟨k, o, a1, a2, a3, ⟨⟨v, h', z', ρ', b1, b2, b3⟩, b4⟩, a5⟩ := this p e h1 h2 h3 s m args below h4 h5 h6 h7
  exact ⟨k, o, a1, a2, a3, ⟨⟨v, h', z', ρ', b1, hq _ _ _ b2, b3⟩, b4⟩, a5⟩
theorem Ret.deep {l : Launch} {d d' mc ms : Nat} {i : MT} {z : ZR} {as : List AV} {h : HI} {Q : Option AV → HI → ZR → Prop} (le : d ≤ d') (hr : Ret l d mc ms i z as h Q) : Ret l d' mc ms i z as h Q := by
  intro E ρ
  have := hr E ρ
  intro p e h1 h2 h3 s m args below h4 h5 h6 h7
  refine this p e h1 h2 h3 s m args below h4 ?_ h6 h7
  unfold Spec.appliesLoose at h5 ⊢
  rw [h4] at h5 ⊢
  simp only [Bool.and_eq_true] at h5 ⊢
  obtain ⟨⟨a1, a2⟩, a3⟩ := h5
  refine ⟨⟨a1, room_le a2 ?_ ?_ ?_ ?_⟩, a3⟩
  · exact le
  · show 44 * d ≤ 44 * d'; omega
  · exact Nat.le_refl _
  · exact Nat.le_refl _
theorem Ret.mono2 {l : Launch} {d mc ms : Nat} {i : MT} {z : ZR} {as : List AV} {h : HI} {Q Q' : Option AV → HI → ZR → Prop} (hr : Ret l d mc ms i z as h Q) (hq : ∀ v h' z', z.2 ≤ z'.2 → Q v h' z' → Q' v h' z') : Ret l d mc ms i z as h Q' := by
  intro E ρ
  have := hr E ρ
  intro p e h1 h2 h3 s m args below h4 h5 h6 h7
  obtain ⟨k, o, a1, a2, a3, ⟨⟨v, h', z', ρ', b1, b2, b3, b5, b6⟩, b4⟩, a5⟩ := this p e h1 h2 h3 s m args below h4 h5 h6 h7
  exact ⟨k, o, a1, a2, a3, ⟨⟨v, h', z', ρ', b1, hq _ _ _ b5 b2, b3, b5, b6⟩, b4⟩, a5⟩
theorem RtI.deep {l : Launch} {d d' : Nat} {j : MT} {z : ZR} {as : List AV} {h : HI} {Q : Int → HI → Prop} (le : d ≤ d') (hr : RtI l d j z as h Q) : RtI l d' j z as h Q := Ret.deep le hr
theorem law_ls0 {n : Nat} {x4 : Int} {u v : AV} (hn : 144 ≤ n) (hu : avlt n u = true) (hv : avlt n v = true) : [aP 1000003, aP 0, aP 97, aP 143, aI x4, u, v].all (avlt n) = true := by
  have b : ∀ k : Nat, k < 144 → avlt n (aP k) = true := by
    intro k hk
    show (Nat.blt k n || Nat.ble 1000000 k) = true
    rw [Nat.blt_eq.mpr (show k < n by omega)]; rfl
  have c : avlt n (aP 1000003) = true := by
    show (Nat.blt 1000003 n || Nat.ble 1000000 1000003) = true
    rw [show Nat.ble 1000000 1000003 = true from rfl, Bool.or_true]
  simp only [List.all_cons, List.all_nil, b 0 (by decide), b 97 (by decide), b 143 (by decide), c, hu, hv, Bool.and_true, Bool.and_self]
  rfl
section LAW2
variable {l : Launch} {D mc ms : Nat} {ζ : ZP} {h : HI} {Q : Option AV → HI → ZR → Prop} {x4 : Int}
theorem law_next (k : G l D mc ms mL_law (zz ζ) 23 [aP 1000003, aP 0, aP 97, aP 143, aI (x4 + 6), aU, aU] [] h Q) {u v : AV} : G l D mc ms mL_law (zz ζ) 1607 [aP 1000003, aP 0, aP 97, aP 143, aI x4, u, v] [] h Q := by
  refine g_iinc (ls' := [aP 1000003, aP 0, aP 97, aP 143, aI (x4 + 6), u, v]) dL_law_1607 rfl (Nat.le_of_ble_eq_true rfl) rfl rfl ?_
  refine g_goto (tgt := 23) dL_law_1610 rfl ?_
  exact g_sub (ls' := [aP 1000003, aP 0, aP 97, aP 143, aI (x4 + 6), aU, aU]) ⟨Or.inr rfl, Or.inr rfl, Or.inr rfl, Or.inr rfl, Or.inr rfl, Or.inl rfl, Or.inl rfl, trivial⟩ k
theorem b_L_lean (hn : 144 ≤ ζ.2.2.2.2) (hl : 0 ≤ x4 ∧ x4 + 5 < h 1000004 0 ∧ h 1000004 0 ≤ 3072) (op : OpT l D ζ mX11_lean mX12_lean [aI (h 1000003 (x4 + 1)), aI (h 1000003 (x4 + 2))] h) (hmc : 1 ≤ mc) (hms : 6 ≤ ms) (k : ∀ mc' ms' h2, mc ≤ mc' + 1 → ms ≤ ms' + 6 → h2 1000003 = h 1000003 → h2 1000004 = h 1000004 → Inv ζ h2 → G l (D + 2) mc' ms' mL_law (zz ζ) 23 [aP 1000003, aP 0, aP 97, aP 143, aI (x4 + 6), aU, aU] [] h2 Q) : G l (D + 2) mc ms mL_law (zz ζ) 499 [aP 1000003, aP 0, aP 97, aP 143, aI x4, aU, aU] [] h Q := by
  refine g_aload_n dL_law_499 rfl ?_
  refine g_aload_n dL_law_500 rfl ?_
  refine g_iload dL_law_501 rfl ?_
  refine g_iconst dL_law_503 ?_
  refine g_iadd dL_law_504 ?_
  refine g_sld dL_law_505 (by omega) (by omega) ?_
  refine g_aload_n dL_law_506 rfl ?_
  refine g_iload dL_law_507 rfl ?_
  refine g_iconst dL_law_509 ?_
  refine g_iadd dL_law_510 ?_
  refine g_sld dL_law_511 (by omega) (by omega) ?_
  refine g_aload_n dL_law_512 rfl ?_
  -- behind the helper
  have tail : ∀ (mc' ms' : Nat) (k0 : Int) (h1 : HI), (k0 = 0 ∨ k0 = 1) → h1 1000003 = h 1000003 → h1 1000004 = h 1000004 → mc ≤ mc' + 1 → ms ≤ ms' + 6 → RtI l (D + 1) mX12_lean (zz ζ) (aP 97 :: [aI (h 1000003 (x4 + 1)), aI (h 1000003 (x4 + 2))]) h1 (fun r2 h2 => h2 97 0 = k0 ∧ (k0 = 0 → rg r2 ∧ h2 143 0 = r2) ∧ h2 1000003 = h 1000003 ∧ h2 1000004 = h 1000004 ∧ Inv ζ h2) → G l (D + 2) mc' ms' mL_law (zz ζ) 516 [aP 1000003, aP 0, aP 97, aP 143, aI x4, aU, aU] [aI k0] h1 Q := by
    intro mc' ms' k0 h1 hk e3 e4 m1 m2 hm
    refine g_istore (ls' := [aP 1000003, aP 0, aP 97, aP 143, aI x4, aI k0, aU]) dL_law_516 (Nat.le_of_ble_eq_true rfl) rfl rfl ?_
    have e4' : h1 1000004 0 = h 1000004 0 := by rw [e4]
    refine g_aload_n dL_law_518 rfl ?_
    refine g_aload_n dL_law_519 rfl ?_
    refine g_iload dL_law_520 rfl ?_
    refine g_iconst dL_law_522 ?_
    refine g_iadd dL_law_523 ?_
    refine g_sld dL_law_524 (by rw [e4']; omega) (by rw [e4']; omega) ?_
    refine g_aload_n dL_law_525 rfl ?_
    refine g_iload dL_law_526 rfl ?_
    refine g_iconst dL_law_528 ?_
    refine g_iadd dL_law_529 ?_
    refine g_sld dL_law_530 (by rw [e4']; omega) (by rw [e4']; omega) ?_
    rw [e3]
    refine g_callVI (n := 2) (As := [aI (h 1000003 (x4 + 1)), aI (h 1000003 (x4 + 2))]) (st := []) dL_law_531 ml_L_67 sh_97 rfl (al_97 hn) rfl rfl (Nat.le_of_ble_eq_true rfl) (RtI.mono hm (fun r2 h2 w => ?_))
    obtain ⟨w1, w2, w3, w4, w5⟩ := w
    refine g_istore (ls' := [aP 1000003, aP 0, aP 97, aP 143, aI x4, aI k0, aI r2]) dL_law_534 (Nat.le_of_ble_eq_true rfl) rfl rfl ?_
    refine g_aload_n dL_law_536 rfl ?_
    refine g_callVI (n := 0) (As := []) (st := []) dL_law_537 ml_L_68 sh_97 rfl (al_97 hn) rfl rfl (Nat.le_of_ble_eq_true rfl) (e_X12_thrown hn ?_)
    rw [w1]
    have rk : rg k0 := by rcases hk with z | z <;> rw [z] <;> decide
    refine g_iload dL_law_540 rfl ?_
    refine g_cmp_eq (tgt := 547) dL_law_542 rfl rk rk ?_
    refine iteP rfl ?_
    refine g_iload dL_law_547 rfl ?_
    refine g_if_ne (tgt := 564) dL_law_549 rfl rk ?_
    have fin : G l (D + 2) mc' ms' mL_law (zz ζ) 564 [aP 1000003, aP 0, aP 97, aP 143, aI x4, aI k0, aI r2] [] h2 Q := g_goto (tgt := 1607) dL_law_564 rfl (law_next (k mc' ms' h2 m1 m2 w3 w4 w5))
    rcases hk with z | z
    · refine iteN (fun q => q z) ?_
      obtain ⟨v1, v2⟩ := w2 z
      have lr : rl r2 := by unfold rg at v1; unfold rl; omega
      refine g_aload_n dL_law_552 rfl ?_
      refine g_iconst dL_law_553 ?_
      refine g_lald dL_law_554 sh_143 (al_143 hn) (Nat.le_of_ble_eq_true rfl) (by omega) ?_
      refine g_iload dL_law_555 rfl ?_
      refine g_i2l dL_law_557 v1 ?_
      refine g_lcmp dL_law_558 (by rw [v2]; exact lr) lr ?_
      have e0 : lcm3 (h2 143 0) r2 = 0 := lcm3_eq.mp v2
      rw [e0]
      refine g_if_eq (tgt := 564) dL_law_559 rfl (by decide) ?_
      exact iteP rfl fin
    · exact iteP (by rw [z]; decide) fin
  rcases op with ⟨hx, hm⟩ | hx
  · refine g_callSW (mc' := 1) (ms' := 6) (mcR := mc - 1) (msR := ms - 6) (n := 4) (As := [aP 0, aI (h 1000003 (x4 + 1)), aI (h 1000003 (x4 + 2)), aP 143]) (st := []) dL_law_513 mw_L_lean rfl rfl (Nat.le_of_ble_eq_true rfl) (by omega) (by omega) (law_ls0 hn rfl rfl) rfl ?_
    refine RetW.mono (x_L_lean (Q := fun r h' => r = 1 ∧ h' = h) hn hx ⟨rfl, rfl⟩) ?_
    rintro v h' z' ⟨ez, r, ev, er, eh⟩
    subst er eh
    refine ⟨1, ev, ?_⟩
    rw [ez]
    exact tail (mc - 1) (ms - 6) 1 h' (Or.inr rfl) rfl rfl (by omega) (by omega) (RtI.deep (by omega) (RtI.mono hm (fun r2 h2 q => ⟨q.1, fun z => by omega, q.2.1, q.2.2.1, q.2.2.2⟩)))
  · refine g_callSW (mc' := 0) (ms' := 0) (mcR := mc) (msR := ms) (n := 4) (As := [aP 0, aI (h 1000003 (x4 + 1)), aI (h 1000003 (x4 + 2)), aP 143]) (st := []) dL_law_513 mw_L_lean rfl rfl (Nat.le_of_ble_eq_true rfl) (by omega) (by omega) (law_ls0 hn rfl rfl) rfl ?_
    refine RetW.mono (n_L_lean (Q := fun r h' => r = 0 ∧ h' 1000003 = h 1000003 ∧ h' 1000004 = h 1000004 ∧ ∃ r1 : Int, rg r1 ∧ RtI l D mX12_lean (zz ζ) (aP 97 :: [aI (h 1000003 (x4 + 1)), aI (h 1000003 (x4 + 2))]) h' (fun r2 h2 => rg r2 ∧ r1 = r2 ∧ h2 97 0 = 0 ∧ h2 143 0 = r1 ∧ h2 1000003 = h 1000003 ∧ h2 1000004 = h 1000004 ∧ Inv ζ h2)) hn (RtI.mono hx (fun r1 h1 q => ⟨q.2.2.1, rfl, by rw [hu_c _ _ _ (by decide)]; exact q.1, by rw [hu_c _ _ _ (by decide)]; exact q.2.1, r1, q.2.2.1, q.2.2.2⟩))) ?_
    rintro v h' z' ⟨ez, r, ev, er, e3, e4, r1, rr, hm⟩
    subst er
    refine ⟨0, ev, ?_⟩
    rw [ez]
    exact tail mc ms 0 h' (Or.inl rfl) e3 e4 (by omega) (by omega) (RtI.deep (by omega) (RtI.mono hm (fun r2 h2 q => ⟨q.2.2.1, fun _ => ⟨q.1, q.2.2.2.1.trans q.2.1⟩, q.2.2.2.2.1, q.2.2.2.2.2.1, q.2.2.2.2.2.2⟩)))
theorem b_L_about (hn : 144 ≤ ζ.2.2.2.2) (hl : 0 ≤ x4 ∧ x4 + 5 < h 1000004 0 ∧ h 1000004 0 ≤ 3072) (op : OpT l D ζ mX11_about mX12_about [aI (h 1000003 (x4 + 1)), aI (h 1000003 (x4 + 2))] h) (hmc : 1 ≤ mc) (hms : 6 ≤ ms) (k : ∀ mc' ms' h2, mc ≤ mc' + 1 → ms ≤ ms' + 6 → h2 1000003 = h 1000003 → h2 1000004 = h 1000004 → Inv ζ h2 → G l (D + 2) mc' ms' mL_law (zz ζ) 23 [aP 1000003, aP 0, aP 97, aP 143, aI (x4 + 6), aU, aU] [] h2 Q) : G l (D + 2) mc ms mL_law (zz ζ) 567 [aP 1000003, aP 0, aP 97, aP 143, aI x4, aU, aU] [] h Q := by
  refine g_aload_n dL_law_567 rfl ?_
  refine g_aload_n dL_law_568 rfl ?_
  refine g_iload dL_law_569 rfl ?_
  refine g_iconst dL_law_571 ?_
  refine g_iadd dL_law_572 ?_
  refine g_sld dL_law_573 (by omega) (by omega) ?_
  refine g_aload_n dL_law_574 rfl ?_
  refine g_iload dL_law_575 rfl ?_
  refine g_iconst dL_law_577 ?_
  refine g_iadd dL_law_578 ?_
  refine g_sld dL_law_579 (by omega) (by omega) ?_
  refine g_aload_n dL_law_580 rfl ?_
  -- behind the helper
  have tail : ∀ (mc' ms' : Nat) (k0 : Int) (h1 : HI), (k0 = 0 ∨ k0 = 1) → h1 1000003 = h 1000003 → h1 1000004 = h 1000004 → mc ≤ mc' + 1 → ms ≤ ms' + 6 → RtI l (D + 1) mX12_about (zz ζ) (aP 97 :: [aI (h 1000003 (x4 + 1)), aI (h 1000003 (x4 + 2))]) h1 (fun r2 h2 => h2 97 0 = k0 ∧ (k0 = 0 → rg r2 ∧ h2 143 0 = r2) ∧ h2 1000003 = h 1000003 ∧ h2 1000004 = h 1000004 ∧ Inv ζ h2) → G l (D + 2) mc' ms' mL_law (zz ζ) 584 [aP 1000003, aP 0, aP 97, aP 143, aI x4, aU, aU] [aI k0] h1 Q := by
    intro mc' ms' k0 h1 hk e3 e4 m1 m2 hm
    refine g_istore (ls' := [aP 1000003, aP 0, aP 97, aP 143, aI x4, aI k0, aU]) dL_law_584 (Nat.le_of_ble_eq_true rfl) rfl rfl ?_
    have e4' : h1 1000004 0 = h 1000004 0 := by rw [e4]
    refine g_aload_n dL_law_586 rfl ?_
    refine g_aload_n dL_law_587 rfl ?_
    refine g_iload dL_law_588 rfl ?_
    refine g_iconst dL_law_590 ?_
    refine g_iadd dL_law_591 ?_
    refine g_sld dL_law_592 (by rw [e4']; omega) (by rw [e4']; omega) ?_
    refine g_aload_n dL_law_593 rfl ?_
    refine g_iload dL_law_594 rfl ?_
    refine g_iconst dL_law_596 ?_
    refine g_iadd dL_law_597 ?_
    refine g_sld dL_law_598 (by rw [e4']; omega) (by rw [e4']; omega) ?_
    rw [e3]
    refine g_callVI (n := 2) (As := [aI (h 1000003 (x4 + 1)), aI (h 1000003 (x4 + 2))]) (st := []) dL_law_599 ml_L_73 sh_97 rfl (al_97 hn) rfl rfl (Nat.le_of_ble_eq_true rfl) (RtI.mono hm (fun r2 h2 w => ?_))
    obtain ⟨w1, w2, w3, w4, w5⟩ := w
    refine g_istore (ls' := [aP 1000003, aP 0, aP 97, aP 143, aI x4, aI k0, aI r2]) dL_law_602 (Nat.le_of_ble_eq_true rfl) rfl rfl ?_
    refine g_aload_n dL_law_604 rfl ?_
    refine g_callVI (n := 0) (As := []) (st := []) dL_law_605 ml_L_68 sh_97 rfl (al_97 hn) rfl rfl (Nat.le_of_ble_eq_true rfl) (e_X12_thrown hn ?_)
    rw [w1]
    have rk : rg k0 := by rcases hk with z | z <;> rw [z] <;> decide
    refine g_iload dL_law_608 rfl ?_
    refine g_cmp_eq (tgt := 615) dL_law_610 rfl rk rk ?_
    refine iteP rfl ?_
    refine g_iload dL_law_615 rfl ?_
    refine g_if_ne (tgt := 632) dL_law_617 rfl rk ?_
    have fin : G l (D + 2) mc' ms' mL_law (zz ζ) 632 [aP 1000003, aP 0, aP 97, aP 143, aI x4, aI k0, aI r2] [] h2 Q := g_goto (tgt := 1607) dL_law_632 rfl (law_next (k mc' ms' h2 m1 m2 w3 w4 w5))
    rcases hk with z | z
    · refine iteN (fun q => q z) ?_
      obtain ⟨v1, v2⟩ := w2 z
      have lr : rl r2 := by unfold rg at v1; unfold rl; omega
      refine g_aload_n dL_law_620 rfl ?_
      refine g_iconst dL_law_621 ?_
      refine g_lald dL_law_622 sh_143 (al_143 hn) (Nat.le_of_ble_eq_true rfl) (by omega) ?_
      refine g_iload dL_law_623 rfl ?_
      refine g_i2l dL_law_625 v1 ?_
      refine g_lcmp dL_law_626 (by rw [v2]; exact lr) lr ?_
      have e0 : lcm3 (h2 143 0) r2 = 0 := lcm3_eq.mp v2
      rw [e0]
      refine g_if_eq (tgt := 632) dL_law_627 rfl (by decide) ?_
      exact iteP rfl fin
    · exact iteP (by rw [z]; decide) fin
  rcases op with ⟨hx, hm⟩ | hx
  · refine g_callSW (mc' := 1) (ms' := 6) (mcR := mc - 1) (msR := ms - 6) (n := 4) (As := [aP 0, aI (h 1000003 (x4 + 1)), aI (h 1000003 (x4 + 2)), aP 143]) (st := []) dL_law_581 mw_L_about rfl rfl (Nat.le_of_ble_eq_true rfl) (by omega) (by omega) (law_ls0 hn rfl rfl) rfl ?_
    refine RetW.mono (x_L_about (Q := fun r h' => r = 1 ∧ h' = h) hn hx ⟨rfl, rfl⟩) ?_
    rintro v h' z' ⟨ez, r, ev, er, eh⟩
    subst er eh
    refine ⟨1, ev, ?_⟩
    rw [ez]
    exact tail (mc - 1) (ms - 6) 1 h' (Or.inr rfl) rfl rfl (by omega) (by omega) (RtI.deep (by omega) (RtI.mono hm (fun r2 h2 q => ⟨q.1, fun z => by omega, q.2.1, q.2.2.1, q.2.2.2⟩)))
  · refine g_callSW (mc' := 0) (ms' := 0) (mcR := mc) (msR := ms) (n := 4) (As := [aP 0, aI (h 1000003 (x4 + 1)), aI (h 1000003 (x4 + 2)), aP 143]) (st := []) dL_law_581 mw_L_about rfl rfl (Nat.le_of_ble_eq_true rfl) (by omega) (by omega) (law_ls0 hn rfl rfl) rfl ?_
    refine RetW.mono (n_L_about (Q := fun r h' => r = 0 ∧ h' 1000003 = h 1000003 ∧ h' 1000004 = h 1000004 ∧ ∃ r1 : Int, rg r1 ∧ RtI l D mX12_about (zz ζ) (aP 97 :: [aI (h 1000003 (x4 + 1)), aI (h 1000003 (x4 + 2))]) h' (fun r2 h2 => rg r2 ∧ r1 = r2 ∧ h2 97 0 = 0 ∧ h2 143 0 = r1 ∧ h2 1000003 = h 1000003 ∧ h2 1000004 = h 1000004 ∧ Inv ζ h2)) hn (RtI.mono hx (fun r1 h1 q => ⟨q.2.2.1, rfl, by rw [hu_c _ _ _ (by decide)]; exact q.1, by rw [hu_c _ _ _ (by decide)]; exact q.2.1, r1, q.2.2.1, q.2.2.2⟩))) ?_
    rintro v h' z' ⟨ez, r, ev, er, e3, e4, r1, rr, hm⟩
    subst er
    refine ⟨0, ev, ?_⟩
    rw [ez]
    exact tail mc ms 0 h' (Or.inl rfl) e3 e4 (by omega) (by omega) (RtI.deep (by omega) (RtI.mono hm (fun r2 h2 q => ⟨q.2.2.1, fun _ => ⟨q.1, q.2.2.2.1.trans q.2.1⟩, q.2.2.2.2.1, q.2.2.2.2.2.1, q.2.2.2.2.2.2⟩)))
theorem b_L_fall (hn : 144 ≤ ζ.2.2.2.2) (hl : 0 ≤ x4 ∧ x4 + 5 < h 1000004 0 ∧ h 1000004 0 ≤ 3072) (op : OpT l D ζ mX11_fall mX12_fall [aI (h 1000003 (x4 + 1)), aI (h 1000003 (x4 + 2))] h) (hmc : 1 ≤ mc) (hms : 6 ≤ ms) (k : ∀ mc' ms' h2, mc ≤ mc' + 1 → ms ≤ ms' + 6 → h2 1000003 = h 1000003 → h2 1000004 = h 1000004 → Inv ζ h2 → G l (D + 2) mc' ms' mL_law (zz ζ) 23 [aP 1000003, aP 0, aP 97, aP 143, aI (x4 + 6), aU, aU] [] h2 Q) : G l (D + 2) mc ms mL_law (zz ζ) 648 [aP 1000003, aP 0, aP 97, aP 143, aI x4, aU, aU] [] h Q := by
  refine g_aload_n dL_law_648 rfl ?_
  refine g_aload_n dL_law_649 rfl ?_
  refine g_iload dL_law_650 rfl ?_
  refine g_iconst dL_law_652 ?_
  refine g_iadd dL_law_653 ?_
  refine g_sld dL_law_654 (by omega) (by omega) ?_
  refine g_aload_n dL_law_655 rfl ?_
  refine g_iload dL_law_656 rfl ?_
  refine g_iconst dL_law_658 ?_
  refine g_iadd dL_law_659 ?_
  refine g_sld dL_law_660 (by omega) (by omega) ?_
  refine g_aload_n dL_law_661 rfl ?_
  -- behind the helper
  have tail : ∀ (mc' ms' : Nat) (k0 : Int) (h1 : HI), (k0 = 0 ∨ k0 = 1) → h1 1000003 = h 1000003 → h1 1000004 = h 1000004 → mc ≤ mc' + 1 → ms ≤ ms' + 6 → RtI l (D + 1) mX12_fall (zz ζ) (aP 97 :: [aI (h 1000003 (x4 + 1)), aI (h 1000003 (x4 + 2))]) h1 (fun r2 h2 => h2 97 0 = k0 ∧ (k0 = 0 → rg r2 ∧ h2 143 0 = r2) ∧ h2 1000003 = h 1000003 ∧ h2 1000004 = h 1000004 ∧ Inv ζ h2) → G l (D + 2) mc' ms' mL_law (zz ζ) 665 [aP 1000003, aP 0, aP 97, aP 143, aI x4, aU, aU] [aI k0] h1 Q := by
    intro mc' ms' k0 h1 hk e3 e4 m1 m2 hm
    refine g_istore (ls' := [aP 1000003, aP 0, aP 97, aP 143, aI x4, aI k0, aU]) dL_law_665 (Nat.le_of_ble_eq_true rfl) rfl rfl ?_
    have e4' : h1 1000004 0 = h 1000004 0 := by rw [e4]
    refine g_aload_n dL_law_667 rfl ?_
    refine g_aload_n dL_law_668 rfl ?_
    refine g_iload dL_law_669 rfl ?_
    refine g_iconst dL_law_671 ?_
    refine g_iadd dL_law_672 ?_
    refine g_sld dL_law_673 (by rw [e4']; omega) (by rw [e4']; omega) ?_
    refine g_aload_n dL_law_674 rfl ?_
    refine g_iload dL_law_675 rfl ?_
    refine g_iconst dL_law_677 ?_
    refine g_iadd dL_law_678 ?_
    refine g_sld dL_law_679 (by rw [e4']; omega) (by rw [e4']; omega) ?_
    rw [e3]
    refine g_callVI (n := 2) (As := [aI (h 1000003 (x4 + 1)), aI (h 1000003 (x4 + 2))]) (st := []) dL_law_680 ml_L_80 sh_97 rfl (al_97 hn) rfl rfl (Nat.le_of_ble_eq_true rfl) (RtI.mono hm (fun r2 h2 w => ?_))
    obtain ⟨w1, w2, w3, w4, w5⟩ := w
    refine g_istore (ls' := [aP 1000003, aP 0, aP 97, aP 143, aI x4, aI k0, aI r2]) dL_law_683 (Nat.le_of_ble_eq_true rfl) rfl rfl ?_
    refine g_aload_n dL_law_685 rfl ?_
    refine g_callVI (n := 0) (As := []) (st := []) dL_law_686 ml_L_68 sh_97 rfl (al_97 hn) rfl rfl (Nat.le_of_ble_eq_true rfl) (e_X12_thrown hn ?_)
    rw [w1]
    have rk : rg k0 := by rcases hk with z | z <;> rw [z] <;> decide
    refine g_iload dL_law_689 rfl ?_
    refine g_cmp_eq (tgt := 696) dL_law_691 rfl rk rk ?_
    refine iteP rfl ?_
    refine g_iload dL_law_696 rfl ?_
    refine g_if_ne (tgt := 713) dL_law_698 rfl rk ?_
    have fin : G l (D + 2) mc' ms' mL_law (zz ζ) 713 [aP 1000003, aP 0, aP 97, aP 143, aI x4, aI k0, aI r2] [] h2 Q := g_goto (tgt := 1607) dL_law_713 rfl (law_next (k mc' ms' h2 m1 m2 w3 w4 w5))
    rcases hk with z | z
    · refine iteN (fun q => q z) ?_
      obtain ⟨v1, v2⟩ := w2 z
      have lr : rl r2 := by unfold rg at v1; unfold rl; omega
      refine g_aload_n dL_law_701 rfl ?_
      refine g_iconst dL_law_702 ?_
      refine g_lald dL_law_703 sh_143 (al_143 hn) (Nat.le_of_ble_eq_true rfl) (by omega) ?_
      refine g_iload dL_law_704 rfl ?_
      refine g_i2l dL_law_706 v1 ?_
      refine g_lcmp dL_law_707 (by rw [v2]; exact lr) lr ?_
      have e0 : lcm3 (h2 143 0) r2 = 0 := lcm3_eq.mp v2
      rw [e0]
      refine g_if_eq (tgt := 713) dL_law_708 rfl (by decide) ?_
      exact iteP rfl fin
    · exact iteP (by rw [z]; decide) fin
  rcases op with ⟨hx, hm⟩ | hx
  · refine g_callSW (mc' := 1) (ms' := 6) (mcR := mc - 1) (msR := ms - 6) (n := 4) (As := [aP 0, aI (h 1000003 (x4 + 1)), aI (h 1000003 (x4 + 2)), aP 143]) (st := []) dL_law_662 mw_L_fall rfl rfl (Nat.le_of_ble_eq_true rfl) (by omega) (by omega) (law_ls0 hn rfl rfl) rfl ?_
    refine RetW.mono (x_L_fall (Q := fun r h' => r = 1 ∧ h' = h) hn hx ⟨rfl, rfl⟩) ?_
    rintro v h' z' ⟨ez, r, ev, er, eh⟩
    subst er eh
    refine ⟨1, ev, ?_⟩
    rw [ez]
    exact tail (mc - 1) (ms - 6) 1 h' (Or.inr rfl) rfl rfl (by omega) (by omega) (RtI.deep (by omega) (RtI.mono hm (fun r2 h2 q => ⟨q.1, fun z => by omega, q.2.1, q.2.2.1, q.2.2.2⟩)))
  · refine g_callSW (mc' := 0) (ms' := 0) (mcR := mc) (msR := ms) (n := 4) (As := [aP 0, aI (h 1000003 (x4 + 1)), aI (h 1000003 (x4 + 2)), aP 143]) (st := []) dL_law_662 mw_L_fall rfl rfl (Nat.le_of_ble_eq_true rfl) (by omega) (by omega) (law_ls0 hn rfl rfl) rfl ?_
    refine RetW.mono (n_L_fall (Q := fun r h' => r = 0 ∧ h' 1000003 = h 1000003 ∧ h' 1000004 = h 1000004 ∧ ∃ r1 : Int, rg r1 ∧ RtI l D mX12_fall (zz ζ) (aP 97 :: [aI (h 1000003 (x4 + 1)), aI (h 1000003 (x4 + 2))]) h' (fun r2 h2 => rg r2 ∧ r1 = r2 ∧ h2 97 0 = 0 ∧ h2 143 0 = r1 ∧ h2 1000003 = h 1000003 ∧ h2 1000004 = h 1000004 ∧ Inv ζ h2)) hn (RtI.mono hx (fun r1 h1 q => ⟨q.2.2.1, rfl, by rw [hu_c _ _ _ (by decide)]; exact q.1, by rw [hu_c _ _ _ (by decide)]; exact q.2.1, r1, q.2.2.1, q.2.2.2⟩))) ?_
    rintro v h' z' ⟨ez, r, ev, er, e3, e4, r1, rr, hm⟩
    subst er
    refine ⟨0, ev, ?_⟩
    rw [ez]
    exact tail mc ms 0 h' (Or.inl rfl) e3 e4 (by omega) (by omega) (RtI.deep (by omega) (RtI.mono hm (fun r2 h2 q => ⟨q.2.2.1, fun _ => ⟨q.1, q.2.2.2.1.trans q.2.1⟩, q.2.2.2.2.1, q.2.2.2.2.2.1, q.2.2.2.2.2.2⟩)))
theorem b_L_row (hn : 144 ≤ ζ.2.2.2.2) (hl : 0 ≤ x4 ∧ x4 + 5 < h 1000004 0 ∧ h 1000004 0 ≤ 3072) (op : OpT l D ζ mX11_row mX12_row [aI (h 1000003 (x4 + 1)), aI (h 1000003 (x4 + 2)), aI (h 1000003 (x4 + 3))] h) (hmc : 1 ≤ mc) (hms : 6 ≤ ms) (k : ∀ mc' ms' h2, mc ≤ mc' + 1 → ms ≤ ms' + 6 → h2 1000003 = h 1000003 → h2 1000004 = h 1000004 → Inv ζ h2 → G l (D + 2) mc' ms' mL_law (zz ζ) 23 [aP 1000003, aP 0, aP 97, aP 143, aI (x4 + 6), aU, aU] [] h2 Q) : G l (D + 2) mc ms mL_law (zz ζ) 1090 [aP 1000003, aP 0, aP 97, aP 143, aI x4, aU, aU] [] h Q := by
  refine g_aload_n dL_law_1090 rfl ?_
  refine g_aload_n dL_law_1091 rfl ?_
  refine g_iload dL_law_1092 rfl ?_
  refine g_iconst dL_law_1094 ?_
  refine g_iadd dL_law_1095 ?_
  refine g_sld dL_law_1096 (by omega) (by omega) ?_
  refine g_aload_n dL_law_1097 rfl ?_
  refine g_iload dL_law_1098 rfl ?_
  refine g_iconst dL_law_1100 ?_
  refine g_iadd dL_law_1101 ?_
  refine g_sld dL_law_1102 (by omega) (by omega) ?_
  refine g_aload_n dL_law_1103 rfl ?_
  refine g_iload dL_law_1104 rfl ?_
  refine g_iconst dL_law_1106 ?_
  refine g_iadd dL_law_1107 ?_
  refine g_sld dL_law_1108 (by omega) (by omega) ?_
  refine g_aload_n dL_law_1109 rfl ?_
  -- behind the helper
  have tail : ∀ (mc' ms' : Nat) (k0 : Int) (h1 : HI), (k0 = 0 ∨ k0 = 1) → h1 1000003 = h 1000003 → h1 1000004 = h 1000004 → mc ≤ mc' + 1 → ms ≤ ms' + 6 → RtI l (D + 1) mX12_row (zz ζ) (aP 97 :: [aI (h 1000003 (x4 + 1)), aI (h 1000003 (x4 + 2)), aI (h 1000003 (x4 + 3))]) h1 (fun r2 h2 => h2 97 0 = k0 ∧ (k0 = 0 → rg r2 ∧ h2 143 0 = r2) ∧ h2 1000003 = h 1000003 ∧ h2 1000004 = h 1000004 ∧ Inv ζ h2) → G l (D + 2) mc' ms' mL_law (zz ζ) 1113 [aP 1000003, aP 0, aP 97, aP 143, aI x4, aU, aU] [aI k0] h1 Q := by
    intro mc' ms' k0 h1 hk e3 e4 m1 m2 hm
    refine g_istore (ls' := [aP 1000003, aP 0, aP 97, aP 143, aI x4, aI k0, aU]) dL_law_1113 (Nat.le_of_ble_eq_true rfl) rfl rfl ?_
    have e4' : h1 1000004 0 = h 1000004 0 := by rw [e4]
    refine g_aload_n dL_law_1115 rfl ?_
    refine g_aload_n dL_law_1116 rfl ?_
    refine g_iload dL_law_1117 rfl ?_
    refine g_iconst dL_law_1119 ?_
    refine g_iadd dL_law_1120 ?_
    refine g_sld dL_law_1121 (by rw [e4']; omega) (by rw [e4']; omega) ?_
    refine g_aload_n dL_law_1122 rfl ?_
    refine g_iload dL_law_1123 rfl ?_
    refine g_iconst dL_law_1125 ?_
    refine g_iadd dL_law_1126 ?_
    refine g_sld dL_law_1127 (by rw [e4']; omega) (by rw [e4']; omega) ?_
    refine g_aload_n dL_law_1128 rfl ?_
    refine g_iload dL_law_1129 rfl ?_
    refine g_iconst dL_law_1131 ?_
    refine g_iadd dL_law_1132 ?_
    refine g_sld dL_law_1133 (by rw [e4']; omega) (by rw [e4']; omega) ?_
    rw [e3]
    refine g_callVI (n := 3) (As := [aI (h 1000003 (x4 + 1)), aI (h 1000003 (x4 + 2)), aI (h 1000003 (x4 + 3))]) (st := []) dL_law_1134 ml_L_140 sh_97 rfl (al_97 hn) rfl rfl (Nat.le_of_ble_eq_true rfl) (RtI.mono hm (fun r2 h2 w => ?_))
    obtain ⟨w1, w2, w3, w4, w5⟩ := w
    refine g_istore (ls' := [aP 1000003, aP 0, aP 97, aP 143, aI x4, aI k0, aI r2]) dL_law_1137 (Nat.le_of_ble_eq_true rfl) rfl rfl ?_
    refine g_aload_n dL_law_1139 rfl ?_
    refine g_callVI (n := 0) (As := []) (st := []) dL_law_1140 ml_L_68 sh_97 rfl (al_97 hn) rfl rfl (Nat.le_of_ble_eq_true rfl) (e_X12_thrown hn ?_)
    rw [w1]
    have rk : rg k0 := by rcases hk with z | z <;> rw [z] <;> decide
    refine g_iload dL_law_1143 rfl ?_
    refine g_cmp_eq (tgt := 1150) dL_law_1145 rfl rk rk ?_
    refine iteP rfl ?_
    refine g_iload dL_law_1150 rfl ?_
    refine g_if_ne (tgt := 1167) dL_law_1152 rfl rk ?_
    have fin : G l (D + 2) mc' ms' mL_law (zz ζ) 1167 [aP 1000003, aP 0, aP 97, aP 143, aI x4, aI k0, aI r2] [] h2 Q := g_goto (tgt := 1607) dL_law_1167 rfl (law_next (k mc' ms' h2 m1 m2 w3 w4 w5))
    rcases hk with z | z
    · refine iteN (fun q => q z) ?_
      obtain ⟨v1, v2⟩ := w2 z
      have lr : rl r2 := by unfold rg at v1; unfold rl; omega
      refine g_aload_n dL_law_1155 rfl ?_
      refine g_iconst dL_law_1156 ?_
      refine g_lald dL_law_1157 sh_143 (al_143 hn) (Nat.le_of_ble_eq_true rfl) (by omega) ?_
      refine g_iload dL_law_1158 rfl ?_
      refine g_i2l dL_law_1160 v1 ?_
      refine g_lcmp dL_law_1161 (by rw [v2]; exact lr) lr ?_
      have e0 : lcm3 (h2 143 0) r2 = 0 := lcm3_eq.mp v2
      rw [e0]
      refine g_if_eq (tgt := 1167) dL_law_1162 rfl (by decide) ?_
      exact iteP rfl fin
    · exact iteP (by rw [z]; decide) fin
  rcases op with ⟨hx, hm⟩ | hx
  · refine g_callSW (mc' := 1) (ms' := 6) (mcR := mc - 1) (msR := ms - 6) (n := 5) (As := [aP 0, aI (h 1000003 (x4 + 1)), aI (h 1000003 (x4 + 2)), aI (h 1000003 (x4 + 3)), aP 143]) (st := []) dL_law_1110 mw_L_row rfl rfl (Nat.le_of_ble_eq_true rfl) (by omega) (by omega) (law_ls0 hn rfl rfl) rfl ?_
    refine RetW.mono (x_L_row (Q := fun r h' => r = 1 ∧ h' = h) hn hx ⟨rfl, rfl⟩) ?_
    rintro v h' z' ⟨ez, r, ev, er, eh⟩
    subst er eh
    refine ⟨1, ev, ?_⟩
    rw [ez]
    exact tail (mc - 1) (ms - 6) 1 h' (Or.inr rfl) rfl rfl (by omega) (by omega) (RtI.deep (by omega) (RtI.mono hm (fun r2 h2 q => ⟨q.1, fun z => by omega, q.2.1, q.2.2.1, q.2.2.2⟩)))
  · refine g_callSW (mc' := 0) (ms' := 0) (mcR := mc) (msR := ms) (n := 5) (As := [aP 0, aI (h 1000003 (x4 + 1)), aI (h 1000003 (x4 + 2)), aI (h 1000003 (x4 + 3)), aP 143]) (st := []) dL_law_1110 mw_L_row rfl rfl (Nat.le_of_ble_eq_true rfl) (by omega) (by omega) (law_ls0 hn rfl rfl) rfl ?_
    refine RetW.mono (n_L_row (Q := fun r h' => r = 0 ∧ h' 1000003 = h 1000003 ∧ h' 1000004 = h 1000004 ∧ ∃ r1 : Int, rg r1 ∧ RtI l D mX12_row (zz ζ) (aP 97 :: [aI (h 1000003 (x4 + 1)), aI (h 1000003 (x4 + 2)), aI (h 1000003 (x4 + 3))]) h' (fun r2 h2 => rg r2 ∧ r1 = r2 ∧ h2 97 0 = 0 ∧ h2 143 0 = r1 ∧ h2 1000003 = h 1000003 ∧ h2 1000004 = h 1000004 ∧ Inv ζ h2)) hn (RtI.mono hx (fun r1 h1 q => ⟨q.2.2.1, rfl, by rw [hu_c _ _ _ (by decide)]; exact q.1, by rw [hu_c _ _ _ (by decide)]; exact q.2.1, r1, q.2.2.1, q.2.2.2⟩))) ?_
    rintro v h' z' ⟨ez, r, ev, er, e3, e4, r1, rr, hm⟩
    subst er
    refine ⟨0, ev, ?_⟩
    rw [ez]
    exact tail mc ms 0 h' (Or.inl rfl) e3 e4 (by omega) (by omega) (RtI.deep (by omega) (RtI.mono hm (fun r2 h2 q => ⟨q.2.2.1, fun _ => ⟨q.1, q.2.2.2.1.trans q.2.1⟩, q.2.2.2.2.1, q.2.2.2.2.2.1, q.2.2.2.2.2.2⟩)))
theorem b_L_welds {mo mp : Nat} (hn : 144 ≤ ζ.2.2.2.2) (hl : 0 ≤ x4 ∧ x4 + 5 < h 1000004 0 ∧ h 1000004 0 ≤ 3072) (op : OpZ l D mo mp ζ mX11_welds mX12_welds [] h) (hmc : mo ≤ mc) (hms : mp ≤ ms) (k : ∀ mc' ms' ζ2 h2, mc ≤ mc' + mo → ms ≤ ms' + mp → h2 1000003 = h 1000003 → h2 1000004 = h 1000004 → Inv ζ2 h2 → G l (D + 1) mc' ms' mL_law (zz ζ2) 23 [aP 1000003, aP 0, aP 97, aP 143, aI (x4 + 6), aU, aU] [] h2 Q) : G l (D + 1) mc ms mL_law (zz ζ) 1468 [aP 1000003, aP 0, aP 97, aP 143, aI x4, aU, aU] [] h Q := by
  refine g_aload_n dL_law_1468 rfl ?_
  refine g_callVM (mc' := mo) (ms' := mp) (mcR := mc - mo) (msR := ms - mp) (n := 0) (As := []) (st := []) dL_law_1469 ml_L_182 sh_0 rfl (al_0 hn) rfl rfl (Nat.le_of_ble_eq_true rfl) (by omega) (by omega) (law_ls0 hn rfl rfl) rfl ?_
  refine Ret.mono2 op ?_
  rintro v h1 z1 zle ⟨ζ1, r1, ev, ez, e3, e4, hm⟩
  refine ⟨r1, ev, ?_⟩
  rw [ez]
  have hn1 : 144 ≤ ζ1.2.2.2.2 := by rw [ez] at zle; exact Nat.le_trans hn zle
  have e4' : h1 1000004 0 = h 1000004 0 := by rw [e4]
  refine g_aload_n dL_law_1472 rfl ?_
  refine g_callVI (n := 0) (As := []) (st := [aI r1]) dL_law_1473 ml_L_185 sh_97 rfl (al_97 hn1) rfl rfl (Nat.le_of_ble_eq_true rfl) (RtI.mono hm (fun r2 h2 q => ?_))
  refine g_cmp_eq (tgt := 1607) dL_law_1476 rfl q.1 q.2.1 ?_
  exact iteP q.2.2.1 (law_next (k (mc - mo) (ms - mp) ζ1 h2 (by omega) (by omega) q.2.2.2.1 q.2.2.2.2.1 q.2.2.2.2.2))
theorem b_L_image {mo mp : Nat} (hn : 144 ≤ ζ.2.2.2.2) (hl : 0 ≤ x4 ∧ x4 + 5 < h 1000004 0 ∧ h 1000004 0 ≤ 3072) (op : OpZ l D mo mp ζ mX11_image mX12_image [aI (h 1000003 (x4 + 1))] h) (hmc : mo ≤ mc) (hms : mp ≤ ms) (k : ∀ mc' ms' ζ2 h2, mc ≤ mc' + mo → ms ≤ ms' + mp → h2 1000003 = h 1000003 → h2 1000004 = h 1000004 → Inv ζ2 h2 → G l (D + 1) mc' ms' mL_law (zz ζ2) 23 [aP 1000003, aP 0, aP 97, aP 143, aI (x4 + 6), aU, aU] [] h2 Q) : G l (D + 1) mc ms mL_law (zz ζ) 1532 [aP 1000003, aP 0, aP 97, aP 143, aI x4, aU, aU] [] h Q := by
  refine g_aload_n dL_law_1532 rfl ?_
  refine g_aload_n dL_law_1533 rfl ?_
  refine g_iload dL_law_1534 rfl ?_
  refine g_iconst dL_law_1536 ?_
  refine g_iadd dL_law_1537 ?_
  refine g_sld dL_law_1538 (by omega) (by omega) ?_
  refine g_callVM (mc' := mo) (ms' := mp) (mcR := mc - mo) (msR := ms - mp) (n := 1) (As := [aI (h 1000003 (x4 + 1))]) (st := []) dL_law_1539 ml_L_198 sh_0 rfl (al_0 hn) rfl rfl (Nat.le_of_ble_eq_true rfl) (by omega) (by omega) (law_ls0 hn rfl rfl) rfl ?_
  refine Ret.mono2 op ?_
  rintro v h1 z1 zle ⟨ζ1, r1, ev, ez, e3, e4, hm⟩
  refine ⟨r1, ev, ?_⟩
  rw [ez]
  have hn1 : 144 ≤ ζ1.2.2.2.2 := by rw [ez] at zle; exact Nat.le_trans hn zle
  have e4' : h1 1000004 0 = h 1000004 0 := by rw [e4]
  refine g_aload_n dL_law_1542 rfl ?_
  refine g_aload_n dL_law_1543 rfl ?_
  refine g_iload dL_law_1544 rfl ?_
  refine g_iconst dL_law_1546 ?_
  refine g_iadd dL_law_1547 ?_
  refine g_sld dL_law_1548 (by rw [e4']; omega) (by rw [e4']; omega) ?_
  rw [e3]
  refine g_callVI (n := 1) (As := [aI (h 1000003 (x4 + 1))]) (st := [aI r1]) dL_law_1549 ml_L_201 sh_97 rfl (al_97 hn1) rfl rfl (Nat.le_of_ble_eq_true rfl) (RtI.mono hm (fun r2 h2 q => ?_))
  refine g_cmp_eq (tgt := 1607) dL_law_1552 rfl q.1 q.2.1 ?_
  exact iteP q.2.2.1 (law_next (k (mc - mo) (ms - mp) ζ1 h2 (by omega) (by omega) q.2.2.2.1 q.2.2.2.2.1 q.2.2.2.2.2))
end LAW2
