/-! restore: the walk; the copy from an image -/
theorem e_X11_restore {l : Launch} {D : Nat} {ζ : ZP} {h : HI} {Q : Int → HI → Prop} {x1 : Int} {o : Option Nat} (hn : 144 ≤ ζ.2.2.2.2) (ho : 0 ≤ x1 ∧ x1 < 2 → (zz ζ).1 33 x1.toNat = o) (w : RtI l D mX11_within (zz ζ) [aI x1, aI 0, aI 1] h (fun r1 h1 => (rg r1) ∧ (if r1 = 0 then Q 0 h1 else (0 ≤ x1 ∧ x1 < 2) ∧ ((o = none ∧ Q 0 h1) ∨ ∃ u, o = some u ∧ RtV l D mX5_copyFrom (zz ζ) [aP 3, aP u] h1 (fun h2 => Q 1 (hu h2 40 0 1)))))) : RtI l (D + 1) mX11_restore (zz ζ) [aP 0, aI x1] h Q := by
  refine RtI.of 0 pn_X11 [aP 0, aI x1] rfl rfl ?_
  refine g_iload_n dX11_restore_0 rfl ?_
  refine g_iconst dX11_restore_1 ?_
  refine g_iconst dX11_restore_2 ?_
  refine g_callSI (n := 3) (As := [aI x1, aI 0, aI 1]) (st := []) dX11_restore_3 ml_X11_145 rfl rfl (Nat.le_of_ble_eq_true rfl) rfl (RtI.mono w (fun r1 h1 w => ?_))
  obtain ⟨o1, w⟩ := w
  refine g_if_eq (tgt := 18) dX11_restore_6 rfl o1 ?_
  refine ite_imp (fun w => ?_) (fun w => ?_) w
  · refine g_iconst dX11_restore_18 ?_
    exact g_retZ dX11_restore_19 rfl (Or.inl rfl) w
  · obtain ⟨o2, w⟩ := w
    refine g_aload_n dX11_restore_9 rfl ?_
    refine g_getR dX11_restore_10 fl_X11_23 sh_0 (al_0 hn) (fun _ _ _ => rfl) rf_0_2 ?_
    refine g_iload_n dX11_restore_13 rfl ?_
    refine g_aald dX11_restore_14 sh_33 (al_33 hn) (Nat.le_of_ble_eq_true rfl) o2 (ho o2) ?_
    rcases w with ⟨e, w2⟩ | ⟨u, e, w2⟩
    · subst e
      refine g_nonnullN dX11_restore_15 ?_
      refine g_iconst dX11_restore_18 ?_
      exact g_retZ dX11_restore_19 rfl (Or.inl rfl) w2
    · subst e
      refine g_nonnull (tgt := 20) dX11_restore_15 rfl ?_
      refine g_aload_n dX11_restore_20 rfl ?_
      refine g_getR dX11_restore_21 fl_X11_19 sh_0 (al_0 hn) (fun _ _ _ => rfl) rf_0_1 ?_
      refine g_aload_n dX11_restore_24 rfl ?_
      refine g_getR dX11_restore_25 fl_X11_23 sh_0 (al_0 hn) (fun _ _ _ => rfl) rf_0_2 ?_
      refine g_iload_n dX11_restore_28 rfl ?_
      refine g_aald dX11_restore_29 sh_33 (al_33 hn) (Nat.le_of_ble_eq_true rfl) o2 (ho o2) ?_
      refine g_callVV (n := 1) (As := [aP u]) (st := []) dX11_restore_30 ml_X11_395 sh_3 rfl (al_3 hn) rfl rfl (Nat.le_of_ble_eq_true rfl) (RtV.mono w2 (fun h2 w3 => ?_))
      refine g_aload_n dX11_restore_33 rfl ?_
      refine g_getR dX11_restore_34 fl_X11_44 sh_0 (al_0 hn) (fun _ _ _ => rfl) rf_0_5 ?_
      refine g_iconst dX11_restore_37 ?_
      refine g_putZ (J := 0) dX11_restore_38 fl_X11_118 sh_40 (al_40 hn) rfl rfl (Or.inr rfl) ?_
      refine g_iconst dX11_restore_41 ?_
      exact g_retZ dX11_restore_42 rfl (Or.inr rfl) w3
theorem cp_s {h : HI} {a b : Nat} {n j : Int} (h0 : 0 ≤ j) (h1 : j < n) : hcp h a 0 b 0 n b j = h a j := by
  unfold hcp
  rw [if_pos ⟨rfl, by omega, by omega⟩, show (0 : Int) + (j - 0) = j by omega]
theorem cp_o {h : HI} {a b : Nat} {n j : Int} (h1 : j < 0 ∨ n ≤ j) : hcp h a 0 b 0 n b j = h b j := by
  unfold hcp
  rw [if_neg (by omega)]
theorem cp_c {h : HI} {a b k : Nat} {n : Int} (hk : k ≠ b) : hcp h a 0 b 0 n k = h k := by
  funext j
  unfold hcp
  rw [if_neg (fun q => hk q.1)]
theorem FL.cp {L : List (Nat × Int)} {h h' : HI} (f : FL L h h') {a b : Nat} {n : Int} (p : inL L b (-1) = true) : FL L h (hcp h' a 0 b 0 n) := by
  intro k j q
  by_cases e : k = b
  · subst e
    obtain ⟨q', h1, h2, h3⟩ := inL_of.mp p
    have : inL L k j = true := inL_of.mpr ⟨q', h1, h2, by omega⟩
    rw [q] at this; cases this
  · rw [cp_c e]; exact f k j q

/-- what a copy leaves: the arrays and the numbers of the one stock are the other's -/
def cpA : List (Nat × Int) := [(2, 6), (3, 8), (4, 9), (6, 40), (8, 60), (9, 400), (10, 10), (11, 10), (12, 10), (13, 10), (14, 30), (15, 30), (16, 30), (17, 30), (19, 60), (20, 200), (21, 200), (22, 200), (23, 200), (24, 60), (25, 60), (26, 60), (27, 60), (28, 60), (29, 60)]
def cpN : List (Nat × Int) := [(1, 3), (1, 4), (1, 5), (5, 1), (5, 2), (7, 0), (7, 7), (0, 3), (0, 5), (0, 10)]
def cpd (u v : Nat) (h h' : HI) : Prop := FL ((List.range 30).map (fun k => (v + k, -1))) h h' ∧ (∀ q ∈ cpA, ∀ j : Int, (0 ≤ j → j < q.2 → h' (v + q.1) j = h (u + q.1) j) ∧ (j < 0 ∨ q.2 ≤ j → h' (v + q.1) j = h (v + q.1) j)) ∧ ∀ q ∈ cpN, h' (v + q.1) q.2 = h (u + q.1) q.2
section RE1
variable {l : Launch} {D : Nat} {ζ : ZP} {h : HI} {QV : HI → Prop}
theorem s_copyIn (hn : 144 ≤ ζ.2.2.2.2) {u : Nat} (hu0 : isU u) (hun : u + 30 ≤ ζ.2.2.2.2) (hq : ∀ h', cpd u 3 h h' → QV h') : RtV l (D + 2) mX5_copyFrom (zz ζ) [aP 3, aP u] h QV := by
  refine e_X5_copyFrom_in hn hu0 hun (e_X0_copyFrom_in hn hu0 hun (e_X3_copyFrom_in hn hu0 hun (e_X1_copyFrom_in hn hu0 hun (hq _ ?_))))
  rcases hu0 with rfl | rfl
  all_goals refine ⟨?_, ?_, ?_⟩
  iterate 2
    · repeat first | exact FL.refl | refine FL.cp ?_ rfl | refine FL.ua ?_ rfl
    · intro q hq j
      simp only [cpA, List.mem_cons, List.not_mem_nil, or_false] at hq
      rcases hq with rfl | rfl | rfl | rfl | rfl | rfl | rfl | rfl | rfl | rfl | rfl | rfl | rfl | rfl | rfl | rfl | rfl | rfl | rfl | rfl | rfl | rfl | rfl | rfl | rfl <;>
      (refine ⟨fun h0 h1 => ?_, fun hj => ?_⟩ <;> (try simp only at *) <;> repeat first | rfl | rw [hu_c _ _ _ (by decide)] | rw [cp_c (by decide)] | rw [cp_s h0 h1] | rw [cp_o hj])
    · intro q hq
      simp only [cpN, List.mem_cons, List.not_mem_nil, or_false] at hq
      rcases hq with rfl | rfl | rfl | rfl | rfl | rfl | rfl | rfl | rfl | rfl <;>
      (simp only; repeat first | rfl | rw [hu_s] | rw [hu_j _ _ _ (by decide)] | rw [hu_c _ _ _ (by decide)] | rw [cp_c (by decide)])
theorem s_copyOut (hn : 144 ≤ ζ.2.2.2.2) {u : Nat} (hu0 : isU u) (hun : u + 30 ≤ ζ.2.2.2.2) (hq : ∀ h', cpd 3 u h h' → QV h') : RtV l (D + 2) mX5_copyFrom (zz ζ) [aP u, aP 3] h QV := by
  refine e_X5_copyFrom_out hn hu0 hun (e_X0_copyFrom_out hn hu0 hun (e_X3_copyFrom_out hn hu0 hun (e_X1_copyFrom_out hn hu0 hun (hq _ ?_))))
  rcases hu0 with rfl | rfl
  all_goals refine ⟨?_, ?_, ?_⟩
  iterate 2
    · repeat first | exact FL.refl | refine FL.cp ?_ rfl | refine FL.ua ?_ rfl
    · intro q hq j
      simp only [cpA, List.mem_cons, List.not_mem_nil, or_false] at hq
      rcases hq with rfl | rfl | rfl | rfl | rfl | rfl | rfl | rfl | rfl | rfl | rfl | rfl | rfl | rfl | rfl | rfl | rfl | rfl | rfl | rfl | rfl | rfl | rfl | rfl | rfl <;>
      (refine ⟨fun h0 h1 => ?_, fun hj => ?_⟩ <;> (try simp only at *) <;> repeat first | rfl | rw [hu_c _ _ _ (by decide)] | rw [cp_c (by decide)] | rw [cp_s h0 h1] | rw [cp_o hj])
    · intro q hq
      simp only [cpN, List.mem_cons, List.not_mem_nil, or_false] at hq
      rcases hq with rfl | rfl | rfl | rfl | rfl | rfl | rfl | rfl | rfl | rfl <;>
      (simp only; repeat first | rfl | rw [hu_s] | rw [hu_j _ _ _ (by decide)] | rw [hu_c _ _ _ (by decide)] | rw [cp_c (by decide)])
end RE1
