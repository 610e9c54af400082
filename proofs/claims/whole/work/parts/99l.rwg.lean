/-! rows: the call -/
section RWG
variable {l : Launch} {D : Nat} {ζ : ZP} {h : HI} {x : Int}
theorem op_rows (i : Inv ζ h) (rx : rg x) : Op l (D + 60) ζ mX11_rows mX12_rows [aI x] h := by
  have hn := ζok_n i.1.1
  have tp : tpI h := i.1.2 0
  have sr : SR (stk 3 h) (h 99) (h 101) := i.1.2 2
  have rz : rzI h := i.1.2 12
  have ok := sr.2.2.1.2.1
  have c60 : h 3 3 ≤ 60 := sr.2.1.1.2.1
  have t1 := tp.1
  have t2 := tp.2.1
  obtain ⟨n, en⟩ : ∃ n : Nat, h 1 1 = n := ⟨(h 1 1).toNat, by omega⟩
  have en' : (h 1 1).toNat = n := by omega
  -- refusals
  have refuse : ∀ (g : HI), FL LPk h g → g 1 1 = 0 → trI g → ¬ ((2 ≤ h 1 1 ∧ h 1 1 ≤ 12) ∧ pk (stk 3 h) (tl h) 0 n ∧ (1 ≤ x ∧ x ≤ h 1 1 ∧ h 1 1 % x = 0)) → RtI l (D + 60) mX12_rows (zz ζ) [aP 97, aI x] g (fun r2 h2 => rg (-1) ∧ rg r2 ∧ -1 = r2 ∧ h2 1000003 = h 1000003 ∧ h2 1000004 = h 1000004 ∧ Inv ζ h2) := by
    intro g fx e11 tr no
    have fin : ∀ k, FL LMk g k → k 97 2 = 0 → rg (-1) ∧ rg (-1) ∧ (-1 : Int) = -1 ∧ k 1000003 = h 1000003 ∧ k 1000004 = h 1000004 ∧ Inv ζ k := by
      intro k fk e2
      have F : FL (LPk ++ LMk) h k := (fx.mono rfl).trans (fk.mono rfl)
      exact op_fin2 i rfl (by decide) F [0] rfl (new1 (tp0 tp F (by rw [fk.at 1 1 rfl]; exact e11) e2 rfl)) (tr.fl fk rfl)
    refine e_X12_rows hn (s_told i fx rfl (by decide) (by decide) (fun c0 pp k fk e2 e43 tm e114 => ?_) (fun _ k fk e2 => ⟨by decide, iteP rfl (fin k fk e2)⟩))
    rw [en'] at pp
    refine ⟨by decide, iteN (by decide) ⟨rx, iteI (fun _ => fin k fk e2) (fun y1 => ?_)⟩⟩
    rw [e43]
    have e : (h 1 1).tmod x = h 1 1 % x := Int.tmod_eq_emod_of_nonneg (by omega)
    have b0 := Int.emod_nonneg (h 1 1) (show x ≠ 0 by omega)
    have b1 := Int.emod_lt_of_pos (h 1 1) (show 0 < x by omega)
    rw [e]
    refine ⟨by constructor <;> omega, iteI (fun _ => fin k fk e2) (fun y2 => ⟨by omega, by constructor <;> omega, iteI (fun y3 => absurd ⟨c0, pp, by omega, by omega, y3⟩ no) (fun _ => fin k fk e2)⟩)⟩
  refine e_X11_rows hn (s_pick i (Or.inl rfl) (by decide) (by decide) (fun c0 pk0 g fx e11 tr tx e51 => ?_) (fun no g fx e11 tr => ?_))
  rotate_left
  · refine s_divides hn rx (by decide) ?_
    rw [if_neg (by omega)]
    exact ⟨by decide, iteN (by decide) ⟨fx.c _ rfl, fx.c _ rfl, refuse g fx e11 tr (fun q => no ⟨q.1, by rw [en']; exact q.2.1⟩)⟩⟩
  rw [en'] at pk0
  refine s_divides hn rx (by constructor <;> omega) ?_
  by_cases y1 : 1 ≤ x ∧ x ≤ h 1 1 ∧ h 1 1 % x = 0
  rotate_left
  · rw [if_neg y1]
    exact ⟨by decide, iteN (by decide) ⟨fx.c _ rfl, fx.c _ rfl, refuse g fx e11 tr (fun q => y1 q.2.2)⟩⟩
  rw [if_pos y1]
  rw [en] at e51 c0 y1 ⊢
  obtain ⟨s, es⟩ : ∃ s : Nat, x = s := ⟨x.toNat, by omega⟩
  subst es
  have s1 : 1 ≤ s := by omega
  have s12 : s ≤ 12 := by omega
  have n12 : n ≤ 12 := by omega
  have n1 : 1 ≤ n := by omega
  obtain ⟨e, hse⟩ : ∃ e : Nat, s * e = n := by
    have m0 : n % s = 0 := by
      have : ((n % s : Nat) : Int) = 0 := y1.2.2
      omega
    exact ⟨n / s, Nat.mul_div_cancel' (Nat.dvd_of_mod_eq_zero m0)⟩
  have vals : ∀ j : Nat, j < n → (0 ≤ tl h j ∧ tl h j < h 3 3) ∧ tN (stk 3 h) (tl h j) ≠ 0 ∧ (0 ≤ tH (stk 3 h) (tl h j) ∧ tH (stk 3 h) (tl h j) ≤ 6000) ∧ (1 ≤ tP (stk 3 h) (tl h j) ∧ tP (stk 3 h) (tl h j) ≤ 6000) := by
    intro j hj
    have pj := pk0 j hj
    unfold pk1 at pj
    have b := tv_bd ok (tl h j)
    have nz : tN (stk 3 h) (tl h j) ≠ 0 := by omega
    exact ⟨pj.1, nz, ⟨b.2.1.1, b.2.1.2.1⟩, b.2.2.2.2 nz, b.2.2.2.1⟩
  have fb : ∀ j : Nat, j < n → 0 ≤ (1000000 : Int).tdiv (tP (stk 3 h) (tl h j)) ∧ (1000000 : Int).tdiv (tP (stk 3 h) (tl h j)) ≤ 1000000 := fun j hj => by
    have := (vals j hj).2.2.2
    exact ⟨Int.tdiv_nonneg (by decide) (by omega), Int.tdiv_le_self _ (by decide)⟩
  have rzg : rzI g := by unfold rzI at rz ⊢; rw [fx.c 60 rfl, fx.c 61 rfl, fx.c 62 rfl, fx.c 63 rfl]; exact rz
  refine ⟨by decide, iteP (by decide) (s_xrows hn n1 n12 s1 s12 hse (v := fun j => tH (stk 3 h) (tl h j)) (fl := fun j => (1000000 : Int).tdiv (tP (stk 3 h) (tl h j))) (c := tl h) (fun j hj => ?_) rzg (fun GX fX z0 BX rzX RX => ?_))⟩
  · have v := vals j hj
    have t' := tx (tl h j) v.1.1 (by omega)
    refine ⟨⟨v.1.1, by omega⟩, e51 j (by omega) (by omega), ⟨t'.2.1, v.2.2.1.1, by show tH (stk 3 h) (tl h j) ≤ 10000; omega⟩, ?_, ?_, fb j hj⟩
    · rw [t'.2.2.1]; omega
    · rw [t'.2.2.1]
  · have FX : FL (LXr ++ LPk) h GX := (fx.mono rfl).trans (fX.mono rfl)
    refine ⟨FX.c _ rfl, FX.c _ rfl, e_X12_rows hn (s_told i FX rfl (by decide) (by decide) (fun _ _ kM fk e2 e43 tm e114 => ?_) (fun no => absurd ⟨by rw [en]; exact c0, by rw [en']; exact pk0⟩ no))⟩
    rw [en] at e43 e114
    have e' : (n : Int).tmod s = (n : Int) % s := Int.tmod_eq_emod_of_nonneg (by omega)
    rw [e43, e', y1.2.2]
    refine ⟨by decide, iteN (by decide) ⟨rx, iteN (by omega) ⟨by constructor <;> omega, iteN (by omega) ⟨by omega, by decide, iteP rfl (s_mrows hn n1 n12 s1 s12 hse (v := fun j => tH (stk 3 h) (tl h j)) (fl := fun j => (1000000 : Int).tdiv (tP (stk 3 h) (tl h j))) ⟨e43, fun j hj => ?_⟩ (fun GM fM z48 z49 z50 z121 BM lt RM => ?_))⟩⟩⟩⟩
    · have v := vals j hj
      have t' := tm (tl h j) v.1.1 v.1.2
      rw [if_neg v.2.1, if_neg v.2.1] at t'
      rw [e114 j (by omega) (by omega), t'.2.1, t'.2.2.1]
      exact ⟨⟨v.1.1, by omega⟩, ⟨rfl, v.2.2.1.1, by show tH (stk 3 h) (tl h j) ≤ 10000; omega⟩, ⟨v.2.2.2.1, by omega⟩, rfl, fb j hj⟩
    · have u := rwR_uniq RX RM
      have ne : GM 97 44 ≠ -1 := fun y => by
        unfold mLB at lt
        rw [if_pos y] at lt
        omega
      have BM2 := BM.2 ne
      have eq := u.1
      unfold rLB mLB at eq
      rw [if_neg ne] at eq
      have BX2 := BX.2
      have c3 := rv3_inj (by unfold rvK; omega) (by unfold rvK; omega) (by unfold rvK; omega) (by unfold rvK; omega) eq
      have FG : FL (LMr ++ LMk) GX GM := (fk.mono rfl).trans (fM.mono rfl)
      have FF : FL ((LXr ++ LPk) ++ (LMr ++ LMk)) h GM := (FX.mono rfl).trans (FG.mono rfl)
      have FGg : FL (LXr ++ (LMr ++ LMk)) g GM := (fX.mono rfl).trans (FG.mono rfl)
      have BX1 := BX.1
      refine op_fin2 i c3.1 (by constructor <;> omega) FF [0, 3, 12] rfl ?_ (tr.fl FGg rfl)
      intro y hm
      rcases List.mem_cons.mp hm with e0 | hm
      · subst e0
        refine tp0 tp FF ?_ ?_ rfl
        · rw [FGg.at 1 1 rfl]; exact e11
        · rw [fM.at 97 2 rfl]; exact e2
      · rcases List.mem_cons.mp hm with e0 | hm
        · subst e0
          show roI GM
          unfold roI
          have g52 : GM 52 = GX 52 := FG.c 52 rfl
          have g53 : GM 53 = GX 53 := FG.c 53 rfl
          rw [g52, g53, z0, z48, z49, z50, c3.2.1, c3.2.2]
          refine ⟨by omega, by omega, rfl, fun q q0 q1 => ?_, fun _ => ⟨rfl, rfl, by constructor <;> omega, by constructor <;> omega⟩⟩
          have z := z121 q.toNat (by omega)
          have uq := u.2 q.toNat (by omega)
          have cw := RX.1.1 q.toNat (by omega)
          rw [show ((q.toNat : Nat) : Int) = q by omega] at z uq cw
          rw [z, ← uq]
          exact ⟨rfl, by constructor <;> omega⟩
        · rw [List.mem_singleton] at hm
          subst hm
          show rzI GM
          unfold rzI at rzX ⊢
          rw [FG.c 60 rfl, FG.c 61 rfl, FG.c 62 rfl, FG.c 63 rfl]; exact rzX
end RWG
