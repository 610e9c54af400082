/-! LAW: the loop; written by wip/whole/gen/gen_law3.py -/
section LAW3
variable {l : Launch} {D mc ms : Nat} {ζ : ZP} {h : HI} {Q : Option AV → HI → ZR → Prop} {x4 : Int} {mx mm : MT} {K K0 : HI → Prop}
theorem law_0 (hl : 0 ≤ x4 ∧ x4 + 5 < h 1000004 0 ∧ h 1000004 0 ≤ 3072) (op : Op l D ζ mx mm [] h) (k : ∀ h2, h2 1000003 = h 1000003 → h2 1000004 = h 1000004 → Inv ζ h2 → K h2) : RtI l D mx (zz ζ) [aP 0] h (fun r1 h1 => RtI l D mm (zz ζ) [aP 97] h1 (fun r2 h2 => (rg r1) ∧ (rg r2) ∧ (if r1 = r2 then K h2 else K0 h2))) := by
  exact RtI.mono op (fun r1 h1 q => RtI.mono q.2.2 (fun r2 h2 p => ⟨p.1, p.2.1, iteP p.2.2.1 (k h2 p.2.2.2.1 p.2.2.2.2.1 p.2.2.2.2.2)⟩))
theorem law_1 (hl : 0 ≤ x4 ∧ x4 + 5 < h 1000004 0 ∧ h 1000004 0 ≤ 3072) (op : Op l D ζ mx mm [aI (h 1000003 (x4 + 1))] h) (k : ∀ h2, h2 1000003 = h 1000003 → h2 1000004 = h 1000004 → Inv ζ h2 → K h2) : (0 ≤ (x4 + 1) ∧ (x4 + 1) < (h 1000004 0)) ∧ RtI l D mx (zz ζ) [aP 0, aI (h 1000003 (x4 + 1))] h (fun r1 h1 => (0 ≤ (x4 + 1) ∧ (x4 + 1) < (h1 1000004 0)) ∧ ((h1 1000004 0) ≤ 3072) ∧ RtI l D mm (zz ζ) [aP 97, aI (h1 1000003 (x4 + 1))] h1 (fun r2 h2 => (rg r1) ∧ (rg r2) ∧ (if r1 = r2 then K h2 else K0 h2))) := by
  refine ⟨by omega, RtI.mono op (fun r1 h1 q => ?_)⟩
  have e4 : h1 1000004 0 = h 1000004 0 := by rw [q.2.1]
  rw [q.1, e4]
  exact ⟨by omega, by omega, RtI.mono q.2.2 (fun r2 h2 p => ⟨p.1, p.2.1, iteP p.2.2.1 (k h2 p.2.2.2.1 p.2.2.2.2.1 p.2.2.2.2.2)⟩)⟩
theorem law_2 (hl : 0 ≤ x4 ∧ x4 + 5 < h 1000004 0 ∧ h 1000004 0 ≤ 3072) (op : Op l D ζ mx mm [aI (h 1000003 (x4 + 1)), aI (h 1000003 (x4 + 2))] h) (k : ∀ h2, h2 1000003 = h 1000003 → h2 1000004 = h 1000004 → Inv ζ h2 → K h2) : (0 ≤ (x4 + 1) ∧ (x4 + 1) < (h 1000004 0)) ∧ (0 ≤ (x4 + 2) ∧ (x4 + 2) < (h 1000004 0)) ∧ RtI l D mx (zz ζ) [aP 0, aI (h 1000003 (x4 + 1)), aI (h 1000003 (x4 + 2))] h (fun r1 h1 => (0 ≤ (x4 + 1) ∧ (x4 + 1) < (h1 1000004 0)) ∧ ((h1 1000004 0) ≤ 3072) ∧ (0 ≤ (x4 + 2) ∧ (x4 + 2) < (h1 1000004 0)) ∧ RtI l D mm (zz ζ) [aP 97, aI (h1 1000003 (x4 + 1)), aI (h1 1000003 (x4 + 2))] h1 (fun r2 h2 => (rg r1) ∧ (rg r2) ∧ (if r1 = r2 then K h2 else K0 h2))) := by
  refine ⟨by omega, by omega, RtI.mono op (fun r1 h1 q => ?_)⟩
  have e4 : h1 1000004 0 = h 1000004 0 := by rw [q.2.1]
  rw [q.1, e4]
  exact ⟨by omega, by omega, by omega, RtI.mono q.2.2 (fun r2 h2 p => ⟨p.1, p.2.1, iteP p.2.2.1 (k h2 p.2.2.2.1 p.2.2.2.2.1 p.2.2.2.2.2)⟩)⟩
theorem law_3 (hl : 0 ≤ x4 ∧ x4 + 5 < h 1000004 0 ∧ h 1000004 0 ≤ 3072) (op : Op l D ζ mx mm [aI (h 1000003 (x4 + 1)), aI (h 1000003 (x4 + 2)), aI (h 1000003 (x4 + 3))] h) (k : ∀ h2, h2 1000003 = h 1000003 → h2 1000004 = h 1000004 → Inv ζ h2 → K h2) : (0 ≤ (x4 + 1) ∧ (x4 + 1) < (h 1000004 0)) ∧ (0 ≤ (x4 + 2) ∧ (x4 + 2) < (h 1000004 0)) ∧ (0 ≤ (x4 + 3) ∧ (x4 + 3) < (h 1000004 0)) ∧ RtI l D mx (zz ζ) [aP 0, aI (h 1000003 (x4 + 1)), aI (h 1000003 (x4 + 2)), aI (h 1000003 (x4 + 3))] h (fun r1 h1 => (0 ≤ (x4 + 1) ∧ (x4 + 1) < (h1 1000004 0)) ∧ ((h1 1000004 0) ≤ 3072) ∧ (0 ≤ (x4 + 2) ∧ (x4 + 2) < (h1 1000004 0)) ∧ (0 ≤ (x4 + 3) ∧ (x4 + 3) < (h1 1000004 0)) ∧ RtI l D mm (zz ζ) [aP 97, aI (h1 1000003 (x4 + 1)), aI (h1 1000003 (x4 + 2)), aI (h1 1000003 (x4 + 3))] h1 (fun r2 h2 => (rg r1) ∧ (rg r2) ∧ (if r1 = r2 then K h2 else K0 h2))) := by
  refine ⟨by omega, by omega, by omega, RtI.mono op (fun r1 h1 q => ?_)⟩
  have e4 : h1 1000004 0 = h 1000004 0 := by rw [q.2.1]
  rw [q.1, e4]
  exact ⟨by omega, by omega, by omega, by omega, RtI.mono q.2.2 (fun r2 h2 p => ⟨p.1, p.2.1, iteP p.2.2.1 (k h2 p.2.2.2.1 p.2.2.2.2.1 p.2.2.2.2.2)⟩)⟩
theorem law_4 (hl : 0 ≤ x4 ∧ x4 + 5 < h 1000004 0 ∧ h 1000004 0 ≤ 3072) (op : Op l D ζ mx mm [aI (h 1000003 (x4 + 1)), aI (h 1000003 (x4 + 2)), aI (h 1000003 (x4 + 3)), aI (h 1000003 (x4 + 4))] h) (k : ∀ h2, h2 1000003 = h 1000003 → h2 1000004 = h 1000004 → Inv ζ h2 → K h2) : (0 ≤ (x4 + 1) ∧ (x4 + 1) < (h 1000004 0)) ∧ (0 ≤ (x4 + 2) ∧ (x4 + 2) < (h 1000004 0)) ∧ (0 ≤ (x4 + 3) ∧ (x4 + 3) < (h 1000004 0)) ∧ (0 ≤ (x4 + 4) ∧ (x4 + 4) < (h 1000004 0)) ∧ RtI l D mx (zz ζ) [aP 0, aI (h 1000003 (x4 + 1)), aI (h 1000003 (x4 + 2)), aI (h 1000003 (x4 + 3)), aI (h 1000003 (x4 + 4))] h (fun r1 h1 => (0 ≤ (x4 + 1) ∧ (x4 + 1) < (h1 1000004 0)) ∧ ((h1 1000004 0) ≤ 3072) ∧ (0 ≤ (x4 + 2) ∧ (x4 + 2) < (h1 1000004 0)) ∧ (0 ≤ (x4 + 3) ∧ (x4 + 3) < (h1 1000004 0)) ∧ (0 ≤ (x4 + 4) ∧ (x4 + 4) < (h1 1000004 0)) ∧ RtI l D mm (zz ζ) [aP 97, aI (h1 1000003 (x4 + 1)), aI (h1 1000003 (x4 + 2)), aI (h1 1000003 (x4 + 3)), aI (h1 1000003 (x4 + 4))] h1 (fun r2 h2 => (rg r1) ∧ (rg r2) ∧ (if r1 = r2 then K h2 else K0 h2))) := by
  refine ⟨by omega, by omega, by omega, by omega, RtI.mono op (fun r1 h1 q => ?_)⟩
  have e4 : h1 1000004 0 = h 1000004 0 := by rw [q.2.1]
  rw [q.1, e4]
  exact ⟨by omega, by omega, by omega, by omega, by omega, RtI.mono q.2.2 (fun r2 h2 p => ⟨p.1, p.2.1, iteP p.2.2.1 (k h2 p.2.2.2.1 p.2.2.2.2.1 p.2.2.2.2.2)⟩)⟩
theorem law_5 (hl : 0 ≤ x4 ∧ x4 + 5 < h 1000004 0 ∧ h 1000004 0 ≤ 3072) (op : Op l D ζ mx mm [aI (h 1000003 (x4 + 1)), aI (h 1000003 (x4 + 2)), aI (h 1000003 (x4 + 3)), aI (h 1000003 (x4 + 4)), aI (h 1000003 (x4 + 5))] h) (k : ∀ h2, h2 1000003 = h 1000003 → h2 1000004 = h 1000004 → Inv ζ h2 → K h2) : (0 ≤ (x4 + 1) ∧ (x4 + 1) < (h 1000004 0)) ∧ (0 ≤ (x4 + 2) ∧ (x4 + 2) < (h 1000004 0)) ∧ (0 ≤ (x4 + 3) ∧ (x4 + 3) < (h 1000004 0)) ∧ (0 ≤ (x4 + 4) ∧ (x4 + 4) < (h 1000004 0)) ∧ (0 ≤ (x4 + 5) ∧ (x4 + 5) < (h 1000004 0)) ∧ RtI l D mx (zz ζ) [aP 0, aI (h 1000003 (x4 + 1)), aI (h 1000003 (x4 + 2)), aI (h 1000003 (x4 + 3)), aI (h 1000003 (x4 + 4)), aI (h 1000003 (x4 + 5))] h (fun r1 h1 => (0 ≤ (x4 + 1) ∧ (x4 + 1) < (h1 1000004 0)) ∧ ((h1 1000004 0) ≤ 3072) ∧ (0 ≤ (x4 + 2) ∧ (x4 + 2) < (h1 1000004 0)) ∧ (0 ≤ (x4 + 3) ∧ (x4 + 3) < (h1 1000004 0)) ∧ (0 ≤ (x4 + 4) ∧ (x4 + 4) < (h1 1000004 0)) ∧ (0 ≤ (x4 + 5) ∧ (x4 + 5) < (h1 1000004 0)) ∧ RtI l D mm (zz ζ) [aP 97, aI (h1 1000003 (x4 + 1)), aI (h1 1000003 (x4 + 2)), aI (h1 1000003 (x4 + 3)), aI (h1 1000003 (x4 + 4)), aI (h1 1000003 (x4 + 5))] h1 (fun r2 h2 => (rg r1) ∧ (rg r2) ∧ (if r1 = r2 then K h2 else K0 h2))) := by
  refine ⟨by omega, by omega, by omega, by omega, by omega, RtI.mono op (fun r1 h1 q => ?_)⟩
  have e4 : h1 1000004 0 = h 1000004 0 := by rw [q.2.1]
  rw [q.1, e4]
  exact ⟨by omega, by omega, by omega, by omega, by omega, by omega, RtI.mono q.2.2 (fun r2 h2 p => ⟨p.1, p.2.1, iteP p.2.2.1 (k h2 p.2.2.2.1 p.2.2.2.2.1 p.2.2.2.2.2)⟩)⟩
set_option maxHeartbeats 4000000 in
theorem law_loop (hl9 : l.stackTraces = false) : ∀ (n : Nat) (ζ : ZP) (h : HI) (x4 : Int) (mc ms : Nat), Inv ζ h → 0 ≤ x4 → x4 ≤ 3072 → (0 ≤ h 1000004 0 ∧ h 1000004 0 ≤ 3072) → (∀ j : Int, 0 ≤ j → j < h 1000004 0 → rg (h 1000003 j)) → h 1000004 0 - x4 ≤ 6 * n → 31 * n ≤ mc → 2000 * n ≤ ms → G l (D + 62) mc ms mL_law (zz ζ) 23 [aP 1000003, aP 0, aP 97, aP 143, aI x4, aU, aU] [] h (fun v _ _ => v = some (aI 1)) := by
  intro n
  induction n with
  | zero =>
    intro ζ h x4 mc ms i x0 x1 hL hr hn0 _ _
    exact b_L_law_23 (D := D + 61) (ζok_n i.1.1) ⟨by constructor <;> omega, by constructor <;> omega, iteP (by omega) rfl⟩
  | succ n ih =>
    intro ζ h x4 mc ms i x0 x1 hL hr hn0 hmc hms
    have hn := ζok_n i.1.1
    refine b_L_law_23 (D := D + 61) hn ⟨by constructor <;> omega, by constructor <;> omega, ?_⟩
    by_cases c : h 1000004 0 - 6 < x4
    · exact iteP c rfl
    refine iteN c ?_
    have hl : 0 ≤ x4 ∧ x4 + 5 < h 1000004 0 ∧ h 1000004 0 ≤ 3072 := by omega
    have R : ∀ j : Int, 0 ≤ j → j < 6 → rg (h 1000003 (x4 + j)) := fun j j0 j1 => hr (x4 + j) (by omega) (by omega)
    have r1 := R 1 (by omega) (by omega)
    have r2 := R 2 (by omega) (by omega)
    have r3 := R 3 (by omega) (by omega)
    have r4 := R 4 (by omega) (by omega)
    have nx : ∀ (ζ2 : ZP) (h2 : HI) (mc' ms' : Nat), mc ≤ mc' + 31 → ms ≤ ms' + 2000 → h2 1000003 = h 1000003 → h2 1000004 = h 1000004 → Inv ζ2 h2 → G l (D + 62) mc' ms' mL_law (zz ζ2) 23 [aP 1000003, aP 0, aP 97, aP 143, aI (x4 + 6), aU, aU] [] h2 (fun v _ _ => v = some (aI 1)) := by
      intro ζ2 h2 mc' ms' m1 m2 e3 e4 i2
      exact ih ζ2 h2 (x4 + 6) mc' ms' i2 (by omega) (by omega) (by rw [e4]; exact hL) (by rw [e3, e4]; exact hr) (by rw [e4]; omega) (by omega) (by omega)
    have nk : ∀ h2 : HI, h2 1000003 = h 1000003 → h2 1000004 = h 1000004 → Inv ζ h2 → G l (D + 62) mc ms mL_law (zz ζ) 23 [aP 1000003, aP 0, aP 97, aP 143, aI (x4 + 6), aU, aU] [] h2 (fun v _ _ => v = some (aI 1)) := fun h2 e3 e4 i2 => nx ζ h2 mc ms (by omega) (by omega) e3 e4 i2
    have nt : ∀ (mc' ms' : Nat) (h2 : HI), mc ≤ mc' + 1 → ms ≤ ms' + 6 → h2 1000003 = h 1000003 → h2 1000004 = h 1000004 → Inv ζ h2 → G l (D + 62) mc' ms' mL_law (zz ζ) 23 [aP 1000003, aP 0, aP 97, aP 143, aI (x4 + 6), aU, aU] [] h2 (fun v _ _ => v = some (aI 1)) := fun mc' ms' h2 m1 m2 e3 e4 i2 => nx ζ h2 mc' ms' (by omega) (by omega) e3 e4 i2
    refine ⟨by omega, by omega, band_rg _ _, ?_⟩
    refine ⟨fun _ => law_5 hl (op_feed (D := D + 1) i) nk, ?_⟩
    refine ⟨fun _ => law_1 hl (op_end (D := D + 1) i r1) nk, ?_⟩
    refine ⟨fun _ => law_0 hl (op_house (D := D + 1) i) nk, ?_⟩
    refine ⟨fun _ => law_0 hl (op_fault (D := D + 1) i) nk, ?_⟩
    refine ⟨fun _ => law_1 hl (op_cell (D := D + 1) i r1) nk, ?_⟩
    refine ⟨fun _ => law_4 hl (op_read (D := D + 1) i r1 r2 r3 r4) nk, ?_⟩
    refine ⟨fun _ => law_4 hl (op_rest (D := D + 1) i r1 r2 r3 r4) nk, ?_⟩
    refine ⟨fun _ => b_L_lean (D := D + 60) hn hl (op_lean (D := D) hl9 i r1 r2) (by omega) (by omega) nt, ?_⟩
    refine ⟨fun _ => b_L_about (D := D + 60) hn hl (op_about (D := D) hl9 i r1 r2) (by omega) (by omega) nt, ?_⟩
    refine ⟨fun _ => law_0 hl (op_again (D := D + 1) i) nk, ?_⟩
    refine ⟨fun _ => b_L_fall (D := D + 60) hn hl (op_fall (D := D) hl9 i r1 r2) (by omega) (by omega) nt, ?_⟩
    refine ⟨fun _ => law_1 hl (op_lies (D := D + 1) i r1) nk, ?_⟩
    refine ⟨fun _ => law_1 hl (op_days (D := D + 1) i r1) nk, ?_⟩
    refine ⟨fun _ => law_0 hl (op_rule (D := D + 1) i) nk, ?_⟩
    refine ⟨fun _ => law_1 hl (op_meets (D := D + 1) i r1) nk, ?_⟩
    refine ⟨fun _ => law_1 hl (op_rows (D := D + 1) i r1) nk, ?_⟩
    refine ⟨fun _ => law_1 hl (op_rowAt (D := D + 1) i r1) nk, ?_⟩
    refine ⟨fun _ => law_1 hl (op_rowsBy (D := D + 1) i r1) nk, ?_⟩
    refine ⟨fun _ => law_1 hl (op_swaps (D := D + 1) i r1) nk, ?_⟩
    refine ⟨fun _ => law_1 hl (op_swapAt (D := D + 1) i r1) nk, ?_⟩
    refine ⟨fun _ => law_1 hl (op_swapsBy (D := D + 1) i r1) nk, ?_⟩
    refine ⟨fun _ => law_3 hl (op_most (D := D + 1) i r1 r2 r3) nk, ?_⟩
    refine ⟨fun _ => law_1 hl (op_share (D := D + 1) i r1) nk, ?_⟩
    refine ⟨fun _ => law_1 hl (op_shareAt (D := D + 1) i r1) nk, ?_⟩
    refine ⟨fun _ => law_2 hl (op_pack (D := D + 1) i r1 r2) nk, ?_⟩
    refine ⟨fun _ => b_L_row (D := D + 60) hn hl (op_row (D := D) hl9 i r1 r2 r3) (by omega) (by omega) nt, ?_⟩
    refine ⟨fun _ => law_2 hl (op_inPack (D := D + 1) i r1 r2) nk, ?_⟩
    refine ⟨fun _ => law_1 hl (op_life (D := D + 1) i r1) nk, ?_⟩
    refine ⟨fun _ => law_1 hl (op_ends (D := D + 1) i r1) nk, ?_⟩
    refine ⟨fun _ => law_4 hl (op_mend (D := D + 1) i r1 r2 r3 r4) nk, ?_⟩
    refine ⟨fun _ => law_1 hl (op_bestMend (D := D + 1) i r1) nk, ?_⟩
    refine ⟨fun _ => law_1 hl (op_bestBy (D := D + 1) i r1) nk, ?_⟩
    refine ⟨fun _ => law_1 hl (op_balance (D := D + 1) i r1) nk, ?_⟩
    refine ⟨fun _ => law_0 hl (op_lost (D := D + 1) i) nk, ?_⟩
    refine ⟨fun _ => law_1 hl (op_shorted (D := D + 1) i r1) nk, ?_⟩
    refine ⟨fun _ => law_2 hl (op_held (D := D + 1) i r1 r2) nk, ?_⟩
    refine ⟨fun _ => b_L_welds (D := D + 61) hn hl (op_welds (D := D + 1) i) (by omega) (by omega) (fun mc' ms' ζ2 h2 m1 m2 e3 e4 i2 => nx ζ2 h2 mc' ms' (by omega) (by omega) e3 e4 i2), ?_⟩
    refine ⟨fun _ => law_0 hl (op_order (D := D + 1) i) nk, ?_⟩
    refine ⟨fun _ => law_1 hl (op_orderAt (D := D + 1) i r1) nk, ?_⟩
    refine ⟨fun _ => law_0 hl (op_check (D := D + 1) i) nk, ?_⟩
    refine ⟨fun _ => ?_, ?_⟩
    · rcases op_image (l := l) (D := D + 1) i r1 with op | op
      · exact b_L_image (D := D + 61) hn hl op (by omega) (by omega) (fun mc' ms' ζ2 h2 m1 m2 e3 e4 i2 => nx ζ2 h2 mc' ms' (by omega) (by omega) e3 e4 i2)
      · exact b_L_image (D := D + 61) hn hl op (by omega) (by omega) (fun mc' ms' ζ2 h2 m1 m2 e3 e4 i2 => nx ζ2 h2 mc' ms' (by omega) (by omega) e3 e4 i2)
    refine ⟨fun _ => law_1 hl (op_restore (D := D + 1) i r1) nk, ?_⟩
    refine ⟨fun _ => law_1 hl (op_count (D := D + 1) i r1) nk, ?_⟩
    exact fun _ => nk h rfl rfl i
end LAW3
