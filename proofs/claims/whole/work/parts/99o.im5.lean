/-! image: the call, all places -/
def OpZ (l : Launch) (D mc ms : Nat) (ζ : ZP) (mx mm : MT) (as : List AV) (h : HI) : Prop := Ret l D mc ms mx (zz ζ) (aP 0 :: as) h (fun v h1 z1 => ∃ (ζ1 : ZP) (r1 : Int), v = some (aI r1) ∧ z1 = zz ζ1 ∧ h1 1000003 = h 1000003 ∧ h1 1000004 = h 1000004 ∧ RtI l D mm (zz ζ1) (aP 97 :: as) h1 (fun r2 h2 => rg r1 ∧ rg r2 ∧ r1 = r2 ∧ h2 1000003 = h 1000003 ∧ h2 1000004 = h 1000004 ∧ Inv ζ1 h2))
theorem OpZ.of {l : Launch} {D : Nat} {ζ : ZP} {mx mm : MT} {as : List AV} {h : HI} (o : Op l D ζ mx mm as h) : OpZ l D 0 0 ζ mx mm as h := Ret.mono o (fun v h' z' q => by
  obtain ⟨e, r, ev, q1, q2, q3⟩ := q
  exact ⟨ζ, r, ev, e, q1, q2, q3⟩)
theorem FL.nw144 {h : HI} : FL ((List.range 30).map (fun k => (144 + k, -1))) h (hnw h 144) := fun k j q => by
  unfold hnw
  by_cases c : k < 144 ∨ 144 + 30 ≤ k
  · rw [if_pos c]
  · exfalso
    have : inL ((List.range 30).map (fun k => (144 + k, (-1 : Int)))) k j = true := inL_of.mpr ⟨(k, -1), List.mem_map.mpr ⟨k - 144, List.mem_range.mpr (by omega), by rw [show 144 + (k - 144) = k by omega]⟩, rfl, Or.inl rfl⟩
    rw [q] at this; cases this
theorem FL.nw174 {h : HI} : FL ((List.range 30).map (fun k => (174 + k, -1))) h (hnw h 174) := fun k j q => by
  unfold hnw
  by_cases c : k < 174 ∨ 174 + 30 ≤ k
  · rw [if_pos c]
  · exfalso
    have : inL ((List.range 30).map (fun k => (174 + k, (-1 : Int)))) k j = true := inL_of.mpr ⟨(k, -1), List.mem_map.mpr ⟨k - 174, List.mem_range.mpr (by omega), by rw [show 174 + (k - 174) = k by omega]⟩, rfl, Or.inl rfl⟩
    rw [q] at this; cases this
/-- the invariant with other images -/
theorem Inv0.imgs {ζ ζ1 : ZP} {h k : HI} {L : List (Nat × Int)} (i : Inv0 ζ h) (f : FL L h k) (c : (List.range 13).all (fun n => n == 11 || okL n L) = true) (z1 : ζok ζ1) (e1 : ζ1.1 = ζ.1) (new : imI ζ1 k) : Inv0 ζ1 k := by
  refine ⟨z1, fun n => ?_⟩
  by_cases hn : n < 13
  · by_cases m : n = 11
    · subst m; exact new
    · have := List.all_eq_true.mp c n (List.mem_range.mpr hn)
      simp only [Bool.or_eq_true, beq_iff_eq] at this
      have o : okL n L = true := this.resolve_left m
      have q := IP.fl i.1 f n o (i.2 n)
      match n, m, q with
      | 0, _, q => exact q
      | 1, _, q => exact q
      | 2, _, q => exact q
      | 3, _, q => exact q
      | 4, _, q => exact q
      | 5, _, q => exact q
      | 6, _, q => exact q
      | 7, _, q => exact q
      | 8, _, q =>
        have q' : weI ζ.1 k := q
        show weI ζ1.1 k
        rw [e1]; exact q'
      | 9, _, q => exact q
      | 10, _, q => exact q
      | 11, m, _ => exact absurd rfl m
      | 12, _, q => exact q
      | n + 13, _, _ => trivial
  · obtain ⟨m, rfl⟩ : ∃ m, n = m + 13 := ⟨n - 13, by omega⟩
    trivial
section IM5
variable {l : Launch} {D : Nat} {ζ : ZP} {h : HI} {Q : Int → HI → Prop} {x : Int}
theorem e_X11_image_ref (hn : 144 ≤ ζ.2.2.2.2) (rx : rg x) (no : ¬ (0 ≤ x ∧ x ≤ 1)) (w : Q 0 h) : RtI l (D + 2) mX11_image (zz ζ) [aP 0, aI x] h Q := by
  refine RtI.of 0 pn_X11 [aP 0, aI x] rfl rfl ?_
  refine g_iload_n dX11_image_0 rfl ?_
  refine g_iconst dX11_image_1 ?_
  refine g_iconst dX11_image_2 ?_
  refine g_callSI (n := 3) (As := [aI x, aI 0, aI 1]) (st := []) dX11_image_3 ml_X11_145 rfl rfl (Nat.le_of_ble_eq_true rfl) rfl (s_within hn rx (by decide) (by decide) ?_)
  rw [if_neg no]
  refine g_if_ne (tgt := 11) dX11_image_6 rfl (by decide) (iteN (by decide) ?_)
  refine g_iconst dX11_image_9 ?_
  exact g_retZ dX11_image_10 rfl (Or.inl rfl) w
/-- behind the constructor and the copy: the reference, the invariant -/
theorem im_new {u : Nat} (hu0 : isU u) {ζ1 : ZP} (i : Inv ζ h) (z1 : ζok ζ1) (e1 : ζ1.1 = ζ.1) {yx yo : Nat} (hy : yx = 0 ∧ yo = 1 ∨ yx = 1 ∧ yo = 0) {o : Option Nat} (iy : im1 o yo h) (ov : ∀ v, o = some v → isU v ∧ v ≠ u) (mk : ∀ k, im1 (some u) yx k → im1 o yo k → imI ζ1 k) {g : HI} (c : cpd 3 u (hnw h u) g) : g 1000003 = h 1000003 ∧ g 1000004 = h 1000004 ∧ RtI l (D + 60) mX12_image (zz ζ1) [aP 97, aI yx] g (fun r2 h2 => rg 1 ∧ rg r2 ∧ 1 = r2 ∧ h2 1000003 = h 1000003 ∧ h2 1000004 = h 1000004 ∧ Inv ζ1 h2) := by
  have hn := ζok_n z1
  have sr : SR (stk 3 h) (h 99) (h 101) := i.1.2 2
  have y : 0 ≤ (yx : Int) ∧ (yx : Int) < 2 := by omega
  have lo : ∀ a, a < u ∨ u + 30 ≤ a → hnw h u a = h a := fun a ha => by
    funext b
    unfold hnw
    rw [if_pos ha]
  have e3 : stk 3 (hnw h u) = stk 3 h := stk_fl (fun k hk => lo (3 + k) (by rcases hu0 with rfl | rfl <;> omega))
  have g99 : g 99 = h 99 ∧ g 101 = h 101 ∧ g 140 = h 140 ∧ g 141 = h 141 ∧ g 142 = h 142 ∧ g 1000003 = h 1000003 ∧ g 1000004 = h 1000004 := by
    rcases hu0 with rfl | rfl <;> exact ⟨(c.1.c _ rfl).trans (lo _ (by omega)), (c.1.c _ rfl).trans (lo _ (by omega)), (c.1.c _ rfl).trans (lo _ (by omega)), (c.1.c _ rfl).trans (lo _ (by omega)), (c.1.c _ rfl).trans (lo _ (by omega)), (c.1.c _ rfl).trans (lo _ (by omega)), (c.1.c _ rfl).trans (lo _ (by omega))⟩
  refine ⟨g99.2.2.2.2.2.1, g99.2.2.2.2.2.2, s_mimage hn (by constructor <;> omega) (fun q => absurd y q) (fun _ k f a a' b b' e e' => ?_)⟩
  rw [g99.1] at a
  rw [g99.2.1] at b
  rw [g99.2.2.1] at a'
  rw [g99.2.2.2.1] at b'
  rw [g99.2.2.2.2.1] at e'
  have new : imI ζ1 k := by
    refine mk k ?_ ?_
    · show k 142 yx = 1 ∧ SR (stk u k) (fun j => k 140 (2819 * yx + j)) (fun j => k 141 (14 * yx + j))
      refine ⟨e, ?_⟩
      have eu : stk u k = stk u g := stk_fl (fun q hq => f.c (u + q) (by rcases hu0 with rfl | rfl <;> (simp [inC]; omega)))
      rw [eu]
      refine SR_cp2 c (by rw [e3]; exact sr) (fun j hj => ?_) (fun j j0 j1 => a j j0 (by omega)) (fun j j0 j1 => b j (by omega) (by omega))
      have z : ∀ q : Nat, q < 30 → q ≠ 4 → stk u (hnw h u) q j = 0 := fun q hq q4 => by
        rw [stk_at _ _ hq]
        unfold hnw
        rw [if_neg (by omega), if_neg (by omega)]
      exact ⟨z 20 (by decide) (by decide), z 21 (by decide) (by decide), z 22 (by decide) (by decide), z 23 (by decide) (by decide)⟩
    · refine im1_keep iy (fun v hv => ?_) (e' yo (by omega)) (fun j j0 j1 => a' _ (by omega)) (fun j j0 j1 => b' _ (by omega))
      have := ov v hv
      refine stk_fl (fun q hq => ?_)
      rw [f.c (v + q) (by rcases this.1 with rfl | rfl <;> (simp [inC]; omega))]
      rw [c.1.c (v + q) (by rcases hu0 with rfl | rfl <;> rcases this.1 with rfl | rfl <;> (simp [inC] at this ⊢) <;> (intro z hz; omega))]
      refine lo _ ?_
      rcases hu0 with rfl | rfl <;> rcases this.1 with rfl | rfl <;> simp at this <;> omega
  rcases hu0 with rfl | rfl
  · have F : FL ((97, 0) :: (140, -1) :: (141, -1) :: (142, -1) :: (List.range 30).map (fun k => (144 + k, -1))) h k := ((FL.nw144.mono rfl).trans (c.1.mono rfl)).trans (f.mono rfl)
    exact ⟨by decide, by decide, rfl, F.c _ rfl, F.c _ rfl, i.1.imgs F rfl z1 e1 new, i.2.fl F rfl⟩
  · have F : FL ((97, 0) :: (140, -1) :: (141, -1) :: (142, -1) :: (List.range 30).map (fun k => (174 + k, -1))) h k := ((FL.nw174.mono rfl).trans (c.1.mono rfl)).trans (f.mono rfl)
    exact ⟨by decide, by decide, rfl, F.c _ rfl, F.c _ rfl, i.1.imgs F rfl z1 e1 new, i.2.fl F rfl⟩
end IM5
