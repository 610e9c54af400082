/-! image: the call where the place has been used before -/
theorem SR.ag {S : HI} {s s' nm nm' : Int → Int} (i : SR S s nm) (es : agS 0 2818 s s') (en : agS 6 13 nm nm') : SR S s' nm' := by
  obtain ⟨ia, ic, ir, is, ip, iu⟩ := i
  have R : ∀ (k : Nat) (n : Int), agR n (S k) (S k) := fun k n => agR_of rfl
  have E : ∀ (a b : Int), 0 ≤ a → b ≤ 2818 → agS a b s s' := fun a b a0 b1 j j0 j1 => es j (by omega) (by omega)
  have ev : ∀ j : Int, 0 ≤ j → j ≤ 2818 → s' j = s j := es
  have c60 := ic.1.2.1
  exact ⟨ia.to rfl rfl (R _ _) (R _ _) (E 0 10 (by decide) (by decide)) en, ic.to rfl rfl (R _ _) (ev 11 (by decide) (by decide)) (E 17 76 (by decide) (by decide)), ir.to rfl rfl rfl rfl rfl rfl rfl (ev 12 (by decide) (by decide)) (E 77 876 (by decide) (by decide)), is.to rfl rfl (R _ _) (R _ _) (R _ _) (R _ _) (R _ _) (R _ _) c60 (ev 9 (by decide) (by decide)) (ev 10 (by decide) (by decide)) (ev 13 (by decide) (by decide)) (E 877 1676 (by decide) (by decide)), ip.to rfl rfl c60 (Int.le_refl _) (fun c c0 c1 => by omega) (fun c c0 c1 => rfl) (R _ _) (R _ _) (R _ _) (R _ _) (R _ _) (R _ _) (R _ _) (R _ _) (R _ _) (fun c q => q) (ev 14 (by decide) (by decide)) (ev 15 (by decide) (by decide)) (E 1677 2626 (by decide) (by decide)), iu.to rfl rfl (R _ _) (ev 16 (by decide) (by decide)) (E 2627 2818 (by decide) (by decide))⟩
/-- an image that is not written stays -/
theorem im1_keep {o : Option Nat} {y : Nat} {h k : HI} (i : im1 o y h) (hs : ∀ u, o = some u → stk u k = stk u h) (e142 : k 142 y = h 142 y) (e140 : ∀ j : Int, 0 ≤ j → j < 2819 → k 140 (2819 * y + j) = h 140 (2819 * y + j)) (e141 : ∀ j : Int, 0 ≤ j → j < 14 → k 141 (14 * y + j) = h 141 (14 * y + j)) : im1 o y k := by
  cases o with
  | none =>
    have q : h 142 y = 0 := i
    show k 142 y = 0
    rw [e142]; exact q
  | some u =>
    have q : h 142 y = 1 ∧ SR (stk u h) (fun j => h 140 (2819 * y + j)) (fun j => h 141 (14 * y + j)) := i
    show k 142 y = 1 ∧ SR (stk u k) (fun j => k 140 (2819 * y + j)) (fun j => k 141 (14 * y + j))
    refine ⟨by rw [e142]; exact q.1, ?_⟩
    rw [hs u rfl]
    exact q.2.ag (fun j j0 j1 => e140 j j0 (by omega)) (fun j j0 j1 => e141 j (by omega) (by omega))
section IM2
variable {l : Launch} {D : Nat} {ζ : ZP} {h : HI} {Q : Int → HI → Prop} {x : Int}
theorem op_image_old (i : Inv ζ h) (rx : rg x) (old : (0 ≤ x ∧ x < 2) → (zz ζ).1 33 x.toNat ≠ none) (any : ∃ u, ζ.2.2.1 = some u ∨ ζ.2.2.2.1 = some u) : Op l (D + 60) ζ mX11_image mX12_image [aI x] h := by
  have hn := ζok_n i.1.1
  have im : imI ζ h := i.1.2 11
  have sr : SR (stk 3 h) (h 99) (h 101) := i.1.2 2
  have un : ∀ u, (ζ.2.2.1 = some u ∨ ζ.2.2.2.1 = some u) → u + 30 ≤ ζ.2.2.2.2 := fun u ho => by
    rcases i.1.1.2 with e | e | e | e | e <;> rcases ho with q | q <;> (rw [q] at e; simp at e; try omega)
  have df : ∀ u u', ζ.2.2.1 = some u → ζ.2.2.2.1 = some u' → u ≠ u' := fun u u' q q' => by
    rcases i.1.1.2 with e | e | e | e | e <;> (rw [q, q'] at e; simp at e; try omega)
  by_cases y : 0 ≤ x ∧ x < 2
  rotate_left
  · obtain ⟨u, hu1⟩ := any
    refine e_X11_image_old (u := u) hn (ζok_u i.1.1 hu1) (un u hu1) (fun q => absurd q y) (s_within hn rx (by decide) (by decide) ?_)
    rw [if_neg (by omega)]
    refine ⟨by decide, iteN (by decide) ⟨rfl, rfl, s_mimage hn rx (fun _ => op_fin i rfl (by decide) FL.th rfl) (fun q => absurd q y)⟩⟩
  have main : ∀ (u u' : Nat) (o : Option Nat) (yx yo : Nat), x = yx → (yx = 0 ∧ yo = 1 ∨ yx = 1 ∧ yo = 0) → isU u → u + 30 ≤ ζ.2.2.2.2 → (zz ζ).1 33 x.toNat = some u → im1 (some u) yx h → im1 o yo h → (∀ v, o = some v → isU v ∧ v ≠ u) → (∀ k, im1 (some u) yx k → im1 o yo k → imI ζ k) → Op l (D + 60) ζ mX11_image mX12_image [aI x] h := by
    intro u u' o yx yo ex hyx hu0 hun ho ix iy ov mk
    refine e_X11_image_old (u := u) hn hu0 hun (fun _ => ho) (s_within hn rx (by decide) (by decide) ?_)
    rw [if_pos (by omega)]
    refine ⟨by decide, iteP (by decide) ⟨y, s_copyOut hn hu0 hun (fun g c => ?_)⟩⟩
    have ix' : h 142 yx = 1 ∧ SR (stk u h) (fun j => h 140 (2819 * yx + j)) (fun j => h 141 (14 * yx + j)) := ix
    have g99 : g 99 = h 99 ∧ g 101 = h 101 ∧ g 140 = h 140 ∧ g 141 = h 141 ∧ g 142 = h 142 ∧ g 1000003 = h 1000003 ∧ g 1000004 = h 1000004 := by
      rcases hu0 with rfl | rfl <;> exact ⟨c.1.c _ rfl, c.1.c _ rfl, c.1.c _ rfl, c.1.c _ rfl, c.1.c _ rfl, c.1.c _ rfl, c.1.c _ rfl⟩
    refine ⟨g99.2.2.2.2.2.1, g99.2.2.2.2.2.2, s_mimage hn rx (fun q => absurd y q) (fun _ k f a a' b b' e e' => ?_)⟩
    rw [g99.1] at a
    rw [g99.2.1] at b
    rw [g99.2.2.1] at a'
    rw [g99.2.2.2.1] at b'
    rw [g99.2.2.2.2.1] at e'
    rw [ex] at a a' b b' e e'
    have new : imI ζ k := by
      refine mk k ?_ ?_
      · show k 142 yx = 1 ∧ SR (stk u k) (fun j => k 140 (2819 * yx + j)) (fun j => k 141 (14 * yx + j))
        refine ⟨e, ?_⟩
        have eu : stk u k = stk u g := stk_fl (fun q hq => f.c (u + q) (by rcases hu0 with rfl | rfl <;> (simp [inC]; omega)))
        rw [eu]
        exact SR_cp c sr ix'.2 (fun j j0 j1 => a j j0 (by omega)) (fun j j0 j1 => b j (by omega) (by omega))
      · refine im1_keep iy (fun v hv => ?_) (e' yo (by omega)) (fun j j0 j1 => a' _ (by omega)) (fun j j0 j1 => b' _ (by omega))
        have := ov v hv
        refine stk_fl (fun q hq => ?_)
        rw [f.c (v + q) (by rcases this.1 with rfl | rfl <;> (simp [inC]; omega))]
        refine c.1.c (v + q) ?_
        rcases hu0 with rfl | rfl <;> rcases this.1 with rfl | rfl <;> (simp [inC] at this ⊢) <;> (intro z hz; omega)
    rcases hu0 with rfl | rfl
    · have F : FL ((97, 0) :: (140, -1) :: (141, -1) :: (142, -1) :: (List.range 30).map (fun k => (144 + k, -1))) h k := (c.1.mono rfl).trans (f.mono rfl)
      exact op_fin2 i rfl (by decide) F [11] rfl (new1 new) (i.2.fl F rfl)
    · have F : FL ((97, 0) :: (140, -1) :: (141, -1) :: (142, -1) :: (List.range 30).map (fun k => (174 + k, -1))) h k := (c.1.mono rfl).trans (f.mono rfl)
      exact op_fin2 i rfl (by decide) F [11] rfl (new1 new) (i.2.fl F rfl)
  by_cases x0 : x = 0
  · have e33 : (zz ζ).1 33 x.toNat = ζ.2.2.1 := by rw [x0]; rfl
    have nn := old y
    rw [e33] at nn
    cases eo : ζ.2.2.1 with
    | none => exact absurd eo nn
    | some u =>
      have i1 := im.1
      rw [eo] at i1
      exact main u u ζ.2.2.2.1 0 1 (by omega) (Or.inl ⟨rfl, rfl⟩) (ζok_u i.1.1 (Or.inl eo)) (un u (Or.inl eo)) (by rw [e33]; exact eo) i1 im.2 (fun v hv => ⟨ζok_u i.1.1 (Or.inr hv), fun q => df u v eo hv q.symm⟩) (fun k a b => ⟨by rw [eo]; exact a, b⟩)
  · have x1 : x = 1 := by omega
    have e33 : (zz ζ).1 33 x.toNat = ζ.2.2.2.1 := by rw [x1]; rfl
    have nn := old y
    rw [e33] at nn
    cases eo : ζ.2.2.2.1 with
    | none => exact absurd eo nn
    | some u =>
      have i1 := im.2
      rw [eo] at i1
      exact main u u ζ.2.2.1 1 0 (by omega) (Or.inr ⟨rfl, rfl⟩) (ζok_u i.1.1 (Or.inr eo)) (un u (Or.inr eo)) (by rw [e33]; exact eo) i1 im.1 (fun v hv => ⟨ζok_u i.1.1 (Or.inl hv), fun q => df v u hv eo q⟩) (fun k a b => ⟨b, by rw [eo]; exact a⟩)
end IM2
