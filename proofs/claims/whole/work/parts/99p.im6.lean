/-! image: the call -/
theorem rl_lt {u : Nat} (tab : (List.range u).all (fun a => (RLl.getD a []).all (fun o => match o with | some v => Nat.blt v u | none => true)) = true) {a j v : Nat} (ha : a < u) (h : rlA a j = some v) : v < u := by
  have t := List.all_eq_true.mp tab a (List.mem_range.mpr ha)
  unfold rlA at h
  rw [List.getD_eq_getElem?_getD] at h
  cases e : (RLl.getD a [])[j]? with
  | none => rw [e] at h; cases h
  | some o =>
    rw [e] at h
    have h' : o = some v := h
    have m := List.mem_of_getElem? e
    have := List.all_eq_true.mp t o m
    rw [h'] at this
    simpa using this
theorem zb_zz {u : Nat} (tab : (List.range u).all (fun a => (RLl.getD a []).all (fun o => match o with | some v => Nat.blt v u | none => true)) = true) (hu : 144 ≤ u) {ζ : ZP} (z : ζok ζ) (h0 : ∀ v, ζ.2.2.1 = some v → v < u) (h1 : ∀ v, ζ.2.2.2.1 = some v → v < u) : zb ((zz ζ).1, u) := by
  intro a j v ha hv
  simp only at ha hv ⊢
  unfold zz at hv
  simp only at hv
  split at hv
  · split at hv
    · exact h0 v hv
    · split at hv
      · exact h1 v hv
      · cases hv
  · split at hv
    · cases hv
      rcases z.1 with e | e <;> omega
    · split at hv
      · cases hv
        rcases z.1 with e | e <;> omega
      · exact rl_lt tab ha hv
set_option maxRecDepth 20000 in
theorem rl_tab144 : (List.range 144).all (fun a => (RLl.getD a []).all (fun o => match o with | some v => Nat.blt v 144 | none => true)) = true := by decide +kernel
set_option maxRecDepth 20000 in
theorem rl_tab174 : (List.range 174).all (fun a => (RLl.getD a []).all (fun o => match o with | some v => Nat.blt v 174 | none => true)) = true := by decide +kernel
section IM6
variable {l : Launch} {D : Nat} {ζ : ZP} {h : HI} {x : Int}
theorem op_image (i : Inv ζ h) (rx : rg x) : OpZ l (D + 60) 0 0 ζ mX11_image mX12_image [aI x] h ∨ OpZ l (D + 60) 30 1984 ζ mX11_image mX12_image [aI x] h := by
  have hn := ζok_n i.1.1
  have im : imI ζ h := i.1.2 11
  have z := i.1.1
  by_cases y : 0 ≤ x ∧ x < 2
  rotate_left
  · left
    refine OpZ.of (e_X11_image_ref (D := D + 58) hn rx (fun q => y ⟨q.1, by omega⟩) ?_)
    exact ⟨rfl, rfl, s_mimage hn rx (fun _ => op_fin i rfl (by decide) FL.th rfl) (fun q => absurd q y)⟩
  have e33 : (zz ζ).1 33 x.toNat = if x = 0 then ζ.2.2.1 else ζ.2.2.2.1 := by
    by_cases x0 : x = 0
    · rw [x0]; rfl
    · rw [show x = 1 by omega]; rfl
  by_cases old : (zz ζ).1 33 x.toNat ≠ none
  · left
    refine OpZ.of (op_image_old i rx (fun _ => old) ?_)
    cases e : (zz ζ).1 33 x.toNat with
    | none => exact absurd e old
    | some u =>
      rw [e33] at e
      split at e
      · exact ⟨u, Or.inl e⟩
      · exact ⟨u, Or.inr e⟩
  · right
    have no : (zz ζ).1 33 x.toNat = none := Classical.not_not.mp old
    obtain ⟨yn, ey⟩ : ∃ yn : Nat, x = yn := ⟨x.toNat, by omega⟩
    subst ey
    rw [Int.toNat_natCast] at no e33
    rcases z.2 with e | e | e | e | e
    · -- the first image
      have zb0 := zb_zz rl_tab144 (by decide) z (fun v hv => by rw [e.1] at hv; cases hv) (fun v hv => by rw [e.2.1] at hv; cases hv)
      by_cases y0 : yn = 0
      · subst y0
        have z1 : ζok (ζ.1, ζ.2.1, some 144, none, 174) := ⟨z.1, Or.inr (Or.inl ⟨rfl, rfl, rfl⟩)⟩
        refine Ret.mono (e_X11_image_new144 (D := D + 57) (ζ1 := (ζ.1, ζ.2.1, some 144, none, 174)) (Q := fun g => _) e.2.2 zb0 (by decide) no rfl rfl (zi_zz144 rfl rfl (fun j => ?_)) (s_copyOut (ζok_n z1) (Or.inl rfl) (Nat.le_refl _) (fun g c => im_new (l := l) (D := D) (Or.inl rfl) i z1 rfl (yx := 0) (yo := 1) (Or.inl ⟨rfl, rfl⟩) (o := none) (by have := im.2; rw [e.2.1] at this; exact this) (fun v hv => by cases hv) (fun k a b => ⟨a, b⟩) c))) (fun v h1 zq q => ⟨_, 1, q.1, q.2.1, q.2.2.1, q.2.2.2.1, q.2.2.2.2⟩)
        rw [e.1, e.2.1]
        by_cases j0 : j = 0
        · rw [if_pos j0, if_pos j0]
        · rw [if_neg j0, if_neg j0, if_neg j0]
      · have y1 : yn = 1 := by omega
        subst y1
        have z1 : ζok (ζ.1, ζ.2.1, none, some 144, 174) := ⟨z.1, Or.inr (Or.inr (Or.inl ⟨rfl, rfl, rfl⟩))⟩
        refine Ret.mono (e_X11_image_new144 (D := D + 57) (ζ1 := (ζ.1, ζ.2.1, none, some 144, 174)) (Q := fun g => _) e.2.2 zb0 (by decide) no rfl rfl (zi_zz144 rfl rfl (fun j => ?_)) (s_copyOut (ζok_n z1) (Or.inl rfl) (Nat.le_refl _) (fun g c => im_new (l := l) (D := D) (Or.inl rfl) i z1 rfl (yx := 1) (yo := 0) (Or.inr ⟨rfl, rfl⟩) (o := none) (by have := im.1; rw [e.1] at this; exact this) (fun v hv => by cases hv) (fun k a b => ⟨b, a⟩) c))) (fun v h1 zq q => ⟨_, 1, q.1, q.2.1, q.2.2.1, q.2.2.2.1, q.2.2.2.2⟩)
        rw [e.1, e.2.1]
        by_cases j1 : j = 1
        · rw [if_pos j1, if_pos j1, if_neg (by omega)]
        · rw [if_neg j1, if_neg j1, if_neg j1]
    · -- the second, in place 1
      have y1 : yn = 1 := by
        apply Classical.byContradiction
        intro q
        rw [if_pos (by omega), e.1] at e33
        rw [no] at e33; cases e33
      subst y1
      have zb0 := zb_zz rl_tab174 (by decide) z (fun v hv => by rw [e.1] at hv; cases hv; decide) (fun v hv => by rw [e.2.1] at hv; cases hv)
      have z1 : ζok (ζ.1, ζ.2.1, some 144, some 174, 204) := ⟨z.1, Or.inr (Or.inr (Or.inr (Or.inl ⟨rfl, rfl, rfl⟩)))⟩
      refine Ret.mono (e_X11_image_new174 (D := D + 57) (ζ1 := (ζ.1, ζ.2.1, some 144, some 174, 204)) (Q := fun g => _) e.2.2 zb0 (by decide) no rfl rfl (zi_zz174 rfl rfl (fun j => ?_)) (s_copyOut (ζok_n z1) (Or.inr rfl) (Nat.le_refl _) (fun g c => im_new (l := l) (D := D) (Or.inr rfl) i z1 rfl (yx := 1) (yo := 0) (Or.inr ⟨rfl, rfl⟩) (o := some 144) (by have := im.1; rw [e.1] at this; exact this) (fun v hv => by cases hv; exact ⟨Or.inl rfl, by decide⟩) (fun k a b => ⟨b, a⟩) c))) (fun v h1 zq q => ⟨_, 1, q.1, q.2.1, q.2.2.1, q.2.2.2.1, q.2.2.2.2⟩)
      rw [e.1, e.2.1]
      by_cases j1 : j = 1
      · rw [if_pos j1, if_pos j1, if_neg (by omega)]
      · rw [if_neg j1, if_neg j1, if_neg j1]
    · -- the second, in place 0
      have y0 : yn = 0 := by
        apply Classical.byContradiction
        intro q
        rw [if_neg (by omega), e.2.1] at e33
        rw [no] at e33; cases e33
      subst y0
      have zb0 := zb_zz rl_tab174 (by decide) z (fun v hv => by rw [e.1] at hv; cases hv) (fun v hv => by rw [e.2.1] at hv; cases hv; decide)
      have z1 : ζok (ζ.1, ζ.2.1, some 174, some 144, 204) := ⟨z.1, Or.inr (Or.inr (Or.inr (Or.inr ⟨rfl, rfl, rfl⟩)))⟩
      refine Ret.mono (e_X11_image_new174 (D := D + 57) (ζ1 := (ζ.1, ζ.2.1, some 174, some 144, 204)) (Q := fun g => _) e.2.2 zb0 (by decide) no rfl rfl (zi_zz174 rfl rfl (fun j => ?_)) (s_copyOut (ζok_n z1) (Or.inr rfl) (Nat.le_refl _) (fun g c => im_new (l := l) (D := D) (Or.inr rfl) i z1 rfl (yx := 0) (yo := 1) (Or.inl ⟨rfl, rfl⟩) (o := some 144) (by have := im.2; rw [e.2.1] at this; exact this) (fun v hv => by cases hv; exact ⟨Or.inl rfl, by decide⟩) (fun k a b => ⟨a, b⟩) c))) (fun v h1 zq q => ⟨_, 1, q.1, q.2.1, q.2.2.1, q.2.2.2.1, q.2.2.2.2⟩)
      rw [e.1, e.2.1]
      by_cases j0 : j = 0
      · rw [if_pos j0, if_pos j0]
      · rw [if_neg j0, if_neg j0, if_neg j0]
    · exfalso
      rw [e.1, e.2.1] at e33
      rw [no] at e33
      split at e33 <;> cases e33
    · exfalso
      rw [e.1, e.2.1] at e33
      rw [no] at e33
      split at e33 <;> cases e33
end IM6
