/-! ORDER, CHECK: the reference's lift, walked -/
def L3 : List (Nat × Int) := [(135, -1), (136, -1), (137, -1)]
section OD6
variable {l : Launch} {D : Nat} {ζ : ZP} {Q : Int → HI → Prop} {QV : HI → Prop} {A B : Int → Int} {m M : Nat} {F : Int} {i n : Nat} {g : HI}
theorem s_comes (hn : 144 ≤ ζ.2.2.2.2) (hF : nd F) {y hh : Int} (hy : nd y) (lb : LB A B m M g) (lc : LCl A B m M F g) (lw : LW A B m M F i n g) (hi : i < n) (ad : adj A B m M (g 137 i) y) (eh : ∀ q mv, egs A B m M q mv → q y = q (g 137 i) ∧ mv y = mv (g 137 i) + (hh - g 136 (g 137 i))) (bh : -((i : Int) + 1) ≤ hh ∧ hh ≤ (i : Int) + 1) (hq : ∀ g' n', FL L3 g g' → LB A B m M g' → LCl A B m M F g' → LW A B m M F i n' g' → n ≤ n' → g' 135 y = F → g' 137 i = g 137 i → g' 136 (g 137 i) = g 136 (g 137 i) → (∀ x : Int, nd x → 0 ≤ g 135 x → g' 135 x = g 135 x) → Q n' g') : RtI l (D + 1) mX12_comes (zz ζ) [aP 97, aI y, aI F, aI hh, aI n] g Q := by
  obtain ⟨l1, l2⟩ := lb
  obtain ⟨w1, w2, w3, w4⟩ := lw
  have yb := l1 y hy
  have wi := w1 i hi
  have ft := cN_top (q := vis g) (N := 120)
  have yr : rg (g 135 y) := by
    by_cases c : 0 ≤ g 135 y
    · have := (yb.2 c).1; unfold nd at this; constructor <;> omega
    · have := yb.1; constructor <;> omega
  refine e_X12_comes hn ⟨hy, yr, ?_⟩
  have FF : g 135 F = F := by
    have := ((l1 _ wi.1).2 (by rw [wi.2.1]; exact hF.1)).2.1
    rw [wi.2.1] at this; exact this
  by_cases c : g 135 y < 0
  · have yF : y ≠ F := fun z => by rw [z, FF] at c; have := hF.1; omega
    have yw : ∀ j : Nat, j < n → g 137 j ≠ y := fun j hj z => by have := (w1 j hj).2.1; rw [z] at this; have := hF.1; omega
    obtain ⟨yn, eyn⟩ := Int.eq_ofNat_of_zero_le hy.1
    have up : ∀ (v : HI), v = hu (hu (hu g 135 y F) 136 y hh) 137 n y → cN (vis v) 120 = cN (vis g) 120 + 1 := by
      intro v ev
      have y120 := hy.2
      have := cN_up (q := vis g) (q' := vis v) (x := yn) (by unfold vis; rw [← eyn]; exact decide_eq_false (by omega)) (by unfold vis; rw [ev, hu_c _ _ _ (by decide), hu_c _ _ _ (by decide), ← eyn, hu_s]; exact decide_eq_true hF.1) (fun k hk => by unfold vis; rw [ev, hu_c _ _ _ (by decide), hu_c _ _ _ (by decide), hu_j _ _ _ (by omega)]) (N := 120)
      rw [if_pos (by omega)] at this
      exact this
    have vt := cN_top (q := vis (hu (hu (hu g 135 y F) 136 y hh) 137 n y)) (N := 120)
    have v1 := up _ rfl
    have n120 : n < 120 := by omega
    refine iteP c ⟨by omega, ?_⟩
    have e135 : ∀ x : Int, (hu (hu (hu g 135 y F) 136 y hh) 137 n y) 135 x = if x = y then F else g 135 x := by
      intro x
      rw [hu_c _ _ _ (by decide), hu_c _ _ _ (by decide), hu_eq]
      by_cases z : x = y
      · rw [if_pos ⟨rfl, z⟩, if_pos z]
      · rw [if_neg (fun q => z q.2), if_neg z]
    have e136 : ∀ x : Int, (hu (hu (hu g 135 y F) 136 y hh) 137 n y) 136 x = if x = y then hh else g 136 x := by
      intro x
      rw [hu_c _ _ _ (by decide), hu_eq, hu_c _ _ _ (by decide)]
      by_cases z : x = y
      · rw [if_pos ⟨rfl, z⟩, if_pos z]
      · rw [if_neg (fun q => z q.2), if_neg z]
    have e137 : ∀ j : Int, (hu (hu (hu g 135 y F) 136 y hh) 137 n y) 137 j = if j = n then y else g 137 j := by
      intro j
      rw [hu_eq, hu_c _ _ _ (by decide), hu_c _ _ _ (by decide)]
      by_cases z : j = n
      · rw [if_pos ⟨rfl, z⟩, if_pos z]
      · rw [if_neg (fun q => z q.2), if_neg z]
    have FL1 : FL L3 g (hu (hu (hu g 135 y F) 136 y hh) 137 n y) := ((FL.refl.ua (by decide)).ua (by decide)).ua (by decide)
    generalize hu (hu (hu g 135 y F) 136 y hh) 137 n y = g' at e135 e136 e137 v1 FL1 ⊢
    have wy := yw i hi
    rw [show (n : Int) + 1 = ((n + 1 : Nat) : Int) by omega]
    refine hq g' (n + 1) FL1 ⟨fun x hx => ?_, fun q mv e x hx vx => ?_⟩ (fun x hx vx nF z hz az => ?_) ⟨fun j hj => ?_, fun x hx ex => ?_, fun j hj z hz az => ?_, by omega⟩ (by omega) (by rw [e135, if_pos rfl]) (by rw [e137, if_neg (by omega)]) (by rw [e136, if_neg wy]) (fun x hx ex => ?_)
    · rw [e135 x, e136 x]
      by_cases z : x = y
      · rw [if_pos z, if_pos z, e135 F, if_neg (fun q => yF q.symm)]
        have := hF.1
        exact ⟨by omega, fun _ => ⟨hF, FF, by omega⟩⟩
      · rw [if_neg z, if_neg z]
        have o := l1 x hx
        refine ⟨o.1, fun vx => ?_⟩
        have o2 := o.2 vx
        refine ⟨o2.1, ?_, o2.2.2⟩
        rw [e135, if_neg (fun q => by rw [q] at o2; omega)]
        exact o2.2.1
    · rw [e135 x] at vx ⊢
      rw [e136 x]
      by_cases z : x = y
      · rw [if_pos z, if_pos z]
        have a := eh q mv e
        have o := l2 q mv e _ wi.1 (by rw [wi.2.1]; exact hF.1)
        rw [wi.2.1] at o
        rw [z]
        exact ⟨a.1.trans o.1, by omega⟩
      · rw [if_neg z] at vx
        rw [if_neg z, if_neg z]
        exact l2 q mv e x hx vx
    · rw [e135 x] at vx nF ⊢
      by_cases zx : x = y
      · rw [if_pos zx] at nF; exact absurd rfl nF
      · rw [if_neg zx] at vx nF ⊢
        have o := lc x hx vx nF z hz az
        rw [e135, if_neg (fun q => by rw [q] at o; omega)]
        exact o
    · rw [e137 j]
      by_cases zj : j = n
      · rw [if_pos (by omega), e135, e136, if_pos rfl, if_pos rfl]
        exact ⟨hy, rfl, by omega⟩
      · rw [if_neg (by omega)]
        have o := w1 j (by omega)
        have ny := yw j (by omega)
        rw [e135, e136, if_neg ny, if_neg ny]
        exact o
    · rw [e135 x] at ex
      by_cases zx : x = y
      · exact ⟨n, by omega, by rw [e137, if_pos rfl, zx]⟩
      · rw [if_neg zx] at ex
        obtain ⟨j, j1, j2⟩ := w2 x hx ex
        exact ⟨j, by omega, by rw [e137, if_neg (by omega)]; exact j2⟩
    · rw [e137 j, if_neg (by omega)] at az
      have o := w3 j hj z hz az
      rw [e135, if_neg (fun q => by rw [q] at o; have := hF.1; omega)]
      exact o
    · rw [e135, if_neg (fun q => by rw [q] at ex; omega)]
  · have vy : 0 ≤ g 135 y := by omega
    have eF : g 135 y = F := by
      apply Classical.byContradiction
      intro z
      have := lc y hy vy z _ wi.1 (adj_sym wi.1 ad)
      rw [wi.2.1] at this
      exact z this.symm
    exact iteN c (hq g n FL.refl ⟨l1, l2⟩ lc ⟨w1, w2, w3, w4⟩ (Nat.le_refl _) eF rfl rfl (fun _ _ _ => rfl))
end OD6
