/-! which word: the class's search -/
def wtA : Nat → Int × Int
  | 0 => (0, 0)
  | i + 1 => if wby i = 32 then ((wtA i).1 + 1, 0) else ((wtA i).1, (wtA i).2 * 32 + wby i - 97 + 1)
def wdS (x : Int) : Nat → Nat → Int
  | 0, _ => -1
  | m + 1, i => if wby i = 32 ∧ (wtA i).2 = x then (wtA i).1 else wdS x m (i + 1)
def wdO (x : Int) : Int := wdS x 116 0
set_option maxRecDepth 40000 in
theorem wt_rg : (List.range 117).all (fun i => decide (rg (wtA i).2)) = true := by decide +kernel
/-- the words' letters, the last first -/
def rvW (k : Nat) : List Int := ([[8, 3, 14, 5, 2], [24, 15, 2], [5, 4, 1, 6], [18, 15, 15, 12, 6], [4, 5, 5, 12, 2], [5, 19, 21, 6], [5, 19, 9, 15, 14], [11, 1, 5, 12], [16, 13, 21, 10], [13, 18, 1, 23], [18, 15], [4, 14, 1], [20, 15, 14], [14, 9], [19, 5, 9, 12], [4, 5, 19, 21], [4, 12, 15, 8], [19, 19, 1, 16], [4, 1, 5, 18, 16, 19], [12, 12, 5, 3], [16, 9, 18, 20, 19], [18, 5, 20, 6, 1], [18, 1, 5, 14]] : List (List Int)).getD k []
set_option maxRecDepth 40000 in
theorem rw_tab : (List.range 23).all (fun k => decide (wdO (er (rvW k)) = k ∧ ew (rvW k) = rsvL.getD k 0) && (rvW k).all (fun x => decide (1 ≤ x ∧ x ≤ 26))) = true := by decide +kernel
set_option maxRecDepth 40000 in
theorem rw_pos : (List.range 116).all (fun i => decide (wby i = 32 → 0 ≤ (wtA i).1 ∧ (wtA i).1 < 23 ∧ (wtA i).2 = er (rvW (wtA i).1.toNat))) = true := by decide +kernel
theorem er_nn : ∀ {L : List Int}, (∀ x ∈ L, 1 ≤ x ∧ x ≤ 26) → 0 ≤ er L
  | [], _ => Int.le_refl _
  | x :: t, h => by
    have a := er_nn (L := t) (fun y hy => h y (List.mem_cons_of_mem _ hy))
    have b := h x List.mem_cons_self
    show 0 ≤ er t * 32 + x
    omega
theorem ew_nn : ∀ {L : List Int}, (∀ x ∈ L, 1 ≤ x ∧ x ≤ 26) → 0 ≤ ew L
  | [], _ => Int.le_refl _
  | x :: t, h => by
    have a := ew_nn (L := t) (fun y hy => h y (List.mem_cons_of_mem _ hy))
    have b := h x List.mem_cons_self
    show 0 ≤ ew t * 256 + (x + 96)
    omega
theorem er_inj : ∀ {L L' : List Int}, (∀ x ∈ L, 1 ≤ x ∧ x ≤ 26) → (∀ x ∈ L', 1 ≤ x ∧ x ≤ 26) → er L = er L' → L = L'
  | [], [], _, _, _ => rfl
  | [], x :: t, _, h', e => by
    have a := er_nn (L := t) (fun y hy => h' y (List.mem_cons_of_mem _ hy))
    have b := h' x List.mem_cons_self
    have e' : 0 = er t * 32 + x := e
    omega
  | x :: t, [], h, _, e => by
    have a := er_nn (L := t) (fun y hy => h y (List.mem_cons_of_mem _ hy))
    have b := h x List.mem_cons_self
    have e' : er t * 32 + x = 0 := e
    omega
  | x :: t, y :: u, h, h', e => by
    have b := h x List.mem_cons_self
    have b' := h' y List.mem_cons_self
    have e' : er t * 32 + x = er u * 32 + y := e
    have e1 : x = y := by omega
    rw [e1, er_inj (fun z hz => h z (List.mem_cons_of_mem _ hz)) (fun z hz => h' z (List.mem_cons_of_mem _ hz)) (show er t = er u by omega)]
theorem ew_inj : ∀ {L L' : List Int}, (∀ x ∈ L, 1 ≤ x ∧ x ≤ 26) → (∀ x ∈ L', 1 ≤ x ∧ x ≤ 26) → ew L = ew L' → L = L'
  | [], [], _, _, _ => rfl
  | [], x :: t, _, h', e => by
    have a := ew_nn (L := t) (fun y hy => h' y (List.mem_cons_of_mem _ hy))
    have b := h' x List.mem_cons_self
    have e' : 0 = ew t * 256 + (x + 96) := e
    omega
  | x :: t, [], h, _, e => by
    have a := ew_nn (L := t) (fun y hy => h y (List.mem_cons_of_mem _ hy))
    have b := h x List.mem_cons_self
    have e' : ew t * 256 + (x + 96) = 0 := e
    omega
  | x :: t, y :: u, h, h', e => by
    have b := h x List.mem_cons_self
    have b' := h' y List.mem_cons_self
    have e' : ew t * 256 + (x + 96) = ew u * 256 + (y + 96) := e
    have e1 : x = y := by omega
    rw [e1, ew_inj (fun z hz => h z (List.mem_cons_of_mem _ hz)) (fun z hz => h' z (List.mem_cons_of_mem _ hz)) (show ew t = ew u by omega)]
theorem rw_at {k : Nat} (hk : k < 23) : (wdO (er (rvW k)) = k ∧ ew (rvW k) = rsvL.getD k 0) ∧ ∀ x ∈ rvW k, 1 ≤ x ∧ x ≤ 26 := by
  have t := List.all_eq_true.mp rw_tab k (List.mem_range.mpr hk)
  simp only [Bool.and_eq_true] at t
  exact ⟨of_decide_eq_true t.1, fun x hx => of_decide_eq_true (List.all_eq_true.mp t.2 x hx)⟩
theorem wdS_in {x : Int} : ∀ {m i : Nat}, i + m ≤ 116 → wdS x m i = -1 ∨ ∃ k : Nat, k < 23 ∧ wdS x m i = k ∧ x = er (rvW k)
  | 0, _, _ => Or.inl rfl
  | m + 1, i, h => by
    show (if wby i = 32 ∧ (wtA i).2 = x then (wtA i).1 else wdS x m (i + 1)) = -1 ∨ ∃ k : Nat, k < 23 ∧ (if wby i = 32 ∧ (wtA i).2 = x then (wtA i).1 else wdS x m (i + 1)) = k ∧ x = er (rvW k)
    by_cases c : wby i = 32 ∧ (wtA i).2 = x
    · rw [if_pos c]
      have t := of_decide_eq_true (List.all_eq_true.mp rw_pos i (List.mem_range.mpr (by omega))) c.1
      exact Or.inr ⟨(wtA i).1.toNat, by omega, by omega, by rw [← t.2.2]; exact c.2.symm⟩
    · rw [if_neg c]
      exact wdS_in (by omega)
/-- a word's number -/
theorem wd_k {L : List Int} (hL : ∀ x ∈ L, 1 ≤ x ∧ x ≤ 26) {k : Nat} (hk : k < 23) : wdO (er L) = k ↔ ew L = rsvL.getD k 0 := by
  have r := rw_at hk
  constructor
  · intro e
    rcases wdS_in (x := er L) (m := 116) (i := 0) (by omega) with q | ⟨k', h1, h2, h3⟩
    · have : wdO (er L) = -1 := q
      omega
    · have : wdO (er L) = k' := h2
      have : k' = k := by omega
      subst this
      rw [er_inj hL r.2 h3]
      exact r.1.2
  · intro e
    rw [← r.1.2] at e
    rw [ew_inj hL r.2 e]
    exact r.1.1
theorem wd_bd (x : Int) : wdO x = -1 ∨ ∃ k : Nat, k < 23 ∧ wdO x = k := by
  rcases wdS_in (x := x) (m := 116) (i := 0) (by omega) with q | ⟨k', h1, h2, h3⟩
  · exact Or.inl q
  · exact Or.inr ⟨k', h1, h2⟩
theorem wd_no {L : List Int} (hL : ∀ x ∈ L, 1 ≤ x ∧ x ≤ 26) : wdO (er L) = -1 ↔ ∀ k : Nat, k < 23 → ew L ≠ rsvL.getD k 0 := by
  constructor
  · intro e k hk q
    have := (wd_k hL hk).mpr q
    omega
  · intro a
    rcases wd_bd (er L) with q | ⟨k, h1, h2⟩
    · exact q
    · exact absurd ((wd_k hL h1).mp h2) (a k h1)
set_option maxRecDepth 20000 in
theorem rl_tab204 : (List.range 204).all (fun a => (RLl.getD a []).all (fun o => match o with | some v => Nat.blt v 204 | none => true)) = true := by decide +kernel
theorem zb_ok {ζ : ZP} (z : ζok ζ) : zb (zz ζ) := by
  have e : zz ζ = ((zz ζ).1, ζ.2.2.2.2) := rfl
  rw [e]
  rcases z.2 with q | q | q | q | q
  · rw [q.2.2]; exact zb_zz rl_tab144 (by decide) z (fun v hv => by rw [q.1] at hv; cases hv) (fun v hv => by rw [q.2.1] at hv; cases hv)
  · rw [q.2.2]; exact zb_zz rl_tab174 (by decide) z (fun v hv => by rw [q.1] at hv; cases hv; decide) (fun v hv => by rw [q.2.1] at hv; cases hv)
  · rw [q.2.2]; exact zb_zz rl_tab174 (by decide) z (fun v hv => by rw [q.1] at hv; cases hv) (fun v hv => by rw [q.2.1] at hv; cases hv; decide)
  · rw [q.2.2]; exact zb_zz rl_tab204 (by decide) z (fun v hv => by rw [q.1] at hv; cases hv; decide) (fun v hv => by rw [q.2.1] at hv; cases hv; decide)
  · rw [q.2.2]; exact zb_zz rl_tab204 (by decide) z (fun v hv => by rw [q.1] at hv; cases hv; decide) (fun v hv => by rw [q.2.1] at hv; cases hv; decide)
section WO
variable {l : Launch} {D : Nat} {ζ : ZP} {h : HI} {Q : Int → HI → Prop} {x0 nu to i : Int}
theorem b_X7_wordOf_6 (hzb : zb (zz ζ)) (ri : 0 ≤ i ∧ i ≤ 116) (w : if i = 116 then Q (-1) h else (if wby i.toNat = 32 then (rg to ∧ rg x0 ∧ (if ¬ to = x0 then G l (D + 5) 0 0 mX7_wordOf (zz ζ) 6 [aI x0, aI (nu + 1), aI 0, aI (i + 1), aU] [] h (qI (zz ζ) Q) else Q nu h)) else G l (D + 5) 0 0 mX7_wordOf (zz ζ) 6 [aI x0, aI nu, aI (to * 32 + wby i.toNat - 97 + 1), aI (i + 1), aU] [] h (qI (zz ζ) Q))) : G l (D + 5) 0 0 mX7_wordOf (zz ζ) 6 [aI x0, aI nu, aI to, aI i, aU] [] h (qI (zz ζ) Q) := by
  refine g_iload_n dX7_wordOf_6 rfl ?_
  refine g_strlen hzb rfl dX7_wordOf_7 dX7_wordOf_9 rfl rfl (Nat.le_of_ble_eq_true rfl) ?_
  refine g_cmp_ge (tgt := 64) dX7_wordOf_12 rfl (by constructor <;> omega) (by decide) (iteI (fun y => ?_) (fun y => ?_))
  · rw [if_pos (by omega)] at w
    refine g_iconst dX7_wordOf_64 ?_
    exact g_retI dX7_wordOf_65 rfl w
  · rw [if_neg (by omega)] at w
    refine g_strch (q := 3) hzb rfl dX7_wordOf_15 dX7_wordOf_17 rfl ⟨ri.1, by omega⟩ dX7_wordOf_18 rfl rfl (Nat.le_of_ble_eq_true rfl) ?_
    have wr : rg (wby i.toNat) := by
      have all : (List.range 116).all (fun j => decide (rg (wby j))) = true := by decide +kernel
      exact of_decide_eq_true (List.all_eq_true.mp all i.toNat (List.mem_range.mpr (by omega)))
    refine g_istore (ls' := [aI x0, aI nu, aI to, aI i, aI (wby i.toNat)]) dX7_wordOf_21 (Nat.le_of_ble_eq_true rfl) rfl rfl ?_
    refine g_iload dX7_wordOf_23 rfl ?_
    refine g_bipush dX7_wordOf_25 rfl ?_
    refine g_cmp_eq (tgt := 46) dX7_wordOf_27 rfl wr (by decide) (iteI (fun y2 => ?_) (fun y2 => ?_))
    · rw [if_pos y2] at w
      obtain ⟨o1, o2, w⟩ := w
      refine g_iload_n dX7_wordOf_46 rfl ?_
      refine g_iload_n dX7_wordOf_47 rfl ?_
      refine g_cmp_ne (tgt := 53) dX7_wordOf_48 rfl o1 o2 ?_
      refine ite_imp (fun w => ?_) (fun w => ?_) w
      · refine g_iinc (ls' := [aI x0, aI (nu + 1), aI to, aI i, aI (wby i.toNat)]) dX7_wordOf_53 rfl (Nat.le_of_ble_eq_true rfl) rfl rfl ?_
        refine g_iconst dX7_wordOf_56 ?_
        refine g_istore_n (ls' := [aI x0, aI (nu + 1), aI 0, aI i, aI (wby i.toNat)]) dX7_wordOf_57 (Nat.le_of_ble_eq_true rfl) rfl rfl ?_
        refine g_iinc (ls' := [aI x0, aI (nu + 1), aI 0, aI (i + 1), aI (wby i.toNat)]) dX7_wordOf_58 rfl (Nat.le_of_ble_eq_true rfl) rfl rfl ?_
        refine g_goto (tgt := 6) dX7_wordOf_61 rfl ?_
        exact g_sub (ls' := [aI x0, aI (nu + 1), aI 0, aI (i + 1), aU]) ⟨Or.inr rfl, Or.inr rfl, Or.inr rfl, Or.inr rfl, Or.inl rfl, trivial⟩ w
      · refine g_iload_n dX7_wordOf_51 rfl ?_
        exact g_retI dX7_wordOf_52 rfl w
    · rw [if_neg y2] at w
      refine g_iload_n dX7_wordOf_30 rfl ?_
      refine g_bipush dX7_wordOf_31 rfl ?_
      refine g_imul dX7_wordOf_33 ?_
      refine g_iload dX7_wordOf_34 rfl ?_
      refine g_iadd dX7_wordOf_36 ?_
      refine g_bipush dX7_wordOf_37 rfl ?_
      refine g_isub dX7_wordOf_39 ?_
      refine g_iconst dX7_wordOf_40 ?_
      refine g_iadd dX7_wordOf_41 ?_
      refine g_istore_n (ls' := [aI x0, aI nu, aI (to * 32 + wby i.toNat - 97 + 1), aI i, aI (wby i.toNat)]) dX7_wordOf_42 (Nat.le_of_ble_eq_true rfl) rfl rfl ?_
      refine g_goto (tgt := 58) dX7_wordOf_43 rfl ?_
      refine g_iinc (ls' := [aI x0, aI nu, aI (to * 32 + wby i.toNat - 97 + 1), aI (i + 1), aI (wby i.toNat)]) dX7_wordOf_58 rfl (Nat.le_of_ble_eq_true rfl) rfl rfl ?_
      refine g_goto (tgt := 6) dX7_wordOf_61 rfl ?_
      exact g_sub (ls' := [aI x0, aI nu, aI (to * 32 + wby i.toNat - 97 + 1), aI (i + 1), aU]) ⟨Or.inr rfl, Or.inr rfl, Or.inr rfl, Or.inr rfl, Or.inl rfl, trivial⟩ w
theorem s_wordOf (zk : ζok ζ) (rx : rg x0) (hq : Q (wdO x0) h) : RtI l (D + 5) mX7_wordOf (zz ζ) [aI x0] h Q := by
  have hzb := zb_ok zk
  have main : ∀ (m j : Nat), j + m = 116 → Q (wdS x0 m j) h → G l (D + 5) 0 0 mX7_wordOf (zz ζ) 6 [aI x0, aI (wtA j).1, aI (wtA j).2, aI j, aU] [] h (qI (zz ζ) Q) := by
    intro m
    induction m with
    | zero =>
      intro j hj hQ
      exact b_X7_wordOf_6 hzb ⟨by omega, by omega⟩ (iteP (by omega) hQ)
    | succ m ih =>
      intro j hj hQ
      have rt : rg (wtA j).2 := of_decide_eq_true (List.all_eq_true.mp wt_rg j (List.mem_range.mpr (by omega)))
      have eS : wdS x0 (m + 1) j = if wby j = 32 ∧ (wtA j).2 = x0 then (wtA j).1 else wdS x0 m (j + 1) := rfl
      have eT : wtA (j + 1) = if wby j = 32 then ((wtA j).1 + 1, 0) else ((wtA j).1, (wtA j).2 * 32 + wby j - 97 + 1) := rfl
      refine b_X7_wordOf_6 hzb ⟨by omega, by omega⟩ (iteN (by omega) ?_)
      rw [Int.toNat_natCast]
      by_cases c : wby j = 32
      · rw [if_pos c] at eT
        rw [if_pos c]
        refine ⟨rt, rx, iteI (fun y => ?_) (fun y => ?_)⟩
        · rw [eS, if_neg (fun q => y q.2)] at hQ
          have kk := ih (j + 1) (by omega) hQ
          rw [eT, show ((j + 1 : Nat) : Int) = (j : Int) + 1 by omega] at kk
          exact kk
        · rw [eS, if_pos ⟨c, Classical.not_not.mp y⟩] at hQ
          exact hQ
      · rw [if_neg c] at eT
        rw [if_neg c]
        rw [eS, if_neg (fun q => c q.1)] at hQ
        have kk := ih (j + 1) (by omega) hQ
        rw [eT, show ((j + 1 : Nat) : Int) = (j : Int) + 1 by omega] at kk
        exact kk
  exact e_X7_wordOf (ζok_n zk) (main 116 0 (by omega) hq)
end WO
theorem lbshl_nat {a k : Nat} (ha : a * 2 ^ k < 9223372036854775808) (ha' : a < 9223372036854775808) (hk : k < 64) : lbshl a k = ((a * 2 ^ k : Nat) : Int) := by
  show ((Int64.ofInt a <<< ((Int32.ofInt k).toInt64 &&& 63)).toBitVec).toInt = _
  rw [Int64.toBitVec_shiftLeft, i64bv, BitVec.shiftLeft_eq', sh64 k hk]
  have e : (BitVec.ofInt 64 (a : Int) <<< k).toNat = a * 2 ^ k := by
    rw [BitVec.toNat_shiftLeft, tn64 ha', Nat.shiftLeft_eq]
    exact Nat.mod_eq_of_lt (by omega)
  rw [ti64 (by rw [e]; exact ha), e]
/-- a letter more -/
theorem word_add {w c : Int} (hw : 0 ≤ w ∧ w < 36028797018963968) (hc : 0 ≤ c ∧ c ≤ 255) : lbor (lbshl w 8) c = w * 256 + c := by
  obtain ⟨a, rfl⟩ : ∃ a : Nat, w = a := ⟨w.toNat, by omega⟩
  obtain ⟨b, rfl⟩ : ∃ b : Nat, c = b := ⟨c.toNat, by omega⟩
  have e := lbshl_nat (a := a) (k := 8) (by show a * 256 < _; omega) (by omega) (by decide)
  rw [show ((8 : Nat) : Int) = 8 from rfl] at e
  rw [e, lbor_nat (by show a * 256 < _; omega) (by omega)]
  have o := Nat.shiftLeft_add_eq_or_of_lt (i := 8) (b := b) (by show b < 256; omega) a
  rw [Nat.shiftLeft_eq] at o
  rw [← o]
  show ((a * 256 + b : Nat) : Int) = _
  omega
theorem b255 {x : Int} (h : -128 ≤ x ∧ x ≤ 127) : band x 255 = if 0 ≤ x then x else x + 256 := by
  have all : ∀ n : Nat, n < 256 → band ((n : Int) - 128) 255 = if 0 ≤ (n : Int) - 128 then (n : Int) - 128 else (n : Int) - 128 + 256 := by decide +kernel
  have := all (x + 128).toNat (by omega)
  rwa [show (((x + 128).toNat : Nat) : Int) - 128 = x by omega] at this
