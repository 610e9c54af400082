/-! lies, and what fall needs -/
theorem lst_in {m : Nat → Bool} : ∀ {n : Nat}, lst m n ≠ -1 → m (lst m n).toNat = true
  | 0, z => absurd rfl z
  | n + 1, z => by
    unfold lst at z ⊢
    cases em : m n with
    | true => simp only [if_true, Int.toNat_natCast]; exact em
    | false =>
      rw [em] at z
      simp only [Bool.false_eq_true, if_false] at z ⊢
      exact lst_in z
theorem lst_cN {m : Nat → Bool} {n : Nat} (h : lst m n ≠ -1) : 0 < cN m n := by
  have b := lst_bd m n
  exact cN_of (r := (lst m n).toNat) (by omega) (lst_in h)
/-- behind the last one there is none -/
theorem lst_above {m : Nat → Bool} {r n : Nat} (hr : r < n) (h : lst m n < r) : m r = false := by
  cases e : m r with
  | false => rfl
  | true => have := lst_of hr e; omega
theorem fst1_cut {m : Nat → Bool} {n : Nat} {k : Nat} (h : lst m n = k) : fst1 m 0 n = fst1 m 0 (k + 1) := by
  have b := lst_bd m n
  have aux : ∀ d : Nat, k + 1 + d ≤ n → fst1 m 0 (k + 1 + d) = fst1 m 0 (k + 1) := by
    intro d
    induction d with
    | zero => intro _; rfl
    | succ d ih =>
      intro hd
      have ih' := ih (by omega)
      rw [show k + 1 + (d + 1) = (k + 1 + d) + 1 by omega, fst1_s, ih']
      have hm : m (0 + (k + 1 + d)) = false := lst_above (n := n) (by omega) (by omega)
      rw [hm]
      by_cases z : fst1 m 0 (k + 1) = -1
      · rw [z]; simp
      · rw [if_pos z]
  have := aux (n - (k + 1)) (by omega)
  rwa [show k + 1 + (n - (k + 1)) = n by omega] at this
theorem fst1_one {m : Nat → Bool} {k : Nat} (hm : m k = true) (h : lst m k = -1) : fst1 m 0 (k + 1) = k := by
  rw [fst1_s]
  have : fst1 m 0 k = -1 := by
    rcases fst1_bd m k 0 with e | e
    · exact e
    · have hr : fst1 m 0 k = ((fst1 m 0 k).toNat : Nat) := by omega
      have := lst_of (m := m) (r := (fst1 m 0 k).toNat) (n := k) (by omega) (fst1_in _ hr)
      omega
  rw [this, Nat.zero_add, hm]; simp
theorem fst1_more {m : Nat → Bool} {k : Nat} (h : lst m k ≠ -1) : fst1 m 0 (k + 1) = fst1 m 0 k := by
  rw [fst1_s]
  have b := fst1_lt (lst_cN h)
  rw [if_pos (by omega)]
theorem cN_two {m : Nat → Bool} : ∀ {n : Nat}, 0 < cN m n → (fst1 m 0 n ≠ lst m n ↔ 1 < cN m n)
  | 0, h => by simp [cN] at h
  | n + 1, h => by
    have cb := cN_bd m n
    unfold cN at h ⊢
    unfold lst
    rw [fst1_s, Nat.zero_add]
    cases e : m n with
    | false =>
      rw [e] at h
      simp only [Bool.false_eq_true, if_false, Int.add_zero] at h ⊢
      have f := fst1_lt h
      rw [if_pos (by omega)]
      exact cN_two h
    | true =>
      simp only [if_true]
      by_cases z : 0 < cN m n
      · have f := fst1_lt z
        rw [if_pos (by omega)]
        constructor <;> intro _ <;> omega
      · have f : fst1 m 0 n = -1 := by
          rcases fst1_bd m n 0 with y | y
          · exact y
          · have hr : fst1 m 0 n = ((fst1 m 0 n).toNat : Nat) := by omega
            exact absurd (cN_of (r := (fst1 m 0 n).toNat) (n := n) (by omega) (fst1_in _ hr)) z
        rw [f]; simp; omega
theorem rjp_cut {s : Int → Int} {c : Int} : ∀ {n k : Nat}, k ≤ n → (∀ r, k ≤ r → r < n → rq s c r = false) → rjp s c n = rjp s c k
  | 0, k, h, _ => by rw [show k = 0 by omega]
  | n + 1, k, h, hq => by
    by_cases e : k = n + 1
    · rw [e]
    · show (rjp s c n || (rq s c n && _)) = rjp s c k
      rw [hq n (by omega) (by omega), rjp_cut (n := n) (k := k) (by omega) (fun r h1 h2 => hq r h1 (by omega))]
      simp
theorem rwm_cut {s : Int → Int} {c : Int} : ∀ {n k : Nat}, k ≤ n → (∀ r, k ≤ r → r < n → rq s c r = false) → rwm s c n = rwm s c k
  | 0, k, h, _ => by rw [show k = 0 by omega]
  | n + 1, k, h, hq => by
    by_cases e : k = n + 1
    · rw [e]
    · show (rwm s c n || (rq s c n && _)) = rwm s c k
      rw [hq n (by omega) (by omega), rwm_cut (n := n) (k := k) (by omega) (fun r h1 h2 => hq r h1 (by omega))]
      simp
def lv3 (L J W : Bool) : Int := (if L then 1 else 0) + (if J then 2 else 0) + (if W then 4 else 0)
theorem lv3_0 (L J W : Bool) : bor (lv3 L J W) 0 = lv3 L J W := by cases L <;> cases J <;> cases W <;> decide
theorem lv3_2 (L J W : Bool) : bor (lv3 L J W) 2 = lv3 L true W := by cases L <;> cases J <;> cases W <;> decide
theorem lv3_4 (L J W : Bool) : bor (lv3 L J W) 4 = lv3 L J true := by cases L <;> cases J <;> cases W <;> decide
theorem lv3_1 (J W : Bool) (L : Bool) : bor ((if J then 2 else 0) + (if W then 4 else 0)) (if L then 1 else 0) = lv3 L J W := by cases L <;> cases J <;> cases W <;> decide
theorem lv3_bd (L J W : Bool) : 0 ≤ lv3 L J W ∧ lv3 L J W ≤ 7 := by cases L <;> cases J <;> cases W <;> decide
/-- what is known of the reference's rests -/
def rsK (s : Int → Int) (n : Nat) : Prop := n ≤ 200 ∧ s 13 = n ∧ (0 ≤ s 8 ∧ s 8 ≤ 99) ∧ (0 ≤ s 9 ∧ s 9 ≤ 99) ∧ (0 ≤ s 10 ∧ s 10 ≤ 99) ∧ (∀ k : Nat, k < n → (0 ≤ s (877 + 4 * (k : Int)) ∧ s (877 + 4 * (k : Int)) ≤ 60) ∧ (0 ≤ s (877 + 4 * (k : Int) + 1) ∧ s (877 + 4 * (k : Int) + 1) ≤ 99) ∧ (0 ≤ s (877 + 4 * (k : Int) + 2) ∧ s (877 + 4 * (k : Int) + 2) ≤ 4200) ∧ (0 ≤ s (877 + 4 * (k : Int) + 3) ∧ s (877 + 4 * (k : Int) + 3) ≤ 99)) ∧ (∀ k k' : Nat, k < k' → k' < n → s (877 + 4 * (k : Int)) = s (877 + 4 * (k' : Int)) → s (877 + 4 * (k : Int) + 1) < s (877 + 4 * (k' : Int) + 1))
theorem rsK.at {s : Int → Int} {n : Nat} (h : rsK s n) {k : Int} (h0 : 0 ≤ k) (h1 : k < n) : (0 ≤ s (877 + 4 * k) ∧ s (877 + 4 * k) ≤ 60) ∧ (0 ≤ s (877 + 4 * k + 1) ∧ s (877 + 4 * k + 1) ≤ 99) ∧ (0 ≤ s (877 + 4 * k + 2) ∧ s (877 + 4 * k + 2) ≤ 4200) ∧ (0 ≤ s (877 + 4 * k + 3) ∧ s (877 + 4 * k + 3) ≤ 99) := by
  have := h.2.2.2.2.2.1 k.toNat (by omega)
  rwa [show ((k.toNat : Nat) : Int) = k by omega] at this
theorem rsK_of {S : HI} {s nm : Int → Int} (i : SR S s nm) : rsK s (S 0 10).toNat := by
  obtain ⟨sa, sc, sr, ss, sp, su⟩ := i
  have l6 := sa.2.2.1 6 (by decide) (by decide)
  have l7 := sa.2.2.1 7 (by decide) (by decide)
  have l8 := sa.2.2.1 8 (by decide) (by decide)
  have m6 : s 8 = S 4 6 ∧ 0 ≤ S 4 6 ∧ S 4 6 ≤ 99 := l6
  have m7 : s 9 = S 4 7 ∧ 0 ≤ S 4 7 ∧ S 4 7 ≤ 99 := l7
  have m8 : s 10 = S 4 8 ∧ 0 ≤ S 4 8 ∧ S 4 8 ≤ 99 := l8
  have r0 := ss.1
  have c0 := sc.1
  refine ⟨by omega, by omega, by omega, by omega, by omega, fun k hk => ?_, fun k k' h0 h1 => ss.2.2.1 k k' h0 (by omega)⟩
  have := ss.2.1 k (by omega)
  exact ⟨⟨this.1.1, by omega⟩, this.2⟩
def rfell (s : Int → Int) (c : Int) (n : Nat) : Int := s (877 + 4 * fst1 (rq s c) 0 n + 2) - s (877 + 4 * lst (rq s c) n + 2)
def rdays (s : Int → Int) (c : Int) (n : Nat) : Int := s (877 + 4 * lst (rq s c) n + 1) - s (877 + 4 * fst1 (rq s c) 0 n + 1)
theorem rfd_bd {s : Int → Int} {n : Nat} (h : rsK s n) {c : Int} (h2 : 1 < cN (rq s c) n) : (-4200 ≤ rfell s c n ∧ rfell s c n ≤ 4200) ∧ (1 ≤ rdays s c n ∧ rdays s c n ≤ 99) := by
  have f := fst1_lt (m := rq s c) (n := n) (by omega)
  have g := lst_lt (m := rq s c) (n := n) (by omega)
  have a := h.at f.1 f.2
  have b := h.at g.1 g.2
  have ne := (cN_two (m := rq s c) (n := n) (by omega)).mpr h2
  have hr : fst1 (rq s c) 0 n = ((fst1 (rq s c) 0 n).toNat : Nat) := by omega
  have m1 := fst1_in (m := rq s c) _ hr
  have le := lst_of (m := rq s c) (r := (fst1 (rq s c) 0 n).toNat) (n := n) (by omega) m1
  have m2 := lst_in (m := rq s c) (n := n) (by omega)
  have d := h.2.2.2.2.2.2 (fst1 (rq s c) 0 n).toNat (lst (rq s c) n).toNat (by omega) (by omega) ((of_decide_eq_true m1).trans (of_decide_eq_true m2).symm)
  rw [show (((fst1 (rq s c) 0 n).toNat : Nat) : Int) = fst1 (rq s c) 0 n by omega, show (((lst (rq s c) n).toNat : Nat) : Int) = lst (rq s c) n by omega] at d
  unfold rfell rdays
  omega
section OP7
variable {l : Launch} {D : Nat} {ζ : ZP} {h : HI} {Q : Int → HI → Prop} {c x : Int}
theorem s_falls (hn : 144 ≤ ζ.2.2.2.2) {n : Nat} (k : rsK (h 99) n) (r1 : rg c) (h1 : 1 < cN (rq (h 99) c) n → Q 1 (hu (hu h 97 28 (rfell (h 99) c n)) 97 29 (rdays (h 99) c n))) (h0 : ¬ 1 < cN (rq (h 99) c) n → Q 0 h) : RtI l (D + 2) mX12_falls (zz ζ) [aP 97, aI c] h Q := by
  have hs : ∀ m : Nat, m ≤ n → ∀ j : Nat, j < m → rg (h 99 (877 + 4 * (j : Int))) := fun m hm j hj => by
    have := (k.at (k := j) (by omega) (by omega)).1
    constructor <;> omega
  have kb := k.1
  refine e_X12_falls hn ?_
  rw [k.2.1]
  refine s_restAhead hn k.1 (hs n (Nat.le_refl _)) r1 ?_
  have lb := lst_bd (rq (h 99) c) n
  have main : ∀ (m : Nat) (x3 : Int), m ≤ n → (lst (rq (h 99) c) m = -1 → x3 = (if lst (rq (h 99) c) n = -1 then lst (rq (h 99) c) n else fst1 (rq (h 99) c) 0 n)) → (lst (rq (h 99) c) m ≠ -1 → fst1 (rq (h 99) c) 0 m = fst1 (rq (h 99) c) 0 n ∧ lst (rq (h 99) c) n ≠ -1) → G l (D + 2) 0 0 mX12_falls (zz ζ) 18 [aP 97, aI c, aI (lst (rq (h 99) c) n), aI x3, aI (lst (rq (h 99) c) m)] [] h (qI (zz ζ) Q) := by
    intro m
    induction m using Nat.strongRecOn with
    | ind m ih =>
      intro x3 hm e1 e2
      have mb := lst_bd (rq (h 99) c) m
      refine b_X12_falls_18 hn ⟨by constructor <;> omega, iteI (fun z => ⟨by constructor <;> omega, iteI (fun z2 => ?_) (fun z2 => ?_)⟩) (fun z => ?_)⟩
      · refine h0 (fun y => ?_)
        have := lst_lt (m := rq (h 99) c) (n := n) (by omega)
        omega
      · have e := e1 (by omega)
        rw [if_neg (by omega)] at e
        have cp := lst_cN (m := rq (h 99) c) (n := n) (by omega)
        have f := fst1_lt cp
        refine ⟨by rw [e]; constructor <;> omega, ?_⟩
        rw [e]
        refine iteI (fun y => ⟨⟨by omega, by omega⟩, ⟨by omega, by omega⟩, ⟨by omega, by omega⟩, ⟨by omega, by omega⟩, h1 ((cN_two cp).mp y)⟩) (fun y => h0 (fun q => y ((cN_two cp).mpr q)))
      · obtain ⟨j, hj⟩ : ∃ j : Nat, lst (rq (h 99) c) m = j := ⟨(lst (rq (h 99) c) m).toNat, by omega⟩
        rw [hj]
        have e := e2 (by omega)
        have mj : rq (h 99) c j = true := by
          have := lst_in (m := rq (h 99) c) (n := m) (by omega)
          rwa [hj] at this
        refine s_restAhead hn (by omega) (hs j (by omega)) r1 (ih j (by omega) j (by omega) (fun y => ?_) (fun y => ?_))
        · rw [if_neg e.2, ← e.1, fst1_cut hj, fst1_one mj y]
        · rw [← e.1, fst1_cut hj, fst1_more y]
          exact ⟨rfl, e.2⟩
  refine main n _ (Nat.le_refl _) (fun y => ?_) (fun y => ⟨rfl, y⟩)
  rw [if_pos y]
theorem s_liesOf (hn : 144 ≤ ζ.2.2.2.2) {n : Nat} (k : rsK (h 99) n) (r1 : rg c) (hq : ∀ h', FL [(97, 28), (97, 29)] h h' → Q (lv3 (decide (1 < cN (rq (h 99) c) n ∧ h 99 8 * rdays (h 99) c n < rfell (h 99) c n)) (rjp (h 99) c n) (rwm (h 99) c n)) h') : RtI l (D + 3) mX12_liesOf (zz ζ) [aP 97, aI c] h Q := by
  have kb := k.1
  have hs : ∀ (g : HI), g 99 = h 99 → ∀ m : Nat, m ≤ n → ∀ j : Nat, j < m → rg (g 99 (877 + 4 * (j : Int))) := fun g hg m hm j hj => by
    rw [hg]
    have := (k.at (k := j) (by omega) (by omega)).1
    constructor <;> omega
  have main : ∀ (m : Nat) (L J W : Bool) (g : HI), FL [(97, 28), (97, 29)] h g → m ≤ n → (J || rjp (h 99) c m) = rjp (h 99) c n → (W || rwm (h 99) c m) = rwm (h 99) c n → L = decide (1 < cN (rq (h 99) c) n ∧ h 99 8 * rdays (h 99) c n < rfell (h 99) c n) → G l (D + 3) 0 0 mX12_liesOf (zz ζ) 46 [aP 97, aI c, aI (lv3 L J W), aI (lst (rq (h 99) c) m), aU, aU] [] g (qI (zz ζ) Q) := by
    intro m
    induction m using Nat.strongRecOn with
    | ind m ih =>
      intro L J W g f hm eJ eW eL
      have e99 : g 99 = h 99 := f.c 99 rfl
      have mb := lst_bd (rq (h 99) c) m
      refine b_X12_liesOf_46 hn ⟨by constructor <;> omega, iteI (fun z => ?_) (fun z => ?_)⟩
      · have no : ∀ r, r < m → rq (h 99) c r = false := fun r hr => lst_above hr (by omega)
        rw [rjp_no no, Bool.or_false] at eJ
        rw [rwm_no no, Bool.or_false] at eW
        have := hq g f
        rw [← eL, ← eJ, ← eW] at this
        exact this
      · obtain ⟨j, hj⟩ : ∃ j : Nat, lst (rq (h 99) c) m = j := ⟨(lst (rq (h 99) c) m).toNat, by omega⟩
        rw [hj, e99]
        have mj : rq (h 99) c j = true := by
          have := lst_in (m := rq (h 99) c) (n := m) (by omega)
          rwa [hj] at this
        have aj := k.at (k := j) (by omega) (by omega)
        have k10 := k.2.2.2.2.1
        have k9 := k.2.2.2.1
        have cutJ : rjp (h 99) c m = rjp (h 99) c (j + 1) := rjp_cut (by omega) (fun r h1 h2 => lst_above h2 (by omega))
        have cutW : rwm (h 99) c m = rwm (h 99) c (j + 1) := rwm_cut (by omega) (fun r h1 h2 => lst_above h2 (by omega))
        have sJ : rjp (h 99) c (j + 1) = (rjp (h 99) c j || decide (lst (rq (h 99) c) j ≠ -1 ∧ h 99 9 * (h 99 (877 + 4 * (j : Int) + 1) - h 99 (877 + 4 * lst (rq (h 99) c) j + 1)) < h 99 (877 + 4 * lst (rq (h 99) c) j + 2) - h 99 (877 + 4 * (j : Int) + 2))) := by
          show (rjp (h 99) c j || (rq (h 99) c j && _)) = _
          rw [mj, Bool.true_and]
        have sW : rwm (h 99) c (j + 1) = (rwm (h 99) c j || decide (h 99 10 ≤ h 99 (877 + 4 * (j : Int) + 3))) := by
          show (rwm (h 99) c j || (rq (h 99) c j && _)) = _
          rw [mj, Bool.true_and]
        have step : ∀ (W' : Bool) (s0 : Int), (W' || rwm (h 99) c j) = rwm (h 99) c n → bor (lv3 L J W) s0 = lv3 L J W' → G l (D + 3) 0 0 mX12_liesOf (zz ζ) 80 [aP 97, aI c, aU, aI j, aU, aU] [aI s0, aI (lv3 L J W)] g (qI (zz ζ) Q) := by
          intro W' s0 eW' es
          refine b_X12_liesOf_80 hn (s_restAhead hn (by omega) (hs g e99 j (by omega)) r1 ?_)
          rw [e99, es]
          have jb := lst_bd (rq (h 99) c) j
          refine ⟨by constructor <;> omega, iteI (fun y => ?_) (fun y => ?_)⟩
          · have al := k.at (k := lst (rq (h 99) c) j) (by omega) (by omega)
            have ml := lst_in (m := rq (h 99) c) (n := j) (by omega)
            have dd := k.2.2.2.2.2.2 (lst (rq (h 99) c) j).toNat j (by omega) (by omega) ((of_decide_eq_true ml).trans (of_decide_eq_true mj).symm)
            rw [show (((lst (rq (h 99) c) j).toNat : Nat) : Int) = lst (rq (h 99) c) j by omega] at dd
            have hb : 0 ≤ h 99 (877 + 4 * (j : Int) + 1) - h 99 (877 + 4 * lst (rq (h 99) c) j + 1) ∧ h 99 (877 + 4 * (j : Int) + 1) - h 99 (877 + 4 * lst (rq (h 99) c) j + 1) ≤ 99 := by omega
            have m1 := Int.mul_le_mul k9.2 hb.2 hb.1 (by decide)
            have m0 := Int.mul_nonneg k9.1 hb.1
            refine ⟨⟨by omega, by omega⟩, ⟨by omega, by omega⟩, ⟨by omega, by omega⟩, ⟨by omega, by omega⟩, by constructor <;> omega, by constructor <;> omega, iteI (fun u => s_restAhead hn (by omega) (hs g e99 j (by omega)) r1 ?_) (fun u => s_restAhead hn (by omega) (hs g e99 j (by omega)) r1 ?_)⟩
            · rw [e99, lv3_0]
              refine ih j (by omega) L J W' g f (by omega) ?_ eW' eL
              rw [← eJ, cutJ, sJ, decide_eq_false (fun q => by have := q.2; omega), Bool.or_false]
            · rw [e99, lv3_2]
              refine ih j (by omega) L true W' g f (by omega) ?_ eW' eL
              rw [← eJ, cutJ, sJ, decide_eq_true (show lst (rq (h 99) c) j ≠ -1 ∧ h 99 9 * (h 99 (877 + 4 * (j : Int) + 1) - h 99 (877 + 4 * lst (rq (h 99) c) j + 1)) < h 99 (877 + 4 * lst (rq (h 99) c) j + 2) - h 99 (877 + 4 * (j : Int) + 2) from ⟨by omega, by omega⟩)]
              simp
          · refine s_restAhead hn (by omega) (hs g e99 j (by omega)) r1 ?_
            rw [e99]
            refine ih j (by omega) L J W' g f (by omega) ?_ eW' eL
            rw [← eJ, cutJ, sJ, decide_eq_false (fun q => q.1 (by omega)), Bool.or_false]
        refine ⟨⟨by omega, by omega⟩, by constructor <;> omega, by constructor <;> omega, iteI (fun y => step W 0 ?_ (lv3_0 _ _ _)) (fun y => step true 4 ?_ (lv3_4 _ _ _))⟩
        · rw [← eW, cutW, sW, decide_eq_false (by omega), Bool.or_false]
        · rw [← eW, cutW, sW, decide_eq_true (show h 99 10 ≤ h 99 (877 + 4 * (j : Int) + 3) by omega)]
          simp
  have hL : ∀ b : Bool, (if b then (1 : Int) else 0) = lv3 b false false := by intro b; cases b <;> decide
  refine e_X12_liesOf hn (s_falls hn k r1 (fun y => ?_) (fun y => ?_))
  · have e99 : (hu (hu h 97 28 (rfell (h 99) c n)) 97 29 (rdays (h 99) c n)) 99 = h 99 := by rw [hu_c _ _ _ (by decide), hu_c _ _ _ (by decide)]
    have e28 : (hu (hu h 97 28 (rfell (h 99) c n)) 97 29 (rdays (h 99) c n)) 97 28 = rfell (h 99) c n := by simp [hu]
    have e29 : (hu (hu h 97 28 (rfell (h 99) c n)) 97 29 (rdays (h 99) c n)) 97 29 = rdays (h 99) c n := by simp [hu]
    have fb := rfd_bd k y
    have k8 := k.2.2.1
    have m1 := Int.mul_le_mul k8.2 fb.2.2 (by omega) (by decide)
    have m0 := Int.mul_nonneg k8.1 (show 0 ≤ rdays (h 99) c n by omega)
    rw [e99, e28, e29, k.2.1]
    refine ⟨by decide, iteN (by decide) ⟨by constructor <;> omega, by constructor <;> omega, iteI (fun u => s_restAhead hn k.1 (hs _ e99 n (Nat.le_refl _)) r1 ?_) (fun u => s_restAhead hn k.1 (hs _ e99 n (Nat.le_refl _)) r1 ?_)⟩⟩
    · rw [e99]
      exact main n false false false _ ((FL.refl.u rfl).u rfl) (Nat.le_refl _) (Bool.false_or _) (Bool.false_or _) (decide_eq_false (fun q => by have := q.2; omega)).symm
    · rw [e99]
      exact main n true false false _ ((FL.refl.u rfl).u rfl) (Nat.le_refl _) (Bool.false_or _) (Bool.false_or _) (decide_eq_true (show 1 < cN (rq (h 99) c) n ∧ h 99 8 * rdays (h 99) c n < rfell (h 99) c n from ⟨y, by omega⟩)).symm
  · rw [k.2.1]
    refine ⟨by decide, iteP rfl (s_restAhead hn k.1 (hs _ rfl n (Nat.le_refl _)) r1 ?_)⟩
    exact main n false false false _ FL.refl (Nat.le_refl _) (Bool.false_or _) (Bool.false_or _) (decide_eq_false (fun q => y q.1)).symm
theorem s_xliesOf (hn : 144 ≤ ζ.2.2.2.2) (sr : SR (stk 3 h) (h 99) (h 101)) (hc : 0 ≤ c ∧ c < h 3 3) (hq : Q (lv3 (decide (1 < cN (rq (h 99) c) (h 3 10).toNat ∧ h 99 8 * rdays (h 99) c (h 3 10).toNat < rfell (h 99) c (h 3 10).toNat)) (rjp (h 99) c (h 3 10).toNat) (rwm (h 99) c (h 3 10).toNat)) h) : RtI l (D + 2) mX5_liesOf (zz ζ) [aP 3, aI c] h Q := by
  have k := rsK_of sr
  have kn : (stk 3 h 0 10).toNat = (h 3 10).toNat := rfl
  rw [kn] at k
  have w := sr.2.2.2.1.2.2.2 c hc.1 hc.2
  rw [kn] at w
  have w1 : h 27 c = cN (rq (h 99) c) (h 3 10).toNat := w.1
  have w3 : h 32 c = (if rjp (h 99) c (h 3 10).toNat then 2 else 0) + (if rwm (h 99) c (h 3 10).toNat then 4 else 0) := w.2.2
  have c6 : h 3 3 ≤ 60 := sr.2.1.1.2.1
  have cb := cN_bd (rq (h 99) c) (h 3 10).toNat
  have kb := k.1
  have l6 : h 99 8 = h 7 6 := (sr.1.2.2.1 6 (by decide) (by decide)).1
  have b0 := lv3_1 (rjp (h 99) c (h 3 10).toNat) (rwm (h 99) c (h 3 10).toNat) false
  have b1 := lv3_1 (rjp (h 99) c (h 3 10).toNat) (rwm (h 99) c (h 3 10).toNat) true
  simp only [Bool.false_eq_true, if_false, if_true] at b0 b1
  refine e_X5_liesOf hn ⟨⟨hc.1, by omega⟩, by constructor <;> omega, iteI (fun y => ?_) (fun y => ?_)⟩
  · rw [decide_eq_false (fun q => by have := q.1; omega), ← b0, ← w3] at hq
    exact hq
  · have y' : 1 < cN (rq (h 99) c) (h 3 10).toNat := by omega
    have v := w.2.1 (by omega)
    have v1 : h 28 c = h 99 (877 + 4 * fst1 (rq (h 99) c) 0 (h 3 10).toNat + 1) := v.1
    have v2 : h 29 c = h 99 (877 + 4 * fst1 (rq (h 99) c) 0 (h 3 10).toNat + 2) := v.2.1
    have v3 : h 30 c = h 99 (877 + 4 * lst (rq (h 99) c) (h 3 10).toNat + 1) := v.2.2.1
    have v4 : h 31 c = h 99 (877 + 4 * lst (rq (h 99) c) (h 3 10).toNat + 2) := v.2.2.2
    have ef : h 29 c - h 31 c = rfell (h 99) c (h 3 10).toNat := by rw [v2, v4]; rfl
    have ed : h 30 c - h 28 c = rdays (h 99) c (h 3 10).toNat := by rw [v1, v3]; rfl
    have fb := rfd_bd k y'
    have k8 := k.2.2.1
    have m1 := Int.mul_le_mul k8.2 fb.2.2 (by omega) (by decide)
    have m0 := Int.mul_nonneg k8.1 (show 0 ≤ rdays (h 99) c (h 3 10).toNat by omega)
    refine e_X5_fallenBy hn ⟨⟨hc.1, by omega⟩, e_X5_daysBetween hn ⟨⟨hc.1, by omega⟩, ?_⟩⟩
    rw [ef, ed, ← l6]
    refine ⟨by constructor <;> omega, by constructor <;> omega, iteI (fun u => ?_) (fun u => ?_)⟩
    · rw [decide_eq_false (fun q => by have := q.2; omega), ← b0, ← w3] at hq
      exact hq
    · rw [decide_eq_true (show 1 < cN (rq (h 99) c) (h 3 10).toNat ∧ h 99 8 * rdays (h 99) c (h 3 10).toNat < rfell (h 99) c (h 3 10).toNat from ⟨y', by omega⟩), ← b1, ← w3] at hq
      exact hq
theorem op_lies (i : Inv ζ h) (hx : rg c) : Op l (D + 60) ζ mX11_lies mX12_lies [aI c] h := by
  have hn := ζok_n i.1.1
  have sr : SR (stk 3 h) (h 99) (h 101) := i.1.2 2
  have a2 : h 99 11 = h 3 3 ∧ 0 ≤ h 3 3 ∧ h 3 3 ≤ 60 := ⟨sr.2.1.1.2.2, sr.2.1.1.1, sr.2.1.1.2.1⟩
  have e99 : hu h 97 0 0 99 = h 99 := hu_c _ _ _ (by decide)
  have k := rsK_of sr
  have kn : (stk 3 h 0 10).toNat = (h 3 10).toNat := rfl
  rw [kn] at k
  refine e_X11_lies hn (s_hasCell hn hx (by constructor <;> omega) ?_)
  by_cases c1 : 0 ≤ c ∧ c ≤ h 3 3 - 1
  · rw [if_pos c1]
    refine ⟨by decide, iteN (by decide) (s_xliesOf hn sr ⟨c1.1, by omega⟩ ⟨rfl, rfl, e_X12_lies hn (s_isCell hn hx (by rw [e99, a2.1]; constructor <;> omega) ?_)⟩)⟩
    rw [e99, a2.1, if_pos c1]
    refine ⟨by decide, iteN (by decide) (s_liesOf hn (n := (h 3 10).toNat) (by rw [e99]; exact k) hx (fun g f => ?_))⟩
    rw [e99]
    refine op_fin (L := [(97, 0), (97, 28), (97, 29)]) i rfl ?_ ((FL.refl.u rfl).trans (f.mono rfl)) rfl
    have := lv3_bd (decide (1 < cN (rq (h 99) c) (h 3 10).toNat ∧ h 99 8 * rdays (h 99) c (h 3 10).toNat < rfell (h 99) c (h 3 10).toNat)) (rjp (h 99) c (h 3 10).toNat) (rwm (h 99) c (h 3 10).toNat)
    constructor <;> omega
  · rw [if_neg c1]
    refine ⟨by decide, iteP rfl ⟨rfl, rfl, e_X12_lies hn (s_isCell hn hx (by rw [e99, a2.1]; constructor <;> omega) ?_)⟩⟩
    rw [e99, a2.1, if_neg c1]
    exact ⟨by decide, iteP rfl (op_fin i rfl (by decide) FL.th rfl)⟩
end OP7
