/-! packs: how they wear, on both sides -/
def sm (f : Nat → Int) : Nat → Int
  | 0 => 0
  | n + 1 => sm f n + f n
theorem sm_bd {f : Nat → Int} {K L : Int} : ∀ {n : Nat}, (∀ i, i < n → K ≤ f i ∧ f i ≤ L) → K * n ≤ sm f n ∧ sm f n ≤ L * n
  | 0, _ => by simp [sm]
  | n + 1, h => by
    have ih := sm_bd (n := n) (fun i hi => h i (by omega))
    have := h n (by omega)
    unfold sm
    rw [show ((n + 1 : Nat) : Int) = (n : Int) + 1 by omega, Int.mul_add, Int.mul_add]
    omega
theorem sm_congr {f g : Nat → Int} : ∀ {n : Nat}, (∀ i, i < n → f i = g i) → sm f n = sm g n
  | 0, _ => rfl
  | n + 1, h => by
    unfold sm
    rw [sm_congr (n := n) (fun i hi => h i (by omega)), h n (by omega)]
/-- cycles out of a row's hold and its fading -/
def cyc (F hold fade : Int) : Int := if hold - F < 0 then 0 else if hold * fade ≤ 0 then 100000 else min 100000 (((hold - F) * 1000000).tdiv (hold * fade) + 1)
theorem cyc_bd (F hold fade : Int) : 0 ≤ cyc F hold fade ∧ cyc F hold fade ≤ 100000 := by
  unfold cyc
  split
  · omega
  · rename_i q
    split
    · omega
    · rename_i q2
      have := Int.tdiv_nonneg (a := (hold - F) * 1000000) (b := hold * fade) (by omega) (by omega)
      omega
theorem cyc_le {F hold fade n : Int} (hf : 0 ≤ hold * fade) (h0 : 0 ≤ n) (h1 : n < 100000) : hold * (1000000 - n * fade) < F * 1000000 ↔ cyc F hold fade ≤ n := by
  have e : hold * (1000000 - n * fade) = hold * 1000000 - n * (hold * fade) := by rw [Int.mul_sub, Int.mul_left_comm]
  rw [e]
  unfold cyc
  by_cases q : hold - F < 0
  · rw [if_pos q]
    have := Int.mul_nonneg h0 hf
    constructor
    · intro _; exact h0
    · intro _; omega
  · rw [if_neg q]
    by_cases q2 : hold * fade ≤ 0
    · rw [if_pos q2]
      have z : hold * fade = 0 := by omega
      rw [z, Int.mul_zero]
      constructor
      · intro y; omega
      · intro y; omega
    · rw [if_neg q2]
      have p : 0 < hold * fade := by omega
      rw [Int.tdiv_eq_ediv_of_nonneg (by omega)]
      have := Int.ediv_lt_iff_lt_mul (a := (hold - F) * 1000000) (b := n) (c := hold * fade) p
      constructor
      · intro y
        have := this.mpr (by omega)
        omega
      · intro y
        have := this.mp (by omega)
        omega
def amF (f : Nat → Int) : Nat → Nat
  | 0 => 0
  | n + 1 => if f n < f (amF f n) then n else amF f n
theorem amF_lt {f : Nat → Int} : ∀ {n : Nat}, 0 < n → amF f n < n
  | 0, h => absurd h (by decide)
  | n + 1, _ => by
    unfold amF
    split
    · omega
    · cases n with
      | zero => exact Nat.zero_lt_one
      | succ m => have := amF_lt (f := f) (n := m + 1) (by omega); omega
theorem amF_congr {f g : Nat → Int} : ∀ {n : Nat}, (∀ i, i < n → f i = g i) → amF f n = amF g n
  | 0, _ => rfl
  | n + 1, h => by
    have ih := amF_congr (n := n) (fun i hi => h i (by omega))
    unfold amF
    rw [ih, h n (by omega)]
    have : amF g n < n + 1 := by
      cases n with
      | zero => exact Nat.zero_lt_one
      | succ m => have := amF_lt (f := g) (n := m + 1) (by omega); omega
    rw [h _ this]
/-- a pack as it is looked at: rows R of E cells, the cells, their values -/
abbrev PV : Type := Nat × Nat × (Int → Int) × (Int → Int) × (Int → Int)
def pvh (v : PV) (r : Nat) : Int := sm (fun i => v.2.2.2.1 (v.2.2.1 ((r : Int) * v.2.1 + i))) v.2.1
def pvf (v : PV) (r : Nat) : Int := sm (fun i => (1000000 : Int).tdiv (v.2.2.2.2 (v.2.2.1 ((r : Int) * v.2.1 + i)))) v.2.1
def fadeOf (A B flow : Int) : Int := 10 * A + (B * (1000000 : Int).tdiv flow).tdiv 10
def pvc (A B F : Int) (v : PV) (r : Nat) : Int := cyc F (pvh v r) (fadeOf A B (pvf v r))
def pvOk (v : PV) : Prop := 1 ≤ v.1 ∧ 1 ≤ v.2.1 ∧ v.1 * v.2.1 ≤ 40 ∧ ∀ i : Int, 0 ≤ i → i < (v.1 * v.2.1 : Nat) → (0 ≤ v.2.2.1 i ∧ v.2.2.1 i < 60) ∧ (1 ≤ v.2.2.2.1 (v.2.2.1 i) ∧ v.2.2.2.1 (v.2.2.1 i) ≤ 6000) ∧ (1 ≤ v.2.2.2.2 (v.2.2.1 i) ∧ v.2.2.2.2 (v.2.2.1 i) ≤ 6000)
def pvX (h : HI) (p : Int) (v : PV) : Prop := (0 ≤ p ∧ p < 10) ∧ h 13 p = (v.1 * v.2.1 : Nat) ∧ h 14 p = v.1 ∧ ∀ i : Int, 0 ≤ i → i < (v.1 * v.2.1 : Nat) → h 12 (p * 40 + i) = v.2.2.1 i ∧ h 44 (v.2.2.1 i) = v.2.2.2.1 (v.2.2.1 i) ∧ h 45 (v.2.2.1 i) = v.2.2.2.2 (v.2.2.1 i)
def pvM (h : HI) (p : Int) (v : PV) : Prop := (0 ≤ p ∧ p < 10) ∧ h 99 (1677 + 3 * p + 2) = (v.1 * v.2.1 : Nat) ∧ h 99 (1677 + 3 * p + 1) = v.1 ∧ ∀ i : Int, 0 ≤ i → i < (v.1 * v.2.1 : Nat) → h 99 (2107 + 40 * p + i) = v.2.2.1 i ∧ h 106 (v.2.2.1 i) = v.2.2.2.1 (v.2.2.1 i) ∧ h 107 (v.2.2.1 i) = v.2.2.2.2 (v.2.2.1 i)
theorem re_lt {R E r i : Nat} (hr : r < R) (hi : i < E) : r * E + i < R * E := by
  have h1 : (r + 1) * E ≤ R * E := Nat.mul_le_mul_right E hr
  rw [Nat.add_mul, Nat.one_mul] at h1
  omega
theorem pv_at {v : PV} (ok : pvOk v) {r i : Nat} (hr : r < v.1) (hi : i < v.2.1) : 0 ≤ (r : Int) * v.2.1 + i ∧ (r : Int) * v.2.1 + i < (v.1 * v.2.1 : Nat) := by
  have := re_lt hr hi
  have e : ((r * v.2.1 + i : Nat) : Int) = (r : Int) * v.2.1 + i := by rw [Int.natCast_add, Int.natCast_mul]
  omega
theorem pvh_bd {v : PV} (ok : pvOk v) {r : Nat} (hr : r < v.1) : 1 ≤ pvh v r ∧ pvh v r ≤ 240000 := by
  have a := sm_bd (f := fun i => v.2.2.2.1 (v.2.2.1 ((r : Int) * v.2.1 + i))) (K := 1) (L := 6000) (n := v.2.1) (fun i hi => by
    have q := pv_at ok hr hi
    exact (ok.2.2.2 _ q.1 q.2).2.1)
  have e1 := ok.2.1
  have e2 : v.2.1 ≤ 40 := by
    have := Nat.mul_le_mul_right v.2.1 ok.1
    have := ok.2.2.1
    omega
  unfold pvh
  omega
theorem pvf_bd {v : PV} (ok : pvOk v) {r : Nat} (hr : r < v.1) : 1 ≤ pvf v r ∧ pvf v r ≤ 40000000 := by
  have a := sm_bd (f := fun i => (1000000 : Int).tdiv (v.2.2.2.2 (v.2.2.1 ((r : Int) * v.2.1 + i)))) (K := 1) (L := 1000000) (n := v.2.1) (fun i hi => by
    have q := pv_at ok hr hi
    have b := (ok.2.2.2 _ q.1 q.2).2.2
    show 1 ≤ (1000000 : Int).tdiv _ ∧ (1000000 : Int).tdiv _ ≤ 1000000
    rw [Int.tdiv_eq_ediv_of_nonneg (by decide)]
    exact ⟨(Int.le_ediv_iff_mul_le (by omega)).mpr (by omega), Int.ediv_le_self _ (by decide)⟩)
  have e1 := ok.2.1
  have e2 : v.2.1 ≤ 40 := by
    have := Nat.mul_le_mul_right v.2.1 ok.1
    have := ok.2.2.1
    omega
  unfold pvf
  omega
theorem fade_bd {A B flow : Int} (hA : 0 ≤ A ∧ A ≤ 99) (hB : 0 ≤ B ∧ B ≤ 99) (hf : 1 ≤ flow) : (0 ≤ (1000000 : Int).tdiv flow ∧ (1000000 : Int).tdiv flow ≤ 1000000) ∧ (0 ≤ B * (1000000 : Int).tdiv flow ∧ B * (1000000 : Int).tdiv flow ≤ 99000000) ∧ 0 ≤ fadeOf A B flow ∧ fadeOf A B flow ≤ 10000000 := by
  have t0 := Int.tdiv_nonneg (a := (1000000 : Int)) (b := flow) (by decide) (by omega)
  have t1 := Int.tdiv_le_self (a := (1000000 : Int)) flow (by decide)
  have m1 := Int.mul_le_mul hB.2 t1 t0 (by decide)
  have m0 := Int.mul_nonneg hB.1 t0
  have d0 := Int.tdiv_nonneg (a := B * (1000000 : Int).tdiv flow) (b := 10) m0 (by decide)
  have d1 := Int.tdiv_eq_ediv_of_nonneg (b := 10) m0
  unfold fadeOf
  omega
section PKV
variable {l : Launch} {D : Nat} {ζ : ZP} {h : HI} {Q : Int → HI → Prop} {QV : HI → Prop} {p A B F : Int} {v : PV}
theorem s_cellAt (hn : 144 ≤ ζ.2.2.2.2) {i : Int} (h0 : 0 ≤ p * 40 + i ∧ p * 40 + i < 400) (hq : Q (h 12 (p * 40 + i)) h) : RtI l (D + 1) mX1_cellAt (zz ζ) [aP 10, aI p, aI i] h Q := e_X1_cellAt hn ⟨h0, hq⟩
theorem s_rowSize (hn : 144 ≤ ζ.2.2.2.2) (ok : pvOk v) (x : pvX h p v) (hq : Q v.2.1 h) : RtI l (D + 2) mX1_rowSize (zz ζ) [aP 10, aI p] h Q := by
  have b1 := ok.1
  have b3 := ok.2.2.1
  have b4 : v.1 ≤ 40 := by
    have := Nat.mul_le_mul_left v.1 ok.2.1
    omega
  refine e_X1_rowSize hn ⟨x.1, ?_⟩
  rw [x.2.1, x.2.2.1]
  refine s_cut hn (by constructor <;> omega) (by constructor <;> omega) ?_
  rw [if_neg (by omega), Int.natCast_mul, Int.mul_tdiv_cancel_left _ (by omega)]
  exact hq
theorem s_xholdOf (hn : 144 ≤ ζ.2.2.2.2) (ok : pvOk v) (x : pvX h p v) {r : Nat} (hr : r < v.1) (hq : Q (pvh v r) h) : RtI l (D + 3) mX1_holdOf (zz ζ) [aP 10, aI p, aI r, aP 40] h Q := by
  refine e_X1_holdOf hn (s_rowSize hn ok x ?_)
  have e2 : v.2.1 ≤ 40 := by
    have := Nat.mul_le_mul_right v.2.1 ok.1
    have := ok.2.2.1
    omega
  have n40 := ok.2.2.1
  have px := x.1
  have main : ∀ (m k : Nat), k + m = v.2.1 → G l (D + 3) 0 0 mX1_holdOf (zz ζ) 13 [aP 10, aI p, aI r, aP 40, aI v.2.1, aI (sm (fun i => v.2.2.2.1 (v.2.2.1 ((r : Int) * v.2.1 + i))) k), aI k] [] h (qI (zz ζ) Q) := by
    intro m
    induction m with
    | zero =>
      intro k hk
      have : k = v.2.1 := by omega
      subst this
      exact b_X1_holdOf_13 hn ⟨by constructor <;> omega, by constructor <;> omega, iteP (by omega) hq⟩
    | succ m ih =>
      intro k hk
      have q := pv_at ok hr (i := k) (by omega)
      have xi := x.2.2.2 _ q.1 q.2
      have oi := ok.2.2.2 _ q.1 q.2
      refine b_X1_holdOf_13 hn ⟨by constructor <;> omega, by constructor <;> omega, iteN (by omega) (s_cellAt hn ⟨by omega, by omega⟩ ?_)⟩
      rw [xi.1, xi.2.1]
      refine ⟨oi.1, ?_⟩
      have kk := ih (k + 1) (by omega)
      rw [show ((k + 1 : Nat) : Int) = (k : Int) + 1 by omega] at kk
      exact kk
  exact main v.2.1 0 (by omega)
theorem s_xflowOf (hn : 144 ≤ ζ.2.2.2.2) (ok : pvOk v) (x : pvX h p v) {r : Nat} (hr : r < v.1) (hq : Q (pvf v r) h) : RtI l (D + 3) mX1_flowOf (zz ζ) [aP 10, aI p, aI r, aP 40] h Q := by
  refine e_X1_flowOf hn (s_rowSize hn ok x ?_)
  have e2 : v.2.1 ≤ 40 := by
    have := Nat.mul_le_mul_right v.2.1 ok.1
    have := ok.2.2.1
    omega
  have n40 := ok.2.2.1
  have px := x.1
  have main : ∀ (m k : Nat), k + m = v.2.1 → G l (D + 3) 0 0 mX1_flowOf (zz ζ) 13 [aP 10, aI p, aI r, aP 40, aI v.2.1, aI (sm (fun i => (1000000 : Int).tdiv (v.2.2.2.2 (v.2.2.1 ((r : Int) * v.2.1 + i)))) k), aI k] [] h (qI (zz ζ) Q) := by
    intro m
    induction m with
    | zero =>
      intro k hk
      have : k = v.2.1 := by omega
      subst this
      exact b_X1_flowOf_13 hn ⟨by constructor <;> omega, by constructor <;> omega, iteP (by omega) hq⟩
    | succ m ih =>
      intro k hk
      have q := pv_at ok hr (i := k) (by omega)
      have xi := x.2.2.2 _ q.1 q.2
      have oi := ok.2.2.2 _ q.1 q.2
      refine b_X1_flowOf_13 hn ⟨by constructor <;> omega, by constructor <;> omega, iteN (by omega) (s_cellAt hn ⟨by omega, by omega⟩ ?_)⟩
      rw [xi.1]
      refine e_X8_flowOf hn ⟨oi.1, ?_⟩
      rw [xi.2.2]
      refine s_cut hn (by decide) (by constructor <;> omega) ?_
      rw [if_neg (by omega)]
      have kk := ih (k + 1) (by omega)
      rw [show ((k + 1 : Nat) : Int) = (k : Int) + 1 by omega] at kk
      exact kk
  exact main v.2.1 0 (by omega)
theorem s_cyclesBy (hn : 144 ≤ ζ.2.2.2.2) (hA : h 7 0 = A ∧ 0 ≤ A ∧ A ≤ 99) (hB : h 7 1 = B ∧ 0 ≤ B ∧ B ≤ 99) (hF : h 7 2 = F ∧ 1 ≤ F ∧ F ≤ 999) {hold flow : Int} (b1 : 0 ≤ hold ∧ hold ≤ 240000) (b2 : 1 ≤ flow ∧ flow ≤ 40000000) (hq : Q (cyc F hold (fadeOf A B flow)) h) : RtI l (D + 2) mX1_cyclesBy (zz ζ) [aI hold, aI flow, aP 4] h Q := by
  have fb := fade_bd hA.2 hB.2 b2.1
  refine e_X1_cyclesBy hn ?_
  rw [hA.1, hB.1]
  refine ⟨by constructor <;> omega, by constructor <;> omega, s_cut hn (by decide) (by constructor <;> omega) ?_⟩
  rw [if_neg (by omega), hF.1]
  have e : 10 * A + (B * (1000000 : Int).tdiv flow).tdiv 10 = fadeOf A B flow := rfl
  rw [e]
  have m1 := Int.mul_le_mul b1.2 fb.2.2.2 fb.2.2.1 (by decide)
  have m0 := Int.mul_nonneg b1.1 fb.2.2.1
  unfold cyc at hq
  refine ⟨by constructor <;> omega, by constructor <;> omega, by constructor <;> omega, by constructor <;> omega, iteI (fun y => ⟨by constructor <;> omega, by constructor <;> omega, iteI (fun y2 => ⟨by omega, ?_⟩) (fun y2 => ?_)⟩) (fun y => ?_)⟩
  · rw [if_neg (by omega), if_neg (by omega)] at hq
    have d0 := Int.tdiv_nonneg (a := (hold - F) * 1000000) (b := hold * fadeOf A B flow) (by omega) (by omega)
    have d1 := Int.tdiv_le_self (a := (hold - F) * 1000000) (hold * fadeOf A B flow) (by omega)
    refine ⟨by constructor <;> omega, iteI (fun y3 => ?_) (fun y3 => ?_)⟩
    · rw [Int.min_eq_left y3] at hq; exact hq
    · rw [Int.min_eq_right (by omega)] at hq; exact hq
  · rw [if_neg (by omega), if_pos (by omega)] at hq; exact hq
  · rw [if_pos (by omega)] at hq; exact hq
theorem s_xcyclesOf (hn : 144 ≤ ζ.2.2.2.2) (ok : pvOk v) (x : pvX h p v) (hA : h 7 0 = A ∧ 0 ≤ A ∧ A ≤ 99) (hB : h 7 1 = B ∧ 0 ≤ B ∧ B ≤ 99) (hF : h 7 2 = F ∧ 1 ≤ F ∧ F ≤ 999) {r : Nat} (hr : r < v.1) (hq : Q (pvc A B F v r) h) : RtI l (D + 4) mX1_cyclesOf (zz ζ) [aP 10, aI p, aI r, aP 40, aP 4] h Q := by
  have b1 := pvh_bd ok hr
  have b2 := pvf_bd ok hr
  exact e_X1_cyclesOf hn (s_xholdOf hn ok x hr (s_xflowOf hn ok x hr (s_cyclesBy hn hA hB hF ⟨by omega, b1.2⟩ b2 hq)))
theorem s_endingRow (hn : 144 ≤ ζ.2.2.2.2) (ok : pvOk v) (x : pvX h p v) (hA : h 7 0 = A ∧ 0 ≤ A ∧ A ≤ 99) (hB : h 7 1 = B ∧ 0 ≤ B ∧ B ≤ 99) (hF : h 7 2 = F ∧ 1 ≤ F ∧ F ≤ 999) (hq : Q (amF (pvc A B F v) v.1) h) : RtI l (D + 5) mX1_endingRow (zz ζ) [aP 10, aI p, aP 40, aP 4] h Q := by
  refine e_X1_endingRow hn ?_
  have b4 : v.1 ≤ 40 := by
    have := Nat.mul_le_mul_left v.1 ok.2.1
    have := ok.2.2.1
    omega
  have main : ∀ (m k : Nat) (x5 : Int), k + m = v.1 → x5 = (if k = 0 then 100001 else pvc A B F v (amF (pvc A B F v) k)) → G l (D + 5) 0 0 mX1_endingRow (zz ζ) 10 [aP 10, aI p, aP 40, aP 4, aI (amF (pvc A B F v) k), aI x5, aI k, aU] [] h (qI (zz ζ) Q) := by
    intro m
    induction m with
    | zero =>
      intro k x5 hk e
      have : k = v.1 := by omega
      subst this
      refine b_X1_endingRow_10 hn ⟨x.1, by constructor <;> omega, by rw [x.2.2.1]; constructor <;> omega, iteP (by rw [x.2.2.1]; omega) hq⟩
    | succ m ih =>
      intro k x5 hk e
      have cb := cyc_bd F (pvh v k) (fadeOf A B (pvf v k))
      have cb2 : 0 ≤ pvc A B F v (amF (pvc A B F v) k) ∧ pvc A B F v (amF (pvc A B F v) k) ≤ 100000 := cyc_bd F _ _
      have x5b : 0 ≤ x5 ∧ x5 ≤ 100001 := by rw [e]; split <;> omega
      have cb' : 0 ≤ pvc A B F v k ∧ pvc A B F v k ≤ 100000 := cb
      refine b_X1_endingRow_10 hn ⟨x.1, by constructor <;> omega, by rw [x.2.2.1]; constructor <;> omega, iteN (by rw [x.2.2.1]; omega) (s_xcyclesOf hn ok x hA hB hF (by omega) ⟨by constructor <;> omega, by constructor <;> omega, iteI (fun y => ?_) (fun y => ?_)⟩)⟩
      · have k0 : k ≠ 0 := fun z => by rw [z, if_pos rfl] at e; omega
        rw [if_neg k0] at e
        have ea : amF (pvc A B F v) (k + 1) = amF (pvc A B F v) k := if_neg (by omega)
        have kk := ih (k + 1) x5 (by omega) (by rw [if_neg (by omega), ea]; exact e)
        rw [ea, show ((k + 1 : Nat) : Int) = (k : Int) + 1 by omega] at kk
        exact kk
      · have ea : amF (pvc A B F v) (k + 1) = k := by
          show (if pvc A B F v k < pvc A B F v (amF (pvc A B F v) k) then k else amF (pvc A B F v) k) = k
          by_cases k0 : k = 0
          · subst k0; simp [amF]
          · rw [if_neg k0] at e
            rw [if_pos (by omega)]
        have kk := ih (k + 1) (pvc A B F v k) (by omega) (by rw [if_neg (by omega), ea])
        rw [ea, show ((k + 1 : Nat) : Int) = (k : Int) + 1 by omega] at kk
        exact kk
  have m0 := main v.1 0 100001 (by omega) rfl
  exact m0
theorem s_wide (hn : 144 ≤ ζ.2.2.2.2) (ok : pvOk v) (x : pvM h p v) (hq : Q v.2.1 h) : RtI l (D + 1) mX12_wide (zz ζ) [aP 97, aI p] h Q := by
  have b1 := ok.1
  have b3 := ok.2.2.1
  have b4 : v.1 ≤ 40 := by
    have := Nat.mul_le_mul_left v.1 ok.2.1
    omega
  have px := x.1
  refine e_X12_wide hn ⟨⟨by omega, by omega⟩, ⟨by omega, by omega⟩, ?_⟩
  rw [x.2.1, x.2.2.1]
  refine ⟨by constructor <;> omega, by constructor <;> omega, by omega, ?_⟩
  rw [Int.natCast_mul, Int.mul_tdiv_cancel_left _ (by omega)]
  exact hq
theorem s_mholdOf (hn : 144 ≤ ζ.2.2.2.2) (ok : pvOk v) (x : pvM h p v) {r : Nat} (hr : r < v.1) (hq : Q (pvh v r) h) : RtI l (D + 2) mX12_holdOf (zz ζ) [aP 97, aI p, aI r] h Q := by
  refine e_X12_holdOf hn ?_
  have e2 : v.2.1 ≤ 40 := by
    have := Nat.mul_le_mul_right v.2.1 ok.1
    have := ok.2.2.1
    omega
  have n40 := ok.2.2.1
  have px := x.1
  have main : ∀ (m k : Nat), k + m = v.2.1 → G l (D + 2) 0 0 mX12_holdOf (zz ζ) 5 [aP 97, aI p, aI r, aI (sm (fun i => v.2.2.2.1 (v.2.2.1 ((r : Int) * v.2.1 + i))) k), aI k] [] h (qI (zz ζ) Q) := by
    intro m
    induction m with
    | zero =>
      intro k hk
      have : k = v.2.1 := by omega
      subst this
      exact b_X12_holdOf_5 hn (s_wide hn ok x ⟨by constructor <;> omega, by constructor <;> omega, iteP (by omega) hq⟩)
    | succ m ih =>
      intro k hk
      have q := pv_at ok hr (i := k) (by omega)
      have xi := x.2.2.2 _ q.1 q.2
      have oi := ok.2.2.2 _ q.1 q.2
      refine b_X12_holdOf_5 hn (s_wide hn ok x ⟨by constructor <;> omega, by constructor <;> omega, iteN (by omega) (s_wide hn ok x ?_)⟩)
      rw [show 2107 + 40 * p + (v.2.1 : Int) * r + k = 2107 + 40 * p + ((r : Int) * v.2.1 + k) by rw [Int.mul_comm (v.2.1 : Int) r]; omega, xi.1, xi.2.1]
      refine ⟨⟨by omega, by omega⟩, oi.1, ?_⟩
      have kk := ih (k + 1) (by omega)
      rw [show ((k + 1 : Nat) : Int) = (k : Int) + 1 by omega] at kk
      exact kk
  exact main v.2.1 0 (by omega)
theorem s_mflowIn (hn : 144 ≤ ζ.2.2.2.2) (ok : pvOk v) (x : pvM h p v) {r : Nat} (hr : r < v.1) (hq : Q (pvf v r) h) : RtI l (D + 2) mX12_flowIn (zz ζ) [aP 97, aI p, aI r] h Q := by
  refine e_X12_flowIn hn ?_
  have e2 : v.2.1 ≤ 40 := by
    have := Nat.mul_le_mul_right v.2.1 ok.1
    have := ok.2.2.1
    omega
  have n40 := ok.2.2.1
  have px := x.1
  have main : ∀ (m k : Nat), k + m = v.2.1 → G l (D + 2) 0 0 mX12_flowIn (zz ζ) 5 [aP 97, aI p, aI r, aI (sm (fun i => (1000000 : Int).tdiv (v.2.2.2.2 (v.2.2.1 ((r : Int) * v.2.1 + i)))) k), aI k] [] h (qI (zz ζ) Q) := by
    intro m
    induction m with
    | zero =>
      intro k hk
      have : k = v.2.1 := by omega
      subst this
      exact b_X12_flowIn_5 hn (s_wide hn ok x ⟨by constructor <;> omega, by constructor <;> omega, iteP (by omega) hq⟩)
    | succ m ih =>
      intro k hk
      have q := pv_at ok hr (i := k) (by omega)
      have xi := x.2.2.2 _ q.1 q.2
      have oi := ok.2.2.2 _ q.1 q.2
      refine b_X12_flowIn_5 hn (s_wide hn ok x ⟨by constructor <;> omega, by constructor <;> omega, iteN (by omega) (s_wide hn ok x ?_)⟩)
      rw [show 2107 + 40 * p + (v.2.1 : Int) * r + k = 2107 + 40 * p + ((r : Int) * v.2.1 + k) by rw [Int.mul_comm (v.2.1 : Int) r]; omega, xi.1]
      refine ⟨⟨by omega, by omega⟩, e_X12_flowOf hn ⟨oi.1, ?_⟩⟩
      rw [xi.2.2]
      refine ⟨by constructor <;> omega, iteP (by omega) ⟨by omega, ?_⟩⟩
      have kk := ih (k + 1) (by omega)
      rw [show ((k + 1 : Nat) : Int) = (k : Int) + 1 by omega] at kk
      exact kk
  exact main v.2.1 0 (by omega)
theorem s_mcyclesOf (hn : 144 ≤ ζ.2.2.2.2) (ok : pvOk v) (x : pvM h p v) (hA : h 99 2 = A ∧ 0 ≤ A ∧ A ≤ 99) (hB : h 99 3 = B ∧ 0 ≤ B ∧ B ≤ 99) (hF : h 99 4 = F ∧ 1 ≤ F ∧ F ≤ 999) {r : Nat} (hr : r < v.1) (hq : Q (pvc A B F v r) h) : RtI l (D + 3) mX12_cyclesOf (zz ζ) [aP 97, aI p, aI r] h Q := by
  have b1 := pvh_bd ok hr
  have b2 := pvf_bd ok hr
  have fb := fade_bd hA.2 hB.2 b2.1
  have d1 := Int.tdiv_eq_ediv_of_nonneg (b := 10) fb.2.1.1
  refine e_X12_cyclesOf hn (s_mflowIn hn ok x hr ?_)
  rw [hA.1, hB.1]
  refine ⟨by constructor <;> omega, by omega, by constructor <;> omega, by constructor <;> omega, by constructor <;> omega, s_mholdOf hn ok x hr ?_⟩
  rw [hF.1]
  refine ⟨by constructor <;> omega, by constructor <;> omega, ?_⟩
  have e : 10 * A + (B * (1000000 : Int).tdiv (pvf v r)).tdiv 10 = fadeOf A B (pvf v r) := rfl
  rw [e]
  have m0 := Int.mul_nonneg (show 0 ≤ pvh v r by omega) fb.2.2.1
  have cb : 0 ≤ pvc A B F v r ∧ pvc A B F v r ≤ 100000 := cyc_bd F (pvh v r) (fadeOf A B (pvf v r))
  have main : ∀ (m : Nat) (lo hi : Int), 0 ≤ lo → lo ≤ pvc A B F v r → pvc A B F v r ≤ hi → hi ≤ 100000 → hi - lo ≤ m → G l (D + 3) 0 0 mX12_cyclesOf (zz ζ) 67 [aU, aU, aU, aU, aL (fadeOf A B (pvf v r)), aU, aL (pvh v r), aU, aL (F * 1000000), aU, aI lo, aI hi, aU] [] h (qI (zz ζ) Q) := by
    intro m
    induction m with
    | zero =>
      intro lo hi h0 h1 h2 h3 h4
      refine b_X12_cyclesOf_67 hn ⟨by constructor <;> omega, by constructor <;> omega, iteP (by omega) ?_⟩
      rw [show lo = pvc A B F v r by omega]; exact hq
    | succ m ih =>
      intro lo hi h0 h1 h2 h3 h4
      refine b_X12_cyclesOf_67 hn ⟨by constructor <;> omega, by constructor <;> omega, iteI (fun y => ?_) (fun y => ?_)⟩
      · rw [show lo = pvc A B F v r by omega]; exact hq
      · have dm := Int.tdiv_eq_ediv_of_nonneg (a := lo + hi) (b := 2) (by omega)
        have hm : lo ≤ (lo + hi).tdiv 2 ∧ (lo + hi).tdiv 2 < hi := by omega
        generalize (lo + hi).tdiv 2 = mid at hm dm ⊢
        have cl := cyc_le (F := F) (hold := pvh v r) (fade := fadeOf A B (pvf v r)) (n := mid) m0 (by omega) (by omega)
        have k1 := Int.mul_le_mul (show mid ≤ 100000 by omega) fb.2.2.2 fb.2.2.1 (by decide)
        have k0 := Int.mul_nonneg (show 0 ≤ mid by omega) fb.2.2.1
        have kk1 : pvh v r * (1000000 - mid * fadeOf A B (pvf v r)) ≤ 240000 * 1000000 := by
          by_cases z : 0 ≤ 1000000 - mid * fadeOf A B (pvf v r)
          · exact Int.mul_le_mul b1.2 (by omega) z (by decide)
          · have := Int.mul_nonneg (show 0 ≤ pvh v r by omega) (show 0 ≤ -(1000000 - mid * fadeOf A B (pvf v r)) by omega)
            rw [Int.mul_neg] at this
            omega
        have kk2 : -(240000 * 1000000000000) ≤ pvh v r * (1000000 - mid * fadeOf A B (pvf v r)) := by
          by_cases z : 0 ≤ 1000000 - mid * fadeOf A B (pvf v r)
          · have := Int.mul_nonneg (show 0 ≤ pvh v r by omega) z
            omega
          · have := Int.mul_le_mul b1.2 (show -(1000000 - mid * fadeOf A B (pvf v r)) ≤ 1000000000000 by omega) (by omega) (by decide)
            rw [Int.mul_neg] at this
            omega
        have cl' : pvh v r * (1000000 - mid * fadeOf A B (pvf v r)) < F * 1000000 ↔ pvc A B F v r ≤ mid := cl
        refine ⟨by constructor <;> omega, by constructor <;> omega, by constructor <;> omega, by constructor <;> omega, iteI (fun z => ih (mid + 1) hi (by omega) ?_ h2 h3 (by omega)) (fun z => ih lo mid h0 h1 ?_ (by omega) (by omega))⟩
        · have : ¬ pvc A B F v r ≤ mid := fun w => by have := cl'.mpr w; omega
          omega
        · exact cl'.mp (by omega)
  exact main 100000 0 100000 (by omega) cb.1 cb.2 (by omega) (by omega)
theorem s_endOf (hn : 144 ≤ ζ.2.2.2.2) (ok : pvOk v) (x : pvM h p v) (hA : h 99 2 = A ∧ 0 ≤ A ∧ A ≤ 99) (hB : h 99 3 = B ∧ 0 ≤ B ∧ B ≤ 99) (hF : h 99 4 = F ∧ 1 ≤ F ∧ F ≤ 999) (hq : Q (amF (pvc A B F v) v.1) h) : RtI l (D + 4) mX12_endOf (zz ζ) [aP 97, aI p] h Q := by
  refine e_X12_endOf hn ?_
  have b4 : v.1 ≤ 40 := by
    have := Nat.mul_le_mul_left v.1 ok.2.1
    have := ok.2.2.1
    omega
  have px := x.1
  have o1 := ok.1
  have main : ∀ (m k : Nat), k + m = v.1 → 1 ≤ k → G l (D + 4) 0 0 mX12_endOf (zz ζ) 4 [aP 97, aI p, aI (amF (pvc A B F v) k), aI k] [] h (qI (zz ζ) Q) := by
    intro m
    induction m with
    | zero =>
      intro k hk k1
      have : k = v.1 := by omega
      subst this
      refine b_X12_endOf_4 hn (e_X12_rowsIn hn ⟨⟨by omega, by omega⟩, ?_⟩)
      rw [x.2.2.1]
      exact ⟨by constructor <;> omega, by constructor <;> omega, iteP (by omega) hq⟩
    | succ m ih =>
      intro k hk k1
      have al := amF_lt (f := pvc A B F v) (n := k) (by omega)
      have cb : 0 ≤ pvc A B F v k ∧ pvc A B F v k ≤ 100000 := cyc_bd F (pvh v k) (fadeOf A B (pvf v k))
      have cb2 : 0 ≤ pvc A B F v (amF (pvc A B F v) k) ∧ pvc A B F v (amF (pvc A B F v) k) ≤ 100000 := cyc_bd F _ _
      refine b_X12_endOf_4 hn (e_X12_rowsIn hn ⟨⟨by omega, by omega⟩, ?_⟩)
      rw [x.2.2.1]
      refine ⟨by constructor <;> omega, by constructor <;> omega, iteN (by omega) (s_mcyclesOf hn ok x hA hB hF (by omega) (s_mcyclesOf hn ok x hA hB hF (by omega) ⟨by constructor <;> omega, by constructor <;> omega, iteI (fun y => ?_) (fun y => ?_)⟩))⟩
      · have ea : amF (pvc A B F v) (k + 1) = amF (pvc A B F v) k := if_neg (by omega)
        have kk := ih (k + 1) (by omega) (by omega)
        rw [ea, show ((k + 1 : Nat) : Int) = (k : Int) + 1 by omega] at kk
        exact kk
      · have ea : amF (pvc A B F v) (k + 1) = k := if_pos (by omega)
        have kk := ih (k + 1) (by omega) (by omega)
        rw [ea, show ((k + 1 : Nat) : Int) = (k : Int) + 1 by omega] at kk
        exact kk
  have m0 := main (v.1 - 1) 1 (by omega) (by omega)
  have e1 : amF (pvc A B F v) 1 = 0 := by simp [amF]
  rw [e1] at m0
  exact m0
end PKV
