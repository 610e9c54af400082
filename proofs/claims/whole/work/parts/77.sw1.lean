/-! swaps, pure -/
theorem mnF_le {f : Nat → Int} {x : Int} : ∀ {n : Nat}, x ≤ mnF f n ↔ x ≤ f 0 ∧ ∀ r, r < n → x ≤ f r
  | 0 => ⟨fun h => ⟨h, fun r hr => absurd hr (by omega)⟩, fun h => h.1⟩
  | n + 1 => by
    have ih := mnF_le (f := f) (x := x) (n := n)
    unfold mnF
    rw [Int.le_min, ih]
    refine ⟨fun h => ⟨h.1.1, fun r hr => ?_⟩, fun h => ⟨⟨h.1, fun r hr => h.2 r (by omega)⟩, h.2 n (by omega)⟩⟩
    by_cases e : r = n
    · rw [e]; exact h.2
    · exact h.1.2 r (by omega)
theorem mxF_le {f : Nat → Int} {x : Int} : ∀ {n : Nat}, mxF f n ≤ x ↔ f 0 ≤ x ∧ ∀ r, r < n → f r ≤ x
  | 0 => ⟨fun h => ⟨h, fun r hr => absurd hr (by omega)⟩, fun h => h.1⟩
  | n + 1 => by
    have ih := mxF_le (f := f) (x := x) (n := n)
    unfold mxF
    rw [Int.max_le, ih]
    refine ⟨fun h => ⟨h.1.1, fun r hr => ?_⟩, fun h => ⟨⟨h.1, fun r hr => h.2 r (by omega)⟩, h.2 n (by omega)⟩⟩
    by_cases e : r = n
    · rw [e]; exact h.2
    · exact h.1.2 r (by omega)
theorem mnF_congr {f g : Nat → Int} : ∀ {n : Nat}, f 0 = g 0 → (∀ r, r < n → f r = g r) → mnF f n = mnF g n ∧ mxF f n = mxF g n
  | 0, h0, _ => ⟨h0, h0⟩
  | n + 1, h0, h => by
    have ih := mnF_congr (n := n) h0 (fun r hr => h r (by omega))
    unfold mnF mxF
    rw [ih.1, ih.2, h n (by omega)]
    exact ⟨rfl, rfl⟩
def hlF (f : Int → Int) (a b m : Int) : Nat → Int
  | 0 => m
  | r + 1 => if (r : Int) = a ∨ (r : Int) = b then hlF f a b m r else min (hlF f a b m r) (f r)
def hhF (f : Int → Int) (a b m : Int) : Nat → Int
  | 0 => m
  | r + 1 => if (r : Int) = a ∨ (r : Int) = b then hhF f a b m r else max (hhF f a b m r) (f r)
theorem hlF_le {f : Int → Int} {a b m x : Int} : ∀ {n : Nat}, x ≤ hlF f a b m n ↔ x ≤ m ∧ ∀ r : Nat, r < n → (r : Int) ≠ a → (r : Int) ≠ b → x ≤ f r
  | 0 => ⟨fun h => ⟨h, fun r hr => absurd hr (by omega)⟩, fun h => h.1⟩
  | n + 1 => by
    have ih := hlF_le (f := f) (a := a) (b := b) (m := m) (x := x) (n := n)
    unfold hlF
    by_cases c : (n : Int) = a ∨ (n : Int) = b
    · rw [if_pos c, ih]
      refine ⟨fun h => ⟨h.1, fun r hr h1 h2 => h.2 r ?_ h1 h2⟩, fun h => ⟨h.1, fun r hr h1 h2 => h.2 r (by omega) h1 h2⟩⟩
      by_cases e : r = n
      · subst e; rcases c with c | c
        · exact absurd c h1
        · exact absurd c h2
      · omega
    · rw [if_neg c, Int.le_min, ih]
      refine ⟨fun h => ⟨h.1.1, fun r hr h1 h2 => ?_⟩, fun h => ⟨⟨h.1, fun r hr h1 h2 => h.2 r (by omega) h1 h2⟩, h.2 n (by omega) (fun e => c (Or.inl e)) (fun e => c (Or.inr e))⟩⟩
      by_cases e : r = n
      · rw [e]; exact h.2
      · exact h.1.2 r (by omega) h1 h2
theorem hhF_le {f : Int → Int} {a b m x : Int} : ∀ {n : Nat}, hhF f a b m n ≤ x ↔ m ≤ x ∧ ∀ r : Nat, r < n → (r : Int) ≠ a → (r : Int) ≠ b → f r ≤ x
  | 0 => ⟨fun h => ⟨h, fun r hr => absurd hr (by omega)⟩, fun h => h.1⟩
  | n + 1 => by
    have ih := hhF_le (f := f) (a := a) (b := b) (m := m) (x := x) (n := n)
    unfold hhF
    by_cases c : (n : Int) = a ∨ (n : Int) = b
    · rw [if_pos c, ih]
      refine ⟨fun h => ⟨h.1, fun r hr h1 h2 => h.2 r ?_ h1 h2⟩, fun h => ⟨h.1, fun r hr h1 h2 => h.2 r (by omega) h1 h2⟩⟩
      by_cases e : r = n
      · subst e; rcases c with c | c
        · exact absurd c h1
        · exact absurd c h2
      · omega
    · rw [if_neg c, Int.max_le, ih]
      refine ⟨fun h => ⟨h.1.1, fun r hr h1 h2 => ?_⟩, fun h => ⟨⟨h.1, fun r hr h1 h2 => h.2 r (by omega) h1 h2⟩, h.2 n (by omega) (fun e => c (Or.inl e)) (fun e => c (Or.inr e))⟩⟩
      by_cases e : r = n
      · rw [e]; exact h.2
      · exact h.1.2 r (by omega) h1 h2
/-- sums behind a swap -/
def swF (f : Int → Int) (a b d : Int) : Int → Int := fu (fu f a (f a + d)) b (f b - d)
def mnI (f : Int → Int) (n : Nat) : Int := mnF (fun r => f r) n
def mxI (f : Int → Int) (n : Nat) : Int := mxF (fun r => f r) n
theorem mnI_le {f : Int → Int} {x : Int} {n : Nat} (h1 : 1 ≤ n) : x ≤ mnI f n ↔ ∀ r : Nat, r < n → x ≤ f r := by
  unfold mnI
  rw [mnF_le]
  exact ⟨fun h => h.2, fun h => ⟨h 0 (by omega), h⟩⟩
theorem mxI_le {f : Int → Int} {x : Int} {n : Nat} (h1 : 1 ≤ n) : mxI f n ≤ x ↔ ∀ r : Nat, r < n → f r ≤ x := by
  unfold mxI
  rw [mxF_le]
  exact ⟨fun h => h.2, fun h => ⟨h 0 (by omega), h⟩⟩
theorem mnI_congr {f g : Int → Int} {n : Nat} (h1 : 1 ≤ n) (h : ∀ r : Int, 0 ≤ r → r < n → f r = g r) : mnI f n = mnI g n ∧ mxI f n = mxI g n := mnF_congr (h 0 (by omega) (by omega)) (fun r hr => h r (by omega) (by omega))
theorem sw_hl {f : Int → Int} {a b : Nat} {d : Int} {n : Nat} (ha : a < n) (hb : b < n) (hab : a ≠ b) : mnI (swF f a b d) n = hlF f a b (min (f a + d) (f b - d)) n ∧ mxI (swF f a b d) n = hhF f a b (max (f a + d) (f b - d)) n := by
  have va : swF f a b d a = f a + d := by unfold swF; rw [fu_n _ _ (by omega), fu_s]
  have vb : swF f a b d b = f b - d := by unfold swF; rw [fu_s]
  have vr : ∀ r : Nat, (r : Int) ≠ a → (r : Int) ≠ b → swF f a b d r = f r := fun r h1 h2 => by unfold swF; rw [fu_n _ _ h2, fu_n _ _ h1]
  constructor
  · refine Int.le_antisymm (hlF_le.mpr ⟨Int.le_min.mpr ⟨?_, ?_⟩, fun r hr h1 h2 => ?_⟩) ((mnI_le (by omega)).mpr (fun r hr => ?_))
    · rw [← va]; exact (mnI_le (by omega)).mp (Int.le_refl _) a ha
    · rw [← vb]; exact (mnI_le (by omega)).mp (Int.le_refl _) b hb
    · rw [← vr r h1 h2]; exact (mnI_le (by omega)).mp (Int.le_refl _) r hr
    · have q := hlF_le.mp (Int.le_refl (hlF f a b (min (f a + d) (f b - d)) n))
      by_cases e1 : (r : Int) = a
      · rw [e1, va]; exact (Int.le_min.mp q.1).1
      · by_cases e2 : (r : Int) = b
        · rw [e2, vb]; exact (Int.le_min.mp q.1).2
        · rw [vr r e1 e2]; exact q.2 r hr e1 e2
  · refine Int.le_antisymm ((mxI_le (by omega)).mpr (fun r hr => ?_)) (hhF_le.mpr ⟨Int.max_le.mpr ⟨?_, ?_⟩, fun r hr h1 h2 => ?_⟩)
    · have q := hhF_le.mp (Int.le_refl (hhF f a b (max (f a + d) (f b - d)) n))
      by_cases e1 : (r : Int) = a
      · rw [e1, va]; exact (Int.max_le.mp q.1).1
      · by_cases e2 : (r : Int) = b
        · rw [e2, vb]; exact (Int.max_le.mp q.1).2
        · rw [vr r e1 e2]; exact q.2 r hr e1 e2
    · rw [← va]; exact (mxI_le (by omega)).mp (Int.le_refl _) a ha
    · rw [← vb]; exact (mxI_le (by omega)).mp (Int.le_refl _) b hb
    · rw [← vr r h1 h2]; exact (mxI_le (by omega)).mp (Int.le_refl _) r hr
abbrev SW : Type := (Int → Int) × (Int → Int)
/-- does the swap of i and j help -/
def swB (key : Int → Int) (s : Nat) (st : SW) (i j : Int) : Prop := st.1 i ≠ st.1 j ∧ (mnI st.2 s < mnI (swF st.2 (st.1 i) (st.1 j) (key j - key i)) s ∨ mnI (swF st.2 (st.1 i) (st.1 j) (key j - key i)) s = mnI st.2 s ∧ mxI (swF st.2 (st.1 i) (st.1 j) (key j - key i)) s < mxI st.2 s)
def swX (key : Int → Int) (st : SW) (i j : Int) : SW := (fu (fu st.1 i (st.1 j)) j (st.1 i), swF st.2 (st.1 i) (st.1 j) (key j - key i))
/-- the first pair, as both look for it -/
def swP (key : Int → Int) (s n : Nat) (st : SW) (i j : Nat) : Prop := i < j ∧ j < n ∧ swB key s st i j ∧ (∀ j' : Nat, i < j' → j' < j → ¬ swB key s st i j') ∧ ∀ i' j' : Nat, i' < i → i' < j' → j' < n → ¬ swB key s st i' j'
/-- k swaps lead from one state to another -/
def swN (key : Int → Int) (s n : Nat) : Nat → SW → SW → Prop
  | 0, st, st' => st = st'
  | k + 1, st, st' => ∃ i j : Nat, swP key s n st i j ∧ swN key s n k (swX key st i j) st'
theorem swP_uniq {key : Int → Int} {s n : Nat} {st : SW} {i j i' j' : Nat} (h : swP key s n st i j) (h' : swP key s n st i' j') : i = i' ∧ j = j' := by
  obtain ⟨a1, a2, a3, a4, a5⟩ := h
  obtain ⟨b1, b2, b3, b4, b5⟩ := h'
  have e : i = i' := by
    by_cases c : i < i'
    · exact absurd a3 (b5 i j c a1 a2)
    · by_cases c2 : i' < i
      · exact absurd b3 (a5 i' j' c2 b1 b2)
      · omega
  subst e
  refine ⟨rfl, ?_⟩
  by_cases c : j < j'
  · exact absurd a3 (b4 j a1 c)
  · by_cases c2 : j' < j
    · exact absurd b3 (a4 j' b1 c2)
    · omega
/-- in what places states agree -/
def swA (s n : Nat) (st : SW) (rw_ sm_ : Int → Int) : Prop := (∀ j : Int, 0 ≤ j → j < n → rw_ j = st.1 j) ∧ (∀ r : Int, 0 ≤ r → r < s → sm_ r = st.2 r)
def swK (s n : Nat) (K : Int) (st : SW) : Prop := (∀ j : Int, 0 ≤ j → j < n → 0 ≤ st.1 j ∧ st.1 j < s) ∧ (∀ r : Int, 0 ≤ r → r < s → -K ≤ st.2 r ∧ st.2 r ≤ K)
theorem swK_X {key : Int → Int} {s n : Nat} {K : Int} {st : SW} (h : swK s n K st) {i j : Int} (hi : 0 ≤ i ∧ i < n) (hj : 0 ≤ j ∧ j < n) (hk : ∀ q : Int, 0 ≤ q → q < n → 0 ≤ key q ∧ key q ≤ 6000) (hij : st.1 i ≠ st.1 j) : swK s n (K + 6000) (swX key st i j) := by
  have ki := hk i hi.1 hi.2
  have kj := hk j hj.1 hj.2
  have ri := h.1 i hi.1 hi.2
  have rj := h.1 j hj.1 hj.2
  refine ⟨fun q q0 q1 => ?_, fun r r0 r1 => ?_⟩
  · show 0 ≤ fu (fu st.1 i (st.1 j)) j (st.1 i) q ∧ fu (fu st.1 i (st.1 j)) j (st.1 i) q < s
    unfold fu
    split
    · exact ri
    · split
      · exact rj
      · exact h.1 q q0 q1
  · have fa := h.2 _ ri.1 ri.2
    have fb := h.2 _ rj.1 rj.2
    have fr := h.2 r r0 r1
    show -(K + 6000) ≤ swF st.2 (st.1 i) (st.1 j) (key j - key i) r ∧ swF st.2 (st.1 i) (st.1 j) (key j - key i) r ≤ K + 6000
    unfold swF
    by_cases e1 : r = st.1 j
    · rw [e1, fu_s]; omega
    · rw [fu_n _ _ e1]
      by_cases e2 : r = st.1 i
      · rw [e2, fu_s]; omega
      · rw [fu_n _ _ e2]; omega
theorem insI_sum {key : Int → Int} {x : Int} : ∀ {i : Nat} {a : Int → Int}, sm (fun k => key (insI key x i a k)) (i + 1) = sm (fun k => key (a k)) i + key x
  | 0, a => by
    show 0 + key (fu a 0 x ((0 : Nat) : Int)) = 0 + key x
    rw [show ((0 : Nat) : Int) = 0 from rfl, fu_s]
  | i + 1, a => by
    by_cases c : key x ≤ key (a i)
    · rw [insI_p c]
      show sm (fun k => key (fu a ((i : Int) + 1) x k)) (i + 1) + key (fu a ((i : Int) + 1) x ((i + 1 : Nat) : Int)) = _
      rw [show ((i + 1 : Nat) : Int) = (i : Int) + 1 by omega, fu_s, sm_congr (g := fun k => key (a k)) (fun k hk => by show key (fu a _ x (k : Int)) = _; rw [fu_n _ _ (by omega)])]
    · rw [insI_n c]
      show sm (fun k => key (insI key x i (fu a ((i : Int) + 1) (a i)) k)) (i + 1) + key (insI key x i (fu a ((i : Int) + 1) (a i)) ((i + 1 : Nat) : Int)) = sm (fun k => key (a k)) i + key (a i) + key x
      rw [insI_sum, insI_out (by omega), show ((i + 1 : Nat) : Int) = (i : Int) + 1 by omega, fu_s, sm_congr (g := fun k => key (a k)) (fun k hk => by show key (fu a _ (a i) (k : Int)) = _; rw [fu_n _ _ (by omega)])]
      omega
theorem sI_sum {key : Int → Int} {a : Int → Int} : ∀ {n : Nat}, sm (fun k => key (sI key a n k)) n = sm (fun k => key k) n
  | 0 => rfl
  | n + 1 => by
    show sm (fun k => key (insI key n n (sI key a n) k)) (n + 1) = sm (fun k => key k) n + key n
    rw [insI_sum, sI_sum]
theorem insI_has {key : Int → Int} {x y : Int} : ∀ {i : Nat} {a : Int → Int}, (y = x ∨ ∃ k : Int, 0 ≤ k ∧ k < i ∧ a k = y) → ∃ k : Int, 0 ≤ k ∧ k ≤ i ∧ insI key x i a k = y
  | 0, a, h => by
    rcases h with e | ⟨k, k0, k1, _⟩
    · exact ⟨0, by omega, by omega, by show fu a 0 x 0 = y; rw [fu_s]; exact e.symm⟩
    · omega
  | i + 1, a, h => by
    by_cases c : key x ≤ key (a i)
    · rw [insI_p c]
      rcases h with e | ⟨k, k0, k1, k2⟩
      · exact ⟨(i : Int) + 1, by omega, by omega, by rw [fu_s]; exact e.symm⟩
      · exact ⟨k, k0, by omega, by rw [fu_n _ _ (by omega)]; exact k2⟩
    · rw [insI_n c]
      by_cases z : a i = y ∧ y ≠ x
      · exact ⟨(i : Int) + 1, by omega, by omega, by rw [insI_out (by omega), fu_s]; exact z.1⟩
      · have := insI_has (key := key) (x := x) (y := y) (i := i) (a := fu a ((i : Int) + 1) (a i)) (by
          rcases h with e | ⟨k, k0, k1, k2⟩
          · exact Or.inl e
          · by_cases e : y = x
            · exact Or.inl e
            · right
              refine ⟨k, k0, ?_, by rw [fu_n _ _ (by omega)]; exact k2⟩
              by_cases e2 : k = i
              · rw [e2] at k2; exact absurd ⟨k2, e⟩ z
              · omega)
        obtain ⟨k, k0, k1, k2⟩ := this
        exact ⟨k, k0, by omega, k2⟩
theorem sI_sur {key : Int → Int} {a : Int → Int} : ∀ {n : Nat} (y : Int), 0 ≤ y → y < n → ∃ k : Int, 0 ≤ k ∧ k < n ∧ sI key a n k = y
  | 0, y, h0, h1 => by omega
  | n + 1, y, h0, h1 => by
    have := insI_has (key := key) (x := (n : Int)) (y := y) (i := n) (a := sI key a n) (by
      by_cases e : y = n
      · exact Or.inl e
      · obtain ⟨k, k0, k1, k2⟩ := sI_sur (key := key) (a := a) (n := n) y h0 (by omega)
        exact Or.inr ⟨k, k0, k1, k2⟩)
    obtain ⟨k, k0, k1, k2⟩ := this
    exact ⟨k, k0, by omega, k2⟩
/-- the deal -/
def dlR (s : Nat) (k : Nat) : Int := if (k / s) % 2 = 0 then ((k % s : Nat) : Int) else (s : Int) - 1 - ((k % s : Nat) : Int)
def dlS (key : Int → Int) (s : Nat) (σ : Int → Int) : Nat → SW
  | 0 => (fun _ => 0, fun _ => 0)
  | k + 1 => (fu (dlS key s σ k).1 (σ k) (dlR s k), fu (dlS key s σ k).2 (dlR s k) ((dlS key s σ k).2 (dlR s k) + key (σ k)))
theorem dlR_bd {s k : Nat} (h : 1 ≤ s) : 0 ≤ dlR s k ∧ dlR s k < s := by
  have := Nat.mod_lt k (show 0 < s by omega)
  unfold dlR
  split <;> omega
theorem dlS_bd {key : Int → Int} {s : Nat} {σ : Int → Int} (h1 : 1 ≤ s) {n : Nat} (hk : ∀ q : Int, 0 ≤ q → q < n → 0 ≤ key q ∧ key q ≤ 6000) (hσ : ∀ q : Int, 0 ≤ q → q < n → 0 ≤ σ q ∧ σ q < n) : ∀ {k : Nat}, k ≤ n → (∀ j : Int, 0 ≤ (dlS key s σ k).1 j ∧ (dlS key s σ k).1 j < s) ∧ ∀ r : Int, 0 ≤ (dlS key s σ k).2 r ∧ (dlS key s σ k).2 r ≤ 6000 * k
  | 0, _ => ⟨fun j => by show (0 : Int) ≤ 0 ∧ (0 : Int) < s; omega, fun r => by show (0 : Int) ≤ 0 ∧ (0 : Int) ≤ _; omega⟩
  | k + 1, hk1 => by
    have ih := dlS_bd (key := key) (s := s) (σ := σ) h1 hk hσ (k := k) (by omega)
    have rb := dlR_bd (s := s) (k := k) h1
    have sb := hσ k (by omega) (by omega)
    have kb := hk _ sb.1 sb.2
    refine ⟨fun j => ?_, fun r => ?_⟩
    · show 0 ≤ fu _ _ _ j ∧ fu _ _ _ j < (s : Int)
      unfold fu
      split
      · exact rb
      · exact ih.1 j
    · show 0 ≤ fu _ _ _ r ∧ fu _ _ _ r ≤ _
      have a := ih.2 r
      have b := ih.2 (dlR s k)
      unfold fu
      split <;> omega
