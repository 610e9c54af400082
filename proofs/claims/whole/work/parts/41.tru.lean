/-! TRUTH, pure: leans and true values out of the readings -/
abbrev TD : Type := (Int → Int) × (Int → Int) × (Int → Int) × (Int → Int) × Nat × Nat × Nat
/-- readings: cell, bench, hold, pass; how many readings, cells, benches -/
def TDok (d : TD) : Prop := d.2.2.2.2.1 ≤ 200 ∧ d.2.2.2.2.2.1 ≤ 60 ∧ d.2.2.2.2.2.2 ≤ 6 ∧ ∀ r : Nat, r < d.2.2.2.2.1 → (0 ≤ d.1 r ∧ d.1 r < d.2.2.2.2.2.1) ∧ (0 ≤ d.2.1 r ∧ d.2.1 r < d.2.2.2.2.2.2) ∧ (1 ≤ d.2.2.1 r ∧ d.2.2.1 r ≤ 400) ∧ (1 ≤ d.2.2.2.1 r ∧ d.2.2.2.1 r ≤ 999)
def rdq (d : TD) (j : Int → Int) (c : Int) (r : Nat) : Bool := decide (d.1 r = c ∧ j (d.2.1 r) ≠ 0)
def rdx (d : TD) (v ln : Int → Int) (r : Nat) : Int := v r - ln (d.2.1 r)
def tcn (d : TD) (j : Int → Int) (c : Int) : Int := cN (rdq d j c) d.2.2.2.2.1
def tsm (d : TD) (j : Int → Int) (v ln : Int → Int) (c : Int) : Int := cS (rdq d j c) (rdx d v ln) d.2.2.2.2.1
def thv (d : TD) (j : Int → Int) (v ln : Int → Int) (c : Int) : Int := tvl (tcn d j c) (tsm d j v ln c)
def tlo (d : TD) (j : Int → Int) (v ln : Int → Int) (c : Int) : Int := cLo (rdq d j c) (rdx d v ln) d.2.2.2.2.1
def thi (d : TD) (j : Int → Int) (v ln : Int → Int) (c : Int) : Int := cHi (rdq d j c) (rdx d v ln) d.2.2.2.2.1
def tmt (d : TD) (c b : Int) (r : Nat) : Bool := decide (d.1 r = c ∧ d.2.1 r = b)
def tfs (d : TD) (c b : Int) : Int := fst1 (tmt d c b) 0 d.2.2.2.2.1
def tsh (d : TD) (j : Int → Int) (b : Int) (c : Nat) : Bool := decide (0 < tcn d j c ∧ tfs d c b ≠ -1)
def nbF (n : Nat → Int) : Nat → Int × Int
  | 0 => (-1, 0)
  | b + 1 => if (nbF n b).2 < n b then ((b : Int), n b) else nbF n b
def tnn (d : TD) (j : Int → Int) (b : Nat) : Int := if j b ≠ 0 then 0 else cN (tsh d j b) d.2.2.2.2.2.1
def tnx (d : TD) (j : Int → Int) : Int := (nbF (tnn d j) d.2.2.2.2.2.2).1
def mdA (p : Nat → Bool) (v : Nat → Int) (a : Int → Int) : Nat → (Int → Int) × Nat
  | 0 => (a, 0)
  | c + 1 => if p c then (insA (v c) (mdA p v a c).2 (mdA p v a c).1, (mdA p v a c).2 + 1) else mdA p v a c
def tmv (d : TD) (j v ln : Int → Int) (b : Int) (c : Nat) : Int := v (tfs d c b) - thv d j v ln c
def tmd (d : TD) (j v ln : Int → Int) (b : Int) : Int := (mdA (tsh d j b) (tmv d j v ln b) (fun _ => 0) d.2.2.2.2.2.1).1 (((mdA (tsh d j b) (tmv d j v ln b) (fun _ => 0) d.2.2.2.2.2.1).2 - 1 : Int).tdiv 2)
abbrev TS : Type := (Int → Int) × (Int → Int) × (Int → Int)
def tst (d : TD) (t : TS) : TS := (fu t.1 (tnx d t.1) 1, fu t.2.1 (tnx d t.1) (tmd d t.1 d.2.2.1 t.2.1 (tnx d t.1)), fu t.2.2 (tnx d t.1) (tmd d t.1 d.2.2.2.1 t.2.2 (tnx d t.1)))
def ttr (d : TD) : Nat → TS → TS
  | 0, t => t
  | k + 1, t => if tnx d t.1 = -1 then t else ttr d k (tst d t)
def tin (d : TD) : TS := (fun b => if b = 0 ∧ 0 < d.2.2.2.2.2.2 then 1 else 0, fun _ => 0, fun _ => 0)
def tru (d : TD) : TS := ttr d (d.2.2.2.2.2.2 - 1) (tin d)
/-! what depends on what -/
def ag6 (f g : Int → Int) : Prop := ∀ b : Int, 0 ≤ b → b < 6 → f b = g b
theorem rdq_congr {d : TD} (ok : TDok d) {j j' : Int → Int} (h : ag6 j j') (c : Int) : ∀ r, r < d.2.2.2.2.1 → rdq d j c r = rdq d j' c r := by
  intro r hr
  obtain ⟨h1, h2, h3, h4⟩ := ok
  have := (h4 r hr).2.1
  unfold rdq
  rw [h _ (by omega) (by omega)]
theorem rdx_congr {d : TD} (ok : TDok d) {l l' : Int → Int} (h : ag6 l l') (v : Int → Int) : ∀ r, r < d.2.2.2.2.1 → rdx d v l r = rdx d v l' r := by
  intro r hr
  obtain ⟨h1, h2, h3, h4⟩ := ok
  have := (h4 r hr).2.1
  unfold rdx
  rw [h _ (by omega) (by omega)]
theorem tcn_congr {d : TD} (ok : TDok d) {j j' : Int → Int} (h : ag6 j j') : tcn d j = tcn d j' := funext fun c => cN_congr (rdq_congr ok h c)
theorem tsm_congr {d : TD} (ok : TDok d) {j j' l l' : Int → Int} (h : ag6 j j') (hl : ag6 l l') (v : Int → Int) : tsm d j v l = tsm d j' v l' := funext fun c => cS_congr (rdq_congr ok h c) (fun r hr _ => rdx_congr ok hl v r hr)
theorem tlo_congr {d : TD} (ok : TDok d) {j j' l l' : Int → Int} (h : ag6 j j') (hl : ag6 l l') (v : Int → Int) : tlo d j v l = tlo d j' v l' := funext fun c => cLo_congr (rdq_congr ok h c) (fun r hr _ => rdx_congr ok hl v r hr)
theorem thi_congr {d : TD} (ok : TDok d) {j j' l l' : Int → Int} (h : ag6 j j') (hl : ag6 l l') (v : Int → Int) : thi d j v l = thi d j' v l' := funext fun c => cHi_congr (rdq_congr ok h c) (fun r hr _ => rdx_congr ok hl v r hr)
theorem thv_congr {d : TD} (ok : TDok d) {j j' l l' : Int → Int} (h : ag6 j j') (hl : ag6 l l') (v : Int → Int) : thv d j v l = thv d j' v l' := by
  funext c
  unfold thv
  rw [tcn_congr ok h, tsm_congr ok h hl]
theorem tsh_congr {d : TD} (ok : TDok d) {j j' : Int → Int} (h : ag6 j j') (b : Int) : tsh d j b = tsh d j' b := by
  funext c
  unfold tsh
  rw [tcn_congr ok h]
theorem nbF_congr {n n' : Nat → Int} : ∀ {B : Nat}, (∀ b, b < B → n b = n' b) → nbF n B = nbF n' B
  | 0, _ => rfl
  | B + 1, h => by
    unfold nbF
    rw [nbF_congr (B := B) (fun b hb => h b (by omega)), h B (by omega)]
theorem tnx_congr {d : TD} (ok : TDok d) {j j' : Int → Int} (h : ag6 j j') : tnx d j = tnx d j' := by
  unfold tnx
  rw [nbF_congr (n' := tnn d j')]
  intro b hb
  have := ok.2.2.1
  unfold tnn
  rw [h b (by omega) (by omega), tsh_congr ok h]
theorem tmd_congr {d : TD} (ok : TDok d) {j j' l l' : Int → Int} (h : ag6 j j') (hl : ag6 l l') (v : Int → Int) : tmd d j v l = tmd d j' v l' := by
  funext b
  have : tmv d j v l b = tmv d j' v l' b := by
    funext c
    unfold tmv
    rw [thv_congr ok h hl]
  unfold tmd
  rw [tsh_congr ok h, this]
def agT (t t' : TS) : Prop := ag6 t.1 t'.1 ∧ ag6 t.2.1 t'.2.1 ∧ ag6 t.2.2 t'.2.2
theorem ag6_fu {f g : Int → Int} (h : ag6 f g) (b v : Int) : ag6 (fu f b v) (fu g b v) := by
  intro x h0 h1
  unfold fu
  rw [h x h0 h1]
theorem tst_congr {d : TD} (ok : TDok d) {t t' : TS} (h : agT t t') : agT (tst d t) (tst d t') := by
  unfold tst
  rw [tnx_congr ok h.1, tmd_congr ok h.1 h.2.1, tmd_congr ok h.1 h.2.2]
  exact ⟨ag6_fu h.1 _ _, ag6_fu h.2.1 _ _, ag6_fu h.2.2 _ _⟩
theorem ttr_congr {d : TD} (ok : TDok d) : ∀ (k : Nat) {t t' : TS}, agT t t' → agT (ttr d k t) (ttr d k t')
  | 0, _, _, h => h
  | k + 1, t, t', h => by
    unfold ttr
    rw [tnx_congr ok h.1]
    split
    · exact h
    · exact ttr_congr ok k (tst_congr ok h)
/-! the next bench -/
theorem nbF_bd (n : Nat → Int) : ∀ B : Nat, 0 ≤ (nbF n B).2 ∧ ((nbF n B).1 = -1 ∧ (nbF n B).2 = 0 ∨ (0 ≤ (nbF n B).1 ∧ (nbF n B).1 < B ∧ 0 < (nbF n B).2 ∧ n (nbF n B).1.toNat = (nbF n B).2))
  | 0 => ⟨Int.le_refl _, Or.inl ⟨rfl, rfl⟩⟩
  | B + 1 => by
    have := nbF_bd n B
    unfold nbF
    split
    · rename_i h
      refine ⟨by show 0 ≤ n B; omega, Or.inr ⟨?_, ?_, ?_, ?_⟩⟩
      · show 0 ≤ (B : Int); omega
      · show (B : Int) < (B + 1 : Nat); omega
      · show 0 < n B; omega
      · show n (B : Int).toNat = n B; rfl
    · refine ⟨this.1, ?_⟩
      rcases this.2 with h | h
      · exact Or.inl h
      · exact Or.inr ⟨h.1, by omega, h.2.2⟩
theorem nbF_most (n : Nat → Int) : ∀ {B : Nat} {b : Nat}, b < B → n b ≤ (nbF n B).2
  | 0, b, h => by omega
  | B + 1, b, h => by
    unfold nbF
    by_cases e : b = B
    · subst e
      split
      · exact Int.le_refl _
      · omega
    · have := nbF_most n (B := B) (b := b) (by omega)
      split
      · show n b ≤ n B; omega
      · exact this
theorem tnx_bd {d : TD} (ok : TDok d) (j : Int → Int) : tnx d j = -1 ∨ (0 ≤ tnx d j ∧ tnx d j < d.2.2.2.2.2.2 ∧ j (tnx d j) = 0 ∧ 0 < cN (tsh d j (tnx d j)) d.2.2.2.2.2.1) := by
  have := nbF_bd (tnn d j) d.2.2.2.2.2.2
  rcases this.2 with h | h
  · exact Or.inl h.1
  · right
    refine ⟨h.1, h.2.1, ?_⟩
    have e : (((nbF (tnn d j) d.2.2.2.2.2.2).1.toNat : Nat) : Int) = tnx d j := by show _ = (nbF (tnn d j) d.2.2.2.2.2.2).1; omega
    have h4 := h.2.2.2
    have h3 := h.2.2.1
    have h5 : tnn d j (nbF (tnn d j) d.2.2.2.2.2.2).1.toNat = if j (tnx d j) ≠ 0 then 0 else cN (tsh d j (tnx d j)) d.2.2.2.2.2.1 := by
      rw [← e]; rfl
    rw [h5] at h4
    by_cases hj : j (tnx d j) = 0
    · rw [if_neg (by simpa using hj)] at h4
      exact ⟨hj, by omega⟩
    · rw [if_pos hj] at h4
      omega
theorem mdA_bd {p : Nat → Bool} {v : Nat → Int} {a : Int → Int} {K L : Int} : ∀ {C : Nat}, (∀ c, c < C → p c = true → K ≤ v c ∧ v c ≤ L) → ((mdA p v a C).2 : Int) = cN p C ∧ ∀ i : Int, 0 ≤ i → i < (mdA p v a C).2 → K ≤ (mdA p v a C).1 i ∧ (mdA p v a C).1 i ≤ L
  | 0, _ => ⟨rfl, fun i h0 h1 => by simp [mdA] at h1; omega⟩
  | C + 1, h => by
    have ih := mdA_bd (a := a) (C := C) (fun c hc => h c (by omega))
    unfold mdA cN
    cases hp : p C with
    | false => simpa using ih
    | true =>
      simp only [if_true]
      refine ⟨by simp; omega, fun i h0 h1 => ?_⟩
      exact insA_bd (h C (by omega) hp) ih.2 i h0 (by simp at h1; omega)
theorem mdA_congr {p : Nat → Bool} {v : Nat → Int} {a b : Int → Int} : ∀ {C : Nat}, (mdA p v a C).2 = (mdA p v b C).2 ∧ ∀ i : Int, 0 ≤ i → i < (mdA p v a C).2 → (mdA p v a C).1 i = (mdA p v b C).1 i
  | 0 => ⟨rfl, fun i h0 h1 => by simp [mdA] at h1; omega⟩
  | C + 1 => by
    have ih := mdA_congr (p := p) (v := v) (a := a) (b := b) (C := C)
    unfold mdA
    cases hp : p C with
    | false => simpa using ih
    | true =>
      simp only [if_true]
      refine ⟨by rw [ih.1], fun i h0 h1 => ?_⟩
      rw [← ih.1]
      exact insA_congr ih.2 i h0 (by simp at h1; omega)
/-- bounds of leans -/
def tbd (K : Int) (t : TS) : Prop := ∀ b : Int, 0 ≤ b → b < 6 → (t.1 b = 0 ∨ t.1 b = 1) ∧ (-K ≤ t.2.1 b ∧ t.2.1 b ≤ K) ∧ (-K ≤ t.2.2 b ∧ t.2.2 b ≤ K)
theorem rdx_bd {d : TD} (ok : TDok d) {K : Int} {t : TS} (hb : tbd K t) : ∀ r, r < d.2.2.2.2.1 → (-K ≤ rdx d d.2.2.1 t.2.1 r ∧ rdx d d.2.2.1 t.2.1 r ≤ K + 1000) ∧ (-K ≤ rdx d d.2.2.2.1 t.2.2 r ∧ rdx d d.2.2.2.1 t.2.2 r ≤ K + 1000) := by
  intro r hr
  obtain ⟨h1, h2, h3, h4⟩ := ok
  have := h4 r hr
  have := hb (d.2.1 r) (by omega) (by omega)
  unfold rdx
  omega
theorem thv_bd {d : TD} (ok : TDok d) {K : Int} (hK : 0 ≤ K) {t : TS} (hb : tbd K t) (c : Int) : (0 ≤ thv d t.1 d.2.2.1 t.2.1 c ∧ thv d t.1 d.2.2.1 t.2.1 c ≤ K + 1000 ∧ (tcn d t.1 c ≠ 0 → 1 ≤ thv d t.1 d.2.2.1 t.2.1 c)) ∧ (0 ≤ thv d t.1 d.2.2.2.1 t.2.2 c ∧ thv d t.1 d.2.2.2.1 t.2.2 c ≤ K + 1000 ∧ (tcn d t.1 c ≠ 0 → 1 ≤ thv d t.1 d.2.2.2.1 t.2.2 c)) :=
  ⟨tvl_bd (by omega) (cN_bd _ _).1 (cS_le (fun r hr _ => (rdx_bd ok hb r hr).1.2)), tvl_bd (by omega) (cN_bd _ _).1 (cS_le (fun r hr _ => (rdx_bd ok hb r hr).2.2))⟩
theorem tfs_bd (d : TD) (c b : Int) : tfs d c b = -1 ∨ (0 ≤ tfs d c b ∧ tfs d c b < d.2.2.2.2.1) := by
  have := fst1_bd (tmt d c b) d.2.2.2.2.1 0
  unfold tfs
  omega
theorem tmv_bd {d : TD} (ok : TDok d) {K : Int} (hK : 0 ≤ K) {t : TS} (hb : tbd K t) (b : Int) (c : Nat) (hs : tsh d t.1 b c = true) : (-(K + 1000) ≤ tmv d t.1 d.2.2.1 t.2.1 b c ∧ tmv d t.1 d.2.2.1 t.2.1 b c ≤ K + 1000) ∧ (-(K + 1000) ≤ tmv d t.1 d.2.2.2.1 t.2.2 b c ∧ tmv d t.1 d.2.2.2.1 t.2.2 b c ≤ K + 1000) := by
  have h1 := thv_bd ok hK hb c
  have hs2 := of_decide_eq_true hs
  have h2 := tfs_bd d c b
  obtain ⟨k1, k2, k3, k4⟩ := ok
  have h3 := k4 (tfs d c b).toNat (by omega)
  have e : (((tfs d c b).toNat : Nat) : Int) = tfs d c b := by omega
  rw [e] at h3
  unfold tmv
  omega
theorem tmd_bd {d : TD} (ok : TDok d) {K : Int} (hK : 0 ≤ K) {t : TS} (hb : tbd K t) {b : Int} (hn : 0 < cN (tsh d t.1 b) d.2.2.2.2.2.1) : (-(K + 1000) ≤ tmd d t.1 d.2.2.1 t.2.1 b ∧ tmd d t.1 d.2.2.1 t.2.1 b ≤ K + 1000) ∧ (-(K + 1000) ≤ tmd d t.1 d.2.2.2.1 t.2.2 b ∧ tmd d t.1 d.2.2.2.1 t.2.2 b ≤ K + 1000) := by
  have a1 := mdA_bd (p := tsh d t.1 b) (v := tmv d t.1 d.2.2.1 t.2.1 b) (a := fun _ => 0) (C := d.2.2.2.2.2.1) (fun c _ hs => (tmv_bd ok hK hb b c hs).1)
  have a2 := mdA_bd (p := tsh d t.1 b) (v := tmv d t.1 d.2.2.2.1 t.2.2 b) (a := fun _ => 0) (C := d.2.2.2.2.2.1) (fun c _ hs => (tmv_bd ok hK hb b c hs).2)
  unfold tmd
  rw [a1.1, a2.1]
  have e := Int.tdiv_eq_ediv_of_nonneg (a := cN (tsh d t.1 b) d.2.2.2.2.2.1 - 1) (b := 2) (by omega)
  exact ⟨a1.2 _ (by omega) (by omega), a2.2 _ (by omega) (by omega)⟩
theorem tst_bd {d : TD} (ok : TDok d) {K : Int} (hK : 0 ≤ K) {t : TS} (hb : tbd K t) (hn : tnx d t.1 ≠ -1) : tbd (K + 1000) (tst d t) := by
  have h1 : 0 < cN (tsh d t.1 (tnx d t.1)) d.2.2.2.2.2.1 := by
    rcases tnx_bd ok t.1 with h | h
    · exact absurd h hn
    · exact h.2.2.2
  have h2 := tmd_bd ok hK hb h1
  intro b h0 h6
  have h3 := hb b h0 h6
  unfold tst
  by_cases e : b = tnx d t.1
  · rw [e]
    simp only [fu_s]
    exact ⟨Or.inr trivial, h2.1, h2.2⟩
  · simp only [fu_n _ _ e]
    omega
