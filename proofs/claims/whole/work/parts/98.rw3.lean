/-! rows: ways in order, for any value; the value of rows as one number -/
def rwR (n : Nat) (C : (Int → Int) → Prop) (f : (Int → Int) → Int) (L : Int) (w : Int → Int) : Prop := C w ∧ f w = L ∧ ∀ w', C w' → L ≤ f w' ∧ (lxW n w' w → L < f w')
theorem rwR_uniq {n : Nat} {C : (Int → Int) → Prop} {f : (Int → Int) → Int} {L L' : Int} {w w' : Int → Int} (h : rwR n C f L w) (h' : rwR n C f L' w') : L = L' ∧ ∀ j : Nat, j < n → w j = w' j := by
  have a := (h.2.2 w' h'.1)
  have a' := (h'.2.2 w h.1)
  rw [h'.2.1] at a
  rw [h.2.1] at a'
  have e : L = L' := by omega
  refine ⟨e, ?_⟩
  rcases lxW_tri (n := n) (w := w) (w' := w') with q | q | q
  · have := a'.2 q; omega
  · have := a.2 q; omega
  · exact q
def rwS (n : Nat) (C : (Int → Int) → Prop) (f : (Int → Int) → Int) (S : (Int → Int) → Prop) (L L' : Int) (w w' : Int → Int) : Prop := L' ≤ L ∧ (L' = L → ∀ j : Nat, j < n → w' j = w j) ∧ (∀ u, C u → S u → L' ≤ f u) ∧ (L' < L → C w' ∧ S w' ∧ f w' = L' ∧ ∀ u, C u → S u → lxW n u w' → L' < f u)
/-- what depends on the first n places alone -/
def onP (n : Nat) (C : (Int → Int) → Prop) : Prop := ∀ u v, C u → (∀ j : Nat, j < n → u j = v j) → C v
def onV (n : Nat) (f : (Int → Int) → Int) : Prop := ∀ u v, (∀ j : Nat, j < n → u j = v j) → f u = f v
theorem rwS_seq {n : Nat} {C : (Int → Int) → Prop} {f : (Int → Int) → Int} (oC : onP n C) (oF : onV n f) {S1 S2 : (Int → Int) → Prop} {L0 L1 L2 : Int} {w0 w1 w2 : Int → Int} (h1 : rwS n C f S1 L0 L1 w0 w1) (h2 : rwS n C f S2 L1 L2 w1 w2) (ord : ∀ u v, S1 u → S2 v → ¬ lxW n v u) (c1 : onP n S1) : rwS n C f (fun u => S1 u ∨ S2 u) L0 L2 w0 w2 := by
  obtain ⟨a1, a2, a3, a4⟩ := h1
  obtain ⟨b1, b2, b3, b4⟩ := h2
  refine ⟨by omega, fun e j hj => ?_, fun u cu su => ?_, fun lt => ?_⟩
  · rw [b2 (by omega) j hj, a2 (by omega) j hj]
  · rcases su with s | s
    · have := a3 u cu s; omega
    · exact b3 u cu s
  · by_cases e : L2 < L1
    · have q := b4 e
      refine ⟨q.1, Or.inr q.2.1, q.2.2.1, fun u cu su lx => ?_⟩
      rcases su with s | s
      · have := a3 u cu s; omega
      · exact q.2.2.2 u cu s lx
    · have e2 : L2 = L1 := by omega
      have q := a4 (by omega)
      have ew := b2 e2
      have ew' : ∀ j : Nat, j < n → w1 j = w2 j := fun j hj => (ew j hj).symm
      refine ⟨oC _ _ q.1 ew', Or.inl (c1 _ _ q.2.1 ew'), by rw [← oF _ _ ew', q.2.2.1, e2], fun u cu su lx => ?_⟩
      have lx' := lxW_congr ew lx
      rcases su with s | s
      · rw [e2]; exact q.2.2.2 u cu s lx'
      · exact absurd lx' (ord _ _ q.2.1 s)
theorem rwS_none {n : Nat} {C : (Int → Int) → Prop} {f : (Int → Int) → Int} {S : (Int → Int) → Prop} {L : Int} {w : Int → Int} (h : ∀ u, C u → S u → L ≤ f u) : rwS n C f S L L w w := ⟨Int.le_refl _, fun _ _ _ => rfl, h, fun q => absurd q (by omega)⟩
theorem rwS_imp {n : Nat} {C : (Int → Int) → Prop} {f : (Int → Int) → Int} {S S' : (Int → Int) → Prop} {L L' : Int} {w w' : Int → Int} (h : rwS n C f S L L' w w') (e : ∀ u, C u → (S u ↔ S' u)) : rwS n C f S' L L' w w' := by
  obtain ⟨a1, a2, a3, a4⟩ := h
  exact ⟨a1, a2, fun u cu su => a3 u cu ((e u cu).mpr su), fun lt => ⟨(a4 lt).1, (e _ (a4 lt).1).mp (a4 lt).2.1, (a4 lt).2.2.1, fun u cu su => (a4 lt).2.2.2 u cu ((e u cu).mpr su)⟩⟩
/-- one way more: w, all that S holds -/
theorem rwS_one {n : Nat} {C : (Int → Int) → Prop} {f : (Int → Int) → Int} (oC : onP n C) (oF : onV n f) {S : (Int → Int) → Prop} (oS : onP n S) {L L' : Int} {w v v' : Int → Int} (sw : S w) (one : ∀ u, C u → S u → ∀ j : Nat, j < n → u j = w j) (q : ((¬ C w ∨ L ≤ f w) ∧ L' = L ∧ ∀ j : Nat, j < n → v' j = v j) ∨ (C w ∧ f w < L ∧ L' = f w ∧ ∀ j : Nat, j < n → v' j = w j)) : rwS n C f S L L' v v' := by
  rcases q with ⟨q1, q2, q3⟩ | ⟨q1, q2, q3, q4⟩
  · refine ⟨by omega, fun _ => q3, fun u cu su => ?_, fun lt => absurd lt (by omega)⟩
    have o := one u cu su
    rcases q1 with q1 | q1
    · exact absurd (oC _ _ cu o) q1
    · rw [oF _ _ o]; omega
  · have q4' : ∀ j : Nat, j < n → w j = v' j := fun j hj => (q4 j hj).symm
    refine ⟨by omega, fun x => absurd x (by omega), fun u cu su => ?_, fun lt => ⟨oC _ _ q1 q4', oS _ _ sw q4', by rw [oF _ _ q4]; exact q3.symm, fun u cu su lx => ?_⟩⟩
    · rw [oF _ _ (one u cu su)]; omega
    · obtain ⟨k, k1, k2, k3⟩ := lx
      have := one u cu su k k1
      rw [q4 k k1] at k3
      omega
/-- weak, uneven, unlike: the greatest weak first, then the least uneven, then the least unlike -/
def rvK : Int := 10000000000
def rv3 (wk un ul : Int) : Int := (un - wk * rvK) * rvK + ul
theorem rv3_lt {a b c a' b' c' : Int} (hb : 0 ≤ b ∧ b < rvK) (hc : 0 ≤ c ∧ c < rvK) (hb' : 0 ≤ b' ∧ b' < rvK) (hc' : 0 ≤ c' ∧ c' < rvK) : rv3 a b c < rv3 a' b' c' ↔ (a' < a ∨ (a = a' ∧ (b < b' ∨ (b = b' ∧ c < c')))) := by
  unfold rv3 rvK at *
  omega
