/-! most: sorted values, whichever way they were sorted -/
theorem insA_cnt {x : Int} : ∀ {m : Nat} {a : Int → Int}, (∀ j k : Int, 0 ≤ j → j ≤ k → k < m → a j ≤ a k) → ∀ (h k : Int), 0 ≤ k → k ≤ m → (insA x m a k < h ↔ if x < h then (k = 0 ∨ a (k - 1) < h) else (a k < h ∧ k < m))
  | 0, a, _, h, k, h0, h1 => by
    have : k = 0 := by omega
    subst this
    show fu a 0 x 0 < h ↔ _
    rw [fu_s]
    split
    · rename_i q; simp [q]
    · rename_i q; simp; omega
  | m + 1, a, mo, h, k, h0, h1 => by
    by_cases c : a m ≤ x
    · rw [insA_p c]
      by_cases e : k = (m : Int) + 1
      · rw [e, fu_s]
        have : (m : Int) + 1 - 1 = m := by omega
        rw [this]
        split
        · rename_i q; constructor
          · intro _; right; omega
          · intro _; exact q
        · rename_i q; constructor
          · intro y; omega
          · intro y; omega
      · rw [fu_n _ _ e]
        have mk := mo k m h0 (by omega) (by omega)
        split
        · rename_i q; constructor
          · intro _
            by_cases z : k = 0
            · exact Or.inl z
            · right
              have := mo (k - 1) m (by omega) (by omega) (by omega)
              omega
          · intro _; omega
        · constructor
          · intro y; exact ⟨y, by omega⟩
          · intro y; exact y.1
    · rw [insA_n c]
      have ih := insA_cnt (x := x) (m := m) (a := fu a ((m : Int) + 1) (a m)) (fun j k j0 jk km => by
        rw [fu_n _ _ (by omega), fu_n _ _ (by omega)]; exact mo j k j0 jk (by omega))
      by_cases e : k = (m : Int) + 1
      · have aux : ∀ (i : Nat) (b : Int → Int), (i : Int) < k → insA x i b k = b k := by
          intro i
          induction i with
          | zero => intro b hk; exact fu_n _ _ (by omega)
          | succ i ihh =>
            intro b hk
            unfold insA
            split
            · exact fu_n _ _ (by omega)
            · rw [ihh _ (by omega)]; exact fu_n _ _ (by omega)
        rw [aux m _ (by omega), e, fu_s, show (m : Int) + 1 - 1 = m by omega]
        split
        · constructor
          · intro y; exact Or.inr y
          · intro y; omega
        · constructor
          · intro y; omega
          · intro y; omega
      · rw [ih h k h0 (by omega)]
        split
        · by_cases z : k = 0
          · simp [z]
          · rw [fu_n _ _ (by omega)]
        · rw [fu_n _ _ (by omega)]
          constructor
          · intro y; exact ⟨y.1, by omega⟩
          · intro y
            refine ⟨y.1, ?_⟩
            have y2 := y.2
            by_cases z : k = m
            · have := y.1; rw [z] at this; omega
            · omega
/-- sorted: how many stand below h tells which -/
def srt (a : Int → Int) (n : Nat) (c : Int → Int) : Prop := ∀ h k : Int, 0 ≤ k → k < n → (a k < h ↔ k < c h)
theorem srt_mono {a : Int → Int} {n : Nat} {c : Int → Int} (s : srt a n c) : ∀ j k : Int, 0 ≤ j → j ≤ k → k < n → a j ≤ a k := by
  intro j k j0 jk kn
  have h1 := (s (a k + 1) k (by omega) kn).mp (by omega)
  have h2 := (s (a k + 1) j j0 (by omega)).mpr (by omega)
  omega
theorem insA_srt {x : Int} {a : Int → Int} {n : Nat} {c : Int → Int} (s : srt a n c) (c0 : ∀ h, 0 ≤ c h ∧ c h ≤ n) : srt (insA x n a) (n + 1) (fun h => c h + (if x < h then 1 else 0)) := by
  intro h k k0 k1
  show _ ↔ k < c h + (if x < h then 1 else 0)
  rw [insA_cnt (srt_mono s) h k k0 (by omega)]
  have cb := c0 h
  by_cases q : x < h
  · rw [if_pos q, if_pos q]
    by_cases z : k = 0
    · constructor
      · intro _; omega
      · intro _; exact Or.inl z
    · have := s h (k - 1) (by omega) (by omega)
      rw [this]
      constructor
      · intro y; omega
      · intro y; right; omega
  · rw [if_neg q, if_neg q]
    by_cases z : k < n
    · rw [s h k k0 z]
      constructor
      · intro y; omega
      · intro y; exact ⟨by omega, z⟩
    · constructor
      · intro y; omega
      · intro y; omega
def cLt (v : Nat → Int) (n : Nat) (h : Int) : Int := cN (fun j => decide (v j < h)) n
theorem srt_uniq {a b : Int → Int} {n : Nat} {c : Int → Int} (s : srt a n c) (t : srt b n c) : ∀ k : Int, 0 ≤ k → k < n → a k = b k := by
  intro k k0 k1
  have h1 := (s (b k + 1) k k0 k1)
  have h2 := (t (b k + 1) k k0 k1)
  have h3 := (s (a k + 1) k k0 k1)
  have h4 := (t (a k + 1) k k0 k1)
  have p1 := h1.mpr (h2.mp (by omega))
  have p2 := h4.mpr (h3.mp (by omega))
  omega
theorem cN_not {q : Nat → Bool} : ∀ {n : Nat}, cN (fun j => !q j) n = n - cN q n
  | 0 => by simp [cN]
  | n + 1 => by
    unfold cN
    rw [cN_not]
    cases q n <;> simp <;> omega
/-- sorted the other way, read from the other end -/
theorem srt_rev {v : Nat → Int} {b : Int → Int} {n : Nat} (s : srt (fun k => - b k) n (cLt (fun j => - v j) n)) : srt (fun k => b ((n : Int) - 1 - k)) n (cLt v n) := by
  intro h k k0 k1
  have q : - b ((n : Int) - 1 - k) < -h + 1 ↔ (n : Int) - 1 - k < cLt (fun j => - v j) n (-h + 1) := s (-h + 1) ((n : Int) - 1 - k) (by omega) (by omega)
  have e : cLt (fun j => - v j) n (-h + 1) = n - cLt v n h := by
    unfold cLt
    rw [← cN_not]
    refine cN_congr (fun r hr => ?_)
    show decide (- v r < -h + 1) = !decide (v r < h)
    by_cases z : v r < h
    · rw [decide_eq_true z, decide_eq_false (by omega)]; rfl
    · rw [decide_eq_false z, decide_eq_true (by omega)]; rfl
  rw [e] at q
  show b ((n : Int) - 1 - k) < h ↔ _
  constructor
  · intro y
    have : ¬ (- b ((n : Int) - 1 - k) < -h + 1) := by omega
    have := fun z => this (q.mpr z)
    omega
  · intro y
    have : ¬ ((n : Int) - 1 - k < n - cLt v n h) := by omega
    have := fun z => this (q.mp z)
    omega
def prF (a : Int → Int) (h : Int) : Nat → Int → Int → Int
  | 0, _, _ => 0
  | k + 1, lo, hi => if hi ≤ lo then 0 else if a lo + a hi < h then prF a h k (lo + 1) hi else 1 + prF a h k (lo + 1) (hi - 1)
theorem prF_congr {a b : Int → Int} {h : Int} {n : Nat} (e : ∀ k : Int, 0 ≤ k → k < n → a k = b k) : ∀ (k : Nat) (lo hi : Int), 0 ≤ lo → hi < n → prF a h k lo hi = prF b h k lo hi
  | 0, _, _, _, _ => rfl
  | k + 1, lo, hi, h0, h1 => by
    unfold prF
    split
    · rfl
    · rw [e lo h0 (by omega), e hi (by omega) h1, prF_congr e k (lo + 1) hi (by omega) h1, prF_congr e k (lo + 1) (hi - 1) (by omega) (by omega)]
theorem prF_bd {a : Int → Int} {h : Int} : ∀ (k : Nat) (lo hi : Int), 0 ≤ prF a h k lo hi ∧ prF a h k lo hi ≤ k
  | 0, _, _ => ⟨Int.le_refl _, Int.le_refl _⟩
  | k + 1, lo, hi => by
    have a1 := prF_bd (a := a) (h := h) k (lo + 1) hi
    have a2 := prF_bd (a := a) (h := h) k (lo + 1) (hi - 1)
    unfold prF
    split
    · omega
    · split <;> omega
section MOST
variable {l : Launch} {D : Nat} {ζ : ZP} {h : HI} {Q : Int → HI → Prop} {QV : HI → Prop} {c x H : Int}
/-- the class's sorting: the holds of the picked cells come out sorted -/
theorem s_sortPicked (hn : 144 ≤ ζ.2.2.2.2) {n : Nat} (n1 : 1 ≤ n) (n60 : n ≤ 60) {p V : Int → Int} (hp : ∀ j : Int, 0 ≤ j → j < n → h 51 j = p j ∧ 0 ≤ p j ∧ p j < 60) (hV : ∀ c : Int, 0 ≤ c → c < 60 → h 44 c = V c ∧ rg (V c)) (hq : ∀ h', FL [(51, -1)] h h' → (∀ j : Int, 0 ≤ j → j < n → 0 ≤ h' 51 j ∧ h' 51 j < 60) → srt (fun j => V (h' 51 j)) n (cLt (fun j => V (p j)) n) → QV h') : RtV l (D + 1) mX11_sortPicked (zz ζ) [aP 0, aI n] h QV := by
  refine e_X11_sortPicked hn ?_
  have hV44 : ∀ g, FL [(51, -1)] h g → ∀ c : Int, 0 ≤ c → c < 60 → g 44 c = V c ∧ rg (V c) := fun g f c c0 c1 => by rw [f.c 44 rfl]; exact hV c c0 c1
  have main : ∀ (m k : Nat) (g : HI), k + m = n → 1 ≤ k → FL [(51, -1)] h g → (∀ j : Int, k ≤ j → j < n → g 51 j = p j) → (∀ j : Int, 0 ≤ j → j < k → 0 ≤ g 51 j ∧ g 51 j < 60) → srt (fun j => V (g 51 j)) k (cLt (fun j => V (p j)) k) → G l (D + 1) 0 0 mX11_sortPicked (zz ζ) 2 [aP 0, aI n, aI k, aU, aU] [] g (qV (zz ζ) QV) := by
    intro m
    induction m with
    | zero =>
      intro k g hk k1 f _ hr s
      have : k = n := by omega
      subst this
      refine b_X11_sortPicked_2 hn ⟨by constructor <;> omega, by constructor <;> omega, iteP (by omega) (hq g f hr s)⟩
    | succ m ih =>
      intro k g hk k1 f hU hr s
      have pk := hp k (by omega) (by omega)
      have gk := hU k (by omega) (by omega)
      refine b_X11_sortPicked_2 hn ⟨by constructor <;> omega, by constructor <;> omega, iteN (by omega) ⟨⟨by omega, by omega⟩, ?_⟩⟩
      rw [gk]
      have cb : ∀ h, 0 ≤ cLt (fun j => V (p j)) k h ∧ cLt (fun j => V (p j)) k h ≤ k := fun h => cN_bd _ k
      have s' := insA_srt (x := V (p k)) s cb
      have fin : ∀ g' : HI, FL [(51, -1)] h g' → (∀ j : Int, (k : Int) + 1 ≤ j → j < n → g' 51 j = p j) → (∀ j : Int, 0 ≤ j → j < (k : Int) + 1 → 0 ≤ g' 51 j ∧ g' 51 j < 60) → (∀ j : Int, 0 ≤ j → j ≤ k → V (g' 51 j) = insA (V (p k)) k (fun j => V (g 51 j)) j) → G l (D + 1) 0 0 mX11_sortPicked (zz ζ) 2 [aP 0, aI n, aI ((k : Int) + 1), aU, aU] [] g' (qV (zz ζ) QV) := by
        intro g' f' u' r' e'
        have kk := ih (k + 1) g' (by omega) (by omega) f' (fun j j0 j1 => u' j (by omega) j1) (fun j j0 j1 => r' j j0 (by omega)) (by
          intro h j j0 j1
          show V (g' 51 j) < h ↔ _
          rw [e' j j0 (by omega)]
          have := s' h j j0 (by omega)
          rw [this]
          unfold cLt
          show _ ↔ j < cN (fun j => decide (V (p j) < h)) k + (if decide (V (p k) < h) = true then 1 else 0)
          simp only [decide_eq_true_eq])
        rw [show ((k + 1 : Nat) : Int) = (k : Int) + 1 by omega] at kk
        exact kk
      have ins : ∀ (i : Nat) (g' : HI), i ≤ k → FL [(51, -1)] h g' → (∀ j : Int, (k : Int) + 1 ≤ j → j < n → g' 51 j = p j) → (∀ j : Int, 0 ≤ j → j ≤ k → j ≠ i → 0 ≤ g' 51 j ∧ g' 51 j < 60) → (∀ j : Int, 0 ≤ j → j ≤ k → insA (V (p k)) i (fun j => V (g' 51 j)) j = insA (V (p k)) k (fun j => V (g 51 j)) j) → G l (D + 1) 0 0 mX11_sortPicked (zz ζ) 17 [aP 0, aI n, aI k, aI (p k), aI i] [] g' (qV (zz ζ) QV) := by
        intro i
        induction i with
        | zero =>
          intro g' hi f' u' r' e'
          have c0 : ((0 : Nat) : Int) = 0 := rfl
          rw [c0] at r' ⊢
          refine b_X11_sortPicked_17 hn ⟨by decide, iteP (by decide) ⟨⟨by decide, by decide⟩, fin _ (f'.ua rfl) (fun j j0 j1 => by rw [hu_j _ _ _ (by omega)]; exact u' j j0 j1) (fun j j0 j1 => ?_) (fun j j0 j1 => ?_)⟩⟩
          · by_cases e : j = 0
            · subst e; rw [hu_s]; exact pk.2
            · rw [hu_j _ _ _ e]; exact r' j j0 (by omega) e
          · rw [← e' j j0 j1]
            show _ = fu _ 0 _ j
            by_cases e : j = 0
            · subst e; rw [hu_s, fu_s]
            · rw [hu_j _ _ _ e, fu_n _ _ e]
        | succ i ihi =>
          intro g' hi f' u' r' e'
          have ri := r' i (by omega) (by omega) (by omega)
          have v1 := hV44 g' f' _ ri.1 ri.2
          have v2 := hV44 g' f' (p k) pk.2.1 pk.2.2
          refine b_X11_sortPicked_17 hn ⟨by constructor <;> omega, iteN (by omega) ?_⟩
          rw [show ((i + 1 : Nat) : Int) - 1 = (i : Int) by omega, v1.1, v2.1]
          refine ⟨⟨by omega, by omega⟩, ri, pk.2, v1.2, v2.2, iteI (fun q => ⟨⟨by omega, by omega⟩, ?_⟩) (fun q => ⟨⟨by omega, by omega⟩, ?_⟩)⟩
          · refine fin _ (f'.ua rfl) (fun j j0 j1 => by rw [hu_j _ _ _ (by omega)]; exact u' j j0 j1) (fun j j0 j1 => ?_) (fun j j0 j1 => ?_)
            · by_cases e : j = ((i + 1 : Nat) : Int)
              · rw [e, hu_s]; exact pk.2
              · rw [hu_j _ _ _ e]; exact r' j j0 (by omega) e
            · rw [← e' j j0 j1, insA_p (a := fun j => V (g' 51 j)) q]
              by_cases e : j = ((i + 1 : Nat) : Int)
              · rw [e, hu_s]; exact (fu_s _ _ _).symm
              · rw [hu_j _ _ _ e]; exact (fu_n (fun j => V (g' 51 j)) _ (show j ≠ (i : Int) + 1 by omega)).symm
          · rw [show ((i + 1 : Nat) : Int) + (-1) = (i : Int) by omega]
            refine ihi _ (by omega) (f'.ua rfl) (fun j j0 j1 => by rw [hu_j _ _ _ (by omega)]; exact u' j j0 j1) (fun j j0 j1 j2 => ?_) (fun j j0 j1 => ?_)
            · by_cases e : j = ((i + 1 : Nat) : Int)
              · rw [e, hu_s]; exact ri
              · rw [hu_j _ _ _ e]; exact r' j j0 (by omega) e
            · rw [← e' j j0 j1, insA_n (a := fun j => V (g' 51 j)) q]
              congr 1
              funext y
              unfold fu
              by_cases e : y = (i : Int) + 1
              · rw [if_pos e, e, show (i : Int) + 1 = ((i + 1 : Nat) : Int) by omega, hu_s]
              · rw [if_neg e, hu_j _ _ _ (by omega)]
      refine ins k g (Nat.le_refl _) f (fun j j0 j1 => hU j (by omega) j1) (fun j j0 j1 j2 => hr j j0 (by omega)) (fun j j0 j1 => rfl)
  refine main (n - 1) 1 h (by omega) (by omega) FL.refl (fun j j0 j1 => (hp j (by omega) j1).1) (fun j j0 j1 => ?_) ?_
  · have := hp j j0 (by omega)
    rw [this.1]; exact this.2
  · intro hh k k0 k1
    have : k = 0 := by omega
    subst this
    have p0 := hp 0 (by omega) (by omega)
    show V (h 51 0) < hh ↔ 0 < cN _ 1
    rw [p0.1]
    unfold cN cN
    by_cases z : V (p 0) < hh
    · simp [z]
    · simp [z]
end MOST
