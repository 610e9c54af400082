/-! sorting of places by a key, the greatest first, equal ones as they stood -/
def insI (key : Int → Int) (x : Int) : Nat → (Int → Int) → (Int → Int)
  | 0, a => fu a 0 x
  | i + 1, a => if key x ≤ key (a i) then fu a ((i : Int) + 1) x else insI key x i (fu a ((i : Int) + 1) (a i))
def sI (key : Int → Int) (a : Int → Int) : Nat → (Int → Int)
  | 0 => a
  | n + 1 => insI key n n (sI key a n)
theorem insI_p {key : Int → Int} {x : Int} {i : Nat} {a : Int → Int} (h : key x ≤ key (a i)) : insI key x (i + 1) a = fu a ((i : Int) + 1) x := if_pos h
theorem insI_n {key : Int → Int} {x : Int} {i : Nat} {a : Int → Int} (h : ¬ key x ≤ key (a i)) : insI key x (i + 1) a = insI key x i (fu a ((i : Int) + 1) (a i)) := if_neg h
theorem insI_neg {key : Int → Int} {x : Int} : ∀ {i : Nat} {a : Int → Int} (j : Int), - key (insI key x i a j) = insA (- key x) i (fun j => - key (a j)) j
  | 0, a, j => by
    show - key (fu a 0 x j) = fu _ 0 _ j
    unfold fu
    split <;> rfl
  | i + 1, a, j => by
    by_cases c : key x ≤ key (a i)
    · rw [insI_p c, insA_p (a := fun j => - key (a j)) (by show - key (a i) ≤ - key x; omega)]
      unfold fu
      split <;> rfl
    · rw [insI_n c, insA_n (a := fun j => - key (a j)) (by show ¬ - key (a i) ≤ - key x; omega), insI_neg j]
      congr 1
      funext y
      unfold fu
      split <;> rfl
theorem insI_out {key : Int → Int} {x : Int} : ∀ {i : Nat} {a : Int → Int} {j : Int}, (i : Int) < j → insI key x i a j = a j
  | 0, a, j, h => fu_n _ _ (by omega)
  | i + 1, a, j, h => by
    unfold insI
    split
    · exact fu_n _ _ (by omega)
    · rw [insI_out (by omega)]; exact fu_n _ _ (by omega)
theorem insI_congr {key : Int → Int} {x : Int} : ∀ {i : Nat} {a b : Int → Int}, (∀ j : Int, 0 ≤ j → j < i → a j = b j) → ∀ j : Int, 0 ≤ j → j ≤ i → insI key x i a j = insI key x i b j
  | 0, a, b, h, j, h0, h1 => by
    have : j = 0 := by omega
    subst this
    simp [insI, fu]
  | i + 1, a, b, h, j, h0, h1 => by
    unfold insI
    rw [h i (by omega) (by omega)]
    split
    · by_cases e : j = (i : Int) + 1
      · rw [e, fu_s, fu_s]
      · rw [fu_n _ _ e, fu_n _ _ e]; exact h j h0 (by omega)
    · by_cases e : j = (i : Int) + 1
      · rw [insI_out (by omega), insI_out (by omega), e, fu_s, fu_s]
      · exact insI_congr (fun q hq0 hq1 => by rw [fu_n _ _ (by omega), fu_n _ _ (by omega)]; exact h q hq0 (by omega)) j h0 (by omega)
theorem insI_bd {key : Int → Int} {x : Int} {N : Int} (hx : 0 ≤ x ∧ x < N) : ∀ {i : Nat} {a : Int → Int}, (∀ j : Int, 0 ≤ j → j < i → 0 ≤ a j ∧ a j < N) → ∀ j : Int, 0 ≤ j → j ≤ i → 0 ≤ insI key x i a j ∧ insI key x i a j < N
  | 0, a, h, j, h0, h1 => by
    have : j = 0 := by omega
    subst this
    show 0 ≤ fu a 0 x 0 ∧ fu a 0 x 0 < N
    rw [fu_s]; exact hx
  | i + 1, a, h, j, h0, h1 => by
    unfold insI
    split
    · by_cases e : j = (i : Int) + 1
      · rw [e, fu_s]; exact hx
      · rw [fu_n _ _ e]; exact h j h0 (by omega)
    · by_cases e : j = (i : Int) + 1
      · rw [insI_out (by omega), e, fu_s]; exact h i (by omega) (by omega)
      · exact insI_bd hx (fun q hq0 hq1 => by rw [fu_n _ _ (by omega)]; exact h q hq0 (by omega)) j h0 (by omega)
theorem sI_bd {key : Int → Int} {a : Int → Int} : ∀ {n : Nat} (j : Int), 0 ≤ j → j < n → 0 ≤ sI key a n j ∧ sI key a n j < n
  | 0, j, h0, h1 => by omega
  | n + 1, j, h0, h1 => by
    have := insI_bd (key := key) (x := (n : Int)) (N := ((n + 1 : Nat) : Int)) (by omega) (i := n) (a := sI key a n) (fun j j0 j1 => by have := sI_bd (key := key) (a := a) (n := n) j j0 j1; omega) j h0 (by omega)
    exact this
theorem sI_congr {key : Int → Int} {a b : Int → Int} : ∀ {n : Nat} (j : Int), 0 ≤ j → j < n → sI key a n j = sI key b n j
  | 0, j, h0, h1 => by omega
  | n + 1, j, h0, h1 => insI_congr (fun q q0 q1 => sI_congr q q0 q1) j h0 (by omega)
theorem insI_key {key key' : Int → Int} {x : Int} {N : Int} (hk : ∀ j : Int, 0 ≤ j → j < N → key j = key' j) (hx : 0 ≤ x ∧ x < N) : ∀ {i : Nat} {a : Int → Int}, (∀ j : Int, 0 ≤ j → j < i → 0 ≤ a j ∧ a j < N) → insI key x i a = insI key' x i a
  | 0, a, _ => rfl
  | i + 1, a, h => by
    have hi := h i (by omega) (by omega)
    unfold insI
    rw [hk x hx.1 hx.2, hk _ hi.1 hi.2]
    split
    · rfl
    · exact insI_key hk hx (fun q q0 q1 => by rw [fu_n _ _ (by omega)]; exact h q q0 (by omega))
theorem sI_key {key key' : Int → Int} {a : Int → Int} : ∀ {n : Nat}, (∀ j : Int, 0 ≤ j → j < n → key j = key' j) → sI key a n = sI key' a n
  | 0, _ => rfl
  | n + 1, h => by
    unfold sI
    rw [sI_key (n := n) (fun j j0 j1 => h j j0 (by omega))]
    exact insI_key (N := ((n + 1 : Nat) : Int)) h (by omega) (fun j j0 j1 => by have := sI_bd (key := key') (a := a) (n := n) j j0 j1; omega)
theorem sI_srt {key : Int → Int} {a : Int → Int} : ∀ {n : Nat}, srt (fun k => - key (sI key a n k)) n (cLt (fun j => - key j) n)
  | 0 => fun h k k0 k1 => by omega
  | n + 1 => by
    have ih := sI_srt (key := key) (a := a) (n := n)
    have s' := insA_srt (x := - key n) ih (fun h => cN_bd _ n)
    intro h k k0 k1
    show - key (insI key n n (sI key a n) k) < h ↔ _
    rw [insI_neg]
    rw [s' h k k0 k1]
    unfold cLt
    show _ ↔ k < cN (fun j => decide (- key j < h)) n + (if decide (- key n < h) = true then 1 else 0)
    simp only [decide_eq_true_eq]
section MOST2
variable {l : Launch} {D : Nat} {ζ : ZP} {h : HI} {Q : Int → HI → Prop} {QV : HI → Prop} {c x H : Int}
theorem s_msort (hn : 144 ≤ ζ.2.2.2.2) {n : Nat} (n60 : n ≤ 60) (e43 : h 97 43 = n) {t V : Int → Int} (ht : ∀ j : Int, 0 ≤ j → j < n → h 114 j = t j ∧ (0 ≤ t j ∧ t j < 60) ∧ h 106 (t j) = V j ∧ rg (V j)) (hq : ∀ h', FL [(123, -1)] h h' → h' 123 = sI V (h 123) n → QV h') : RtV l (D + 1) mX12_sort (zz ζ) [aP 97] h QV := by
  refine e_X12_sort hn ?_
  have main : ∀ (m k : Nat) (g : HI), k + m = n → FL [(123, -1)] h g → g 123 = sI V (h 123) k → G l (D + 1) 0 0 mX12_sort (zz ζ) 2 [aP 97, aI k, aU] [] g (qV (zz ζ) QV) := by
    intro m
    induction m with
    | zero =>
      intro k g hk f e
      have : k = n := by omega
      subst this
      have g43 : g 97 43 = k := by rw [f.at 97 43 rfl]; exact e43
      exact b_X12_sort_2 hn ⟨by constructor <;> omega, by rw [g43]; constructor <;> omega, iteP (by rw [g43]; omega) (hq g f e)⟩
    | succ m ih =>
      intro k g hk f e
      have g43 : g 97 43 = n := by rw [f.at 97 43 rfl]; exact e43
      have tk := ht k (by omega) (by omega)
      refine b_X12_sort_2 hn ⟨by constructor <;> omega, by rw [g43]; constructor <;> omega, iteN (by rw [g43]; omega) ?_⟩
      have ins : ∀ (i : Nat) (g' : HI), i ≤ k → FL [(123, -1)] h g' → (∀ j : Int, 0 ≤ j → j < i → 0 ≤ g' 123 j ∧ g' 123 j < k) → insI V k i (g' 123) = sI V (h 123) (k + 1) → G l (D + 1) 0 0 mX12_sort (zz ζ) 12 [aP 97, aI k, aI i] [] g' (qV (zz ζ) QV) := by
        have fin : ∀ g' : HI, FL [(123, -1)] h g' → g' 123 = sI V (h 123) (k + 1) → G l (D + 1) 0 0 mX12_sort (zz ζ) 2 [aP 97, aI ((k : Int) + 1), aU] [] g' (qV (zz ζ) QV) := by
          intro g' f' e'
          have kk := ih (k + 1) g' (by omega) f' e'
          rw [show ((k + 1 : Nat) : Int) = (k : Int) + 1 by omega] at kk
          exact kk
        intro i
        induction i with
        | zero =>
          intro g' hi f' r' e'
          refine b_X12_sort_12 hn ⟨by decide, iteP (by decide) ⟨⟨by decide, by decide⟩, fin _ (f'.ua rfl) ?_⟩⟩
          rw [hu_fu, ← e']; rfl
        | succ i ihi =>
          intro g' hi f' r' e'
          have ri := r' i (by omega) (by omega)
          have ti := ht (g' 123 i) ri.1 (by omega)
          have a114 : g' 114 = h 114 := f'.c 114 rfl
          have a106 : g' 106 = h 106 := f'.c 106 rfl
          refine b_X12_sort_12 hn ⟨by constructor <;> omega, iteN (by omega) ?_⟩
          rw [show ((i + 1 : Nat) : Int) - 1 = (i : Int) by omega, a114, a106, ti.1, tk.1, ti.2.2.1, tk.2.2.1]
          refine ⟨⟨by omega, by omega⟩, ⟨by omega, by omega⟩, ti.2.1, ⟨by omega, by omega⟩, tk.2.1, ti.2.2.2, tk.2.2.2, iteI (fun q => ⟨⟨by omega, by omega⟩, fin _ (f'.ua rfl) ?_⟩) (fun q => ⟨⟨by omega, by omega⟩, ?_⟩)⟩
          · rw [hu_fu, ← e', insI_p q]; rfl
          · rw [show ((i + 1 : Nat) : Int) + (-1) = (i : Int) by omega]
            refine ihi _ (by omega) (f'.ua rfl) (fun j j0 j1 => ?_) ?_
            · rw [hu_fu, fu_n _ _ (by omega)]; exact r' j j0 (by omega)
            · rw [hu_fu, ← e', insI_n q]; rfl
      refine ins k g (Nat.le_refl _) f (fun j j0 j1 => ?_) ?_
      · rw [e]; exact sI_bd j j0 j1
      · rw [e]; rfl
  exact main n 0 h (by omega) FL.refl rfl
theorem s_strongCells (hn : 144 ≤ ζ.2.2.2.2) {n : Nat} (n60 : n ≤ 60) {v : Int → Int} (hv : ∀ j : Int, 0 ≤ j → j < n → (0 ≤ h 51 j ∧ h 51 j < 60) ∧ h 44 (h 51 j) = v j ∧ rg (v j)) (rH : rg H) (hq : Q (n - cLt (fun j => v j) n H) h) : RtI l (D + 1) mX11_strongCells (zz ζ) [aP 0, aI n, aI H] h Q := by
  refine e_X11_strongCells hn ?_
  have main : ∀ (m k : Nat) (x3 : Int), k + m = n → x3 = k - cLt (fun j => v j) k H → G l (D + 1) 0 0 mX11_strongCells (zz ζ) 5 [aP 0, aI n, aI H, aI x3, aI k] [] h (qI (zz ζ) Q) := by
    intro m
    induction m with
    | zero =>
      intro k x3 hk e
      have : k = n := by omega
      subst this
      refine b_X11_strongCells_5 hn ⟨by constructor <;> omega, by constructor <;> omega, iteP (by omega) ?_⟩
      rw [e]; exact hq
    | succ m ih =>
      intro k x3 hk e
      have vk := hv k (by omega) (by omega)
      have step : cLt (fun j => v j) (k + 1) H = cLt (fun j => v j) k H + (if v k < H then 1 else 0) := by
        show cN _ k + (if decide (v k < H) = true then 1 else 0) = _
        simp only [decide_eq_true_eq]; rfl
      refine b_X11_strongCells_5 hn ⟨by constructor <;> omega, by constructor <;> omega, iteN (by omega) ⟨⟨by omega, by omega⟩, vk.1, ?_⟩⟩
      rw [vk.2.1]
      refine ⟨vk.2.2, rH, iteI (fun q => ?_) (fun q => ?_)⟩
      · have kk := ih (k + 1) (x3 + 0) (by omega) (by rw [step, if_pos q, e]; omega)
        rw [show ((k + 1 : Nat) : Int) = (k : Int) + 1 by omega] at kk
        exact kk
      · have kk := ih (k + 1) (x3 + 1) (by omega) (by rw [step, if_neg q, e]; omega)
        rw [show ((k + 1 : Nat) : Int) = (k : Int) + 1 by omega] at kk
        exact kk
  exact main n 0 0 (by omega) (by simp [cLt, cN])
theorem s_strongPairs (hn : 144 ≤ ζ.2.2.2.2) {n : Nat} (n1 : 1 ≤ n) (n60 : n ≤ 60) {p V : Int → Int} (hp : ∀ j : Int, 0 ≤ j → j < n → h 51 j = p j ∧ 0 ≤ p j ∧ p j < 60) (hV : ∀ c : Int, 0 ≤ c → c < 60 → h 44 c = V c ∧ 0 ≤ V c ∧ V c ≤ 10000) (rH : rg H) (hq : ∀ (h' : HI) (a : Int → Int), FL [(51, -1)] h h' → srt a n (cLt (fun j => V (p j)) n) → Q (prF a H n 0 (n - 1)) h') : RtI l (D + 2) mX11_strongPairs (zz ζ) [aP 0, aI n, aI H] h Q := by
  refine e_X11_strongPairs hn (s_sortPicked hn n1 n60 (p := p) (V := V) hp (fun c c0 c1 => ⟨(hV c c0 c1).1, by have := (hV c c0 c1).2; constructor <;> omega⟩) (fun g f hr s => ?_))
  have hV' : ∀ c : Int, 0 ≤ c → c < 60 → g 44 c = V c ∧ 0 ≤ V c ∧ V c ≤ 10000 := fun c c0 c1 => by rw [f.c 44 rfl]; exact hV c c0 c1
  have hq' := hq g _ f s
  generalize hP : prF (fun j => V (g 51 j)) H n 0 ((n : Int) - 1) = P at hq'
  have main : ∀ (k : Nat) (lo hi x3 : Int), 0 ≤ lo → hi < n → hi - lo ≤ k → x3 + prF (fun j => V (g 51 j)) H k lo hi = P → -1 ≤ hi → lo ≤ hi + 1 → G l (D + 2) 0 0 mX11_strongPairs (zz ζ) 15 [aP 0, aU, aI H, aI x3, aI hi, aI lo] [] g (qI (zz ζ) Q) := by
    intro k
    induction k with
    | zero =>
      intro lo hi x3 l0 h1 hk e hm lm
      refine b_X11_strongPairs_15 hn ⟨by constructor <;> omega, by constructor <;> omega, iteP (by omega) ?_⟩
      have : x3 = P := by rw [← e]; simp [prF]
      rw [this]; exact hq'
    | succ k ih =>
      intro lo hi x3 l0 h1 hk e hm lm
      unfold prF at e
      refine b_X11_strongPairs_15 hn ⟨by constructor <;> omega, by constructor <;> omega, iteI (fun q => ?_) (fun q => ?_)⟩
      · rw [if_pos q, Int.add_zero] at e
        rw [e]; exact hq'
      · rw [if_neg q] at e
        have r1 := hr lo l0 (by omega)
        have r2 := hr hi (by omega) h1
        have v1 := hV' _ r1.1 r1.2
        have v2 := hV' _ r2.1 r2.2
        rw [v1.1, v2.1]
        refine ⟨⟨by omega, by omega⟩, r1, ⟨by omega, by omega⟩, r2, by constructor <;> omega, rH, iteI (fun y => ?_) (fun y => ?_)⟩
        · rw [if_pos y] at e
          exact ih (lo + 1) hi x3 (by omega) h1 (by omega) e hm (by omega)
        · rw [if_neg y] at e
          exact ih (lo + 1) (hi + (-1)) (x3 + 1) (by omega) (by omega) (by omega) (by rw [show hi + (-1) = hi - 1 by omega]; omega) (by omega) (by omega)
  exact main n 0 (n - 1) 0 (by omega) (by omega) (by omega) (by rw [← hP]; omega) (by omega) (by omega)
/-- the reference's count, on values sorted the greatest first -/
theorem s_mmost (hn : 144 ≤ ζ.2.2.2.2) {n : Nat} (n1 : 1 ≤ n) (n60 : n ≤ 60) {b : Int → Int} (hb : ∀ j : Int, 0 ≤ j → j < n → (0 ≤ h 123 j ∧ h 123 j < 60) ∧ (0 ≤ h 114 (h 123 j) ∧ h 114 (h 123 j) < 60) ∧ h 106 (h 114 (h 123 j)) = b j ∧ 0 ≤ b j ∧ b j ≤ 10000) {s p : Int} (hs : 1 ≤ s ∧ s ≤ 20) (hp : p = 1 ∨ p = 2) (rH : rg H) {P : Int} (hP : p = 2 → P = prF (fun k => b ((n : Int) - 1 - k)) H n 0 (n - 1)) (hP1 : p = 1 → ∃ c : Int, 0 ≤ c ∧ c ≤ n ∧ P = c ∧ ∀ j : Int, 0 ≤ j → j < n → (b j < H ↔ c ≤ j)) (hq : 0 ≤ P → P ≤ n → Q (P.tdiv s) h) : G l (D + 1) 0 0 mX12_most (zz ζ) 72 [aP 97, aI s, aI p, aI H, aI 0, aI 0, aI ((n : Int) - 1), aU, aU] [] h (qI (zz ζ) Q) := by
  have rs : rg s := by constructor <;> omega
  rcases hp with rfl | rfl
  · obtain ⟨c, c0, c1, hc, hj⟩ := hP1 rfl
    subst hc
    have hq := hq c0 c1
    have main : ∀ (k : Nat) (hi lo : Int), 0 ≤ hi → hi ≤ P → P ≤ lo + 1 → lo < n → lo + 1 - hi ≤ k → G l (D + 1) 0 0 mX12_most (zz ζ) 72 [aP 97, aI s, aI 1, aI H, aI hi, aI hi, aI lo, aU, aU] [] h (qI (zz ζ) Q) := by
      intro k
      induction k with
      | zero =>
        intro hi lo h0 h1 h2 h3 h4
        refine b_X12_most_72 hn ⟨by decide, iteN (by decide) ⟨by constructor <;> omega, by constructor <;> omega, iteP (by omega) ⟨by constructor <;> omega, rs, by omega, ?_⟩⟩⟩
        rw [show hi = P by omega]; exact hq
      | succ k ih =>
        intro hi lo h0 h1 h2 h3 h4
        refine b_X12_most_72 hn ⟨by decide, iteN (by decide) ⟨by constructor <;> omega, by constructor <;> omega, iteI (fun y => ⟨by constructor <;> omega, rs, by omega, ?_⟩) (fun y => ?_)⟩⟩
        · rw [show hi = P by omega]; exact hq
        · have bh := hb hi h0 (by omega)
          have jh := hj hi h0 (by omega)
          refine b_X12_most_94 hn ⟨⟨by omega, by omega⟩, bh.1, bh.2.1, by decide, iteN (by decide) ?_⟩
          rw [bh.2.2.1]
          refine ⟨by constructor <;> omega, rH, iteI (fun z => ?_) (fun z => ?_)⟩
          · refine b_X12_most_165 hn ⟨by decide, iteP rfl ⟨by decide, iteN (by decide) (iteN (by decide) ?_)⟩⟩
            have := jh.mp (by omega)
            have kk := ih hi (lo - 1) h0 h1 (by omega) (by omega) (by omega)
            rw [show hi + 0 = hi by omega]
            exact kk
          · refine b_X12_most_165 hn ⟨by decide, iteN (by decide) ⟨by decide, iteN (by decide) (iteP (by decide) ?_)⟩⟩
            have : ¬ P ≤ hi := fun y => by have := jh.mpr y; omega
            have kk := ih (hi + 1) lo (by omega) (by omega) h2 h3 (by omega)
            rw [show lo - 0 = lo by omega]
            exact kk
    exact main n 0 (n - 1) (by omega) (by omega) (by omega) (by omega) (by omega)
  · have eP := hP rfl
    have pb := prF_bd (a := fun k => b ((n : Int) - 1 - k)) (h := H) n 0 (n - 1)
    rw [← eP] at pb
    have hq := hq pb.1 (by omega)
    have main : ∀ (k : Nat) (hi lo x4 : Int), 0 ≤ hi → lo < n → lo - hi ≤ k → hi ≤ lo + 1 → 0 ≤ x4 → x4 + prF (fun k => b ((n : Int) - 1 - k)) H k ((n : Int) - 1 - lo) ((n : Int) - 1 - hi) = P → G l (D + 1) 0 0 mX12_most (zz ζ) 72 [aP 97, aI s, aI 2, aI H, aI x4, aI hi, aI lo, aU, aU] [] h (qI (zz ζ) Q) := by
      intro k
      induction k with
      | zero =>
        intro hi lo x4 h0 h1 h2 h3 h4 e
        have ex : x4 = P := by rw [← e]; simp [prF]
        refine b_X12_most_72 hn ⟨by decide, iteP (by decide) ⟨by constructor <;> omega, by constructor <;> omega, iteP (by omega) ⟨by constructor <;> omega, rs, by omega, ?_⟩⟩⟩
        rw [ex]; exact hq
      | succ k ih =>
        intro hi lo x4 h0 h1 h2 h3 h4 e
        unfold prF at e
        refine b_X12_most_72 hn ⟨by decide, iteP (by decide) ⟨by constructor <;> omega, by constructor <;> omega, iteI (fun y => ?_) (fun y => ?_)⟩⟩
        · rw [if_pos (by omega), Int.add_zero] at e
          refine ⟨by constructor <;> omega, rs, by omega, ?_⟩
          rw [e]; exact hq
        · rw [if_neg (by omega)] at e
          have bh := hb hi h0 (by omega)
          have bl := hb lo (by omega) h1
          rw [show (n : Int) - 1 - ((n : Int) - 1 - lo) = lo by omega, show (n : Int) - 1 - ((n : Int) - 1 - hi) = hi by omega] at e
          refine b_X12_most_94 hn ⟨⟨by omega, by omega⟩, bh.1, bh.2.1, by decide, iteP (by decide) ⟨⟨by omega, by omega⟩, bl.1, bl.2.1, ?_⟩⟩
          rw [bh.2.2.1, bl.2.2.1]
          refine ⟨by constructor <;> omega, rH, iteI (fun z => ?_) (fun z => ?_)⟩
          · rw [if_pos (by omega)] at e
            refine b_X12_most_165 hn ⟨by decide, iteP rfl ⟨by decide, iteP rfl ?_⟩⟩
            refine ih (hi + 0) (lo - 1) (x4 + 0) (by omega) (by omega) (by omega) (by omega) (by omega) ?_
            rw [show (n : Int) - 1 - (lo - 1) = (n : Int) - 1 - lo + 1 by omega, show hi + 0 = hi by omega]
            omega
          · rw [if_neg (by omega)] at e
            refine b_X12_most_165 hn ⟨by decide, iteN (by decide) ⟨by decide, iteP rfl ?_⟩⟩
            refine ih (hi + 1) (lo - 1) (x4 + 1) (by omega) (by omega) (by omega) (by omega) (by omega) ?_
            rw [show (n : Int) - 1 - (lo - 1) = (n : Int) - 1 - lo + 1 by omega, show (n : Int) - 1 - (hi + 1) = (n : Int) - 1 - hi - 1 by omega]
            omega
    refine main n 0 (n - 1) 0 (by omega) (by omega) (by omega) (by omega) (by omega) ?_
    rw [eP, show (n : Int) - 1 - ((n : Int) - 1) = 0 by omega, show (n : Int) - 1 - 0 = (n : Int) - 1 by omega]
    omega
end MOST2
