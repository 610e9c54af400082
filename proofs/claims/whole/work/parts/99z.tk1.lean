/-! tokens, pure -/
abbrev isAl (c : Int) : Prop := 97 ≤ c ∧ c ≤ 122
abbrev isDg (c : Int) : Prop := 48 ≤ c ∧ c ≤ 57
abbrev isSp (c : Int) : Prop := c = 32 ∨ c = 10
abbrev isSg (c : Int) : Prop := c = 59 ∨ c = 43 ∨ c = 45 ∨ c = 40 ∨ c = 41 ∨ (60 ≤ c ∧ c ≤ 62)
/-- behind spaces -/
def skF (b : Int → Int) (n : Nat) : Nat → Nat → Nat
  | 0, p => p
  | f + 1, p => if p < n ∧ isSp (b p) then skF b n f (p + 1) else p
def skP (b : Int → Int) (n p : Nat) : Nat := skF b n (n - p) p
/-- behind letters and digits -/
def rnF (b : Int → Int) (n : Nat) : Nat → Nat → Nat
  | 0, p => p
  | f + 1, p => if p < n ∧ (isAl (b p) ∨ isDg (b p)) then rnF b n f (p + 1) else p
def rnP (b : Int → Int) (n p : Nat) : Nat := rnF b n (n - p) p
theorem skP_step {b : Int → Int} {n p : Nat} (h : p < n) (hs : isSp (b p)) : skP b n p = skP b n (p + 1) := by
  unfold skP
  rw [show n - p = (n - (p + 1)) + 1 by omega]
  show (if p < n ∧ isSp (b p) then skF b n (n - (p + 1)) (p + 1) else p) = _
  rw [if_pos ⟨h, hs⟩]
theorem skP_stop {b : Int → Int} {n p : Nat} (hs : n ≤ p ∨ ¬ isSp (b p)) : skP b n p = p := by
  unfold skP
  cases e : n - p with
  | zero => rfl
  | succ f =>
    show (if p < n ∧ isSp (b p) then skF b n f (p + 1) else p) = p
    rw [if_neg (fun q => by rcases hs with z | z; omega; exact z q.2)]
theorem rnP_step {b : Int → Int} {n p : Nat} (h : p < n) (hs : isAl (b p) ∨ isDg (b p)) : rnP b n p = rnP b n (p + 1) := by
  unfold rnP
  rw [show n - p = (n - (p + 1)) + 1 by omega]
  show (if p < n ∧ (isAl (b p) ∨ isDg (b p)) then rnF b n (n - (p + 1)) (p + 1) else p) = _
  rw [if_pos ⟨h, hs⟩]
theorem rnP_stop {b : Int → Int} {n p : Nat} (hs : n ≤ p ∨ ¬ (isAl (b p) ∨ isDg (b p))) : rnP b n p = p := by
  unfold rnP
  cases e : n - p with
  | zero => rfl
  | succ f =>
    show (if p < n ∧ (isAl (b p) ∨ isDg (b p)) then rnF b n f (p + 1) else p) = p
    rw [if_neg (fun q => by rcases hs with z | z; omega; exact z q.2)]
theorem skP_bd {b : Int → Int} {n : Nat} : ∀ {f p : Nat}, n - p ≤ f → p ≤ n → p ≤ skP b n p ∧ skP b n p ≤ n
  | 0, p, hf, hp => by rw [skP_stop (Or.inl (by omega))]; omega
  | f + 1, p, hf, hp => by
    by_cases c : p < n ∧ isSp (b p)
    · rw [skP_step c.1 c.2]
      have := skP_bd (b := b) (n := n) (f := f) (p := p + 1) (by omega) (by omega)
      omega
    · rw [skP_stop (by by_cases z : p < n; exact Or.inr (fun q => c ⟨z, q⟩); exact Or.inl (by omega))]; omega
theorem rnP_bd {b : Int → Int} {n : Nat} : ∀ {f p : Nat}, n - p ≤ f → p ≤ n → (p ≤ rnP b n p ∧ rnP b n p ≤ n) ∧ (∀ j : Nat, p ≤ j → j < rnP b n p → isAl (b j) ∨ isDg (b j)) ∧ (rnP b n p = n ∨ ¬ (isAl (b (rnP b n p)) ∨ isDg (b (rnP b n p))))
  | 0, p, hf, hp => by
    rw [rnP_stop (Or.inl (by omega))]
    exact ⟨by omega, fun j h1 h2 => by omega, Or.inl (by omega)⟩
  | f + 1, p, hf, hp => by
    by_cases c : p < n ∧ (isAl (b p) ∨ isDg (b p))
    · rw [rnP_step c.1 c.2]
      have ih := rnP_bd (b := b) (n := n) (f := f) (p := p + 1) (by omega) (by omega)
      refine ⟨by omega, fun j h1 h2 => ?_, ih.2.2⟩
      by_cases e : j = p
      · rw [e]; exact c.2
      · exact ih.2.1 j (by omega) h2
    · have st : n ≤ p ∨ ¬ (isAl (b p) ∨ isDg (b p)) := by
        by_cases z : p < n
        · exact Or.inr (fun q => c ⟨z, q⟩)
        · exact Or.inl (by omega)
      rw [rnP_stop st]
      refine ⟨by omega, fun j h1 h2 => by omega, ?_⟩
      rcases st with z | z
      · exact Or.inl (by omega)
      · exact Or.inr z
/-- of k bytes from q on: how many letters; the letters, the last first; the class's value -/
def lcn (b : Int → Int) (q : Nat) : Nat → Nat
  | 0 => 0
  | k + 1 => lcn b q k + (if isAl (b ((q + k : Nat) : Int)) then 1 else 0)
def lrv (b : Int → Int) (q : Nat) : Nat → List Int
  | 0 => []
  | k + 1 => (b ((q + k : Nat) : Int) - 96) :: lrv b q k
def cvl (b : Int → Int) (q : Nat) : Nat → Int
  | 0 => 0
  | k + 1 => if isDg (b ((q + k : Nat) : Int)) then cvl b q k * 10 + b ((q + k : Nat) : Int) - 48 else cvl b q k * 32 + b ((q + k : Nat) : Int) - 97 + 1
theorem lcn_le {b : Int → Int} {q : Nat} : ∀ k : Nat, lcn b q k ≤ k
  | 0 => Nat.le_refl _
  | k + 1 => by
    have := lcn_le (b := b) (q := q) k
    show lcn b q k + (if isAl (b ((q + k : Nat) : Int)) then 1 else 0) ≤ k + 1
    split <;> omega
theorem lcn_all {b : Int → Int} {q : Nat} : ∀ {k : Nat}, lcn b q k = k ↔ ∀ j : Nat, j < k → isAl (b ((q + j : Nat) : Int))
  | 0 => ⟨fun _ j hj => by omega, fun _ => rfl⟩
  | k + 1 => by
    have ih := lcn_all (b := b) (q := q) (k := k)
    have le := lcn_le (b := b) (q := q) k
    have e : lcn b q (k + 1) = lcn b q k + (if isAl (b ((q + k : Nat) : Int)) then 1 else 0) := rfl
    constructor
    · intro h j hj
      rw [e] at h
      have c : isAl (b ((q + k : Nat) : Int)) := by
        apply Classical.byContradiction
        intro z
        rw [if_neg z] at h
        omega
      rw [if_pos c] at h
      by_cases z : j = k
      · rw [z]; exact c
      · exact ih.mp (by omega) j (by omega)
    · intro h
      rw [e, if_pos (h k (by omega)), ih.mpr (fun j hj => h j (by omega))]
theorem lcn_none {b : Int → Int} {q : Nat} : ∀ {k : Nat}, lcn b q k = 0 ↔ ∀ j : Nat, j < k → ¬ isAl (b ((q + j : Nat) : Int))
  | 0 => ⟨fun _ j hj => by omega, fun _ => rfl⟩
  | k + 1 => by
    have ih := lcn_none (b := b) (q := q) (k := k)
    have e : lcn b q (k + 1) = lcn b q k + (if isAl (b ((q + k : Nat) : Int)) then 1 else 0) := rfl
    constructor
    · intro h j hj
      rw [e] at h
      have c : ¬ isAl (b ((q + k : Nat) : Int)) := by
        intro z
        rw [if_pos z] at h
        omega
      rw [if_neg c] at h
      by_cases z : j = k
      · rw [z]; exact c
      · exact ih.mp (by omega) j (by omega)
    · intro h
      rw [e, if_neg (h k (by omega)), ih.mpr (fun j hj => h j (by omega))]
theorem lrv_ok {b : Int → Int} {q : Nat} : ∀ {k : Nat}, (∀ j : Nat, j < k → isAl (b ((q + j : Nat) : Int))) → ((lrv b q k).length = k ∧ (∀ x ∈ lrv b q k, 1 ≤ x ∧ x ≤ 26)) ∧ cvl b q k = er (lrv b q k)
  | 0, _ => ⟨⟨rfl, fun x hx => by cases hx⟩, rfl⟩
  | k + 1, h => by
    have ih := lrv_ok (b := b) (q := q) (k := k) (fun j hj => h j (by omega))
    have c := h k (by omega)
    refine ⟨⟨?_, ?_⟩, ?_⟩
    · show (lrv b q k).length + 1 = k + 1
      rw [ih.1.1]
    · intro x hx
      rcases List.mem_cons.mp hx with e | hx
      · rw [e]; omega
      · exact ih.1.2 x hx
    · show (if isDg (b ((q + k : Nat) : Int)) then cvl b q k * 10 + b ((q + k : Nat) : Int) - 48 else cvl b q k * 32 + b ((q + k : Nat) : Int) - 97 + 1) = er (lrv b q k) * 32 + (b ((q + k : Nat) : Int) - 96)
      rw [if_neg (by omega), ih.2]
      omega
theorem cvl_bd {b : Int → Int} {q : Nat} (h : ∀ j : Nat, j < 3 → isDg (b ((q + j : Nat) : Int)) ∨ True) : ∀ {k : Nat}, k ≤ 3 → (∀ j : Nat, j < k → isDg (b ((q + j : Nat) : Int))) → 0 ≤ cvl b q k ∧ cvl b q k < (10 ^ k : Nat)
  | 0, _, _ => by show (0 : Int) ≤ 0 ∧ (0 : Int) < ((1 : Nat) : Int); omega
  | k + 1, hk, hd => by
    have ih := cvl_bd (b := b) (q := q) h (k := k) (by omega) (fun j hj => hd j (by omega))
    have c := hd k (by omega)
    have e : cvl b q (k + 1) = cvl b q k * 10 + b ((q + k : Nat) : Int) - 48 := if_pos c
    rw [e, Nat.pow_succ]
    omega
theorem er_lt : ∀ {L : List Int}, (∀ x ∈ L, 1 ≤ x ∧ x ≤ 26) → er L < (32 ^ L.length : Nat)
  | [], _ => by show (0 : Int) < ((1 : Nat) : Int); omega
  | x :: t, h => by
    have ih := er_lt (L := t) (fun y hy => h y (List.mem_cons_of_mem _ hy))
    have c := h x List.mem_cons_self
    show er t * 32 + x < ((32 ^ (t.length + 1) : Nat) : Int)
    rw [Nat.pow_succ]
    omega
/-- a token: its sort as the class tells it, its place, the next place, a number's value, a word's letters -/
abbrev TKn : Type := Int × Int × Nat × Int × List Int
def tkR (b : Int → Int) (q e : Nat) : TKn := if e = q then (if isSg (b q) then b q else 1, q, q + 1, 0, []) else if lcn b q (e - q) = e - q then (if e - q ≤ 6 then 2 else 1, q, e, 0, lrv b q (e - q)) else if lcn b q (e - q) = 0 then (if e - q ≤ 3 then 3 else 1, q, e, cvl b q (e - q), []) else (1, q, e, 0, [])
def tkQ (b : Int → Int) (n m q : Nat) : TKn := if m < n ∧ m ≤ q then (1, m, q, 0, []) else if n ≤ q then (0, n, q, 0, []) else tkR b q (rnP b n q)
def tok (b : Int → Int) (n m p : Nat) : TKn := tkQ b n m (skP b n p)
def TKok (t : TKn) : Prop := (t.1 = 0 ∨ t.1 = 1 ∨ t.1 = 2 ∨ t.1 = 3 ∨ isSg t.1) ∧ (0 ≤ t.2.1 ∧ t.2.1 ≤ 540) ∧ t.2.2.1 ≤ 540 ∧ (t.1 = 3 → 0 ≤ t.2.2.2.1 ∧ t.2.2.2.1 ≤ 999) ∧ (t.1 = 2 → (1 ≤ t.2.2.2.2.length ∧ t.2.2.2.2.length ≤ 6) ∧ ∀ x ∈ t.2.2.2.2, 1 ≤ x ∧ x ≤ 26)
theorem tkR_ok {b : Int → Int} {q e n : Nat} (hq : q < n) (n540 : n ≤ 540) (he : q ≤ e ∧ e ≤ n) (hr : ∀ j : Nat, q ≤ j → j < e → isAl (b j) ∨ isDg (b j)) : TKok (tkR b q e) ∧ q < (tkR b q e).2.2.1 ∧ (tkR b q e).2.2.1 ≤ n := by
  unfold tkR
  by_cases c1 : e = q
  · rw [if_pos c1]
    refine ⟨⟨?_, ⟨by show (0 : Int) ≤ q; omega, by show (q : Int) ≤ 540; omega⟩, by show q + 1 ≤ 540; omega, fun z => ?_, fun z => ?_⟩, by show q < q + 1; omega, by show q + 1 ≤ n; omega⟩
    · show (if isSg (b q) then b q else 1) = 0 ∨ _ ∨ _ ∨ _ ∨ isSg (if isSg (b q) then b q else 1)
      by_cases s : isSg (b q)
      · rw [if_pos s]; exact Or.inr (Or.inr (Or.inr (Or.inr s)))
      · rw [if_neg s]; exact Or.inr (Or.inl rfl)
    · exfalso
      have z' : (if isSg (b q) then b q else 1) = 3 := z
      by_cases s : isSg (b q)
      · rw [if_pos s] at z'; omega
      · rw [if_neg s] at z'; omega
    · exfalso
      have z' : (if isSg (b q) then b q else 1) = 2 := z
      by_cases s : isSg (b q)
      · rw [if_pos s] at z'; omega
      · rw [if_neg s] at z'; omega
  · rw [if_neg c1]
    by_cases c2 : lcn b q (e - q) = e - q
    · rw [if_pos c2]
      have ok := lrv_ok (lcn_all.mp c2)
      refine ⟨⟨?_, ⟨by show (0 : Int) ≤ q; omega, by show (q : Int) ≤ 540; omega⟩, by show e ≤ 540; omega, fun z => ?_, fun z => ?_⟩, by show q < e; omega, by show e ≤ n; omega⟩
      · show (if e - q ≤ 6 then (2 : Int) else 1) = 0 ∨ (if e - q ≤ 6 then (2 : Int) else 1) = 1 ∨ (if e - q ≤ 6 then (2 : Int) else 1) = 2 ∨ _
        split
        · exact Or.inr (Or.inr (Or.inl rfl))
        · exact Or.inr (Or.inl rfl)
      · have z' : (if e - q ≤ 6 then (2 : Int) else 1) = 3 := z
        split at z' <;> omega
      · have z' : (if e - q ≤ 6 then (2 : Int) else 1) = 2 := z
        have : e - q ≤ 6 := by
          apply Classical.byContradiction
          intro y
          rw [if_neg y] at z'
          omega
        exact ⟨⟨by show 1 ≤ (lrv b q (e - q)).length; rw [ok.1.1]; omega, by show (lrv b q (e - q)).length ≤ 6; rw [ok.1.1]; omega⟩, ok.1.2⟩
    · rw [if_neg c2]
      by_cases c3 : lcn b q (e - q) = 0
      · rw [if_pos c3]
        refine ⟨⟨?_, ⟨by show (0 : Int) ≤ q; omega, by show (q : Int) ≤ 540; omega⟩, by show e ≤ 540; omega, fun z => ?_, fun z => ?_⟩, by show q < e; omega, by show e ≤ n; omega⟩
        · show (if e - q ≤ 3 then (3 : Int) else 1) = 0 ∨ (if e - q ≤ 3 then (3 : Int) else 1) = 1 ∨ (if e - q ≤ 3 then (3 : Int) else 1) = 2 ∨ (if e - q ≤ 3 then (3 : Int) else 1) = 3 ∨ _
          split
          · exact Or.inr (Or.inr (Or.inr (Or.inl rfl)))
          · exact Or.inr (Or.inl rfl)
        · have z' : (if e - q ≤ 3 then (3 : Int) else 1) = 3 := z
          have le3 : e - q ≤ 3 := by
            apply Classical.byContradiction
            intro y
            rw [if_neg y] at z'
            omega
          have na := lcn_none.mp c3
          have dg : ∀ j : Nat, j < e - q → isDg (b ((q + j : Nat) : Int)) := fun j hj => by
            have := hr (q + j) (by omega) (by omega)
            exact this.resolve_left (na j hj)
          have bd := cvl_bd (b := b) (q := q) (fun _ _ => Or.inr trivial) le3 dg
          have pw : 10 ^ (e - q) ≤ 1000 := by
            have : e - q = 0 ∨ e - q = 1 ∨ e - q = 2 ∨ e - q = 3 := by omega
            rcases this with y | y | y | y <;> rw [y] <;> decide
          show 0 ≤ cvl b q (e - q) ∧ cvl b q (e - q) ≤ 999
          omega
        · have z' : (if e - q ≤ 3 then (3 : Int) else 1) = 2 := z
          split at z' <;> omega
      · rw [if_neg c3]
        refine ⟨⟨Or.inr (Or.inl rfl), ⟨by show (0 : Int) ≤ q; omega, by show (q : Int) ≤ 540; omega⟩, by show e ≤ 540; omega, fun z => ?_, fun z => ?_⟩, by show q < e; omega, by show e ≤ n; omega⟩
        · have : (1 : Int) = 3 := z
          omega
        · have : (1 : Int) = 2 := z
          omega
theorem tok_ok {b : Int → Int} {n m p : Nat} (n540 : n ≤ 540) (m540 : m ≤ 540) (hp : p ≤ n) : TKok (tok b n m p) ∧ (p ≤ (tok b n m p).2.2.1 ∧ (tok b n m p).2.2.1 ≤ n) ∧ ((tok b n m p).1 ≠ 0 → (tok b n m p).1 ≠ 1 → p < (tok b n m p).2.2.1) := by
  have sb := skP_bd (b := b) (n := n) (f := n - p) (p := p) (Nat.le_refl _) hp
  unfold tok tkQ
  by_cases c1 : m < n ∧ m ≤ skP b n p
  · rw [if_pos c1]
    refine ⟨⟨Or.inr (Or.inl rfl), ⟨by show (0 : Int) ≤ m; omega, by show (m : Int) ≤ 540; omega⟩, by show skP b n p ≤ 540; omega, fun z => ?_, fun z => ?_⟩, ⟨by show p ≤ skP b n p; omega, by show skP b n p ≤ n; omega⟩, fun _ z => absurd rfl z⟩
    · have : (1 : Int) = 3 := z
      omega
    · have : (1 : Int) = 2 := z
      omega
  · rw [if_neg c1]
    by_cases c2 : n ≤ skP b n p
    · rw [if_pos c2]
      refine ⟨⟨Or.inl rfl, ⟨by show (0 : Int) ≤ n; omega, by show (n : Int) ≤ 540; omega⟩, by show skP b n p ≤ 540; omega, fun z => ?_, fun z => ?_⟩, ⟨by show p ≤ skP b n p; omega, by show skP b n p ≤ n; omega⟩, fun z _ => absurd rfl z⟩
      · have : (0 : Int) = 3 := z
        omega
      · have : (0 : Int) = 2 := z
        omega
    · rw [if_neg c2]
      have rb := rnP_bd (b := b) (n := n) (f := n - skP b n p) (p := skP b n p) (Nat.le_refl _) sb.2
      have r := tkR_ok (b := b) (q := skP b n p) (e := rnP b n (skP b n p)) (n := n) (by omega) n540 rb.1 rb.2.1
      exact ⟨r.1, ⟨by omega, by omega⟩, fun _ _ => by omega⟩
