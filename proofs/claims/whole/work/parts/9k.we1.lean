/-! WELDS: the reading, pure -/
abbrev EE : Type := Int × Int
def EK (e : EE) : Prop := (1 ≤ e.1 ∧ e.1 ≤ 4) ∧ 0 ≤ e.2 ∧ e.2 ≤ 540
def sbd {α β : Type} (r : Sum EE α) (f : α → Sum EE β) : Sum EE β := match r with
  | .inl e => .inl e
  | .inr a => f a
def SP {α : Type} (r : Sum EE α) (P : α → Prop) : Prop := match r with
  | .inl e => EK e
  | .inr a => P a
theorem SP_bd {α β : Type} {r : Sum EE α} {f : α → Sum EE β} {P : α → Prop} {P' : β → Prop} (a : SP r P) (h : ∀ x, P x → SP (f x) P') : SP (sbd r f) P' := by
  cases r with
  | inl e => exact a
  | inr x => exact h x a
theorem SP.imp {α : Type} {r : Sum EE α} {P P' : α → Prop} (a : SP r P) (h : ∀ x, P x → P' x) : SP r P' := by
  cases r with
  | inl e => exact a
  | inr x => exact h x a
def fuI (f : Nat → Int) (k : Nat) (v : Int) : Nat → Int := fun j => if j = k then v else f j
abbrev NS : Type := Nat × (Nat → Int) × (Nat → Int) × (Nat → Int)
abbrev WS : Type := Nat × (Nat → List Int) × (Nat → Int) × (Nat → Int) × (Nat → Int) × NS × Nat
abbrev isNm (t : TKn) : Prop := t.1 = 2 ∧ wdO (er t.2.2.2.2) = -1
def wNode (b : Int → Int) (n p : Nat) : Sum EE (Int × Nat) := if (tok b n 400 p).1 = 3 then (if (tok b n 400 p).2.2.2.1 < 0 ∨ 59 < (tok b n 400 p).2.2.2.1 then .inl (2, (tok b n 400 p).2.1) else (if (tok b n 400 (tok b n 400 p).2.2.1).1 = 43 then .inr (2 * (tok b n 400 p).2.2.2.1 + 1, (tok b n 400 (tok b n 400 p).2.2.1).2.2.1) else (if (tok b n 400 (tok b n 400 p).2.2.1).1 = 45 then .inr (2 * (tok b n 400 p).2.2.2.1, (tok b n 400 (tok b n 400 p).2.2.1).2.2.1) else .inl (1, (tok b n 400 (tok b n 400 p).2.2.1).2.1)))) else .inl (1, (tok b n 400 p).2.1)
def wFd (nm : Nat → List Int) (L : List Int) : Nat → Nat → Int
  | 0, _ => -1
  | f + 1, i => if nm i = L then (i : Int) else wFd nm L f (i + 1)
def wAfter (b : Int → Int) (n k : Nat) (nm : Nat → List Int) : Nat → Int → Nat → Sum EE (Int × Nat)
  | 0, acc, p => .inr (acc, p)
  | f + 1, acc, p => if hWord (tok b n 400 p) = 21 then (if isNm (tok b n 400 (tok b n 400 p).2.2.1) then (if wFd nm (tok b n 400 (tok b n 400 p).2.2.1).2.2.2.2 k 0 < 0 then .inl (3, (tok b n 400 (tok b n 400 p).2.2.1).2.1) else wAfter b n k nm f (bor acc (bshl 1 (wFd nm (tok b n 400 (tok b n 400 p).2.2.1).2.2.2.2 k 0))) (tok b n 400 (tok b n 400 p).2.2.1).2.2.1) else .inl (1, (tok b n 400 (tok b n 400 p).2.2.1).2.1)) else .inr (acc, p)
def nAdd (S : NS) (k : Nat) (x y : Int) : NS := (S.1 + 1, fuI S.2.1 S.1 k, fuI S.2.2.1 S.1 x, fuI S.2.2.2 S.1 y)
def wNear (b : Int → Int) (n k : Nat) : Nat → NS → Nat → Sum EE (NS × Nat)
  | 0, S, p => .inr (S, p)
  | f + 1, S, p => if hWord (tok b n 400 p) = 22 then sbd (wNode b n (tok b n 400 p).2.2.1) (fun r => sbd (wNode b n r.2) (fun q => wNear b n k f (nAdd S k r.1 q.1) q.2)) else .inr (S, p)
def wSign (b : Int → Int) (n p : Nat) : Sum EE Nat := if (tok b n 400 p).1 = 59 then .inr (tok b n 400 p).2.2.1 else .inl (1, (tok b n 400 p).2.1)
def wStrip2 (b : Int → Int) (n : Nat) (L : List Int) : WS → Sum EE WS
  | (k, nm, A, B, F, S, p) => sbd (wNode b n p) (fun r1 => sbd (wNode b n r1.2) (fun r2 => sbd (wAfter b n k nm 540 0 r2.2) (fun r3 => sbd (wNear b n k (64 - S.1) S r3.2) (fun r4 => sbd (wSign b n r4.2) (fun p5 => .inr (k + 1, fuN nm k L, fuI A k r1.1, fuI B k r2.1, fuI F k r3.1, r4.1, p5))))))
def wStrip (b : Int → Int) (n : Nat) : WS → Sum EE WS
  | (k, nm, A, B, F, S, p) => if hWord (tok b n 400 p) = 20 then (if 12 ≤ k then .inl (4, (tok b n 400 p).2.1) else (if isNm (tok b n 400 (tok b n 400 p).2.2.1) then (if 0 ≤ wFd nm (tok b n 400 (tok b n 400 p).2.2.1).2.2.2.2 k 0 then .inl (3, (tok b n 400 (tok b n 400 p).2.2.1).2.1) else wStrip2 b n (tok b n 400 (tok b n 400 p).2.2.1).2.2.2.2 (k, nm, A, B, F, S, (tok b n 400 (tok b n 400 p).2.2.1).2.2.1)) else .inl (1, (tok b n 400 (tok b n 400 p).2.2.1).2.1))) else .inl (1, (tok b n 400 p).2.1)
def wAll (b : Int → Int) (n : Nat) : Nat → WS → Sum EE WS
  | 0, s => .inr s
  | f + 1, s => if (tok b n 400 s.2.2.2.2.2.2).1 = 0 then .inr s else sbd (wStrip b n s) (wAll b n f)
def nd (x : Int) : Prop := 0 ≤ x ∧ x < 120
def NO (K : Nat) (S : NS) (p : Nat) : Prop := S.1 ≤ 64 ∧ 8 * S.1 ≤ p ∧ ∀ j, j < S.1 → (0 ≤ S.2.1 j ∧ S.2.1 j < K) ∧ nd (S.2.2.1 j) ∧ nd (S.2.2.2 j)
def WO (n : Nat) : WS → Prop
  | (k, nm, A, B, F, S, p) => p ≤ n ∧ k ≤ 12 ∧ (∀ j, j < k → okW (nm j) ∧ nd (A j) ∧ nd (B j) ∧ 0 ≤ F j ∧ F j < 4096) ∧ NO k S p
section WE1
variable {b : Int → Int} {n k p : Nat} {nm : Nat → List Int} {A B F : Nat → Int} {S : NS}
theorem tk_ek (n540 : n ≤ 540) (hp : p ≤ n) {k : Int} (k1 : 1 ≤ k ∧ k ≤ 4) : EK (k, (tok b n 400 p).2.1) := by
  have := tok_ok (b := b) (m := 400) n540 (by omega) hp
  exact ⟨k1, this.1.2.1⟩
theorem wNode_ok (n540 : n ≤ 540) (hp : p ≤ n) : SP (wNode b n p) (fun r => nd r.1 ∧ p + 2 ≤ r.2 ∧ r.2 ≤ n) := by
  have tk := tok_ok (b := b) (m := 400) n540 (by omega) hp
  have tk1 := tok_ok (b := b) (m := 400) n540 (by omega) tk.2.1.2
  unfold wNode
  by_cases c : (tok b n 400 p).1 = 3
  · rw [if_pos c]
    have p1 := tk.2.2 (by omega) (by omega)
    by_cases c1 : (tok b n 400 p).2.2.2.1 < 0 ∨ 59 < (tok b n 400 p).2.2.2.1
    · rw [if_pos c1]; exact tk_ek n540 hp (by decide)
    · rw [if_neg c1]
      by_cases c2 : (tok b n 400 (tok b n 400 p).2.2.1).1 = 43
      · rw [if_pos c2]
        have p2 := tk1.2.2 (by omega) (by omega)
        exact ⟨⟨by show (0 : Int) ≤ 2 * _ + 1; omega, by show 2 * _ + 1 < (120 : Int); omega⟩, by show p + 2 ≤ (tok b n 400 (tok b n 400 p).2.2.1).2.2.1; omega, tk1.2.1.2⟩
      · rw [if_neg c2]
        by_cases c3 : (tok b n 400 (tok b n 400 p).2.2.1).1 = 45
        · rw [if_pos c3]
          have p2 := tk1.2.2 (by omega) (by omega)
          exact ⟨⟨by show (0 : Int) ≤ 2 * _; omega, by show 2 * _ < (120 : Int); omega⟩, by show p + 2 ≤ (tok b n 400 (tok b n 400 p).2.2.1).2.2.1; omega, tk1.2.1.2⟩
        · rw [if_neg c3]; exact tk_ek n540 tk.2.1.2 (by decide)
  · rw [if_neg c]; exact tk_ek n540 hp (by decide)
theorem wFd_bd {L : List Int} : ∀ {f i : Nat}, wFd nm L f i = -1 ∨ ((i : Int) ≤ wFd nm L f i ∧ wFd nm L f i < i + f)
  | 0, i => Or.inl rfl
  | f + 1, i => by
    rw [wFd]
    by_cases c : nm i = L
    · rw [if_pos c]; exact Or.inr ⟨by omega, by omega⟩
    · rw [if_neg c]
      have := wFd_bd (L := L) (f := f) (i := i + 1)
      omega
theorem bor12 {x : Int} (h0 : 0 ≤ x) (h1 : x < 4096) {j : Nat} (hj : j < 12) : 0 ≤ bor x (bshl 1 j) ∧ bor x (bshl 1 j) < 4096 := by
  obtain ⟨a, rfl⟩ := Int.eq_ofNat_of_zero_le h0
  have pw : 2 ^ j < 4096 := by
    have : ∀ w : Nat, w < 12 → 2 ^ w < 4096 := by decide
    exact this j hj
  rw [bshl_1 j (by omega), bor_nat (by omega) (by omega)]
  have := Nat.or_lt_two_pow (n := 12) (x := a) (y := 2 ^ j) (by omega) pw
  omega
theorem wAfter_ok (n540 : n ≤ 540) (k12 : k ≤ 12) : ∀ {f : Nat} {acc : Int} {p : Nat}, p ≤ n → 0 ≤ acc → acc < 4096 → SP (wAfter b n k nm f acc p) (fun r => (0 ≤ r.1 ∧ r.1 < 4096) ∧ p ≤ r.2 ∧ r.2 ≤ n)
  | 0, acc, p, hp, a0, a1 => ⟨⟨a0, a1⟩, Nat.le_refl _, hp⟩
  | f + 1, acc, p, hp, a0, a1 => by
    have tk := tok_ok (b := b) (m := 400) n540 (by omega) hp
    have tk1 := tok_ok (b := b) (m := 400) n540 (by omega) tk.2.1.2
    rw [wAfter]
    by_cases c : hWord (tok b n 400 p) = 21
    · rw [if_pos c]
      by_cases c1 : isNm (tok b n 400 (tok b n 400 p).2.2.1)
      · rw [if_pos c1]
        by_cases c2 : wFd nm (tok b n 400 (tok b n 400 p).2.2.1).2.2.2.2 k 0 < 0
        · rw [if_pos c2]; exact tk_ek n540 tk.2.1.2 (by decide)
        · rw [if_neg c2]
          have fd := wFd_bd (nm := nm) (L := (tok b n 400 (tok b n 400 p).2.2.1).2.2.2.2) (f := k) (i := 0)
          obtain ⟨j, ej⟩ := Int.eq_ofNat_of_zero_le (show 0 ≤ wFd nm (tok b n 400 (tok b n 400 p).2.2.1).2.2.2.2 k 0 by omega)
          have bb := bor12 a0 a1 (j := j) (by omega)
          rw [ej]
          exact (wAfter_ok n540 k12 (f := f) (p := (tok b n 400 (tok b n 400 p).2.2.1).2.2.1) tk1.2.1.2 bb.1 bb.2).imp (fun r ih => ⟨ih.1, by have := ih.2.1; have := tk.2.1.1; have := tk1.2.1.1; omega, ih.2.2⟩)
      · rw [if_neg c1]; exact tk_ek n540 tk.2.1.2 (by decide)
    · rw [if_neg c]; exact ⟨⟨a0, a1⟩, Nat.le_refl _, hp⟩
/-- a NEAR's word ends 4 bytes on; and stands before byte 400 -/
theorem near_at (n540 : n ≤ 540) (hp : p ≤ n) (c : hWord (tok b n 400 p) = 22) : p < 400 ∧ p + 4 ≤ (tok b n 400 p).2.2.1 := by
  have tk := tok_ok (b := b) (m := 400) n540 (by omega) hp
  have w := hWord_rv tk.1 (k := 22) (by decide) c
  have a := tok_len (b := b) hp n540 (m := 400) (by omega) w.1
  rw [w.2] at a
  have w1 := w.1
  refine ⟨tok_lt (b := b) (m := 400) hp n540 (by omega) (by rw [w1]; decide) (by rw [w1]; decide), ?_⟩
  have : (rvW 22).length = 4 := rfl
  omega
theorem nAdd_ok {x y : Int} {q : Nat} (h : NO (k + 1) S p) (s : S.1 < 64) (hx : nd x) (hy : nd y) (hq : p + 8 ≤ q) : NO (k + 1) (nAdd S k x y) q := by
  refine ⟨by show S.1 + 1 ≤ 64; omega, by show 8 * (S.1 + 1) ≤ q; have := h.2.1; omega, fun j hj => ?_⟩
  have hj : j < S.1 + 1 := hj
  show (0 ≤ fuI S.2.1 S.1 k j ∧ fuI S.2.1 S.1 k j < (k + 1 : Nat)) ∧ nd (fuI S.2.2.1 S.1 x j) ∧ nd (fuI S.2.2.2 S.1 y j)
  unfold fuI
  by_cases z : j = S.1
  · rw [if_pos z, if_pos z, if_pos z]; exact ⟨by omega, hx, hy⟩
  · rw [if_neg z, if_neg z, if_neg z]; exact h.2.2 j (by omega)
theorem wNear_ok (n540 : n ≤ 540) : ∀ {f : Nat} {S : NS} {p : Nat}, p ≤ n → NO (k + 1) S p → SP (wNear b n k f S p) (fun r => NO (k + 1) r.1 r.2 ∧ p ≤ r.2 ∧ r.2 ≤ n)
  | 0, S, p, hp, no => ⟨no, Nat.le_refl _, hp⟩
  | f + 1, S, p, hp, no => by
    have tk := tok_ok (b := b) (m := 400) n540 (by omega) hp
    rw [wNear]
    by_cases c : hWord (tok b n 400 p) = 22
    · rw [if_pos c]
      have na := near_at n540 hp c
      refine SP_bd (wNode_ok n540 tk.2.1.2) (fun r n1 => SP_bd (wNode_ok n540 n1.2.2) (fun q n2 => ?_))
      have a1 := n1.2.1
      have a2 := n2.2.1
      exact (wNear_ok n540 (f := f) (S := nAdd S k r.1 q.1) (p := q.2) n2.2.2 (nAdd_ok no (by have := no.2.1; omega) n1.1 n2.1 (by omega))).imp (fun z ih => ⟨ih.1, by have := ih.2.1; omega, ih.2.2⟩)
    · rw [if_neg c]; exact ⟨no, Nat.le_refl _, hp⟩
theorem NO.mono {K K' q : Nat} (h : NO K S p) (hk : K ≤ K') (hq : p ≤ q) : NO K' S q := ⟨h.1, by have := h.2.1; omega, fun j hj => ⟨by have := (h.2.2 j hj).1; omega, (h.2.2 j hj).2⟩⟩
theorem wStrip2_ok (n540 : n ≤ 540) {L : List Int} (oL : okW L) (ho : WO n (k, nm, A, B, F, S, p)) (k12 : k < 12) : SP (wStrip2 b n L (k, nm, A, B, F, S, p)) (fun s => WO n s ∧ p + 2 ≤ s.2.2.2.2.2.2) := by
  rw [wStrip2]
  refine SP_bd (wNode_ok n540 ho.1) (fun r1 n1 => SP_bd (wNode_ok n540 n1.2.2) (fun r2 n2 => SP_bd (wAfter_ok (f := 540) (acc := 0) n540 (by omega : k ≤ 12) n2.2.2 (by omega) (by omega)) (fun r3 n3 => SP_bd (wNear_ok (k := k) (f := 64 - S.1) n540 n3.2.2 (ho.2.2.2.mono (by omega) (by have := n1.2.1; have := n2.2.1; have := n3.2.1; omega))) (fun r4 n4 => ?_))))
  unfold wSign
  have tk := tok_ok (b := b) (m := 400) n540 (by omega) n4.2.2
  by_cases c : (tok b n 400 r4.2).1 = 59
  · rw [if_pos c]
    refine ⟨⟨tk.2.1.2, by show k + 1 ≤ 12; omega, fun j hj => ?_, n4.1.mono (Nat.le_refl _) tk.2.1.1⟩, ?_⟩
    · unfold fuN fuI
      by_cases z : j = k
      · rw [if_pos z, if_pos z, if_pos z, if_pos z]; exact ⟨oL, n1.1, n2.1, n3.1⟩
      · rw [if_neg z, if_neg z, if_neg z, if_neg z]; exact ho.2.2.1 j (by omega)
    · show p + 2 ≤ (tok b n 400 r4.2).2.2.1
      have := n1.2.1; have := n2.2.1; have := n3.2.1; have := n4.2.1; have := tk.2.1.1
      omega
  · rw [if_neg c]; exact tk_ek n540 n4.2.2 (by decide)
theorem wStrip_ok (n540 : n ≤ 540) {s : WS} (ho : WO n s) : SP (wStrip b n s) (fun s' => WO n s' ∧ s.2.2.2.2.2.2 + 2 ≤ s'.2.2.2.2.2.2) := by
  obtain ⟨k, nm, A, B, F, S, p⟩ := s
  have tk := tok_ok (b := b) (m := 400) n540 (by omega) ho.1
  have tk1 := tok_ok (b := b) (m := 400) n540 (by omega) tk.2.1.2
  rw [wStrip]
  by_cases c : hWord (tok b n 400 p) = 20
  · rw [if_pos c]
    by_cases c1 : 12 ≤ k
    · rw [if_pos c1]; exact tk_ek n540 ho.1 (by decide)
    · rw [if_neg c1]
      by_cases c2 : isNm (tok b n 400 (tok b n 400 p).2.2.1)
      · rw [if_pos c2]
        by_cases c3 : 0 ≤ wFd nm (tok b n 400 (tok b n 400 p).2.2.1).2.2.2.2 k 0
        · rw [if_pos c3]; exact tk_ek n540 tk.2.1.2 (by decide)
        · rw [if_neg c3]
          have q1 := tk.2.1.1
          have q2 := tk1.2.1.1
          exact (wStrip2_ok (b := b) n540 (tok_okW tk1.1 c2.1) (k := k) (nm := nm) (A := A) (B := B) (F := F) (S := S) (p := (tok b n 400 (tok b n 400 p).2.2.1).2.2.1) ⟨tk1.2.1.2, ho.2.1, ho.2.2.1, ho.2.2.2.mono (Nat.le_refl _) (by omega)⟩ (by omega)).imp (fun s' q => ⟨q.1, by have := q.2; show p + 2 ≤ s'.2.2.2.2.2.2; omega⟩)
      · rw [if_neg c2]; exact tk_ek n540 tk.2.1.2 (by decide)
  · rw [if_neg c]; exact tk_ek n540 ho.1 (by decide)
theorem wAll_ok (n540 : n ≤ 540) : ∀ {f : Nat} {s : WS}, WO n s → n + 1 ≤ s.2.2.2.2.2.2 + 2 * f → SP (wAll b n f s) (WO n)
  | 0, s, ho, hf => by
    obtain ⟨k, nm, A, B, F, S, p⟩ := s
    have := ho.1
    have : n + 1 ≤ p + 2 * 0 := hf
    omega
  | f + 1, s, ho, hf => by
    rw [wAll]
    by_cases c : (tok b n 400 s.2.2.2.2.2.2).1 = 0
    · rw [if_pos c]; exact ho
    · rw [if_neg c]
      exact SP_bd (wStrip_ok n540 ho) (fun s' k1 => wAll_ok n540 (f := f) (s := s') k1.1 (by have := k1.2; omega))
end WE1
