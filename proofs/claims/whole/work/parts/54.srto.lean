/-! the pieces of the stock's relation depend on what stands in their places alone -/
def agR (n : Int) (f g : Int → Int) : Prop := ∀ j : Int, 0 ≤ j → j < n → g j = f j
theorem agR_of {n : Int} {f g : Int → Int} (e : g = f) : agR n f g := fun j _ _ => by rw [e]
def agS (a b : Int) (s s' : Int → Int) : Prop := ∀ j : Int, a ≤ j → j ≤ b → s' j = s j
theorem SRa.to {S S' : HI} {s s' nm nm' : Int → Int} (i : SRa S s nm) (e1 : S' 1 3 = S 1 3) (e2 : S' 1 4 = S 1 4) (e3 : agR 8 (S 3) (S' 3)) (e4 : agR 9 (S 4) (S' 4)) (es : agS 0 10 s s') (en : agS 6 13 nm nm') : SRa S' s' nm' := by
  obtain ⟨a, b, c, d, e⟩ := i
  refine ⟨?_, ?_, ?_, ?_, ?_⟩
  · rw [e1, es 0 (by decide) (by decide)]; exact a
  · rw [e2, es 1 (by decide) (by decide)]; exact b
  · intro i h0 h1
    rw [e4 i h0 h1, es (2 + i) (by omega) (by omega)]; exact c i h0 h1
  · intro k h0 h1
    rw [e2] at h1
    rw [e3 k h0 (by omega), en (6 + k) (by omega) (by omega)]; exact d k h0 h1
  · intro k k' h0 h1 h2 h3 q
    rw [e2] at h1 h3
    rw [e3 k h0 (by omega), e3 k' h2 (by omega)] at q
    exact e k k' h0 h1 h2 h3 q
theorem SRc.to {S S' : HI} {s s' : Int → Int} (i : SRc S s) (e1 : S' 0 3 = S 0 3) (e2 : S' 1 4 = S 1 4) (e3 : agR 60 (S 19) (S' 19)) (e4 : s' 11 = s 11) (es : agS 17 76 s s') : SRc S' s' := by
  obtain ⟨a, b⟩ := i
  refine ⟨by rw [e1, e4]; exact a, fun c h0 h1 => ?_⟩
  rw [e1] at h1
  rw [e2, e3 c h0 (by omega), es (17 + c) (by omega) (by omega)]; exact b c h0 h1
theorem td_eq {S S' : HI} (e20 : S' 20 = S 20) (e21 : S' 21 = S 21) (e22 : S' 22 = S 22) (e23 : S' 23 = S 23) (e1 : S' 0 5 = S 0 5) (e2 : S' 0 3 = S 0 3) (e3 : S' 1 3 = S 1 3) : td S' = td S := by
  unfold td
  rw [e20, e21, e22, e23, e1, e2, e3]
theorem SRr.to {S S' : HI} {s s' : Int → Int} (i : SRr S s) (e20 : S' 20 = S 20) (e21 : S' 21 = S 21) (e22 : S' 22 = S 22) (e23 : S' 23 = S 23) (e1 : S' 0 5 = S 0 5) (e2 : S' 0 3 = S 0 3) (e3 : S' 1 3 = S 1 3) (e4 : s' 12 = s 12) (es : agS 77 876 s s') : SRr S' s' := by
  obtain ⟨a, b, c, d⟩ := i
  refine ⟨by rw [e1, e4]; exact a, by rw [td_eq e20 e21 e22 e23 e1 e2 e3]; exact b, fun r hr => ?_, fun j hj => by rw [e20, e21, e22, e23]; exact d j hj⟩
  rw [e1] at hr
  rw [e20, e21, e22, e23, es _ (by omega) (by omega), es _ (by omega) (by omega), es _ (by omega) (by omega), es _ (by omega) (by omega)]
  exact c r hr
theorem rq_to {s s' : Int → Int} (es : agS 877 1676 s s') (c : Int) {k : Nat} (hk : k < 200) : rq s' c k = rq s c k := by
  unfold rq
  rw [es _ (by omega) (by omega)]
theorem lst_bd (m : Nat → Bool) : ∀ n : Nat, lst m n = -1 ∨ (0 ≤ lst m n ∧ lst m n < n)
  | 0 => Or.inl rfl
  | n + 1 => by
    have := lst_bd m n
    unfold lst
    split
    · right; omega
    · omega
theorem lst_congr {m m' : Nat → Bool} : ∀ {n : Nat}, (∀ r, r < n → m r = m' r) → lst m n = lst m' n
  | 0, _ => rfl
  | n + 1, h => by
    unfold lst
    rw [h n (by omega), lst_congr (n := n) (fun r hr => h r (by omega))]
theorem rjp_to {s s' : Int → Int} (es : agS 877 1676 s s') (e9 : s' 9 = s 9) (c : Int) : ∀ {n : Nat}, n ≤ 200 → rjp s' c n = rjp s c n
  | 0, _ => rfl
  | n + 1, h => by
    unfold rjp
    have b := lst_bd (rq s c) n
    rw [rjp_to es e9 c (n := n) (by omega), rq_to es c (by omega), lst_congr (m := rq s' c) (m' := rq s c) (n := n) (fun r hr => rq_to es c (by omega)), e9]
    rcases b with e | e
    · rw [e]; simp
    · rw [es _ (by omega) (by omega), es _ (by omega) (by omega), es _ (by omega) (by omega), es _ (by omega) (by omega)]
theorem rwm_to {s s' : Int → Int} (es : agS 877 1676 s s') (e10 : s' 10 = s 10) (c : Int) : ∀ {n : Nat}, n ≤ 200 → rwm s' c n = rwm s c n
  | 0, _ => rfl
  | n + 1, h => by
    unfold rwm
    rw [rwm_to es e10 c (n := n) (by omega), rq_to es c (by omega), e10, es _ (by omega) (by omega)]
theorem fst1_lt {m : Nat → Bool} {n : Nat} (h : 0 < cN m n) : 0 ≤ fst1 m 0 n ∧ fst1 m 0 n < n := by
  obtain ⟨r, h1, h2⟩ := cN_pos h
  have a := fst1_of (m := m) (r := r) (k := n) (i := 0) (by omega) (by omega) h2
  have := fst1_bd m n 0
  omega
theorem lst_of {m : Nat → Bool} {r : Nat} : ∀ {n : Nat}, r < n → m r = true → (r : Int) ≤ lst m n
  | 0, h, _ => by omega
  | n + 1, h, hm => by
    unfold lst
    by_cases e : r = n
    · subst e; rw [hm]; simp
    · have := lst_of (n := n) (by omega) hm
      split <;> omega
theorem lst_lt {m : Nat → Bool} {n : Nat} (h : 0 < cN m n) : 0 ≤ lst m n ∧ lst m n < n := by
  obtain ⟨r, h1, h2⟩ := cN_pos h
  have a := lst_of h1 h2
  have := lst_bd m n
  omega
theorem SRs.to {S S' : HI} {s s' : Int → Int} (i : SRs S s) (e1 : S' 0 10 = S 0 10) (e2 : S' 0 3 = S 0 3) (e24 : agR 60 (S 24) (S' 24)) (e25 : agR 60 (S 25) (S' 25)) (e26 : agR 60 (S 26) (S' 26)) (e27 : agR 60 (S 27) (S' 27)) (e28 : agR 60 (S 28) (S' 28)) (e29 : agR 60 (S 29) (S' 29)) (hC : S 0 3 ≤ 60) (e9 : s' 9 = s 9) (e10 : s' 10 = s 10) (e13 : s' 13 = s 13) (es : agS 877 1676 s s') : SRs S' s' := by
  obtain ⟨a, b, c, d⟩ := i
  refine ⟨by rw [e1, e13]; exact a, fun k hk => ?_, fun k k' h0 h1 q => ?_, fun c h0 h1 => ?_⟩
  · rw [e1] at hk
    rw [e2, es _ (by omega) (by omega), es _ (by omega) (by omega), es _ (by omega) (by omega), es _ (by omega) (by omega)]
    exact b k hk
  · rw [e1] at h1
    rw [es _ (by omega) (by omega), es _ (by omega) (by omega)] at q ⊢
    exact c k k' h0 h1 q
  · rw [e2] at h1
    have q := d c h0 h1
    have n2 : (S 0 10).toNat ≤ 200 := by omega
    have cc : cN (rq s' c) (S 0 10).toNat = cN (rq s c) (S 0 10).toNat := cN_congr (fun r hr => rq_to es c (by omega))
    rw [e1, cc, e24 c h0 (by omega), e29 c h0 (by omega), rjp_to es e9 c n2, rwm_to es e10 c n2]
    refine ⟨q.1, fun hp => ?_, q.2.2⟩
    have f1 : fst1 (rq s' c) 0 (S 0 10).toNat = fst1 (rq s c) 0 (S 0 10).toNat := fst1_congr (fun r _ hr => rq_to es c (by omega))
    have l1 : lst (rq s' c) (S 0 10).toNat = lst (rq s c) (S 0 10).toNat := lst_congr (fun r hr => rq_to es c (by omega))
    have b1 := fst1_lt hp
    have b2 := lst_lt hp
    rw [f1, l1, e25 c h0 (by omega), e26 c h0 (by omega), e27 c h0 (by omega), e28 c h0 (by omega), es _ (by omega) (by omega), es _ (by omega) (by omega), es _ (by omega) (by omega), es _ (by omega) (by omega)]
    exact q.2.1 hp
theorem hiC_to {s s' : Int → Int} (es : agS 1677 2626 s s') {p i : Int} (hp : 0 ≤ p ∧ p < 10) (hi : 0 ≤ i ∧ i < 40) : ∀ {m : Nat}, m ≤ 30 → hiC s' p i m = hiC s p i m
  | 0, _ => es _ (by omega) (by omega)
  | m + 1, h => by
    unfold hiC
    rw [hiC_to es hp hi (m := m) (by omega), es _ (by omega) (by omega), es _ (by omega) (by omega), es _ (by omega) (by omega)]
theorem lday_to {s s' : Int → Int} (es : agS 1677 2626 s s') {p : Int} (hp : 0 ≤ p ∧ p < 10) : ∀ {m : Nat}, m ≤ 30 → lday s' p m = lday s p m
  | 0, _ => es _ (by omega) (by omega)
  | m + 1, h => by
    unfold lday
    rw [lday_to es hp (m := m) (by omega), es _ (by omega) (by omega), es _ (by omega) (by omega)]
/-- the packs; the cells may have become more, and what was true stays true -/
theorem SRp.to {S S' : HI} {s s' : Int → Int} (i : SRp S s) (e1 : S' 7 0 = S 7 0) (e7 : S' 7 7 = S 7 7) (hC : S 0 3 ≤ 60) (e2 : S 0 3 ≤ S' 0 3) (en : ∀ c : Int, S 0 3 ≤ c → c < S' 0 3 → S' 8 c = -1) (e8 : ∀ c : Int, 0 ≤ c → c < S 0 3 → S' 8 c = S 8 c) (e9 : agR 400 (S 9) (S' 9)) (e10 : agR 10 (S 10) (S' 10)) (e11 : agR 10 (S 11) (S' 11)) (e12 : agR 10 (S 12) (S' 12)) (e13 : agR 10 (S 13) (S' 13)) (e14 : agR 30 (S 14) (S' 14)) (e15 : agR 30 (S 15) (S' 15)) (e16 : agR 30 (S 16) (S' 16)) (e17 : agR 30 (S 17) (S' 17)) (et : ∀ c : Int, 0 < tcn (td S) (tru (td S)).1 c → 0 < tcn (td S') (tru (td S')).1 c) (f14 : s' 14 = s 14) (f15 : s' 15 = s 15) (es : agS 1677 2626 s s') : SRp S' s' := by
  obtain ⟨a, b, c, d, e, f⟩ := i
  refine ⟨by rw [e1, f14]; exact a, by rw [e7, f15]; exact b, fun p p0 p1 => ?_, fun c c0 c1 => ?_, fun m hm => ?_, fun m m' hm hm' q => ?_⟩
  · rw [e1] at p1
    obtain ⟨c1, c2, c3, c4, c5, c6⟩ := c p p0 p1
    have hp : 0 ≤ p ∧ p < 10 := by omega
    have hm : (S 7 7).toNat ≤ 30 := by omega
    unfold SRp1
    rw [e10 p p0 hp.2, e11 p p0 hp.2, e12 p p0 hp.2, e13 p p0 hp.2, e7, es _ (by omega) (by omega), es _ (by omega) (by omega), es _ (by omega) (by omega), lday_to es hp hm]
    refine ⟨c1, c2, c3, c4, fun i i0 i1 => ?_, fun i i' i0 i1 i2 i3 q => ?_⟩
    · obtain ⟨q1, q2, q3, q4, q5, q6⟩ := c5 i i0 i1
      rw [e9 (p * 40 + i) (by omega) (by omega), es _ (by omega) (by omega), es _ (by omega) (by omega), hiC_to es hp ⟨i0, by omega⟩ hm]
      refine ⟨q1, q2, ⟨q3.1, by omega⟩, et _ q4, ⟨q5.1, by omega⟩, ?_⟩
      rw [e8 _ (by omega) (by omega)]; exact q6
    · rw [e9 (p * 40 + i) (by omega) (by omega), e9 (p * 40 + i') (by omega) (by omega)] at q
      exact c6 i i' i0 i1 i2 i3 q
  · by_cases hc : S 0 3 ≤ c
    · rw [en c hc c1, e1]
      exact ⟨by omega, by omega, fun h0 => by omega⟩
    obtain ⟨d1, d2, d3⟩ := d c c0 (by omega)
    rw [e8 c c0 (by omega), e1]
    refine ⟨d1, d2, fun h0 => ?_⟩
    obtain ⟨i, i0, i1, i2⟩ := d3 h0
    have := (‹∀ p : Int, 0 ≤ p → p < S 7 0 → SRp1 S s p› _ h0 d2).1
    refine ⟨i, i0, ?_, ?_⟩
    · rw [e10 _ h0 (by omega)]; exact i1
    · rw [e9 _ (by omega) (by omega)]; exact i2
  · rw [e7] at hm
    obtain ⟨m1, m2, m3, m4, m5⟩ := e m hm
    have hk : (0 : Int) ≤ m ∧ (m : Int) < 30 := by omega
    have hp : 0 ≤ S 14 m ∧ S 14 m < 10 := by omega
    have hz := (c _ m1.2.1 m1.2.2).1
    unfold SRm1
    rw [e14 m hk.1 hk.2, e15 m hk.1 hk.2, e16 m hk.1 hk.2, e17 m hk.1 hk.2, e1, e10 _ hp.1 hp.2, e12 _ hp.1 hp.2, es _ (by omega) (by omega), es _ (by omega) (by omega), es _ (by omega) (by omega), es _ (by omega) (by omega), hiC_to es hp ⟨m2.2.1, by omega⟩ (by omega)]
    exact ⟨m1, m2, ⟨m3.1, by omega⟩, m4, m5⟩
  · rw [e7] at hm'
    rw [e14 m (by omega) (by omega), e14 m' (by omega) (by omega)] at q
    rw [e17 m (by omega) (by omega), e17 m' (by omega) (by omega)]
    exact f m m' hm hm' q
theorem dep_to {w w' : Nat → Int} : ∀ {n : Nat}, (∀ k, k < n → w' k = w k) → dep w' n = dep w n
  | 0, _ => rfl
  | n + 1, h => by
    unfold dep
    rw [dep_to (n := n) (fun k hk => h k (by omega)), h n (by omega)]
theorem SRu.to {S S' : HI} {s s' : Int → Int} (i : SRu S s) (e1 : S' 5 1 = S 5 1) (e2 : S' 5 2 = S 5 2) (e6 : agR 40 (S 6) (S' 6)) (f16 : s' 16 = s 16) (es : agS 2627 2818 s s') : SRu S' s' := by
  obtain ⟨a, b, c, d⟩ := i
  have dt : ∀ n : Nat, (n : Int) ≤ 40 → dep (fun k => s' (2627 + 3 * (k : Int))) n = dep (fun k => s (2627 + 3 * (k : Int))) n := fun n hn => dep_to (fun k hk => es _ (by omega) (by omega))
  refine ⟨by rw [e1, f16]; exact a, by rw [e1, e2]; exact b, fun k hk => ?_, fun h => ?_⟩
  · rw [e1] at hk
    rw [e6 k (by omega) (by omega), es _ (by omega) (by omega), es _ (by omega) (by omega), es _ (by omega) (by omega), dt k (by omega), dt (k + 1) (by omega)]
    exact c k hk
  · rw [e1] at h ⊢
    rw [dt _ (by omega)]
    exact d h
