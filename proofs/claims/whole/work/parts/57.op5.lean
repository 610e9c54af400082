/-! rest -/
theorem fst1_s {m : Nat → Bool} : ∀ {n i : Nat}, fst1 m i (n + 1) = if fst1 m i n ≠ -1 then fst1 m i n else if m (i + n) then ((i + n : Nat) : Int) else -1
  | 0, i => by simp [fst1]
  | n + 1, i => by
    show (if m i then (i : Int) else fst1 m (i + 1) (n + 1)) = _
    rw [fst1_s (n := n) (i := i + 1)]
    show _ = if (if m i then (i : Int) else fst1 m (i + 1) n) ≠ -1 then (if m i then (i : Int) else fst1 m (i + 1) n) else _
    cases e : m i with
    | true => simp
    | false =>
      simp only [Bool.false_eq_true, if_false]
      rw [show i + 1 + n = i + (n + 1) by omega]
theorem bor_2 (J W : Bool) : bor ((if J then 2 else 0) + (if W then 4 else 0)) 2 = 2 + (if W then 4 else 0) := by cases J <;> cases W <;> decide
theorem bor_4 (J W : Bool) : bor ((if J then 2 else 0) + (if W then 4 else 0)) 4 = (if J then 2 else 0) + 4 := by cases J <;> cases W <;> decide
def rsA (h : HI) (c d v w : Int) : Prop := (0 ≤ c ∧ c ≤ h 3 3 - 1) ∧ h 3 10 < 200 ∧ (0 ≤ d ∧ d ≤ 99) ∧ (0 ≤ v ∧ v ≤ 4200) ∧ (0 ≤ w ∧ w ≤ 99) ∧ (h 27 c = 0 ∨ h 30 c < d)
theorem SR_rest {S S' : HI} {s s' nm nm' : Int → Int} {c d v w : Int} (i : SR S s nm) (hR : S 0 10 < 200) (hc : 0 ≤ c ∧ c < S 0 3) (hd : 0 ≤ d ∧ d ≤ 99) (hv : 0 ≤ v ∧ v ≤ 4200) (hw : 0 ≤ w ∧ w ≤ 99) (hl : S 24 c = 0 ∨ S 27 c < d) (e010 : S' 0 10 = S 0 10 + 1) (e03 : S' 0 3 = S 0 3) (e05 : S' 0 5 = S 0 5) (ek : ∀ k, k < 30 → k ≠ 0 → k < 24 → S' k = S k) (e24 : S' 24 = fu (S 24) c (S 24 c + 1)) (e25 : S' 25 = if S 24 c = 0 then fu (S 25) c d else S 25) (e26 : S' 26 = if S 24 c = 0 then fu (S 26) c v else S 26) (e27 : S' 27 = fu (S 27) c d) (e28 : S' 28 = fu (S 28) c v) (e29 : ∀ J W : Bool, S 29 c = (if J then 2 else 0) + (if W then 4 else 0) → S' 29 = fu (S 29) c ((if J || decide (S 24 c ≠ 0 ∧ S 4 7 * (d - S 27 c) < S 28 c - v) then 2 else 0) + (if W || decide (S 4 8 ≤ w) then 4 else 0))) (es : s' = fu (fu (fu (fu (fu s (877 + 4 * S 0 10) c) (877 + 4 * S 0 10 + 1) d) (877 + 4 * S 0 10 + 2) v) (877 + 4 * S 0 10 + 3) w) 13 (S 0 10 + 1)) (en : nm' = nm) : SR S' s' nm' := by
  obtain ⟨sa, sc, sr, ss, sp, su⟩ := i
  have kk : ∀ k, k < 24 → k ≠ 0 → S' k = S k := fun k h1 h2 => ek k (by omega) h2 h1
  have e1 := kk 1 (by decide) (by decide)
  have r0 := ss.1.1
  have r1 := sc.1.2.1
  have sj : ∀ j : Int, j ≠ 13 → (j < 877 + 4 * S 0 10 ∨ 877 + 4 * S 0 10 + 3 < j) → s' j = s j := fun j h1 h2 => by rw [es, fu_n _ _ h1, fu_n _ _ (by omega), fu_n _ _ (by omega), fu_n _ _ (by omega), fu_n _ _ (by omega)]
  have n0 : s' (877 + 4 * S 0 10) = c := by rw [es, fu_n _ _ (by omega), fu_n _ _ (by omega), fu_n _ _ (by omega), fu_n _ _ (by omega), fu_s]
  have n1 : s' (877 + 4 * S 0 10 + 1) = d := by rw [es, fu_n _ _ (by omega), fu_n _ _ (by omega), fu_n _ _ (by omega), fu_s]
  have n2 : s' (877 + 4 * S 0 10 + 2) = v := by rw [es, fu_n _ _ (by omega), fu_n _ _ (by omega), fu_s]
  have n3 : s' (877 + 4 * S 0 10 + 3) = w := by rw [es, fu_n _ _ (by omega), fu_s]
  have td' : td S' = td S := td_eq (kk 20 (by decide) (by decide)) (kk 21 (by decide) (by decide)) (kk 22 (by decide) (by decide)) (kk 23 (by decide) (by decide)) e05 e03 (by rw [e1])
  refine ⟨?_, ?_, ?_, ?_, ?_, ?_⟩
  · exact sa.to (by rw [e1]) (by rw [e1]) (agR_of (kk 3 (by decide) (by decide))) (agR_of (kk 4 (by decide) (by decide))) (fun j h0 h1 => sj j (by omega) (by omega)) (fun j _ _ => by rw [en])
  · exact sc.to e03 (by rw [e1]) (agR_of (kk 19 (by decide) (by decide))) (sj _ (by decide) (by omega)) (fun j h0 h1 => sj j (by omega) (by omega))
  · exact sr.to (kk 20 (by decide) (by decide)) (kk 21 (by decide) (by decide)) (kk 22 (by decide) (by decide)) (kk 23 (by decide) (by decide)) e05 e03 (by rw [e1]) (sj _ (by decide) (by omega)) (fun j h0 h1 => sj j (by omega) (by omega))
  · obtain ⟨n, hn⟩ : ∃ n : Nat, S 0 10 = n := ⟨(S 0 10).toNat, by omega⟩
    rw [hn] at n0 n1 n2 n3 sj
    have hn1 : S' 0 10 = ((n + 1 : Nat) : Int) := by omega
    obtain ⟨a, b, q3, q4⟩ := ss
    rw [hn] at b q3 q4
    simp only [Int.toNat_natCast] at q4
    have l7 := sa.2.2.1 7 (by decide) (by decide)
    have l8 := sa.2.2.1 8 (by decide) (by decide)
    have k7 : s' 9 = S 4 7 := by rw [sj 9 (by decide) (by omega)]; exact l7.1
    have k8 : s' 10 = S 4 8 := by rw [sj 10 (by decide) (by omega)]; exact l8.1
    have rqn : ∀ (q : Int) (k : Nat), k < n → rq s' q k = rq s q k := fun q k hk => by unfold rq; rw [sj _ (by omega) (by omega)]
    have rqN : ∀ (q : Int), rq s' q n = decide (c = q) := fun q => by unfold rq; rw [n0]
    have cnn : ∀ q : Int, cN (rq s' q) n = cN (rq s q) n := fun q => cN_congr (fun k hk => rqn q k hk)
    have lsn : ∀ (q : Int) (k : Nat), k ≤ n → lst (rq s' q) k = lst (rq s q) k := fun q k hk => lst_congr (fun r hr => rqn q r (by omega))
    have fsn : ∀ q : Int, fst1 (rq s' q) 0 n = fst1 (rq s q) 0 n := fun q => fst1_congr (fun r _ hr => rqn q r (by omega))
    have rjn : ∀ (q : Int) (k : Nat), k ≤ n → rjp s' q k = rjp s q k := by
      intro q k
      induction k with
      | zero => intro _; rfl
      | succ k ih =>
        intro hk
        unfold rjp
        have bl := lst_bd (rq s q) k
        rw [ih (by omega), rqn q k (by omega), lsn q k (by omega), sj 9 (by decide) (by omega)]
        rcases bl with e | e
        · rw [e]; simp
        · rw [sj _ (by omega) (by omega), sj _ (by omega) (by omega), sj _ (by omega) (by omega), sj _ (by omega) (by omega)]
    have rwn : ∀ (q : Int) (k : Nat), k ≤ n → rwm s' q k = rwm s q k := by
      intro q k
      induction k with
      | zero => intro _; rfl
      | succ k ih =>
        intro hk
        unfold rwm
        rw [ih (by omega), rqn q k (by omega), sj 10 (by decide) (by omega), sj _ (by omega) (by omega)]
    refine ⟨⟨by omega, by omega, by rw [es, fu_s, e010]⟩, fun k hk => ?_, fun k k' h0 h1 q => ?_, fun q h0 h1 => ?_⟩
    · rw [e03]
      by_cases e : k = n
      · subst e
        rw [n0, n1, n2, n3]
        exact ⟨hc, hd, hv, hw⟩
      · rw [sj _ (by omega) (by omega), sj _ (by omega) (by omega), sj _ (by omega) (by omega), sj _ (by omega) (by omega)]
        exact b k (by omega)
    · by_cases e : k' = n
      · subst e
        rw [n0, sj _ (by omega) (by omega)] at q
        rw [n1, sj _ (by omega) (by omega)]
        have w1 := q4 c hc.1 hc.2
        have hm : rq s c k = true := decide_eq_true q
        have cp : 0 < cN (rq s c) k' := cN_of h0 hm
        have le := lst_of h0 hm
        have lb := lst_lt cp
        have w2 := (w1.2.1 cp).2.2.1
        have hl' : S 27 c < d := by rcases hl with z | z <;> omega
        by_cases e2 : (k : Int) = lst (rq s c) k'
        · rw [e2, ← w2]; exact hl'
        · have w3 := q3 k (lst (rq s c) k').toNat (by omega) (by omega)
          have el : (((lst (rq s c) k').toNat : Nat) : Int) = lst (rq s c) k' := by omega
          have lm : rq s c (lst (rq s c) k').toNat = true := by
            have aux : ∀ m : Nat, lst (rq s c) m ≠ -1 → rq s c (lst (rq s c) m).toNat = true := by
              intro m
              induction m with
              | zero => intro z; exact absurd rfl z
              | succ m ih =>
                intro z
                unfold lst at z ⊢
                cases em : rq s c m with
                | true => simp only [if_true, Int.toNat_natCast]; exact em
                | false =>
                  rw [em] at z
                  simp only [Bool.false_eq_true, if_false] at z ⊢
                  exact ih z
            exact aux k' (by omega)
          have lm' := of_decide_eq_true lm
          rw [el] at w3 lm'
          have := w3 (by rw [q, lm'])
          omega
      · rw [sj _ (by omega) (by omega), sj _ (by omega) (by omega)] at q
        rw [sj _ (by omega) (by omega), sj _ (by omega) (by omega)]
        exact q3 k k' h0 (by omega) q
    · have w1 := q4 q h0 (by omega)
      have w1c := q4 c hc.1 hc.2
      rw [hn1, Int.toNat_natCast, e24, e27, e28, e29 _ _ w1c.2.2]
      have c1 : cN (rq s' q) (n + 1) = cN (rq s q) n + (if decide (c = q) then 1 else 0) := by
        show cN (rq s' q) n + (if rq s' q n then 1 else 0) = _
        rw [cnn, rqN]
      have j1 : rjp s' q (n + 1) = (rjp s q n || (decide (c = q) && decide (lst (rq s q) n ≠ -1 ∧ S 4 7 * (d - s' (877 + 4 * lst (rq s q) n + 1)) < s' (877 + 4 * lst (rq s q) n + 2) - v))) := by
        show (rjp s' q n || (rq s' q n && decide (lst (rq s' q) n ≠ -1 ∧ s' 9 * (s' (877 + 4 * (n : Int) + 1) - s' (877 + 4 * lst (rq s' q) n + 1)) < s' (877 + 4 * lst (rq s' q) n + 2) - s' (877 + 4 * (n : Int) + 2)))) = _
        rw [rjn q n (Nat.le_refl _), rqN, lsn q n (Nat.le_refl _), k7, n1, n2]
      have m1 : rwm s' q (n + 1) = (rwm s q n || (decide (c = q) && decide (S 4 8 ≤ w))) := by
        show (rwm s' q n || (rq s' q n && decide (s' 10 ≤ s' (877 + 4 * (n : Int) + 3)))) = _
        rw [rwn q n (Nat.le_refl _), rqN, k8, n3]
      rw [c1, j1, m1]
      have lb := lst_bd (rq s q) n
      by_cases e : q = c
      · subst e
        simp only [fu_s, decide_true, if_true, Bool.true_and]
        have hl0 : (S 24 q ≠ 0) ↔ lst (rq s q) n ≠ -1 := by
          rw [w1.1]
          have cb := cN_bd (rq s q) n
          constructor
          · intro z; have := lst_lt (m := rq s q) (n := n) (by omega); omega
          · intro z z2
            have : lst (rq s q) n = -1 := by
              have aux : ∀ m : Nat, cN (rq s q) m = 0 → lst (rq s q) m = -1 := by
                intro m
                induction m with
                | zero => intro _; rfl
                | succ m ih =>
                  intro hz
                  unfold cN at hz
                  unfold lst
                  have := cN_bd (rq s q) m
                  cases em : rq s q m with
                  | true => rw [em] at hz; simp at hz; omega
                  | false => rw [em] at hz; simp at hz; simp; exact ih hz
              exact aux n z2
            exact z this
        refine ⟨by rw [w1.1], fun _ => ?_, ?_⟩
        · have ls1 : lst (rq s' q) (n + 1) = n := by
            show (if rq s' q n then (n : Int) else _) = n
            rw [rqN]; simp
          rw [ls1, n1, n2, fst1_s, fsn, Nat.zero_add, rqN, e25, e26]
          by_cases z : S 24 q = 0
          · have z' : cN (rq s q) n = 0 := by rw [← w1.1]; exact z
            have f0 : fst1 (rq s q) 0 n = -1 := by
              rcases fst1_bd (rq s q) n 0 with y | y
              · exact y
              · have hr : fst1 (rq s q) 0 n = ((fst1 (rq s q) 0 n).toNat : Nat) := by omega
                have := cN_of (q := rq s q) (r := (fst1 (rq s q) 0 n).toNat) (n := n) (by omega) (fst1_in _ hr)
                omega
            rw [if_pos z, if_pos z, f0, fu_s, fu_s]
            simp [n1, n2]
          · have cb := cN_bd (rq s q) n
            have zp : 0 < cN (rq s q) n := by rw [w1.1] at z; omega
            have fb := fst1_lt zp
            have y := w1.2.1 zp
            rw [if_neg z, if_neg z, if_pos (by omega)]
            refine ⟨?_, ?_, rfl, rfl⟩
            · rw [sj _ (by omega) (by omega)]; exact y.1
            · rw [sj _ (by omega) (by omega)]; exact y.2.1
        · by_cases z : S 24 q = 0
          · have : ¬ lst (rq s q) n ≠ -1 := fun y => hl0.mpr y z
            simp [z, this]
          · have z2 := hl0.mp z
            have cb := cN_bd (rq s q) n
            have zp : 0 < cN (rq s q) n := by rw [w1.1] at z; omega
            have y := w1.2.1 zp
            have y3 := y.2.2.1
            have y4 := y.2.2.2
            rw [sj _ (by omega) (by omega), sj _ (by omega) (by omega), ← y3, ← y4]
            simp only [ne_eq, z, not_false_eq_true, true_and, z2]
      · have ne : decide (c = q) = false := decide_eq_false (fun y => e y.symm)
        rw [ne]
        simp only [fu_n _ _ e, Bool.false_eq_true, if_false, Bool.false_and, Bool.or_false, Int.add_zero]
        refine ⟨w1.1, fun zp => ?_, w1.2.2⟩
        have ls1 : lst (rq s' q) (n + 1) = lst (rq s q) n := by
          show (if rq s' q n then (n : Int) else lst (rq s' q) n) = _
          rw [rqN, ne, lsn q n (Nat.le_refl _)]; simp
        have fb := fst1_lt zp
        have y := w1.2.1 zp
        have lb2 := lst_lt zp
        rw [ls1, fst1_s, fsn, if_pos (by omega), sj _ (by omega) (by omega), sj _ (by omega) (by omega), sj _ (by omega) (by omega), sj _ (by omega) (by omega), e25, e26]
        refine ⟨?_, ?_, y.2.2⟩
        · by_cases z : S 24 c = 0
          · rw [if_pos z, fu_n _ _ e]; exact y.1
          · rw [if_neg z]; exact y.1
        · by_cases z : S 24 c = 0
          · rw [if_pos z, fu_n _ _ e]; exact y.2.1
          · rw [if_neg z]; exact y.2.1
  · refine sp.to (by rw [kk 7 (by decide) (by decide)]) (by rw [kk 7 (by decide) (by decide)]) r1 (by omega) (fun c h0 h1 => by omega) (fun c h0 h1 => by rw [kk 8 (by decide) (by decide)]) (agR_of (kk 9 (by decide) (by decide))) (agR_of (kk 10 (by decide) (by decide))) (agR_of (kk 11 (by decide) (by decide))) (agR_of (kk 12 (by decide) (by decide))) (agR_of (kk 13 (by decide) (by decide))) (agR_of (kk 14 (by decide) (by decide))) (agR_of (kk 15 (by decide) (by decide))) (agR_of (kk 16 (by decide) (by decide))) (agR_of (kk 17 (by decide) (by decide))) (fun q hq => by rw [td']; exact hq) (sj _ (by decide) (by omega)) (sj _ (by decide) (by omega)) (fun j h0 h1 => sj j (by omega) (by omega))
  · exact su.to (by rw [kk 5 (by decide) (by decide)]) (by rw [kk 5 (by decide) (by decide)]) (agR_of (kk 6 (by decide) (by decide))) (sj _ (by decide) (by omega)) (fun j h0 h1 => sj j (by omega) (by omega))
