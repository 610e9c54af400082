/-! cell -/
theorem op_fin2 {ζ : ZP} {h h' : HI} {L : List (Nat × Int)} {r1 r2 : Int} (i : Inv ζ h) (e : r1 = r2) (g : rg r1) (f : FL L h h') (ns : List Nat) (c : kpL ns L = true) (new : ∀ n ∈ ns, IP ζ h' n) (t : trI h') : rg r1 ∧ rg r2 ∧ r1 = r2 ∧ h' 1000003 = h 1000003 ∧ h' 1000004 = h 1000004 ∧ Inv ζ h' := by
  have c1 := c
  unfold kpL at c1
  simp only [Bool.and_eq_true, Bool.not_eq_true'] at c1
  exact ⟨g, e ▸ g, e, f.c _ c1.1.1, f.c _ c1.1.2, i.1.upd f ns c1.2 new, t⟩
theorem new1 {ζ : ZP} {h : HI} {n : Nat} (p : IP ζ h n) : ∀ m ∈ [n], IP ζ h m := by
  intro m hm
  rw [List.mem_singleton] at hm
  subst hm
  exact p
theorem rjp_no {s : Int → Int} {c : Int} : ∀ {n : Nat}, (∀ k, k < n → rq s c k = false) → rjp s c n = false
  | 0, _ => rfl
  | n + 1, h => by
    unfold rjp
    rw [rjp_no (n := n) (fun k hk => h k (by omega)), h n (by omega)]; rfl
theorem rwm_no {s : Int → Int} {c : Int} : ∀ {n : Nat}, (∀ k, k < n → rq s c k = false) → rwm s c n = false
  | 0, _ => rfl
  | n + 1, h => by
    unfold rwm
    rw [rwm_no (n := n) (fun k hk => h k (by omega)), h n (by omega)]; rfl
/-- one cell more -/
theorem SR_cell {S S' : HI} {s s' nm nm' : Int → Int} {x : Int} (i : SR S s nm) (hC : S 0 3 < 60) (hx : 0 ≤ x ∧ x < S 1 4) (e03 : S' 0 3 = S 0 3 + 1) (e05 : S' 0 5 = S 0 5) (e010 : S' 0 10 = S 0 10) (ek : ∀ k, k < 30 → k ≠ 0 → k ≠ 8 → k ≠ 19 → k ≠ 24 → k ≠ 29 → S' k = S k) (e19 : S' 19 = fu (S 19) (S 0 3) x) (e24 : S' 24 = fu (S 24) (S 0 3) 0) (e29 : S' 29 = fu (S 29) (S 0 3) 0) (e8 : S' 8 = fu (S 8) (S 0 3) (-1)) (es : s' = fu (fu s (17 + S 0 3) x) 11 (S 0 3 + 1)) (en : nm' = nm) : SR S' s' nm' ∧ td S' = tdC (td S) ((S 0 3).toNat + 1) := by
  obtain ⟨sa, sc, sr, ss, sp, su⟩ := i
  have e1 := ek 1 (by decide) (by decide) (by decide) (by decide) (by decide) (by decide)
  have c0 := sc.1.1
  have sj : ∀ j : Int, j ≠ 11 → j ≠ 17 + S 0 3 → s' j = s j := fun j h1 h2 => by rw [es, fu_n _ _ h1, fu_n _ _ h2]
  have etd : td S' = tdC (td S) ((S 0 3).toNat + 1) := by
    unfold td tdC
    rw [e03, e05, e1, ek 20 (by decide) (by decide) (by decide) (by decide) (by decide) (by decide), ek 21 (by decide) (by decide) (by decide) (by decide) (by decide) (by decide), ek 22 (by decide) (by decide) (by decide) (by decide) (by decide) (by decide), ek 23 (by decide) (by decide) (by decide) (by decide) (by decide) (by decide), show (S 0 3 + 1).toNat = (S 0 3).toNat + 1 by omega]
  have ok := sr.2.1
  have htr : tru (tdC (td S) ((S 0 3).toNat + 1)) = tru (td S) := tru_C ok (by show (S 0 3).toNat ≤ _; omega)
  refine ⟨⟨?_, ?_, ?_, ?_, ?_, ?_⟩, etd⟩
  · exact sa.to (by rw [e1]) (by rw [e1]) (agR_of (ek 3 (by decide) (by decide) (by decide) (by decide) (by decide) (by decide))) (agR_of (ek 4 (by decide) (by decide) (by decide) (by decide) (by decide) (by decide))) (fun j h0 h1 => sj j (by omega) (by omega)) (fun j _ _ => by rw [en])
  · refine ⟨⟨by omega, by omega, ?_⟩, fun c h0 h1 => ?_⟩
    · rw [es, fu_s, e03]
    · rw [e1, e19, es, fu_n _ _ (by omega)]
      by_cases e : c = S 0 3
      · rw [e, fu_s, fu_s]; exact ⟨rfl, hx⟩
      · rw [fu_n _ _ (by omega), fu_n _ _ e]
        exact sc.2 c h0 (by omega)
  · refine ⟨⟨by rw [e05]; exact sr.1.1, by rw [e05]; exact sr.1.2.1, by rw [sj _ (by decide) (by omega), e05]; exact sr.1.2.2⟩, ?_, ?_, ?_⟩
    · rw [etd]
      obtain ⟨o1, o2, o3, o4⟩ := ok
      refine ⟨o1, by show (S 0 3).toNat + 1 ≤ 60; omega, o3, fun r hr => ?_⟩
      have q := o4 r hr
      refine ⟨⟨q.1.1, ?_⟩, q.2⟩
      have q1 : S 20 r < ((S 0 3).toNat : Nat) := q.1.2
      show S 20 r < (((S 0 3).toNat + 1 : Nat) : Int)
      omega
    · intro r hr
      rw [e05] at hr
      rw [ek 20 (by decide) (by decide) (by decide) (by decide) (by decide) (by decide), ek 21 (by decide) (by decide) (by decide) (by decide) (by decide) (by decide), ek 22 (by decide) (by decide) (by decide) (by decide) (by decide) (by decide), ek 23 (by decide) (by decide) (by decide) (by decide) (by decide) (by decide), sj _ (by omega) (by omega), sj _ (by omega) (by omega), sj _ (by omega) (by omega), sj _ (by omega) (by omega)]
      exact sr.2.2.1 r hr
    · rw [ek 20 (by decide) (by decide) (by decide) (by decide) (by decide) (by decide), ek 21 (by decide) (by decide) (by decide) (by decide) (by decide) (by decide), ek 22 (by decide) (by decide) (by decide) (by decide) (by decide) (by decide), ek 23 (by decide) (by decide) (by decide) (by decide) (by decide) (by decide)]
      exact sr.2.2.2
  · obtain ⟨a, b, c, d⟩ := ss
    have ag : agS 877 1676 s s' := fun j h0 h1 => sj j (by omega) (by omega)
    refine ⟨by rw [e010, sj _ (by decide) (by omega)]; exact a, fun k hk => ?_, fun k k' h0 h1 q => ?_, fun q h0 h1 => ?_⟩
    · rw [e010] at hk
      rw [e03, ag _ (by omega) (by omega), ag _ (by omega) (by omega), ag _ (by omega) (by omega), ag _ (by omega) (by omega)]
      have := b k hk
      exact ⟨⟨this.1.1, by omega⟩, this.2⟩
    · rw [e010] at h1
      rw [ag _ (by omega) (by omega), ag _ (by omega) (by omega)] at q ⊢
      exact c k k' h0 h1 q
    · have n2 : (S 0 10).toNat ≤ 200 := by omega
      have cc : cN (rq s' q) (S 0 10).toNat = cN (rq s q) (S 0 10).toNat := cN_congr (fun r hr => rq_to ag q (by omega))
      rw [e010, cc, e24, e29, rjp_to ag (sj _ (by decide) (by omega)) q n2, rwm_to ag (sj _ (by decide) (by omega)) q n2]
      by_cases e : q = S 0 3
      · have no : ∀ k, k < (S 0 10).toNat → rq s q k = false := fun k hk => decide_eq_false (fun e' => by have := (b k (by omega)).1; omega)
        rw [cN_zero no, rjp_no no, rwm_no no, e, fu_s, fu_s]
        exact ⟨rfl, fun h => absurd h (by decide), rfl⟩
      · rw [fu_n _ _ e, fu_n _ _ e]
        have w := d q h0 (by omega)
        refine ⟨w.1, fun hp => ?_, w.2.2⟩
        have f1 : fst1 (rq s' q) 0 (S 0 10).toNat = fst1 (rq s q) 0 (S 0 10).toNat := fst1_congr (fun r _ hr => rq_to ag q (by omega))
        have l1 : lst (rq s' q) (S 0 10).toNat = lst (rq s q) (S 0 10).toNat := lst_congr (fun r hr => rq_to ag q (by omega))
        have b1 := fst1_lt hp
        have b2 := lst_lt hp
        rw [f1, l1, ek 25 (by decide) (by decide) (by decide) (by decide) (by decide) (by decide), ek 26 (by decide) (by decide) (by decide) (by decide) (by decide) (by decide), ek 27 (by decide) (by decide) (by decide) (by decide) (by decide) (by decide), ek 28 (by decide) (by decide) (by decide) (by decide) (by decide) (by decide), ag _ (by omega) (by omega), ag _ (by omega) (by omega), ag _ (by omega) (by omega), ag _ (by omega) (by omega)]
        exact w.2.1 hp
  · refine sp.to (by rw [ek 7 (by decide) (by decide) (by decide) (by decide) (by decide) (by decide)]) (by rw [ek 7 (by decide) (by decide) (by decide) (by decide) (by decide) (by decide)]) (by omega) (by omega) (fun c h0 h1 => ?_) (fun c h0 h1 => ?_) (agR_of (ek 9 (by decide) (by decide) (by decide) (by decide) (by decide) (by decide))) (agR_of (ek 10 (by decide) (by decide) (by decide) (by decide) (by decide) (by decide))) (agR_of (ek 11 (by decide) (by decide) (by decide) (by decide) (by decide) (by decide))) (agR_of (ek 12 (by decide) (by decide) (by decide) (by decide) (by decide) (by decide))) (agR_of (ek 13 (by decide) (by decide) (by decide) (by decide) (by decide) (by decide))) (agR_of (ek 14 (by decide) (by decide) (by decide) (by decide) (by decide) (by decide))) (agR_of (ek 15 (by decide) (by decide) (by decide) (by decide) (by decide) (by decide))) (agR_of (ek 16 (by decide) (by decide) (by decide) (by decide) (by decide) (by decide))) (agR_of (ek 17 (by decide) (by decide) (by decide) (by decide) (by decide) (by decide))) (fun c hc => ?_) (sj _ (by decide) (by omega)) (sj _ (by decide) (by omega)) (fun j h0 h1 => sj j (by omega) (by omega))
    · rw [e8, show c = S 0 3 by omega, fu_s]
    · rw [e8, fu_n _ _ (by omega)]
    · rw [etd, htr]; exact hc
  · exact su.to (by rw [ek 5 (by decide) (by decide) (by decide) (by decide) (by decide) (by decide)]) (by rw [ek 5 (by decide) (by decide) (by decide) (by decide) (by decide) (by decide)]) (agR_of (ek 6 (by decide) (by decide) (by decide) (by decide) (by decide) (by decide))) (sj _ (by decide) (by omega)) (fun j h0 h1 => sj j (by omega) (by omega))
theorem stk_at (u : Nat) (h : HI) {k : Nat} (hk : k < 30) : stk u h k = h (u + k) := by
  funext j
  unfold stk
  rw [if_pos hk]
section OP3
variable {l : Launch} {D : Nat} {ζ : ZP} {h : HI} {Q : Int → HI → Prop} {x : Int}
theorem s_hasBox (hn : 144 ≤ ζ.2.2.2.2) (hx : rg x) (hb : rg (h 4 4)) (hq : Q (if 0 ≤ x ∧ x ≤ h 4 4 - 1 then 1 else 0) h) : RtI l (D + 1) mX0_hasBox (zz ζ) [aP 4, aI x] h Q := by
  refine e_X0_hasBox hn ⟨hx, iteI (fun c => ?_) (fun c => ⟨hb, iteI (fun c2 => ?_) (fun c2 => ?_)⟩)⟩
  · rw [if_neg (by omega)] at hq; exact hq
  · rw [if_neg (by omega)] at hq; exact hq
  · rw [if_pos (by omega)] at hq; exact hq
theorem s_hasBench (hn : 144 ≤ ζ.2.2.2.2) (hx : rg x) (hb : rg (h 4 3)) (hq : Q (if 0 ≤ x ∧ x ≤ h 4 3 - 1 then 1 else 0) h) : RtI l (D + 1) mX0_hasBench (zz ζ) [aP 4, aI x] h Q := by
  refine e_X0_hasBench hn ⟨hx, iteI (fun c => ?_) (fun c => ⟨hb, iteI (fun c2 => ?_) (fun c2 => ?_)⟩)⟩
  · rw [if_neg (by omega)] at hq; exact hq
  · rw [if_neg (by omega)] at hq; exact hq
  · rw [if_pos (by omega)] at hq; exact hq
theorem s_hasCell (hn : 144 ≤ ζ.2.2.2.2) (hx : rg x) (hb : rg (h 3 3)) (hq : Q (if 0 ≤ x ∧ x ≤ h 3 3 - 1 then 1 else 0) h) : RtI l (D + 1) mX5_hasCell (zz ζ) [aP 3, aI x] h Q := by
  refine e_X5_hasCell hn ⟨hx, iteI (fun c => ?_) (fun c => ⟨hb, iteI (fun c2 => ?_) (fun c2 => ?_)⟩)⟩
  · rw [if_neg (by omega)] at hq; exact hq
  · rw [if_neg (by omega)] at hq; exact hq
  · rw [if_pos (by omega)] at hq; exact hq
theorem op_cell (i : Inv ζ h) (hx : rg x) : Op l (D + 60) ζ mX11_cell mX12_cell [aI x] h := by
  have hn := ζok_n i.1.1
  have sr : SR (stk 3 h) (h 99) (h 101) := i.1.2 2
  have a1 : h 99 1 = h 4 4 ∧ 0 ≤ h 4 4 ∧ h 4 4 ≤ 8 := ⟨sr.1.2.1.2.2, sr.1.2.1.1, sr.1.2.1.2.1⟩
  have a2 : h 99 11 = h 3 3 ∧ 0 ≤ h 3 3 ∧ h 3 3 ≤ 60 := ⟨sr.2.1.1.2.2, sr.2.1.1.1, sr.2.1.1.2.1⟩
  have g4 : rg (h 4 4) := by constructor <;> omega
  have g3 : rg (h 3 3) := by constructor <;> omega
  refine e_X11_cell hn (s_hasBox hn hx g4 ?_)
  by_cases c : 0 ≤ x ∧ x ≤ h 4 4 - 1
  · rw [if_pos c]
    refine ⟨by decide, iteP (by decide) (e_X5_addCell hn ⟨g3, iteI (fun c2 => ⟨⟨by omega, c2⟩, ?_⟩) (fun c2 => ?_)⟩)⟩
    · have fx : FL [(22, -1), (27, -1), (32, -1), (11, -1), (3, 3)] h (hu (hu (hu (hu (hu h 22 (h 3 3) x) 27 (h 3 3) 0) 32 (h 3 3) 0) 11 (h 3 3) (-1)) 3 3 (h 3 3 + 1)) := ((((FL.refl.ua rfl).ua rfl).ua rfl).ua rfl).u rfl
      have w1 : (hu (hu (hu (hu (hu h 22 (h 3 3) x) 27 (h 3 3) 0) 32 (h 3 3) 0) 11 (h 3 3) (-1)) 3 3 (h 3 3 + 1)) 22 = fu (h 22) (h 3 3) x := by funext j; simp [hu, fu]
      have w2 : (hu (hu (hu (hu (hu h 22 (h 3 3) x) 27 (h 3 3) 0) 32 (h 3 3) 0) 11 (h 3 3) (-1)) 3 3 (h 3 3 + 1)) 27 = fu (h 27) (h 3 3) 0 := by funext j; simp [hu, fu]
      have w3 : (hu (hu (hu (hu (hu h 22 (h 3 3) x) 27 (h 3 3) 0) 32 (h 3 3) 0) 11 (h 3 3) (-1)) 3 3 (h 3 3 + 1)) 32 = fu (h 32) (h 3 3) 0 := by funext j; simp [hu, fu]
      have w4 : (hu (hu (hu (hu (hu h 22 (h 3 3) x) 27 (h 3 3) 0) 32 (h 3 3) 0) 11 (h 3 3) (-1)) 3 3 (h 3 3 + 1)) 11 = fu (h 11) (h 3 3) (-1) := by funext j; simp [hu, fu]
      have w5 : (hu (hu (hu (hu (hu h 22 (h 3 3) x) 27 (h 3 3) 0) 32 (h 3 3) 0) 11 (h 3 3) (-1)) 3 3 (h 3 3 + 1)) 3 3 = h 3 3 + 1 := by simp [hu]
      generalize (hu (hu (hu (hu (hu h 22 (h 3 3) x) 27 (h 3 3) 0) 32 (h 3 3) 0) 11 (h 3 3) (-1)) 3 3 (h 3 3 + 1)) = g at fx w1 w2 w3 w4 w5 ⊢
      have e99 : g 99 = h 99 := fx.c 99 rfl
      refine ⟨fx.c _ rfl, fx.c _ rfl, e_X12_cell hn ⟨by rw [e99, a2.1]; exact g3, iteN (by rw [e99, a2.1]; omega) ?_⟩⟩
      rw [e99, a1.1]
      refine s_isIn hn hx rg_0 (by constructor <;> omega) ?_
      rw [if_pos c]
      have e11 : hu g 97 0 0 99 = h 99 := by rw [hu_c _ _ _ (by decide)]; exact e99
      rw [e11, a2.1]
      refine ⟨by decide, iteP (by decide) ⟨⟨by omega, by omega⟩, ?_⟩⟩
      have e12 : hu (hu g 97 0 0) 99 (17 + h 3 3) x 99 11 = h 3 3 := by rw [hu_j _ _ _ (by omega), e11, a2.1]
      rw [e12]
      have F : FL [(22, -1), (27, -1), (32, -1), (11, -1), (3, 3), (97, 0), (99, -1)] h (hu (hu (hu g 97 0 0) 99 (17 + h 3 3) x) 99 11 (h 3 3 + 1)) := (((fx.mono rfl).u rfl).ua rfl).ua rfl
      have v99 : (hu (hu (hu g 97 0 0) 99 (17 + h 3 3) x) 99 11 (h 3 3 + 1)) 99 = fu (fu (h 99) (17 + h 3 3) x) 11 (h 3 3 + 1) := by rw [hu_fu, hu_fu, e11]
      have vk : ∀ k, k ≠ 97 → k ≠ 99 → (hu (hu (hu g 97 0 0) 99 (17 + h 3 3) x) 99 11 (h 3 3 + 1)) k = g k := fun k h1 h2 => by rw [hu_c _ _ _ h2, hu_c _ _ _ h2, hu_c _ _ _ h1]
      generalize (hu (hu (hu g 97 0 0) 99 (17 + h 3 3) x) 99 11 (h 3 3 + 1)) = k at F v99 vk ⊢
      have S3 := SR_cell (S := stk 3 h) (S' := stk 3 k) (s := h 99) (s' := k 99) (nm := h 101) (nm' := k 101) (x := x) sr c2 ⟨c.1, by show x < h 4 4; omega⟩ (by show k 3 3 = h 3 3 + 1; rw [vk 3 (by decide) (by decide)]; exact w5) (F.at 3 5 rfl) (F.at 3 10 rfl) (fun q hq h0 h8 h19 h24 h29 => by
        rw [stk_at 3 k hq, stk_at 3 h hq]
        refine F.c (3 + q) ?_
        simp only [inC, List.any_cons, List.any_nil, Bool.or_false, Bool.or_eq_false_iff, beq_eq_false_iff_ne]
        omega) ((vk 22 (by decide) (by decide)).trans w1) ((vk 27 (by decide) (by decide)).trans w2) ((vk 32 (by decide) (by decide)).trans w3) ((vk 11 (by decide) (by decide)).trans w4) v99 (F.c 101 rfl)
      refine op_fin2 i rfl (by constructor <;> omega) F [2] rfl (new1 S3.1) ?_
      have t := i.2
      unfold trI at t ⊢
      rw [F.c 40 rfl, S3.2]
      refine ⟨t.1, fun e => ?_⟩
      have t2 := t.2 e
      rw [tru_C sr.2.2.1.2.1 (by show (h 3 3).toNat ≤ _; show _ ≤ (h 3 3).toNat + 1; omega)]
      refine ⟨t2.1.fl F rfl, ?_⟩
      have := t2.2.fl F rfl
      exact this
    · refine ⟨rfl, rfl, e_X12_cell hn ⟨by rw [a2.1]; exact g3, iteP (by rw [a2.1]; omega) ?_⟩⟩
      exact op_fin i rfl (by decide) FL.th rfl
  · rw [if_neg c]
    refine ⟨by decide, iteN (by decide) ⟨rfl, rfl, e_X12_cell hn ⟨by rw [a2.1]; exact g3, iteI (fun _ => op_fin i rfl (by decide) FL.th rfl) (fun _ => ?_)⟩⟩⟩
    rw [a1.1]
    refine s_isIn hn hx rg_0 (by constructor <;> omega) ?_
    rw [if_neg c]
    exact ⟨by decide, iteN (by decide) (op_fin i rfl (by decide) FL.th rfl)⟩
end OP3
