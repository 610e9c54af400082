/-! read -/
def rdA (h : HI) (c b v p : Int) : Prop := (0 ≤ c ∧ c ≤ h 3 3 - 1) ∧ (0 ≤ b ∧ b ≤ h 4 3 - 1) ∧ (1 ≤ v ∧ v ≤ 400) ∧ (1 ≤ p ∧ p ≤ 999) ∧ h 3 5 < 200
theorem SR_read {S S' : HI} {s s' nm nm' : Int → Int} {c b v p : Int} (i : SR S s nm) (hR : S 0 5 < 200) (hc : 0 ≤ c ∧ c < S 0 3) (hb : 0 ≤ b ∧ b < S 1 3) (hv : 1 ≤ v ∧ v ≤ 400) (hp : 1 ≤ p ∧ p ≤ 999) (e05 : S' 0 5 = S 0 5 + 1) (e03 : S' 0 3 = S 0 3) (e010 : S' 0 10 = S 0 10) (ek : ∀ k, k < 30 → k ≠ 0 → k ≠ 20 → k ≠ 21 → k ≠ 22 → k ≠ 23 → S' k = S k) (e20 : S' 20 = fu (S 20) (S 0 5) c) (e21 : S' 21 = fu (S 21) (S 0 5) b) (e22 : S' 22 = fu (S 22) (S 0 5) v) (e23 : S' 23 = fu (S 23) (S 0 5) p) (es : s' = fu (fu (fu (fu (fu s (77 + 4 * S 0 5) c) (77 + 4 * S 0 5 + 1) b) (77 + 4 * S 0 5 + 2) v) (77 + 4 * S 0 5 + 3) p) 12 (S 0 5 + 1)) (en : nm' = nm) : SR S' s' nm' := by
  obtain ⟨sa, sc, sr, ss, sp, su⟩ := i
  have kk : ∀ k, k < 30 → k ≠ 0 → k < 20 ∨ 23 < k → S' k = S k := fun k h1 h2 h3 => ek k h1 h2 (by omega) (by omega) (by omega) (by omega)
  have e1 := kk 1 (by decide) (by decide) (by decide)
  have r0 := sr.1.1
  have r1 := sc.1.2.1
  have sj : ∀ j : Int, j ≠ 12 → (j < 77 + 4 * S 0 5 ∨ 77 + 4 * S 0 5 + 3 < j) → s' j = s j := fun j h1 h2 => by rw [es, fu_n _ _ h1, fu_n _ _ (by omega), fu_n _ _ (by omega), fu_n _ _ (by omega), fu_n _ _ (by omega)]
  have ok := sr.2.1
  have R1 : (S 0 5 + 1).toNat = (S 0 5).toNat + 1 := by omega
  have fun1 : ∀ (f : Int → Int) (w : Int) (r : Nat), r < (S 0 5).toNat → fu f (S 0 5) w r = f r := fun f w r hr => fu_n _ _ (by omega)
  have ok' : TDok (td S') := by
    obtain ⟨o1, o2, o3, o4⟩ := ok
    refine ⟨by show (S' 0 5).toNat ≤ 200; omega, by show (S' 0 3).toNat ≤ 60; omega, by show (S' 1 3).toNat ≤ 6; rw [e1]; exact o3, fun r hr => ?_⟩
    have hr' : r < (S' 0 5).toNat := hr
    rw [e05, R1] at hr'
    show (0 ≤ S' 20 r ∧ S' 20 r < ((S' 0 3).toNat : Nat)) ∧ (0 ≤ S' 21 r ∧ S' 21 r < ((S' 1 3).toNat : Nat)) ∧ (1 ≤ S' 22 r ∧ S' 22 r ≤ 400) ∧ (1 ≤ S' 23 r ∧ S' 23 r ≤ 999)
    rw [e20, e21, e22, e23, e03, e1]
    by_cases e : (r : Int) = S 0 5
    · rw [e, fu_s, fu_s, fu_s, fu_s]
      exact ⟨⟨hc.1, by omega⟩, ⟨hb.1, by omega⟩, hv, hp⟩
    · rw [fu_n _ _ e, fu_n _ _ e, fu_n _ _ e, fu_n _ _ e]
      exact o4 r (by show r < (S 0 5).toNat; omega)
  refine ⟨?_, ?_, ?_, ?_, ?_, ?_⟩
  · exact sa.to (by rw [e1]) (by rw [e1]) (agR_of (kk 3 (by decide) (by decide) (by decide))) (agR_of (kk 4 (by decide) (by decide) (by decide))) (fun j h0 h1 => sj j (by omega) (by omega)) (fun j _ _ => by rw [en])
  · exact sc.to e03 (by rw [e1]) (agR_of (kk 19 (by decide) (by decide) (by decide))) (sj _ (by decide) (by omega)) (fun j h0 h1 => sj j (by omega) (by omega))
  · refine ⟨⟨by omega, by omega, by rw [es, fu_s, e05]⟩, ok', fun r hr => ?_, fun j hj => ?_⟩
    · rw [e05] at hr
      rw [e20, e21, e22, e23]
      by_cases e : (r : Int) = S 0 5
      · rw [e, fu_s, fu_s, fu_s, fu_s, es]
        refine ⟨?_, ?_, ?_, ?_⟩
        · rw [fu_n _ _ (by omega), fu_n _ _ (by omega), fu_n _ _ (by omega), fu_n _ _ (by omega), fu_s]
        · rw [fu_n _ _ (by omega), fu_n _ _ (by omega), fu_n _ _ (by omega), fu_s]
        · rw [fu_n _ _ (by omega), fu_n _ _ (by omega), fu_s]
        · rw [fu_n _ _ (by omega), fu_s]
      · rw [fu_n _ _ e, fu_n _ _ e, fu_n _ _ e, fu_n _ _ e, sj _ (by omega) (by omega), sj _ (by omega) (by omega), sj _ (by omega) (by omega), sj _ (by omega) (by omega)]
        exact sr.2.2.1 r (by omega)
    · rw [e20, e21, e22, e23, fu_n _ _ (by omega), fu_n _ _ (by omega), fu_n _ _ (by omega), fu_n _ _ (by omega)]
      exact sr.2.2.2 j hj
  · exact ss.to e010 e03 (agR_of (kk 24 (by decide) (by decide) (by decide))) (agR_of (kk 25 (by decide) (by decide) (by decide))) (agR_of (kk 26 (by decide) (by decide) (by decide))) (agR_of (kk 27 (by decide) (by decide) (by decide))) (agR_of (kk 28 (by decide) (by decide) (by decide))) (agR_of (kk 29 (by decide) (by decide) (by decide))) r1 (sj _ (by decide) (by omega)) (sj _ (by decide) (by omega)) (sj _ (by decide) (by omega)) (fun j h0 h1 => sj j (by omega) (by omega))
  · refine sp.to (by rw [kk 7 (by decide) (by decide) (by decide)]) (by rw [kk 7 (by decide) (by decide) (by decide)]) r1 (by omega) (fun c h0 h1 => by omega) (fun c h0 h1 => by rw [kk 8 (by decide) (by decide) (by decide)]) (agR_of (kk 9 (by decide) (by decide) (by decide))) (agR_of (kk 10 (by decide) (by decide) (by decide))) (agR_of (kk 11 (by decide) (by decide) (by decide))) (agR_of (kk 12 (by decide) (by decide) (by decide))) (agR_of (kk 13 (by decide) (by decide) (by decide))) (agR_of (kk 14 (by decide) (by decide) (by decide))) (agR_of (kk 15 (by decide) (by decide) (by decide))) (agR_of (kk 16 (by decide) (by decide) (by decide))) (agR_of (kk 17 (by decide) (by decide) (by decide))) (fun q hq => ?_) (sj _ (by decide) (by omega)) (sj _ (by decide) (by omega)) (fun j h0 h1 => sj j (by omega) (by omega))
    refine tru_mono ok ok' ?_ ?_ ?_ ?_ hq
    · show (S 0 5).toNat ≤ (S' 0 5).toNat; omega
    · show (S' 1 3).toNat = (S 1 3).toNat; rw [e1]
    · show (S' 0 3).toNat = (S 0 3).toNat; rw [e03]
    · intro r hr
      have hr' : r < (S 0 5).toNat := hr
      show S' 20 r = S 20 r ∧ S' 21 r = S 21 r
      rw [e20, e21]
      exact ⟨fun1 _ _ r hr', fun1 _ _ r hr'⟩
  · exact su.to (by rw [kk 5 (by decide) (by decide) (by decide)]) (by rw [kk 5 (by decide) (by decide) (by decide)]) (agR_of (kk 6 (by decide) (by decide) (by decide))) (sj _ (by decide) (by omega)) (fun j h0 h1 => sj j (by omega) (by omega))
section OP4
variable {l : Launch} {D : Nat} {ζ : ZP} {h : HI} {Q : Int → HI → Prop} {c b v p : Int}
theorem s_xread (hn : 144 ≤ ζ.2.2.2.2) (g1 : rg (h 3 3)) (g2 : rg (h 4 3)) (g3 : 0 ≤ h 3 5 ∧ h 3 5 ≤ 200) (r1 : rg c) (r2 : rg b) (r3 : rg v) (r4 : rg p) (hy : rdA h c b v p → Q (h 3 5) (hu (hu (hu (hu (hu (hu h 40 0 1) 23 (h 3 5) c) 24 (h 3 5) b) 25 (h 3 5) v) 26 (h 3 5) p) 3 5 (h 3 5 + 1))) (hz : ¬ rdA h c b v p → Q (-1) h) : RtI l (D + 10) mX11_read (zz ζ) [aP 0, aI c, aI b, aI v, aI p] h Q := by
  refine e_X11_read hn (s_hasCell hn r1 g1 ?_)
  by_cases c1 : 0 ≤ c ∧ c ≤ h 3 3 - 1
  · rw [if_pos c1]
    refine ⟨by decide, iteN (by decide) (s_hasBench hn r2 g2 ?_)⟩
    by_cases c2 : 0 ≤ b ∧ b ≤ h 4 3 - 1
    · rw [if_pos c2]
      refine ⟨by decide, iteP (by decide) (s_within hn r3 (by decide) (by decide) ?_)⟩
      by_cases c3 : 1 ≤ v ∧ v ≤ 400
      · rw [if_pos c3]
        refine ⟨by decide, iteN (by decide) (s_within hn r4 (by decide) (by decide) ?_)⟩
        by_cases c4 : 1 ≤ p ∧ p ≤ 999
        · rw [if_pos c4]
          refine ⟨by decide, iteN (by decide) ⟨by constructor <;> omega, iteI (fun c5 => e_X5_addReading hn ?_) (fun c5 => hz (fun a => c5 a.2.2.2.2))⟩⟩
          have e35 : hu h 40 0 1 3 5 = h 3 5 := by rw [hu_c _ _ _ (by decide)]
          rw [e35, show h 3 5 + 1 - 1 = h 3 5 by omega]
          exact ⟨⟨by omega, by omega⟩, hy ⟨c1, c2, c3, c4, c5⟩⟩
        · rw [if_neg c4]
          exact ⟨by decide, iteP rfl (hz (fun a => c4 a.2.2.2.1))⟩
      · rw [if_neg c3]
        exact ⟨by decide, iteP rfl (hz (fun a => c3 a.2.2.1))⟩
    · rw [if_neg c2]
      exact ⟨by decide, iteN (by decide) (hz (fun a => c2 a.2.1))⟩
  · rw [if_neg c1]
    exact ⟨by decide, iteP rfl (hz (fun a => c1 a.1))⟩
theorem s_mread (hn : 144 ≤ ζ.2.2.2.2) (g1 : rg (h 99 11 - 1)) (g2 : rg (h 99 0 - 1)) (g3 : 0 ≤ h 99 12 ∧ h 99 12 ≤ 200) (r1 : rg c) (r2 : rg b) (r3 : rg v) (r4 : rg p) {A : Prop} (hA : A ↔ (0 ≤ c ∧ c ≤ h 99 11 - 1) ∧ (0 ≤ b ∧ b ≤ h 99 0 - 1) ∧ (1 ≤ v ∧ v ≤ 400) ∧ (1 ≤ p ∧ p ≤ 999) ∧ h 99 12 < 200) (hy : A → ∀ h', FL [(97, 0), (99, -1)] h h' → h' 99 = fu (fu (fu (fu (fu (h 99) (77 + 4 * h 99 12) c) (77 + 4 * h 99 12 + 1) b) (77 + 4 * h 99 12 + 2) v) (77 + 4 * h 99 12 + 3) p) 12 (h 99 12 + 1) → Q (h 99 12) h') (hz : ¬ A → Q (-1) (hu h 97 0 0)) : RtI l (D + 10) mX12_read (zz ζ) [aP 97, aI c, aI b, aI v, aI p] h Q := by
  have e99 : hu h 97 0 0 99 = h 99 := hu_c _ _ _ (by decide)
  refine e_X12_read hn ⟨by constructor <;> omega, iteI (fun c0 => hz (fun a => by have := (hA.mp a).2.2.2.2; omega)) (fun c0 => s_isCell hn r1 (by rw [e99]; exact g1) ?_)⟩
  rw [e99]
  by_cases c1 : 0 ≤ c ∧ c ≤ h 99 11 - 1
  · rw [if_pos c1]
    refine ⟨by decide, iteN (by decide) (s_isIn hn r2 rg_0 g2 ?_)⟩
    by_cases c2 : 0 ≤ b ∧ b ≤ h 99 0 - 1
    · rw [if_pos c2]
      refine ⟨by decide, iteN (by decide) (s_isIn hn r3 (by decide) (by decide) ?_)⟩
      by_cases c3 : 1 ≤ v ∧ v ≤ 400
      · rw [if_pos c3]
        refine ⟨by decide, iteN (by decide) (s_isIn hn r4 (by decide) (by decide) ?_)⟩
        by_cases c4 : 1 ≤ p ∧ p ≤ 999
        · rw [if_pos c4, e99]
          refine ⟨by decide, iteP (by decide) ⟨⟨by omega, by omega⟩, ⟨by omega, by omega⟩, ⟨by omega, by omega⟩, ⟨by omega, by omega⟩, ?_⟩⟩
          have e12 : (hu (hu (hu (hu (hu h 97 0 0) 99 (77 + 4 * h 99 12) c) 99 (77 + 4 * h 99 12 + 1) b) 99 (77 + 4 * h 99 12 + 2) v) 99 (77 + 4 * h 99 12 + 3) p) 99 12 = h 99 12 := by
            rw [hu_j _ _ _ (by omega), hu_j _ _ _ (by omega), hu_j _ _ _ (by omega), hu_j _ _ _ (by omega), e99]
          rw [e12, show h 99 12 + 1 - 1 = h 99 12 by omega]
          refine hy (hA.mpr ⟨c1, c2, c3, c4, by omega⟩) _ ((((((FL.refl.u rfl).ua rfl).ua rfl).ua rfl).ua rfl).ua rfl) ?_
          rw [hu_fu, hu_fu, hu_fu, hu_fu, hu_fu, e99]
        · rw [if_neg c4]
          exact ⟨by decide, iteN (by decide) (hz (fun a => c4 (hA.mp a).2.2.2.1))⟩
      · rw [if_neg c3]
        exact ⟨by decide, iteP rfl (hz (fun a => c3 (hA.mp a).2.2.1))⟩
    · rw [if_neg c2]
      exact ⟨by decide, iteP rfl (hz (fun a => c2 (hA.mp a).2.1))⟩
  · rw [if_neg c1]
    exact ⟨by decide, iteP rfl (hz (fun a => c1 (hA.mp a).1))⟩
theorem op_read (i : Inv ζ h) (r1 : rg c) (r2 : rg b) (r3 : rg v) (r4 : rg p) : Op l (D + 60) ζ mX11_read mX12_read [aI c, aI b, aI v, aI p] h := by
  have hn := ζok_n i.1.1
  have sr : SR (stk 3 h) (h 99) (h 101) := i.1.2 2
  have a0 : h 99 0 = h 4 3 ∧ 0 ≤ h 4 3 ∧ h 4 3 ≤ 6 := ⟨sr.1.1.2.2, sr.1.1.1, sr.1.1.2.1⟩
  have a2 : h 99 11 = h 3 3 ∧ 0 ≤ h 3 3 ∧ h 3 3 ≤ 60 := ⟨sr.2.1.1.2.2, sr.2.1.1.1, sr.2.1.1.2.1⟩
  have a3 : h 99 12 = h 3 5 ∧ 0 ≤ h 3 5 ∧ h 3 5 ≤ 200 := ⟨sr.2.2.1.1.2.2, sr.2.2.1.1.1, sr.2.2.1.1.2.1⟩
  refine s_xread hn (by constructor <;> omega) (by constructor <;> omega) ⟨a3.2.1, a3.2.2⟩ r1 r2 r3 r4 (fun A => ?_) (fun A => ?_)
  · generalize hg : (hu (hu (hu (hu (hu (hu h 40 0 1) 23 (h 3 5) c) 24 (h 3 5) b) 25 (h 3 5) v) 26 (h 3 5) p) 3 5 (h 3 5 + 1)) = g
    have fx : FL [(40, 0), (23, -1), (24, -1), (25, -1), (26, -1), (3, 5)] h g := by subst hg; exact (((((FL.refl.u rfl).ua rfl).ua rfl).ua rfl).ua rfl).u rfl
    have w0 : g 40 0 = 1 := by subst hg; simp [hu]
    have w1 : g 23 = fu (h 23) (h 3 5) c := by subst hg; funext j; simp [hu, fu]
    have w2 : g 24 = fu (h 24) (h 3 5) b := by subst hg; funext j; simp [hu, fu]
    have w3 : g 25 = fu (h 25) (h 3 5) v := by subst hg; funext j; simp [hu, fu]
    have w4 : g 26 = fu (h 26) (h 3 5) p := by subst hg; funext j; simp [hu, fu]
    have w5 : g 3 5 = h 3 5 + 1 := by subst hg; simp [hu]
    have e99 : g 99 = h 99 := fx.c 99 rfl
    refine ⟨fx.c _ rfl, fx.c _ rfl, s_mread hn (A := rdA h c b v p) (by rw [e99, a2.1]; constructor <;> omega) (by rw [e99, a0.1]; constructor <;> omega) (by rw [e99, a3.1]; exact ⟨a3.2.1, a3.2.2⟩) r1 r2 r3 r4 (by rw [e99, a0.1, a2.1, a3.1]; exact Iff.rfl) (fun _ k fm e => ?_) (fun nA => absurd A nA)⟩
    rw [e99, a3.1] at e ⊢
    have F : FL [(40, 0), (23, -1), (24, -1), (25, -1), (26, -1), (3, 5), (97, 0), (99, -1)] h k := (fx.mono rfl).trans (fm.mono rfl)
    obtain ⟨A1, A2, A3, A4, A5⟩ := A
    refine op_fin2 i rfl (by constructor <;> omega) F [2] rfl (new1 (n := 2) ?_) ⟨Or.inr ?_, fun z => ?_⟩
    · refine SR_read (S := stk 3 h) (S' := stk 3 k) (s := h 99) (s' := k 99) (nm := h 101) (nm' := k 101) sr A5 ⟨A1.1, by show c < h 3 3; omega⟩ ⟨A2.1, by show b < h 4 3; omega⟩ A3 A4 ((fm.at 3 5 rfl).trans w5) (F.at 3 3 rfl) (F.at 3 10 rfl) (fun q hq h0 h1 h2 h3 h4 => ?_) ((fm.c 23 rfl).trans w1) ((fm.c 24 rfl).trans w2) ((fm.c 25 rfl).trans w3) ((fm.c 26 rfl).trans w4) e (F.c 101 rfl)
      rw [stk_at 3 k hq, stk_at 3 h hq]
      refine F.c (3 + q) ?_
      simp only [inC, List.any_cons, List.any_nil, Bool.or_false, Bool.or_eq_false_iff, beq_eq_false_iff_ne]
      omega
    · rw [fm.at 40 0 rfl]; exact w0
    · rw [fm.at 40 0 rfl, w0] at z; cases z
  · refine ⟨rfl, rfl, s_mread hn (A := rdA h c b v p) (by rw [a2.1]; constructor <;> omega) (by rw [a0.1]; constructor <;> omega) (by rw [a3.1]; exact ⟨a3.2.1, a3.2.2⟩) r1 r2 r3 r4 (by rw [a0.1, a2.1, a3.1]; exact Iff.rfl) (fun A' => absurd A' A) (fun _ => op_fin i rfl (by decide) FL.th rfl)⟩
end OP4
