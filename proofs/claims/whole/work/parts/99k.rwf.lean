/-! rows: some way there always is; class and reference, whole searches -/
theorem us_mod {s : Nat} (s1 : 1 ≤ s) : ∀ j : Nat, usW (fun j => j % (s : Int)) j = if j ≤ s then (j : Int) else s
  | 0 => by rw [if_pos (by omega)]; rfl
  | j + 1 => by
    have ih := us_mod s1 j
    show (if (j : Int) % (s : Int) = usW (fun j => j % (s : Int)) j then usW (fun j => j % (s : Int)) j + 1 else usW (fun j => j % (s : Int)) j) = _
    rw [ih]
    have b := Int.emod_lt_of_pos (j : Int) (show (0 : Int) < s by omega)
    by_cases c : j < s
    · rw [if_pos (show j ≤ s by omega), Int.emod_eq_of_lt (by omega) (by omega), if_pos rfl, if_pos (by omega)]; omega
    · by_cases c2 : j = s
      · subst c2
        rw [if_pos (Nat.le_refl _), Int.emod_self, if_neg (by omega), if_neg (by omega)]
      · rw [if_neg (show ¬ j ≤ s by omega), if_neg (by omega), if_neg (by omega)]
theorem cn_mod {s r : Nat} (hr : r < s) : ∀ q t : Nat, t ≤ s → cnW (fun j => j % (s : Int)) r (s * q + t) = q + (if r < t then 1 else 0)
  | 0, 0, _ => by rw [Nat.mul_zero, if_neg (by omega)]; rfl
  | q + 1, 0, _ => by
    have ih := cn_mod hr q s (Nat.le_refl _)
    rw [show s * (q + 1) + 0 = s * q + s by rw [Nat.mul_add]; omega, ih, if_pos hr, if_neg (by omega)]; omega
  | q, t + 1, ht => by
    have ih := cn_mod hr q t (by omega)
    have e : ((s * q + t : Nat) : Int) % (s : Int) = ((s * q + t) % s : Nat) := rfl
    have e2 : (s * q + t) % s = t := by rw [Nat.mul_add_mod, Nat.mod_eq_of_lt (by omega)]
    show cnW (fun j => j % (s : Int)) r (s * q + t) + (if decide (((s * q + t : Nat) : Int) % (s : Int) = r) then 1 else 0) = _
    rw [ih, e, e2]
    by_cases c : t = r
    · rw [decide_eq_true (show (t : Int) = r by omega), if_neg (by omega), if_pos rfl, if_pos (by omega)]; omega
    · rw [decide_eq_false (show ¬ (t : Int) = r by omega)]
      by_cases c2 : r < t
      · rw [if_pos c2, if_pos (show r < t + 1 by omega)]; simp
      · rw [if_neg c2, if_neg (show ¬ r < t + 1 by omega)]; simp
theorem rwC_ex {s e n : Nat} (s1 : 1 ≤ s) (hse : s * e = n) : rwC s e n (fun j => j % (s : Int)) := by
  refine ⟨fun j hj => ?_, fun r hr => ?_⟩
  · have a := Int.emod_nonneg (j : Int) (show (s : Int) ≠ 0 by omega)
    have b := Int.emod_lt_of_pos (j : Int) (show (0 : Int) < s by omega)
    rw [us_mod s1]
    refine ⟨a, ?_, b⟩
    show (j : Int) % (s : Int) ≤ _
    split
    · by_cases c : j < s
      · rw [Int.emod_eq_of_lt (by omega) (by omega)]; omega
      · have : j = s := by omega
        subst this
        omega
    · omega
  · have := cn_mod hr e 0 (by omega)
    rw [Nat.add_zero, hse, if_neg (by omega)] at this
    rw [this]; omega
theorem rwR_of {n : Nat} {C : (Int → Int) → Prop} {f : (Int → Int) → Int} {p w0 w w1 : Int → Int} {L0 L : Int} (h : rwS n C f (exW 0 p) L0 L w0 w) (c1 : C w1) (l1 : f w1 < L0) : rwR n C f L w ∧ L < L0 := by
  have x : ∀ u, exW 0 p u := fun u j hj => absurd hj (by omega)
  have a := h.2.2.1 w1 c1 (x w1)
  have lt : L < L0 := by omega
  have q := h.2.2.2 lt
  exact ⟨⟨q.1, q.2.2.1, fun u cu => ⟨h.2.2.1 u cu (x u), q.2.2.2 u cu (x u)⟩⟩, lt⟩
theorem rwV_lt {v fl : Int → Int} {s n : Nat} {u : Int → Int} (s1 : 1 ≤ s) (n12 : n ≤ 12) (vb : ∀ j : Nat, j < n → 0 ≤ v j ∧ v j ≤ 10000) (fb : ∀ j : Nat, j < n → 0 ≤ fl j ∧ fl j ≤ 1000000) : rwV v fl s n u < rv3 (-1) 2147483647 2147483647 := by
  have w1 := w_bdL (t := v) (u := u) (s := s) (n := n) s1 vb
  have w2 := w_bdL (t := fl) (u := u) (s := s) (n := n) s1 fb
  unfold rwV
  rw [rv3_lt (by unfold rvK; omega) (by unfold rvK; omega) (by unfold rvK; omega) (by unfold rvK; omega)]
  omega
theorem rwV_lt0 {v fl : Int → Int} {s n : Nat} {u : Int → Int} (s1 : 1 ≤ s) (n12 : n ≤ 12) (vb : ∀ j : Nat, j < n → 0 ≤ v j ∧ v j ≤ 10000) (fb : ∀ j : Nat, j < n → 0 ≤ fl j ∧ fl j ≤ 1000000) : rwV v fl s n u < rv3 (-1) 0 0 := by
  have w1 := w_bdL (t := v) (u := u) (s := s) (n := n) s1 vb
  have w2 := w_bdL (t := fl) (u := u) (s := s) (n := n) s1 fb
  unfold rwV
  rw [rv3_lt (by unfold rvK; omega) (by unfold rvK; omega) (by unfold rvK; omega) (by unfold rvK; omega)]
  omega
theorem rv3_inj {a b c a' b' c' : Int} (hb : 0 ≤ b ∧ b < rvK) (hc : 0 ≤ c ∧ c < rvK) (hb' : 0 ≤ b' ∧ b' < rvK) (hc' : 0 ≤ c' ∧ c' < rvK) (e : rv3 a b c = rv3 a' b' c') : a = a' ∧ b = b' ∧ c = c' := by
  have p := rv3_lt (a := a) (a' := a') hb hc hb' hc'
  have q := rv3_lt (a := a') (a' := a) hb' hc' hb hc
  rw [e] at p q
  omega
def LXr : List (Nat × Int) := [(52, -1), (53, -1), (54, -1), (55, -1), (56, -1), (57, -1), (58, -1), (59, -1), (60, -1), (61, -1), (62, -1), (63, -1), (64, -1)]
def LMr : List (Nat × Int) := (97, 48) :: (97, 49) :: (97, 50) :: (121, -1) :: rmL
section RWF
variable {l : Launch} {D : Nat} {ζ : ZP} {v fl : Int → Int} {s e n : Nat} {Q : Int → HI → Prop} {g : HI}
theorem s_xrows (hn : 144 ≤ ζ.2.2.2.2) (n1 : 1 ≤ n) (n12 : n ≤ 12) (s1 : 1 ≤ s) (s12 : s ≤ 12) (hse : s * e = n) {c : Int → Int} (hc : ∀ j : Nat, j < n → (0 ≤ c j ∧ c j < 60) ∧ g 51 j = c j ∧ (g 44 (c j) = v j ∧ 0 ≤ v j ∧ v j ≤ 10000) ∧ (1 ≤ g 45 (c j) ∧ g 45 (c j) ≤ 10000) ∧ (1000000 : Int).tdiv (g 45 (c j)) = fl j ∧ 0 ≤ fl j ∧ fl j ≤ 1000000) (z : rzI g) (hq : ∀ GX, FL LXr g GX → GX 52 0 = n → rbO GX → rzI GX → rwR n (rwC s e n) (rwV v fl s n) (rLB GX) (GX 53) → Q (GX 52 2) GX) : RtV l (D + 59) mX2_start (zz ζ) [aP 52, aI n, aI s] g (fun h3 => G l (D + 60) 0 0 mX11_rows (zz ζ) 30 [aP 0, aU, aI n, aI 0] [] h3 (qI (zz ζ) Q)) := by
  have vb : ∀ j : Nat, j < n → 0 ≤ v j ∧ v j ≤ 10000 := fun j hj => (hc j hj).2.2.1.2
  have fb : ∀ j : Nat, j < n → 0 ≤ fl j ∧ fl j ≤ 1000000 := fun j hj => (hc j hj).2.2.2.2.2
  have ediv : (n : Int).tdiv s = e := by
    rw [← hse, Int.natCast_mul, Int.mul_comm]
    exact Int.mul_tdiv_cancel _ (by omega)
  -- the cells told, then the search
  have tell : ∀ (m k : Nat) (g' : HI), k + m = n → FL [(52, -1), (54, -1), (55, -1), (57, -1), (58, -1), (59, -1)] g g' → (g' 52 0 = n ∧ g' 52 5 = s ∧ g' 52 6 = e) → (g' 52 2 = -1 ∧ g' 52 3 = 0 ∧ g' 52 4 = 0) → (∀ r : Nat, r < s → g' 57 r = 0 ∧ g' 58 r = 0 ∧ g' 59 r = 0) → (∀ j : Nat, j < k → g' 54 j = v j ∧ g' 55 j = fl j) → G l (D + 60) 0 0 mX11_rows (zz ζ) 30 [aP 0, aU, aI n, aI k] [] g' (qI (zz ζ) Q) := by
    intro m
    induction m with
    | succ m ih =>
      intro k g' hk f a0 a2 a57 a54
      have ck := hc k (by omega)
      refine b_X11_rows_30 hn ⟨by constructor <;> omega, by constructor <;> omega, iteN (by omega) ⟨⟨by omega, by omega⟩, ?_⟩⟩
      rw [f.c 51 rfl, ck.2.1]
      refine ⟨ck.1, e_X8_flowOf hn ⟨ck.1, ?_⟩⟩
      rw [f.c 45 rfl, f.c 44 rfl, ck.2.2.1.1]
      refine s_cut hn (by decide) (by constructor <;> omega) ?_
      rw [if_neg (by omega), ck.2.2.2.2.1]
      refine e_X2_tell hn ⟨⟨by omega, by omega⟩, ?_⟩
      have kk := ih (k + 1) (hu (hu g' 54 k (v k)) 55 k (fl k)) (by omega) ((f.ua rfl).ua rfl) (by rw [hu_c _ _ _ (by decide), hu_c _ _ _ (by decide)]; exact a0) (by rw [hu_c _ _ _ (by decide), hu_c _ _ _ (by decide)]; exact a2) (fun r hr => by rw [hu_c _ _ _ (by decide), hu_c _ _ _ (by decide), hu_c _ _ _ (by decide), hu_c _ _ _ (by decide), hu_c _ _ _ (by decide), hu_c _ _ _ (by decide)]; exact a57 r hr) (fun j hj => by
        by_cases e : j = k
        · rw [e, hu_c _ _ _ (by decide), hu_s, hu_s]; exact ⟨rfl, rfl⟩
        · rw [hu_c _ _ _ (by decide), hu_j _ _ _ (by omega), hu_j _ _ _ (by omega), hu_c _ _ _ (by decide)]; exact a54 j (by omega))
      rw [show ((k + 1 : Nat) : Int) = (k : Int) + 1 by omega] at kk
      exact kk
    | zero =>
      intro k g' hk f a0 a2 a57 a54
      have : k = n := by omega
      subst this
      have z' : rzI g' := by unfold rzI at z ⊢; rw [f.c 60 rfl, f.c 61 rfl, f.c 62 rfl, f.c 63 rfl]; exact z
      refine b_X11_rows_30 hn ⟨by constructor <;> omega, by constructor <;> omega, iteP (by omega) (e_X2_find hn (s_addUp_h hn n1 n12 (v := v) a0.1 (fun j hj => ⟨(a54 j hj).1, by have := vb j hj; omega, by have := vb j hj; omega⟩) (fun q q0 q1 => ⟨(z' q q0 q1).1, (z' q q0 q1).2.1⟩) (fun g1 f1 dn1 z1 => s_addUp_f hn n1 n12 (v := fl) (by rw [f1.at 52 0 rfl]; exact a0.1) (fun j hj => ⟨by rw [f1.c 55 rfl]; exact (a54 j hj).2, by have := fb j hj; omega, (fb j hj).2⟩) (fun q q0 q1 => by rw [f1.c 62 rfl, f1.c 63 rfl]; exact ⟨(z' q q0 q1).2.2.1, (z' q q0 q1).2.2.2⟩) (fun g2 f2 dn2 z2 => ?_))))⟩
      have H : rowH v fl s e k g2 := by
        refine ⟨?_, fun j hj => ?_, ?_, dn2, fun q q0 q1 => ?_⟩
        · rw [f2.c 52 rfl, f1.c 52 rfl]; exact a0
        · rw [f2.c 54 rfl, f1.c 54 rfl, f2.c 55 rfl, f1.c 55 rfl]
          exact ⟨⟨(a54 j hj).1, vb j hj⟩, (a54 j hj).2, fb j hj⟩
        · unfold dnh at dn1 ⊢
          rw [f2.c 60 rfl, f2.c 61 rfl]; exact dn1
        · have := z1 q q0 q1
          rw [f2.c 60 rfl, f2.c 61 rfl]
          exact ⟨this.1, this.2, z2 q q0 q1⟩
      have P : rwP v fl s e 0 (g2 56) g2 := ⟨fun j hj => absurd hj (by omega), fun r hr => ⟨by
        rw [f2.c 57 rfl, f1.c 57 rfl, f2.c 58 rfl, f1.c 58 rfl, f2.c 59 rfl, f1.c 59 rfl]; exact a57 r hr, by show (0 : Int) ≤ e; omega⟩⟩
      have e52 : g2 52 = g' 52 := by rw [f2.c 52 rfl, f1.c 52 rfl]
      have B : rbO g2 := by unfold rbO; rw [e52, a2.1, a2.2.1, a2.2.2]; omega
      have eL : rLB g2 = rv3 (-1) 0 0 := by unfold rLB; rw [e52, a2.1, a2.2.1, a2.2.2]
      rw [show D + 58 = (D + 54 - k) + k + 4 by omega]
      refine s_rplace hn n12 s1 s12 hse k 0 g2 _ (by omega) H P B (fun y => absurd y (by omega)) (fun g3 f3 _ _ B3 S3 => ?_)
      rw [eL] at S3
      have rr := rwR_of S3 (rwC_ex s1 hse) (rwV_lt0 s1 n12 vb fb)
      have F : FL LXr g g3 := (((f.mono rfl).trans (f1.mono rfl)).trans (f2.mono rfl)).trans (f3.mono rfl)
      exact hq g3 F (by rw [f3.at 52 0 rfl, e52]; exact a0.1) B3 (by have := (H.fl f3).2.2.2.2; exact this) rr.1
  refine e_X2_start hn (s_cut hn (by constructor <;> omega) (by constructor <;> omega) ?_)
  rw [if_neg (by omega), ediv]
  have zero : ∀ (m r : Nat) (g' : HI), r + m = s → FL [(52, -1), (54, -1), (55, -1), (57, -1), (58, -1), (59, -1)] g g' → (g' 52 0 = n ∧ g' 52 5 = s ∧ g' 52 6 = e) → (g' 52 2 = -1 ∧ g' 52 3 = 0 ∧ g' 52 4 = 0) → (∀ q : Nat, q < r → g' 57 q = 0 ∧ g' 58 q = 0 ∧ g' 59 q = 0) → G l (D + 59) 0 0 mX2_start (zz ζ) 36 [aP 52, aU, aU, aI r] [] g' (qV (zz ζ) (fun h3 => G l (D + 60) 0 0 mX11_rows (zz ζ) 30 [aP 0, aU, aI n, aI 0] [] h3 (qI (zz ζ) Q))) := by
    intro m
    induction m with
    | zero =>
      intro r g' hr f a0 a2 a57
      have : r = s := by omega
      subst this
      exact b_X2_start_36 hn ⟨by constructor <;> omega, by rw [a0.2.1]; constructor <;> omega, iteP (by rw [a0.2.1]; omega) (tell n 0 g' (by omega) f a0 a2 a57 (fun j hj => absurd hj (by omega)))⟩
    | succ m ih =>
      intro r g' hr f a0 a2 a57
      refine b_X2_start_36 hn ⟨by constructor <;> omega, by rw [a0.2.1]; constructor <;> omega, iteN (by rw [a0.2.1]; omega) ⟨⟨by omega, by omega⟩, ?_⟩⟩
      have kk := ih (r + 1) (hu (hu (hu g' 57 r 0) 58 r 0) 59 r 0) (by omega) (((f.ua rfl).ua rfl).ua rfl) (by rw [hu_c _ _ _ (by decide), hu_c _ _ _ (by decide), hu_c _ _ _ (by decide)]; exact a0) (by rw [hu_c _ _ _ (by decide), hu_c _ _ _ (by decide), hu_c _ _ _ (by decide)]; exact a2) (fun q hq1 => by
        by_cases e : q = r
        · rw [e, hu_c _ _ _ (by decide), hu_c _ _ _ (by decide), hu_s, hu_c _ _ _ (by decide), hu_s, hu_s]; exact ⟨rfl, rfl, rfl⟩
        · rw [hu_c _ _ _ (by decide), hu_c _ _ _ (by decide), hu_j _ _ _ (by omega), hu_c _ _ _ (by decide), hu_j _ _ _ (by omega), hu_c _ _ _ (by decide), hu_j _ _ _ (by omega), hu_c _ _ _ (by decide), hu_c _ _ _ (by decide)]; exact a57 q (by omega))
      rw [show ((r + 1 : Nat) : Int) = (r : Int) + 1 by omega] at kk
      exact kk
  refine zero s 0 _ (by omega) ((((((FL.refl.ua rfl).ua rfl).ua rfl).ua rfl).ua rfl).ua rfl) ?_ ?_ (fun q hq1 => absurd hq1 (by omega))
  · refine ⟨?_, ?_, ?_⟩
    · rw [hu_j _ _ _ (by decide), hu_j _ _ _ (by decide), hu_j _ _ _ (by decide), hu_j _ _ _ (by decide), hu_j _ _ _ (by decide), hu_s]
    · rw [hu_j _ _ _ (by decide), hu_j _ _ _ (by decide), hu_j _ _ _ (by decide), hu_j _ _ _ (by decide), hu_s]
    · rw [hu_j _ _ _ (by decide), hu_j _ _ _ (by decide), hu_j _ _ _ (by decide), hu_s]
  · refine ⟨?_, ?_, ?_⟩
    · rw [hu_j _ _ _ (by decide), hu_j _ _ _ (by decide), hu_s]
    · rw [hu_j _ _ _ (by decide), hu_s]
    · rw [hu_s]
theorem s_mrows (hn : 144 ≤ ζ.2.2.2.2) (n1 : 1 ≤ n) (n12 : n ≤ 12) (s1 : 1 ≤ s) (s12 : s ≤ 12) (hse : s * e = n) (H : mrH v fl n g) (hq : ∀ GM, FL LMr g GM → GM 97 48 = n → GM 97 49 = GM 97 45 → GM 97 50 = GM 97 46 → (∀ j : Nat, j < n → GM 121 j = GM 120 j) → rmO GM → mLB GM < rv3 (-1) 2147483647 2147483647 → rwR n (rwC s e n) (rwV v fl s n) (mLB GM) (GM 120) → Q (GM 97 44) GM) : G l (D + 60) 0 0 mX12_rows (zz ζ) 48 [aP 97, aI s, aI 0, aU, aU] [] g (qI (zz ζ) Q) := by
  have vb : ∀ j : Nat, j < n → 0 ≤ v j ∧ v j ≤ 10000 := fun j hj => (H.2 j hj).2.1.2
  have fb : ∀ j : Nat, j < n → 0 ≤ fl j ∧ fl j ≤ 1000000 := fun j hj => (H.2 j hj).2.2.2.2
  have copy : ∀ (m j : Nat) (k : HI), j + m = n → FL LMr g k → k 97 48 = n → k 97 49 = k 97 45 → k 97 50 = k 97 46 → (∀ q : Nat, q < j → k 121 q = k 120 q) → rmO k → mLB k < rv3 (-1) 2147483647 2147483647 → rwR n (rwC s e n) (rwV v fl s n) (mLB k) (k 120) → G l (D + 60) 0 0 mX12_rows (zz ζ) 310 [aP 97, aU, aU, aU, aI j] [] k (qI (zz ζ) Q) := by
    intro m
    induction m with
    | zero =>
      intro j k hj f a48 a49 a50 a121 B lt R
      have : j = n := by omega
      subst this
      have e43 : k 97 43 = j := by rw [f.at 97 43 rfl]; exact H.1
      exact b_X12_rows_310 hn ⟨by constructor <;> omega, by rw [e43]; constructor <;> omega, iteP (by rw [e43]; omega) (hq k f a48 a49 a50 a121 B lt R)⟩
    | succ m ih =>
      intro j k hj f a48 a49 a50 a121 B lt R
      have e43 : k 97 43 = n := by rw [f.at 97 43 rfl]; exact H.1
      refine b_X12_rows_310 hn ⟨by constructor <;> omega, by rw [e43]; constructor <;> omega, iteN (by rw [e43]; omega) ⟨⟨by omega, by omega⟩, ⟨by omega, by omega⟩, ?_⟩⟩
      have eL : mLB (hu k 121 j (k 120 j)) = mLB k := by unfold mLB; rw [hu_c _ _ _ (by decide)]
      have kk := ih (j + 1) (hu k 121 j (k 120 j)) (by omega) (f.ua rfl) (by rw [hu_c _ _ _ (by decide)]; exact a48) (by rw [hu_c _ _ _ (by decide)]; exact a49) (by rw [hu_c _ _ _ (by decide)]; exact a50) (fun q hq1 => by
        rw [hu_c k (k := 121) (a := 120) _ _ (by decide)]
        by_cases e : q = j
        · rw [e, hu_s]
        · rw [hu_j _ _ _ (by omega)]; exact a121 q (by omega)) (by unfold rmO; rw [hu_c _ _ _ (by decide)]; exact B) (by rw [eL]; exact lt) (by rw [eL, hu_c _ _ _ (by decide)]; exact R)
      rw [show ((j + 1 : Nat) : Int) = (j : Int) + 1 by omega] at kk
      exact kk
  have zero : ∀ (m r : Nat) (g' : HI), r + m = s → FL rmL g g' → (∀ q : Nat, q < r → g' 117 q = 0 ∧ g' 118 q = 0 ∧ g' 119 q = 0) → G l (D + 60) 0 0 mX12_rows (zz ζ) 48 [aP 97, aI s, aI r, aU, aU] [] g' (qI (zz ζ) Q) := by
    intro m
    induction m with
    | succ m ih =>
      intro r g' hr f a57
      refine b_X12_rows_48 hn ⟨by constructor <;> omega, by constructor <;> omega, iteN (by omega) ⟨⟨by omega, by omega⟩, ?_⟩⟩
      have kk := ih (r + 1) (hu (hu (hu g' 117 r 0) 118 r 0) 119 r 0) (by omega) (((f.ua rfl).ua rfl).ua rfl) (fun q hq1 => by
        by_cases e : q = r
        · rw [e, hu_c _ _ _ (by decide), hu_c _ _ _ (by decide), hu_s, hu_c _ _ _ (by decide), hu_s, hu_s]; exact ⟨rfl, rfl, rfl⟩
        · rw [hu_c _ _ _ (by decide), hu_c _ _ _ (by decide), hu_j _ _ _ (by omega), hu_c _ _ _ (by decide), hu_j _ _ _ (by omega), hu_c _ _ _ (by decide), hu_j _ _ _ (by omega), hu_c _ _ _ (by decide), hu_c _ _ _ (by decide)]; exact a57 q (by omega))
      rw [show ((r + 1 : Nat) : Int) = (r : Int) + 1 by omega] at kk
      exact kk
    | zero =>
      intro r g' hr f a57
      have : r = s := by omega
      subst this
      refine b_X12_rows_48 hn ⟨by constructor <;> omega, by constructor <;> omega, iteP (by omega) ?_⟩
      have F0 : FL rmL g (hu (hu g' 97 44 (-1)) 116 0 0) := (f.u rfl).ua rfl
      have e44 : (hu (hu g' 97 44 (-1)) 116 0 0) 97 44 = -1 := by rw [hu_c _ _ _ (by decide), hu_s]
      have e116 : (hu (hu g' 97 44 (-1)) 116 0 0) 116 0 = 0 := hu_s _ _ _ _
      have e117 : ∀ q : Nat, q < r → (hu (hu g' 97 44 (-1)) 116 0 0) 117 q = 0 ∧ (hu (hu g' 97 44 (-1)) 116 0 0) 118 q = 0 ∧ (hu (hu g' 97 44 (-1)) 116 0 0) 119 q = 0 := fun q hq1 => by
        rw [hu_c _ _ _ (by decide), hu_c _ _ _ (by decide), hu_c _ _ _ (by decide), hu_c _ _ _ (by decide), hu_c _ _ _ (by decide), hu_c _ _ _ (by decide)]; exact a57 q hq1
      generalize (hu (hu g' 97 44 (-1)) 116 0 0) = g0 at F0 e44 e116 e117 ⊢
      have eL : mLB g0 = rv3 (-1) 2147483647 2147483647 := by unfold mLB; rw [if_pos e44]
      refine s_mwalk (D := D + 56) hn n1 n12 s1 s12 hse n 0 g0 (by omega) (H.fl F0) ⟨fun j hj => absurd hj (by omega), fun q hq1 => ⟨⟨(e117 q hq1).2.1, (e117 q hq1).2.2, (e117 q hq1).1⟩, by show (0 : Int) ≤ e; omega⟩⟩ ⟨by rw [e44]; omega, fun y => absurd e44 y⟩ (fun _ => e116) (fun g1 f1 _ _ _ B1 S1 => ?_)
      rw [eL] at S1
      have rr := rwR_of S1 (rwC_ex s1 hse) (rwV_lt s1 n12 vb fb)
      unfold mCt
      rw [if_pos rfl]
      refine b_X12_rows_96 hn ⟨by decide, iteP (by decide) ?_⟩
      have e43 : g1 97 43 = n := by rw [(F0.trans f1).at 97 43 rfl]; exact H.1
      rw [e43]
      have eL1 : mLB (hu (hu (hu g1 97 48 n) 97 49 (g1 97 45)) 97 50 (g1 97 46)) = mLB g1 := by
        unfold mLB
        rw [hu_j _ _ _ (by decide), hu_j _ _ _ (by decide), hu_j _ _ _ (by decide), hu_j _ _ _ (by decide), hu_j _ _ _ (by decide), hu_j _ _ _ (by decide), hu_j _ _ _ (by decide), hu_j _ _ _ (by decide), hu_j _ _ _ (by decide)]
      refine copy n 0 _ (by omega) ((((F0.trans f1).mono rfl).u rfl).u rfl |>.u rfl) ?_ ?_ ?_ (fun q hq1 => absurd hq1 (by omega)) ?_ (by rw [eL1]; exact rr.2) ?_
      · rw [hu_j _ _ _ (by decide), hu_j _ _ _ (by decide), hu_s]
      · rw [hu_j _ _ _ (by decide), hu_s, hu_j _ _ _ (by decide), hu_j _ _ _ (by decide), hu_j _ _ _ (by decide)]
      · rw [hu_s, hu_j _ _ _ (by decide), hu_j _ _ _ (by decide), hu_j _ _ _ (by decide)]
      · unfold rmO
        rw [hu_j _ _ _ (by decide), hu_j _ _ _ (by decide), hu_j _ _ _ (by decide), hu_j _ _ _ (by decide), hu_j _ _ _ (by decide), hu_j _ _ _ (by decide), hu_j _ _ _ (by decide), hu_j _ _ _ (by decide), hu_j _ _ _ (by decide)]
        exact B1
      · rw [eL1, hu_c _ _ _ (by decide), hu_c _ _ _ (by decide), hu_c _ _ _ (by decide)]; exact rr.1
  exact zero s 0 g (by omega) FL.refl (fun q hq1 => absurd hq1 (by omega))
end RWF
