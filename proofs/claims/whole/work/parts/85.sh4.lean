/-! share: the reference's count through all ways -/
def dgW (b : Nat) (q : Int) : Nat → Int → Int
  | 0, _ => 0
  | k + 1, j => if j = k then q % b else dgW b (q / b) k j
theorem nmW_congr {b : Nat} {w w' : Int → Int} : ∀ {k : Nat}, (∀ j : Nat, j < k → w j = w' j) → nmW b w k = nmW b w' k
  | 0, _ => rfl
  | k + 1, h => by
    unfold nmW
    rw [nmW_congr (k := k) (fun j hj => h j (by omega)), h k (by omega)]
theorem dgW_bd {b : Nat} (b1 : 1 ≤ b) : ∀ {k : Nat} {q : Int} {j : Int}, 0 ≤ dgW b q k j ∧ dgW b q k j < b
  | 0, _, _ => by unfold dgW; omega
  | k + 1, q, j => by
    unfold dgW
    split
    · exact ⟨Int.emod_nonneg _ (by omega), Int.emod_lt_of_pos _ (by omega)⟩
    · exact dgW_bd b1
theorem dgW_nm {b : Nat} (b1 : 1 ≤ b) : ∀ {k : Nat} {q : Int}, 0 ≤ q → q < ((b ^ k : Nat) : Int) → nmW b (dgW b q k) k = q
  | 0, q, h0, h1 => by simp at h1; unfold nmW; omega
  | k + 1, q, h0, h1 => by
    have e : nmW b (dgW b q (k + 1)) k = nmW b (dgW b (q / b) k) k := nmW_congr (fun j hj => by
      show (if (j : Int) = (k : Int) then q % b else dgW b (q / b) k j) = _
      rw [if_neg (by omega)])
    show nmW b (dgW b q (k + 1)) k * b + (if (k : Int) = (k : Int) then q % b else dgW b (q / b) k k) = q
    rw [if_pos rfl, e, dgW_nm b1 (Int.ediv_nonneg h0 (by omega)) (Int.ediv_lt_of_lt_mul (by omega) (by rw [Nat.pow_succ, Int.natCast_mul] at h1; exact h1))]
    have := Int.mul_ediv_add_emod q b
    rw [Int.mul_comm] at this
    exact this
theorem nmW_eq {b n : Nat} {w w' : Int → Int} (hw : ∀ j : Nat, j < n → 0 ≤ w j ∧ w j < b) (hw' : ∀ j : Nat, j < n → 0 ≤ w' j ∧ w' j < b) (e : nmW b w n = nmW b w' n) : ∀ j : Nat, j < n → w j = w' j := by
  rcases lxW_tri (n := n) (w := w) (w' := w') with q | q | q
  · have := nmW_lt hw hw' q; omega
  · have := nmW_lt hw' hw q; omega
  · exact q
theorem canW_dg {b n : Nat} {w : Int → Int} (h : canW b w n) : ∀ j : Nat, j < n → 0 ≤ w j ∧ w j < b := fun j hj => ⟨(h j hj).1, (h j hj).2.2⟩
def shC (b n : Nat) (c : Int) (u : Int → Int) : Prop := canW b u n ∧ nmW b u n < c
/-- one number further -/
theorem shS_next {t : Int → Int} {b n : Nat} {c L0 L L' : Int} {w0 v v' w : Int → Int} (H : shS t b n (shC b n c) L0 L w0 v) (dw : ∀ j : Nat, j < n → 0 ≤ w j ∧ w j < b) (e : nmW b w n = c) (q : ((¬ canW b w n ∨ L ≤ vlW t b n w) ∧ L' = L ∧ ∀ j : Nat, j < n → v' j = v j) ∨ (canW b w n ∧ vlW t b n w < L ∧ L' = vlW t b n w ∧ ∀ j : Nat, j < n → v' j = w j)) : shS t b n (shC b n (c + 1)) L0 L' w0 v' := by
  have one : ∀ u, canW b u n → nmW b u n = c → ∀ j : Nat, j < n → u j = w j := fun u cu eu => nmW_eq (canW_dg cu) dw (eu.trans e.symm)
  have h2 : shS t b n (fun u => canW b u n ∧ nmW b u n = c) L L' v v' := by
    rcases q with ⟨q1, q2, q3⟩ | ⟨q1, q2, q3, q4⟩
    · refine ⟨by omega, fun _ => q3, fun u cu su => ?_, fun lt => absurd lt (by omega)⟩
      have o := one u cu su.2
      rcases q1 with q1 | q1
      · exact absurd (canW_congr o cu) q1
      · rw [vlW_congr o]; omega
    · have q4' : ∀ j : Nat, j < n → w j = v' j := fun j hj => (q4 j hj).symm
      refine ⟨by omega, fun x => absurd x (by omega), fun u cu su => ?_, fun lt => ⟨canW_congr q4' q1, ⟨canW_congr q4' q1, ?_⟩, ?_, fun u cu su lx => ?_⟩⟩
      · rw [vlW_congr (one u cu su.2)]; omega
      · rw [nmW_congr q4]; exact e
      · rw [vlW_congr q4]; exact q3.symm
      · have lx' := nmW_lt (canW_dg cu) dw (lxW_congr q4 lx)
        have := su.2
        omega
  have s := shS_seq H h2 (fun u u2 s1 s2 lx => by
    have := nmW_lt (canW_dg s2.1) (canW_dg s1.1) lx
    have := s1.2
    have := s2.2
    omega) (fun u u2 s1 q => ⟨canW_congr q s1.1, by rw [← nmW_congr q]; exact s1.2⟩)
  refine shS_imp s (fun u cu => ⟨fun q => ?_, fun q => ?_⟩)
  · rcases q with q | q
    · exact ⟨q.1, by have := q.2; omega⟩
    · exact ⟨q.1, by have := q.2; omega⟩
  · by_cases x : nmW b u n < c
    · exact Or.inl ⟨q.1, x⟩
    · exact Or.inr ⟨q.1, by have := q.2; omega⟩
theorem shS_first {t : Int → Int} {b n : Nat} {L : Int} {w : Int → Int} : shS t b n (shC b n 0) L L w w := shS_none (fun u cu su => by
  have := nmW_bd (canW_dg cu)
  have := su.2
  omega)
section SH4
variable {l : Launch} {D : Nat} {ζ : ZP} {h : HI} {Q : Int → HI → Prop} {QV : HI → Prop} {t : Int → Int} {b n : Nat}
def shLM : List (Nat × Int) := [(97, 58), (115, -1), (118, -1), (124, -1)]
theorem s_shM (hn : 144 ≤ ζ.2.2.2.2) (b1 : 1 ≤ b) (b4 : b ≤ 4) (n1 : 1 ≤ n) (n9 : n ≤ 9) (ht : ∀ j : Nat, j < n → 0 ≤ t j ∧ t j ≤ 99) (h3 : h 97 3 = n) (h98 : ∀ j : Int, 0 ≤ j → j < n → band (h 98 j) 255 = t j) (hq : ∀ (L : Int) (g' : HI), FL shLM h g' → g' 97 58 = n → shR t b n L (g' 124) → Q L g') : G l (D + 3) 0 0 mX12_share (zz ζ) 77 [aP 97, aI b, aI 1000000, aI 1, aI 0, aU, aU, aU, aU] [] h (qI (zz ζ) Q) := by
  have pw : ((b ^ n : Nat) : Int) ≤ 262144 := by
    have a : b ^ n ≤ 4 ^ n := Nat.pow_le_pow_left b4 n
    have c : 4 ^ n ≤ 4 ^ 9 := Nat.pow_le_pow_right (by decide) n9
    have d : b ^ n ≤ 4 ^ 9 := Nat.le_trans a c
    have e : (4 : Nat) ^ 9 = 262144 := by decide
    omega
  have keep : ∀ k : HI, FL shLM h k → k 97 3 = n ∧ ∀ j : Int, 0 ≤ j → j < n → band (k 98 j) 255 = t j := fun k f => ⟨by rw [f.at 97 3 rfl]; exact h3, by rw [f.c 98 rfl]; exact h98⟩
  have tot := sm_bd (f := fun j : Nat => t j) (K := 0) (L := 99) (n := n) ht
  have m99 : ∀ (m c : Nat) (L : Int) (k : HI), c + m = b ^ n → FL shLM h k → L ≤ 1000000 → -1 ≤ L → shS t b n (shC b n c) 1000000 L (h 124) (k 124) → G l (D + 3) 0 0 mX12_share (zz ζ) 99 [aP 97, aI b, aI L, aI ((b ^ n : Nat) : Int), aI c, aU, aU, aU, aU] [] k (qI (zz ζ) Q) := by
    intro m
    induction m with
    | zero =>
      intro c L k hc f l1 l2 S
      refine b_X12_share_99 hn ⟨by constructor <;> omega, by constructor <;> omega, iteP (by omega) ?_⟩
      refine hq L _ (f.u rfl) ?_ ?_
      · rw [hu_s]; exact (keep k f).1
      · rw [hu_c _ _ _ (by decide)]
        refine shS_R b1 (fun j hj => (ht j hj).1) S (fun u cu => ⟨cu, ?_⟩) (by omega)
        have := nmW_bd (canW_dg cu)
        rw [show (c : Int) = ((b ^ n : Nat) : Int) by omega]
        exact this.2
    | succ m ih =>
      intro c L k hc f l1 l2 S
      refine b_X12_share_99 hn ⟨by constructor <;> omega, by constructor <;> omega, iteN (by omega) ?_⟩
      rw [(keep k f).1]
      -- go on
      have next : ∀ (L' : Int) (k' : HI), FL shLM h k' → L' ≤ 1000000 → -1 ≤ L' → shS t b n (shC b n (c + 1)) 1000000 L' (h 124) (k' 124) → G l (D + 3) 0 0 mX12_share (zz ζ) 99 [aP 97, aI b, aI L', aI ((b ^ n : Nat) : Int), aI (c + 1), aU, aU, aU, aU] [] k' (qI (zz ζ) Q) := by
        intro L' k' f' a1 a2 S'
        have kk := ih (c + 1) L' k' (by omega) f' a1 a2 (by rw [show ((c + 1 : Nat) : Int) = (c : Int) + 1 by omega]; exact S')
        rw [show ((c + 1 : Nat) : Int) = (c : Int) + 1 by omega] at kk
        exact kk
      -- digits
      have m117 : ∀ (p : Nat) (q : Int) (k1 : HI), 0 ≤ q → q ≤ 262144 → p ≤ n → (∀ k2, FL [(115, -1)] k1 k2 → (∀ j : Int, 0 ≤ j → j < p → k2 115 j = dgW b q p j) → (∀ j : Int, p ≤ j → k2 115 j = k1 115 j) → G l (D + 3) 0 0 mX12_share (zz ζ) 154 [aP 97, aI b, aI L, aI ((b ^ n : Nat) : Int), aI c, aU, aI 0, aI 1, aI 0] [] k2 (qI (zz ζ) Q)) → G l (D + 3) 0 0 mX12_share (zz ζ) 117 [aP 97, aI b, aI L, aI ((b ^ n : Nat) : Int), aI c, aI q, aI ((p : Int) - 1), aU, aU] [] k1 (qI (zz ζ) Q) := by
        intro p
        induction p with
        | zero =>
          intro q k1 q0 q1 _ hk
          exact b_X12_share_117 hn ⟨by constructor <;> omega, iteP (by omega) (hk k1 FL.refl (fun j j0 j1 => by omega) (fun _ _ => rfl))⟩
        | succ p ihp =>
          intro q k1 q0 q1 hp hk
          have ed := Int.tdiv_eq_ediv_of_nonneg (a := q) (b := (b : Int)) q0
          have em := Int.tmod_eq_emod_of_nonneg (a := q) (b := (b : Int)) q0
          have d0 : 0 ≤ q / (b : Int) := Int.ediv_nonneg q0 (by omega)
          have d1 : q / (b : Int) ≤ q := Int.ediv_le_self _ q0
          refine b_X12_share_117 hn ⟨by constructor <;> omega, iteN (by omega) ⟨by constructor <;> omega, by constructor <;> omega, by omega, ⟨by omega, by omega⟩, ?_⟩⟩
          rw [ed, em]
          have kk := ihp (q / b) (hu k1 115 p (q % b)) d0 (by omega) (by omega) (fun k2 f2 e1 e2 => hk k2 ((FL.refl.ua rfl).trans f2) (fun j j0 j1 => ?_) (fun j j0 => ?_))
          · rw [show ((p + 1 : Nat) : Int) - 1 = (p : Int) by omega, show (p : Int) + -1 = (p : Int) - 1 by omega]
            exact kk
          · show _ = (if j = (p : Int) then q % b else dgW b (q / b) p j)
            by_cases e : j = p
            · rw [if_pos e, e, e2 p (by omega), hu_s]
            · rw [if_neg e]; exact e1 j j0 (by omega)
          · rw [e2 j (by omega), hu_j _ _ _ (by omega)]
      refine m117 n c k (by omega) (by omega) (Nat.le_refl _) (fun k1 f1 dg _ => ?_)
      have F1 : FL shLM h k1 := f.trans (f1.mono rfl)
      have e124 : k1 124 = k 124 := f1.c 124 rfl
      generalize hw : k1 115 = w at dg
      have dw : ∀ j : Nat, j < n → 0 ≤ w j ∧ w j < b := fun j hj => by rw [dg j (by omega) (by omega)]; exact dgW_bd b1
      have nw : nmW b w n = c := by
        rw [nmW_congr (w' := dgW b c n) (fun j hj => dg j (by omega) (by omega))]
        exact dgW_nm b1 (by omega) (by omega)
      -- the test
      have m177 : ∀ (p q : Nat) (is : Int) (k2 : HI), q + p = n → FL [(118, -1)] k1 k2 → (∀ r : Int, 0 ≤ r → r < b → k2 118 r = ldW t w r q) → ((is = 1 ∧ canW b w q) ∨ (is = 0 ∧ ¬ canW b w q)) → G l (D + 3) 0 0 mX12_share (zz ζ) 177 [aP 97, aI b, aI L, aI ((b ^ n : Nat) : Int), aI c, aU, aI (usW w q), aI is, aI q] [] k2 (qI (zz ζ) Q) := by
        intro p
        induction p with
        | zero =>
          intro q is k2 hq2 f2 z his
          have : q = n := by omega
          subst this
          have F2 : FL shLM h k2 := F1.trans (f2.mono rfl)
          have e2 : k2 124 = k 124 := (f2.c 124 rfl).trans e124
          refine b_X12_share_177 hn ⟨by constructor <;> omega, by rw [(keep k2 F2).1]; constructor <;> omega, iteP (by rw [(keep k2 F2).1]; omega) ⟨by constructor <;> omega, ?_⟩⟩
          rcases his with ⟨i1, i2⟩ | ⟨i1, i2⟩
          rotate_left
          · exact iteP i1 (next L k2 F2 l1 l2 (shS_next S dw nw (Or.inl ⟨Or.inl i2, rfl, fun j _ => by rw [e2]⟩)))
          have st : ∀ r : Nat, r < b → k2 118 r = ldW t w r q ∧ rg (ldW t w r q) := fun r hr => by
            have := ldW_bd (t := t) (w := w) (r := r) ht (k := q) (Nat.le_refl _)
            exact ⟨z r (by omega) (by omega), by constructor <;> omega⟩
          have vb : vlW t b q w ≤ 891 := by
            have := vl_le (t := t) (w := w) (b := b) (n := q) b1 (fun j hj => (ht j hj).1)
            omega
          have vb0 : 0 ≤ vlW t b q w := by
            have a := (mxI_le (f := fun q2 => ldW t w q2 q) (x := vlW t b q w) b1).mp (Int.le_refl _) 0 (by omega)
            have := ldW_bd (t := t) (w := w) (r := (0 : Nat)) ht (k := q) (Nat.le_refl _)
            omega
          refine iteN (by omega) (s_strongOf hn b1 (by omega) (f := fun r : Nat => ldW t w r q) st ?_)
          show rg (vlW t b q w) ∧ rg L ∧ _
          refine ⟨by constructor <;> omega, by constructor <;> omega, iteI (fun y => ?_) (fun y => ?_)⟩
          · refine s_strongOf hn b1 (by omega) (f := fun r : Nat => ldW t w r q) st ?_
            show G l (D + 3) 0 0 mX12_share (zz ζ) 286 [aP 97, aI b, aI (vlW t b q w), aI ((b ^ q : Nat) : Int), aI c, aU, aU, aU, aI 0] [] k2 (qI (zz ζ) Q)
            have m286 : ∀ (u v : Nat) (k3 : HI), v + u = q → FL [(124, -1)] k2 k3 → (∀ j : Int, 0 ≤ j → j < v → k3 124 j = w j) → G l (D + 3) 0 0 mX12_share (zz ζ) 286 [aP 97, aI b, aI (vlW t b q w), aI ((b ^ q : Nat) : Int), aI c, aU, aU, aU, aI v] [] k3 (qI (zz ζ) Q) := by
              intro u
              induction u with
              | zero =>
                intro v k3 hv f3 e3
                have F3 : FL shLM h k3 := F2.trans (f3.mono rfl)
                exact b_X12_share_286 hn ⟨by constructor <;> omega, by rw [(keep k3 F3).1]; constructor <;> omega, iteP (by rw [(keep k3 F3).1]; omega) (next _ k3 F3 (by omega) (by omega) (shS_next S dw nw (Or.inr ⟨i2, y, rfl, fun j hj => e3 j (by omega) (by omega)⟩)))⟩
              | succ u ihu =>
                intro v k3 hv f3 e3
                have F3 : FL shLM h k3 := F2.trans (f3.mono rfl)
                have e115 : k3 115 v = w v := by rw [f3.c 115 rfl, f2.c 115 rfl, hw]
                refine b_X12_share_286 hn ⟨by constructor <;> omega, by rw [(keep k3 F3).1]; constructor <;> omega, iteN (by rw [(keep k3 F3).1]; omega) ⟨⟨by omega, by omega⟩, ⟨by omega, by omega⟩, ?_⟩⟩
                rw [e115]
                have kk := ihu (v + 1) (hu k3 124 v (w v)) (by omega) (f3.ua rfl) (fun j j0 j1 => by
                  by_cases e : j = v
                  · rw [e, hu_s]
                  · rw [hu_j _ _ _ e]; exact e3 j j0 (by omega))
                rw [show ((v + 1 : Nat) : Int) = (v : Int) + 1 by omega] at kk
                exact kk
            exact m286 q 0 k2 (by omega) FL.refl (fun j j0 j1 => by omega)
          · exact next L k2 F2 l1 l2 (shS_next S dw nw (Or.inl ⟨Or.inr (Int.not_lt.mp y), rfl, fun j _ => by rw [e2]⟩))
        | succ p ihp =>
          intro q is k2 hq2 f2 z his
          have F2 : FL shLM h k2 := F1.trans (f2.mono rfl)
          have e115 : k2 115 = w := by rw [f2.c 115 rfl, hw]
          have ub := usW_bd w q
          have wq := dw q (by omega)
          have lb := ldW_bd (t := t) (w := w) (r := w q) ht (k := q) (by omega)
          have tq := ht q (by omega)
          have n208 : ∀ is' : Int, ((is' = 1 ∧ canW b w (q + 1)) ∨ (is' = 0 ∧ ¬ canW b w (q + 1))) → G l (D + 3) 0 0 mX12_share (zz ζ) 208 [aP 97, aI b, aI L, aI ((b ^ n : Nat) : Int), aI c, aU, aI (usW w q), aU, aI q] [aI is'] k2 (qI (zz ζ) Q) := by
            intro is' his'
            have kk := ihp (q + 1) is' (hu k2 118 (w q) (k2 118 (w q) + t q)) (by omega) (f2.ua rfl) (fun r r0 r1 => by
              show _ = ldW t w r q + (if decide (w q = r) then t q else 0)
              simp only [decide_eq_true_eq]
              by_cases e : w q = r
              · rw [if_pos e, ← e, hu_s, z _ wq.1 wq.2]
              · rw [if_neg e, hu_j _ _ _ (fun x => e x.symm), z r r0 r1]; omega) his'
            have eo := (keep k2 F2).2 q (by omega) (by omega)
            refine b_X12_share_208 hn ⟨⟨by omega, by omega⟩, ?_⟩
            rw [e115]
            refine ⟨by constructor <;> omega, by constructor <;> omega, iteI (fun y => ⟨⟨wq.1, by omega⟩, e_X12_octet hn ⟨⟨by omega, by omega⟩, ?_⟩⟩) (fun y => ⟨⟨wq.1, by omega⟩, e_X12_octet hn ⟨⟨by omega, by omega⟩, ?_⟩⟩)⟩
            · rw [eo]
              rw [show usW w (q + 1) = usW w q from by show (if w q = usW w q then usW w q + 1 else usW w q) = _; rw [if_neg y], show ((q + 1 : Nat) : Int) = (q : Int) + 1 by omega] at kk
              exact kk
            · rw [eo]
              rw [show usW w (q + 1) = usW w q + 1 from by show (if w q = usW w q then usW w q + 1 else usW w q) = _; rw [if_pos (Decidable.not_not.mp y)], show ((q + 1 : Nat) : Int) = (q : Int) + 1 by omega] at kk
              exact kk
          have stp : canW b w (q + 1) ↔ canW b w q ∧ w q ≤ usW w q := ⟨fun x => ⟨fun j hj => x j (by omega), (x q (by omega)).2.1⟩, fun x j hj => by
            by_cases e : j = q
            · rw [e]; exact ⟨wq.1, x.2, wq.2⟩
            · exact x.1 j (by omega)⟩
          refine b_X12_share_177 hn ⟨by constructor <;> omega, by rw [(keep k2 F2).1]; constructor <;> omega, iteN (by rw [(keep k2 F2).1]; omega) ⟨by constructor <;> omega, ?_⟩⟩
          rcases his with ⟨i1, i2⟩ | ⟨i1, i2⟩
          · refine iteN (by omega) ⟨⟨by omega, by omega⟩, ?_⟩
            rw [e115]
            refine ⟨by constructor <;> omega, by constructor <;> omega, iteI (fun y => n208 0 (Or.inr ⟨rfl, fun x => ?_⟩)) (fun y => n208 1 (Or.inl ⟨rfl, stp.mpr ⟨i2, by omega⟩⟩))⟩
            have := (stp.mp x).2
            omega
          · exact iteP i1 (n208 0 (Or.inr ⟨rfl, fun x => i2 (stp.mp x).1⟩))
      have m154 : ∀ (p r : Nat) (k2 : HI), r + p = b → FL [(118, -1)] k1 k2 → (∀ q : Int, 0 ≤ q → q < r → k2 118 q = 0) → G l (D + 3) 0 0 mX12_share (zz ζ) 154 [aP 97, aI b, aI L, aI ((b ^ n : Nat) : Int), aI c, aU, aI 0, aI 1, aI r] [] k2 (qI (zz ζ) Q) := by
        intro p
        induction p with
        | zero =>
          intro r k2 hr f2 z
          exact b_X12_share_154 hn ⟨by constructor <;> omega, by constructor <;> omega, iteP (by omega) (m177 n 0 1 k2 (by omega) f2 (fun q q0 q1 => z q q0 (by omega)) (Or.inl ⟨rfl, fun j hj => absurd hj (by omega)⟩))⟩
        | succ p ihp =>
          intro r k2 hr f2 z
          refine b_X12_share_154 hn ⟨by constructor <;> omega, by constructor <;> omega, iteN (by omega) ⟨⟨by omega, by omega⟩, ?_⟩⟩
          have kk := ihp (r + 1) (hu k2 118 r 0) (by omega) (f2.ua rfl) (fun q q0 q1 => by
            by_cases e : q = r
            · rw [e, hu_s]
            · rw [hu_j _ _ _ e]; exact z q q0 (by omega))
          rw [show ((r + 1 : Nat) : Int) = (r : Int) + 1 by omega] at kk
          exact kk
      exact m154 b 0 k1 (by omega) FL.refl (fun q q0 q1 => by omega)
  have m77 : ∀ (m k : Nat), k + m = n → G l (D + 3) 0 0 mX12_share (zz ζ) 77 [aP 97, aI b, aI 1000000, aI ((b ^ k : Nat) : Int), aI k, aU, aU, aU, aU] [] h (qI (zz ζ) Q) := by
    intro m
    induction m with
    | zero =>
      intro k hk
      have : k = n := by omega
      subst this
      exact b_X12_share_77 hn ⟨by constructor <;> omega, by rw [h3]; constructor <;> omega, iteP (by rw [h3]; omega) (m99 _ 0 1000000 h (Nat.zero_add _) FL.refl (by omega) (by omega) shS_first)⟩
    | succ m ih =>
      intro k hk
      refine b_X12_share_77 hn ⟨by constructor <;> omega, by rw [h3]; constructor <;> omega, iteN (by rw [h3]; omega) ?_⟩
      have kk := ih (k + 1) (by omega)
      rw [show ((k + 1 : Nat) : Int) = (k : Int) + 1 by omega, Nat.pow_succ, Int.natCast_mul] at kk
      exact kk
  exact m77 n 0 (by omega)
end SH4
