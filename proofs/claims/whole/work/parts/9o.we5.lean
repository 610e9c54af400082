/-! WELDS: the reference reads: nears, strips -/
section WE5
variable {l : Launch} {D : Nat} {ζ : ZP} {h : HI} {Q : Int → HI → Prop} {QV : HI → Prop} {b : Int → Int} {n k p : Nat} {nm : Nat → List Int} {A B F : Nat → Int} {S : NS}
theorem mw_nears (hn : 144 ≤ ζ.2.2.2.2) (n540 : n ≤ 540) (k12 : k < 12) {x2 : Int} : ∀ {f : Nat} {S : NS} {p : Nat} {g : HI}, p ≤ n → NO (k + 1) S p → f + S.1 = 64 → tpm b n 400 g → TM (tok b n 400 p) g → g 133 1 = k → NXm S g → (match wNear b n k f S p with
    | .inl e => ∀ g', ME g g' → g' 97 14 = e.1 → g' 97 15 = e.2 → Q 0 g'
    | .inr r => ∀ g', FL (LMo ++ [(130, -1), (131, -1), (132, -1), (134, 1)]) g g' → KP g g' → NXm r.1 g' → TM (tok b n 400 r.2) g' → RtI l (D + 3) mX12_sign (zz ζ) [aP 97, aI 59] (hu (hu g' 126 (12 + k) x2) 133 1 (k + 1)) (fun r2 h2 => (r2 = 0 ∨ r2 = 1) ∧ Q r2 h2)) → G l (D + 4) 0 0 mX12_readStrip (zz ζ) 193 [aP 97, aI (12 + k), aL x2, aU, aU] [] g (qI (zz ζ) Q)
  | 0, S, p, g, hp, no, hf, tp, tx, e0, nx, hq => by
    refine b_X12_readStrip_193 hn (mg_isWord (k := 22) hn n540 (by omega) hp tx (by decide) rfl (fun c => ?_) (fun c => ⟨by decide, iteP rfl ⟨by omega, ?_⟩⟩))
    · have := near_at n540 hp c
      have := no.2.1
      omega
    · rw [e0]
      exact hq g FL.refl (KP.fl (L := []) FL.refl (by decide)) nx tx
  | f + 1, S, p, g, hp, no, hf, tp, tx, e0, nx, hq => by
    have tk := tok_ok (b := b) (m := 400) n540 (by omega) hp
    rw [wNear] at hq
    refine b_X12_readStrip_193 hn (mg_isWord (k := 22) hn n540 (by omega) hp tx (by decide) rfl (fun c => ⟨by decide, iteN (by decide) ?_⟩) (fun c => ⟨by decide, iteP rfl ⟨by omega, ?_⟩⟩))
    · have c : hWord (tok b n 400 p) = 22 := c
      rw [if_pos c] at hq
      have na := near_at n540 hp c
      have s8 := no.2.1
      refine s_next hn n540 (by omega) tk.2.1.2 tp tx.2.2.1 (fun g1 f1 t1 => ?_)
      have tp1 := tp.fl f1 (by decide)
      have z4 : g1 134 1 = S.1 := by rw [f1.c 134 (by decide)]; exact nx.1
      rw [z4]
      have n1 := wNode_ok (b := b) n540 tk.2.1.2
      refine mw_node hn n540 tk.2.1.2 tp1 t1 ?_
      cases er1 : wNode b n (tok b n 400 p).2.2.1 with
      | inl e =>
        rw [er1] at hq
        exact fun g' f' a1 a2 => ⟨by decide, iteN (by decide) (hq g' (ME.fl (L := LMn) ((f1.mono (by decide)).trans f') (by decide) (by decide)) a1 a2)⟩
      | inr r =>
        rw [er1] at hq n1
        intro g2 f2 e9 t2
        have tp2 := tp1.fl f2 (by decide)
        refine ⟨by decide, iteP (by decide) ⟨by omega, ?_⟩⟩
        rw [e9]
        have F3 : FL [(131, -1)] g2 (hu g2 131 (80 + S.1) r.1) := FL.refl.ua (by decide)
        have n2 := wNode_ok (b := b) n540 n1.2.2
        have M3 : MF g (hu g2 131 (80 + S.1) r.1) := ((MF.fl f1 (by decide) (by decide)).trans (MF.fl f2 (by decide) (by decide))).trans (MF.u (by omega))
        have G3 : FL (LMo ++ [(130, -1), (131, -1), (132, -1), (134, 1)]) g (hu g2 131 (80 + S.1) r.1) := ((f1.mono (by decide)).trans (f2.mono (by decide))).trans (F3.mono (by decide))
        refine mw_node hn n540 n1.2.2 (tp2.fl F3 (by decide)) (by unfold TM; rw [F3.c 97 (by decide)]; exact t2) ?_
        have hq : match sbd (wNode b n r.2) (fun q => wNear b n k f (nAdd S k r.1 q.1) q.2) with
          | .inl e => ∀ g', ME g g' → g' 97 14 = e.1 → g' 97 15 = e.2 → Q 0 g'
          | .inr r => ∀ g', FL (LMo ++ [(130, -1), (131, -1), (132, -1), (134, 1)]) g g' → KP g g' → NXm r.1 g' → TM (tok b n 400 r.2) g' → RtI l (D + 3) mX12_sign (zz ζ) [aP 97, aI 59] (hu (hu g' 126 (12 + k) x2) 133 1 (k + 1)) (fun r2 h2 => (r2 = 0 ∨ r2 = 1) ∧ Q r2 h2) := hq
        cases er2 : wNode b n r.2 with
        | inl e =>
          rw [er2] at hq
          exact fun g' f' a1 a2 => ⟨by decide, iteN (by decide) (hq g' (ME.trans M3 (ME.fl f' (by decide) (by decide))) a1 a2)⟩
        | inr q =>
          rw [er2] at hq n2
          intro g4 f4 e9' t4
          have hq : match wNear b n k f (nAdd S k r.1 q.1) q.2 with
            | .inl e => ∀ g', ME g g' → g' 97 14 = e.1 → g' 97 15 = e.2 → Q 0 g'
            | .inr r => ∀ g', FL (LMo ++ [(130, -1), (131, -1), (132, -1), (134, 1)]) g g' → KP g g' → NXm r.1 g' → TM (tok b n 400 r.2) g' → RtI l (D + 3) mX12_sign (zz ζ) [aP 97, aI 59] (hu (hu g' 126 (12 + k) x2) 133 1 (k + 1)) (fun r2 h2 => (r2 = 0 ∨ r2 = 1) ∧ Q r2 h2) := hq
          have tp4 := (tp2.fl F3 (by decide)).fl f4 (by decide)
          have a1 := n1.2.1
          have a2 := n2.2.1
          have y4 : g4 134 1 = S.1 := by rw [f4.c 134 (by decide), F3.c 134 (by decide), f2.c 134 (by decide)]; exact z4
          have y0 : g4 133 1 = k := by rw [f4.c 133 (by decide), F3.c 133 (by decide), f2.c 133 (by decide), f1.c 133 (by decide)]; exact e0
          refine ⟨by decide, iteP (by decide) ?_⟩
          rw [e9', y0, y4]
          have F5 : FL [(132, -1), (130, -1), (134, 1)] g4 (hu (hu (hu g4 132 (80 + S.1) q.1) 130 (80 + S.1) k) 134 1 (S.1 + 1)) := ((FL.refl.ua (by decide)).ua (by decide)).u (by decide)
          have M5 : MF g (hu (hu (hu g4 132 (80 + S.1) q.1) 130 (80 + S.1) k) 134 1 (S.1 + 1)) := (((M3.trans (MF.fl f4 (by decide) (by decide))).trans (MF.u (by omega))).trans (MF.u (by omega))).trans (MF.u (by omega))
          have G5 := (G3.trans (f4.mono (by decide))).trans (F5.mono (L' := LMo ++ [(130, -1), (131, -1), (132, -1), (134, 1)]) (by decide))
          refine mw_nears hn n540 k12 (f := f) (S := nAdd S k r.1 q.1) (p := q.2) n2.2.2 (nAdd_ok no (by omega) n1.1 n2.1 (by omega)) (by show f + (S.1 + 1) = 64; omega) (tp4.fl F5 (by decide)) (by unfold TM; rw [F5.c 97 (by decide)]; exact t4) (by rw [F5.c 133 (by decide)]; exact y0) ⟨?_, fun j hj => ?_⟩ ?_
          · rw [hu_s]; rfl
          · have hj : j < S.1 + 1 := hj
            show _ = fuI S.2.1 S.1 k j ∧ _ = fuI S.2.2.1 S.1 r.1 j ∧ _ = fuI S.2.2.2 S.1 q.1 j
            unfold fuI
            refine ⟨?_, ?_, ?_⟩
            · rw [hu_c _ _ _ (by decide), hu_eq, hu_c _ _ _ (by decide), f4.c 130 (by decide), F3.c 130 (by decide), f2.c 130 (by decide), f1.c 130 (by decide)]
              by_cases z : j = S.1
              · rw [if_pos ⟨rfl, by rw [z]⟩, if_pos z]
              · rw [if_neg (fun y => z (by have := y.2; omega)), if_neg z]; exact (nx.2 j (by omega)).1
            · rw [hu_c _ _ _ (by decide), hu_c _ _ _ (by decide), hu_c _ _ _ (by decide), f4.c 131 (by decide), hu_eq, f2.c 131 (by decide), f1.c 131 (by decide)]
              by_cases z : j = S.1
              · rw [if_pos ⟨rfl, by rw [z]⟩, if_pos z]
              · rw [if_neg (fun y => z (by have := y.2; omega)), if_neg z]; exact (nx.2 j (by omega)).2.1
            · rw [hu_c _ _ _ (by decide), hu_c _ _ _ (by decide), hu_eq, f4.c 132 (by decide), F3.c 132 (by decide), f2.c 132 (by decide), f1.c 132 (by decide)]
              by_cases z : j = S.1
              · rw [if_pos ⟨rfl, by rw [z]⟩, if_pos z]
              · rw [if_neg (fun y => z (by have := y.2; omega)), if_neg z]; exact (nx.2 j (by omega)).2.2
          · revert hq
            cases wNear b n k f (nAdd S k r.1 q.1) q.2 with
            | inl e => exact fun hq g' f' a1 a2 => hq g' (ME.trans M5 f') a1 a2
            | inr z => exact fun hq g' f' k' a1 a2 => hq g' (G5.trans f') (M5.2.trans k') a1 a2
    · have c : hWord (tok b n 400 p) ≠ 22 := c
      rw [if_neg c] at hq
      rw [e0]
      exact hq g FL.refl (KP.fl (L := []) FL.refl (by decide)) nx tx
theorem mw_sign (hn : 144 ≤ ζ.2.2.2.2) (n540 : n ≤ 540) (hp : p ≤ n) (tp : tpm b n 400 h) (t : TM (tok b n 400 p) h) (hq : match wSign b n p with
    | .inl e => ∀ g, FL [(97, 14), (97, 15)] h g → g 97 14 = e.1 → g 97 15 = e.2 → Q 0 g
    | .inr q => ∀ g, FL LN h g → TM (tok b n 400 q) g → Q 1 g) : RtI l (D + 3) mX12_sign (zz ζ) [aP 97, aI 59] h Q := by
  have tk := tok_ok (b := b) (m := 400) n540 (by omega) hp
  refine e_X12_sign hn (mg_sign hn n540 (by omega) hp t (by decide) ?_)
  unfold wSign at hq
  by_cases c : (tok b n 400 p).1 = 59
  · rw [if_pos c] at hq ⊢
    exact ⟨by decide, iteP (by decide) (s_next hn n540 (by omega) tk.2.1.2 tp t.2.2.1 (fun g f t' => hq g f t'))⟩
  · rw [if_neg c] at hq ⊢
    exact ⟨by decide, iteN (by decide) (mg_bad hn t (fun g f a1 a2 => ⟨Or.inl rfl, hq g f a1 a2⟩))⟩
def MRs (b : Int → Int) (n : Nat) (r : Sum EE WS) (h : HI) (Q : Int → HI → Prop) : Prop := match r with
  | .inl e => ∀ g, ME h g → g 97 14 = e.1 → g 97 15 = e.2 → Q 0 g
  | .inr s => ∀ g, MF h g → WM b n s g → Q 1 g
theorem mw_strip1 (hn : 144 ≤ ζ.2.2.2.2) (n540 : n ≤ 540) {s : WS} (ho : WO n s) (hx : WM b n s h) (hq : MRs b n (wStrip b n s) h Q) : RtI l (D + 4) mX12_readStrip (zz ζ) [aP 97] h Q := by
  obtain ⟨k, nm, A, B, F, S, p⟩ := s
  have tk := tok_ok (b := b) (m := 400) n540 (by omega) ho.1
  have tk1 := tok_ok (b := b) (m := 400) n540 (by omega) tk.2.1.2
  obtain ⟨x0, xs, xn, ⟨tp, rs⟩, tx⟩ := hx
  have k12 := ho.2.1
  rw [wStrip] at hq
  refine e_X12_readStrip hn (mg_isWord (k := 20) hn n540 (by omega) ho.1 tx (by decide) rfl (fun c => ⟨by decide, iteP (by decide) ⟨by rw [x0]; constructor <;> omega, ?_⟩⟩) (fun c => ⟨by decide, iteN (by decide) ?_⟩))
  · have c : hWord (tok b n 400 p) = 20 := c
    rw [if_pos c] at hq
    rw [x0]
    by_cases c1 : 12 ≤ k
    · rw [if_pos c1] at hq
      exact iteN (by omega) (mg_bad hn tx (fun g' f' a1 a2 => ⟨Or.inl rfl, hq g' (ME.fl f' (by decide) (by decide)) a1 a2⟩))
    · rw [if_neg c1] at hq
      refine iteP (by omega) (s_next hn n540 (by omega) tk.2.1.2 tp tx.2.2.1 (fun g1 f1 t1 => ?_))
      have tp1 := tp.fl f1 (by decide)
      have rs1 := rs_fl rs f1 (by decide)
      have M1 : MF h g1 := MF.fl f1 (by decide) (by decide)
      refine mg_isName hn n540 (by omega) tk.2.1.2 t1 rs1 (fun c2 c3 => ⟨by decide, iteP (by decide) ?_⟩) (fun c2 => ⟨by decide, iteN (by decide) ?_⟩)
      · rw [if_pos ⟨c2, c3⟩] at hq
        have oL := tok_okW tk1.1 c2
        have e16 := t1.2.2.2.2.1 c2
        have fd := wFd_bd (nm := nm) (L := (tok b n 400 (tok b n 400 p).2.2.1).2.2.2.2) (f := k) (i := 0)
        have z0 : g1 133 1 = k := by rw [f1.c 133 (by decide)]; exact x0
        have hb1 : ∀ j : Nat, j < k → g1 126 (12 + j) = ew (nm j) ∧ okW (nm j) := by
          rw [f1.c 126 (by decide)]; exact fun j hj => ⟨(xs j hj).1, (ho.2.2.1 j hj).1⟩
        refine mw_strip hn oL z0 (by omega) e16 hb1 ⟨by constructor <;> omega, ?_⟩
        by_cases c4 : 0 ≤ wFd nm (tok b n 400 (tok b n 400 p).2.2.1).2.2.2.2 k 0
        · rw [if_pos c4] at hq
          exact iteN (by omega) (mg_bad hn t1 (fun g' f' a1 a2 => ⟨Or.inl rfl, hq g' (ME.trans M1 (ME.fl f' (by decide) (by decide))) a1 a2⟩))
        · rw [if_neg c4] at hq
          rw [z0, e16]
          generalize (tok b n 400 (tok b n 400 p).2.2.1).2.2.2.2 = L at oL hq c4 fd ⊢
          have p1le : p ≤ (tok b n 400 (tok b n 400 p).2.2.1).2.2.1 := Nat.le_trans tk.2.1.1 tk1.2.1.1
          refine iteP (by omega) (s_next hn n540 (by omega) tk1.2.1.2 tp1 t1.2.2.1 (fun g2 f2 t2 => ?_))
          have hp1 := tk1.2.1.2
          generalize (tok b n 400 (tok b n 400 p).2.2.1).2.2.1 = p1 at hq t2 hp1 p1le
          have tp2 := tp1.fl f2 (by decide)
          have rs2 := rs_fl rs1 f2 (by decide)
          have M2 := M1.trans (MF.fl f2 (by decide) (by decide))
          rw [wStrip2] at hq
          have n1 := wNode_ok (b := b) n540 hp1
          refine mw_node hn n540 hp1 tp2 t2 ?_
          cases er1 : wNode b n p1 with
          | inl e =>
            rw [er1] at hq
            exact fun g' f' a1 a2 => ⟨by decide, iteN (by decide) (hq g' (ME.trans M2 (ME.fl f' (by decide) (by decide))) a1 a2)⟩
          | inr r1 =>
            rw [er1] at hq n1
            have hq : MRs b n (sbd (wNode b n r1.2) (fun r2 => sbd (wAfter b n k nm 540 0 r2.2) (fun r3 => sbd (wNear b n k (64 - S.1) S r3.2) (fun r4 => sbd (wSign b n r4.2) (fun p5 => .inr (k + 1, fuN nm k L, fuI A k r1.1, fuI B k r2.1, fuI F k r3.1, r4.1, p5)))))) h Q := hq
            intro g3 f3 e17 t3
            refine ⟨by decide, iteP (by decide) ⟨by omega, ?_⟩⟩
            rw [e17]
            have F4 : FL [(127, -1)] g3 (hu g3 127 (12 + k) r1.1) := FL.refl.ua (by decide)
            have M4 : MF h (hu g3 127 (12 + k) r1.1) := (M2.trans (MF.fl f3 (by decide) (by decide))).trans (MF.u (by omega))
            have tp4 := (tp2.fl f3 (by decide)).fl F4 (by decide)
            have n2 := wNode_ok (b := b) n540 n1.2.2
            refine mw_node hn n540 n1.2.2 tp4 (by unfold TM; rw [F4.c 97 (by decide)]; exact t3) ?_
            cases er2 : wNode b n r1.2 with
            | inl e =>
              rw [er2] at hq
              exact fun g' f' a1 a2 => ⟨by decide, iteN (by decide) (hq g' (ME.trans M4 (ME.fl f' (by decide) (by decide))) a1 a2)⟩
            | inr r2 =>
              rw [er2] at hq n2
              have hq : MRs b n (sbd (wAfter b n k nm 540 0 r2.2) (fun r3 => sbd (wNear b n k (64 - S.1) S r3.2) (fun r4 => sbd (wSign b n r4.2) (fun p5 => .inr (k + 1, fuN nm k L, fuI A k r1.1, fuI B k r2.1, fuI F k r3.1, r4.1, p5))))) h Q := hq
              intro g5 f5 e17' t5
              refine ⟨by decide, iteP (by decide) ?_⟩
              rw [e17']
              have F6 : FL [(128, -1), (129, -1)] g5 (hu (hu g5 128 (12 + k) r2.1) 129 (12 + k) 0) := (FL.refl.ua (by decide)).ua (by decide)
              have M6 : MF h (hu (hu g5 128 (12 + k) r2.1) 129 (12 + k) 0) := ((M4.trans (MF.fl f5 (by decide) (by decide))).trans (MF.u (by omega))).trans (MF.u (by omega))
              have tp6 := (tp4.fl f5 (by decide)).fl F6 (by decide)
              have rs6 : rsI (hu (hu g5 128 (12 + k) r2.1) 129 (12 + k) 0) := rs_fl (rs_fl (rs_fl (rs_fl rs2 f3 (by decide)) F4 (by decide)) f5 (by decide)) F6 (by decide)
              have n3 := wAfter_ok (b := b) (nm := nm) (f := 540) (acc := 0) n540 (by omega : k ≤ 12) n2.2.2 (by omega) (by omega)
              have k6 : ∀ c, c ≠ 97 → c ≠ 127 → c ≠ 128 → c ≠ 129 → hu (hu g5 128 (12 + k) r2.1) 129 (12 + k) 0 c = h c := by
                intro c c1 c2 c3 c4
                rw [hu_c _ _ _ c4, hu_c _ _ _ c3]
                have q5 : inC LMo c = false := by
                  have : ∀ q ∈ LMo, q.1 = 97 := by decide
                  cases z : inC LMo c with
                  | false => rfl
                  | true =>
                    obtain ⟨q, y1, y2⟩ := List.any_eq_true.mp z
                    have := this q y1
                    have : q.1 = c := by simpa using y2
                    omega
                have qN : inC LN c = false := by
                  have : ∀ q ∈ LN, q.1 = 97 := by decide
                  cases z : inC LN c with
                  | false => rfl
                  | true =>
                    obtain ⟨q, y1, y2⟩ := List.any_eq_true.mp z
                    have := this q y1
                    have : q.1 = c := by simpa using y2
                    omega
                rw [f5.c c q5, hu_c _ _ _ c2, f3.c c q5, f2.c c qN, f1.c c qN]
              refine mw_afters hn n540 (by omega) (f := 540) (acc := 0) (nm := nm) n2.2.2 (by omega) tp6 rs6 (by unfold TM; rw [F6.c 97 (by decide)]; exact t5) (by rw [k6 133 (by decide) (by decide) (by decide) (by decide)]; exact x0) (by rw [k6 126 (by decide) (by decide) (by decide) (by decide)]; exact fun j hj => ⟨(xs j hj).1, (ho.2.2.1 j hj).1⟩) (hu_s _ _ _ _) ?_
              cases er3 : wAfter b n k nm 540 0 r2.2 with
              | inl e =>
                rw [er3] at hq
                exact fun g' f' a1 a2 => hq g' (ME.trans M6 f') a1 a2
              | inr r3 =>
                rw [er3] at hq n3
                have hq : MRs b n (sbd (wNear b n k (64 - S.1) S r3.2) (fun r4 => sbd (wSign b n r4.2) (fun p5 => .inr (k + 1, fuN nm k L, fuI A k r1.1, fuI B k r2.1, fuI F k r3.1, r4.1, p5)))) h Q := hq
                intro g7 f7 e129 o129 t7
                have M7 : MF h g7 := by
                  refine M6.trans ⟨f7.mono (by decide), ?_, ?_⟩
                  · intro j hj
                    rw [f7.c 127 (by decide), f7.c 128 (by decide), o129 j (by omega)]
                    exact ⟨rfl, rfl, rfl⟩
                  · intro j hj
                    rw [f7.c 130 (by decide), f7.c 131 (by decide), f7.c 132 (by decide)]
                    exact ⟨rfl, rfl, rfl⟩
                have tp7 := tp6.fl f7 (by decide)
                have y : ∀ c, c = 126 ∨ c = 130 ∨ c = 131 ∨ c = 132 ∨ c = 133 ∨ c = 134 → g7 c = h c := by
                  intro c hc
                  rcases hc with z | z | z | z | z | z <;> subst z <;> rw [f7.c _ (by decide), k6 _ (by decide) (by decide) (by decide) (by decide)]
                have no7 := ho.2.2.2.mono (K' := k + 1) (q := r3.2) (by omega) (by have := n1.2.1; have := n2.2.1; have := n3.2.1; omega)
                have n4 := wNear_ok (b := b) (k := k) (f := 64 - S.1) n540 n3.2.2 no7
                refine mw_nears hn n540 (by omega) (f := 64 - S.1) n3.2.2 no7 (by have := ho.2.2.2.1; omega) tp7 t7 (by rw [y 133 (by decide)]; exact x0) ⟨by rw [y 134 (by decide)]; exact xn.1, by rw [y 130 (by decide), y 131 (by decide), y 132 (by decide)]; exact xn.2⟩ ?_
                cases er4 : wNear b n k (64 - S.1) S r3.2 with
                | inl e =>
                  rw [er4] at hq
                  exact fun g' f' a1 a2 => hq g' (ME.trans M7 f') a1 a2
                | inr r4 =>
                  rw [er4] at hq n4
                  have hq : MRs b n (sbd (wSign b n r4.2) (fun p5 => .inr (k + 1, fuN nm k L, fuI A k r1.1, fuI B k r2.1, fuI F k r3.1, r4.1, p5))) h Q := hq
                  intro g8 f8 kp8 nx8 t8
                  have F9 : FL [(126, -1), (133, 1)] g8 (hu (hu g8 126 (12 + k) (ew L)) 133 1 (k + 1)) := (FL.refl.ua (by decide)).u (by decide)
                  have M9 : MF h (hu (hu g8 126 (12 + k) (ew L)) 133 1 (k + 1)) := ((M7.trans ⟨f8.mono (by decide), kp8⟩).trans (MF.u (by omega))).trans (MF.u (by omega))
                  have tp9 := (tp7.fl f8 (by decide)).fl F9 (by decide)
                  refine mw_sign hn n540 n4.2.2 tp9 (by unfold TM; rw [F9.c 97 (by decide)]; exact t8) ?_
                  cases er5 : wSign b n r4.2 with
                  | inl e =>
                    rw [er5] at hq
                    exact fun g' f' a1 a2 => ⟨Or.inl rfl, hq g' (ME.trans M9 (ME.fl f' (by decide) (by decide))) a1 a2⟩
                  | inr p5 =>
                    rw [er5] at hq
                    have hq : ∀ g, MF h g → WM b n (k + 1, fuN nm k L, fuI A k r1.1, fuI B k r2.1, fuI F k r3.1, r4.1, p5) g → Q 1 g := hq
                    intro g10 f10 t10
                    refine ⟨Or.inr rfl, hq g10 (M9.trans (MF.fl f10 (by decide) (by decide))) ⟨?_, fun j hj => ⟨?_, ?_, ?_, ?_⟩, ⟨?_, ?_⟩, ⟨tp9.fl f10 (by decide), ?_⟩, t10⟩⟩
                    · rw [f10.c 133 (by decide), hu_s]; omega
                    · rw [f10.c 126 (by decide), hu_c _ _ _ (by decide), hu_eq, f8.c 126 (by decide), y 126 (by decide)]
                      unfold fuN
                      by_cases z : j = k
                      · rw [if_pos ⟨rfl, by rw [z]⟩, if_pos z]
                      · rw [if_neg (fun y => z (by have := y.2; omega)), if_neg z]; exact (xs j (by omega)).1
                    · rw [f10.c 127 (by decide), F9.c 127 (by decide), f8.c 127 (by decide), f7.c 127 (by decide), F6.c 127 (by decide), f5.c 127 (by decide), hu_eq, f3.c 127 (by decide), f2.c 127 (by decide), f1.c 127 (by decide)]
                      unfold fuI
                      by_cases z : j = k
                      · rw [if_pos ⟨rfl, by rw [z]⟩, if_pos z]
                      · rw [if_neg (fun y => z (by have := y.2; omega)), if_neg z]; exact (xs j (by omega)).2.1
                    · rw [f10.c 128 (by decide), F9.c 128 (by decide), f8.c 128 (by decide), f7.c 128 (by decide), hu_c _ _ _ (by decide), hu_eq, f5.c 128 (by decide), F4.c 128 (by decide), f3.c 128 (by decide), f2.c 128 (by decide), f1.c 128 (by decide)]
                      unfold fuI
                      by_cases z : j = k
                      · rw [if_pos ⟨rfl, by rw [z]⟩, if_pos z]
                      · rw [if_neg (fun y => z (by have := y.2; omega)), if_neg z]; exact (xs j (by omega)).2.2.1
                    · rw [f10.c 129 (by decide), F9.c 129 (by decide), f8.c 129 (by decide)]
                      unfold fuI
                      by_cases z : j = k
                      · rw [if_pos z, z]; exact e129
                      · rw [if_neg z, o129 _ (by omega), hu_j _ _ _ (by omega), hu_c _ _ _ (by decide), f5.c 129 (by decide), F4.c 129 (by decide), f3.c 129 (by decide), f2.c 129 (by decide), f1.c 129 (by decide)]; exact (xs j (by omega)).2.2.2
                    · rw [f10.c 134 (by decide), F9.c 134 (by decide)]; exact nx8.1
                    · rw [f10.c 130 (by decide), f10.c 131 (by decide), f10.c 132 (by decide), F9.c 130 (by decide), F9.c 131 (by decide), F9.c 132 (by decide)]; exact nx8.2
                    · exact rs_fl (rs_fl (rs_fl (rs_fl rs6 f7 (by decide)) f8 (by decide)) F9 (by decide)) f10 (by decide)
      · rw [if_neg c2] at hq
        exact mg_bad hn t1 (fun g' f' a1 a2 => ⟨Or.inl rfl, hq g' (ME.trans M1 (ME.fl f' (by decide) (by decide))) a1 a2⟩)
  · have c : hWord (tok b n 400 p) ≠ 20 := c
    rw [if_neg c] at hq
    exact mg_bad hn tx (fun g' f' a1 a2 => ⟨Or.inl rfl, hq g' (ME.fl f' (by decide) (by decide)) a1 a2⟩)
theorem mw_all (hn : 144 ≤ ζ.2.2.2.2) (n540 : n ≤ 540) : ∀ {f : Nat} {s : WS} {g : HI}, WO n s → n + 1 ≤ s.2.2.2.2.2.2 + 2 * f → WM b n s g → (match wAll b n f s with
    | .inl e => ∀ g', ME g g' → g' 97 14 = e.1 → g' 97 15 = e.2 → Q ((-1) - e.2) g'
    | .inr s' => ∀ g', MF g g' → WM b n s' g' → G l (D + 5) 0 0 mX12_welds (zz ζ) 82 [aP 97, aI 0] [] (hu (hu g' 133 0 s'.1) 134 0 s'.2.2.2.2.2.1.1) (qI (zz ζ) Q)) → G l (D + 5) 0 0 mX12_welds (zz ζ) 35 [aP 97, aU] [] g (qI (zz ζ) Q)
  | 0, s, g, ho, hf, _, _ => by
    obtain ⟨k, nm, A, B, F, S, p⟩ := s
    have := ho.1
    have : n + 1 ≤ p + 2 * 0 := hf
    omega
  | f + 1, s, g, ho, hf, hx, hq => by
    have hp : s.2.2.2.2.2.2 ≤ n := ho.1
    have tx : TM (tok b n 400 s.2.2.2.2.2.2) g := hx.2.2.2.2
    have tk := tok_ok (b := b) (m := 400) n540 (by omega) hp
    refine b_X12_welds_35 hn ⟨by rw [tx.1]; exact mkK_rg _, ?_⟩
    rw [tx.1]
    rw [wAll] at hq
    by_cases c : (tok b n 400 s.2.2.2.2.2.2).1 = 0
    · rw [if_pos c] at hq
      refine iteP ((mkK_0 tk.1).mpr c) ?_
      have e1 : g 133 1 = s.1 := hx.1
      have e2 : g 134 1 = s.2.2.2.2.2.1.1 := hx.2.2.1.1
      rw [e1, e2]
      exact hq g ⟨FL.refl, KP.fl (L := []) FL.refl (by decide)⟩ hx
    · rw [if_neg c] at hq
      have k1 := wStrip_ok (b := b) n540 ho
      refine iteN (fun z => c ((mkK_0 tk.1).mp z)) (mw_strip1 hn n540 ho hx ?_)
      cases e : wStrip b n s with
      | inl e' =>
        rw [e] at hq
        exact fun g' f' a1 a2 => ⟨by decide, iteN (by decide) (by rw [a2]; exact hq g' f' a1 a2)⟩
      | inr s' =>
        rw [e] at k1 hq
        intro g1 f1 x1
        have hq : match wAll b n f s' with
          | .inl e => ∀ g', ME g g' → g' 97 14 = e.1 → g' 97 15 = e.2 → Q ((-1) - e.2) g'
          | .inr s' => ∀ g', MF g g' → WM b n s' g' → G l (D + 5) 0 0 mX12_welds (zz ζ) 82 [aP 97, aI 0] [] (hu (hu g' 133 0 s'.1) 134 0 s'.2.2.2.2.2.1.1) (qI (zz ζ) Q) := hq
        refine ⟨by decide, iteP (by decide) (mw_all hn n540 (f := f) (s := s') k1.1 (by have := k1.2; omega) x1 ?_)⟩
        revert hq
        cases wAll b n f s' with
        | inl e => exact fun hq g' f' a1 a2 => hq g' (ME.trans f1 f') a1 a2
        | inr z => exact fun hq g' f' a1 => hq g' (f1.trans f') a1
end WE5
