/-! the JDK's methods on the class's words; into them and back -/
section ST2
variable {oF : Option Nat} {l : Launch} {D mc ms : Nat} {i : MT} {z : ZR} {pc : Nat} {ls st st0 : List AV} {h : HI} {Q : Option AV → HI → ZR → Prop} {j : MT} {n idx : Nat} {As : List AV} {v : Option AV}
theorem gj_callV (hd : decode i.2.1 pc = .ok (.invokevirtual idx, 3)) (hm : MLv i.1.cls idx j n) (hj : j.1.cls = RJ0) (hn : As.length = n) (hst0 : st0 = As.reverse ++ aP 1000005 :: st) (hst : (st.map acat).sum ≤ 8) (hr : RetJ oF l D j z (aP 1000005 :: As) h (qJ z h v)) (k : GJ oF l (D + 1) mc ms i z (pc + 3) ls (v.toList ++ st) h Q) : GJ oF l (D + 1) mc ms i z pc ls st0 h Q := by
  intro p e s m args below meth c H locs cells slots E ρ lsA hxt hC hS0 hR hS hl
  obtain ⟨hx, hb, hrt, hml, hown, hts, hlk, hnm⟩ := id hC
  have hM := hr E ρ
  obtain ⟨cell, r1, r2, r3, -⟩ := (sK.heap hxt hS).1
  have hrv : ∃ cell : Cell, H[ρ 1000005]? = some cell ∧ cell.vm.isStatics = false ∧ s.vm.findClass j.1.cls = some cell.cls := ⟨cell, r1, r2, by rw [hj]; exact r3⟩
  have hg : ∀ w ∈ wsV i.1.cls idx j.1.cls j.1 (gws j), w ∈ TB := by
    intro w hw
    rcases List.mem_append.mp hw with hw | hw
    · simp only [List.mem_cons, List.not_mem_nil, or_false] at hw
      rcases hw with rfl | rfl | rfl | rfl
      · exact hm.2.1
      · exact hm.2.2.1
      · exact hm.2.2.2
      · exact hm.1.1
    · exact gws_in hm.1 w hw
  refine g_go (va_runV (As := As.map (cV ρ)) (b := ρ 1000005) (rest := st.map (cV ρ)) ⟨hx, hb, hml, hown, hts⟩ hM (cwV n hts (tb_goodIn hg) rfl rfl rfl ⟨rfl, hm.1.2.2.1, hm.1.2.2.2.1, hm.1.2.2.2.2.1⟩ ⟨Nat.le_refl _, (by have := hm.1.2.2.2.2.2.1; show 8 + (j.2.2.1 + 11) + 44 * D ≤ 44 * (D + 1); omega)⟩) ⟨gjPc_blind, hrv, fun U hU hW => ⟨rfl, by rw [hU]; exact (sK.heap hxt hS).moved hW, by rw [hU]; exact (hS0.heap hS).moved hW, by rw [hU]; exact hR⟩⟩ rfl (by simp; exact hn) hl.1 (by show st0.map (cV ρ) = _; rw [hst0]; simp [cV, cR, va_rf]) (lv_room (by rw [acat_sum]; exact hst)) hd ⟨(by show cells + 0 ≤ cells + mc; omega), (by show slots + 0 ≤ slots + ms; omega)⟩) hS (fun v' h' z' ρ' H1 locs1 hq hR1 hn1 hρ hS1 => ?_)
  obtain ⟨rfl, rfl, rfl⟩ := hq
  have eρ : ρ' = ρ := funext fun k => hρ k (Nat.lt_or_ge k z'.2)
  subst eρ
  have k2 := k p e s m args below meth c H1 locs1 cells slots E ρ' lsA hxt hC hS0 hR1 hS1 hl
  cases v' with
  | none => exact k2
  | some v => exact k2
theorem gj_callS (hd : decode i.2.1 pc = .ok (.invokestatic idx, 3)) (hm : MLs i.1.cls idx j n) (hn : As.length = n) (hst0 : st0 = As.reverse ++ st) (hst : (st.map acat).sum ≤ 8) (hr : RetJ oF l D j z As h (qJ z h v)) (k : GJ oF l (D + 1) mc ms i z (pc + 3) ls (v.toList ++ st) h Q) : GJ oF l (D + 1) mc ms i z pc ls st0 h Q := by
  intro p e s m args below meth c H locs cells slots E ρ lsA hxt hC hS0 hR hS hl
  obtain ⟨hx, hb, hrt, hml, hown, hts, hlk, hnm⟩ := id hC
  have hM := hr E ρ
  have hg : ∀ w ∈ va_wsS i.1.cls idx j.1 (gws j), w ∈ TB := by
    intro w hw
    rcases List.mem_append.mp hw with hw | hw
    · simp only [List.mem_cons, List.not_mem_nil, or_false] at hw
      rcases hw with rfl | rfl | rfl
      · exact hm.2.1
      · exact hm.2.2
      · exact hm.1.1
    · exact gws_in hm.1 w hw
  refine g_go (va_runS (As := As.map (cV ρ)) (rest := st.map (cV ρ)) ⟨hx, hb, hml, hown, hts⟩ hM (va_cwS n hts (tb_goodIn hg) rfl rfl rfl ⟨hm.1.2.2.1, hm.1.2.2.2.1, hm.1.2.2.2.2.1⟩ ⟨Nat.le_refl _, (by have := hm.1.2.2.2.2.2.1; show 8 + (j.2.2.1 + 11) + 44 * D ≤ 44 * (D + 1); omega)⟩) ⟨gjPc_blind, fun U hU hW => ⟨rfl, by rw [hU]; exact (sK.heap hxt hS).moved hW, by rw [hU]; exact (hS0.heap hS).moved hW, by rw [hU]; exact hR⟩⟩ rfl (by simp; exact hn) hl.1 (by show st0.map (cV ρ) = _; rw [hst0]; simp) (lv_room (by rw [acat_sum]; exact hst)) hd ⟨(by show cells + 0 ≤ cells + mc; omega), (by show slots + 0 ≤ slots + ms; omega)⟩) hS (fun v' h' z' ρ' H1 locs1 hq hR1 hn1 hρ hS1 => ?_)
  obtain ⟨rfl, rfl, rfl⟩ := hq
  have eρ : ρ' = ρ := funext fun k => hρ k (Nat.lt_or_ge k z'.2)
  subst eρ
  have k2 := k p e s m args below meth c H1 locs1 cells slots E ρ' lsA hxt hC hS0 hR1 hS1 hl
  cases v' with
  | none => exact k2
  | some v => exact k2
set_option maxRecDepth 40000 in
theorem mv_J335 : MLv RJ0 335 mJ_cod 0 := by unfold MLv MLn; decide +kernel
set_option maxRecDepth 40000 in
theorem mv_J492 : MLv RJ0 492 mJ_lat 0 := by unfold MLv MLn; decide +kernel
set_option maxRecDepth 40000 in
theorem mv_X59 : MLv RX7 59 mJ_len 0 := by unfold MLv MLn; decide +kernel
set_option maxRecDepth 40000 in
theorem mv_X65 : MLv RX7 65 mJ_chr 1 := by unfold MLv MLn; decide +kernel
set_option maxRecDepth 40000 in
theorem mv_J495 : MLs RJ0 495 mJ_ch1 2 := by unfold MLs MLn; decide +kernel
set_option maxRecDepth 40000 in
theorem mv_J9 : MLs RJ1 9 mJ_chk 2 := by unfold MLs MLn; decide +kernel
set_option maxRecDepth 40000 in
theorem mv_J1059 : MLs RJ0 1059 mJ_pre 3 := by unfold MLs MLn; decide +kernel
set_option maxRecDepth 40000 in
theorem fl_J : Cond.fieldLink RJ0 9 RJ0 "value" "[B" ∈ TB ∧ Cond.fieldLink RJ0 15 RJ0 "coder" "B" ∈ TB ∧ Cond.fieldLink RJ0 38 RJ0 "COMPACT_STRINGS" "Z" ∈ TB ∧ Cond.fieldLink RJ0 1053 RJ3 "SIOOBE_FORMATTER" "Ljava/util/function/BiFunction;" ∈ TB := by decide +kernel
theorem pn_J : plainName RJ0 = true ∧ plainName RJ1 = true ∧ plainName RJ3 = true := by decide +kernel
theorem r_cod : RetJ oF l (D + 1) mJ_cod z [aP 1000005] h (qJ z h (some (aI 0))) := by
  refine RetJ.of 0 pn_J.1 [aP 1000005] rfl rfl ?_
  refine gj_sCS dJ_cod_0 rfl fl_J.2.2.1 ?_
  refine gj_if_eq (tgt := 13) dJ_cod_3 rfl (by decide) (iteN (by decide) ?_)
  refine gj_aload_n dJ_cod_6 rfl ?_
  refine gj_getC dJ_cod_7 rfl fl_J.2.1 ?_
  refine gj_goto (tgt := 14) dJ_cod_10 rfl ?_
  exact gj_ret dJ_cod_14 rfl rfl ⟨rfl, rfl, rfl⟩
theorem r_len : RetJ oF l (D + 2) mJ_len z [aP 1000005] h (qJ z h (some (aI 116))) := by
  refine RetJ.of 0 pn_J.1 [aP 1000005] rfl rfl ?_
  refine gj_aload_n dJ_len_0 rfl ?_
  refine gj_getV dJ_len_1 rfl fl_J.1 ?_
  refine gj_len dJ_len_4 ?_
  refine gj_aload_n dJ_len_5 rfl ?_
  refine gj_callV (n := 0) (As := []) (st := [aI 116]) dJ_len_6 mv_J335 rfl rfl rfl (Nat.le_of_ble_eq_true rfl) r_cod ?_
  refine gj_ishr dJ_len_9 ?_
  rw [show bshr 116 0 = 116 by decide]
  exact gj_ret dJ_len_10 rfl rfl ⟨rfl, rfl, rfl⟩
theorem r_lat : RetJ oF l (D + 1) mJ_lat z [aP 1000005] h (qJ z h (some (aI 1))) := by
  refine RetJ.of 0 pn_J.1 [aP 1000005] rfl rfl ?_
  refine gj_sCS dJ_lat_0 rfl fl_J.2.2.1 ?_
  refine gj_if_eq (tgt := 17) dJ_lat_3 rfl (by decide) (iteN (by decide) ?_)
  refine gj_aload_n dJ_lat_6 rfl ?_
  refine gj_getC dJ_lat_7 rfl fl_J.2.1 ?_
  refine gj_if_ne (tgt := 17) dJ_lat_10 rfl (by decide) (iteN (by decide) ?_)
  refine gj_iconst dJ_lat_13 ?_
  refine gj_goto (tgt := 18) dJ_lat_14 rfl ?_
  exact gj_ret dJ_lat_18 rfl rfl ⟨rfl, rfl, rfl⟩
theorem r_pre {x y : Int} (h0 : 0 ≤ x ∧ x < y) (hy : y ≤ 1000) : RetJ oF l (D + 1) mJ_pre z [aI x, aI y, aR oF] h (qJ z h (some (aI x))) := by
  refine RetJ.of 0 pn_J.2.2 [aI x, aI y, aR oF] rfl rfl ?_
  refine gj_iload_n dJ_pre_0 rfl ?_
  refine gj_if_lt (tgt := 9) dJ_pre_1 rfl (by constructor <;> omega) (iteN (by omega) ?_)
  refine gj_iload_n dJ_pre_4 rfl ?_
  refine gj_iload_n dJ_pre_5 rfl ?_
  refine gj_cmp_lt (tgt := 16) dJ_pre_6 rfl (by constructor <;> omega) (by constructor <;> omega) (iteP (by omega) ?_)
  refine gj_iload_n dJ_pre_16 rfl ?_
  exact gj_ret dJ_pre_17 rfl rfl ⟨rfl, rfl, rfl⟩
theorem r_chk {x y : Int} (h0 : 0 ≤ x ∧ x < y) (hy : y ≤ 1000) : RetJ oF l (D + 2) mJ_chk z [aI x, aI y] h (qJ z h none) := by
  refine RetJ.of 0 pn_J.1 [aI x, aI y] rfl rfl ?_
  refine gj_iload_n dJ_chk_0 rfl ?_
  refine gj_iload_n dJ_chk_1 rfl ?_
  refine gj_sSF dJ_chk_2 rfl fl_J.2.2.2 ?_
  refine gj_callS (n := 3) (As := [aI x, aI y, aR oF]) (st := []) dJ_chk_5 mv_J1059 rfl rfl (Nat.le_of_ble_eq_true rfl) (r_pre h0 hy) ?_
  refine gj_pop dJ_chk_8 ?_
  exact gj_retv dJ_chk_9 rfl ⟨rfl, rfl, rfl⟩
set_option maxRecDepth 40000 in
theorem wb_ok : (List.range 116).all (fun j => decide (band (wby j) 255 = wby j ∧ ((Int32.ofInt (wby j)).toUInt32 % 65536).toInt32 = Int32.ofInt (wby j) ∧ narrow .char (.int (Int32.ofInt (wby j))) = .int (Int32.ofInt (wby j)))) = true := by decide +kernel
theorem wb_at {j : Nat} (hj : j < 116) : band (wby j) 255 = wby j ∧ ((Int32.ofInt (wby j)).toUInt32 % 65536).toInt32 = Int32.ofInt (wby j) ∧ narrow .char (.int (Int32.ofInt (wby j))) = .int (Int32.ofInt (wby j)) := of_decide_eq_true (List.all_eq_true.mp wb_ok j (List.mem_range.mpr hj))
theorem r_ch1 {x : Int} (h0 : 0 ≤ x ∧ x < 116) : RetJ oF l (D + 3) mJ_ch1 z [aP 1000006, aI x] h (qJ z h (some (aI (wby x.toNat)))) := by
  have w := wb_at (j := x.toNat) (by omega)
  refine RetJ.of 0 pn_J.2.1 [aP 1000006, aI x] rfl rfl ?_
  refine gj_iload_n dJ_ch1_0 rfl ?_
  refine gj_aload_n dJ_ch1_1 rfl ?_
  refine gj_len dJ_ch1_2 ?_
  refine gj_callS (n := 2) (As := [aI x, aI 116]) (st := []) dJ_ch1_3 mv_J9 rfl rfl (Nat.le_of_ble_eq_true rfl) (r_chk h0 (by decide)) ?_
  refine gj_aload_n dJ_ch1_6 rfl ?_
  refine gj_iload_n dJ_ch1_7 rfl ?_
  refine gj_bald dJ_ch1_8 h0 ?_
  refine gj_sipush dJ_ch1_9 rfl ?_
  refine gj_iand dJ_ch1_12 ?_
  rw [w.1]
  refine gj_i2c dJ_ch1_13 w.2.1 ?_
  exact gj_ret dJ_ch1_14 rfl w.2.2 ⟨rfl, rfl, rfl⟩
theorem r_chr {x : Int} (h0 : 0 ≤ x ∧ x < 116) : RetJ oF l (D + 4) mJ_chr z [aP 1000005, aI x] h (qJ z h (some (aI (wby x.toNat)))) := by
  have w := wb_at (j := x.toNat) (by omega)
  refine RetJ.of 0 pn_J.1 [aP 1000005, aI x] rfl rfl ?_
  refine gj_aload_n dJ_chr_0 rfl ?_
  refine gj_callV (n := 0) (As := []) (st := []) dJ_chr_1 mv_J492 rfl rfl rfl (Nat.le_of_ble_eq_true rfl) r_lat ?_
  refine gj_if_eq (tgt := 16) dJ_chr_4 rfl (by decide) (iteN (by decide) ?_)
  refine gj_aload_n dJ_chr_7 rfl ?_
  refine gj_getV dJ_chr_8 rfl fl_J.1 ?_
  refine gj_iload_n dJ_chr_11 rfl ?_
  refine gj_callS (n := 2) (As := [aP 1000006, aI x]) (st := []) dJ_chr_12 mv_J495 rfl rfl (Nat.le_of_ble_eq_true rfl) (r_ch1 h0) ?_
  exact gj_ret dJ_chr_15 rfl w.2.2 ⟨rfl, rfl, rfl⟩
theorem gj_g {d : Nat} (k : G l d mc ms i z pc ls st h Q) : GJ oF l d mc ms i z pc ls st h Q := fun p e s m args below meth c H locs cells slots E ρ lsA _ hC hS0 hR hS hl => k p e s m args below meth c H locs cells slots E ρ lsA hC hS0 hR hS hl
/-- ints alone -/
def avi (v : AV) : Bool := match v with
  | .inl _ => true
  | .inr (.inr (.inr _)) => true
  | _ => false
theorem lk_avi {ρ ρ' : Nat → Nat} : ∀ {ls : List AV} {i : Nat}, ls.all avi = true → lk ρ' i ls = lk ρ i ls
  | [], _, _ => rfl
  | v :: t, i, h => by
    simp only [List.all_cons, Bool.and_eq_true] at h
    have ih := lk_avi (ρ := ρ) (ρ' := ρ') (ls := t) (i := i + 1) h.2
    match v, h with
    | .inl x, h => simp [lk, ih]
    | .inr (.inl x), h => cases h.1
    | .inr (.inr (.inl o)), h => cases h.1
    | .inr (.inr (.inr ())), h => simp [lk, ih]
theorem st_avi {ρ ρ' : Nat → Nat} : ∀ {st : List AV}, st.all avi = true → st.map (cV ρ') = st.map (cV ρ)
  | [], _ => rfl
  | v :: t, h => by
    simp only [List.all_cons, Bool.and_eq_true] at h
    have ih := st_avi (ρ := ρ) (ρ' := ρ') (st := t) h.2
    rw [List.map_cons, List.map_cons, ih]
    match v, h with
    | .inl x, h => rfl
    | .inr (.inl x), h => cases h.1
    | .inr (.inr (.inl o)), h => cases h.1
    | .inr (.inr (.inr ())), h => rfl
theorem gR_rho {E : GE} {ρ ρ' : Nat → Nat} {H : Heap} (hzb : zb z) (he : ∀ k, k < 1000005 → ρ' k = ρ k) (hR : gR E ρ h z H) : gR E ρ' h z H := by
  have eW : gW (geC E) ρ' h z = gW (geC E) ρ h z := by
    unfold gW
    apply List.map_congr_left
    intro a ha
    have h1 := List.mem_range.mp ha
    have h2 := hR.2.2.1
    rw [he a (by omega), cE_rho (fun j v hv => he v (by have := hzb a j v h1 hv; omega))]
  exact ⟨by rw [eW]; exact hR.1, by rw [eW]; exact hR.2.1, hR.2.2.1, fun t ht => by rw [he _ (by omega)]; exact hR.2.2.2.1 t ht, by rw [he _ (by omega)]; exact hR.2.2.2.2.1, hR.2.2.2.2.2⟩
theorem g_toJ {d : Nat} {Q0 : Int → HI → Prop} (hzb : zb z) (hi : i.1.cls = RX7) (hd : decode i.2.1 pc = .ok (.ldc 57, 2)) (hls : ls.all avi = true) (hst : st.all avi = true) (k : ∀ oF, GJ oF l d mc ms i z (pc + 2) ls (aP 1000005 :: st) h (qI z Q0)) : G l d mc ms i z pc ls st h (qI z Q0) := by
  intro p e s m args below meth c H locs cells slots E ρ lsA hC hS0 hR hS hl
  obtain ⟨hx, hb, hr, hml, hown, hts, hlk, hnm⟩ := id hC
  obtain ⟨q, b, v, hv, hR1, hK⟩ := hS0.str
  rw [hi] at hown
  -- the three numbers
  obtain ⟨oF, ρ', e5, e6, e7, eo⟩ : ∃ (oF : Option Nat) (ρ' : Nat → Nat), ρ' 1000005 = q ∧ ρ' 1000006 = b ∧ cR ρ' oF = v ∧ ∀ k, k < 1000005 ∨ 1000008 ≤ k → ρ' k = ρ k := by
    rcases hv with rfl | ⟨t, rfl⟩
    · exact ⟨none, fun k => if k = 1000005 then q else if k = 1000006 then b else ρ k, by simp, by simp, rfl, fun k hk => by show (if k = 1000005 then q else if k = 1000006 then b else ρ k) = ρ k; rw [if_neg (by omega), if_neg (by omega)]⟩
    · refine ⟨some 1000007, fun k => if k = 1000005 then q else if k = 1000006 then b else if k = 1000007 then t else ρ k, by simp, by simp, ?_, fun k hk => by show (if k = 1000005 then q else if k = 1000006 then b else if k = 1000007 then t else ρ k) = ρ k; rw [if_neg (by omega), if_neg (by omega), if_neg (by omega)]⟩
      show va_rf _ = _
      simp [va_rf]
  have hxt : sK oF E ρ' s s.heap := by unfold sK; rw [e5, e6, e7]; exact hK
  have k2 := k oF p e s m args below meth c H locs cells slots E ρ' lsA hxt hC hS0 (gR_rho hzb (fun k hk => eo k (Or.inl hk)) hR) hS (by rw [lk_avi (ρ := ρ) hls]; exact hl)
  rw [List.map_cons, st_avi (ρ := ρ) hst] at k2
  have e9 : cV ρ' (aP 1000005) = .ref q := by show cR ρ' (some 1000005) = _; simp [cR, va_rf, e5]
  rw [e9] at k2
  refine W.postm (fun t ht => ?_) (va_ldcS hx hb hown hR1 hd k2)
  obtain ⟨o, t1, t2, ⟨⟨v1, h1, z1, ρ1, w1, ⟨w2, r, w3, w4⟩, w5, w6, w7⟩, w8⟩, t4⟩ := ht
  subst w2
  subst w3
  refine ⟨o, t1, t2, ⟨⟨some (aI r), h1, z1, ρ, w1, ⟨rfl, r, rfl, w4⟩, ?_, w6, fun _ _ => rfl⟩, w8⟩, t4⟩
  exact gR_rho hzb (fun k hk => by
    rw [w7 k (Nat.lt_or_ge k z1.2), eo k (Or.inl hk)]) w5
theorem g_strlen {d : Nat} {Q0 : Int → HI → Prop} (hzb : zb z) (hi : i.1.cls = RX7) (hd : decode i.2.1 pc = .ok (.ldc 57, 2)) (hd2 : decode i.2.1 (pc + 2) = .ok (.invokevirtual 59, 3)) (hls : ls.all avi = true) (hst : st.all avi = true) (hsm : (st.map acat).sum ≤ 8) (k : G l (d + 3) mc ms i z (pc + 5) ls (aI 116 :: st) h (qI z Q0)) : G l (d + 3) mc ms i z pc ls st h (qI z Q0) := by
  refine g_toJ hzb hi hd hls hst (fun oF => ?_)
  refine gj_callV (n := 0) (As := []) (st := st) hd2 (by rw [hi]; exact mv_X59) rfl rfl rfl hsm r_len ?_
  exact gj_g k
theorem g_strch {d : Nat} {q : Fin 4} {x : Int} {Q0 : Int → HI → Prop} (hzb : zb z) (hi : i.1.cls = RX7) (hd : decode i.2.1 pc = .ok (.ldc 57, 2)) (hd1 : decode i.2.1 (pc + 2) = .ok (.iload_n q, 1)) (hv : ls[(q : Nat)]? = some (aI x)) (h0 : 0 ≤ x ∧ x < 116) (hd2 : decode i.2.1 (pc + 3) = .ok (.invokevirtual 65, 3)) (hls : ls.all avi = true) (hst : st.all avi = true) (hsm : (st.map acat).sum ≤ 8) (k : G l (d + 5) mc ms i z (pc + 6) ls (aI (wby x.toNat) :: st) h (qI z Q0)) : G l (d + 5) mc ms i z pc ls st h (qI z Q0) := by
  refine g_toJ hzb hi hd hls hst (fun oF => ?_)
  refine gj_iload_n hd1 hv ?_
  refine gj_callV (n := 1) (As := [aI x]) (st := st) hd2 (by rw [hi]; exact mv_X65) rfl rfl rfl hsm (r_chr h0) ?_
  exact gj_g k
end ST2
