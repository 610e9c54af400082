/-! the words of the class: a String constant and the JDK's methods that read it (written by wip/whole/gen_str.py) -/
abbrev RJ0 : String := "java/lang/String"
abbrev RJ1 : String := "java/lang/StringLatin1"
abbrev RJ3 : String := "jdk/internal/util/Preconditions"
abbrev mJ_len : MT := (⟨RJ0, "length", "()I"⟩, prog_22_method_54_code, 1, some .int)
abbrev mJ_cod : MT := (⟨RJ0, "coder", "()B"⟩, prog_22_method_152_code, 1, some .byte)
abbrev mJ_lat : MT := (⟨RJ0, "isLatin1", "()Z"⟩, prog_22_method_154_code, 1, some .boolean)
abbrev mJ_chr : MT := (⟨RJ0, "charAt", "(I)C"⟩, prog_22_method_56_code, 2, some .char)
abbrev mJ_ch1 : MT := (⟨RJ1, "charAt", "([BI)C"⟩, prog_23_method_2_code, 2, some .char)
abbrev mJ_chk : MT := (⟨RJ0, "checkIndex", "(II)V"⟩, prog_22_method_155_code, 2, none)
abbrev mJ_pre : MT := (⟨RJ3, "checkIndex", "(IILjava/util/function/BiFunction;)I"⟩, prog_30_method_11_code, 3, some .int)
theorem dJ_len_0 : decode prog_22_method_54_code 0 = .ok (.aload_n 0, 1) := by decide +kernel
theorem dJ_len_1 : decode prog_22_method_54_code 1 = .ok (.getfield 9, 3) := by decide +kernel
theorem dJ_len_4 : decode prog_22_method_54_code 4 = .ok (.arraylength, 1) := by decide +kernel
theorem dJ_len_5 : decode prog_22_method_54_code 5 = .ok (.aload_n 0, 1) := by decide +kernel
theorem dJ_len_6 : decode prog_22_method_54_code 6 = .ok (.invokevirtual 335, 3) := by decide +kernel
theorem dJ_len_9 : decode prog_22_method_54_code 9 = .ok (.ishr, 1) := by decide +kernel
theorem dJ_len_10 : decode prog_22_method_54_code 10 = .ok (.ireturn, 1) := by decide +kernel
theorem dJ_cod_0 : decode prog_22_method_152_code 0 = .ok (.getstatic 38, 3) := by decide +kernel
theorem dJ_cod_3 : decode prog_22_method_152_code 3 = .ok (.ifCond .eq 10, 3) := by decide +kernel
theorem dJ_cod_6 : decode prog_22_method_152_code 6 = .ok (.aload_n 0, 1) := by decide +kernel
theorem dJ_cod_7 : decode prog_22_method_152_code 7 = .ok (.getfield 15, 3) := by decide +kernel
theorem dJ_cod_10 : decode prog_22_method_152_code 10 = .ok (.goto 4, 3) := by decide +kernel
theorem dJ_cod_13 : decode prog_22_method_152_code 13 = .ok (.iconst 1, 1) := by decide +kernel
theorem dJ_cod_14 : decode prog_22_method_152_code 14 = .ok (.ireturn, 1) := by decide +kernel
theorem dJ_lat_0 : decode prog_22_method_154_code 0 = .ok (.getstatic 38, 3) := by decide +kernel
theorem dJ_lat_3 : decode prog_22_method_154_code 3 = .ok (.ifCond .eq 14, 3) := by decide +kernel
theorem dJ_lat_6 : decode prog_22_method_154_code 6 = .ok (.aload_n 0, 1) := by decide +kernel
theorem dJ_lat_7 : decode prog_22_method_154_code 7 = .ok (.getfield 15, 3) := by decide +kernel
theorem dJ_lat_10 : decode prog_22_method_154_code 10 = .ok (.ifCond .ne 7, 3) := by decide +kernel
theorem dJ_lat_13 : decode prog_22_method_154_code 13 = .ok (.iconst 1, 1) := by decide +kernel
theorem dJ_lat_14 : decode prog_22_method_154_code 14 = .ok (.goto 4, 3) := by decide +kernel
theorem dJ_lat_17 : decode prog_22_method_154_code 17 = .ok (.iconst 0, 1) := by decide +kernel
theorem dJ_lat_18 : decode prog_22_method_154_code 18 = .ok (.ireturn, 1) := by decide +kernel
theorem dJ_chr_0 : decode prog_22_method_56_code 0 = .ok (.aload_n 0, 1) := by decide +kernel
theorem dJ_chr_1 : decode prog_22_method_56_code 1 = .ok (.invokevirtual 492, 3) := by decide +kernel
theorem dJ_chr_4 : decode prog_22_method_56_code 4 = .ok (.ifCond .eq 12, 3) := by decide +kernel
theorem dJ_chr_7 : decode prog_22_method_56_code 7 = .ok (.aload_n 0, 1) := by decide +kernel
theorem dJ_chr_8 : decode prog_22_method_56_code 8 = .ok (.getfield 9, 3) := by decide +kernel
theorem dJ_chr_11 : decode prog_22_method_56_code 11 = .ok (.iload_n 1, 1) := by decide +kernel
theorem dJ_chr_12 : decode prog_22_method_56_code 12 = .ok (.invokestatic 495, 3) := by decide +kernel
theorem dJ_chr_15 : decode prog_22_method_56_code 15 = .ok (.ireturn, 1) := by decide +kernel
theorem dJ_chr_16 : decode prog_22_method_56_code 16 = .ok (.aload_n 0, 1) := by decide +kernel
theorem dJ_chr_17 : decode prog_22_method_56_code 17 = .ok (.getfield 9, 3) := by decide +kernel
theorem dJ_chr_20 : decode prog_22_method_56_code 20 = .ok (.iload_n 1, 1) := by decide +kernel
theorem dJ_chr_21 : decode prog_22_method_56_code 21 = .ok (.invokestatic 498, 3) := by decide +kernel
theorem dJ_chr_24 : decode prog_22_method_56_code 24 = .ok (.ireturn, 1) := by decide +kernel
theorem dJ_ch1_0 : decode prog_23_method_2_code 0 = .ok (.iload_n 1, 1) := by decide +kernel
theorem dJ_ch1_1 : decode prog_23_method_2_code 1 = .ok (.aload_n 0, 1) := by decide +kernel
theorem dJ_ch1_2 : decode prog_23_method_2_code 2 = .ok (.arraylength, 1) := by decide +kernel
theorem dJ_ch1_3 : decode prog_23_method_2_code 3 = .ok (.invokestatic 9, 3) := by decide +kernel
theorem dJ_ch1_6 : decode prog_23_method_2_code 6 = .ok (.aload_n 0, 1) := by decide +kernel
theorem dJ_ch1_7 : decode prog_23_method_2_code 7 = .ok (.iload_n 1, 1) := by decide +kernel
theorem dJ_ch1_8 : decode prog_23_method_2_code 8 = .ok (.baload, 1) := by decide +kernel
theorem dJ_ch1_9 : decode prog_23_method_2_code 9 = .ok (.sipush 255, 3) := by decide +kernel
theorem dJ_ch1_12 : decode prog_23_method_2_code 12 = .ok (.iand, 1) := by decide +kernel
theorem dJ_ch1_13 : decode prog_23_method_2_code 13 = .ok (.i2c, 1) := by decide +kernel
theorem dJ_ch1_14 : decode prog_23_method_2_code 14 = .ok (.ireturn, 1) := by decide +kernel
theorem dJ_chk_0 : decode prog_22_method_155_code 0 = .ok (.iload_n 0, 1) := by decide +kernel
theorem dJ_chk_1 : decode prog_22_method_155_code 1 = .ok (.iload_n 1, 1) := by decide +kernel
theorem dJ_chk_2 : decode prog_22_method_155_code 2 = .ok (.getstatic 1053, 3) := by decide +kernel
theorem dJ_chk_5 : decode prog_22_method_155_code 5 = .ok (.invokestatic 1059, 3) := by decide +kernel
theorem dJ_chk_8 : decode prog_22_method_155_code 8 = .ok (.pop, 1) := by decide +kernel
theorem dJ_chk_9 : decode prog_22_method_155_code 9 = .ok (.return_, 1) := by decide +kernel
theorem dJ_pre_0 : decode prog_30_method_11_code 0 = .ok (.iload_n 0, 1) := by decide +kernel
theorem dJ_pre_1 : decode prog_30_method_11_code 1 = .ok (.ifCond .lt 8, 3) := by decide +kernel
theorem dJ_pre_4 : decode prog_30_method_11_code 4 = .ok (.iload_n 0, 1) := by decide +kernel
theorem dJ_pre_5 : decode prog_30_method_11_code 5 = .ok (.iload_n 1, 1) := by decide +kernel
theorem dJ_pre_6 : decode prog_30_method_11_code 6 = .ok (.if_icmp .lt 10, 3) := by decide +kernel
theorem dJ_pre_9 : decode prog_30_method_11_code 9 = .ok (.aload_n 2, 1) := by decide +kernel
theorem dJ_pre_10 : decode prog_30_method_11_code 10 = .ok (.iload_n 0, 1) := by decide +kernel
theorem dJ_pre_11 : decode prog_30_method_11_code 11 = .ok (.iload_n 1, 1) := by decide +kernel
theorem dJ_pre_12 : decode prog_30_method_11_code 12 = .ok (.invokestatic 95, 3) := by decide +kernel
theorem dJ_pre_15 : decode prog_30_method_11_code 15 = .ok (.athrow, 1) := by decide +kernel
theorem dJ_pre_16 : decode prog_30_method_11_code 16 = .ok (.iload_n 0, 1) := by decide +kernel
theorem dJ_pre_17 : decode prog_30_method_11_code 17 = .ok (.ireturn, 1) := by decide +kernel
def wbI : List Int := [98, 101, 110, 99, 104, 32, 98, 111, 120, 32, 102, 97, 100, 101, 32, 102, 108, 111, 111, 114, 32, 98, 108, 101, 101, 100, 32, 102, 117, 115, 101, 32, 110, 111, 105, 115, 101, 32, 108, 101, 97, 107, 32, 106, 117, 109, 112, 32, 119, 97, 114, 109, 32, 111, 114, 32, 97, 110, 100, 32, 110, 111, 116, 32, 105, 110, 32, 108, 105, 101, 115, 32, 117, 115, 101, 100, 32, 104, 111, 108, 100, 32, 112, 97, 115, 115, 32, 115, 112, 114, 101, 97, 100, 32, 99, 101, 108, 108, 32, 115, 116, 114, 105, 112, 32, 97, 102, 116, 101, 114, 32, 110, 101, 97, 114, 32]
def wby (j : Nat) : Int := wbI.getD j 0
def wtx : String := "bench box fade floor bleed fuse noise leak jump warm or and not in lies used hold pass spread cell strip after near "
def sKv (E : GE) (q b : Nat) (v : Value) (U : State) (H : Heap) : Prop := va_O RJ0 q (gA E) U H ∧ va_OF RJ0 "coder" "B" (.int 0) q (gA E) U H ∧ va_OF RJ0 "value" "[B" (.ref b) q (gA E) U H ∧ va_T .byte b 116 (fun j => .int (Int32.ofInt (wby j))) (gA E) U H ∧ va_Z RJ0 "COMPACT_STRINGS" "Z" (.int 1) (gA E) U H ∧ va_Z RJ3 "SIOOBE_FORMATTER" "Ljava/util/function/BiFunction;" v (gA E) U H
theorem sKv.moved {E : GE} {q b : Nat} {v : Value} {u U : State} {H : Heap} (hvm : u.vm.Alike U.vm) (h : sKv E q b v u H) : sKv E q b v U H := ⟨va_O.moved hvm h.1, va_OF.moved hvm h.2.1, va_OF.moved hvm h.2.2.1, va_T.moved hvm h.2.2.2.1, va_Z.moved hvm h.2.2.2.2.1, va_Z.moved hvm h.2.2.2.2.2⟩
theorem sKv.kept {E : GE} {q b : Nat} {v : Value} {U : State} {H H1 : Heap} (h : sKv E q b v U H) (hq : ∀ a : Nat, a < H.size → ¬ gA E a → H1[a]? = H[a]?) : sKv E q b v U H1 := ⟨h.1.kept hq, h.2.1.kept hq, h.2.2.1.kept hq, h.2.2.2.1.kept hq, h.2.2.2.2.1.kept hq, h.2.2.2.2.2.kept hq⟩
set_option maxRecDepth 40000 in
theorem st_lays : Cond.laysStatic RJ0 "COMPACT_STRINGS" "Z" ∈ lw_tbl ∧ Cond.laysStatic RJ3 "SIOOBE_FORMATTER" "Ljava/util/function/BiFunction;" ∈ lw_tbl ∧ Cond.initialized RJ0 ∈ lw_tbl ∧ Cond.initialized RJ3 ∈ lw_tbl ∧ Cond.stringRef RX7 57 wtx ∈ lw_tbl := by decide +kernel
set_option maxRecDepth 40000 in
theorem st_eq : Cond.eq (.static RJ0 "COMPACT_STRINGS" "Z") (.int 1) ∈ flatC (Jvm.Cond.and given_1 narrow_1) ∧ Cond.isRef (.static RJ3 "SIOOBE_FORMATTER" "Ljava/util/function/BiFunction;") ∈ flatC (Jvm.Cond.and given_1 narrow_1) ∧ Cond.exactly (.string RX7 57) RJ0 ∈ flatC (Jvm.Cond.and given_1 narrow_1) ∧ Cond.eq (.field (.string RX7 57) RJ0 "coder" "B") (.int 0) ∈ flatC (Jvm.Cond.and given_1 narrow_1) ∧ Cond.arrayOf (.field (.string RX7 57) RJ0 "value" "[B") .byte ∈ flatC (Jvm.Cond.and given_1 narrow_1) ∧ Cond.eq (.length (.field (.string RX7 57) RJ0 "value" "[B")) (.int (Int32.ofNat 116)) ∈ flatC (Jvm.Cond.and given_1 narrow_1) := by decide +kernel
set_option maxRecDepth 40000 in
theorem st_el : (List.range 116).all (fun j => decide (Cond.eq (.elem (.field (.string RX7 57) RJ0 "value" "[B") (.int (Int32.ofNat j))) (.int (Int32.ofInt (wby j))) ∈ flatC (Jvm.Cond.and given_1 narrow_1))) = true := by decide +kernel
theorem st_byt (j : Nat) : (([wbI.map Int32.ofInt] : List (List Int32)).getD 0 []).getD j 0 = Int32.ofInt (wby j) := by
  show (wbI.map Int32.ofInt).getD j 0 = Int32.ofInt (wbI.getD j 0)
  rw [List.getD_eq_getElem?_getD, List.getD_eq_getElem?_getD, List.getElem?_map]
  cases wbI[j]? <;> rfl
theorem gS.str {E : GE} {s : State} (h : gS E s s.heap) : ∃ (q b : Nat) (v : Value), (v = .null ∨ ∃ t : Nat, v = .ref t) ∧ vk_R RX7 57 wtx q s ∧ sKv E q b v s s.heap := by
  obtain ⟨-, -, s0, h0, hW, hq⟩ := h
  have hz : s0.heap.size = geB E := h0.2.2.2.1
  have hA : ∀ a : Nat, a < s0.heap.size → ¬ gA E a := fun a ha q => by have : geB E ≤ a := q; omega
  have fl := flat_of_before _ h0.2.2.2.2.2.1
  obtain ⟨adK, adV, hS, hev⟩ := vk_Sof (args := #[Value.ref (geA E)]) (s := s0) (N := 1) (tm := fun _ => .string RX7 57) (len := [116]) (byt := [wbI.map Int32.ofInt]) (A := gA E) (fun i hi => by rw [show i = 0 by omega]; decide) (fun i _ => fl _ st_eq.2.2.1) (fun i _ => fl _ st_eq.2.2.2.1) (fun i _ => fl _ st_eq.2.2.2.2.1) (fun i hi => by rw [show i = 0 by omega]; exact fl _ st_eq.2.2.2.2.2) (fun i hi j hj => by
    rw [show i = 0 by omega] at hj ⊢
    rw [st_byt]
    exact fl _ (of_decide_eq_true (List.all_eq_true.mp st_el j (List.mem_range.mpr hj)))) (fun i j hi hj hne => absurd (by omega) hne) hA
  have S0 := hS.1 0 (by decide)
  have T0 : va_T .byte (adV 0) 116 (fun j => .int (Int32.ofInt (wby j))) (gA E) s0 s0.heap := by
    have t := S0.2.2.2
    have e : (fun j => Value.int ((([wbI.map Int32.ofInt] : List (List Int32)).getD 0 []).getD j 0)) = (fun j => .int (Int32.ofInt (wby j))) := funext fun j => by rw [st_byt]
    rw [e] at t
    exact t
  have R0 : vk_R RX7 57 wtx (adK 0) s0 := vk_R.of (h0.2.2.2.2.1 _ st_lays.2.2.2.2) (hev 0 (by decide))
  have Z1 := va_Zof (A := gA E) (h0.2.2.2.2.1 _ st_lays.1) (h0.2.2.2.2.1 _ st_lays.2.2.1) (va_eqt (fl _ st_eq.1)) hA
  have Z2 := va_Zqof (A := gA E) (h0.2.2.2.2.1 _ st_lays.2.1) (h0.2.2.2.2.1 _ st_lays.2.2.2.1) (fl _ st_eq.2.1) hA
  have mk : ∀ v, va_Z RJ3 "SIOOBE_FORMATTER" "Ljava/util/function/BiFunction;" v (gA E) s0 s0.heap → sKv E (adK 0) (adV 0) v s s.heap := fun v z => by
    have k0 : sKv E (adK 0) (adV 0) v s0 s0.heap := ⟨S0.1, S0.2.1, S0.2.2.1, T0, Z1, z⟩
    exact (k0.moved hW.alike).kept (fun a ha _ => hq a (by omega))
  rcases Z2 with z | ⟨t, z⟩
  · exact ⟨adK 0, adV 0, .null, Or.inl rfl, R0.warm hW, mk _ z⟩
  · exact ⟨adK 0, adV 0, .ref t, Or.inr ⟨t, rfl⟩, R0.warm hW, mk _ z⟩
/-- the same, as the numbers of three cells that nobody writes -/
def sK (oF : Option Nat) (E : GE) (ρ : Nat → Nat) (s : State) (H : Heap) : Prop := sKv E (ρ 1000005) (ρ 1000006) (cR ρ oF) s H
theorem sK.heap {oF : Option Nat} {E : GE} {ρ : Nat → Nat} {s : State} {H : Heap} {locs : List Loc} (h : sK oF E ρ s s.heap) (hS : va_S (gA E) s.heap H locs) : sK oF E ρ s H := sKv.kept h hS.2.1
theorem sK.moved {oF : Option Nat} {E : GE} {ρ : Nat → Nat} {s U : State} {H : Heap} (h : sK oF E ρ s H) (hW : s.WarmedH U.vm) : sK oF E ρ U H := sKv.moved hW.alike h
def GJ (oF : Option Nat) (l : Launch) (d mc ms : Nat) (i : MT) (z : ZR) (pc : Nat) (ls st : List AV) (h : HI) (Q : Option AV → HI → ZR → Prop) : Prop :=
  ∀ (p : Program) (e : Env) (s : State) (m : MethodId) (args : Array Value) (below : List Frame) (meth : Method) (c : Code) (H : Heap) (locs : List Loc) (cells slots : Nat) (E : GE) (ρ : Nat → Nat) (lsA : Array Slot), sK oF E ρ s s.heap →
    gC p s m args meth c i → gS E s s.heap → gR E ρ h z H → va_S (gA E) s.heap H locs → lv_has lsA i.2.2.1 (lk ρ 0 ls) →
    W p l e (gRm d (cells + mc) (slots + ms)) s m args below meth c H locs cells slots (MQ below (gQ E ρ z.2 Q) args s (cells + mc) (slots + ms) (gA E)) (F0 m pc lsA (st.map (cV ρ)))
def RetJ (oF : Option Nat) (l : Launch) (d : Nat) (i : MT) (z : ZR) (as : List AV) (h : HI) (Q : Option AV → HI → ZR → Prop) : Prop :=
  ∀ (E : GE) (ρ : Nat → Nat), Met l i.1 (gws i) (gRm d 0 0) (va_Pc (as.map (cV ρ)) (fun U => sK oF E ρ U U.heap ∧ gS E U U.heap ∧ gR E ρ h z U.heap)) (gQ E ρ z.2 Q) 0 0 (gA E)
/-- what it answers, and nothing has changed -/
def qJ (z : ZR) (h : HI) (v : Option AV) : Option AV → HI → ZR → Prop := fun v' h' z' => v' = v ∧ h' = h ∧ z' = z
theorem gjPc_blind {oF : Option Nat} {E : GE} {ρ : Nat → Nat} {h : HI} {z : ZR} {av : List Value} : FrameBlind (va_Pc av (fun U => sK oF E ρ U U.heap ∧ gS E U U.heap ∧ gR E ρ h z U.heap)) := by
  intro a U g mk hq
  obtain ⟨h1, h0, h2, h3⟩ := hq
  refine ⟨h1, ?_, ?_, h3⟩
  · exact sKv.moved (u := U) (U := U.calling g mk a) (Vm.Alike.refl U.vm) h0
  · obtain ⟨hK, hB, s0, h0, hW0, hq⟩ := h2
    exact ⟨va_K.moved (u := U) (U := U.calling g mk a) (Vm.Alike.refl U.vm) hK, hB, s0, h0, hW0, hq⟩
theorem RetJ.of {oF : Option Nat} {l : Launch} {d : Nat} {i : MT} {z : ZR} {as : List AV} {h : HI} {Q : Option AV → HI → ZR → Prop} (n : Nat) (hp : plainName i.1.cls = true) (ls : List AV) (hls : apad as ++ List.replicate n aU = ls) (hn : (apad as).length + n = i.2.2.1) (k : GJ oF l d 0 0 i z 0 ls [] h Q) : RetJ oF l d i z as h Q := by
  intro E ρ
  refine Met.ofW (cc := i.2.1) (maxL := i.2.2.1) (ret := i.2.2.2) hp rfl ?_
  intro p e s m args below meth c s₁ B hml hv
  obtain ⟨rfl, hJ, hS0, hR⟩ := hv
  have hts := atoms_spec (ws := gws i) B.pre
  have hl := lv_entry (as.map (cV ρ)) (n := i.2.2.1) (by rw [← apad_len]; omega)
  rw [lg_entry_eq]
  have hl2 : lv_has ((lg_sl (as.map (cV ρ)) ++ List.replicate (i.2.2.1 - (lg_sl (as.map (cV ρ))).length) Slot.unset).toArray) i.2.2.1 (lk ρ 0 ls) := by
    refine lv_has_mono hl (fun q hq => ?_)
    rw [← hls, lk_app, lk_U, List.append_nil] at hq
    exact lk_pad q hq
  have := k p e s m (as.map (cV ρ)).toArray below meth c s.heap [] 0 0 E ρ _ hJ ⟨B.exec, B.bytes, B.returns, hml, findClass_of_methodNamed B.named, fun w hw => hts w (List.mem_cons_of_mem _ hw), B.notSynchronized, (name_of_methodNamed B.named B.method).1⟩ hS0 hR va_S.rf hl2
  simp only [Nat.zero_add] at this
  exact this
section GJRows
variable {oF : Option Nat} {l : Launch} {d mc ms : Nat} {i : MT} {z : ZR} {pc : Nat} {ls st : List AV} {h : HI} {Q : Option AV → HI → ZR → Prop}
theorem gj_iload_n {q : Fin 4} {x : Int} (hd : decode i.2.1 pc = .ok (.iload_n q, 1)) (hv : ls[(q : Nat)]? = some (aI x)) (k : GJ oF l d mc ms i z (pc + 1) ls (aI x :: st) h Q) : GJ oF l d mc ms i z (pc) ls (st) h Q := by
  intro p e s m args below meth c H locs cells slots E ρ lsA hxt hC hS0 hR hS hl
  obtain ⟨hx, hb, hr, hml, hown, hts, hlk, hnm⟩ := id hC
  exact lv_iload_n hx hb hd rfl (lk_at hl hv (by intro q; cases q)) (k p e s m args below meth c H locs cells slots E ρ lsA hxt hC hS0 hR hS hl)
theorem gj_aload_n {q : Fin 4} {a : Nat} (hd : decode i.2.1 pc = .ok (.aload_n q, 1)) (hv : ls[(q : Nat)]? = some (aP a)) (k : GJ oF l d mc ms i z (pc + 1) ls (aP a :: st) h Q) : GJ oF l d mc ms i z (pc) ls (st) h Q := by
  intro p e s m args below meth c H locs cells slots E ρ lsA hxt hC hS0 hR hS hl
  obtain ⟨hx, hb, hr, hml, hown, hts, hlk, hnm⟩ := id hC
  exact lv_aload_n hx hb hd rfl (lk_at hl hv (by intro q; cases q)) (k p e s m args below meth c H locs cells slots E ρ lsA hxt hC hS0 hR hS hl)
theorem gj_iconst {n : Int} (hd : decode i.2.1 pc = .ok (.iconst n, 1)) (k : GJ oF l d mc ms i z (pc + 1) ls (aI n :: st) h Q) : GJ oF l d mc ms i z (pc) ls (st) h Q := by
  intro p e s m args below meth c H locs cells slots E ρ lsA hxt hC hS0 hR hS hl
  obtain ⟨hx, hb, hr, hml, hown, hts, hlk, hnm⟩ := id hC
  exact lv_iconst hx hb hd rfl (k p e s m args below meth c H locs cells slots E ρ lsA hxt hC hS0 hR hS hl)
theorem gj_sipush {n : Int} (hd : decode i.2.1 pc = .ok (.sipush n, 3)) (hn : (Int16.ofInt n).toInt32 = Int32.ofInt n) (k : GJ oF l d mc ms i z (pc + 3) ls (aI n :: st) h Q) : GJ oF l d mc ms i z (pc) ls (st) h Q := by
  intro p e s m args below meth c H locs cells slots E ρ lsA hxt hC hS0 hR hS hl
  obtain ⟨hx, hb, hr, hml, hown, hts, hlk, hnm⟩ := id hC
  exact lv_sipush hx hb hd hn (k p e s m args below meth c H locs cells slots E ρ lsA hxt hC hS0 hR hS hl)
theorem gj_if_eq {x off : Int} {tgt : Nat} (hd : decode i.2.1 pc = .ok (.ifCond .eq off, 3)) (ht : (pc : Int) + off = (tgt : Int)) (h1 : rg x) (k : if x = 0 then GJ oF l d mc ms i z (tgt) ls (st) h Q else GJ oF l d mc ms i z (pc + 3) ls (st) h Q) : GJ oF l d mc ms i z (pc) ls (aI x :: st) h Q := by
  intro p e s m args below meth c H locs cells slots E ρ lsA hxt hC hS0 hR hS hl
  obtain ⟨hx, hb, hr, hml, hown, hts, hlk, hnm⟩ := id hC
  have hiff := i32_eq h1 rg_0
  rw [← i32_0] at hiff
  refine lv_if_eq hx hb hd ht (fun q => ?_) (fun q => ?_)
  · rw [if_pos (hiff.mp q)] at k; exact k p e s m args below meth c H locs cells slots E ρ lsA hxt hC hS0 hR hS hl
  · rw [if_neg (fun z => q (hiff.mpr z))] at k; exact k p e s m args below meth c H locs cells slots E ρ lsA hxt hC hS0 hR hS hl
theorem gj_if_ne {x off : Int} {tgt : Nat} (hd : decode i.2.1 pc = .ok (.ifCond .ne off, 3)) (ht : (pc : Int) + off = (tgt : Int)) (h1 : rg x) (k : if ¬ x = 0 then GJ oF l d mc ms i z (tgt) ls (st) h Q else GJ oF l d mc ms i z (pc + 3) ls (st) h Q) : GJ oF l d mc ms i z (pc) ls (aI x :: st) h Q := by
  intro p e s m args below meth c H locs cells slots E ρ lsA hxt hC hS0 hR hS hl
  obtain ⟨hx, hb, hr, hml, hown, hts, hlk, hnm⟩ := id hC
  have hiff := i32_eq h1 rg_0
  rw [← i32_0] at hiff
  refine lv_if_ne hx hb hd ht (fun q => ?_) (fun q => ?_)
  · rw [if_pos (fun z => q (hiff.mpr z))] at k; exact k p e s m args below meth c H locs cells slots E ρ lsA hxt hC hS0 hR hS hl
  · rw [if_neg (fun z => z (hiff.mp q))] at k; exact k p e s m args below meth c H locs cells slots E ρ lsA hxt hC hS0 hR hS hl
theorem gj_if_lt {x off : Int} {tgt : Nat} (hd : decode i.2.1 pc = .ok (.ifCond .lt off, 3)) (ht : (pc : Int) + off = (tgt : Int)) (h1 : rg x) (k : if x < 0 then GJ oF l d mc ms i z (tgt) ls (st) h Q else GJ oF l d mc ms i z (pc + 3) ls (st) h Q) : GJ oF l d mc ms i z (pc) ls (aI x :: st) h Q := by
  intro p e s m args below meth c H locs cells slots E ρ lsA hxt hC hS0 hR hS hl
  obtain ⟨hx, hb, hr, hml, hown, hts, hlk, hnm⟩ := id hC
  have hiff := i32_lt h1 rg_0
  rw [← i32_0] at hiff
  refine lv_if_lt hx hb hd ht (fun q => ?_) (fun q => ?_)
  · rw [if_pos (hiff.mp q)] at k; exact k p e s m args below meth c H locs cells slots E ρ lsA hxt hC hS0 hR hS hl
  · rw [if_neg (fun z => q (hiff.mpr z))] at k; exact k p e s m args below meth c H locs cells slots E ρ lsA hxt hC hS0 hR hS hl
theorem gj_cmp_lt {x y off : Int} {tgt : Nat} (hd : decode i.2.1 pc = .ok (.if_icmp .lt off, 3)) (ht : (pc : Int) + off = (tgt : Int)) (h1 : rg x) (h2 : rg y) (k : if x < y then GJ oF l d mc ms i z (tgt) ls (st) h Q else GJ oF l d mc ms i z (pc + 3) ls (st) h Q) : GJ oF l d mc ms i z (pc) ls (aI y :: aI x :: st) h Q := by
  intro p e s m args below meth c H locs cells slots E ρ lsA hxt hC hS0 hR hS hl
  obtain ⟨hx, hb, hr, hml, hown, hts, hlk, hnm⟩ := id hC
  have hiff := i32_lt h1 h2
  refine lv_icmp_lt hx hb hd ht (fun q => ?_) (fun q => ?_)
  · rw [if_pos (hiff.mp q)] at k; exact k p e s m args below meth c H locs cells slots E ρ lsA hxt hC hS0 hR hS hl
  · rw [if_neg (fun z => q (hiff.mpr z))] at k; exact k p e s m args below meth c H locs cells slots E ρ lsA hxt hC hS0 hR hS hl
theorem gj_goto {off : Int} {tgt : Nat} (hd : decode i.2.1 pc = .ok (.goto off, 3)) (ht : (pc : Int) + off = (tgt : Int)) (k : GJ oF l d mc ms i z (tgt) ls (st) h Q) : GJ oF l d mc ms i z (pc) ls (st) h Q := by
  intro p e s m args below meth c H locs cells slots E ρ lsA hxt hC hS0 hR hS hl
  obtain ⟨hx, hb, hr, hml, hown, hts, hlk, hnm⟩ := id hC
  exact lv_goto hx hb hd ht (k p e s m args below meth c H locs cells slots E ρ lsA hxt hC hS0 hR hS hl)
theorem gj_iand {x y : Int} (hd : decode i.2.1 pc = .ok (.iand, 1)) (k : GJ oF l d mc ms i z (pc + 1) ls (aI (band x y) :: st) h Q) : GJ oF l d mc ms i z (pc) ls (aI y :: aI x :: st) h Q := by
  intro p e s m args below meth c H locs cells slots E ρ lsA hxt hC hS0 hR hS hl
  obtain ⟨hx, hb, hr, hml, hown, hts, hlk, hnm⟩ := id hC
  refine lv_iand hx hb hd ?_
  have k2 := k p e s m args below meth c H locs cells slots E ρ lsA hxt hC hS0 hR hS hl
  simp only [List.map_cons, cV, band, i32_back] at k2
  exact k2
theorem gj_ishr {x y : Int} (hd : decode i.2.1 pc = .ok (.ishr, 1)) (k : GJ oF l d mc ms i z (pc + 1) ls (aI (bshr x y) :: st) h Q) : GJ oF l d mc ms i z (pc) ls (aI y :: aI x :: st) h Q := by
  intro p e s m args below meth c H locs cells slots E ρ lsA hxt hC hS0 hR hS hl
  obtain ⟨hx, hb, hr, hml, hown, hts, hlk, hnm⟩ := id hC
  refine lv_ishr hx hb hd ?_
  have k2 := k p e s m args below meth c H locs cells slots E ρ lsA hxt hC hS0 hR hS hl
  simp only [List.map_cons, cV, bshr, i32_back] at k2
  exact k2
theorem gj_ret {ty : FieldType} {x : Int} (hd : decode i.2.1 pc = .ok (.ireturn, 1)) (hr0 : i.2.2.2 = some ty) (hn : narrow ty (.int (Int32.ofInt x)) = .int (Int32.ofInt x)) (k : Q (some (aI x)) h z) : GJ oF l d mc ms i z (pc) ls ([aI x]) h Q := by
  intro p e s m args below meth c H locs cells slots E ρ lsA hxt hC hS0 hR hS hl
  obtain ⟨hx, hb, hr, hml, hown, hts, hlk, hnm⟩ := id hC
  refine W.widen (k := cells + mc) (n := slots + ms) (by omega) (by omega) ?_
  exact W.zret hx hb (hr.trans hr0) hn (fun t ht hW => ⟨⟨some (aI x), h, z, ρ, rfl, k, by rw [ht]; exact hR, Nat.le_refl _, fun _ _ => rfl⟩, hS.F ht⟩) (fun q hq => hS.2.2 q hq) hd hlk
theorem gj_retv (hd : decode i.2.1 pc = .ok (.return_, 1)) (hr0 : i.2.2.2 = none) (k : Q none h z) : GJ oF l d mc ms i z (pc) ls ([]) h Q := by
  intro p e s m args below meth c H locs cells slots E ρ lsA hxt hC hS0 hR hS hl
  obtain ⟨hx, hb, hr, hml, hown, hts, hlk, hnm⟩ := id hC
  refine W.widen (k := cells + mc) (n := slots + ms) (by omega) (by omega) ?_
  exact W.vret hx hb (hr.trans hr0) (fun t ht hW => ⟨⟨none, h, z, ρ, rfl, k, by rw [ht]; exact hR, Nat.le_refl _, fun _ _ => rfl⟩, hS.F ht⟩) (fun q hq => hS.2.2 q hq) hd hlk
theorem gj_pop {x : Int} (hd : decode i.2.1 pc = .ok (.pop, 1)) (k : GJ oF l d mc ms i z (pc + 1) ls st h Q) : GJ oF l d mc ms i z pc ls (aI x :: st) h Q := by
  intro p e s m args below meth c H locs cells slots E ρ lsA hxt hC hS0 hR hS hl
  obtain ⟨hx, hb, hr, hml, hown, hts, hlk, hnm⟩ := id hC
  exact lv_pop hx hb hd rfl (k p e s m args below meth c H locs cells slots E ρ lsA hxt hC hS0 hR hS hl)
theorem gj_getV (hd : decode i.2.1 pc = .ok (.getfield 9, 3)) (hi : i.1.cls = RJ0) (hw : Cond.fieldLink RJ0 9 RJ0 "value" "[B" ∈ TB) (k : GJ oF l d mc ms i z (pc + 3) ls (aP 1000006 :: st) h Q) : GJ oF l d mc ms i z pc ls (aP 1000005 :: st) h Q := by
  intro p e s m args below meth c H locs cells slots E ρ lsA hxt hC hS0 hR hS hl
  obtain ⟨hx, hb, hr, hml, hown, hts, hlk, hnm⟩ := id hC
  rw [hi] at hown
  exact vk_getf hx hb hxt.2.2.1 hS hown (hts _ hw) (fun _ q => q) hd (k p e s m args below meth c H locs cells slots E ρ lsA hxt hC hS0 hR hS hl)
theorem gj_getC (hd : decode i.2.1 pc = .ok (.getfield 15, 3)) (hi : i.1.cls = RJ0) (hw : Cond.fieldLink RJ0 15 RJ0 "coder" "B" ∈ TB) (k : GJ oF l d mc ms i z (pc + 3) ls (aI 0 :: st) h Q) : GJ oF l d mc ms i z pc ls (aP 1000005 :: st) h Q := by
  intro p e s m args below meth c H locs cells slots E ρ lsA hxt hC hS0 hR hS hl
  obtain ⟨hx, hb, hr, hml, hown, hts, hlk, hnm⟩ := id hC
  rw [hi] at hown
  exact vk_getf hx hb hxt.2.1 hS hown (hts _ hw) (fun _ q => q) hd (k p e s m args below meth c H locs cells slots E ρ lsA hxt hC hS0 hR hS hl)
theorem gj_len (hd : decode i.2.1 pc = .ok (.arraylength, 1)) (k : GJ oF l d mc ms i z (pc + 1) ls (aI 116 :: st) h Q) : GJ oF l d mc ms i z pc ls (aP 1000006 :: st) h Q := by
  intro p e s m args below meth c H locs cells slots E ρ lsA hxt hC hS0 hR hS hl
  obtain ⟨hx, hb, hr, hml, hown, hts, hlk, hnm⟩ := id hC
  exact va_tlen hx hb hxt.2.2.2.1 hS rfl hd (k p e s m args below meth c H locs cells slots E ρ lsA hxt hC hS0 hR hS hl)
theorem gj_bald {x : Int} (hd : decode i.2.1 pc = .ok (.baload, 1)) (h1 : 0 ≤ x ∧ x < 116) (k : GJ oF l d mc ms i z (pc + 1) ls (aI (wby x.toNat) :: st) h Q) : GJ oF l d mc ms i z pc ls (aI x :: aP 1000006 :: st) h Q := by
  intro p e s m args below meth c H locs cells slots E ρ lsA hxt hC hS0 hR hS hl
  obtain ⟨hx, hb, hr, hml, hown, hts, hlk, hnm⟩ := id hC
  have e1 : (Int32.ofInt x).toNatClampNeg = x.toNat := by rw [i32_nat (by omega) (by omega)]
  exact va_tb hx hb hxt.2.2.2.1 hS (vp_in_of_int h1.1 h1.2 (by decide)) (by rw [e1]; rfl) hd (k p e s m args below meth c H locs cells slots E ρ lsA hxt hC hS0 hR hS hl)
theorem gj_sCS (hd : decode i.2.1 pc = .ok (.getstatic 38, 3)) (hi : i.1.cls = RJ0) (hw : Cond.fieldLink RJ0 38 RJ0 "COMPACT_STRINGS" "Z" ∈ TB) (k : GJ oF l d mc ms i z (pc + 3) ls (aI 1 :: st) h Q) : GJ oF l d mc ms i z pc ls st h Q := by
  intro p e s m args below meth c H locs cells slots E ρ lsA hxt hC hS0 hR hS hl
  obtain ⟨hx, hb, hr, hml, hown, hts, hlk, hnm⟩ := id hC
  rw [hi] at hown
  exact va_gets hx hb hxt.2.2.2.2.1 hS hown (hts _ hw) (fun _ q => q) hd (k p e s m args below meth c H locs cells slots E ρ lsA hxt hC hS0 hR hS hl)
theorem gj_sSF (hd : decode i.2.1 pc = .ok (.getstatic 1053, 3)) (hi : i.1.cls = RJ0) (hw : Cond.fieldLink RJ0 1053 RJ3 "SIOOBE_FORMATTER" "Ljava/util/function/BiFunction;" ∈ TB) (k : GJ oF l d mc ms i z (pc + 3) ls (aR oF :: st) h Q) : GJ oF l d mc ms i z pc ls st h Q := by
  intro p e s m args below meth c H locs cells slots E ρ lsA hxt hC hS0 hR hS hl
  obtain ⟨hx, hb, hr, hml, hown, hts, hlk, hnm⟩ := id hC
  rw [hi] at hown
  exact va_gets hx hb hxt.2.2.2.2.2 hS hown (hts _ hw) (fun _ q => q) hd (k p e s m args below meth c H locs cells slots E ρ lsA hxt hC hS0 hR hS hl)
theorem gj_i2c {x : Int} (hd : decode i.2.1 pc = .ok (.i2c, 1)) (hv : ((Int32.ofInt x).toUInt32 % 65536).toInt32 = Int32.ofInt x) (k : GJ oF l d mc ms i z (pc + 1) ls (aI x :: st) h Q) : GJ oF l d mc ms i z pc ls (aI x :: st) h Q := by
  intro p e s m args below meth c H locs cells slots E ρ lsA hxt hC hS0 hR hS hl
  obtain ⟨hx, hb, hr, hml, hown, hts, hlk, hnm⟩ := id hC
  exact lv_i2c hx hb hd hv (k p e s m args below meth c H locs cells slots E ρ lsA hxt hC hS0 hR hS hl)
end GJRows
