theorem gW_at {ca : Nat → ClassId} {ρ : Nat → Nat} {h : HI} {z : ZR} {k : Nat} (hk : k < z.2) : (gW ca ρ h z)[k]? = some (ρ k, cE ca ρ h z.1 k) := by simp [gW, hk]
theorem gW_len {ca : Nat → ClassId} {ρ : Nat → Nat} {h : HI} {z : ZR} : (gW ca ρ h z).length = z.2 := by simp [gW]
theorem cE_obj {ca : Nat → ClassId} {ρ : Nat → Nat} {h : HI} {r : Nat → Nat → Option Nat} {k ci : Nat} (hs : SH k = .inl ci) : cE ca ρ h r k = .inr (ci, (List.range (fN ci)).map (fun j => fV ρ (fT ci j) (h k j) (r k j))) := by simp [cE, hs]
theorem cE_arr {ca : Nat → ClassId} {ρ : Nat → Nat} {h : HI} {r : Nat → Nat → Option Nat} {k t len : Nat} (hs : SH k = .inr (t, len)) : cE ca ρ h r k = .inl (ca t, len, aC ρ t (h k) (r k)) := by simp [cE, hs]
theorem cE_same {ca : Nat → ClassId} {ρ : Nat → Nat} {h h' : HI} {r r' : Nat → Nat → Option Nat} {k : Nat} (hh : h' k = h k) (hr : r' k = r k) : cE ca ρ h' r' k = cE ca ρ h r k := by
  unfold cE
  rw [hh, hr]
theorem gW_set {ca : Nat → ClassId} {ρ : Nat → Nat} {h h' : HI} {r r' : Nat → Nat → Option Nat} {n k : Nat} (hh : ∀ a, a ≠ k → h' a = h a) (hr : ∀ a, a ≠ k → r' a = r a) : gW ca ρ h' (r', n) = (gW ca ρ h (r, n)).set k (ρ k, cE ca ρ h' r' k) := by
  apply List.ext_getElem?
  intro q
  by_cases hq : q < n
  · rw [gW_at hq]
    by_cases hqk : q = k
    · subst hqk
      rw [List.getElem?_set_self (by rw [gW_len]; exact hq)]
    · rw [List.getElem?_set_ne (Ne.symm hqk), gW_at hq, cE_same (hh q hqk) (hr q hqk)]
  · rw [List.getElem?_eq_none (by rw [gW_len]; exact Nat.le_of_not_lt hq), List.getElem?_eq_none (by rw [List.length_set, gW_len]; exact Nat.le_of_not_lt hq)]
theorem hu_ne {h : HI} {k : Nat} {j v : Int} : ∀ a, a ≠ k → hu h k j v a = h a := by
  intro a ha
  funext b
  simp [hu, ha]
theorem ru_ne {r : Nat → Nat → Option Nat} {k j : Nat} {v : Option Nat} : ∀ a, a ≠ k → ru r k j v a = r a := by
  intro a ha
  funext b
  simp [ru, ha]
theorem cE_put {ca : Nat → ClassId} {ρ : Nat → Nat} {h : HI} {r : Nat → Nat → Option Nat} {k ci j : Nat} {x : Int} (hs : SH k = .inl ci) (hj : j < fN ci) :
    cE ca ρ (hu h k j x) r k = .inr (ci, ((List.range (fN ci)).map (fun i => fV ρ (fT ci i) (h k i) (r k i))).set j (fV ρ (fT ci j) x (r k j))) := by
  rw [cE_obj hs]
  congr 2
  apply List.ext_getElem?
  intro q
  by_cases hq : q < fN ci
  · by_cases hqj : q = j
    · subst hqj
      rw [List.getElem?_set_self (by simp; exact hq)]
      simp [hq, hu]
    · rw [List.getElem?_set_ne (Ne.symm hqj)]
      have : ¬ ((q : Int) = (j : Int)) := by omega
      simp [hq, hu, this]
  · rw [List.getElem?_eq_none (by simp; omega), List.getElem?_eq_none (by simp; omega)]
theorem cE_putR {ca : Nat → ClassId} {ρ : Nat → Nat} {h : HI} {r : Nat → Nat → Option Nat} {k ci j : Nat} {x : Option Nat} (hs : SH k = .inl ci) (hj : j < fN ci) :
    cE ca ρ h (ru r k j x) k = .inr (ci, ((List.range (fN ci)).map (fun i => fV ρ (fT ci i) (h k i) (r k i))).set j (fV ρ (fT ci j) (h k j) x)) := by
  rw [cE_obj hs]
  congr 2
  apply List.ext_getElem?
  intro q
  by_cases hq : q < fN ci
  · by_cases hqj : q = j
    · subst hqj
      rw [List.getElem?_set_self (by simp; exact hq)]
      simp [hq, ru]
    · rw [List.getElem?_set_ne (Ne.symm hqj)]
      simp [hq, ru, hqj]
  · rw [List.getElem?_eq_none (by simp; omega), List.getElem?_eq_none (by simp; omega)]
theorem upd_int {h : HI} {k : Nat} {x v : Int} (h0 : 0 ≤ x) : (fun j : Nat => Int32.ofInt (hu h k x v k j)) = upd (fun j : Nat => Int32.ofInt (h k j)) x.toNat (Int32.ofInt v) := by
  funext j
  by_cases hj : j = x.toNat
  · have e : (j : Int) = x := by omega
    simp [upd, hu, hj, e, Int.toNat_of_nonneg h0]
  · have e : ¬ ((j : Int) = x) := by omega
    simp [upd, hu, hj, e]
theorem upd_long {h : HI} {k : Nat} {x v : Int} (h0 : 0 ≤ x) : (fun j : Nat => Int64.ofInt (hu h k x v k j)) = vp_updL (fun j : Nat => Int64.ofInt (h k j)) x.toNat (Int64.ofInt v) := by
  funext j
  by_cases hj : j = x.toNat
  · have e : (j : Int) = x := by omega
    simp [vp_updL, hu, hj, e, Int.toNat_of_nonneg h0]
  · have e : ¬ ((j : Int) = x) := by omega
    simp [vp_updL, hu, hj, e]
theorem tb_mem {w : Cond} (i : Nat) (h : lw_tbl[i]? = some w) (hg : goodWord w = true) : w ∈ TB := List.mem_filter.mpr ⟨List.mem_of_getElem? h, hg⟩
theorem tb_of {w : Cond} (h : w ∈ lw_tbl) (hg : goodWord w = true) : w ∈ TB := List.mem_filter.mpr ⟨h, hg⟩
theorem tb_good {w : Cond} (h : w ∈ TB) : goodWord w = true := (List.mem_filter.mp h).2
theorem tb_goodIn {ws : List Cond} (h : ∀ w ∈ ws, w ∈ TB) : GoodIn TB ws := fun w hw => ⟨h w hw, good_of_word (tb_good (h w hw))⟩
/-- a class's facts -/
def CF (ci : Nat) (C : String) (T : u_T) : Prop := vwCl[ci]? = some (C, T, fN ci) ∧ (∀ w ∈ u_ws C T (fN ci), w ∈ TB) ∧ (∀ k, k < fN ci → parseFieldDescriptor (T k).2.2.1 = some (fT ci k)) ∧ ∀ a, a < fN ci → ∀ b, b < fN ci → a ≠ b → (T a).2.1 ≠ (T b).2.1
theorem lay_good (C : String) (T : u_T) (k : Nat) : goodWord (u_lay C T k) = true := by
  unfold u_lay
  split <;> rfl
theorem lays_in {C : String} {T : u_T} {N : Nat} (h : ∀ w ∈ u_ws C T N, w ∈ lw_tbl) : ∀ w ∈ u_ws C T N, w ∈ TB := by
  intro w hw
  refine tb_of (h w hw) ?_
  obtain ⟨k, -, rfl⟩ := List.mem_map.mp hw
  exact lay_good C T k
/-- a field's link: from the class own by the entry idx to the field j of the class ci -/
def FLk (own : String) (idx ci j : Nat) (fin : Bool) : Prop := ∃ (C : String) (T : u_T), CF ci C T ∧ j < fN ci ∧ (T j).2.2.2 = fin ∧ (T j).1 = C ∧ Cond.fieldLink own idx (T j).1 (T j).2.1 (T j).2.2.1 ∈ TB
/-- a method's link (an instance method by invokevirtual) -/
def MLn (j : MT) (n : Nat) : Prop := Cond.initialized j.1.cls ∈ TB ∧ Cond.code j.1 j.2.1 j.2.2.1 j.2.2.2 ∈ TB ∧ j.1.cls ≠ "java/lang/invoke/MethodHandle" ∧ j.1.cls ≠ "java/lang/invoke/VarHandle" ∧ (parseMethodDescriptor j.1.desc).map (fun d => d.parameters.length) = some n ∧ j.2.2.1 ≤ 25 ∧ plainName j.1.cls = true
def MLv (own : String) (idx : Nat) (j : MT) (n : Nat) : Prop := MLn j n ∧ Cond.methodLink own idx j.1 ∈ TB ∧ Cond.instanceMethod j.1 ∈ TB ∧ Cond.selects j.1.cls j.1 j.1 ∈ TB
def MLs (own : String) (idx : Nat) (j : MT) (n : Nat) : Prop := MLn j n ∧ Cond.methodLink own idx j.1 ∈ TB ∧ Cond.static j.1 ∈ TB
def MLsN (own : String) (idx : Nat) (j : MT) (n : Nat) : Prop := MLn j n ∧ (∃ host : String, Cond.methodLinkNest own idx j.1 host ∈ lw_tbl) ∧ Cond.static j.1 ∈ TB
def MLi (own : String) (idx : Nat) (j : MT) (n : Nat) : Prop := MLn j n ∧ Cond.methodLink own idx j.1 ∈ TB ∧ Cond.instanceMethod j.1 ∈ TB ∧ j.1.name = "<init>" ∧ j.2.2.2 = none
def MLiN (own : String) (idx : Nat) (j : MT) (n : Nat) : Prop := MLn j n ∧ (∃ host : String, Cond.methodLinkNest own idx j.1 host ∈ lw_tbl) ∧ Cond.instanceMethod j.1 ∈ TB ∧ j.1.name = "<init>" ∧ j.2.2.2 = none
theorem gws_in {j : MT} {n : Nat} (h : MLn j n) : ∀ w ∈ gws j, w ∈ TB := by
  intro w hw
  rcases List.mem_cons.mp hw with rfl | hw
  · exact h.2.1
  · exact hw
def acat (v : AV) : Nat := match v with
  | .inr (.inl _) => 2
  | _ => 1
theorem acat_cV {ρ : Nat → Nat} (v : AV) : (cV ρ v).category = acat v := by
  match v with
  | .inl x => rfl
  | .inr (.inl x) => rfl
  | .inr (.inr (.inl o)) => cases o <;> rfl
  | .inr (.inr (.inr ())) => rfl
theorem acat_sum {ρ : Nat → Nat} (st : List AV) : ((st.map (cV ρ)).map fun v => v.category).sum = (st.map acat).sum := by
  induction st with
  | nil => rfl
  | cons v t ih => simp only [List.map_cons, List.sum_cons, acat_cV, ih]
/-- the locals at a method's entry -/
def apad : List AV → List AV
  | [] => []
  | v :: t => match v with
    | .inr (.inl x) => aL x :: aU :: apad t
    | v => v :: apad t
theorem lk_U {ρ : Nat → Nat} {n : Nat} : ∀ {i : Nat}, lk ρ i (List.replicate n aU) = [] := by
  induction n with
  | zero => intro i; rfl
  | succ n ih => intro i; rw [List.replicate_succ]; exact ih
theorem lk_app {ρ : Nat → Nat} {b : List AV} : ∀ {a : List AV} {i : Nat}, lk ρ i (a ++ b) = lk ρ i a ++ lk ρ (i + a.length) b
  | [], i => by simp [lk]
  | v :: t, i => by
    have ih := lk_app (ρ := ρ) (b := b) (a := t) (i := i + 1)
    have e : i + (v :: t).length = i + 1 + t.length := by simp; omega
    rw [List.cons_append, e]
    match v with
    | .inl x => simp [lk, ih]
    | .inr (.inl x) => simp [lk, ih]
    | .inr (.inr (.inl o)) => simp [lk, ih]
    | .inr (.inr (.inr ())) => simp [lk, ih]
theorem lk_pad {ρ : Nat → Nat} : ∀ {as : List AV} {i : Nat}, ∀ q ∈ lk ρ i (apad as), q ∈ lv_args i (as.map (cV ρ))
  | [], i, q, hq => by simp [apad, lk] at hq
  | v :: t, i, q, hq => by
    have ih := fun k => lk_pad (ρ := ρ) (as := t) (i := k) q
    match v, hq with
    | .inl x, hq =>
      simp only [apad, lk, List.mem_cons] at hq
      simp only [List.map_cons, lv_args, List.mem_cons, cV]
      rcases hq with h | h
      · exact Or.inl h
      · exact Or.inr (ih _ h)
    | .inr (.inl x), hq =>
      simp only [apad, lk, List.mem_cons] at hq
      simp only [List.map_cons, lv_args, List.mem_cons, cV]
      rcases hq with h | h
      · exact Or.inl h
      · exact Or.inr (ih _ h)
    | .inr (.inr (.inl o)), hq =>
      simp only [apad, lk, List.mem_cons] at hq
      simp only [List.map_cons, lv_args, List.mem_cons, cV, cR_cat]
      rcases hq with h | h
      · exact Or.inl h
      · exact Or.inr (ih _ h)
    | .inr (.inr (.inr ())), hq =>
      simp only [apad, lk] at hq
      simp only [List.map_cons, lv_args, List.mem_cons, cV]
      exact Or.inr (ih _ hq)
theorem apad_len {ρ : Nat → Nat} : ∀ {as : List AV}, (apad as).length = (lg_sl (as.map (cV ρ))).length
  | [] => rfl
  | v :: t => by
    have ih := apad_len (ρ := ρ) (as := t)
    match v with
    | .inl x => simp [apad, lg_sl, cV, Value.category] at ih ⊢; exact ih
    | .inr (.inl x) => simp [apad, lg_sl, cV, Value.category] at ih ⊢; exact ih
    | .inr (.inr (.inl o)) => simp [apad, lg_sl, cV, cR_cat] at ih ⊢; exact ih
    | .inr (.inr (.inr ())) => simp [apad, lg_sl, cV, Value.category] at ih ⊢; exact ih
theorem gS.heap {E : GE} {s : State} {H : Heap} {locs : List Loc} (h : gS E s s.heap) (hS : va_S (gA E) s.heap H locs) : gS E s H := by
  obtain ⟨hK, hB, s0, h0, hW, hq⟩ := h
  refine ⟨hK, Nat.le_trans hB hS.1, s0, h0, hW, fun q hl => ?_⟩
  rw [hS.2.1 q (Nat.lt_of_lt_of_le hl hB) (Nat.not_le.mpr hl)]
  exact hq q hl
theorem gS.moved {E : GE} {s U : State} {H : Heap} (h : gS E s H) (hW : s.WarmedH U.vm) : gS E U H := by
  obtain ⟨hK, hB, s0, h0, hW0, hq⟩ := h
  exact ⟨va_K.moved hW.alike hK, hB, s0, h0, State.WarmedH.trans hW0 hW, hq⟩
theorem gS.nest {E : GE} {s : State} {H : Heap} (h : gS E s H) {own host : String} {idx : Nat} {y : MethodName} (hw : Cond.methodLinkNest own idx y host ∈ lw_tbl) : va_Nw (.methodLinkNest own idx y host) s := by
  obtain ⟨-, -, s0, h0, hW, -⟩ := h
  exact va_Nw.warmM hW (va_Nw.of rfl (h0.2.2.2.2.1 _ hw))
theorem gS.nestF {E : GE} {s : State} {H : Heap} (h : gS E s H) {own host ref nm ds : String} {idx : Nat} (hw : Cond.fieldLinkNest own idx ref nm ds host ∈ lw_tbl) : va_Nw (.fieldLinkNest own idx ref nm ds host) s := by
  obtain ⟨-, -, s0, h0, hW, -⟩ := h
  exact va_Nw.warmF hW (va_Nw.of rfl (h0.2.2.2.2.1 _ hw))
theorem gPc_blind {E : GE} {ρ : Nat → Nat} {h : HI} {z : ZR} {av : List Value} : FrameBlind (va_Pc av (fun U => gS E U U.heap ∧ gR E ρ h z U.heap)) := by
  intro a U g mk hq
  obtain ⟨h1, h2, h3⟩ := hq
  refine ⟨h1, ?_, h3⟩
  obtain ⟨hK, hB, s0, h0, hW0, hq⟩ := h2
  exact ⟨va_K.moved (u := U) (U := U.calling g mk a) (Vm.Alike.refl U.vm) hK, hB, s0, h0, hW0, hq⟩
/-- a method out of the walk of its body -/
theorem Ret.of {l : Launch} {d mc ms : Nat} {i : MT} {z : ZR} {as : List AV} {h : HI} {Q : Option AV → HI → ZR → Prop} (n : Nat) (hp : plainName i.1.cls = true) (ls : List AV) (hls : apad as ++ List.replicate n aU = ls) (hn : (apad as).length + n = i.2.2.1) (k : G l d mc ms i z 0 ls [] h Q) : Ret l d mc ms i z as h Q := by
  intro E ρ
  refine Met.ofW (cc := i.2.1) (maxL := i.2.2.1) (ret := i.2.2.2) hp rfl ?_
  intro p e s m args below meth c s₁ B hml hv
  obtain ⟨rfl, hS0, hR⟩ := hv
  have hts := atoms_spec (ws := gws i) B.pre
  have hl := lv_entry (as.map (cV ρ)) (n := i.2.2.1) (by rw [← apad_len]; omega)
  rw [lg_entry_eq]
  have hl2 : lv_has ((lg_sl (as.map (cV ρ)) ++ List.replicate (i.2.2.1 - (lg_sl (as.map (cV ρ))).length) Slot.unset).toArray) i.2.2.1 (lk ρ 0 ls) := by
    refine lv_has_mono hl (fun q hq => ?_)
    rw [← hls, lk_app, lk_U, List.append_nil] at hq
    exact lk_pad q hq
  have := k p e s m (as.map (cV ρ)).toArray below meth c s.heap [] 0 0 E ρ _ ⟨B.exec, B.bytes, B.returns, hml, findClass_of_methodNamed B.named, fun w hw => hts w (List.mem_cons_of_mem _ hw), B.notSynchronized, (name_of_methodNamed B.named B.method).1⟩ hS0 hR va_S.rf hl2
  simp only [Nat.zero_add] at this
  exact this
theorem Ret.mono {l : Launch} {d mc ms : Nat} {i : MT} {z : ZR} {as : List AV} {h : HI} {Q Q' : Option AV → HI → ZR → Prop} (hr : Ret l d mc ms i z as h Q) (hq : ∀ v h' z', Q v h' z' → Q' v h' z') : Ret l d mc ms i z as h Q' := by
  intro E ρ
  have := hr E ρ
  intro p e h1 h2 h3 s m args below h4 h5 h6 h7
  obtain ⟨k, o, a1, a2, a3, ⟨⟨v, h', z', ρ', b1, b2, b3⟩, b4⟩, a5⟩ := this p e h1 h2 h3 s m args below h4 h5 h6 h7
  exact ⟨k, o, a1, a2, a3, ⟨⟨v, h', z', ρ', b1, hq _ _ _ b2, b3⟩, b4⟩, a5⟩
section GGo
variable {p : Program} {l : Launch} {e : Env} {R : Room} {s : State} {m : MethodId} {args : Array Value} {below : List Frame} {meth : Method} {c : Code} {H : Heap} {locs : List Loc} {cells slots : Nat} {Qf : State → Prop}
theorem g_go {E : GE} {ρ : Nat → Nat} {n mc ms pc : Nat} {Q : Option AV → HI → ZR → Prop} {a : Array Value} {lsA : Array Slot} {st0 rest : List Value} (hr : va_Run p l e R s m args below meth c H locs cells slots mc ms (F0 m pc lsA st0) rest (gQ E ρ n Q a) (gA E)) (hS : va_S (gA E) s.heap H locs)
    (kk : ∀ (v : Option AV) (h' : HI) (z' : ZR) (ρ' : Nat → Nat) (H1 : Heap) (locs1 : List Loc), Q v h' z' → gR E ρ' h' z' H1 → n ≤ z'.2 → (∀ k : Nat, k < n ∨ z'.2 ≤ k → ρ' k = ρ k) → va_S (gA E) s.heap H1 locs1 → W p l e R s m args below meth c H1 locs1 (cells + mc) (slots + ms) Qf (F0 m (pc + 3) lsA ((v.map (cV ρ')).toList ++ rest))) : W p l e R s m args below meth c H locs cells slots Qf (F0 m pc lsA st0) := by
  intro T hT X
  obtain ⟨v, st₀, t, T', L, h0, X', hL, e1, e2, ⟨⟨w, h', z', ρ', hv, hp, hb, hn, hρ⟩, hz, hk⟩, st⟩ := hr T hT X
  cases hv
  rw [h0] at hz hk
  obtain ⟨t2, a1, b1⟩ := kk w h' z' ρ' T'.heap (locs ++ L) hp (by rw [e1]; exact hb) hn hρ
    ⟨Nat.le_trans hS.1 (by rw [e1]; exact hz), fun q h1 h2 => by rw [e1, hk q (Nat.lt_of_lt_of_le h1 hS.1) h2]; exact hS.2.1 q h1 h2, fun q hq => by
      rcases List.mem_append.mp hq with h | h
      · exact hS.2.2 q h
      · exact hL q h⟩ T' rfl X'
  exact ⟨t2, st t2 a1, b1⟩
end GGo
