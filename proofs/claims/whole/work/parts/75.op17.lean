/-! bestMend -/
theorem sm_upd {f g : Nat → Int} {j : Nat} : ∀ {n : Nat}, j < n → (∀ i, i < n → i ≠ j → g i = f i) → sm g n = sm f n - f j + g j
  | 0, h, _ => by omega
  | n + 1, h, e => by
    unfold sm
    by_cases z : j = n
    · subst z
      rw [sm_congr (f := g) (g := f) (n := j) (fun i hi => e i (by omega) (by omega))]; omega
    · rw [sm_upd (n := n) (by omega) (fun i hi hz => e i (by omega) hz), e n (by omega) (fun q => z q.symm)]; omega
theorem amF_le {f : Nat → Int} : ∀ {n r : Nat}, r < n → f (amF f n) ≤ f r
  | 0, r, h => by omega
  | n + 1, r, h => by
    unfold amF
    by_cases c : f n < f (amF f n)
    · rw [if_pos c]
      by_cases z : r = n
      · rw [z]; exact Int.le_refl _
      · have := amF_le (f := f) (n := n) (r := r) (by omega); omega
    · rw [if_neg c]
      by_cases z : r = n
      · rw [z]; omega
      · exact amF_le (by omega)
def lbF (f : Nat → Int) (row : Nat) : Nat → Int
  | 0 => 100000
  | n + 1 => if n = row then lbF f row n else min (lbF f row n) (f n)
theorem lbF_le {f : Nat → Int} {row : Nat} {x : Int} : ∀ {n : Nat}, x ≤ lbF f row n ↔ x ≤ 100000 ∧ ∀ r, r < n → r ≠ row → x ≤ f r
  | 0 => ⟨fun h => ⟨h, fun r hr => absurd hr (by omega)⟩, fun h => h.1⟩
  | n + 1 => by
    have ih := lbF_le (f := f) (row := row) (x := x) (n := n)
    unfold lbF
    by_cases c : n = row
    · rw [if_pos c, ih]
      exact ⟨fun h => ⟨h.1, fun r hr hz => h.2 r (by omega) hz⟩, fun h => ⟨h.1, fun r hr hz => h.2 r (by omega) hz⟩⟩
    · rw [if_neg c, Int.le_min, ih]
      refine ⟨fun h => ⟨h.1.1, fun r hr hz => ?_⟩, fun h => ⟨⟨h.1, fun r hr hz => h.2 r (by omega) hz⟩, h.2 n (by omega) c⟩⟩
      by_cases z : r = n
      · rw [z]; exact h.2
      · exact h.1.2 r (by omega) hz
theorem am_lb {f g : Nat → Int} {row n : Nat} (hr : row < n) (hg : ∀ r, r < n → r ≠ row → g r = f r) (hb : ∀ r, r < n → g r ≤ 100000) : g (amF g n) = min (g row) (lbF f row n) := by
  have a := amF_lt (f := g) (n := n) (by omega)
  refine Int.le_antisymm (Int.le_min.mpr ⟨amF_le hr, lbF_le.mpr ⟨hb _ a, fun r h1 h2 => by rw [← hg r h1 h2]; exact amF_le h1⟩⟩) ?_
  by_cases z : amF g n = row
  · rw [z]; exact Int.min_le_left _ _
  · have := (lbF_le (f := f) (row := row) (x := lbF f row n) (n := n)).mp (Int.le_refl _)
    have := this.2 _ a z
    rw [hg _ a z]
    exact Int.le_trans (Int.min_le_right _ _) this
/-- a pack's view with another cell in a place -/
def pvU (v : PV) (i c : Int) : PV := (v.1, v.2.1, fu v.2.2.1 i c, v.2.2.2.1, v.2.2.2.2)
theorem pvU_ok {v : PV} (ok : pvOk v) {i c : Int} (hc : 0 ≤ c ∧ c < 60) (hv : 1 ≤ v.2.2.2.1 c ∧ v.2.2.2.1 c ≤ 6000) (hp : 1 ≤ v.2.2.2.2 c ∧ v.2.2.2.2 c ≤ 6000) : pvOk (pvU v i c) := by
  refine ⟨ok.1, ok.2.1, ok.2.2.1, fun y y0 y1 => ?_⟩
  show (0 ≤ fu v.2.2.1 i c y ∧ fu v.2.2.1 i c y < 60) ∧ (1 ≤ v.2.2.2.1 (fu v.2.2.1 i c y) ∧ v.2.2.2.1 (fu v.2.2.1 i c y) ≤ 6000) ∧ (1 ≤ v.2.2.2.2 (fu v.2.2.1 i c y) ∧ v.2.2.2.2 (fu v.2.2.1 i c y) ≤ 6000)
  unfold fu
  by_cases e : y = i
  · rw [if_pos e]; exact ⟨hc, hv, hp⟩
  · rw [if_neg e]; exact ok.2.2.2 y y0 y1
theorem re_inj {E r r' t t' : Nat} (h : (r : Int) * E + t = (r' : Int) * E + t') (ht : t < E) (ht' : t' < E) : r = r' ∧ t = t' := by
  have h' : r * E + t = r' * E + t' := by
    have e1 : ((r * E + t : Nat) : Int) = (r : Int) * E + t := by rw [Int.natCast_add, Int.natCast_mul]
    have e2 : ((r' * E + t' : Nat) : Int) = (r' : Int) * E + t' := by rw [Int.natCast_add, Int.natCast_mul]
    omega
  have d1 : (r * E + t) / E = r := by rw [Nat.mul_comm, Nat.mul_add_div (by omega), Nat.div_eq_of_lt ht, Nat.add_zero]
  have d2 : (r' * E + t') / E = r' := by rw [Nat.mul_comm, Nat.mul_add_div (by omega), Nat.div_eq_of_lt ht', Nat.add_zero]
  have : r = r' := by rw [← d1, ← d2, h']
  subst this
  exact ⟨rfl, by omega⟩
theorem pvU_other {v : PV} {row j r : Nat} {c : Int} (hj : j < v.2.1) (hr : r ≠ row) : pvh (pvU v ((row : Int) * v.2.1 + j) c) r = pvh v r ∧ pvf (pvU v ((row : Int) * v.2.1 + j) c) r = pvf v r := by
  have ne : ∀ t, t < v.2.1 → fu v.2.2.1 ((row : Int) * v.2.1 + j) c ((r : Int) * v.2.1 + t) = v.2.2.1 ((r : Int) * v.2.1 + t) := fun t ht => fu_n _ _ (fun e => hr (re_inj e ht hj).1)
  constructor
  · exact sm_congr (fun t ht => by show v.2.2.2.1 (fu v.2.2.1 ((row : Int) * v.2.1 + j) c ((r : Int) * v.2.1 + t)) = v.2.2.2.1 (v.2.2.1 ((r : Int) * v.2.1 + t)); rw [ne t ht])
  · exact sm_congr (fun t ht => by show (1000000 : Int).tdiv (v.2.2.2.2 (fu v.2.2.1 ((row : Int) * v.2.1 + j) c ((r : Int) * v.2.1 + t))) = (1000000 : Int).tdiv (v.2.2.2.2 (v.2.2.1 ((r : Int) * v.2.1 + t))); rw [ne t ht])
theorem pvU_same {v : PV} {row j : Nat} {c : Int} (hj : j < v.2.1) : pvh (pvU v ((row : Int) * v.2.1 + j) c) row = pvh v row - v.2.2.2.1 (v.2.2.1 ((row : Int) * v.2.1 + j)) + v.2.2.2.1 c ∧ pvf (pvU v ((row : Int) * v.2.1 + j) c) row = pvf v row - (1000000 : Int).tdiv (v.2.2.2.2 (v.2.2.1 ((row : Int) * v.2.1 + j))) + (1000000 : Int).tdiv (v.2.2.2.2 c) := by
  have ne : ∀ t, t < v.2.1 → t ≠ j → fu v.2.2.1 ((row : Int) * v.2.1 + j) c ((row : Int) * v.2.1 + t) = v.2.2.1 ((row : Int) * v.2.1 + t) := fun t ht hz => fu_n _ _ (fun e => hz (by omega))
  constructor
  · have := sm_upd (f := fun i => v.2.2.2.1 (v.2.2.1 ((row : Int) * v.2.1 + i))) (g := fun i => v.2.2.2.1 (fu v.2.2.1 ((row : Int) * v.2.1 + j) c ((row : Int) * v.2.1 + i))) hj (fun t ht hz => by show v.2.2.2.1 (fu _ _ _ _) = _; rw [ne t ht hz])
    unfold pvh pvU
    rw [this, fu_s]
  · have := sm_upd (f := fun i => (1000000 : Int).tdiv (v.2.2.2.2 (v.2.2.1 ((row : Int) * v.2.1 + i)))) (g := fun i => (1000000 : Int).tdiv (v.2.2.2.2 (fu v.2.2.1 ((row : Int) * v.2.1 + j) c ((row : Int) * v.2.1 + i)))) hj (fun t ht hz => by show (1000000 : Int).tdiv (v.2.2.2.2 (fu _ _ _ _)) = _; rw [ne t ht hz])
    unfold pvf pvU
    rw [this, fu_s]
/-- the life with a cell in a place -/
def lifeU (A B F : Int) (v : PV) (i c : Int) : Int := pvc A B F (pvU v i c) (amF (pvc A B F (pvU v i c)) v.1)
def bmS (lf o c : Int) (st : Int × Int × Int) : Int × Int × Int := if st.1 < lf then (lf, o, c) else st
def bmI' (A B F : Int) (v : PV) (t : Int → Int) (i : Nat) (st : Int × Int × Int) : Nat → Int × Int × Int
  | 0 => st
  | j + 1 => bmS (lifeU A B F v i (t j)) (v.2.2.1 i) (t j) (bmI' A B F v t i st j)
def bmO (A B F : Int) (v : PV) (t : Int → Int) (n : Nat) : Nat → Int × Int × Int
  | 0 => (-1, 0, 0)
  | i + 1 => bmI' A B F v t i (bmO A B F v t n i) n
def encP (o c : Int) : Int := bor (bshl o 8) c
theorem encP_dec : ∀ o : Nat, o < 60 → ∀ c : Nat, c < 60 → bshr (encP o c) 8 = o ∧ band (encP o c) 255 = c := by decide +kernel
theorem lifeU_bd (A B F : Int) (v : PV) (i c : Int) : 0 ≤ lifeU A B F v i c ∧ lifeU A B F v i c ≤ 100000 := cyc_bd _ _ _
def bmOk (st : Int × Int × Int) : Prop := -1 ≤ st.1 ∧ st.1 ≤ 100000 ∧ (0 ≤ st.2.1 ∧ st.2.1 < 60) ∧ (0 ≤ st.2.2 ∧ st.2.2 < 60)
theorem bmS_ok {lf o c : Int} {st : Int × Int × Int} (h : bmOk st) (hl : 0 ≤ lf ∧ lf ≤ 100000) (ho : 0 ≤ o ∧ o < 60) (hc : 0 ≤ c ∧ c < 60) : bmOk (bmS lf o c st) := by
  unfold bmS
  split
  · exact ⟨by show -1 ≤ lf; omega, hl.2, ho, hc⟩
  · exact h
theorem bmI_ok {A B F : Int} {v : PV} {t : Int → Int} {i : Nat} {st : Int × Int × Int} (h : bmOk st) (ho : 0 ≤ v.2.2.1 i ∧ v.2.2.1 i < 60) : ∀ {j : Nat}, (∀ k : Nat, k < j → 0 ≤ t k ∧ t k < 60) → bmOk (bmI' A B F v t i st j)
  | 0, _ => h
  | j + 1, ht => bmS_ok (bmI_ok h ho (fun k hk => ht k (by omega))) (lifeU_bd _ _ _ _ _ _) ho (ht j (by omega))
theorem bmO_ok {A B F : Int} {v : PV} (ok : pvOk v) {t : Int → Int} {n : Nat} (ht : ∀ k : Nat, k < n → 0 ≤ t k ∧ t k < 60) : ∀ {i : Nat}, i ≤ v.1 * v.2.1 → bmOk (bmO A B F v t n i)
  | 0, _ => by
    show bmOk (-1, 0, 0)
    exact ⟨by decide, by decide, ⟨by decide, by decide⟩, ⟨by decide, by decide⟩⟩
  | i + 1, hi => bmI_ok (bmO_ok ok ht (by omega)) (ok.2.2.2 i (by omega) (by omega)).1 ht
theorem bmI_pos {A B F : Int} {v : PV} {t : Int → Int} {i : Nat} {st : Int × Int × Int} : ∀ {j : Nat}, (0 ≤ st.1 ∨ 0 < j) → 0 ≤ (bmI' A B F v t i st j).1
  | 0, h => by rcases h with h | h
               · exact h
               · omega
  | j + 1, h => by
    have lb := lifeU_bd A B F v i (t j)
    show 0 ≤ (bmS (lifeU A B F v i (t j)) (v.2.2.1 i) (t j) (bmI' A B F v t i st j)).1
    unfold bmS
    split
    · exact lb.1
    · rename_i q; omega
theorem bmO_pos {A B F : Int} {v : PV} {t : Int → Int} {n : Nat} (hn : 0 < n) : ∀ {i : Nat}, 0 < i → 0 ≤ (bmO A B F v t n i).1
  | 0, h => absurd h (by omega)
  | i + 1, _ => bmI_pos (Or.inr hn)
section OP17
variable {l : Launch} {D : Nat} {ζ : ZP} {h : HI} {Q : Int → HI → Prop} {QV : HI → Prop} {p A B F : Int} {v : PV}
theorem s_leastBut (hn : 144 ≤ ζ.2.2.2.2) {R row : Nat} (R40 : R ≤ 40) (hr : row < R) {f : Nat → Int} (hf : ∀ r : Nat, r < R → h 21 r = f r ∧ 0 ≤ f r ∧ f r ≤ 100000) (hq : Q (lbF f row R) h) : RtI l (D + 1) mX1_leastBut (zz ζ) [aP 10, aI row, aI R] h Q := by
  refine e_X1_leastBut hn ?_
  have lbb : ∀ k, k ≤ R → 0 ≤ lbF f row k ∧ lbF f row k ≤ 100000 := fun k hk => ⟨lbF_le.mpr ⟨by decide, fun r h1 _ => (hf r (by omega)).2.1⟩, (lbF_le.mp (Int.le_refl _)).1⟩
  have main : ∀ (m k : Nat), k + m = R → G l (D + 1) 0 0 mX1_leastBut (zz ζ) 6 [aP 10, aI row, aI R, aI (lbF f row k), aI k] [] h (qI (zz ζ) Q) := by
    intro m
    induction m with
    | zero =>
      intro k hk
      have : k = R := by omega
      subst this
      exact b_X1_leastBut_6 hn ⟨by constructor <;> omega, by constructor <;> omega, iteP (by omega) hq⟩
    | succ m ih =>
      intro k hk
      have lk := lbb k (by omega)
      have fk := hf k (by omega)
      have kk := ih (k + 1) (by omega)
      rw [show ((k + 1 : Nat) : Int) = (k : Int) + 1 by omega, show lbF f row (k + 1) = (if k = row then lbF f row k else min (lbF f row k) (f k)) from rfl] at kk
      refine b_X1_leastBut_6 hn ⟨by constructor <;> omega, by constructor <;> omega, iteN (by omega) ⟨by constructor <;> omega, iteI (fun y => ?_) (fun y => ⟨⟨by omega, by omega⟩, by constructor <;> omega, ?_⟩)⟩⟩
      · rw [if_pos (by omega)] at kk; exact kk
      · rw [if_neg (by omega)] at kk
        rw [fk.1]
        exact ⟨by constructor <;> omega, kk⟩
  exact main R 0 (by omega)
theorem s_xflow1 (hn : 144 ≤ ζ.2.2.2.2) {c : Int} (hc : 0 ≤ c ∧ c < 60) {P : Int} (hP : h 45 c = P ∧ 1 ≤ P ∧ P ≤ 6000) (hq : Q ((1000000 : Int).tdiv P) h) : RtI l (D + 2) mX8_flowOf (zz ζ) [aP 40, aI c] h Q := by
  refine e_X8_flowOf hn ⟨hc, ?_⟩
  rw [hP.1]
  refine s_cut hn (by decide) (by constructor <;> omega) ?_
  rw [if_neg (by omega)]
  exact hq
theorem s_bestPair (hn : 144 ≤ ζ.2.2.2.2) (ok : pvOk v) (x : pvX h p v) (hA : h 7 0 = A ∧ 0 ≤ A ∧ A ≤ 99) (hB : h 7 1 = B ∧ 0 ≤ B ∧ B ≤ 99) (hF : h 7 2 = F ∧ 1 ≤ F ∧ F ≤ 999) {n : Nat} (n10 : n ≤ 10) {t : Int → Int} (ht : ∀ k : Nat, k < n → h 51 k = t k ∧ (0 ≤ t k ∧ t k < 60) ∧ (h 44 (t k) = v.2.2.2.1 (t k) ∧ 1 ≤ v.2.2.2.1 (t k) ∧ v.2.2.2.1 (t k) ≤ 6000) ∧ (h 45 (t k) = v.2.2.2.2 (t k) ∧ 1 ≤ v.2.2.2.2 (t k) ∧ v.2.2.2.2 (t k) ≤ 6000)) (hq : ∀ h', FL [(21, -1), (10, 12)] h h' → h' 10 12 = (bmO A B F v t n (v.1 * v.2.1)).1 → Q (encP (bmO A B F v t n (v.1 * v.2.1)).2.1 (bmO A B F v t n (v.1 * v.2.1)).2.2) h') : RtI l (D + 6) mX1_bestPair (zz ζ) [aP 10, aI p, aP 51, aI n, aP 40, aP 4] h Q := by
  have px := x.1
  have o1 := ok.1
  have o3 := ok.2.2.1
  have R40 : v.1 ≤ 40 := by have := Nat.mul_le_mul_left v.1 ok.2.1; omega
  have E40 : v.2.1 ≤ 40 := by have := Nat.mul_le_mul_right v.2.1 ok.1; omega
  have XX : ∀ g, FL [(21, -1), (10, 12)] h g → pvX g p v := fun g f => ⟨x.1, by rw [f.c 13 rfl]; exact x.2.1, by rw [f.c 14 rfl]; exact x.2.2.1, fun i i0 i1 => by rw [f.c 12 rfl, f.c 44 rfl, f.c 45 rfl]; exact x.2.2.2 i i0 i1⟩
  have LW : ∀ g, FL [(21, -1), (10, 12)] h g → (g 7 0 = A ∧ 0 ≤ A ∧ A ≤ 99) ∧ (g 7 1 = B ∧ 0 ≤ B ∧ B ≤ 99) ∧ (g 7 2 = F ∧ 1 ≤ F ∧ F ≤ 999) := fun g f => by rw [f.c 7 rfl]; exact ⟨hA, hB, hF⟩
  have TT : ∀ g, FL [(21, -1), (10, 12)] h g → ∀ k : Nat, k < n → g 51 k = t k ∧ (0 ≤ t k ∧ t k < 60) ∧ (g 44 (t k) = v.2.2.2.1 (t k) ∧ 1 ≤ v.2.2.2.1 (t k) ∧ v.2.2.2.1 (t k) ≤ 6000) ∧ (g 45 (t k) = v.2.2.2.2 (t k) ∧ 1 ≤ v.2.2.2.2 (t k) ∧ v.2.2.2.2 (t k) ≤ 6000) := fun g f => by rw [f.c 51 rfl, f.c 44 rfl, f.c 45 rfl]; exact ht
  have tr : ∀ k : Nat, k < n → 0 ≤ t k ∧ t k < 60 := fun k hk => (ht k hk).2.1
  refine e_X1_bestPair hn ?_
  -- the second loop
  have m49 : ∀ (m i : Nat) (g : HI), i + m = v.1 * v.2.1 → FL [(21, -1), (10, 12)] h g → (∀ r : Nat, r < v.1 → g 21 r = pvc A B F v r) → g 10 12 = (bmO A B F v t n i).1 → G l (D + 6) 0 0 mX1_bestPair (zz ζ) 49 [aP 10, aI p, aP 51, aI n, aP 40, aP 4, aI (encP (bmO A B F v t n i).2.1 (bmO A B F v t n i).2.2), aI i, aU, aU, aU, aU, aU, aU, aU] [] g (qI (zz ζ) Q) := by
    intro m
    induction m with
    | zero =>
      intro i g hi f e21 e12
      have : i = v.1 * v.2.1 := by omega
      subst this
      have x' := XX g f
      exact b_X1_bestPair_49 hn ⟨px, by constructor <;> omega, by rw [x'.2.1]; constructor <;> omega, iteP (by rw [x'.2.1]; omega) (hq g f e12)⟩
    | succ m ih =>
      intro i g hi f e21 e12
      have x' := XX g f
      have lw := LW g f
      have bo := bmO_ok (A := A) (B := B) (F := F) ok tr (i := i) (by omega)
      have ii := ok.2.2.2 i (by omega) (by omega)
      have xi := x'.2.2.2 i (by omega) (by omega)
      -- the row and place
      have hE : 0 < v.2.1 := by have := ok.2.1; omega
      have rlt : i / v.2.1 < v.1 := Nat.div_lt_of_lt_mul (by rw [Nat.mul_comm]; omega)
      have jlt : i % v.2.1 < v.2.1 := Nat.mod_lt _ hE
      have eij : (i : Int) = ((i / v.2.1 : Nat) : Int) * v.2.1 + ((i % v.2.1 : Nat) : Int) := by
        have := Nat.div_add_mod i v.2.1
        have e1 : ((v.2.1 * (i / v.2.1) + i % v.2.1 : Nat) : Int) = ((i / v.2.1 : Nat) : Int) * v.2.1 + ((i % v.2.1 : Nat) : Int) := by rw [Int.natCast_add, Int.natCast_mul, Int.mul_comm]
        omega
      have dv : (i : Int).tdiv v.2.1 = ((i / v.2.1 : Nat) : Int) := by rw [Int.tdiv_eq_ediv_of_nonneg (by omega)]; exact (Int.natCast_ediv i v.2.1).symm
      generalize hrow : i / v.2.1 = row at rlt eij dv
      generalize hjj : i % v.2.1 = jj at jlt eij
      refine b_X1_bestPair_49 hn ⟨px, by constructor <;> omega, by rw [x'.2.1]; constructor <;> omega, iteN (by rw [x'.2.1]; omega) (s_rowSize hn ok x' (s_cut hn (by constructor <;> omega) (by constructor <;> omega) ?_))⟩
      rw [if_neg (by omega), dv, x'.2.2.1]
      refine s_leastBut hn R40 rlt (f := pvc A B F v) (fun r hr => ⟨e21 r hr, cyc_bd _ _ _⟩) (s_cellAt hn ⟨by omega, by omega⟩ ?_)
      rw [xi.1]
      refine s_xholdOf hn ok x' rlt ⟨ii.1, s_xflowOf hn ok x' rlt (s_xflow1 hn ii.1 ⟨xi.2.2, ii.2.2⟩ ?_)⟩
      rw [xi.2.1]
      have lbb : 0 ≤ lbF (pvc A B F v) row v.1 ∧ lbF (pvc A B F v) row v.1 ≤ 100000 := ⟨lbF_le.mpr ⟨by decide, fun r _ _ => (cyc_bd _ _ _).1⟩, (lbF_le.mp (Int.le_refl _)).1⟩
      have m137 : ∀ (d j : Nat) (g' : HI), j + d = n → FL [(21, -1), (10, 12)] h g' → (∀ r : Nat, r < v.1 → g' 21 r = pvc A B F v r) → g' 10 12 = (bmI' A B F v t i (bmO A B F v t n i) j).1 → G l (D + 6) 0 0 mX1_bestPair (zz ζ) 137 [aP 10, aI p, aP 51, aI n, aP 40, aP 4, aI (encP (bmI' A B F v t i (bmO A B F v t n i) j).2.1 (bmI' A B F v t i (bmO A B F v t n i) j).2.2), aI i, aU, aI (lbF (pvc A B F v) row v.1), aI (v.2.2.1 i), aI (pvh v row - v.2.2.2.1 (v.2.2.1 i)), aI (pvf v row - (1000000 : Int).tdiv (v.2.2.2.2 (v.2.2.1 i))), aI j, aU] [] g' (qI (zz ζ) Q) := by
        intro d
        induction d with
        | zero =>
          intro j g' hj f' e21' e12'
          have : j = n := by omega
          subst this
          refine b_X1_bestPair_137 hn ⟨by constructor <;> omega, by constructor <;> omega, iteP (by omega) ?_⟩
          have kk := ih (i + 1) g' (by omega) f' e21' e12'
          rw [show ((i + 1 : Nat) : Int) = (i : Int) + 1 by omega] at kk
          exact kk
        | succ d ihd =>
          intro j g' hj f' e21' e12'
          have tj := TT g' f' j (by omega)
          have lw' := LW g' f'
          have uo := pvU_ok ok (i := (i : Int)) tj.2.1 tj.2.2.1.2 tj.2.2.2.2
          have us := pvU_same (v := v) (row := row) (j := jj) (c := t j) jlt
          rw [← eij] at us
          have b1 := pvh_bd uo (r := row) rlt
          have b2 := pvf_bd uo (r := row) rlt
          have bi := bmI_ok (A := A) (B := B) (F := F) (t := t) bo ii.1 (j := j) (fun k hk => tr k (by omega))
          have lu := lifeU_bd A B F v i (t j)
          have el : lifeU A B F v i (t j) = min (cyc F (pvh (pvU v i (t j)) row) (fadeOf A B (pvf (pvU v i (t j)) row))) (lbF (pvc A B F v) row v.1) := by
            refine am_lb (f := pvc A B F v) (g := pvc A B F (pvU v i (t j))) rlt (fun r hr hz => ?_) (fun r _ => (cyc_bd _ _ _).2)
            have uo' := pvU_other (v := v) (row := row) (j := jj) (r := r) (c := t j) jlt hz
            rw [← eij] at uo'
            unfold pvc
            rw [uo'.1, uo'.2]
          refine b_X1_bestPair_137 hn ⟨by constructor <;> omega, by constructor <;> omega, iteN (by omega) ⟨⟨by omega, by omega⟩, ?_⟩⟩
          rw [tj.1]
          refine ⟨tj.2.1, s_xflow1 hn tj.2.1 tj.2.2.2 ?_⟩
          rw [tj.2.2.1.1, ← us.1, ← us.2]
          refine s_cyclesBy hn lw'.1 lw'.2.1 lw'.2.2 ⟨by omega, b1.2⟩ b2 ?_
          rw [← el, e12', tj.1]
          have cb := cyc_bd F (pvh (pvU v i (t j)) row) (fadeOf A B (pvf (pvU v i (t j)) row))
          have e1 : bmI' A B F v t i (bmO A B F v t n i) (j + 1) = bmS (lifeU A B F v i (t j)) (v.2.2.1 i) (t j) (bmI' A B F v t i (bmO A B F v t n i) j) := rfl
          refine ⟨by constructor <;> omega, by constructor <;> omega, by constructor <;> omega, by have := bi.1; have := bi.2.1; constructor <;> omega, iteI (fun y => ?_) (fun y => ?_)⟩
          · have e2 : bmI' A B F v t i (bmO A B F v t n i) (j + 1) = bmI' A B F v t i (bmO A B F v t n i) j := by rw [e1]; exact if_neg (by omega)
            have kk := ihd (j + 1) g' (by omega) f' e21' (by rw [e2]; exact e12')
            rw [e2, show ((j + 1 : Nat) : Int) = (j : Int) + 1 by omega] at kk
            exact kk
          · have e2 : bmI' A B F v t i (bmO A B F v t n i) (j + 1) = (lifeU A B F v i (t j), v.2.2.1 i, t j) := by rw [e1]; exact if_pos (by omega)
            have kk := ihd (j + 1) (hu g' 10 12 (lifeU A B F v i (t j))) (by omega) (f'.u rfl) (fun r hr => by rw [hu_c _ _ _ (by decide)]; exact e21' r hr) (by rw [e2, hu_s])
            rw [e2, show ((j + 1 : Nat) : Int) = (j : Int) + 1 by omega] at kk
            exact kk
      exact m137 n 0 g (by omega) f e21 e12
  have m3 : ∀ (m r : Nat) (g : HI), r + m = v.1 → FL [(21, -1), (10, 12)] h g → (∀ q : Nat, q < r → g 21 q = pvc A B F v q) → G l (D + 6) 0 0 mX1_bestPair (zz ζ) 3 [aP 10, aI p, aP 51, aI n, aP 40, aP 4, aI r, aU, aU, aU, aU, aU, aU, aU, aU] [] g (qI (zz ζ) Q) := by
    intro m
    induction m with
    | zero =>
      intro r g hr f e21
      have : r = v.1 := by omega
      subst this
      have x' := XX g f
      refine b_X1_bestPair_3 hn ⟨px, by constructor <;> omega, by rw [x'.2.2.1]; constructor <;> omega, iteP (by rw [x'.2.2.1]; omega) ?_⟩
      have e0 : encP 0 0 = 0 := by decide
      have m0 := m49 (v.1 * v.2.1) 0 (hu g 10 12 (-1)) (by omega) (f.u rfl) (fun q hq => by rw [hu_c _ _ _ (by decide)]; exact e21 q hq) (by rw [hu_s]; rfl)
      rw [show encP (bmO A B F v t n 0).2.1 (bmO A B F v t n 0).2.2 = 0 from e0] at m0
      exact m0
    | succ m ih =>
      intro r g hr f e21
      have x' := XX g f
      have lw := LW g f
      refine b_X1_bestPair_3 hn ⟨px, by constructor <;> omega, by rw [x'.2.2.1]; constructor <;> omega, iteN (by rw [x'.2.2.1]; omega) (s_xcyclesOf hn ok x' lw.1 lw.2.1 lw.2.2 (by omega) ⟨⟨by omega, by omega⟩, ?_⟩)⟩
      have kk := ih (r + 1) (hu g 21 r (pvc A B F v r)) (by omega) (f.ua rfl) (fun q hq => by
        by_cases e : q = r
        · rw [e, hu_s]
        · rw [hu_j _ _ _ (by omega)]; exact e21 q (by omega))
      rw [show ((r + 1 : Nat) : Int) = (r : Int) + 1 by omega] at kk
      exact kk
  exact m3 v.1 0 h (by omega) FL.refl (fun q hq => absurd hq (by omega))
end OP17
