/-! rows: what a way has, by what is placed and what is still to be placed -/
theorem ldW_split {v u : Int → Int} {r : Int} : ∀ {m i : Nat}, ldW v u r (i + m) = ldW v u r i + rcS (fun j => decide (u j = r)) v i m
  | 0, i => by show ldW v u r i = ldW v u r i + 0; omega
  | m + 1, i => by
    have ih := ldW_split (v := v) (u := u) (r := r) (m := m) (i := i + 1)
    rw [show i + (m + 1) = i + 1 + m by omega, ih]
    show ldW v u r i + (if decide (u i = r) then v i else 0) + _ = ldW v u r i + ((if decide (u i = r) then v i else 0) + rcS (fun j => decide (u j = r)) v (i + 1) m)
    omega
theorem rcS_one {q : Int → Bool} : ∀ {m i : Nat}, rcS q (fun _ => 1) i m = (rcN q i m : Int)
  | 0, _ => rfl
  | m + 1, i => by
    have ih := rcS_one (q := q) (m := m) (i := i + 1)
    show (if q i then 1 else 0) + rcS q (fun _ => 1) (i + 1) m = (((if q i then 1 else 0) + rcN q (i + 1) m : Nat) : Int)
    rw [ih]
    cases q i <;> simp
def cnW (w : Int → Int) (r : Int) (k : Nat) : Int := ldW (fun _ => 1) w r k
/-- a way of rows: each of e cells -/
def rwC (s e n : Nat) (w : Int → Int) : Prop := canW s w n ∧ ∀ r : Nat, r < s → cnW w r n = e
theorem rwC_on {s e n : Nat} : onP n (rwC s e n) := fun u v c q => ⟨canW_congr q c.1, fun r hr => by
  rw [← c.2 r hr]; exact (ldW_congr q).symm⟩
theorem row_bd {v p u : Int → Int} {s e n i : Nat} {a : Int → Int} (hi : i ≤ n) (C : rwC s e n u) (x : exW i p u) (ra : risA v i (n - i) a) {r : Nat} (hr : r < s) : 0 ≤ (e : Int) - cnW p r i ∧ (e : Int) - cnW p r i ≤ (n - i : Nat) ∧ ldW v p r i + pfA a ((e : Int) - cnW p r i).toNat ≤ ldW v u r n ∧ ldW v u r n ≤ ldW v p r i + sfA a (n - i) ((e : Int) - cnW p r i).toNat := by
  have s1 := ldW_split (v := v) (u := u) (r := r) (m := n - i) (i := i)
  have s2 := ldW_split (v := fun _ => 1) (u := u) (r := r) (m := n - i) (i := i)
  rw [show i + (n - i) = n by omega] at s1 s2
  rw [rcS_one] at s2
  have c := C.2 r hr
  have e1 : ldW v u r i = ldW v p r i := ldW_congr x
  have e2 : ldW (fun _ => 1) u r i = ldW (fun _ => 1) p r i := ldW_congr x
  unfold cnW at c ⊢
  rw [e1] at s1
  rw [e2] at s2
  have bd := ris_bd (fun j => decide (u j = (r : Int))) ra
  have le := rcN_le (q := fun j => decide (u j = (r : Int))) (m := n - i) (i := i)
  have ek : (e : Int) - ldW (fun _ => 1) p r i = (rcN (fun j => decide (u j = (r : Int))) i (n - i) : Int) := by omega
  rw [ek, Int.toNat_natCast]
  exact ⟨by omega, by omega, by omega, by omega⟩
/-- the three values of a way -/
def wkW (v w : Int → Int) (s n : Nat) : Int := mnI (fun r => ldW v w r n) s
def tpW (v w : Int → Int) (s n : Nat) : Int := mxI (fun r => ldW v w r n) s
def rwV (v fl : Int → Int) (s n : Nat) (w : Int → Int) : Int := rv3 (wkW v w s n) (tpW v w s n - wkW v w s n) (tpW fl w s n - wkW fl w s n)
theorem rwV_on {v fl : Int → Int} {s n : Nat} : onV n (rwV v fl s n) := fun u w q => by
  have e : ∀ t : Int → Int, (fun r => ldW t u r n) = (fun r => ldW t w r n) := fun t => funext fun r => ldW_congr q
  unfold rwV wkW tpW
  rw [e v, e fl]
