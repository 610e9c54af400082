/-! rows: the folds bound every way below a prefix -/
theorem wk_row {v w : Int → Int} {s n : Nat} (s1 : 1 ≤ s) {r : Nat} (hr : r < s) : wkW v w s n ≤ ldW v w r n ∧ ldW v w r n ≤ tpW v w s n := ⟨(mnI_le (f := fun q => ldW v w q n) (x := wkW v w s n) s1).mp (Int.le_refl _) r hr, (mxI_le (f := fun q => ldW v w q n) (x := tpW v w s n) s1).mp (Int.le_refl _) r hr⟩
theorem row_tot {v u : Int → Int} {s e n : Nat} (C : rwC s e n u) : sm (fun r : Nat => ldW v u r n) s = sm (fun j : Nat => v j) n := ld_total (fun j hj => ⟨(C.1 j hj).1, (C.1 j hj).2.2⟩)
theorem wk_fold {v p u : Int → Int} {s e n i : Nat} {a : Int → Int} (s1 : 1 ≤ s) (hi : i ≤ n) (C : rwC s e n u) (x : exW i p u) (ra : risA v i (n - i) a) (t0 : 0 ≤ sm (fun j : Nat => v j) n) : wkW v u s n ≤ fmn ((sm (fun j : Nat => v j) n).tdiv s) (fun r : Nat => ldW v p r i + sfA a (n - i) ((e : Int) - cnW p r i).toNat) s := by
  refine fmn_le.mpr ⟨?_, fun r hr => ?_⟩
  · rw [Int.tdiv_eq_ediv_of_nonneg t0]
    refine (Int.le_ediv_iff_mul_le (by omega)).mpr ?_
    rw [← row_tot C]
    exact sm_ge (fun r hr => (wk_row s1 hr).1)
  · have a1 := (wk_row (v := v) (w := u) (n := n) s1 hr).1
    have a2 := (row_bd hi C x ra hr).2.2.2
    omega
theorem tp_fold {v p u : Int → Int} {s e n i : Nat} {a : Int → Int} (s1 : 1 ≤ s) (hi : i ≤ n) (C : rwC s e n u) (x : exW i p u) (ra : risA v i (n - i) a) (t0 : 0 ≤ sm (fun j : Nat => v j) n) : fmx ((sm (fun j : Nat => v j) n + s - 1).tdiv s) (fun r : Nat => ldW v p r i + pfA a ((e : Int) - cnW p r i).toNat) s ≤ tpW v u s n := by
  refine fmx_le.mpr ⟨?_, fun r hr => ?_⟩
  · rw [Int.tdiv_eq_ediv_of_nonneg (by omega)]
    exact vl_ge s1 C.1
  · have a1 := (wk_row (v := v) (w := u) (n := n) s1 hr).2
    have a2 := (row_bd hi C x ra hr).2.2.1
    omega
