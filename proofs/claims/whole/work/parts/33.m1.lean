theorem tt1 (k : Nat) (hk : k < 100) : ((99 : Int32) < nI k) = False := by
  simp (disch := first | assumption | omega) [a_llt, n_lt0, n_lt1]
theorem tt2 (k : Nat) (hk : k < 100) : ((99 : Int32) < nI k) = False := by
  rw [a_llt (by omega) (by omega)]
  exact eq_false (by omega)
theorem tt3 (k : Nat) (hk : k < 100) : (nI k < (100 : Int32)) = True := by
  simp (disch := first | assumption | omega) [a_ltl, n_lt0, n_lt1]
theorem tt4 (k : Nat) (hk : k < 100) : (nI k = (100 : Int32)) = False := by
  simp (disch := first | assumption | omega) [a_eql, n_eq0, n_lt1]
