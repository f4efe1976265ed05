def hdI (v : Int64) : Int64 := if (if 99999 > v then v else 99999) > -99999 then (if 99999 > v then v else 99999) else -99999
def hdV (v : Int64) : Int32 := (hdI v).toInt32
theorem held_w (v : Int64) : (if (lg_cmp (-99999) (if 0 < lg_cmp 99999 v then v else 99999)) < 0 then (if 0 < lg_cmp 99999 v then v else 99999) else -99999 : Int64) = hdI v := by
  simp only [lg_cmp_gt, lg_cmp_lt]
  rfl
theorem held7_eq {σ : St} {v : Int64} : f_X7_held σ v = some (hdV v) := by
  unfold f_X7_held f_J9_min_f86c9 f_J9_max_f86c9
  simp only [Option.bind_some, held_w]
  rfl
theorem held8_eq {σ : St} {v : Int64} : f_X8_held σ v = some (hdV v) := by
  unfold f_X8_held f_J9_min_f86c9 f_J9_max_f86c9
  simp only [Option.bind_some, held_w]
  rfl
theorem hdI_b (v : Int64) : -99999 ≤ (hdI v).toInt ∧ (hdI v).toInt ≤ 99999 := by
  have e1 : (99999 : Int64).toInt = 99999 := by decide
  have e2 : (-99999 : Int64).toInt = -99999 := by decide
  unfold hdI
  by_cases h1 : 99999 > v
  · rw [if_pos h1]
    have h1' := Int64.lt_iff_toInt_lt.mp h1
    rw [e1] at h1'
    by_cases h2 : v > -99999
    · rw [if_pos h2]
      have h2' := Int64.lt_iff_toInt_lt.mp h2
      rw [e2] at h2'
      omega
    · rw [if_neg h2, e2]; omega
  · rw [if_neg h1, if_pos (by decide), e1]; omega
theorem hdV_i (v : Int64) : (hdV v).toInt = (hdI v).toInt := by
  have h := hdI_b v
  unfold hdV
  rw [Int64.toInt_toInt32]
  exact Int.bmod_eq_of_le (by omega) (by omega)
theorem hdV_b (v : Int64) : -99999 ≤ hdV v ∧ hdV v ≤ 99999 := by
  have h := hdI_b v
  rw [Int32.le_iff_toInt_le, Int32.le_iff_toInt_le, hdV_i, show (-99999 : Int32).toInt = -99999 by decide, show (99999 : Int32).toInt = 99999 by decide]
  exact h
theorem r100 {x : Nat} (hx : x < 2 ^ 31) : irm (nI x) 100 = nI (x % 100) := rmN hx (k := 100) (by decide)
theorem d100 {x : Nat} (hx : x < 2 ^ 31) : nI x / 100 = nI (x / 100) := dv hx (k := 100) (by decide)
theorem r10 {x : Nat} (hx : x < 2 ^ 31) : irm (nI x) 10 = nI (x % 10) := rmN hx (k := 10) (by decide)
theorem d10 {x : Nat} (hx : x < 2 ^ 31) : nI x / 10 = nI (x / 10) := dv hx (k := 10) (by decide)
