theorem nI_sub {a b : Nat} (h : b ≤ a) : nI a - nI b = nI (a - b) := (Int32.ofNat_sub a b h).symm
theorem nI_nm1 {k : Nat} (hk : k < 2 ^ 31) : nI k ≠ -1 := fun h => by
  have h2 := congrArg Int32.toInt h
  rw [nI_toInt hk, show (-1 : Int32).toInt = -1 by decide] at h2
  omega
theorem dv {x k : Nat} (hx : x < 2 ^ 31) (hk : k < 2 ^ 31) : nI x / nI k = nI (x / k) := by
  have h3 : x / k < 2 ^ 31 := Nat.lt_of_le_of_lt (Nat.div_le_self x k) hx
  apply Int32.toInt_inj.mp
  rw [Int32.toInt_div_of_ne_right _ _ (nI_nm1 hk), nI_toInt hx, nI_toInt hk, nI_toInt h3, Int.tdiv_eq_ediv_of_nonneg (by omega)]
  rfl
theorem rmN {x k : Nat} (hx : x < 2 ^ 31) (hk : k < 2 ^ 31) : irm (nI x) (nI k) = nI (x % k) := by
  unfold irm
  rw [dv hx hk, pk_mul, nI_sub (Nat.div_mul_le_self x k)]
  have h := Nat.div_add_mod x k
  rw [Nat.mul_comm] at h
  congr 1
  omega
theorem dvn {a : Int32} {x k : Nat} (ha : a.toInt = -(x : Int)) (hk : k < 2 ^ 31) : (a / nI k).toInt = -((x / k : Nat) : Int) := by
  rw [Int32.toInt_div_of_ne_right _ _ (nI_nm1 hk), ha, nI_toInt hk, Int.neg_tdiv, Int.tdiv_eq_ediv_of_nonneg (by omega)]
  rfl
theorem rmn {a : Int32} {x k : Nat} (ha : a.toInt = -(x : Int)) (hx : x ≤ 2 ^ 31) (hk : k < 2 ^ 31) : (irm a (nI k)).toInt = -((x % k : Nat) : Int) := by
  unfold irm
  have h := Nat.div_add_mod x k
  have h2 : ((k * (x / k) : Nat) : Int) = ((x / k : Nat) : Int) * (k : Int) := by rw [Nat.mul_comm]; exact Int.natCast_mul _ _
  have h4 : -((x / k : Nat) : Int) * (k : Int) = -((k * (x / k) : Nat) : Int) := by rw [h2, Int.neg_mul]
  generalize hq : k * (x / k) = q at *
  have h3 : (a / nI k * nI k).toInt = -(q : Int) := by
    rw [Int32.toInt_mul, dvn ha hk, nI_toInt hk, h4]
    exact Int.bmod_eq_of_le (by omega) (by omega)
  rw [Int32.toInt_sub, ha, h3, Int.bmod_eq_of_le (by omega) (by omega)]
  omega
theorem neg_nat {a : Int32} (h : a < 0) : ∃ x : Nat, 0 < x ∧ x ≤ 2 ^ 31 ∧ a.toInt = -(x : Int) := by
  have h1 := Int32.lt_iff_toInt_lt.mp h
  rw [show (0 : Int32).toInt = 0 by decide] at h1
  have h2 := Int32.le_toInt a
  exact ⟨(-a.toInt).toNat, by omega, by omega, by omega⟩
theorem div_neg {a : Int32} {k : Nat} (ha : a < 0) (hk : k < 2 ^ 31) : (a / nI k < 0 ∨ irm a (nI k) < 0) ∧ a / nI k ≤ 0 ∧ irm a (nI k) ≤ 0 := by
  obtain ⟨x, h0, hx, e⟩ := neg_nat ha
  have h1 := dvn e hk
  have h2 := rmn e hx hk
  have h := Nat.div_add_mod x k
  rw [Int32.lt_iff_toInt_lt, Int32.lt_iff_toInt_lt, Int32.le_iff_toInt_le, Int32.le_iff_toInt_le, h1, h2, show (0 : Int32).toInt = 0 by decide]
  clear h1 h2
  generalize x / k = q at *
  generalize x % k = r at *
  refine ⟨?_, by omega, by omega⟩
  rcases Nat.eq_zero_or_pos q with hz | hz
  · rw [hz, Nat.mul_zero] at h
    exact Or.inr (by omega)
  · exact Or.inl (by omega)
theorem nn {a : Int32} (h : ¬ a < 0) : ∃ x, x < 2 ^ 31 ∧ a = nI x := nI_of h
