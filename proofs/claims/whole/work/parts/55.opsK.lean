section OK5
variable {m : Nat → Nat → Int32} {kp : Bool} {b : Option Nat} {z : Nat}
def cN43 (m : Nat → Nat → Int32) (k : Nat) : Nat := (m 43 k).toNatClampNeg
theorem cN_of {k x : Nat} (h : m 43 k = nI x) (hx : x < 2 ^ 31) : cN43 m k = x := by unfold cN43; rw [h, nI_clamp hx]
theorem bw1 {c : Bool} : ((if c = true then (1 : Int32) else 0) = 0) ↔ c = false := by cases c <;> simp
theorem pcN31 (x : Nat) : pcN x < 2 ^ 31 := Nat.lt_of_le_of_lt (pcN_le x) (by decide)
/-! fall -/
def flS (m : Nat → Nat → Int32) (s i S : Nat) : Bool := !s.testBit i && decide (cN43 m (22 + 5 * i + 3) ≤ pcN (cN43 m (22 + 5 * i + 4) &&& S))
def flG (m : Nat → Nat → Int32) (s i : Nat) (a : Nat × Nat) : Nat × Nat := if flS m s i a.1 = true then (a.1 ||| 2 ^ i, a.2) else (a.1, a.2 ||| 2 ^ i)
def flI (i : Nat) (a : Nat × Nat) : Prop := a.1 < 2 ^ i ∧ a.2 < 2 ^ i ∧ ∀ j, j < i → a.2.testBit j = !a.1.testBit j
theorem flI_s {s i : Nat} {a : Nat × Nat} (h : flI i a) : flI (i + 1) (flG m s i a) := by
  obtain ⟨h1, h2, h3⟩ := h
  have p1 : 2 ^ i < 2 ^ (i + 1) := Nat.pow_lt_pow_right (by decide) (by omega)
  have q1 : a.1 ||| 2 ^ i < 2 ^ (i + 1) := Nat.or_lt_two_pow (by omega) p1
  have q2 : a.2 ||| 2 ^ i < 2 ^ (i + 1) := Nat.or_lt_two_pow (by omega) p1
  have t1 : a.1.testBit i = false := Nat.testBit_lt_two_pow h1
  have t2 : a.2.testBit i = false := Nat.testBit_lt_two_pow h2
  unfold flG
  by_cases hb : flS m s i a.1 = true
  · rw [if_pos hb]
    refine ⟨q1, by show a.2 < _; omega, fun j hj => ?_⟩
    show a.2.testBit j = !(a.1 ||| 2 ^ i).testBit j
    rw [Nat.testBit_or, Nat.testBit_two_pow]
    by_cases e : j = i
    · subst e; rw [t2]; simp
    · rw [h3 j (by omega), decide_eq_false (fun q => e q.symm), Bool.or_false]
  · rw [if_neg hb]
    refine ⟨by show a.1 < _; omega, q2, fun j hj => ?_⟩
    show (a.2 ||| 2 ^ i).testBit j = !a.1.testBit j
    rw [Nat.testBit_or, Nat.testBit_two_pow]
    by_cases e : j = i
    · subst e; rw [t1]; simp
    · rw [h3 j (by omega), decide_eq_false (fun q => e q.symm), Bool.or_false]
theorem andL {R S k : Nat} (h : S < 2 ^ k) : R &&& S < 2 ^ k := Nat.lt_of_le_of_lt Nat.and_le_right h
theorem and24 {R S k : Nat} (h : S < 2 ^ k) (hk : k ≤ 24) : R &&& S < 2 ^ 24 := Nat.lt_of_lt_of_le (andL h) (Nat.pow_le_pow_right (by decide) hk)
theorem lt31 {S k : Nat} (h : S < 2 ^ k) (hk : k ≤ 31) : S < 2 ^ 31 := Nat.lt_of_lt_of_le h (Nat.pow_le_pow_right (by decide) hk)
theorem lt24 {S k : Nat} (h : S < 2 ^ k) (hk : k ≤ 24) : S < 2 ^ 24 := Nat.lt_of_lt_of_le h (Nat.pow_le_pow_right (by decide) hk)
theorem fall7 {n s : Nat} (hs : s < 2 ^ n) (h1 : m 4 0 = nI 5) (h3 : m 4 3 = nI n) (hn : n ≤ 12) (h6 : ∀ k, k < 60 → m 5 k = m 43 (22 + k)) (hN : ∀ p, p < n → (∃ x, x ≤ 11 ∧ m 43 (22 + 5 * p + 3) = nI x) ∧ (∃ x, x < 2 ^ p ∧ m 43 (22 + 5 * p + 4) = nI x)) : f_X7_fall_L28 (mkS m kp b) 0 (nI s) 3000 0 0 = some (nI n, nI (it (flG m s) n 0 (0, 0)).1) ∧ flI n (it (flG m s) n 0 (0, 0)) := by
  have hs31 : s < 2 ^ 31 := Nat.lt_of_lt_of_le hs (Nat.pow_le_pow_right (by decide) (by omega))
  have := loopT (fun f i (a : Nat × Nat) => f_X7_fall_L28 (mkS m kp b) 0 (nI s) f (nI i) (nI a.1)) (fun a => (nI n, nI a.1)) (flG m s) flI n (fun f i a hi hI => by
    refine ⟨?_, flI_s hI⟩
    show f_X7_fall_L28 (mkS m kp b) 0 (nI s) (f + 1) (nI i) (nI a.1) = f_X7_fall_L28 (mkS m kp b) 0 (nI s) f (nI (i + 1)) (nI (flG m s i a).1)
    rw [f_X7_fall_L28]
    obtain ⟨⟨x, hx, ex⟩, ⟨y, hy, ey⟩⟩ := hN i hi
    have e3 : m 5 (i * 5 + 3) = nI x := by rw [h6 _ (by omega), ← ex]; congr 1; omega
    have e4 : m 5 (i * 5 + 4) = nI y := by rw [h6 _ (by omega), ← ey]; congr 1; omega
    have hy31 : y < 2 ^ 31 := lt31 hy (by omega)
    have hB := bitc_eq (σ := mkS m kp b) (and24 (R := y) hI.1 (show i ≤ 24 by omega))
    simp only [io_0, gI_0, pI_0, pZ_0, io_1, gI_1, pI_1, pZ_1, io_2, gI_2, pI_2, pZ_2, aL_3, io_4, gI_4, pI_4, pZ_4, aL_5, io_6, gI_6, pI_6, pZ_6, aL_7, aL_8, io_9, gI_9, pI_9, pZ_9, aL_10, io_11, gI_11, pI_11, pZ_11, aL_12, io_13, gI_13, pI_13, pZ_13, aL_14, io_15, gI_15, pI_15, pZ_15, aL_16, io_17, gI_17, pI_17, pZ_17, aL_18, aL_19, io_20, gI_20, pI_20, pZ_20, aL_21, io_22, gI_22, pI_22, pZ_22, aL_23, io_24, gI_24, pI_24, pZ_24, aL_25, io_26, gI_26, pI_26, pZ_26, io_27, gI_27, pI_27, pZ_27, aL_28, aL_29, aL_30, aL_31, aL_32, aL_33, io_34, gI_34, pI_34, pZ_34, aL_35, io_36, gI_36, pI_36, pZ_36, aL_37, io_38, gI_38, pI_38, pZ_38, aL_39, io_40, gI_40, pI_40, pZ_40, aL_41, io_42, gI_42, pI_42, pZ_42, aL_43, aL_44, aL_45, aL_46, aL_47, aL_48, aL_49, aL_50, aL_51, aL_52, aL_53, aL_54, aL_55, aL_56, aL_57, aL_58, gq_0_0, gq_0_1, gq_0_2, gq_0_3, gq_0_4, gq_0_5, gq_0_6, gq_0_7, gq_1_0, gq_1_1, gq_1_2, gq_1_3, gq_1_4, gq_1_5, gq_1_6, gq_1_7, gq_1_8, gq_1_9, gq_2_2, gq_4_2, gq_6_2, gq_9_2, gq_11_2, gq_13_2, gq_15_2, gq_17_0, gq_20_0, gq_22_0, gq_24_0, gq_27_0, gq_34_0, gq_36_0, gq_38_0, gq_40_0, gq_42_0, gq_42_1, gq_42_3, gq_42_4, gq_42_11, gq_42_12, gq_42_13, gq_42_15, gq_42_16, gq_42_17, gq_42_18, gq_42_19, gq_42_23, gq_42_24, gq_42_25, gq_42_26, aQ_29_0, aQ_29_1, aQ_29_2, aQ_29_3, aQ_19_0, aQ_19_1, aQ_19_2, aQ_46_0, aQ_46_1, aQ_46_2, gq_26, gr_26, gr_0_8, pQ_26, Option.bind_some, ↓reduceIte, one_ne0, h3, nle hi (show n < 2 ^ 31 by omega)]
    rw [at_4_4 h1 h3 hn hi, Option.bind_some, e4, nx_and, hB, Option.bind_some]
    simp only [io_0, gI_0, pI_0, pZ_0, io_1, gI_1, pI_1, pZ_1, io_2, gI_2, pI_2, pZ_2, aL_3, io_4, gI_4, pI_4, pZ_4, aL_5, io_6, gI_6, pI_6, pZ_6, aL_7, aL_8, io_9, gI_9, pI_9, pZ_9, aL_10, io_11, gI_11, pI_11, pZ_11, aL_12, io_13, gI_13, pI_13, pZ_13, aL_14, io_15, gI_15, pI_15, pZ_15, aL_16, io_17, gI_17, pI_17, pZ_17, aL_18, aL_19, io_20, gI_20, pI_20, pZ_20, aL_21, io_22, gI_22, pI_22, pZ_22, aL_23, io_24, gI_24, pI_24, pZ_24, aL_25, io_26, gI_26, pI_26, pZ_26, io_27, gI_27, pI_27, pZ_27, aL_28, aL_29, aL_30, aL_31, aL_32, aL_33, io_34, gI_34, pI_34, pZ_34, aL_35, io_36, gI_36, pI_36, pZ_36, aL_37, io_38, gI_38, pI_38, pZ_38, aL_39, io_40, gI_40, pI_40, pZ_40, aL_41, io_42, gI_42, pI_42, pZ_42, aL_43, aL_44, aL_45, aL_46, aL_47, aL_48, aL_49, aL_50, aL_51, aL_52, aL_53, aL_54, aL_55, aL_56, aL_57, aL_58, gq_0_0, gq_0_1, gq_0_2, gq_0_3, gq_0_4, gq_0_5, gq_0_6, gq_0_7, gq_1_0, gq_1_1, gq_1_2, gq_1_3, gq_1_4, gq_1_5, gq_1_6, gq_1_7, gq_1_8, gq_1_9, gq_2_2, gq_4_2, gq_6_2, gq_9_2, gq_11_2, gq_13_2, gq_15_2, gq_17_0, gq_20_0, gq_22_0, gq_24_0, gq_27_0, gq_34_0, gq_36_0, gq_38_0, gq_40_0, gq_42_0, gq_42_1, gq_42_3, gq_42_4, gq_42_11, gq_42_12, gq_42_13, gq_42_15, gq_42_16, gq_42_17, gq_42_18, gq_42_19, gq_42_23, gq_42_24, gq_42_25, gq_42_26, aQ_29_0, aQ_29_1, aQ_29_2, aQ_29_3, aQ_19_0, aQ_19_1, aQ_19_2, aQ_46_0, aQ_46_1, aQ_46_2, gq_26, gr_26, gr_0_8, pQ_26, Option.bind_some, ↓reduceIte, one_ne0, at_4_3 h1 h3 hn hi, e3, bit0 hs31 (show i < 32 by omega), shl1 i (by omega), nI_or, nI_ltI (pcN31 (y &&& a.1)) (show x < 2 ^ 31 by omega), nI_a1]
    unfold flG flS
    rw [cN_of ex (by omega), cN_of ey hy31]
    cases hb : s.testBit i
    · by_cases hq : pcN (y &&& a.1) < x
      · simp [hq, show ¬ x ≤ pcN (y &&& a.1) by omega]
      · simp [hq, show x ≤ pcN (y &&& a.1) by omega]
    · simp) (fun f a hI => by
    show f_X7_fall_L28 (mkS m kp b) 0 (nI s) (f + 1) (nI n) (nI a.1) = _
    rw [f_X7_fall_L28]
    simp only [io_0, gI_0, pI_0, pZ_0, io_1, gI_1, pI_1, pZ_1, io_2, gI_2, pI_2, pZ_2, aL_3, io_4, gI_4, pI_4, pZ_4, aL_5, io_6, gI_6, pI_6, pZ_6, aL_7, aL_8, io_9, gI_9, pI_9, pZ_9, aL_10, io_11, gI_11, pI_11, pZ_11, aL_12, io_13, gI_13, pI_13, pZ_13, aL_14, io_15, gI_15, pI_15, pZ_15, aL_16, io_17, gI_17, pI_17, pZ_17, aL_18, aL_19, io_20, gI_20, pI_20, pZ_20, aL_21, io_22, gI_22, pI_22, pZ_22, aL_23, io_24, gI_24, pI_24, pZ_24, aL_25, io_26, gI_26, pI_26, pZ_26, io_27, gI_27, pI_27, pZ_27, aL_28, aL_29, aL_30, aL_31, aL_32, aL_33, io_34, gI_34, pI_34, pZ_34, aL_35, io_36, gI_36, pI_36, pZ_36, aL_37, io_38, gI_38, pI_38, pZ_38, aL_39, io_40, gI_40, pI_40, pZ_40, aL_41, io_42, gI_42, pI_42, pZ_42, aL_43, aL_44, aL_45, aL_46, aL_47, aL_48, aL_49, aL_50, aL_51, aL_52, aL_53, aL_54, aL_55, aL_56, aL_57, aL_58, gq_0_0, gq_0_1, gq_0_2, gq_0_3, gq_0_4, gq_0_5, gq_0_6, gq_0_7, gq_1_0, gq_1_1, gq_1_2, gq_1_3, gq_1_4, gq_1_5, gq_1_6, gq_1_7, gq_1_8, gq_1_9, gq_2_2, gq_4_2, gq_6_2, gq_9_2, gq_11_2, gq_13_2, gq_15_2, gq_17_0, gq_20_0, gq_22_0, gq_24_0, gq_27_0, gq_34_0, gq_36_0, gq_38_0, gq_40_0, gq_42_0, gq_42_1, gq_42_3, gq_42_4, gq_42_11, gq_42_12, gq_42_13, gq_42_15, gq_42_16, gq_42_17, gq_42_18, gq_42_19, gq_42_23, gq_42_24, gq_42_25, gq_42_26, aQ_29_0, aQ_29_1, aQ_29_2, aQ_29_3, aQ_19_0, aQ_19_1, aQ_19_2, aQ_46_0, aQ_46_1, aQ_46_2, gq_26, gr_26, gr_0_8, pQ_26, Option.bind_some, ↓reduceIte, one_ne0, h3, Int32.le_refl]) n 0 (0, 0) 3000 (by omega) (by omega) ⟨by decide, by decide, fun j hj => absurd hj (by omega)⟩
  simp only [nI_0] at this
  exact this
theorem andnot {y A B i : Nat} (hy : y < 2 ^ i) (hi : i ≤ 12) (h : ∀ j, j < i → B.testBit j = !A.testBit j) : nI y &&& (nI B ^^^ (-1)) = nI (y &&& A) := by
  apply b_ext
  intro j hj
  rw [b_and, b_xor, b_nI _ hj, b_nI _ hj, b_nI _ hj, b_m1 j hj, Nat.testBit_and]
  by_cases e : j < i
  · rw [h j e]; cases y.testBit j <;> cases A.testBit j <;> rfl
  · rw [Nat.testBit_lt_two_pow (Nat.lt_of_lt_of_le hy (Nat.pow_le_pow_right (by decide) (by omega)))]; rfl
theorem fall8 {n s : Nat} (hs : s < 2 ^ n) (h3 : m 43 0 = nI n) (hn : n ≤ 12) (hN : ∀ p, p < n → (∃ x, x ≤ 11 ∧ m 43 (22 + 5 * p + 3) = nI x) ∧ (∃ x, x < 2 ^ p ∧ m 43 (22 + 5 * p + 4) = nI x)) : f_X8_fall_L29 (mkS m kp b) 42 (nI s) 3000 0 0 = some (nI n, nI (it (flG m s) n 0 (0, 0)).2) := by
  have hs31 : s < 2 ^ 31 := Nat.lt_of_lt_of_le hs (Nat.pow_le_pow_right (by decide) (by omega))
  have := (loopT (fun f i (a : Nat × Nat) => f_X8_fall_L29 (mkS m kp b) 42 (nI s) f (nI i) (nI a.2)) (fun a => (nI n, nI a.2)) (flG m s) flI n (fun f i a hi hI => by
    refine ⟨?_, flI_s hI⟩
    show f_X8_fall_L29 (mkS m kp b) 42 (nI s) (f + 1) (nI i) (nI a.2) = f_X8_fall_L29 (mkS m kp b) 42 (nI s) f (nI (i + 1)) (nI (flG m s i a).2)
    rw [f_X8_fall_L29]
    obtain ⟨⟨x, hx, ex⟩, ⟨y, hy, ey⟩⟩ := hN i hi
    have hy31 : y < 2 ^ 31 := lt31 hy (by omega)
    have hB := bits_eq (σ := mkS m kp b) (and24 (R := y) hI.1 (show i ≤ 24 by omega))
    simp only [io_0, gI_0, pI_0, pZ_0, io_1, gI_1, pI_1, pZ_1, io_2, gI_2, pI_2, pZ_2, aL_3, io_4, gI_4, pI_4, pZ_4, aL_5, io_6, gI_6, pI_6, pZ_6, aL_7, aL_8, io_9, gI_9, pI_9, pZ_9, aL_10, io_11, gI_11, pI_11, pZ_11, aL_12, io_13, gI_13, pI_13, pZ_13, aL_14, io_15, gI_15, pI_15, pZ_15, aL_16, io_17, gI_17, pI_17, pZ_17, aL_18, aL_19, io_20, gI_20, pI_20, pZ_20, aL_21, io_22, gI_22, pI_22, pZ_22, aL_23, io_24, gI_24, pI_24, pZ_24, aL_25, io_26, gI_26, pI_26, pZ_26, io_27, gI_27, pI_27, pZ_27, aL_28, aL_29, aL_30, aL_31, aL_32, aL_33, io_34, gI_34, pI_34, pZ_34, aL_35, io_36, gI_36, pI_36, pZ_36, aL_37, io_38, gI_38, pI_38, pZ_38, aL_39, io_40, gI_40, pI_40, pZ_40, aL_41, io_42, gI_42, pI_42, pZ_42, aL_43, aL_44, aL_45, aL_46, aL_47, aL_48, aL_49, aL_50, aL_51, aL_52, aL_53, aL_54, aL_55, aL_56, aL_57, aL_58, gq_0_0, gq_0_1, gq_0_2, gq_0_3, gq_0_4, gq_0_5, gq_0_6, gq_0_7, gq_1_0, gq_1_1, gq_1_2, gq_1_3, gq_1_4, gq_1_5, gq_1_6, gq_1_7, gq_1_8, gq_1_9, gq_2_2, gq_4_2, gq_6_2, gq_9_2, gq_11_2, gq_13_2, gq_15_2, gq_17_0, gq_20_0, gq_22_0, gq_24_0, gq_27_0, gq_34_0, gq_36_0, gq_38_0, gq_40_0, gq_42_0, gq_42_1, gq_42_3, gq_42_4, gq_42_11, gq_42_12, gq_42_13, gq_42_15, gq_42_16, gq_42_17, gq_42_18, gq_42_19, gq_42_23, gq_42_24, gq_42_25, gq_42_26, aQ_29_0, aQ_29_1, aQ_29_2, aQ_29_3, aQ_19_0, aQ_19_1, aQ_19_2, aQ_46_0, aQ_46_1, aQ_46_2, gq_26, gr_26, gr_0_8, pQ_26, Option.bind_some, ↓reduceIte, one_ne0, rdl_0, h3, nle hi (show n < 2 ^ 31 by omega), has_eq hs31 (show i < 32 by omega), bw0]
    rw [mpap4 (show i < 12 by omega), Option.bind_some, ey, andnot hy (show i ≤ 12 by omega) hI.2.2, hB, Option.bind_some]
    simp only [io_0, gI_0, pI_0, pZ_0, io_1, gI_1, pI_1, pZ_1, io_2, gI_2, pI_2, pZ_2, aL_3, io_4, gI_4, pI_4, pZ_4, aL_5, io_6, gI_6, pI_6, pZ_6, aL_7, aL_8, io_9, gI_9, pI_9, pZ_9, aL_10, io_11, gI_11, pI_11, pZ_11, aL_12, io_13, gI_13, pI_13, pZ_13, aL_14, io_15, gI_15, pI_15, pZ_15, aL_16, io_17, gI_17, pI_17, pZ_17, aL_18, aL_19, io_20, gI_20, pI_20, pZ_20, aL_21, io_22, gI_22, pI_22, pZ_22, aL_23, io_24, gI_24, pI_24, pZ_24, aL_25, io_26, gI_26, pI_26, pZ_26, io_27, gI_27, pI_27, pZ_27, aL_28, aL_29, aL_30, aL_31, aL_32, aL_33, io_34, gI_34, pI_34, pZ_34, aL_35, io_36, gI_36, pI_36, pZ_36, aL_37, io_38, gI_38, pI_38, pZ_38, aL_39, io_40, gI_40, pI_40, pZ_40, aL_41, io_42, gI_42, pI_42, pZ_42, aL_43, aL_44, aL_45, aL_46, aL_47, aL_48, aL_49, aL_50, aL_51, aL_52, aL_53, aL_54, aL_55, aL_56, aL_57, aL_58, gq_0_0, gq_0_1, gq_0_2, gq_0_3, gq_0_4, gq_0_5, gq_0_6, gq_0_7, gq_1_0, gq_1_1, gq_1_2, gq_1_3, gq_1_4, gq_1_5, gq_1_6, gq_1_7, gq_1_8, gq_1_9, gq_2_2, gq_4_2, gq_6_2, gq_9_2, gq_11_2, gq_13_2, gq_15_2, gq_17_0, gq_20_0, gq_22_0, gq_24_0, gq_27_0, gq_34_0, gq_36_0, gq_38_0, gq_40_0, gq_42_0, gq_42_1, gq_42_3, gq_42_4, gq_42_11, gq_42_12, gq_42_13, gq_42_15, gq_42_16, gq_42_17, gq_42_18, gq_42_19, gq_42_23, gq_42_24, gq_42_25, gq_42_26, aQ_29_0, aQ_29_1, aQ_29_2, aQ_29_3, aQ_19_0, aQ_19_1, aQ_19_2, aQ_46_0, aQ_46_1, aQ_46_2, gq_26, gr_26, gr_0_8, pQ_26, Option.bind_some, ↓reduceIte, one_ne0, mpap3 (show i < 12 by omega), ex, shl1 i (by omega), nI_or, nI_ltI (pcN31 (y &&& a.1)) (show x < 2 ^ 31 by omega), nI_a1]
    unfold flG flS
    rw [cN_of ex (by omega), cN_of ey hy31]
    cases hb : s.testBit i
    · by_cases hq : pcN (y &&& a.1) < x
      · simp [hq, show ¬ x ≤ pcN (y &&& a.1) by omega, nI_or]
      · simp [hq, show x ≤ pcN (y &&& a.1) by omega]
    · simp) (fun f a hI => by
    show f_X8_fall_L29 (mkS m kp b) 42 (nI s) (f + 1) (nI n) (nI a.2) = _
    rw [f_X8_fall_L29]
    simp only [io_0, gI_0, pI_0, pZ_0, io_1, gI_1, pI_1, pZ_1, io_2, gI_2, pI_2, pZ_2, aL_3, io_4, gI_4, pI_4, pZ_4, aL_5, io_6, gI_6, pI_6, pZ_6, aL_7, aL_8, io_9, gI_9, pI_9, pZ_9, aL_10, io_11, gI_11, pI_11, pZ_11, aL_12, io_13, gI_13, pI_13, pZ_13, aL_14, io_15, gI_15, pI_15, pZ_15, aL_16, io_17, gI_17, pI_17, pZ_17, aL_18, aL_19, io_20, gI_20, pI_20, pZ_20, aL_21, io_22, gI_22, pI_22, pZ_22, aL_23, io_24, gI_24, pI_24, pZ_24, aL_25, io_26, gI_26, pI_26, pZ_26, io_27, gI_27, pI_27, pZ_27, aL_28, aL_29, aL_30, aL_31, aL_32, aL_33, io_34, gI_34, pI_34, pZ_34, aL_35, io_36, gI_36, pI_36, pZ_36, aL_37, io_38, gI_38, pI_38, pZ_38, aL_39, io_40, gI_40, pI_40, pZ_40, aL_41, io_42, gI_42, pI_42, pZ_42, aL_43, aL_44, aL_45, aL_46, aL_47, aL_48, aL_49, aL_50, aL_51, aL_52, aL_53, aL_54, aL_55, aL_56, aL_57, aL_58, gq_0_0, gq_0_1, gq_0_2, gq_0_3, gq_0_4, gq_0_5, gq_0_6, gq_0_7, gq_1_0, gq_1_1, gq_1_2, gq_1_3, gq_1_4, gq_1_5, gq_1_6, gq_1_7, gq_1_8, gq_1_9, gq_2_2, gq_4_2, gq_6_2, gq_9_2, gq_11_2, gq_13_2, gq_15_2, gq_17_0, gq_20_0, gq_22_0, gq_24_0, gq_27_0, gq_34_0, gq_36_0, gq_38_0, gq_40_0, gq_42_0, gq_42_1, gq_42_3, gq_42_4, gq_42_11, gq_42_12, gq_42_13, gq_42_15, gq_42_16, gq_42_17, gq_42_18, gq_42_19, gq_42_23, gq_42_24, gq_42_25, gq_42_26, aQ_29_0, aQ_29_1, aQ_29_2, aQ_29_3, aQ_19_0, aQ_19_1, aQ_19_2, aQ_46_0, aQ_46_1, aQ_46_2, gq_26, gr_26, gr_0_8, pQ_26, Option.bind_some, ↓reduceIte, one_ne0, rdl_0, h3, Int32.le_refl]) n 0 (0, 0) 3000 (by omega) (by omega) ⟨by decide, by decide, fun j hj => absurd hj (by omega)⟩).1
  simp only [nI_0] at this
  exact this
theorem fall_end {n : Nat} {a : Nat × Nat} (hn : n ≤ 12) (h : flI n a) : (nI a.1 ^^^ (-1)) &&& (nI (2 ^ n) - 1) = nI a.2 := by
  rw [shm1 n (by omega)]
  apply b_ext
  intro j hj
  rw [b_and, b_xor, b_nI _ hj, b_nI _ hj, b_nI _ hj, b_m1 j hj, Nat.testBit_two_pow_sub_one]
  by_cases e : j < n
  · rw [h.2.2 j e, decide_eq_true e]; cases a.1.testBit j <;> rfl
  · rw [decide_eq_false e, Nat.testBit_lt_two_pow (Nat.lt_of_lt_of_le h.2.1 (Nat.pow_le_pow_right (by decide) (by omega)))]; simp
theorem op_fall (a : Int32) : OpR (fun σ => f_X7_fall σ 0 a) (fun σ => f_X8_fall σ 42 a) := by
  intro m kp b z hR
  obtain ⟨⟨c, hS⟩, -⟩ := id hR
  obtain ⟨w1, w2, w3, w4, w5, w6, w7⟩ := id hS.2.2.1
  have e4 : m 4 3 = nI (c 0) := w3
  have hp2 := pow_le30 (show c 0 < 31 by omega)
  by_cases ha : 0 ≤ a ∧ a < nI (2 ^ c 0)
  · obtain ⟨s, hs, rfl⟩ := ex_nI (n := 2 ^ c 0) (by omega) ha
    have hN : ∀ p, p < c 0 → (∃ x, x ≤ 11 ∧ m 43 (22 + 5 * p + 3) = nI x) ∧ (∃ x, x < 2 ^ p ∧ m 43 (22 + 5 * p + 4) = nI x) := fun p hp => ⟨(w7 p hp).2.2.1, (w7 p hp).2.2.2⟩
    obtain ⟨h7, hI⟩ := fall7 (kp := kp) (b := b) hs w1 w3 w5 w6 hN
    refine ⟨nI (it (flG m s) (c 0) 0 (0, 0)).2, m, kp, b, m, ?_, ?_, hR.up⟩
    · show f_X7_fall (mkS m kp b) 0 (nI s) = _
      unfold f_X7_fall
      simp only [io_0, gI_0, pI_0, pZ_0, io_1, gI_1, pI_1, pZ_1, io_2, gI_2, pI_2, pZ_2, aL_3, io_4, gI_4, pI_4, pZ_4, aL_5, io_6, gI_6, pI_6, pZ_6, aL_7, aL_8, io_9, gI_9, pI_9, pZ_9, aL_10, io_11, gI_11, pI_11, pZ_11, aL_12, io_13, gI_13, pI_13, pZ_13, aL_14, io_15, gI_15, pI_15, pZ_15, aL_16, io_17, gI_17, pI_17, pZ_17, aL_18, aL_19, io_20, gI_20, pI_20, pZ_20, aL_21, io_22, gI_22, pI_22, pZ_22, aL_23, io_24, gI_24, pI_24, pZ_24, aL_25, io_26, gI_26, pI_26, pZ_26, io_27, gI_27, pI_27, pZ_27, aL_28, aL_29, aL_30, aL_31, aL_32, aL_33, io_34, gI_34, pI_34, pZ_34, aL_35, io_36, gI_36, pI_36, pZ_36, aL_37, io_38, gI_38, pI_38, pZ_38, aL_39, io_40, gI_40, pI_40, pZ_40, aL_41, io_42, gI_42, pI_42, pZ_42, aL_43, aL_44, aL_45, aL_46, aL_47, aL_48, aL_49, aL_50, aL_51, aL_52, aL_53, aL_54, aL_55, aL_56, aL_57, aL_58, gq_0_0, gq_0_1, gq_0_2, gq_0_3, gq_0_4, gq_0_5, gq_0_6, gq_0_7, gq_1_0, gq_1_1, gq_1_2, gq_1_3, gq_1_4, gq_1_5, gq_1_6, gq_1_7, gq_1_8, gq_1_9, gq_2_2, gq_4_2, gq_6_2, gq_9_2, gq_11_2, gq_13_2, gq_15_2, gq_17_0, gq_20_0, gq_22_0, gq_24_0, gq_27_0, gq_34_0, gq_36_0, gq_38_0, gq_40_0, gq_42_0, gq_42_1, gq_42_3, gq_42_4, gq_42_11, gq_42_12, gq_42_13, gq_42_15, gq_42_16, gq_42_17, gq_42_18, gq_42_19, gq_42_23, gq_42_24, gq_42_25, gq_42_26, aQ_29_0, aQ_29_1, aQ_29_2, aQ_29_3, aQ_19_0, aQ_19_1, aQ_19_2, aQ_46_0, aQ_46_1, aQ_46_2, gq_26, gr_26, gr_0_8, pQ_26, Option.bind_some, ↓reduceIte, one_ne0, e4, among_eq (show c 0 < 31 by omega), if_pos ha, h7, shl1 (c 0) (by omega), fall_end w5 hI]
    · show f_X8_fall (mkS m kp b) 42 (nI s) = _
      unfold f_X8_fall
      simp only [io_0, gI_0, pI_0, pZ_0, io_1, gI_1, pI_1, pZ_1, io_2, gI_2, pI_2, pZ_2, aL_3, io_4, gI_4, pI_4, pZ_4, aL_5, io_6, gI_6, pI_6, pZ_6, aL_7, aL_8, io_9, gI_9, pI_9, pZ_9, aL_10, io_11, gI_11, pI_11, pZ_11, aL_12, io_13, gI_13, pI_13, pZ_13, aL_14, io_15, gI_15, pI_15, pZ_15, aL_16, io_17, gI_17, pI_17, pZ_17, aL_18, aL_19, io_20, gI_20, pI_20, pZ_20, aL_21, io_22, gI_22, pI_22, pZ_22, aL_23, io_24, gI_24, pI_24, pZ_24, aL_25, io_26, gI_26, pI_26, pZ_26, io_27, gI_27, pI_27, pZ_27, aL_28, aL_29, aL_30, aL_31, aL_32, aL_33, io_34, gI_34, pI_34, pZ_34, aL_35, io_36, gI_36, pI_36, pZ_36, aL_37, io_38, gI_38, pI_38, pZ_38, aL_39, io_40, gI_40, pI_40, pZ_40, aL_41, io_42, gI_42, pI_42, pZ_42, aL_43, aL_44, aL_45, aL_46, aL_47, aL_48, aL_49, aL_50, aL_51, aL_52, aL_53, aL_54, aL_55, aL_56, aL_57, aL_58, gq_0_0, gq_0_1, gq_0_2, gq_0_3, gq_0_4, gq_0_5, gq_0_6, gq_0_7, gq_1_0, gq_1_1, gq_1_2, gq_1_3, gq_1_4, gq_1_5, gq_1_6, gq_1_7, gq_1_8, gq_1_9, gq_2_2, gq_4_2, gq_6_2, gq_9_2, gq_11_2, gq_13_2, gq_15_2, gq_17_0, gq_20_0, gq_22_0, gq_24_0, gq_27_0, gq_34_0, gq_36_0, gq_38_0, gq_40_0, gq_42_0, gq_42_1, gq_42_3, gq_42_4, gq_42_11, gq_42_12, gq_42_13, gq_42_15, gq_42_16, gq_42_17, gq_42_18, gq_42_19, gq_42_23, gq_42_24, gq_42_25, gq_42_26, aQ_29_0, aQ_29_1, aQ_29_2, aQ_29_3, aQ_19_0, aQ_19_1, aQ_19_2, aQ_46_0, aQ_46_1, aQ_46_2, gq_26, gr_26, gr_0_8, pQ_26, Option.bind_some, ↓reduceIte, one_ne0, rdl_0, w4, shl1 (c 0) (by omega), within_eq, le_predP (show c 0 < 31 by omega), if_pos ha, fall8 hs w4 w5 hN]
  · refine op_err1 (k := 1) (e := -1000001) (by decide) hR ?_ ?_
    · show f_X7_fall (mkS m kp b) 0 a = _
      unfold f_X7_fall
      simp only [io_0, gI_0, pI_0, pZ_0, io_1, gI_1, pI_1, pZ_1, io_2, gI_2, pI_2, pZ_2, aL_3, io_4, gI_4, pI_4, pZ_4, aL_5, io_6, gI_6, pI_6, pZ_6, aL_7, aL_8, io_9, gI_9, pI_9, pZ_9, aL_10, io_11, gI_11, pI_11, pZ_11, aL_12, io_13, gI_13, pI_13, pZ_13, aL_14, io_15, gI_15, pI_15, pZ_15, aL_16, io_17, gI_17, pI_17, pZ_17, aL_18, aL_19, io_20, gI_20, pI_20, pZ_20, aL_21, io_22, gI_22, pI_22, pZ_22, aL_23, io_24, gI_24, pI_24, pZ_24, aL_25, io_26, gI_26, pI_26, pZ_26, io_27, gI_27, pI_27, pZ_27, aL_28, aL_29, aL_30, aL_31, aL_32, aL_33, io_34, gI_34, pI_34, pZ_34, aL_35, io_36, gI_36, pI_36, pZ_36, aL_37, io_38, gI_38, pI_38, pZ_38, aL_39, io_40, gI_40, pI_40, pZ_40, aL_41, io_42, gI_42, pI_42, pZ_42, aL_43, aL_44, aL_45, aL_46, aL_47, aL_48, aL_49, aL_50, aL_51, aL_52, aL_53, aL_54, aL_55, aL_56, aL_57, aL_58, gq_0_0, gq_0_1, gq_0_2, gq_0_3, gq_0_4, gq_0_5, gq_0_6, gq_0_7, gq_1_0, gq_1_1, gq_1_2, gq_1_3, gq_1_4, gq_1_5, gq_1_6, gq_1_7, gq_1_8, gq_1_9, gq_2_2, gq_4_2, gq_6_2, gq_9_2, gq_11_2, gq_13_2, gq_15_2, gq_17_0, gq_20_0, gq_22_0, gq_24_0, gq_27_0, gq_34_0, gq_36_0, gq_38_0, gq_40_0, gq_42_0, gq_42_1, gq_42_3, gq_42_4, gq_42_11, gq_42_12, gq_42_13, gq_42_15, gq_42_16, gq_42_17, gq_42_18, gq_42_19, gq_42_23, gq_42_24, gq_42_25, gq_42_26, aQ_29_0, aQ_29_1, aQ_29_2, aQ_29_3, aQ_19_0, aQ_19_1, aQ_19_2, aQ_46_0, aQ_46_1, aQ_46_2, gq_26, gr_26, gr_0_8, pQ_26, Option.bind_some, ↓reduceIte, one_ne0, e4, among_eq (show c 0 < 31 by omega), if_neg ha, fails_1]
      try simp
    · show f_X8_fall (mkS _ kp b) 42 a = _
      unfold f_X8_fall
      simp only [io_0, gI_0, pI_0, pZ_0, io_1, gI_1, pI_1, pZ_1, io_2, gI_2, pI_2, pZ_2, aL_3, io_4, gI_4, pI_4, pZ_4, aL_5, io_6, gI_6, pI_6, pZ_6, aL_7, aL_8, io_9, gI_9, pI_9, pZ_9, aL_10, io_11, gI_11, pI_11, pZ_11, aL_12, io_13, gI_13, pI_13, pZ_13, aL_14, io_15, gI_15, pI_15, pZ_15, aL_16, io_17, gI_17, pI_17, pZ_17, aL_18, aL_19, io_20, gI_20, pI_20, pZ_20, aL_21, io_22, gI_22, pI_22, pZ_22, aL_23, io_24, gI_24, pI_24, pZ_24, aL_25, io_26, gI_26, pI_26, pZ_26, io_27, gI_27, pI_27, pZ_27, aL_28, aL_29, aL_30, aL_31, aL_32, aL_33, io_34, gI_34, pI_34, pZ_34, aL_35, io_36, gI_36, pI_36, pZ_36, aL_37, io_38, gI_38, pI_38, pZ_38, aL_39, io_40, gI_40, pI_40, pZ_40, aL_41, io_42, gI_42, pI_42, pZ_42, aL_43, aL_44, aL_45, aL_46, aL_47, aL_48, aL_49, aL_50, aL_51, aL_52, aL_53, aL_54, aL_55, aL_56, aL_57, aL_58, gq_0_0, gq_0_1, gq_0_2, gq_0_3, gq_0_4, gq_0_5, gq_0_6, gq_0_7, gq_1_0, gq_1_1, gq_1_2, gq_1_3, gq_1_4, gq_1_5, gq_1_6, gq_1_7, gq_1_8, gq_1_9, gq_2_2, gq_4_2, gq_6_2, gq_9_2, gq_11_2, gq_13_2, gq_15_2, gq_17_0, gq_20_0, gq_22_0, gq_24_0, gq_27_0, gq_34_0, gq_36_0, gq_38_0, gq_40_0, gq_42_0, gq_42_1, gq_42_3, gq_42_4, gq_42_11, gq_42_12, gq_42_13, gq_42_15, gq_42_16, gq_42_17, gq_42_18, gq_42_19, gq_42_23, gq_42_24, gq_42_25, gq_42_26, aQ_29_0, aQ_29_1, aQ_29_2, aQ_29_3, aQ_19_0, aQ_19_1, aQ_19_2, aQ_46_0, aQ_46_1, aQ_46_2, gq_26, gr_26, gr_0_8, pQ_26, Option.bind_some, ↓reduceIte, one_ne0, rdl_0, e43 w4, shl1 (c 0) (show c 0 < 31 by omega), within_eq, le_predP (show c 0 < 31 by omega), if_neg ha, finds_1]
      try simp
/-! rules -/
def coG (m : Nat → Nat → Int32) (s i a : Nat) : Nat := if s.testBit i = true then a + cN43 m (958 + 2 * i) else a
def swH (m : Nat → Nat → Int32) (s i a : Nat) : Nat := if s.testBit i = true then a ||| cN43 m (958 + 2 * i + 1) else a
def coN (m : Nat → Nat → Int32) (n s : Nat) : Nat := it (coG m s) n 0 0
def swN (m : Nat → Nat → Int32) (n s : Nat) : Nat := it (swH m s) n 0 0
def ruH (m : Nat → Nat → Int32) (n nC : Nat) : Prop := ∀ k, k < n → (∃ x, 1 ≤ x ∧ x ≤ 99 ∧ m 43 (958 + 2 * k) = nI x) ∧ (∃ x, x < 2 ^ nC ∧ m 43 (958 + 2 * k + 1) = nI x)
theorem coN_le {n nC s : Nat} (h : ruH m n nC) : coN m n s ≤ 99 * n := by
  have := it_inv (g := coG m s) (fun i a => a ≤ 99 * i) n 0 0 (by omega) (fun j a _ h2 h3 => by
    unfold coG
    obtain ⟨⟨x, hx1, hx, ex⟩, -⟩ := h j (by omega)
    rw [cN_of ex (by omega)]
    by_cases hb : s.testBit j = true
    · rw [if_pos hb]; omega
    · rw [if_neg hb]; omega)
  rw [Nat.zero_add] at this
  exact this
theorem swN_lt {n nC s : Nat} (hC : nC ≤ 24) (h : ruH m n nC) : swN m n s < 2 ^ nC := by
  have := it_inv (g := swH m s) (fun _ a => a < 2 ^ nC) n 0 0 (Nat.two_pow_pos _) (fun j a _ h2 h3 => by
    unfold swH
    obtain ⟨-, x, hx, ex⟩ := h j (by omega)
    have := Nat.pow_le_pow_right (n := 2) (by decide) hC
    rw [cN_of ex (by omega)]
    by_cases hb : s.testBit j = true
    · rw [if_pos hb]; exact Nat.or_lt_two_pow h3 hx
    · rw [if_neg hb]; exact h3)
  exact this
theorem cost7 {n nC s : Nat} (h1 : m 13 0 = nI 2) (h3 : m 13 3 = nI n) (hn : n ≤ 8) (h6 : ∀ k, k < 16 → m 14 k = m 43 (958 + k)) (hC : nC ≤ 24) (h : ruH m n nC) (hs : s < 2 ^ 31) : f_X7_costOf (mkS m kp b) 0 (nI s) = some (nI (coN m n s)) := by
  unfold f_X7_costOf coN
  have := loopU (fun f i (a : Nat) => f_X7_costOf_L4 (mkS m kp b) 0 (nI s) f (nI i) (nI a)) (fun a => (nI n, nI a)) (coG m s) n (fun f i a hi => by
    show f_X7_costOf_L4 (mkS m kp b) 0 (nI s) (f + 1) (nI i) (nI a) = _
    rw [f_X7_costOf_L4]
    obtain ⟨⟨x, hx1, hx, ex⟩, -⟩ := h i hi
    have e : m 14 (i * 2 + 0) = nI x := by rw [h6 _ (by omega), ← ex]; congr 1; omega
    simp only [io_0, gI_0, pI_0, pZ_0, io_1, gI_1, pI_1, pZ_1, io_2, gI_2, pI_2, pZ_2, aL_3, io_4, gI_4, pI_4, pZ_4, aL_5, io_6, gI_6, pI_6, pZ_6, aL_7, aL_8, io_9, gI_9, pI_9, pZ_9, aL_10, io_11, gI_11, pI_11, pZ_11, aL_12, io_13, gI_13, pI_13, pZ_13, aL_14, io_15, gI_15, pI_15, pZ_15, aL_16, io_17, gI_17, pI_17, pZ_17, aL_18, aL_19, io_20, gI_20, pI_20, pZ_20, aL_21, io_22, gI_22, pI_22, pZ_22, aL_23, io_24, gI_24, pI_24, pZ_24, aL_25, io_26, gI_26, pI_26, pZ_26, io_27, gI_27, pI_27, pZ_27, aL_28, aL_29, aL_30, aL_31, aL_32, aL_33, io_34, gI_34, pI_34, pZ_34, aL_35, io_36, gI_36, pI_36, pZ_36, aL_37, io_38, gI_38, pI_38, pZ_38, aL_39, io_40, gI_40, pI_40, pZ_40, aL_41, io_42, gI_42, pI_42, pZ_42, aL_43, aL_44, aL_45, aL_46, aL_47, aL_48, aL_49, aL_50, aL_51, aL_52, aL_53, aL_54, aL_55, aL_56, aL_57, aL_58, gq_0_0, gq_0_1, gq_0_2, gq_0_3, gq_0_4, gq_0_5, gq_0_6, gq_0_7, gq_1_0, gq_1_1, gq_1_2, gq_1_3, gq_1_4, gq_1_5, gq_1_6, gq_1_7, gq_1_8, gq_1_9, gq_2_2, gq_4_2, gq_6_2, gq_9_2, gq_11_2, gq_13_2, gq_15_2, gq_17_0, gq_20_0, gq_22_0, gq_24_0, gq_27_0, gq_34_0, gq_36_0, gq_38_0, gq_40_0, gq_42_0, gq_42_1, gq_42_3, gq_42_4, gq_42_11, gq_42_12, gq_42_13, gq_42_15, gq_42_16, gq_42_17, gq_42_18, gq_42_19, gq_42_23, gq_42_24, gq_42_25, gq_42_26, aQ_29_0, aQ_29_1, aQ_29_2, aQ_29_3, aQ_19_0, aQ_19_1, aQ_19_2, aQ_46_0, aQ_46_1, aQ_46_2, gq_26, gr_26, gr_0_8, pQ_26, Option.bind_some, ↓reduceIte, one_ne0, h3, nle hi (show n < 2 ^ 31 by omega), at_13_0 h1 h3 hn hi, e, bit1 hs (show i < 32 by omega), nI_add, nI_a1]
    unfold coG
    rw [cN_of ex (by omega)]
    by_cases hb : s.testBit i = true
    · rw [if_pos hb, if_pos hb]
    · rw [if_neg hb, if_neg hb]) (fun f a => by
    show f_X7_costOf_L4 (mkS m kp b) 0 (nI s) (f + 1) (nI n) (nI a) = _
    rw [f_X7_costOf_L4]
    simp only [io_0, gI_0, pI_0, pZ_0, io_1, gI_1, pI_1, pZ_1, io_2, gI_2, pI_2, pZ_2, aL_3, io_4, gI_4, pI_4, pZ_4, aL_5, io_6, gI_6, pI_6, pZ_6, aL_7, aL_8, io_9, gI_9, pI_9, pZ_9, aL_10, io_11, gI_11, pI_11, pZ_11, aL_12, io_13, gI_13, pI_13, pZ_13, aL_14, io_15, gI_15, pI_15, pZ_15, aL_16, io_17, gI_17, pI_17, pZ_17, aL_18, aL_19, io_20, gI_20, pI_20, pZ_20, aL_21, io_22, gI_22, pI_22, pZ_22, aL_23, io_24, gI_24, pI_24, pZ_24, aL_25, io_26, gI_26, pI_26, pZ_26, io_27, gI_27, pI_27, pZ_27, aL_28, aL_29, aL_30, aL_31, aL_32, aL_33, io_34, gI_34, pI_34, pZ_34, aL_35, io_36, gI_36, pI_36, pZ_36, aL_37, io_38, gI_38, pI_38, pZ_38, aL_39, io_40, gI_40, pI_40, pZ_40, aL_41, io_42, gI_42, pI_42, pZ_42, aL_43, aL_44, aL_45, aL_46, aL_47, aL_48, aL_49, aL_50, aL_51, aL_52, aL_53, aL_54, aL_55, aL_56, aL_57, aL_58, gq_0_0, gq_0_1, gq_0_2, gq_0_3, gq_0_4, gq_0_5, gq_0_6, gq_0_7, gq_1_0, gq_1_1, gq_1_2, gq_1_3, gq_1_4, gq_1_5, gq_1_6, gq_1_7, gq_1_8, gq_1_9, gq_2_2, gq_4_2, gq_6_2, gq_9_2, gq_11_2, gq_13_2, gq_15_2, gq_17_0, gq_20_0, gq_22_0, gq_24_0, gq_27_0, gq_34_0, gq_36_0, gq_38_0, gq_40_0, gq_42_0, gq_42_1, gq_42_3, gq_42_4, gq_42_11, gq_42_12, gq_42_13, gq_42_15, gq_42_16, gq_42_17, gq_42_18, gq_42_19, gq_42_23, gq_42_24, gq_42_25, gq_42_26, aQ_29_0, aQ_29_1, aQ_29_2, aQ_29_3, aQ_19_0, aQ_19_1, aQ_19_2, aQ_46_0, aQ_46_1, aQ_46_2, gq_26, gr_26, gr_0_8, pQ_26, Option.bind_some, ↓reduceIte, one_ne0, h3, Int32.le_refl]) n 0 0 3000 (by omega) (by omega)
  simp only [nI_0] at this
  simp only [io_0, gI_0, pI_0, pZ_0, io_1, gI_1, pI_1, pZ_1, io_2, gI_2, pI_2, pZ_2, aL_3, io_4, gI_4, pI_4, pZ_4, aL_5, io_6, gI_6, pI_6, pZ_6, aL_7, aL_8, io_9, gI_9, pI_9, pZ_9, aL_10, io_11, gI_11, pI_11, pZ_11, aL_12, io_13, gI_13, pI_13, pZ_13, aL_14, io_15, gI_15, pI_15, pZ_15, aL_16, io_17, gI_17, pI_17, pZ_17, aL_18, aL_19, io_20, gI_20, pI_20, pZ_20, aL_21, io_22, gI_22, pI_22, pZ_22, aL_23, io_24, gI_24, pI_24, pZ_24, aL_25, io_26, gI_26, pI_26, pZ_26, io_27, gI_27, pI_27, pZ_27, aL_28, aL_29, aL_30, aL_31, aL_32, aL_33, io_34, gI_34, pI_34, pZ_34, aL_35, io_36, gI_36, pI_36, pZ_36, aL_37, io_38, gI_38, pI_38, pZ_38, aL_39, io_40, gI_40, pI_40, pZ_40, aL_41, io_42, gI_42, pI_42, pZ_42, aL_43, aL_44, aL_45, aL_46, aL_47, aL_48, aL_49, aL_50, aL_51, aL_52, aL_53, aL_54, aL_55, aL_56, aL_57, aL_58, gq_0_0, gq_0_1, gq_0_2, gq_0_3, gq_0_4, gq_0_5, gq_0_6, gq_0_7, gq_1_0, gq_1_1, gq_1_2, gq_1_3, gq_1_4, gq_1_5, gq_1_6, gq_1_7, gq_1_8, gq_1_9, gq_2_2, gq_4_2, gq_6_2, gq_9_2, gq_11_2, gq_13_2, gq_15_2, gq_17_0, gq_20_0, gq_22_0, gq_24_0, gq_27_0, gq_34_0, gq_36_0, gq_38_0, gq_40_0, gq_42_0, gq_42_1, gq_42_3, gq_42_4, gq_42_11, gq_42_12, gq_42_13, gq_42_15, gq_42_16, gq_42_17, gq_42_18, gq_42_19, gq_42_23, gq_42_24, gq_42_25, gq_42_26, aQ_29_0, aQ_29_1, aQ_29_2, aQ_29_3, aQ_19_0, aQ_19_1, aQ_19_2, aQ_46_0, aQ_46_1, aQ_46_2, gq_26, gr_26, gr_0_8, pQ_26, Option.bind_some, ↓reduceIte, one_ne0, this]
theorem shown7 {n nC s : Nat} (h1 : m 13 0 = nI 2) (h3 : m 13 3 = nI n) (hn : n ≤ 8) (h6 : ∀ k, k < 16 → m 14 k = m 43 (958 + k)) (hC : nC ≤ 24) (h : ruH m n nC) (hs : s < 2 ^ 31) : f_X7_shownBy (mkS m kp b) 0 (nI s) = some (nI (swN m n s)) := by
  unfold f_X7_shownBy swN
  have := loopU (fun f i (a : Nat) => f_X7_shownBy_L4 (mkS m kp b) 0 (nI s) f (nI i) (nI a)) (fun a => (nI n, nI a)) (swH m s) n (fun f i a hi => by
    show f_X7_shownBy_L4 (mkS m kp b) 0 (nI s) (f + 1) (nI i) (nI a) = _
    rw [f_X7_shownBy_L4]
    obtain ⟨-, x, hx, ex⟩ := h i hi
    have := Nat.pow_le_pow_right (n := 2) (by decide) hC
    have e : m 14 (i * 2 + 1) = nI x := by rw [h6 _ (by omega), ← ex]; congr 1; omega
    simp only [io_0, gI_0, pI_0, pZ_0, io_1, gI_1, pI_1, pZ_1, io_2, gI_2, pI_2, pZ_2, aL_3, io_4, gI_4, pI_4, pZ_4, aL_5, io_6, gI_6, pI_6, pZ_6, aL_7, aL_8, io_9, gI_9, pI_9, pZ_9, aL_10, io_11, gI_11, pI_11, pZ_11, aL_12, io_13, gI_13, pI_13, pZ_13, aL_14, io_15, gI_15, pI_15, pZ_15, aL_16, io_17, gI_17, pI_17, pZ_17, aL_18, aL_19, io_20, gI_20, pI_20, pZ_20, aL_21, io_22, gI_22, pI_22, pZ_22, aL_23, io_24, gI_24, pI_24, pZ_24, aL_25, io_26, gI_26, pI_26, pZ_26, io_27, gI_27, pI_27, pZ_27, aL_28, aL_29, aL_30, aL_31, aL_32, aL_33, io_34, gI_34, pI_34, pZ_34, aL_35, io_36, gI_36, pI_36, pZ_36, aL_37, io_38, gI_38, pI_38, pZ_38, aL_39, io_40, gI_40, pI_40, pZ_40, aL_41, io_42, gI_42, pI_42, pZ_42, aL_43, aL_44, aL_45, aL_46, aL_47, aL_48, aL_49, aL_50, aL_51, aL_52, aL_53, aL_54, aL_55, aL_56, aL_57, aL_58, gq_0_0, gq_0_1, gq_0_2, gq_0_3, gq_0_4, gq_0_5, gq_0_6, gq_0_7, gq_1_0, gq_1_1, gq_1_2, gq_1_3, gq_1_4, gq_1_5, gq_1_6, gq_1_7, gq_1_8, gq_1_9, gq_2_2, gq_4_2, gq_6_2, gq_9_2, gq_11_2, gq_13_2, gq_15_2, gq_17_0, gq_20_0, gq_22_0, gq_24_0, gq_27_0, gq_34_0, gq_36_0, gq_38_0, gq_40_0, gq_42_0, gq_42_1, gq_42_3, gq_42_4, gq_42_11, gq_42_12, gq_42_13, gq_42_15, gq_42_16, gq_42_17, gq_42_18, gq_42_19, gq_42_23, gq_42_24, gq_42_25, gq_42_26, aQ_29_0, aQ_29_1, aQ_29_2, aQ_29_3, aQ_19_0, aQ_19_1, aQ_19_2, aQ_46_0, aQ_46_1, aQ_46_2, gq_26, gr_26, gr_0_8, pQ_26, Option.bind_some, ↓reduceIte, one_ne0, h3, nle hi (show n < 2 ^ 31 by omega), at_13_1 h1 h3 hn hi, e, bit1 hs (show i < 32 by omega), nI_or, nI_a1]
    unfold swH
    rw [cN_of ex (by omega)]
    by_cases hb : s.testBit i = true
    · rw [if_pos hb, if_pos hb]
    · rw [if_neg hb, if_neg hb]) (fun f a => by
    show f_X7_shownBy_L4 (mkS m kp b) 0 (nI s) (f + 1) (nI n) (nI a) = _
    rw [f_X7_shownBy_L4]
    simp only [io_0, gI_0, pI_0, pZ_0, io_1, gI_1, pI_1, pZ_1, io_2, gI_2, pI_2, pZ_2, aL_3, io_4, gI_4, pI_4, pZ_4, aL_5, io_6, gI_6, pI_6, pZ_6, aL_7, aL_8, io_9, gI_9, pI_9, pZ_9, aL_10, io_11, gI_11, pI_11, pZ_11, aL_12, io_13, gI_13, pI_13, pZ_13, aL_14, io_15, gI_15, pI_15, pZ_15, aL_16, io_17, gI_17, pI_17, pZ_17, aL_18, aL_19, io_20, gI_20, pI_20, pZ_20, aL_21, io_22, gI_22, pI_22, pZ_22, aL_23, io_24, gI_24, pI_24, pZ_24, aL_25, io_26, gI_26, pI_26, pZ_26, io_27, gI_27, pI_27, pZ_27, aL_28, aL_29, aL_30, aL_31, aL_32, aL_33, io_34, gI_34, pI_34, pZ_34, aL_35, io_36, gI_36, pI_36, pZ_36, aL_37, io_38, gI_38, pI_38, pZ_38, aL_39, io_40, gI_40, pI_40, pZ_40, aL_41, io_42, gI_42, pI_42, pZ_42, aL_43, aL_44, aL_45, aL_46, aL_47, aL_48, aL_49, aL_50, aL_51, aL_52, aL_53, aL_54, aL_55, aL_56, aL_57, aL_58, gq_0_0, gq_0_1, gq_0_2, gq_0_3, gq_0_4, gq_0_5, gq_0_6, gq_0_7, gq_1_0, gq_1_1, gq_1_2, gq_1_3, gq_1_4, gq_1_5, gq_1_6, gq_1_7, gq_1_8, gq_1_9, gq_2_2, gq_4_2, gq_6_2, gq_9_2, gq_11_2, gq_13_2, gq_15_2, gq_17_0, gq_20_0, gq_22_0, gq_24_0, gq_27_0, gq_34_0, gq_36_0, gq_38_0, gq_40_0, gq_42_0, gq_42_1, gq_42_3, gq_42_4, gq_42_11, gq_42_12, gq_42_13, gq_42_15, gq_42_16, gq_42_17, gq_42_18, gq_42_19, gq_42_23, gq_42_24, gq_42_25, gq_42_26, aQ_29_0, aQ_29_1, aQ_29_2, aQ_29_3, aQ_19_0, aQ_19_1, aQ_19_2, aQ_46_0, aQ_46_1, aQ_46_2, gq_26, gr_26, gr_0_8, pQ_26, Option.bind_some, ↓reduceIte, one_ne0, h3, Int32.le_refl]) n 0 0 3000 (by omega) (by omega)
  simp only [nI_0] at this
  simp only [io_0, gI_0, pI_0, pZ_0, io_1, gI_1, pI_1, pZ_1, io_2, gI_2, pI_2, pZ_2, aL_3, io_4, gI_4, pI_4, pZ_4, aL_5, io_6, gI_6, pI_6, pZ_6, aL_7, aL_8, io_9, gI_9, pI_9, pZ_9, aL_10, io_11, gI_11, pI_11, pZ_11, aL_12, io_13, gI_13, pI_13, pZ_13, aL_14, io_15, gI_15, pI_15, pZ_15, aL_16, io_17, gI_17, pI_17, pZ_17, aL_18, aL_19, io_20, gI_20, pI_20, pZ_20, aL_21, io_22, gI_22, pI_22, pZ_22, aL_23, io_24, gI_24, pI_24, pZ_24, aL_25, io_26, gI_26, pI_26, pZ_26, io_27, gI_27, pI_27, pZ_27, aL_28, aL_29, aL_30, aL_31, aL_32, aL_33, io_34, gI_34, pI_34, pZ_34, aL_35, io_36, gI_36, pI_36, pZ_36, aL_37, io_38, gI_38, pI_38, pZ_38, aL_39, io_40, gI_40, pI_40, pZ_40, aL_41, io_42, gI_42, pI_42, pZ_42, aL_43, aL_44, aL_45, aL_46, aL_47, aL_48, aL_49, aL_50, aL_51, aL_52, aL_53, aL_54, aL_55, aL_56, aL_57, aL_58, gq_0_0, gq_0_1, gq_0_2, gq_0_3, gq_0_4, gq_0_5, gq_0_6, gq_0_7, gq_1_0, gq_1_1, gq_1_2, gq_1_3, gq_1_4, gq_1_5, gq_1_6, gq_1_7, gq_1_8, gq_1_9, gq_2_2, gq_4_2, gq_6_2, gq_9_2, gq_11_2, gq_13_2, gq_15_2, gq_17_0, gq_20_0, gq_22_0, gq_24_0, gq_27_0, gq_34_0, gq_36_0, gq_38_0, gq_40_0, gq_42_0, gq_42_1, gq_42_3, gq_42_4, gq_42_11, gq_42_12, gq_42_13, gq_42_15, gq_42_16, gq_42_17, gq_42_18, gq_42_19, gq_42_23, gq_42_24, gq_42_25, gq_42_26, aQ_29_0, aQ_29_1, aQ_29_2, aQ_29_3, aQ_19_0, aQ_19_1, aQ_19_2, aQ_46_0, aQ_46_1, aQ_46_2, gq_26, gr_26, gr_0_8, pQ_26, Option.bind_some, ↓reduceIte, one_ne0, this]
theorem ixR1 {p : Nat} : (((958 : Int32) + ((2 : Int32) * nI p)) + 1) = nI (958 + 2 * p + 1) := by rw [ixR0, nI_a1]
theorem ru65 {n nC s : Nat} (h3 : m 43 4 = nI n) (hn : n ≤ 8) (hC : nC ≤ 24) (h : ruH m n nC) (hs : s < 2 ^ 31) : f_X8_rules_L65 (mkS m kp b) (nI s) 42 3000 0 0 0 = some (nI n, nI (coN m n s), nI (swN m n s)) := by
  have := loopU (fun f i (a : Nat × Nat) => f_X8_rules_L65 (mkS m kp b) (nI s) 42 f (nI i) (nI a.1) (nI a.2)) (fun a => (nI n, nI a.1, nI a.2)) (fun i a => (coG m s i a.1, swH m s i a.2)) n (fun f i a hi => by
    show f_X8_rules_L65 (mkS m kp b) (nI s) 42 (f + 1) (nI i) (nI a.1) (nI a.2) = f_X8_rules_L65 (mkS m kp b) (nI s) 42 f (nI (i + 1)) (nI (coG m s i a.1)) (nI (swH m s i a.2))
    rw [f_X8_rules_L65]
    obtain ⟨⟨x, hx1, hx, ex⟩, y, hy, ey⟩ := h i hi
    have := Nat.pow_le_pow_right (n := 2) (by decide) hC
    simp only [io_0, gI_0, pI_0, pZ_0, io_1, gI_1, pI_1, pZ_1, io_2, gI_2, pI_2, pZ_2, aL_3, io_4, gI_4, pI_4, pZ_4, aL_5, io_6, gI_6, pI_6, pZ_6, aL_7, aL_8, io_9, gI_9, pI_9, pZ_9, aL_10, io_11, gI_11, pI_11, pZ_11, aL_12, io_13, gI_13, pI_13, pZ_13, aL_14, io_15, gI_15, pI_15, pZ_15, aL_16, io_17, gI_17, pI_17, pZ_17, aL_18, aL_19, io_20, gI_20, pI_20, pZ_20, aL_21, io_22, gI_22, pI_22, pZ_22, aL_23, io_24, gI_24, pI_24, pZ_24, aL_25, io_26, gI_26, pI_26, pZ_26, io_27, gI_27, pI_27, pZ_27, aL_28, aL_29, aL_30, aL_31, aL_32, aL_33, io_34, gI_34, pI_34, pZ_34, aL_35, io_36, gI_36, pI_36, pZ_36, aL_37, io_38, gI_38, pI_38, pZ_38, aL_39, io_40, gI_40, pI_40, pZ_40, aL_41, io_42, gI_42, pI_42, pZ_42, aL_43, aL_44, aL_45, aL_46, aL_47, aL_48, aL_49, aL_50, aL_51, aL_52, aL_53, aL_54, aL_55, aL_56, aL_57, aL_58, gq_0_0, gq_0_1, gq_0_2, gq_0_3, gq_0_4, gq_0_5, gq_0_6, gq_0_7, gq_1_0, gq_1_1, gq_1_2, gq_1_3, gq_1_4, gq_1_5, gq_1_6, gq_1_7, gq_1_8, gq_1_9, gq_2_2, gq_4_2, gq_6_2, gq_9_2, gq_11_2, gq_13_2, gq_15_2, gq_17_0, gq_20_0, gq_22_0, gq_24_0, gq_27_0, gq_34_0, gq_36_0, gq_38_0, gq_40_0, gq_42_0, gq_42_1, gq_42_3, gq_42_4, gq_42_11, gq_42_12, gq_42_13, gq_42_15, gq_42_16, gq_42_17, gq_42_18, gq_42_19, gq_42_23, gq_42_24, gq_42_25, gq_42_26, aQ_29_0, aQ_29_1, aQ_29_2, aQ_29_3, aQ_19_0, aQ_19_1, aQ_19_2, aQ_46_0, aQ_46_1, aQ_46_2, gq_26, gr_26, gr_0_8, pQ_26, Option.bind_some, ↓reduceIte, one_ne0, rdl_4, h3, nle hi (show n < 2 ^ 31 by omega), has_eq hs (show i < 32 by omega), bw0, ixR1, ixR0, rd_43 (show 958 + 2 * i < 1234 by omega), rd_43 (show 958 + 2 * i + 1 < 1234 by omega), ex, ey, nI_or, nI_add, nI_a1, Int32.add_zero, Int32.or_zero]
    unfold coG swH
    rw [cN_of ex (by omega), cN_of ey (by omega)]
    cases hb : s.testBit i <;> simp) (fun f a => by
    show f_X8_rules_L65 (mkS m kp b) (nI s) 42 (f + 1) (nI n) (nI a.1) (nI a.2) = _
    rw [f_X8_rules_L65]
    simp only [io_0, gI_0, pI_0, pZ_0, io_1, gI_1, pI_1, pZ_1, io_2, gI_2, pI_2, pZ_2, aL_3, io_4, gI_4, pI_4, pZ_4, aL_5, io_6, gI_6, pI_6, pZ_6, aL_7, aL_8, io_9, gI_9, pI_9, pZ_9, aL_10, io_11, gI_11, pI_11, pZ_11, aL_12, io_13, gI_13, pI_13, pZ_13, aL_14, io_15, gI_15, pI_15, pZ_15, aL_16, io_17, gI_17, pI_17, pZ_17, aL_18, aL_19, io_20, gI_20, pI_20, pZ_20, aL_21, io_22, gI_22, pI_22, pZ_22, aL_23, io_24, gI_24, pI_24, pZ_24, aL_25, io_26, gI_26, pI_26, pZ_26, io_27, gI_27, pI_27, pZ_27, aL_28, aL_29, aL_30, aL_31, aL_32, aL_33, io_34, gI_34, pI_34, pZ_34, aL_35, io_36, gI_36, pI_36, pZ_36, aL_37, io_38, gI_38, pI_38, pZ_38, aL_39, io_40, gI_40, pI_40, pZ_40, aL_41, io_42, gI_42, pI_42, pZ_42, aL_43, aL_44, aL_45, aL_46, aL_47, aL_48, aL_49, aL_50, aL_51, aL_52, aL_53, aL_54, aL_55, aL_56, aL_57, aL_58, gq_0_0, gq_0_1, gq_0_2, gq_0_3, gq_0_4, gq_0_5, gq_0_6, gq_0_7, gq_1_0, gq_1_1, gq_1_2, gq_1_3, gq_1_4, gq_1_5, gq_1_6, gq_1_7, gq_1_8, gq_1_9, gq_2_2, gq_4_2, gq_6_2, gq_9_2, gq_11_2, gq_13_2, gq_15_2, gq_17_0, gq_20_0, gq_22_0, gq_24_0, gq_27_0, gq_34_0, gq_36_0, gq_38_0, gq_40_0, gq_42_0, gq_42_1, gq_42_3, gq_42_4, gq_42_11, gq_42_12, gq_42_13, gq_42_15, gq_42_16, gq_42_17, gq_42_18, gq_42_19, gq_42_23, gq_42_24, gq_42_25, gq_42_26, aQ_29_0, aQ_29_1, aQ_29_2, aQ_29_3, aQ_19_0, aQ_19_1, aQ_19_2, aQ_46_0, aQ_46_1, aQ_46_2, gq_26, gr_26, gr_0_8, pQ_26, Option.bind_some, ↓reduceIte, one_ne0, rdl_4, h3, Int32.le_refl]) n 0 (0, 0) 3000 (by omega) (by omega)
  simp only [nI_0] at this
  rw [this]
  have hp : ∀ k i (a : Nat × Nat), it (fun i a => (coG m s i a.1, swH m s i a.2)) k i a = (it (coG m s) k i a.1, it (swH m s) k i a.2) := by
    intro k
    induction k with
    | zero => intro i a; rfl
    | succ k ih => intro i a; exact ih (i + 1) _
  rw [hp]
  rfl
def leS (m : Nat → Nat → Int32) (n s t : Nat) : Bool := decide (coN m n s < coN m n t) || (decide (coN m n s = coN m n t) && decide (pcN s < pcN t))
def ruG (m : Nat → Nat → Int32) (n x w : Nat) (s t : Nat) : Nat := if pcN (swN m n s &&& x) < w then t else if t = 0 then s else if leS m n s t = true then s else t
theorem ruG_lt {n x w : Nat} {s t K : Nat} (hs : s < K) (ht : t < K) : ruG m n x w s t < K := by
  unfold ruG
  repeat' split
  all_goals assumption
theorem les7 {n nC s t : Nat} (h1 : m 13 0 = nI 2) (h3 : m 13 3 = nI n) (hn : n ≤ 8) (h6 : ∀ k, k < 16 → m 14 k = m 43 (958 + k)) (hC : nC ≤ 24) (h : ruH m n nC) (hs : s < 2 ^ 24) (ht : t < 2 ^ 24) : f_X7_isLesser (mkS m kp b) 0 (nI s) (nI t) = some (if leS m n s t = true then 1 else 0) := by
  unfold f_X7_isLesser leS
  have c1 := coN_le (s := s) h
  have c2 := coN_le (s := t) h
  have b1 := pcN_le s
  have b2 := pcN_le t
  simp only [io_0, gI_0, pI_0, pZ_0, io_1, gI_1, pI_1, pZ_1, io_2, gI_2, pI_2, pZ_2, aL_3, io_4, gI_4, pI_4, pZ_4, aL_5, io_6, gI_6, pI_6, pZ_6, aL_7, aL_8, io_9, gI_9, pI_9, pZ_9, aL_10, io_11, gI_11, pI_11, pZ_11, aL_12, io_13, gI_13, pI_13, pZ_13, aL_14, io_15, gI_15, pI_15, pZ_15, aL_16, io_17, gI_17, pI_17, pZ_17, aL_18, aL_19, io_20, gI_20, pI_20, pZ_20, aL_21, io_22, gI_22, pI_22, pZ_22, aL_23, io_24, gI_24, pI_24, pZ_24, aL_25, io_26, gI_26, pI_26, pZ_26, io_27, gI_27, pI_27, pZ_27, aL_28, aL_29, aL_30, aL_31, aL_32, aL_33, io_34, gI_34, pI_34, pZ_34, aL_35, io_36, gI_36, pI_36, pZ_36, aL_37, io_38, gI_38, pI_38, pZ_38, aL_39, io_40, gI_40, pI_40, pZ_40, aL_41, io_42, gI_42, pI_42, pZ_42, aL_43, aL_44, aL_45, aL_46, aL_47, aL_48, aL_49, aL_50, aL_51, aL_52, aL_53, aL_54, aL_55, aL_56, aL_57, aL_58, gq_0_0, gq_0_1, gq_0_2, gq_0_3, gq_0_4, gq_0_5, gq_0_6, gq_0_7, gq_1_0, gq_1_1, gq_1_2, gq_1_3, gq_1_4, gq_1_5, gq_1_6, gq_1_7, gq_1_8, gq_1_9, gq_2_2, gq_4_2, gq_6_2, gq_9_2, gq_11_2, gq_13_2, gq_15_2, gq_17_0, gq_20_0, gq_22_0, gq_24_0, gq_27_0, gq_34_0, gq_36_0, gq_38_0, gq_40_0, gq_42_0, gq_42_1, gq_42_3, gq_42_4, gq_42_11, gq_42_12, gq_42_13, gq_42_15, gq_42_16, gq_42_17, gq_42_18, gq_42_19, gq_42_23, gq_42_24, gq_42_25, gq_42_26, aQ_29_0, aQ_29_1, aQ_29_2, aQ_29_3, aQ_19_0, aQ_19_1, aQ_19_2, aQ_46_0, aQ_46_1, aQ_46_2, gq_26, gr_26, gr_0_8, pQ_26, Option.bind_some, ↓reduceIte, one_ne0, cost7 h1 h3 hn h6 hC h (show s < 2 ^ 31 by omega), cost7 h1 h3 hn h6 hC h (show t < 2 ^ 31 by omega), bitc_eq hs, bitc_eq ht, z01, nI_leI (show pcN t < 2 ^ 31 by omega) (show pcN s < 2 ^ 31 by omega)]
  generalize coN m n s = x at *
  generalize coN m n t = y at *
  have e : (nI x - nI y).toInt = (x : Int) - y := pk_sub_toInt (by omega) (by omega)
  have e1 : (nI x - nI y < 0) ↔ x < y := by
    rw [Int32.lt_iff_toInt_lt, e, Int32.toInt_zero]; omega
  have e2 : (nI x - nI y = 0) ↔ x = y := by
    rw [← Int32.toInt_inj, e, Int32.toInt_zero]; omega
  by_cases q1 : x < y
  · rw [if_pos (e1.mpr q1)]; simp [q1]
  · rw [if_neg (fun q => q1 (e1.mp q))]
    by_cases q2 : x = y
    · rw [if_pos (e2.mpr q2)]
      by_cases q3 : pcN s < pcN t
      · simp [q2, q3, show ¬ pcN t ≤ pcN s by omega]
      · simp [q2, q3, show pcN t ≤ pcN s by omega]
    · rw [if_neg (fun q => q2 (e2.mp q))]; simp [q1, q2]
theorem rul7 {n nC x w : Nat} (h1 : m 13 0 = nI 2) (h3 : m 13 3 = nI n) (hn : n ≤ 8) (h6 : ∀ k, k < 16 → m 14 k = m 43 (958 + k)) (hC : nC ≤ 24) (h : ruH m n nC) (hx : x < 2 ^ nC) (hw : w ≤ 24) : f_X7_rules_L63 (mkS m kp b) (nI (2 ^ n)) 0 (nI x) (nI w) 3000 1 0 = some (nI (2 ^ n), nI (it (ruG m n x w) (2 ^ n - 1) 1 0)) := by
  have hp : 2 ^ n ≤ 2 ^ 8 := Nat.pow_le_pow_right (by decide) hn
  have hp0 := Nat.two_pow_pos n
  have hpC : 2 ^ nC ≤ 2 ^ 24 := Nat.pow_le_pow_right (by decide) hC
  have := (loopT (fun f i (a : Nat) => f_X7_rules_L63 (mkS m kp b) (nI (2 ^ n)) 0 (nI x) (nI w) f (nI i) (nI a)) (fun a => (nI (2 ^ n), nI a)) (ruG m n x w) (fun i a => a < 2 ^ n) (2 ^ n) (fun f i a hi hI => by
    refine ⟨?_, ruG_lt hi hI⟩
    show f_X7_rules_L63 (mkS m kp b) (nI (2 ^ n)) 0 (nI x) (nI w) (f + 1) (nI i) (nI a) = _
    rw [f_X7_rules_L63]
    have hB := bitc_eq (σ := mkS m kp b) (and24 (R := swN m n i) hx hC)
    have ea : (nI a = 0) = (a = 0) := propext (nI_eq (b := 0) (by omega) (by decide))
    simp only [io_0, gI_0, pI_0, pZ_0, io_1, gI_1, pI_1, pZ_1, io_2, gI_2, pI_2, pZ_2, aL_3, io_4, gI_4, pI_4, pZ_4, aL_5, io_6, gI_6, pI_6, pZ_6, aL_7, aL_8, io_9, gI_9, pI_9, pZ_9, aL_10, io_11, gI_11, pI_11, pZ_11, aL_12, io_13, gI_13, pI_13, pZ_13, aL_14, io_15, gI_15, pI_15, pZ_15, aL_16, io_17, gI_17, pI_17, pZ_17, aL_18, aL_19, io_20, gI_20, pI_20, pZ_20, aL_21, io_22, gI_22, pI_22, pZ_22, aL_23, io_24, gI_24, pI_24, pZ_24, aL_25, io_26, gI_26, pI_26, pZ_26, io_27, gI_27, pI_27, pZ_27, aL_28, aL_29, aL_30, aL_31, aL_32, aL_33, io_34, gI_34, pI_34, pZ_34, aL_35, io_36, gI_36, pI_36, pZ_36, aL_37, io_38, gI_38, pI_38, pZ_38, aL_39, io_40, gI_40, pI_40, pZ_40, aL_41, io_42, gI_42, pI_42, pZ_42, aL_43, aL_44, aL_45, aL_46, aL_47, aL_48, aL_49, aL_50, aL_51, aL_52, aL_53, aL_54, aL_55, aL_56, aL_57, aL_58, gq_0_0, gq_0_1, gq_0_2, gq_0_3, gq_0_4, gq_0_5, gq_0_6, gq_0_7, gq_1_0, gq_1_1, gq_1_2, gq_1_3, gq_1_4, gq_1_5, gq_1_6, gq_1_7, gq_1_8, gq_1_9, gq_2_2, gq_4_2, gq_6_2, gq_9_2, gq_11_2, gq_13_2, gq_15_2, gq_17_0, gq_20_0, gq_22_0, gq_24_0, gq_27_0, gq_34_0, gq_36_0, gq_38_0, gq_40_0, gq_42_0, gq_42_1, gq_42_3, gq_42_4, gq_42_11, gq_42_12, gq_42_13, gq_42_15, gq_42_16, gq_42_17, gq_42_18, gq_42_19, gq_42_23, gq_42_24, gq_42_25, gq_42_26, aQ_29_0, aQ_29_1, aQ_29_2, aQ_29_3, aQ_19_0, aQ_19_1, aQ_19_2, aQ_46_0, aQ_46_1, aQ_46_2, gq_26, gr_26, gr_0_8, pQ_26, Option.bind_some, ↓reduceIte, one_ne0, nle hi (show 2 ^ n < 2 ^ 31 by omega)]
    rw [shown7 h1 h3 hn h6 hC h (show i < 2 ^ 31 by omega), Option.bind_some, nx_and, hB, Option.bind_some]
    simp only [io_0, gI_0, pI_0, pZ_0, io_1, gI_1, pI_1, pZ_1, io_2, gI_2, pI_2, pZ_2, aL_3, io_4, gI_4, pI_4, pZ_4, aL_5, io_6, gI_6, pI_6, pZ_6, aL_7, aL_8, io_9, gI_9, pI_9, pZ_9, aL_10, io_11, gI_11, pI_11, pZ_11, aL_12, io_13, gI_13, pI_13, pZ_13, aL_14, io_15, gI_15, pI_15, pZ_15, aL_16, io_17, gI_17, pI_17, pZ_17, aL_18, aL_19, io_20, gI_20, pI_20, pZ_20, aL_21, io_22, gI_22, pI_22, pZ_22, aL_23, io_24, gI_24, pI_24, pZ_24, aL_25, io_26, gI_26, pI_26, pZ_26, io_27, gI_27, pI_27, pZ_27, aL_28, aL_29, aL_30, aL_31, aL_32, aL_33, io_34, gI_34, pI_34, pZ_34, aL_35, io_36, gI_36, pI_36, pZ_36, aL_37, io_38, gI_38, pI_38, pZ_38, aL_39, io_40, gI_40, pI_40, pZ_40, aL_41, io_42, gI_42, pI_42, pZ_42, aL_43, aL_44, aL_45, aL_46, aL_47, aL_48, aL_49, aL_50, aL_51, aL_52, aL_53, aL_54, aL_55, aL_56, aL_57, aL_58, gq_0_0, gq_0_1, gq_0_2, gq_0_3, gq_0_4, gq_0_5, gq_0_6, gq_0_7, gq_1_0, gq_1_1, gq_1_2, gq_1_3, gq_1_4, gq_1_5, gq_1_6, gq_1_7, gq_1_8, gq_1_9, gq_2_2, gq_4_2, gq_6_2, gq_9_2, gq_11_2, gq_13_2, gq_15_2, gq_17_0, gq_20_0, gq_22_0, gq_24_0, gq_27_0, gq_34_0, gq_36_0, gq_38_0, gq_40_0, gq_42_0, gq_42_1, gq_42_3, gq_42_4, gq_42_11, gq_42_12, gq_42_13, gq_42_15, gq_42_16, gq_42_17, gq_42_18, gq_42_19, gq_42_23, gq_42_24, gq_42_25, gq_42_26, aQ_29_0, aQ_29_1, aQ_29_2, aQ_29_3, aQ_19_0, aQ_19_1, aQ_19_2, aQ_46_0, aQ_46_1, aQ_46_2, gq_26, gr_26, gr_0_8, pQ_26, Option.bind_some, ↓reduceIte, one_ne0, nI_ltI (pcN31 (swN m n i &&& x)) (show w < 2 ^ 31 by omega), ea, les7 h1 h3 hn h6 hC h (show i < 2 ^ 24 by omega) (show a < 2 ^ 24 by omega), nI_a1]
    unfold ruG
    by_cases q1 : pcN (swN m n i &&& x) < w
    · rw [if_pos q1, if_pos q1]
    · rw [if_neg q1, if_neg q1]
      by_cases q2 : a = 0
      · rw [if_pos q2, if_pos q2]
      · rw [if_neg q2, if_neg q2]
        cases leS m n i a <;> simp) (fun f a hI => by
    show f_X7_rules_L63 (mkS m kp b) (nI (2 ^ n)) 0 (nI x) (nI w) (f + 1) (nI (2 ^ n)) (nI a) = _
    rw [f_X7_rules_L63, if_pos (Int32.le_refl _)]) (2 ^ n - 1) 1 0 3000 (by omega) (by omega) hp0).1
  exact this
def ruE (m : Nat → Nat → Int32) (n t : Nat) : Int32 × Int32 := if t = 0 then (0, -1) else (nI (coN m n t), nI t)
theorem ruG_0 {n x w t : Nat} (hw : 1 ≤ w) : ruG m n x w 0 t = t := by
  have hz : ∀ k i, it (swH m 0) k i 0 = 0 := by
    intro k
    induction k with
    | zero => intro i; rfl
    | succ k ih =>
      intro i
      show it (swH m 0) k (i + 1) (swH m 0 i 0) = 0
      rw [show swH m 0 i 0 = 0 by unfold swH; simp]
      exact ih (i + 1)
  unfold ruG swN
  rw [hz, Nat.zero_and, if_pos (show pcN 0 < w by have : pcN 0 = 0 := by decide
                                                  omega)]
theorem rul8 {n nC x w : Nat} (h3 : m 43 4 = nI n) (hn : n ≤ 8) (hC : nC ≤ 24) (h : ruH m n nC) (hx : x < 2 ^ nC) (hw1 : 1 ≤ w) (hw : w ≤ 24) : f_X8_rules_L43 (mkS m kp b) 42 (nI x) (nI w) 3000 0 0 (-1) = some (nI (2 ^ n), (ruE m n (it (ruG m n x w) (2 ^ n - 1) 1 0)).1, (ruE m n (it (ruG m n x w) (2 ^ n - 1) 1 0)).2) := by
  have hp : 2 ^ n ≤ 2 ^ 8 := Nat.pow_le_pow_right (by decide) hn
  have hp0 := Nat.two_pow_pos n
  have hpC : 2 ^ nC ≤ 2 ^ 24 := Nat.pow_le_pow_right (by decide) hC
  have := (loopT (fun f i (a : Nat) => f_X8_rules_L43 (mkS m kp b) 42 (nI x) (nI w) f (nI i) (ruE m n a).1 (ruE m n a).2) (fun a => (nI (2 ^ n), (ruE m n a).1, (ruE m n a).2)) (ruG m n x w) (fun i a => a < 2 ^ n) (2 ^ n) (fun f i a hi hI => by
    refine ⟨?_, ruG_lt hi hI⟩
    show f_X8_rules_L43 (mkS m kp b) 42 (nI x) (nI w) (f + 1) (nI i) (ruE m n a).1 (ruE m n a).2 = f_X8_rules_L43 (mkS m kp b) 42 (nI x) (nI w) f (nI (i + 1)) (ruE m n (ruG m n x w i a)).1 (ruE m n (ruG m n x w i a)).2
    rw [f_X8_rules_L43]
    have hB := bits_eq (σ := mkS m kp b) (and24 (R := swN m n i) hx hC)
    have b1 := pcN_le i
    have b2 := pcN_le a
    have c1 := coN_le (s := i) h
    have c2 := coN_le (s := a) h
    simp only [io_0, gI_0, pI_0, pZ_0, io_1, gI_1, pI_1, pZ_1, io_2, gI_2, pI_2, pZ_2, aL_3, io_4, gI_4, pI_4, pZ_4, aL_5, io_6, gI_6, pI_6, pZ_6, aL_7, aL_8, io_9, gI_9, pI_9, pZ_9, aL_10, io_11, gI_11, pI_11, pZ_11, aL_12, io_13, gI_13, pI_13, pZ_13, aL_14, io_15, gI_15, pI_15, pZ_15, aL_16, io_17, gI_17, pI_17, pZ_17, aL_18, aL_19, io_20, gI_20, pI_20, pZ_20, aL_21, io_22, gI_22, pI_22, pZ_22, aL_23, io_24, gI_24, pI_24, pZ_24, aL_25, io_26, gI_26, pI_26, pZ_26, io_27, gI_27, pI_27, pZ_27, aL_28, aL_29, aL_30, aL_31, aL_32, aL_33, io_34, gI_34, pI_34, pZ_34, aL_35, io_36, gI_36, pI_36, pZ_36, aL_37, io_38, gI_38, pI_38, pZ_38, aL_39, io_40, gI_40, pI_40, pZ_40, aL_41, io_42, gI_42, pI_42, pZ_42, aL_43, aL_44, aL_45, aL_46, aL_47, aL_48, aL_49, aL_50, aL_51, aL_52, aL_53, aL_54, aL_55, aL_56, aL_57, aL_58, gq_0_0, gq_0_1, gq_0_2, gq_0_3, gq_0_4, gq_0_5, gq_0_6, gq_0_7, gq_1_0, gq_1_1, gq_1_2, gq_1_3, gq_1_4, gq_1_5, gq_1_6, gq_1_7, gq_1_8, gq_1_9, gq_2_2, gq_4_2, gq_6_2, gq_9_2, gq_11_2, gq_13_2, gq_15_2, gq_17_0, gq_20_0, gq_22_0, gq_24_0, gq_27_0, gq_34_0, gq_36_0, gq_38_0, gq_40_0, gq_42_0, gq_42_1, gq_42_3, gq_42_4, gq_42_11, gq_42_12, gq_42_13, gq_42_15, gq_42_16, gq_42_17, gq_42_18, gq_42_19, gq_42_23, gq_42_24, gq_42_25, gq_42_26, aQ_29_0, aQ_29_1, aQ_29_2, aQ_29_3, aQ_19_0, aQ_19_1, aQ_19_2, aQ_46_0, aQ_46_1, aQ_46_2, gq_26, gr_26, gr_0_8, pQ_26, Option.bind_some, ↓reduceIte, one_ne0, rdl_4, h3, shl1 n (by omega), nle hi (show 2 ^ n < 2 ^ 31 by omega)]
    rw [ru65 h3 hn hC h (show i < 2 ^ 31 by omega), Option.bind_some]
    dsimp only
    rw [nx_and, hB, Option.bind_some]
    simp only [nI_ltI (pcN31 (swN m n i &&& x)) (show w < 2 ^ 31 by omega), nI_a1]
    by_cases q1 : pcN (swN m n i &&& x) < w
    · have e : ruG m n x w i a = a := by unfold ruG; rw [if_pos q1]
      rw [if_pos q1, e]
    · have hi0 : i ≠ 0 := fun q => by
        subst q
        have := ruG_0 (m := m) (n := n) (x := x) (t := 1) hw1
        unfold ruG at this
        rw [if_neg q1] at this
        simp only [Nat.succ_ne_zero, if_false] at this
        have hz2 := ruG_0 (m := m) (n := n) (x := x) (t := 0) hw1
        have hq : pcN (swN m n 0 &&& x) < w := by
          have hz : ∀ k i, it (swH m 0) k i 0 = 0 := by
            intro k
            induction k with
            | zero => intro i; rfl
            | succ k ih =>
              intro i
              show it (swH m 0) k (i + 1) (swH m 0 i 0) = 0
              rw [show swH m 0 i 0 = 0 by unfold swH; simp]
              exact ih (i + 1)
          unfold swN
          rw [hz, Nat.zero_and]
          have : pcN 0 = 0 := by decide
          omega
        exact q1 hq
      rw [if_neg q1]
      have ei : ruE m n i = (nI (coN m n i), nI i) := if_neg hi0
      by_cases q2 : a = 0
      · have e : ruG m n x w i a = i := by unfold ruG; rw [if_neg q1, if_pos q2]
        have ea : ruE m n a = (0, -1) := if_pos q2
        rw [e, ea, ei]
        rfl
      · have ea : ruE m n a = (nI (coN m n a), nI a) := if_neg q2
        rw [ea]
        show (if nI a < 0 then _ else if nI (coN m n i) < nI (coN m n a) then _ else _) = _
        rw [if_neg (nI_pos (by omega))]
        have e : ruG m n x w i a = if leS m n i a = true then i else a := by unfold ruG; rw [if_neg q1, if_neg q2]
        rw [e]
        unfold leS
        by_cases q3 : coN m n i < coN m n a
        · rw [if_pos (nI_lt q3 (by omega))]
          simp only [decide_eq_true q3, Bool.true_or, if_true, ei]
        · rw [if_neg (nI_nlt (by omega) (by omega))]
          by_cases q4 : coN m n i = coN m n a
          · rw [if_pos (show nI (coN m n i) = nI (coN m n a) by rw [q4])]
            rw [bits_eq (show i < 2 ^ 24 by omega), Option.bind_some, bits_eq (show a < 2 ^ 24 by omega), Option.bind_some]
            simp only [nI_leI (pcN31 a) (pcN31 i)]
            by_cases q5 : pcN i < pcN a
            · simp only [decide_eq_false q3, decide_eq_true q4, decide_eq_true q5, Bool.false_or, Bool.true_and, if_true, ei, if_neg (show ¬ pcN a ≤ pcN i by omega)]
            · simp only [decide_eq_false q3, decide_eq_true q4, decide_eq_false q5, Bool.false_or, Bool.true_and, Bool.false_eq_true, if_false, ea, if_pos (show pcN a ≤ pcN i by omega)]
          · rw [if_neg (fun q => q4 ((nI_eq (by omega) (by omega)).mp q))]
            simp only [decide_eq_false q3, decide_eq_false q4, Bool.false_or, Bool.false_and, Bool.false_eq_true, if_false, ea]) (fun f a hI => by
    show f_X8_rules_L43 (mkS m kp b) 42 (nI x) (nI w) (f + 1) (nI (2 ^ n)) (ruE m n a).1 (ruE m n a).2 = _
    rw [f_X8_rules_L43]
    simp only [io_0, gI_0, pI_0, pZ_0, io_1, gI_1, pI_1, pZ_1, io_2, gI_2, pI_2, pZ_2, aL_3, io_4, gI_4, pI_4, pZ_4, aL_5, io_6, gI_6, pI_6, pZ_6, aL_7, aL_8, io_9, gI_9, pI_9, pZ_9, aL_10, io_11, gI_11, pI_11, pZ_11, aL_12, io_13, gI_13, pI_13, pZ_13, aL_14, io_15, gI_15, pI_15, pZ_15, aL_16, io_17, gI_17, pI_17, pZ_17, aL_18, aL_19, io_20, gI_20, pI_20, pZ_20, aL_21, io_22, gI_22, pI_22, pZ_22, aL_23, io_24, gI_24, pI_24, pZ_24, aL_25, io_26, gI_26, pI_26, pZ_26, io_27, gI_27, pI_27, pZ_27, aL_28, aL_29, aL_30, aL_31, aL_32, aL_33, io_34, gI_34, pI_34, pZ_34, aL_35, io_36, gI_36, pI_36, pZ_36, aL_37, io_38, gI_38, pI_38, pZ_38, aL_39, io_40, gI_40, pI_40, pZ_40, aL_41, io_42, gI_42, pI_42, pZ_42, aL_43, aL_44, aL_45, aL_46, aL_47, aL_48, aL_49, aL_50, aL_51, aL_52, aL_53, aL_54, aL_55, aL_56, aL_57, aL_58, gq_0_0, gq_0_1, gq_0_2, gq_0_3, gq_0_4, gq_0_5, gq_0_6, gq_0_7, gq_1_0, gq_1_1, gq_1_2, gq_1_3, gq_1_4, gq_1_5, gq_1_6, gq_1_7, gq_1_8, gq_1_9, gq_2_2, gq_4_2, gq_6_2, gq_9_2, gq_11_2, gq_13_2, gq_15_2, gq_17_0, gq_20_0, gq_22_0, gq_24_0, gq_27_0, gq_34_0, gq_36_0, gq_38_0, gq_40_0, gq_42_0, gq_42_1, gq_42_3, gq_42_4, gq_42_11, gq_42_12, gq_42_13, gq_42_15, gq_42_16, gq_42_17, gq_42_18, gq_42_19, gq_42_23, gq_42_24, gq_42_25, gq_42_26, aQ_29_0, aQ_29_1, aQ_29_2, aQ_29_3, aQ_19_0, aQ_19_1, aQ_19_2, aQ_46_0, aQ_46_1, aQ_46_2, gq_26, gr_26, gr_0_8, pQ_26, Option.bind_some, ↓reduceIte, one_ne0, rdl_4, h3, shl1 n (by omega), Int32.le_refl]) (2 ^ n) 0 0 3000 (by omega) (by omega) hp0).1
  have e1 : it (ruG m n x w) (2 ^ n) 0 0 = it (ruG m n x w) (2 ^ n - 1) 1 0 := by
    obtain ⟨K, hK⟩ : ∃ K, 2 ^ n = K + 1 := ⟨2 ^ n - 1, by omega⟩
    rw [hK]
    show it (ruG m n x w) K 1 (ruG m n x w 0 0) = _
    rw [ruG_0 hw1]
    rfl
  rw [e1] at this
  exact this
theorem op_rules (a v w : Int32) : OpR (fun σ => f_X7_rules σ 0 a v w) (fun σ => f_X8_rules σ 42 a v w) := by
  intro m kp b z hR
  obtain ⟨⟨c, hS⟩, -⟩ := id hR
  obtain ⟨c1, c2, c3, c4, c5, c6, c6b, c7⟩ := id hS.2.2.2.1
  obtain ⟨u1, u2, u3, u4, u5, u6, u7⟩ := id hS.2.2.2.2.2.2.1
  have e6 : m 6 3 = nI (c 1) := c3
  have e13 : m 13 3 = nI (c 4) := u3
  have hp2 := pow_le30 (show c 1 < 31 by omega)
  by_cases ha : 0 ≤ a ∧ a < nI (2 ^ c 1)
  · by_cases hv : 1 ≤ v ∧ v ≤ 24
    · by_cases hw : 0 ≤ w ∧ w ≤ 1
      · obtain ⟨x, hx, rfl⟩ := ex_nI (n := 2 ^ c 1) (by omega) ha
        obtain ⟨k, hk1, hk, rfl⟩ := ex_rng (lo := 1) (hi := 24) (by decide) hv (by decide)
        have hH : ruH m (c 4) (c 1) := u7
        have h7 := rul7 (kp := kp) (b := b) u1 u3 u5 u6 c5 hH hx hk
        obtain ⟨t, et⟩ : ∃ t, t = it (ruG m (c 4) x k) (2 ^ c 4 - 1) 1 0 := ⟨_, rfl⟩
        have ht : t < 2 ^ c 4 := by
          have h1 : 1 + (2 ^ c 4 - 1) = 2 ^ c 4 := by have := Nat.two_pow_pos (c 4); omega
          rw [et]
          exact it_inv (g := ruG m (c 4) x k) (fun i a => a < 2 ^ c 4) (2 ^ c 4 - 1) 1 0 (Nat.two_pow_pos _) (fun j a _ h2 h3 => ruG_lt (by omega) h3)
        have hp8 : 2 ^ c 4 ≤ 2 ^ 8 := Nat.pow_le_pow_right (by decide) u5
        rw [← et] at h7
        by_cases t0 : t = 0
        · have h8 : ∀ k' v', f_X8_rules_L43 (mkS (st1 m 30 k' v') kp b) 42 (nI x) (nI k) 3000 0 0 (-1) = some (nI (2 ^ c 4), 0, -1) := fun k' v' => by
            have hM : (st1 m 30 k' v') 43 = m 43 := st1_ne (by decide)
            have hcn : cN43 (st1 m 30 k' v') = cN43 m := by funext q; unfold cN43; rw [hM]
            have hru : ruG (st1 m 30 k' v') (c 4) x k = ruG m (c 4) x k := by
              funext s t
              unfold ruG leS coN swN
              have q1 : ∀ s, coG (st1 m 30 k' v') s = coG m s := fun s => by funext i a; unfold coG; rw [hcn]
              have q2 : ∀ s, swH (st1 m 30 k' v') s = swH m s := fun s => by funext i a; unfold swH; rw [hcn]
              rw [q1, q1, q2]
            have := rul8 (m := st1 m 30 k' v') (kp := kp) (b := b) (e43 u4) u5 c5 (fun q hq => by rw [hM]; exact hH q hq) hx hk1 hk
            rw [hru, ← et, t0] at this
            exact this
          have e0 : nI t = 0 := by rw [t0]; rfl
          have hm1 : ¬ (0 : Int32) ≤ -1 := by decide
          refine op_err1 (k := 2) (e := -1000002) (by decide) hR ?_ ?_
          · show f_X7_rules (mkS m kp b) 0 (nI x) (nI k) w = _
            unfold f_X7_rules
            simp only [io_0, gI_0, pI_0, pZ_0, io_1, gI_1, pI_1, pZ_1, io_2, gI_2, pI_2, pZ_2, aL_3, io_4, gI_4, pI_4, pZ_4, aL_5, io_6, gI_6, pI_6, pZ_6, aL_7, aL_8, io_9, gI_9, pI_9, pZ_9, aL_10, io_11, gI_11, pI_11, pZ_11, aL_12, io_13, gI_13, pI_13, pZ_13, aL_14, io_15, gI_15, pI_15, pZ_15, aL_16, io_17, gI_17, pI_17, pZ_17, aL_18, aL_19, io_20, gI_20, pI_20, pZ_20, aL_21, io_22, gI_22, pI_22, pZ_22, aL_23, io_24, gI_24, pI_24, pZ_24, aL_25, io_26, gI_26, pI_26, pZ_26, io_27, gI_27, pI_27, pZ_27, aL_28, aL_29, aL_30, aL_31, aL_32, aL_33, io_34, gI_34, pI_34, pZ_34, aL_35, io_36, gI_36, pI_36, pZ_36, aL_37, io_38, gI_38, pI_38, pZ_38, aL_39, io_40, gI_40, pI_40, pZ_40, aL_41, io_42, gI_42, pI_42, pZ_42, aL_43, aL_44, aL_45, aL_46, aL_47, aL_48, aL_49, aL_50, aL_51, aL_52, aL_53, aL_54, aL_55, aL_56, aL_57, aL_58, gq_0_0, gq_0_1, gq_0_2, gq_0_3, gq_0_4, gq_0_5, gq_0_6, gq_0_7, gq_1_0, gq_1_1, gq_1_2, gq_1_3, gq_1_4, gq_1_5, gq_1_6, gq_1_7, gq_1_8, gq_1_9, gq_2_2, gq_4_2, gq_6_2, gq_9_2, gq_11_2, gq_13_2, gq_15_2, gq_17_0, gq_20_0, gq_22_0, gq_24_0, gq_27_0, gq_34_0, gq_36_0, gq_38_0, gq_40_0, gq_42_0, gq_42_1, gq_42_3, gq_42_4, gq_42_11, gq_42_12, gq_42_13, gq_42_15, gq_42_16, gq_42_17, gq_42_18, gq_42_19, gq_42_23, gq_42_24, gq_42_25, gq_42_26, aQ_29_0, aQ_29_1, aQ_29_2, aQ_29_3, aQ_19_0, aQ_19_1, aQ_19_2, aQ_46_0, aQ_46_1, aQ_46_2, gq_26, gr_26, gr_0_8, pQ_26, Option.bind_some, ↓reduceIte, one_ne0, e6, among_eq (show c 1 < 31 by omega), if_pos ha, outside_eq, if_pos hv, if_pos hw, e13, shl1 (c 4) (show c 4 < 31 by omega), h7, if_pos e0, fails_2]
            try simp
          · show f_X8_rules (mkS _ kp b) 42 (nI x) (nI k) w = _
            unfold f_X8_rules
            simp only [io_0, gI_0, pI_0, pZ_0, io_1, gI_1, pI_1, pZ_1, io_2, gI_2, pI_2, pZ_2, aL_3, io_4, gI_4, pI_4, pZ_4, aL_5, io_6, gI_6, pI_6, pZ_6, aL_7, aL_8, io_9, gI_9, pI_9, pZ_9, aL_10, io_11, gI_11, pI_11, pZ_11, aL_12, io_13, gI_13, pI_13, pZ_13, aL_14, io_15, gI_15, pI_15, pZ_15, aL_16, io_17, gI_17, pI_17, pZ_17, aL_18, aL_19, io_20, gI_20, pI_20, pZ_20, aL_21, io_22, gI_22, pI_22, pZ_22, aL_23, io_24, gI_24, pI_24, pZ_24, aL_25, io_26, gI_26, pI_26, pZ_26, io_27, gI_27, pI_27, pZ_27, aL_28, aL_29, aL_30, aL_31, aL_32, aL_33, io_34, gI_34, pI_34, pZ_34, aL_35, io_36, gI_36, pI_36, pZ_36, aL_37, io_38, gI_38, pI_38, pZ_38, aL_39, io_40, gI_40, pI_40, pZ_40, aL_41, io_42, gI_42, pI_42, pZ_42, aL_43, aL_44, aL_45, aL_46, aL_47, aL_48, aL_49, aL_50, aL_51, aL_52, aL_53, aL_54, aL_55, aL_56, aL_57, aL_58, gq_0_0, gq_0_1, gq_0_2, gq_0_3, gq_0_4, gq_0_5, gq_0_6, gq_0_7, gq_1_0, gq_1_1, gq_1_2, gq_1_3, gq_1_4, gq_1_5, gq_1_6, gq_1_7, gq_1_8, gq_1_9, gq_2_2, gq_4_2, gq_6_2, gq_9_2, gq_11_2, gq_13_2, gq_15_2, gq_17_0, gq_20_0, gq_22_0, gq_24_0, gq_27_0, gq_34_0, gq_36_0, gq_38_0, gq_40_0, gq_42_0, gq_42_1, gq_42_3, gq_42_4, gq_42_11, gq_42_12, gq_42_13, gq_42_15, gq_42_16, gq_42_17, gq_42_18, gq_42_19, gq_42_23, gq_42_24, gq_42_25, gq_42_26, aQ_29_0, aQ_29_1, aQ_29_2, aQ_29_3, aQ_19_0, aQ_19_1, aQ_19_2, aQ_46_0, aQ_46_1, aQ_46_2, gq_26, gr_26, gr_0_8, pQ_26, Option.bind_some, ↓reduceIte, one_ne0, areC_eq (e43 c4) (show c 1 < 31 by omega), if_pos ha, within_eq, if_pos hv, if_pos hw, h8, if_neg hm1, finds_2]
            try simp
        · have h8 := rul8 (kp := kp) (b := b) u4 u5 c5 hH hx hk1 hk
          rw [← et, show ruE m (c 4) t = (nI (coN m (c 4) t), nI t) from if_neg t0] at h8
          have h8' : f_X8_rules_L43 (mkS m kp b) 42 (nI x) (nI k) 3000 0 0 (-1) = some (nI (2 ^ c 4), nI (coN m (c 4) t), nI t) := h8
          have e0 : ¬ nI t = 0 := fun q => t0 ((nI_eq (b := 0) (by omega) (by decide)).mp q)
          have e1 : 0 ≤ nI t := nI_pos' (by omega)
          refine ⟨if w = 0 then nI (coN m (c 4) t) else nI t, m, kp, b, m, ?_, ?_, hR.up⟩
          · show f_X7_rules (mkS m kp b) 0 (nI x) (nI k) w = _
            unfold f_X7_rules
            simp only [io_0, gI_0, pI_0, pZ_0, io_1, gI_1, pI_1, pZ_1, io_2, gI_2, pI_2, pZ_2, aL_3, io_4, gI_4, pI_4, pZ_4, aL_5, io_6, gI_6, pI_6, pZ_6, aL_7, aL_8, io_9, gI_9, pI_9, pZ_9, aL_10, io_11, gI_11, pI_11, pZ_11, aL_12, io_13, gI_13, pI_13, pZ_13, aL_14, io_15, gI_15, pI_15, pZ_15, aL_16, io_17, gI_17, pI_17, pZ_17, aL_18, aL_19, io_20, gI_20, pI_20, pZ_20, aL_21, io_22, gI_22, pI_22, pZ_22, aL_23, io_24, gI_24, pI_24, pZ_24, aL_25, io_26, gI_26, pI_26, pZ_26, io_27, gI_27, pI_27, pZ_27, aL_28, aL_29, aL_30, aL_31, aL_32, aL_33, io_34, gI_34, pI_34, pZ_34, aL_35, io_36, gI_36, pI_36, pZ_36, aL_37, io_38, gI_38, pI_38, pZ_38, aL_39, io_40, gI_40, pI_40, pZ_40, aL_41, io_42, gI_42, pI_42, pZ_42, aL_43, aL_44, aL_45, aL_46, aL_47, aL_48, aL_49, aL_50, aL_51, aL_52, aL_53, aL_54, aL_55, aL_56, aL_57, aL_58, gq_0_0, gq_0_1, gq_0_2, gq_0_3, gq_0_4, gq_0_5, gq_0_6, gq_0_7, gq_1_0, gq_1_1, gq_1_2, gq_1_3, gq_1_4, gq_1_5, gq_1_6, gq_1_7, gq_1_8, gq_1_9, gq_2_2, gq_4_2, gq_6_2, gq_9_2, gq_11_2, gq_13_2, gq_15_2, gq_17_0, gq_20_0, gq_22_0, gq_24_0, gq_27_0, gq_34_0, gq_36_0, gq_38_0, gq_40_0, gq_42_0, gq_42_1, gq_42_3, gq_42_4, gq_42_11, gq_42_12, gq_42_13, gq_42_15, gq_42_16, gq_42_17, gq_42_18, gq_42_19, gq_42_23, gq_42_24, gq_42_25, gq_42_26, aQ_29_0, aQ_29_1, aQ_29_2, aQ_29_3, aQ_19_0, aQ_19_1, aQ_19_2, aQ_46_0, aQ_46_1, aQ_46_2, gq_26, gr_26, gr_0_8, pQ_26, Option.bind_some, ↓reduceIte, one_ne0, e6, among_eq (show c 1 < 31 by omega), if_pos ha, outside_eq, if_pos hv, if_pos hw, e13, shl1 (c 4) (show c 4 < 31 by omega), h7, if_neg e0, cost7 u1 u3 u5 u6 c5 hH (show t < 2 ^ 31 by omega)]
            by_cases w0 : w = 0
            · rw [if_pos w0, if_pos w0]
            · rw [if_neg w0, if_neg w0]
          · show f_X8_rules (mkS m kp b) 42 (nI x) (nI k) w = _
            unfold f_X8_rules
            simp only [io_0, gI_0, pI_0, pZ_0, io_1, gI_1, pI_1, pZ_1, io_2, gI_2, pI_2, pZ_2, aL_3, io_4, gI_4, pI_4, pZ_4, aL_5, io_6, gI_6, pI_6, pZ_6, aL_7, aL_8, io_9, gI_9, pI_9, pZ_9, aL_10, io_11, gI_11, pI_11, pZ_11, aL_12, io_13, gI_13, pI_13, pZ_13, aL_14, io_15, gI_15, pI_15, pZ_15, aL_16, io_17, gI_17, pI_17, pZ_17, aL_18, aL_19, io_20, gI_20, pI_20, pZ_20, aL_21, io_22, gI_22, pI_22, pZ_22, aL_23, io_24, gI_24, pI_24, pZ_24, aL_25, io_26, gI_26, pI_26, pZ_26, io_27, gI_27, pI_27, pZ_27, aL_28, aL_29, aL_30, aL_31, aL_32, aL_33, io_34, gI_34, pI_34, pZ_34, aL_35, io_36, gI_36, pI_36, pZ_36, aL_37, io_38, gI_38, pI_38, pZ_38, aL_39, io_40, gI_40, pI_40, pZ_40, aL_41, io_42, gI_42, pI_42, pZ_42, aL_43, aL_44, aL_45, aL_46, aL_47, aL_48, aL_49, aL_50, aL_51, aL_52, aL_53, aL_54, aL_55, aL_56, aL_57, aL_58, gq_0_0, gq_0_1, gq_0_2, gq_0_3, gq_0_4, gq_0_5, gq_0_6, gq_0_7, gq_1_0, gq_1_1, gq_1_2, gq_1_3, gq_1_4, gq_1_5, gq_1_6, gq_1_7, gq_1_8, gq_1_9, gq_2_2, gq_4_2, gq_6_2, gq_9_2, gq_11_2, gq_13_2, gq_15_2, gq_17_0, gq_20_0, gq_22_0, gq_24_0, gq_27_0, gq_34_0, gq_36_0, gq_38_0, gq_40_0, gq_42_0, gq_42_1, gq_42_3, gq_42_4, gq_42_11, gq_42_12, gq_42_13, gq_42_15, gq_42_16, gq_42_17, gq_42_18, gq_42_19, gq_42_23, gq_42_24, gq_42_25, gq_42_26, aQ_29_0, aQ_29_1, aQ_29_2, aQ_29_3, aQ_19_0, aQ_19_1, aQ_19_2, aQ_46_0, aQ_46_1, aQ_46_2, gq_26, gr_26, gr_0_8, pQ_26, Option.bind_some, ↓reduceIte, one_ne0, areC_eq c4 (show c 1 < 31 by omega), if_pos ha, within_eq, if_pos hv, if_pos hw, h8', if_pos e1]
      · refine op_err1 (k := 1) (e := -1000001) (by decide) hR ?_ ?_
        · show f_X7_rules (mkS m kp b) 0 a v w = _
          unfold f_X7_rules
          simp only [io_0, gI_0, pI_0, pZ_0, io_1, gI_1, pI_1, pZ_1, io_2, gI_2, pI_2, pZ_2, aL_3, io_4, gI_4, pI_4, pZ_4, aL_5, io_6, gI_6, pI_6, pZ_6, aL_7, aL_8, io_9, gI_9, pI_9, pZ_9, aL_10, io_11, gI_11, pI_11, pZ_11, aL_12, io_13, gI_13, pI_13, pZ_13, aL_14, io_15, gI_15, pI_15, pZ_15, aL_16, io_17, gI_17, pI_17, pZ_17, aL_18, aL_19, io_20, gI_20, pI_20, pZ_20, aL_21, io_22, gI_22, pI_22, pZ_22, aL_23, io_24, gI_24, pI_24, pZ_24, aL_25, io_26, gI_26, pI_26, pZ_26, io_27, gI_27, pI_27, pZ_27, aL_28, aL_29, aL_30, aL_31, aL_32, aL_33, io_34, gI_34, pI_34, pZ_34, aL_35, io_36, gI_36, pI_36, pZ_36, aL_37, io_38, gI_38, pI_38, pZ_38, aL_39, io_40, gI_40, pI_40, pZ_40, aL_41, io_42, gI_42, pI_42, pZ_42, aL_43, aL_44, aL_45, aL_46, aL_47, aL_48, aL_49, aL_50, aL_51, aL_52, aL_53, aL_54, aL_55, aL_56, aL_57, aL_58, gq_0_0, gq_0_1, gq_0_2, gq_0_3, gq_0_4, gq_0_5, gq_0_6, gq_0_7, gq_1_0, gq_1_1, gq_1_2, gq_1_3, gq_1_4, gq_1_5, gq_1_6, gq_1_7, gq_1_8, gq_1_9, gq_2_2, gq_4_2, gq_6_2, gq_9_2, gq_11_2, gq_13_2, gq_15_2, gq_17_0, gq_20_0, gq_22_0, gq_24_0, gq_27_0, gq_34_0, gq_36_0, gq_38_0, gq_40_0, gq_42_0, gq_42_1, gq_42_3, gq_42_4, gq_42_11, gq_42_12, gq_42_13, gq_42_15, gq_42_16, gq_42_17, gq_42_18, gq_42_19, gq_42_23, gq_42_24, gq_42_25, gq_42_26, aQ_29_0, aQ_29_1, aQ_29_2, aQ_29_3, aQ_19_0, aQ_19_1, aQ_19_2, aQ_46_0, aQ_46_1, aQ_46_2, gq_26, gr_26, gr_0_8, pQ_26, Option.bind_some, ↓reduceIte, one_ne0, e6, among_eq (show c 1 < 31 by omega), if_pos ha, outside_eq, if_pos hv, if_neg hw, fails_1]
          try simp
        · show f_X8_rules (mkS _ kp b) 42 a v w = _
          unfold f_X8_rules
          simp only [io_0, gI_0, pI_0, pZ_0, io_1, gI_1, pI_1, pZ_1, io_2, gI_2, pI_2, pZ_2, aL_3, io_4, gI_4, pI_4, pZ_4, aL_5, io_6, gI_6, pI_6, pZ_6, aL_7, aL_8, io_9, gI_9, pI_9, pZ_9, aL_10, io_11, gI_11, pI_11, pZ_11, aL_12, io_13, gI_13, pI_13, pZ_13, aL_14, io_15, gI_15, pI_15, pZ_15, aL_16, io_17, gI_17, pI_17, pZ_17, aL_18, aL_19, io_20, gI_20, pI_20, pZ_20, aL_21, io_22, gI_22, pI_22, pZ_22, aL_23, io_24, gI_24, pI_24, pZ_24, aL_25, io_26, gI_26, pI_26, pZ_26, io_27, gI_27, pI_27, pZ_27, aL_28, aL_29, aL_30, aL_31, aL_32, aL_33, io_34, gI_34, pI_34, pZ_34, aL_35, io_36, gI_36, pI_36, pZ_36, aL_37, io_38, gI_38, pI_38, pZ_38, aL_39, io_40, gI_40, pI_40, pZ_40, aL_41, io_42, gI_42, pI_42, pZ_42, aL_43, aL_44, aL_45, aL_46, aL_47, aL_48, aL_49, aL_50, aL_51, aL_52, aL_53, aL_54, aL_55, aL_56, aL_57, aL_58, gq_0_0, gq_0_1, gq_0_2, gq_0_3, gq_0_4, gq_0_5, gq_0_6, gq_0_7, gq_1_0, gq_1_1, gq_1_2, gq_1_3, gq_1_4, gq_1_5, gq_1_6, gq_1_7, gq_1_8, gq_1_9, gq_2_2, gq_4_2, gq_6_2, gq_9_2, gq_11_2, gq_13_2, gq_15_2, gq_17_0, gq_20_0, gq_22_0, gq_24_0, gq_27_0, gq_34_0, gq_36_0, gq_38_0, gq_40_0, gq_42_0, gq_42_1, gq_42_3, gq_42_4, gq_42_11, gq_42_12, gq_42_13, gq_42_15, gq_42_16, gq_42_17, gq_42_18, gq_42_19, gq_42_23, gq_42_24, gq_42_25, gq_42_26, aQ_29_0, aQ_29_1, aQ_29_2, aQ_29_3, aQ_19_0, aQ_19_1, aQ_19_2, aQ_46_0, aQ_46_1, aQ_46_2, gq_26, gr_26, gr_0_8, pQ_26, Option.bind_some, ↓reduceIte, one_ne0, areC_eq (e43 c4) (show c 1 < 31 by omega), if_pos ha, within_eq, if_pos hv, if_neg hw, finds_1]
          try simp
    · refine op_err1 (k := 1) (e := -1000001) (by decide) hR ?_ ?_
      · show f_X7_rules (mkS m kp b) 0 a v w = _
        unfold f_X7_rules
        simp only [io_0, gI_0, pI_0, pZ_0, io_1, gI_1, pI_1, pZ_1, io_2, gI_2, pI_2, pZ_2, aL_3, io_4, gI_4, pI_4, pZ_4, aL_5, io_6, gI_6, pI_6, pZ_6, aL_7, aL_8, io_9, gI_9, pI_9, pZ_9, aL_10, io_11, gI_11, pI_11, pZ_11, aL_12, io_13, gI_13, pI_13, pZ_13, aL_14, io_15, gI_15, pI_15, pZ_15, aL_16, io_17, gI_17, pI_17, pZ_17, aL_18, aL_19, io_20, gI_20, pI_20, pZ_20, aL_21, io_22, gI_22, pI_22, pZ_22, aL_23, io_24, gI_24, pI_24, pZ_24, aL_25, io_26, gI_26, pI_26, pZ_26, io_27, gI_27, pI_27, pZ_27, aL_28, aL_29, aL_30, aL_31, aL_32, aL_33, io_34, gI_34, pI_34, pZ_34, aL_35, io_36, gI_36, pI_36, pZ_36, aL_37, io_38, gI_38, pI_38, pZ_38, aL_39, io_40, gI_40, pI_40, pZ_40, aL_41, io_42, gI_42, pI_42, pZ_42, aL_43, aL_44, aL_45, aL_46, aL_47, aL_48, aL_49, aL_50, aL_51, aL_52, aL_53, aL_54, aL_55, aL_56, aL_57, aL_58, gq_0_0, gq_0_1, gq_0_2, gq_0_3, gq_0_4, gq_0_5, gq_0_6, gq_0_7, gq_1_0, gq_1_1, gq_1_2, gq_1_3, gq_1_4, gq_1_5, gq_1_6, gq_1_7, gq_1_8, gq_1_9, gq_2_2, gq_4_2, gq_6_2, gq_9_2, gq_11_2, gq_13_2, gq_15_2, gq_17_0, gq_20_0, gq_22_0, gq_24_0, gq_27_0, gq_34_0, gq_36_0, gq_38_0, gq_40_0, gq_42_0, gq_42_1, gq_42_3, gq_42_4, gq_42_11, gq_42_12, gq_42_13, gq_42_15, gq_42_16, gq_42_17, gq_42_18, gq_42_19, gq_42_23, gq_42_24, gq_42_25, gq_42_26, aQ_29_0, aQ_29_1, aQ_29_2, aQ_29_3, aQ_19_0, aQ_19_1, aQ_19_2, aQ_46_0, aQ_46_1, aQ_46_2, gq_26, gr_26, gr_0_8, pQ_26, Option.bind_some, ↓reduceIte, one_ne0, e6, among_eq (show c 1 < 31 by omega), if_pos ha, outside_eq, if_neg hv, fails_1]
        try simp
      · show f_X8_rules (mkS _ kp b) 42 a v w = _
        unfold f_X8_rules
        simp only [io_0, gI_0, pI_0, pZ_0, io_1, gI_1, pI_1, pZ_1, io_2, gI_2, pI_2, pZ_2, aL_3, io_4, gI_4, pI_4, pZ_4, aL_5, io_6, gI_6, pI_6, pZ_6, aL_7, aL_8, io_9, gI_9, pI_9, pZ_9, aL_10, io_11, gI_11, pI_11, pZ_11, aL_12, io_13, gI_13, pI_13, pZ_13, aL_14, io_15, gI_15, pI_15, pZ_15, aL_16, io_17, gI_17, pI_17, pZ_17, aL_18, aL_19, io_20, gI_20, pI_20, pZ_20, aL_21, io_22, gI_22, pI_22, pZ_22, aL_23, io_24, gI_24, pI_24, pZ_24, aL_25, io_26, gI_26, pI_26, pZ_26, io_27, gI_27, pI_27, pZ_27, aL_28, aL_29, aL_30, aL_31, aL_32, aL_33, io_34, gI_34, pI_34, pZ_34, aL_35, io_36, gI_36, pI_36, pZ_36, aL_37, io_38, gI_38, pI_38, pZ_38, aL_39, io_40, gI_40, pI_40, pZ_40, aL_41, io_42, gI_42, pI_42, pZ_42, aL_43, aL_44, aL_45, aL_46, aL_47, aL_48, aL_49, aL_50, aL_51, aL_52, aL_53, aL_54, aL_55, aL_56, aL_57, aL_58, gq_0_0, gq_0_1, gq_0_2, gq_0_3, gq_0_4, gq_0_5, gq_0_6, gq_0_7, gq_1_0, gq_1_1, gq_1_2, gq_1_3, gq_1_4, gq_1_5, gq_1_6, gq_1_7, gq_1_8, gq_1_9, gq_2_2, gq_4_2, gq_6_2, gq_9_2, gq_11_2, gq_13_2, gq_15_2, gq_17_0, gq_20_0, gq_22_0, gq_24_0, gq_27_0, gq_34_0, gq_36_0, gq_38_0, gq_40_0, gq_42_0, gq_42_1, gq_42_3, gq_42_4, gq_42_11, gq_42_12, gq_42_13, gq_42_15, gq_42_16, gq_42_17, gq_42_18, gq_42_19, gq_42_23, gq_42_24, gq_42_25, gq_42_26, aQ_29_0, aQ_29_1, aQ_29_2, aQ_29_3, aQ_19_0, aQ_19_1, aQ_19_2, aQ_46_0, aQ_46_1, aQ_46_2, gq_26, gr_26, gr_0_8, pQ_26, Option.bind_some, ↓reduceIte, one_ne0, areC_eq (e43 c4) (show c 1 < 31 by omega), if_pos ha, within_eq, if_neg hv, finds_1]
        try simp
  · refine op_err1 (k := 1) (e := -1000001) (by decide) hR ?_ ?_
    · show f_X7_rules (mkS m kp b) 0 a v w = _
      unfold f_X7_rules
      simp only [io_0, gI_0, pI_0, pZ_0, io_1, gI_1, pI_1, pZ_1, io_2, gI_2, pI_2, pZ_2, aL_3, io_4, gI_4, pI_4, pZ_4, aL_5, io_6, gI_6, pI_6, pZ_6, aL_7, aL_8, io_9, gI_9, pI_9, pZ_9, aL_10, io_11, gI_11, pI_11, pZ_11, aL_12, io_13, gI_13, pI_13, pZ_13, aL_14, io_15, gI_15, pI_15, pZ_15, aL_16, io_17, gI_17, pI_17, pZ_17, aL_18, aL_19, io_20, gI_20, pI_20, pZ_20, aL_21, io_22, gI_22, pI_22, pZ_22, aL_23, io_24, gI_24, pI_24, pZ_24, aL_25, io_26, gI_26, pI_26, pZ_26, io_27, gI_27, pI_27, pZ_27, aL_28, aL_29, aL_30, aL_31, aL_32, aL_33, io_34, gI_34, pI_34, pZ_34, aL_35, io_36, gI_36, pI_36, pZ_36, aL_37, io_38, gI_38, pI_38, pZ_38, aL_39, io_40, gI_40, pI_40, pZ_40, aL_41, io_42, gI_42, pI_42, pZ_42, aL_43, aL_44, aL_45, aL_46, aL_47, aL_48, aL_49, aL_50, aL_51, aL_52, aL_53, aL_54, aL_55, aL_56, aL_57, aL_58, gq_0_0, gq_0_1, gq_0_2, gq_0_3, gq_0_4, gq_0_5, gq_0_6, gq_0_7, gq_1_0, gq_1_1, gq_1_2, gq_1_3, gq_1_4, gq_1_5, gq_1_6, gq_1_7, gq_1_8, gq_1_9, gq_2_2, gq_4_2, gq_6_2, gq_9_2, gq_11_2, gq_13_2, gq_15_2, gq_17_0, gq_20_0, gq_22_0, gq_24_0, gq_27_0, gq_34_0, gq_36_0, gq_38_0, gq_40_0, gq_42_0, gq_42_1, gq_42_3, gq_42_4, gq_42_11, gq_42_12, gq_42_13, gq_42_15, gq_42_16, gq_42_17, gq_42_18, gq_42_19, gq_42_23, gq_42_24, gq_42_25, gq_42_26, aQ_29_0, aQ_29_1, aQ_29_2, aQ_29_3, aQ_19_0, aQ_19_1, aQ_19_2, aQ_46_0, aQ_46_1, aQ_46_2, gq_26, gr_26, gr_0_8, pQ_26, Option.bind_some, ↓reduceIte, one_ne0, e6, among_eq (show c 1 < 31 by omega), if_neg ha, fails_1]
      try simp
    · show f_X8_rules (mkS _ kp b) 42 a v w = _
      unfold f_X8_rules
      simp only [io_0, gI_0, pI_0, pZ_0, io_1, gI_1, pI_1, pZ_1, io_2, gI_2, pI_2, pZ_2, aL_3, io_4, gI_4, pI_4, pZ_4, aL_5, io_6, gI_6, pI_6, pZ_6, aL_7, aL_8, io_9, gI_9, pI_9, pZ_9, aL_10, io_11, gI_11, pI_11, pZ_11, aL_12, io_13, gI_13, pI_13, pZ_13, aL_14, io_15, gI_15, pI_15, pZ_15, aL_16, io_17, gI_17, pI_17, pZ_17, aL_18, aL_19, io_20, gI_20, pI_20, pZ_20, aL_21, io_22, gI_22, pI_22, pZ_22, aL_23, io_24, gI_24, pI_24, pZ_24, aL_25, io_26, gI_26, pI_26, pZ_26, io_27, gI_27, pI_27, pZ_27, aL_28, aL_29, aL_30, aL_31, aL_32, aL_33, io_34, gI_34, pI_34, pZ_34, aL_35, io_36, gI_36, pI_36, pZ_36, aL_37, io_38, gI_38, pI_38, pZ_38, aL_39, io_40, gI_40, pI_40, pZ_40, aL_41, io_42, gI_42, pI_42, pZ_42, aL_43, aL_44, aL_45, aL_46, aL_47, aL_48, aL_49, aL_50, aL_51, aL_52, aL_53, aL_54, aL_55, aL_56, aL_57, aL_58, gq_0_0, gq_0_1, gq_0_2, gq_0_3, gq_0_4, gq_0_5, gq_0_6, gq_0_7, gq_1_0, gq_1_1, gq_1_2, gq_1_3, gq_1_4, gq_1_5, gq_1_6, gq_1_7, gq_1_8, gq_1_9, gq_2_2, gq_4_2, gq_6_2, gq_9_2, gq_11_2, gq_13_2, gq_15_2, gq_17_0, gq_20_0, gq_22_0, gq_24_0, gq_27_0, gq_34_0, gq_36_0, gq_38_0, gq_40_0, gq_42_0, gq_42_1, gq_42_3, gq_42_4, gq_42_11, gq_42_12, gq_42_13, gq_42_15, gq_42_16, gq_42_17, gq_42_18, gq_42_19, gq_42_23, gq_42_24, gq_42_25, gq_42_26, aQ_29_0, aQ_29_1, aQ_29_2, aQ_29_3, aQ_19_0, aQ_19_1, aQ_19_2, aQ_46_0, aQ_46_1, aQ_46_2, gq_26, gr_26, gr_0_8, pQ_26, Option.bind_some, ↓reduceIte, one_ne0, areC_eq (e43 c4) (show c 1 < 31 by omega), if_neg ha, finds_1]
      try simp
end OK5
