/-! ===== Int32 by its bits: bt x i ===== -/
def bt (x : Int32) (i : Nat) : Bool := x.toBitVec.getLsbD i
theorem b_ext {x y : Int32} (h : ∀ i, i < 32 → bt x i = bt y i) : x = y := Int32.toBitVec_inj.mp (BitVec.eq_of_getLsbD_eq (fun i hi => h i hi))
theorem b_or (x y : Int32) (i : Nat) : bt (x ||| y) i = (bt x i || bt y i) := by unfold bt; rw [Int32.toBitVec_or, BitVec.getLsbD_or]
theorem b_and (x y : Int32) (i : Nat) : bt (x &&& y) i = (bt x i && bt y i) := by unfold bt; rw [Int32.toBitVec_and, BitVec.getLsbD_and]
theorem b_xor (x y : Int32) (i : Nat) : bt (x ^^^ y) i = (bt x i ^^ bt y i) := by unfold bt; rw [Int32.toBitVec_xor, BitVec.getLsbD_xor]
theorem b_big {x : Int32} {i : Nat} (h : 32 ≤ i) : bt x i = false := BitVec.getLsbD_of_ge _ _ h
theorem b_255 (i : Nat) : bt 255 i = decide (i < 8) := by
  rcases Nat.lt_or_ge i 32 with h | h
  · exact (by decide +kernel : ∀ i, i < 32 → bt 255 i = decide (i < 8)) i h
  · rw [b_big h, decide_eq_false (by omega)]
theorem b_65535 (i : Nat) : bt 65535 i = decide (i < 16) := by
  rcases Nat.lt_or_ge i 32 with h | h
  · exact (by decide +kernel : ∀ i, i < 32 → bt 65535 i = decide (i < 16)) i h
  · rw [b_big h, decide_eq_false (by omega)]
theorem b_m1 : ∀ i, i < 32 → bt (-1) i = true := by decide +kernel
theorem b_0 (i : Nat) : bt 0 i = false := BitVec.getLsbD_zero
theorem s_l : ∀ n, n < 32 → ((nI n &&& 31).toBitVec.smod 32).toNat = n := by decide +kernel
theorem s_u : ∀ n, n < 32 → (((nI n).toUInt32 &&& Int32.toUInt32 31).toBitVec % 32).toNat = n := by decide +kernel
theorem b_shl (n : Nat) (hn : n < 32) (x : Int32) {i : Nat} (hi : i < 32) : bt (x <<< (nI n &&& 31)) i = (decide (n ≤ i) && bt x (i - n)) := by
  unfold bt
  rw [Int32.toBitVec_shiftLeft]
  show (x.toBitVec <<< ((nI n &&& 31).toBitVec.smod 32).toNat).getLsbD i = _
  rw [s_l n hn, BitVec.getLsbD_shiftLeft]
  rcases Nat.lt_or_ge i n with h | h
  · simp [h, Nat.not_le.mpr h]
  · simp [hi, h, Nat.not_lt.mpr h]
theorem b_ushr (n : Nat) (hn : n < 32) (x : Int32) (i : Nat) : bt ((x.toUInt32 >>> ((nI n).toUInt32 &&& Int32.toUInt32 31)).toInt32) i = bt x (n + i) := by
  show (x.toUInt32 >>> ((nI n).toUInt32 &&& Int32.toUInt32 31)).toBitVec.getLsbD i = x.toUInt32.toBitVec.getLsbD (n + i)
  rw [UInt32.toBitVec_shiftRight]
  show (x.toUInt32.toBitVec >>> (((nI n).toUInt32 &&& Int32.toUInt32 31).toBitVec % 32).toNat).getLsbD i = _
  rw [s_u n hn, BitVec.getLsbD_ushiftRight]
theorem b_sshr (n : Nat) (hn : n < 32) (x : Int32) {i : Nat} (hi : i < 32) : bt (x >>> (nI n &&& 31)) i = if n + i < 32 then bt x (n + i) else bt x 31 := by
  unfold bt
  rw [Int32.toBitVec_shiftRight]
  show (x.toBitVec.sshiftRight ((nI n &&& 31).toBitVec.smod 32).toNat).getLsbD i = _
  rw [s_l n hn, BitVec.getLsbD_sshiftRight, BitVec.msb_eq_getLsbD_last]
  simp [hi]
theorem b_shl8 (x : Int32) {i : Nat} (hi : i < 32) : bt (x <<< ((8 : Int32) &&& 31)) i = (decide (8 ≤ i) && bt x (i - 8)) := b_shl 8 (by omega) x hi
theorem b_shl16 (x : Int32) {i : Nat} (hi : i < 32) : bt (x <<< ((16 : Int32) &&& 31)) i = (decide (16 ≤ i) && bt x (i - 16)) := b_shl 16 (by omega) x hi
theorem b_shl24 (x : Int32) {i : Nat} (hi : i < 32) : bt (x <<< ((24 : Int32) &&& 31)) i = (decide (24 ≤ i) && bt x (i - 24)) := b_shl 24 (by omega) x hi
theorem b_sshr8 (x : Int32) {i : Nat} (hi : i < 32) : bt (x >>> ((8 : Int32) &&& 31)) i = if 8 + i < 32 then bt x (8 + i) else bt x 31 := b_sshr 8 (by omega) x hi
/-! ===== nI under and, xor, >>>, one bit, 65535 ===== -/
theorem nx_and (a b : Nat) : nI a &&& nI b = nI (a &&& b) := by
  apply Int32.toBitVec_inj.1
  show BitVec.ofNat 32 a &&& BitVec.ofNat 32 b = BitVec.ofNat 32 (a &&& b)
  apply BitVec.eq_of_getLsbD_eq
  intro i hi
  simp [hi]

theorem shl1 : ∀ n, n < 31 → (1 : Int32) <<< (nI n &&& 31) = nI (2 ^ n) := by decide +kernel
theorem shm1 : ∀ n, n < 31 → nI (2 ^ n) - 1 = nI (2 ^ n - 1) := by decide +kernel
theorem nI_all (x : Int32) : x = nI x.toBitVec.toNat := by
  apply Int32.toBitVec_inj.1
  show x.toBitVec = BitVec.ofNat 32 x.toBitVec.toNat
  simp
theorem b_nI (k : Nat) {i : Nat} (hi : i < 32) : bt (nI k) i = k.testBit i := by
  show (BitVec.ofNat 32 k).getLsbD i = _
  rw [BitVec.getLsbD_ofNat]
  simp [hi]
theorem nI_or (a b : Nat) : nI a ||| nI b = nI (a ||| b) := by
  apply b_ext
  intro i hi
  rw [b_or, b_nI _ hi, b_nI _ hi, b_nI _ hi, Nat.testBit_or]
theorem pow_le30 {n : Nat} (h : n < 31) : 2 ^ n ≤ 2 ^ 30 := Nat.pow_le_pow_right (by decide) (by omega)
theorem nI_sshr {k j : Nat} (hk : k < 2 ^ 31) (hj : j < 32) : nI k >>> (nI j &&& 31) = nI (k >>> j) := by
  apply b_ext
  intro i hi
  rw [b_sshr j hj _ hi, b_nI _ hi, Nat.testBit_shiftRight]
  by_cases h : j + i < 32
  · rw [if_pos h, b_nI _ h]
  · rw [if_neg h, b_nI _ (by decide), Nat.testBit_lt_two_pow hk, Nat.testBit_lt_two_pow]
    exact Nat.lt_of_lt_of_le hk (Nat.pow_le_pow_right (by decide) (by omega))
theorem nI_and1 (k : Nat) : nI k &&& 1 = nI (k % 2) := by
  show nI k &&& nI 1 = _
  rw [nx_and, Nat.and_one_is_mod]
theorem bit0 {k j : Nat} (hk : k < 2 ^ 31) (hj : j < 32) : (((nI k >>> (nI j &&& 31)) &&& 1) = 0) = (k.testBit j = false) := by
  rw [nI_sshr hk hj, nI_and1]
  apply propext
  rw [show (0 : Int32) = nI 0 from rfl, nI_eq (by omega) (by decide), Nat.testBit_eq_decide_div_mod_eq, Nat.shiftRight_eq_div_pow, decide_eq_false_iff_not]
  generalize k / 2 ^ j = w
  omega
theorem bit1 {k j : Nat} (hk : k < 2 ^ 31) (hj : j < 32) : (((nI k >>> (nI j &&& 31)) &&& 1) = 1) = (k.testBit j = true) := by
  rw [nI_sshr hk hj, nI_and1]
  apply propext
  rw [show (1 : Int32) = nI 1 from rfl, nI_eq (by omega) (by decide), Nat.testBit_eq_decide_div_mod_eq, Nat.shiftRight_eq_div_pow, decide_eq_true_iff]
theorem among_lt {x n : Nat} (hx : x < 2 ^ 32) (hn : n < 31) : (nI x &&& ((nI (2 ^ n) - 1) ^^^ (-1))) = 0 ↔ x < 2 ^ n := by
  rw [shm1 n hn]
  constructor
  · intro h
    apply Nat.lt_pow_two_of_testBit
    intro i hi
    by_cases h32 : i < 32
    · have := congrArg (fun y => bt y i) h
      simp only [b_and, b_xor, b_nI _ h32, b_m1 i h32, b_0] at this
      rw [Nat.testBit_two_pow_sub_one, decide_eq_false (by omega)] at this
      simpa using this
    · exact Nat.testBit_lt_two_pow (Nat.lt_of_lt_of_le hx (Nat.pow_le_pow_right (by decide) (by omega)))
  · intro h
    apply b_ext
    intro i hi
    rw [b_and, b_xor, b_nI _ hi, b_nI _ hi, b_m1 i hi, b_0, Nat.testBit_two_pow_sub_one]
    by_cases hin : i < n
    · rw [decide_eq_true hin]; simp
    · rw [Nat.testBit_lt_two_pow (Nat.lt_of_lt_of_le h (Nat.pow_le_pow_right (by decide) (by omega)))]; rfl
theorem among_iff (a : Int32) {n : Nat} (hn : n < 31) : ((a &&& ((nI (2 ^ n) - 1) ^^^ (-1))) = 0) = (0 ≤ a ∧ a < nI (2 ^ n)) := by
  apply propext
  have hp := pow_le30 hn
  have e := nI_all a
  have hx := a.toBitVec.isLt
  rw [e, among_lt hx hn]
  constructor
  · intro h
    exact ⟨nI_pos' (by omega), nI_lt h (by omega)⟩
  · intro h
    obtain ⟨j, hj, ej⟩ := ex_nI (n := 2 ^ n) (by omega) h
    have : (nI a.toBitVec.toNat).toBitVec = (nI j).toBitVec := by rw [ej]
    have h2 : a.toBitVec = BitVec.ofNat 32 j := by
      rw [e]; exact this
    rw [h2]
    show j % 2 ^ 32 < _
    rw [Nat.mod_eq_of_lt (by omega)]
    exact hj
theorem among_eq {σ : St} {a : Int32} {n : Nat} (hn : n < 31) : f_X7_areAmong σ a (nI n) = some (if 0 ≤ a ∧ a < nI (2 ^ n) then 1 else 0) := by
  unfold f_X7_areAmong
  simp only [shl1 n hn, among_iff a hn]
  by_cases h : 0 ≤ a ∧ a < nI (2 ^ n)
  · rw [if_pos h]; rfl
  · rw [if_neg h]; rfl
theorem le_predP {n : Nat} (hn : n < 31) {a : Int32} : (0 ≤ a ∧ a ≤ nI (2 ^ n) - 1) = (0 ≤ a ∧ a < nI (2 ^ n)) := by
  have hp := pow_le30 hn
  have h0 := Nat.two_pow_pos n
  rw [shm1 n hn]
  apply propext
  constructor
  · intro h
    obtain ⟨j, hj, rfl⟩ := ex_nI2 (by omega) h
    exact ⟨h.1, nI_lt (by omega) (by omega)⟩
  · intro h
    obtain ⟨j, hj, rfl⟩ := ex_nI (by omega) h
    exact ⟨h.1, nI_le (by omega) (by omega)⟩
theorem areC_eq {m : Nat → Nat → Int32} {kp : Bool} {b : Option Nat} {n : Nat} (h : m 43 1 = nI n) (hn : n < 31) {a : Int32} : f_X8_areCurves (mkS m kp b) 42 a = some (if 0 ≤ a ∧ a < nI (2 ^ n) then 1 else 0) := by
  unfold f_X8_areCurves
  simp only [io_0, gI_0, pI_0, pZ_0, io_1, gI_1, pI_1, pZ_1, io_2, gI_2, pI_2, pZ_2, aL_3, io_4, gI_4, pI_4, pZ_4, aL_5, io_6, gI_6, pI_6, pZ_6, aL_7, aL_8, io_9, gI_9, pI_9, pZ_9, aL_10, io_11, gI_11, pI_11, pZ_11, aL_12, io_13, gI_13, pI_13, pZ_13, aL_14, io_15, gI_15, pI_15, pZ_15, aL_16, io_17, gI_17, pI_17, pZ_17, aL_18, aL_19, io_20, gI_20, pI_20, pZ_20, aL_21, io_22, gI_22, pI_22, pZ_22, aL_23, io_24, gI_24, pI_24, pZ_24, aL_25, io_26, gI_26, pI_26, pZ_26, io_27, gI_27, pI_27, pZ_27, aL_28, aL_29, aL_30, aL_31, aL_32, aL_33, io_34, gI_34, pI_34, pZ_34, aL_35, io_36, gI_36, pI_36, pZ_36, aL_37, io_38, gI_38, pI_38, pZ_38, aL_39, io_40, gI_40, pI_40, pZ_40, aL_41, io_42, gI_42, pI_42, pZ_42, aL_43, aL_44, aL_45, aL_46, aL_47, aL_48, aL_49, aL_50, aL_51, aL_52, aL_53, aL_54, aL_55, aL_56, aL_57, aL_58, gq_0_0, gq_0_1, gq_0_2, gq_0_3, gq_0_4, gq_0_5, gq_0_6, gq_0_7, gq_1_0, gq_1_1, gq_1_2, gq_1_3, gq_1_4, gq_1_5, gq_1_6, gq_1_7, gq_1_8, gq_1_9, gq_2_2, gq_4_2, gq_6_2, gq_9_2, gq_11_2, gq_13_2, gq_15_2, gq_17_0, gq_20_0, gq_22_0, gq_24_0, gq_27_0, gq_34_0, gq_36_0, gq_38_0, gq_40_0, gq_42_0, gq_42_1, gq_42_3, gq_42_4, gq_42_11, gq_42_12, gq_42_13, gq_42_15, gq_42_16, gq_42_17, gq_42_18, gq_42_19, gq_42_23, gq_42_24, gq_42_25, gq_42_26, aQ_29_0, aQ_29_1, aQ_29_2, aQ_29_3, aQ_19_0, aQ_19_1, aQ_19_2, aQ_46_0, aQ_46_1, aQ_46_2, gq_26, gr_26, gr_0_8, pQ_26, Option.bind_some, ↓reduceIte, one_ne0, rdl_1, h, shl1 n hn, within_eq, le_predP hn]
  by_cases h : 0 ≤ a ∧ a < nI (2 ^ n)
  · rw [if_pos h]; rfl
  · rw [if_neg h]; rfl
theorem has_eq {σ : St} {k j : Nat} (hk : k < 2 ^ 31) (hj : j < 32) : f_X8_has σ (nI k) (nI j) = some (if k.testBit j then 1 else 0) := by
  unfold f_X8_has
  simp only [bit1 hk hj]
  cases k.testBit j <;> rfl
