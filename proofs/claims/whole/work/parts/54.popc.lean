/-! how many bits: the class's count and the reference's -/
theorem and_sp {a b c d : Nat} (ha : a < 256) (hc : c < 256) : (a + 256 * b) &&& (c + 256 * d) = (a &&& c) + 256 * (b &&& d) := by
  have h1 : ((a + 256 * b) &&& (c + 256 * d)) / 2 ^ 8 = b &&& d := by
    rw [Nat.and_div_two_pow, show (a + 256 * b) / 2 ^ 8 = b by omega, show (c + 256 * d) / 2 ^ 8 = d by omega]
  have h2 : ((a + 256 * b) &&& (c + 256 * d)) % 2 ^ 8 = a &&& c := by
    rw [Nat.and_mod_two_pow, show (a + 256 * b) % 2 ^ 8 = a by omega, show (c + 256 * d) % 2 ^ 8 = c by omega]
  omega
def bq8 (a : Nat) : Nat := a % 2 + a / 2 % 2 + a / 4 % 2 + a / 8 % 2 + a / 16 % 2 + a / 32 % 2 + a / 64 % 2 + a / 128 % 2
def pq1 (M x : Nat) : Nat := x - (x / 2 &&& M)
def pq2 (M x : Nat) : Nat := (x &&& M) + (x / 4 &&& M)
def pq3 (M x : Nat) : Nat := (x + x / 16) &&& M
theorem p_dec : ∀ a, a < 256 → pq1 85 a < 256 ∧ pq2 51 (pq1 85 a) ≤ 68 ∧ pq2 51 (pq1 85 a) % 16 ≤ 4 ∧ pq3 15 (pq2 51 (pq1 85 a)) = bq8 a ∧ bq8 a ≤ 8 := by decide +kernel
theorem pq1_m : ∀ a, a < 256 → ∀ e, e < 2 → ((a / 2 + 128 * e) &&& 85) = (a / 2 &&& 85) := by decide +kernel
theorem pq2_m : ∀ a, a < 256 → ∀ e, e < 4 → ((a / 4 + 64 * e) &&& 51) = (a / 4 &&& 51) := by decide +kernel
theorem pq3_m : ∀ a, a < 69 → ∀ e, e < 5 → ((a + a / 16 + 16 * e) &&& 15) = ((a + a / 16) &&& 15) := by decide +kernel
theorem pq1_s {a y M : Nat} (ha : a < 256) : pq1 (85 + 256 * M) (a + 256 * y) = pq1 85 a + 256 * pq1 M y := by
  unfold pq1
  have h : (a + 256 * y) / 2 = (a / 2 + 128 * (y % 2)) + 256 * (y / 2) := by omega
  rw [h, and_sp (by omega) (by decide), pq1_m a ha (y % 2) (by omega)]
  have h1 : (a / 2 &&& 85) ≤ a / 2 := Nat.and_le_left
  have h2 : (y / 2 &&& M) ≤ y / 2 := Nat.and_le_left
  omega
theorem pq2_s {a y M : Nat} (ha : a < 256) : pq2 (51 + 256 * M) (a + 256 * y) = pq2 51 a + 256 * pq2 M y := by
  unfold pq2
  have h : (a + 256 * y) / 4 = (a / 4 + 64 * (y % 4)) + 256 * (y / 4) := by omega
  rw [h, and_sp ha (by decide), and_sp (a := a / 4 + 64 * (y % 4)) (by omega) (by decide), pq2_m a ha (y % 4) (by omega)]
  omega
theorem pq3_s {a y M : Nat} (ha : a ≤ 68) (hy : y % 16 ≤ 4) : pq3 (15 + 256 * M) (a + 256 * y) = pq3 15 a + 256 * pq3 M y := by
  unfold pq3
  have h : (a + 256 * y) + (a + 256 * y) / 16 = (a + a / 16 + 16 * (y % 16)) + 256 * (y + y / 16) := by omega
  rw [h, and_sp (by omega) (by decide), pq3_m a (by omega) (y % 16) (by omega)]
theorem pq3_n {a b c : Nat} (ha : a < 256) (hb : b < 256) (hc : c < 256) : pq3 252645135 (pq2 858993459 (pq1 1431655765 (a + 256 * (b + 256 * c)))) = bq8 a + 256 * (bq8 b + 256 * bq8 c) := by
  obtain ⟨a1, a2, a3, a4, a5⟩ := p_dec a ha
  obtain ⟨b1, b2, b3, b4, b5⟩ := p_dec b hb
  obtain ⟨c1, c2, c3, c4, c5⟩ := p_dec c hc
  have e1 : pq1 1431655765 (a + 256 * (b + 256 * c)) = pq1 85 a + 256 * (pq1 85 b + 256 * pq1 85 c) := by
    have q1 := pq1_s (a := a) (y := b + 256 * c) (M := 85 + 256 * (85 + 256 * 85)) ha
    have q2 := pq1_s (a := b) (y := c) (M := 85 + 256 * 85) hb
    have q3 := pq1_s (a := c) (y := 0) (M := 85) hc
    have q4 : pq1 85 0 = 0 := by decide
    rw [q4] at q3
    rw [q2] at q1
    rw [show (1431655765 : Nat) = 85 + 256 * (85 + 256 * (85 + 256 * 85)) from rfl, q1]
    simp only [Nat.mul_zero, Nat.add_zero] at q3
    rw [q3]
  have e2 : pq2 858993459 (pq1 85 a + 256 * (pq1 85 b + 256 * pq1 85 c)) = pq2 51 (pq1 85 a) + 256 * (pq2 51 (pq1 85 b) + 256 * pq2 51 (pq1 85 c)) := by
    have q1 := pq2_s (a := pq1 85 a) (y := pq1 85 b + 256 * pq1 85 c) (M := 51 + 256 * (51 + 256 * 51)) a1
    have q2 := pq2_s (a := pq1 85 b) (y := pq1 85 c) (M := 51 + 256 * 51) b1
    have q3 := pq2_s (a := pq1 85 c) (y := 0) (M := 51) c1
    have q4 : pq2 51 0 = 0 := by decide
    rw [q4] at q3
    rw [q2] at q1
    rw [show (858993459 : Nat) = 51 + 256 * (51 + 256 * (51 + 256 * 51)) from rfl, q1]
    simp only [Nat.mul_zero, Nat.add_zero] at q3
    rw [q3]
  rw [e1, e2]
  have q1 := pq3_s (a := pq2 51 (pq1 85 a)) (y := pq2 51 (pq1 85 b) + 256 * pq2 51 (pq1 85 c)) (M := 15 + 256 * (15 + 256 * 15)) a2 (by omega)
  have q2 := pq3_s (a := pq2 51 (pq1 85 b)) (y := pq2 51 (pq1 85 c)) (M := 15 + 256 * 15) b2 (by omega)
  have q3 := pq3_s (a := pq2 51 (pq1 85 c)) (y := 0) (M := 15) c2 (by decide)
  have q4 : pq3 15 0 = 0 := by decide
  rw [q4] at q3
  rw [q2] at q1
  rw [show (252645135 : Nat) = 15 + 256 * (15 + 256 * (15 + 256 * 15)) from rfl, q1]
  simp only [Nat.mul_zero, Nat.add_zero] at q3
  rw [q3, a4, b4, c4]
theorem ush_n {n k : Nat} (hn : n < 2 ^ 32) (s : Int32) (hs : ((s.toUInt32 &&& Int32.toUInt32 31).toBitVec % 32).toNat = k) : ush (nI n) s = nI (n / 2 ^ k) := pk_ushrN hn s k hs
theorem ush1 {n : Nat} (hn : n < 2 ^ 32) : ush (nI n) 1 = nI (n / 2) := ush_n (k := 1) hn 1 (by decide)
theorem ush2 {n : Nat} (hn : n < 2 ^ 32) : ush (nI n) 2 = nI (n / 4) := ush_n (k := 2) hn 2 (by decide)
theorem ush4 {n : Nat} (hn : n < 2 ^ 32) : ush (nI n) 4 = nI (n / 16) := ush_n (k := 4) hn 4 (by decide)
theorem ush8 {n : Nat} (hn : n < 2 ^ 32) : ush (nI n) 8 = nI (n / 256) := ush_n (k := 8) hn 8 (by decide)
theorem ush16 {n : Nat} (hn : n < 2 ^ 32) : ush (nI n) 16 = nI (n / 65536) := ush_n (k := 16) hn 16 (by decide)
def pcN (x : Nat) : Nat := bq8 (x % 256) + bq8 (x / 256 % 256) + bq8 (x / 65536 % 256)
theorem pcN_le (x : Nat) : pcN x ≤ 24 := by
  have h1 := (p_dec (x % 256) (by omega)).2.2.2.2
  have h2 := (p_dec (x / 256 % 256) (by omega)).2.2.2.2
  have h3 := (p_dec (x / 65536 % 256) (by omega)).2.2.2.2
  unfold pcN
  omega
theorem bitc_eq {σ : St} {x : Nat} (hx : x < 2 ^ 24) : f_J6_bitCount_0f7a4 σ (nI x) = some (nI (pcN x)) := by
  have hs : x = x % 256 + 256 * (x / 256 % 256 + 256 * (x / 65536 % 256)) := by omega
  have hn := pq3_n (a := x % 256) (b := x / 256 % 256) (c := x / 65536 % 256) (by omega) (by omega) (by omega)
  rw [← hs] at hn
  have h1 := (p_dec (x % 256) (by omega)).2.2.2.2
  have h2 := (p_dec (x / 256 % 256) (by omega)).2.2.2.2
  have h3 := (p_dec (x / 65536 % 256) (by omega)).2.2.2.2
  have b1 : pq1 1431655765 x ≤ x := Nat.sub_le _ _
  have a5 : (x / 2 &&& 1431655765) ≤ x := Nat.le_trans Nat.and_le_left (by omega)
  have e1 : nI x - (ush (nI x) 1 &&& 1431655765) = nI (pq1 1431655765 x) := by
    rw [ush1 (by omega), show (1431655765 : Int32) = nI 1431655765 from rfl, nx_and, nI_sub a5]
    rfl
  have b2a : (pq1 1431655765 x &&& 858993459) ≤ pq1 1431655765 x := Nat.and_le_left
  have b2b : (pq1 1431655765 x / 4 &&& 858993459) ≤ pq1 1431655765 x / 4 := Nat.and_le_left
  have b2 : pq2 858993459 (pq1 1431655765 x) < 2 ^ 26 := by unfold pq2; omega
  have e2 : ((nI (pq1 1431655765 x) &&& 858993459) + (ush (nI (pq1 1431655765 x)) 2 &&& 858993459)) = nI (pq2 858993459 (pq1 1431655765 x)) := by
    rw [ush2 (by omega), show (858993459 : Int32) = nI 858993459 from rfl, nx_and, nx_and, nI_add]
    rfl
  have e3 : ((nI (pq2 858993459 (pq1 1431655765 x)) + ush (nI (pq2 858993459 (pq1 1431655765 x))) 4) &&& 252645135) = nI (pq3 252645135 (pq2 858993459 (pq1 1431655765 x))) := by
    rw [ush4 (by omega), show (252645135 : Int32) = nI 252645135 from rfl, nI_add, nx_and]
    rfl
  unfold f_J6_bitCount_0f7a4
  rw [e1, e2, e3, hn]
  unfold pcN
  generalize bq8 (x % 256) = a at *
  generalize bq8 (x / 256 % 256) = b at *
  generalize bq8 (x / 65536 % 256) = c at *
  clear hs hn e1 e2 e3 b2 b2a b2b b1 a5 hx
  have q1 : (a + 256 * (b + 256 * c)) / 256 = b + 256 * c := by omega
  have q2 : (a + 256 * (b + 256 * c) + (b + 256 * c)) / 65536 = c := by omega
  rw [ush8 (by omega), nI_add, q1, ush16 (by omega), nI_add, q2, show (63 : Int32) = nI 63 from rfl, nx_and, show (63 : Nat) = 2 ^ 6 - 1 from rfl, Nat.and_two_pow_sub_one_eq_mod]
  congr 2
  omega
theorem bit_t0 (x : Nat) : x % 256 % 2 = x % 2 := by omega
theorem bit_t1 (x : Nat) : x % 256 / 2 % 2 = x / 2 % 2 := by omega
theorem bit_t2 (x : Nat) : x % 256 / 4 % 2 = x / 4 % 2 := by omega
theorem bit_t3 (x : Nat) : x % 256 / 8 % 2 = x / 8 % 2 := by omega
theorem bit_t4 (x : Nat) : x % 256 / 16 % 2 = x / 16 % 2 := by omega
theorem bit_t5 (x : Nat) : x % 256 / 32 % 2 = x / 32 % 2 := by omega
theorem bit_t6 (x : Nat) : x % 256 / 64 % 2 = x / 64 % 2 := by omega
theorem bit_t7 (x : Nat) : x % 256 / 128 % 2 = x / 128 % 2 := by omega
theorem bit_t8 (x : Nat) : x / 256 % 256 % 2 = x / 256 % 2 := by omega
theorem bit_t9 (x : Nat) : x / 256 % 256 / 2 % 2 = x / 512 % 2 := by omega
theorem bit_t10 (x : Nat) : x / 256 % 256 / 4 % 2 = x / 1024 % 2 := by omega
theorem bit_t11 (x : Nat) : x / 256 % 256 / 8 % 2 = x / 2048 % 2 := by omega
theorem bit_t12 (x : Nat) : x / 256 % 256 / 16 % 2 = x / 4096 % 2 := by omega
theorem bit_t13 (x : Nat) : x / 256 % 256 / 32 % 2 = x / 8192 % 2 := by omega
theorem bit_t14 (x : Nat) : x / 256 % 256 / 64 % 2 = x / 16384 % 2 := by omega
theorem bit_t15 (x : Nat) : x / 256 % 256 / 128 % 2 = x / 32768 % 2 := by omega
theorem bit_t16 (x : Nat) : x / 65536 % 256 % 2 = x / 65536 % 2 := by omega
theorem bit_t17 (x : Nat) : x / 65536 % 256 / 2 % 2 = x / 131072 % 2 := by omega
theorem bit_t18 (x : Nat) : x / 65536 % 256 / 4 % 2 = x / 262144 % 2 := by omega
theorem bit_t19 (x : Nat) : x / 65536 % 256 / 8 % 2 = x / 524288 % 2 := by omega
theorem bit_t20 (x : Nat) : x / 65536 % 256 / 16 % 2 = x / 1048576 % 2 := by omega
theorem bit_t21 (x : Nat) : x / 65536 % 256 / 32 % 2 = x / 2097152 % 2 := by omega
theorem bit_t22 (x : Nat) : x / 65536 % 256 / 64 % 2 = x / 4194304 % 2 := by omega
theorem bit_t23 (x : Nat) : x / 65536 % 256 / 128 % 2 = x / 8388608 % 2 := by omega
theorem bits_eq {σ : St} {x : Nat} (hx : x < 2 ^ 24) : f_X8_bits σ (nI x) = some (nI (pcN x)) := by
  unfold f_X8_bits
  have := loopU (fun f i (a : Nat) => f_X8_bits_L4 (nI x) f (nI i) (nI a)) (fun a => (nI 24, nI a)) (fun i a => a + x >>> i % 2) 24 (fun f i a hi => by
    show f_X8_bits_L4 (nI x) (f + 1) (nI i) (nI a) = _
    rw [f_X8_bits_L4]
    simp only [n24 hi, ↓reduceIte, nI_sshr (show x < 2 ^ 31 by omega) (show i < 32 by omega), nI_and1, nI_add, nI_a1]) (fun f a => by
    show f_X8_bits_L4 (nI x) (f + 1) (nI 24) (nI a) = _
    rw [f_X8_bits_L4, if_pos (show (24 : Int32) ≤ nI 24 by decide)]) 24 0 0 3000 (by omega) (by omega)
  simp only [nI_0] at this
  rw [this, Option.bind_some]
  congr 1
  simp only [it, Nat.shiftRight_eq_div_pow]
  refine congrArg nI ?_
  unfold pcN bq8
  rw [bit_t0, bit_t1, bit_t2, bit_t3, bit_t4, bit_t5, bit_t6, bit_t7, bit_t8, bit_t9, bit_t10, bit_t11, bit_t12, bit_t13, bit_t14, bit_t15, bit_t16, bit_t17, bit_t18, bit_t19, bit_t20, bit_t21, bit_t22, bit_t23]
  simp only [Nat.zero_add, Nat.reduceAdd, Nat.reducePow, Nat.div_one, Nat.pow_zero, Nat.add_assoc]
