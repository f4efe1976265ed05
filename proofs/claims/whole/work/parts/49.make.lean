section MK
variable {m : Nat → Nat → Int32} {kp : Bool} {b : Option Nat} {z : Nat}
theorem bq1 : ∀ o, o < 4 → (((nI o &&& 1) = 1) ↔ o.testBit 0 = true) := by decide +kernel
theorem bq2 : ∀ o, o < 4 → (((nI o &&& 2) = 2) ↔ o.testBit 1 = true) := by decide +kernel
theorem hs0 {σ : St} {o : Nat} (h : o < 4) : f_X8_has σ (nI o) 0 = some (if o.testBit 0 then 1 else 0) := has_eq (j := 0) (by omega) (by decide)
theorem hs1 {σ : St} {o : Nat} (h : o < 4) : f_X8_has σ (nI o) 1 = some (if o.testBit 1 then 1 else 0) := has_eq (j := 1) (by omega) (by decide)
theorem bw0 {c : Bool} : ((if c = true then (1 : Int32) else 0) = 0) = (c = false) := by cases c <;> simp
def mkI (o s i : Nat) : Nat := if o.testBit 0 then s - i else s + i
def mkG (m : Nat → Nat → Int32) (q o d e s : Nat) (a3 : Int32) (i : Nat) : Int32 := hdV (((if o.testBit 1 then (-((m 43 (87 + 29 * q + mkI o s i) * nI d) / nI e)) else ((m 43 (87 + 29 * q + mkI o s i) * nI d) / nI e) : Int32) + a3).toInt64)
theorem nIe {e : Nat} (h1 : 1 ≤ e) (h2 : e < 2 ^ 31) : ne0 (nI e) = some (nI e) := by unfold ne0; rw [if_neg (nI_ne0 (by omega) h2)]
theorem mkIx {o s i X L : Nat} (hX : X ≤ 24) (hs : s < X) (hr : if o.testBit 0 = true then L ≤ s + 1 else L ≤ X - s) (hi : i < L) : mkI o s i < 24 := by
  unfold mkI
  by_cases hb : o.testBit 0 = true
  · rw [if_pos hb] at hr ⊢; omega
  · rw [if_neg hb] at hr ⊢; omega
theorem make7_loop {q o d e s n L X : Nat} {a3 : Int32} {k p u x s5 : Int32} (hq : q < n) (hn : n < 24) (ho : o < 4) (he1 : 1 ≤ e) (he2 : e ≤ 5) (hX : X ≤ 24) (hs : s < X) (hL : L ≤ 24) (hr : if o.testBit 0 = true then L ≤ s + 1 else L ≤ X - s) (hp : ∀ c j, c < 24 → j < 24 → m 8 (c * 24 + j) = m 43 (87 + 29 * c + j)) :
    f_X7_make_L207 (if (nI o &&& 1) = 1 then (-1) else 1 : Int32) (nI n) (nI L) (nI s) (nI e) (nI d) (nI q) 0 (nI o) a3 3000 0 (mkS (cA m n k p u x s5) kp b) = some (nI L, mkS (cN m n k p u x s5 L (mkG m q o d e s a3)) kp b) := by
  refine rowC (L := fun f i m' => f_X7_make_L207 (if (nI o &&& 1) = 1 then (-1) else 1 : Int32) (nI n) (nI L) (nI s) (nI e) (nI d) (nI q) 0 (nI o) a3 f (nI i) (mkS m' kp b)) (X := L) (n := n) (g := mkG m q o d e s a3) (cell := 8) (base := n * 24) (fun f i hi => ?_) (fun f => ?_) hL
  · show f_X7_make_L207 _ _ _ _ _ _ _ _ _ _ (f + 1) (nI i) _ = f_X7_make_L207 _ _ _ _ _ _ _ _ _ _ f (nI (i + 1)) _
    rw [f_X7_make_L207]
    have hidx : nI s + (if (nI o &&& 1) = 1 then (-1) else 1 : Int32) * nI i = nI (mkI o s i) := by
      unfold mkI
      by_cases hb : o.testBit 0 = true
      · rw [if_pos ((bq1 o ho).mpr hb), if_pos hb]
        rw [if_pos hb] at hr
        rw [← nI_sub (show i ≤ s by omega), Int32.sub_eq_add_neg, Int32.neg_mul, Int32.one_mul]
      · rw [if_neg (fun h => hb ((bq1 o ho).mp h)), if_neg hb, Int32.one_mul, nI_add]
    have hix := mkIx hX hs hr hi
    have hv : wrow (cA m n k p u x s5) 8 (n * 24) i (mkG m q o d e s a3) 8 (q * 24 + mkI o s i) = m 43 (87 + 29 * q + mkI o s i) := by
      rw [wrow_at, if_neg (by omega), cA_ne (by decide) (by decide), hp q _ (by omega) hix]
    simp only [io_0, gI_0, pI_0, pZ_0, io_1, gI_1, pI_1, pZ_1, io_2, gI_2, pI_2, pZ_2, aL_3, io_4, gI_4, pI_4, pZ_4, aL_5, io_6, gI_6, pI_6, pZ_6, aL_7, aL_8, io_9, gI_9, pI_9, pZ_9, aL_10, io_11, gI_11, pI_11, pZ_11, aL_12, io_13, gI_13, pI_13, pZ_13, aL_14, io_15, gI_15, pI_15, pZ_15, aL_16, io_17, gI_17, pI_17, pZ_17, aL_18, aL_19, io_20, gI_20, pI_20, pZ_20, aL_21, io_22, gI_22, pI_22, pZ_22, aL_23, io_24, gI_24, pI_24, pZ_24, aL_25, io_26, gI_26, pI_26, pZ_26, io_27, gI_27, pI_27, pZ_27, aL_28, aL_29, aL_30, aL_31, aL_32, aL_33, io_34, gI_34, pI_34, pZ_34, aL_35, io_36, gI_36, pI_36, pZ_36, aL_37, io_38, gI_38, pI_38, pZ_38, aL_39, io_40, gI_40, pI_40, pZ_40, aL_41, io_42, gI_42, pI_42, pZ_42, aL_43, aL_44, aL_45, aL_46, aL_47, aL_48, aL_49, aL_50, aL_51, aL_52, aL_53, aL_54, aL_55, aL_56, aL_57, aL_58, gq_0_0, gq_0_1, gq_0_2, gq_0_3, gq_0_4, gq_0_5, gq_0_6, gq_0_7, gq_1_0, gq_1_1, gq_1_2, gq_1_3, gq_1_4, gq_1_5, gq_1_6, gq_1_7, gq_1_8, gq_1_9, gq_2_2, gq_4_2, gq_6_2, gq_9_2, gq_11_2, gq_13_2, gq_15_2, gq_17_0, gq_20_0, gq_22_0, gq_24_0, gq_27_0, gq_34_0, gq_36_0, gq_38_0, gq_40_0, gq_42_0, gq_42_1, gq_42_3, gq_42_4, gq_42_11, gq_42_12, gq_42_13, gq_42_15, gq_42_16, gq_42_17, gq_42_18, gq_42_19, gq_42_23, gq_42_24, gq_42_25, gq_42_26, aQ_29_0, aQ_29_1, aQ_29_2, aQ_29_3, aQ_19_0, aQ_19_1, aQ_19_2, aQ_46_0, aQ_46_1, aQ_46_2, gq_26, gr_26, gr_0_8, pQ_26, Option.bind_some, ↓reduceIte, one_ne0, nle hi (show L < 2 ^ 31 by omega), hidx, cpt (show q < 24 by omega) hix, hv, nIe he1 (show e < 2 ^ 31 by omega), held7_eq, setPt (show n < 24 by omega) (show i < 24 by omega), nI_a1]
    unfold mkG
    by_cases hb : o.testBit 1 = true
    · rw [if_pos ((bq2 o ho).mpr hb)]; simp only [if_pos hb]
    · rw [if_neg (fun h => hb ((bq2 o ho).mp h))]; simp only [if_neg hb]
  · show f_X7_make_L207 _ _ _ _ _ _ _ _ _ _ (f + 1) (nI L) _ = _
    rw [f_X7_make_L207]
    simp only [Int32.le_refl, ↓reduceIte]
theorem make8_loop {q o d e s n L X a2 : Nat} {m0 : Nat → Nat → Int32} {a3 : Int32} {k p u x s5 : Int32} (h0 : ∀ i, m0 43 i = m 43 i) (hq : q < n) (hn : n < 24) (ho : o < 4) (he1 : 1 ≤ e) (he2 : e ≤ 5) (ed : nI a2 / 10 = nI d) (ee : irm (nI a2) 10 = nI e) (hX : X ≤ 24) (hs : s < X) (hL : L ≤ 24) (hr : if o.testBit 0 = true then L ≤ s + 1 else L ≤ X - s) :
    f_X8_make_L227 (nI n) (nI L) (nI s) (nI q) 42 (nI o) (nI a2) a3 3000 0 (mkS (mA m0 n k p u x s5) kp b) = some (nI L, mkS (mN m0 n k p u x s5 L (mkG m q o d e s a3)) kp b) := by
  refine rowC (L := fun f i m' => f_X8_make_L227 (nI n) (nI L) (nI s) (nI q) 42 (nI o) (nI a2) a3 f (nI i) (mkS m' kp b)) (X := L) (n := n) (g := mkG m q o d e s a3) (cell := 43) (base := 87 + 29 * n) (fun f i hi => ?_) (fun f => ?_) hL
  · show f_X8_make_L227 _ _ _ _ _ _ _ _ (f + 1) (nI i) _ = f_X8_make_L227 _ _ _ _ _ _ _ _ f (nI (i + 1)) _
    rw [f_X8_make_L227]
    have hidx : (if o.testBit 0 = false then nI s + nI i else nI s - nI i : Int32) = nI (mkI o s i) := by
      unfold mkI
      by_cases hb : o.testBit 0 = true
      · rw [if_neg (by rw [hb]; decide), if_pos hb]
        rw [if_pos hb] at hr
        rw [nI_sub (show i ≤ s by omega)]
      · rw [if_pos (Bool.eq_false_iff.mpr hb), if_neg hb, nI_add]
    have hix := mkIx hX hs hr hi
    have hv : wrow (mA m0 n k p u x s5) 43 (87 + 29 * n) i (mkG m q o d e s a3) 43 (87 + 29 * q + mkI o s i) = m 43 (87 + 29 * q + mkI o s i) := by
      rw [wrow_at, if_neg (by omega), mA_43, if_neg (by omega), if_neg (by omega), h0]
    simp only [io_0, gI_0, pI_0, pZ_0, io_1, gI_1, pI_1, pZ_1, io_2, gI_2, pI_2, pZ_2, aL_3, io_4, gI_4, pI_4, pZ_4, aL_5, io_6, gI_6, pI_6, pZ_6, aL_7, aL_8, io_9, gI_9, pI_9, pZ_9, aL_10, io_11, gI_11, pI_11, pZ_11, aL_12, io_13, gI_13, pI_13, pZ_13, aL_14, io_15, gI_15, pI_15, pZ_15, aL_16, io_17, gI_17, pI_17, pZ_17, aL_18, aL_19, io_20, gI_20, pI_20, pZ_20, aL_21, io_22, gI_22, pI_22, pZ_22, aL_23, io_24, gI_24, pI_24, pZ_24, aL_25, io_26, gI_26, pI_26, pZ_26, io_27, gI_27, pI_27, pZ_27, aL_28, aL_29, aL_30, aL_31, aL_32, aL_33, io_34, gI_34, pI_34, pZ_34, aL_35, io_36, gI_36, pI_36, pZ_36, aL_37, io_38, gI_38, pI_38, pZ_38, aL_39, io_40, gI_40, pI_40, pZ_40, aL_41, io_42, gI_42, pI_42, pZ_42, aL_43, aL_44, aL_45, aL_46, aL_47, aL_48, aL_49, aL_50, aL_51, aL_52, aL_53, aL_54, aL_55, aL_56, aL_57, aL_58, gq_0_0, gq_0_1, gq_0_2, gq_0_3, gq_0_4, gq_0_5, gq_0_6, gq_0_7, gq_1_0, gq_1_1, gq_1_2, gq_1_3, gq_1_4, gq_1_5, gq_1_6, gq_1_7, gq_1_8, gq_1_9, gq_2_2, gq_4_2, gq_6_2, gq_9_2, gq_11_2, gq_13_2, gq_15_2, gq_17_0, gq_20_0, gq_22_0, gq_24_0, gq_27_0, gq_34_0, gq_36_0, gq_38_0, gq_40_0, gq_42_0, gq_42_1, gq_42_3, gq_42_4, gq_42_11, gq_42_12, gq_42_13, gq_42_15, gq_42_16, gq_42_17, gq_42_18, gq_42_19, gq_42_23, gq_42_24, gq_42_25, gq_42_26, aQ_29_0, aQ_29_1, aQ_29_2, aQ_29_3, aQ_19_0, aQ_19_1, aQ_19_2, aQ_46_0, aQ_46_1, aQ_46_2, gq_26, gr_26, gr_0_8, pQ_26, Option.bind_some, ↓reduceIte, one_ne0, nle hi (show L < 2 ^ 31 by omega), hs0 ho, hs1 ho, bw0, hidx, mdot (show q < 24 by omega) hix, hv, ed, ee, nIe he1 (show e < 2 ^ 31 by omega), held8_eq, lay_eq (show n < 24 by omega) (show i < 24 by omega), nI_a1]
    unfold mkG
    rw [Int32.mul_comm (nI d)]
    by_cases hb : o.testBit 1 = true
    · rw [if_neg (by rw [hb]; decide)]; simp only [if_pos hb]
    · rw [if_pos (Bool.eq_false_iff.mpr hb)]; simp only [if_neg hb]
  · show f_X8_make_L227 _ _ _ _ _ _ _ _ (f + 1) (nI L) _ = _
    rw [f_X8_make_L227]
    simp only [Int32.le_refl, ↓reduceIte]
end MK
