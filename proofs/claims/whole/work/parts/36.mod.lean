/-! the reference's own readings -/
section MD
variable {m : Nat → Nat → Int32} {kp : Bool} {b : Option Nat}
theorem rd_43 {k : Nat} (h : k < 1234) : aI (mkS m kp b) 0 43 (nI k) = some (m 43 k) := by rw [aI_43, if_pos (inB_nI h (by decide)), nI_clamp (by omega)]
theorem wr_43 {k : Nat} {v : Int32} (h : k < 1234) : sI (mkS m kp b) 43 (nI k) v = some (mkS (st1 m 43 k v) kp b) := by rw [sI_43, if_pos (inB_nI h (by decide)), nI_clamp (by omega)]
theorem rdl_0 : aI (mkS m kp b) 0 43 0 = some (m 43 0) := rd_43 (k := 0) (by decide)
theorem rdl_1 : aI (mkS m kp b) 0 43 1 = some (m 43 1) := rd_43 (k := 1) (by decide)
theorem rdl_2 : aI (mkS m kp b) 0 43 2 = some (m 43 2) := rd_43 (k := 2) (by decide)
theorem rdl_3 : aI (mkS m kp b) 0 43 3 = some (m 43 3) := rd_43 (k := 3) (by decide)
theorem rdl_4 : aI (mkS m kp b) 0 43 4 = some (m 43 4) := rd_43 (k := 4) (by decide)
theorem rdl_5 : aI (mkS m kp b) 0 43 5 = some (m 43 5) := rd_43 (k := 5) (by decide)
theorem rdl_6 : aI (mkS m kp b) 0 43 6 = some (m 43 6) := rd_43 (k := 6) (by decide)
theorem rdl_7 : aI (mkS m kp b) 0 43 7 = some (m 43 7) := rd_43 (k := 7) (by decide)
theorem wrl_0 {v : Int32} : sI (mkS m kp b) 43 0 v = some (mkS (st1 m 43 0 v) kp b) := wr_43 (k := 0) (by decide)
theorem wrl_1 {v : Int32} : sI (mkS m kp b) 43 1 v = some (mkS (st1 m 43 1 v) kp b) := wr_43 (k := 1) (by decide)
theorem wrl_2 {v : Int32} : sI (mkS m kp b) 43 2 v = some (mkS (st1 m 43 2 v) kp b) := wr_43 (k := 2) (by decide)
theorem wrl_3 {v : Int32} : sI (mkS m kp b) 43 3 v = some (mkS (st1 m 43 3 v) kp b) := wr_43 (k := 3) (by decide)
theorem wrl_4 {v : Int32} : sI (mkS m kp b) 43 4 v = some (mkS (st1 m 43 4 v) kp b) := wr_43 (k := 4) (by decide)
theorem wrl_5 {v : Int32} : sI (mkS m kp b) 43 5 v = some (mkS (st1 m 43 5 v) kp b) := wr_43 (k := 5) (by decide)
theorem wrl_6 {v : Int32} : sI (mkS m kp b) 43 6 v = some (mkS (st1 m 43 6 v) kp b) := wr_43 (k := 6) (by decide)
theorem wrl_7 {v : Int32} : sI (mkS m kp b) 43 7 v = some (mkS (st1 m 43 7 v) kp b) := wr_43 (k := 7) (by decide)
theorem rd_3 {i : Nat} (h : i < 12) : aI (mkS m kp b) 0 3 (nI i) = some (m 3 i) := by rw [aI_3, if_pos (inB_nI h (by decide)), nI_clamp (by omega)]
theorem wr_3 {i : Nat} {v : Int32} (h : i < 12) : sI (mkS m kp b) 3 (nI i) v = some (mkS (st1 m 3 i v) kp b) := by rw [sI_3, if_pos (inB_nI h (by decide)), nI_clamp (by omega)]
theorem rd_5 {i : Nat} (h : i < 60) : aI (mkS m kp b) 0 5 (nI i) = some (m 5 i) := by rw [aI_5, if_pos (inB_nI h (by decide)), nI_clamp (by omega)]
theorem wr_5 {i : Nat} {v : Int32} (h : i < 60) : sI (mkS m kp b) 5 (nI i) v = some (mkS (st1 m 5 i v) kp b) := by rw [sI_5, if_pos (inB_nI h (by decide)), nI_clamp (by omega)]
theorem rd_7 {i : Nat} (h : i < 120) : aI (mkS m kp b) 0 7 (nI i) = some (m 7 i) := by rw [aI_7, if_pos (inB_nI h (by decide)), nI_clamp (by omega)]
theorem wr_7 {i : Nat} {v : Int32} (h : i < 120) : sI (mkS m kp b) 7 (nI i) v = some (mkS (st1 m 7 i v) kp b) := by rw [sI_7, if_pos (inB_nI h (by decide)), nI_clamp (by omega)]
theorem rd_8 {i : Nat} (h : i < 576) : aI (mkS m kp b) 0 8 (nI i) = some (m 8 i) := by rw [aI_8, if_pos (inB_nI h (by decide)), nI_clamp (by omega)]
theorem wr_8 {i : Nat} {v : Int32} (h : i < 576) : sI (mkS m kp b) 8 (nI i) v = some (mkS (st1 m 8 i v) kp b) := by rw [sI_8, if_pos (inB_nI h (by decide)), nI_clamp (by omega)]
theorem rd_10 {i : Nat} (h : i < 60) : aI (mkS m kp b) 0 10 (nI i) = some (m 10 i) := by rw [aI_10, if_pos (inB_nI h (by decide)), nI_clamp (by omega)]
theorem wr_10 {i : Nat} {v : Int32} (h : i < 60) : sI (mkS m kp b) 10 (nI i) v = some (mkS (st1 m 10 i v) kp b) := by rw [sI_10, if_pos (inB_nI h (by decide)), nI_clamp (by omega)]
theorem rd_12 {i : Nat} (h : i < 120) : aI (mkS m kp b) 0 12 (nI i) = some (m 12 i) := by rw [aI_12, if_pos (inB_nI h (by decide)), nI_clamp (by omega)]
theorem wr_12 {i : Nat} {v : Int32} (h : i < 120) : sI (mkS m kp b) 12 (nI i) v = some (mkS (st1 m 12 i v) kp b) := by rw [sI_12, if_pos (inB_nI h (by decide)), nI_clamp (by omega)]
theorem rd_14 {i : Nat} (h : i < 16) : aI (mkS m kp b) 0 14 (nI i) = some (m 14 i) := by rw [aI_14, if_pos (inB_nI h (by decide)), nI_clamp (by omega)]
theorem wr_14 {i : Nat} {v : Int32} (h : i < 16) : sI (mkS m kp b) 14 (nI i) v = some (mkS (st1 m 14 i v) kp b) := by rw [sI_14, if_pos (inB_nI h (by decide)), nI_clamp (by omega)]
theorem rd_16 {i : Nat} (h : i < 24) : aI (mkS m kp b) 0 16 (nI i) = some (m 16 i) := by rw [aI_16, if_pos (inB_nI h (by decide)), nI_clamp (by omega)]
theorem wr_16 {i : Nat} {v : Int32} (h : i < 24) : sI (mkS m kp b) 16 (nI i) v = some (mkS (st1 m 16 i v) kp b) := by rw [sI_16, if_pos (inB_nI h (by decide)), nI_clamp (by omega)]
theorem rd_18 {i : Nat} (h : i < 56) : aI (mkS m kp b) 1 18 (nI i) = some (m 18 i) := by rw [aI_18, if_pos (inB_nI h (by decide)), nI_clamp (by omega)]
theorem wr_18 {i : Nat} {v : Int32} (h : i < 56) : sB (mkS m kp b) 18 (nI i) v = some (mkS (st1 m 18 i v.toInt8.toInt32) kp b) := by rw [sB_18, if_pos (inB_nI h (by decide)), nI_clamp (by omega)]
theorem rd_21 {i : Nat} (h : i < 56) : aI (mkS m kp b) 1 21 (nI i) = some (m 21 i) := by rw [aI_21, if_pos (inB_nI h (by decide)), nI_clamp (by omega)]
theorem wr_21 {i : Nat} {v : Int32} (h : i < 56) : sB (mkS m kp b) 21 (nI i) v = some (mkS (st1 m 21 i v.toInt8.toInt32) kp b) := by rw [sB_21, if_pos (inB_nI h (by decide)), nI_clamp (by omega)]
theorem rd_23 {i : Nat} (h : i < 56) : aI (mkS m kp b) 1 23 (nI i) = some (m 23 i) := by rw [aI_23, if_pos (inB_nI h (by decide)), nI_clamp (by omega)]
theorem wr_23 {i : Nat} {v : Int32} (h : i < 56) : sB (mkS m kp b) 23 (nI i) v = some (mkS (st1 m 23 i v.toInt8.toInt32) kp b) := by rw [sB_23, if_pos (inB_nI h (by decide)), nI_clamp (by omega)]
theorem rd_25 {i : Nat} (h : i < 56) : aI (mkS m kp b) 1 25 (nI i) = some (m 25 i) := by rw [aI_25, if_pos (inB_nI h (by decide)), nI_clamp (by omega)]
theorem wr_25 {i : Nat} {v : Int32} (h : i < 56) : sB (mkS m kp b) 25 (nI i) v = some (mkS (st1 m 25 i v.toInt8.toInt32) kp b) := by rw [sB_25, if_pos (inB_nI h (by decide)), nI_clamp (by omega)]
theorem rd_28 {i : Nat} (h : i < 30) : aI (mkS m kp b) 0 28 (nI i) = some (m 28 i) := by rw [aI_28, if_pos (inB_nI h (by decide)), nI_clamp (by omega)]
theorem wr_28 {i : Nat} {v : Int32} (h : i < 30) : sI (mkS m kp b) 28 (nI i) v = some (mkS (st1 m 28 i v) kp b) := by rw [sI_28, if_pos (inB_nI h (by decide)), nI_clamp (by omega)]
theorem rd_30 {i : Nat} (h : i < 7) : aI (mkS m kp b) 0 30 (nI i) = some (m 30 i) := by rw [aI_30, if_pos (inB_nI h (by decide)), nI_clamp (by omega)]
theorem wr_30 {i : Nat} {v : Int32} (h : i < 7) : sI (mkS m kp b) 30 (nI i) v = some (mkS (st1 m 30 i v) kp b) := by rw [sI_30, if_pos (inB_nI h (by decide)), nI_clamp (by omega)]
theorem rd_31 {i : Nat} (h : i < 24) : aI (mkS m kp b) 0 31 (nI i) = some (m 31 i) := by rw [aI_31, if_pos (inB_nI h (by decide)), nI_clamp (by omega)]
theorem wr_31 {i : Nat} {v : Int32} (h : i < 24) : sI (mkS m kp b) 31 (nI i) v = some (mkS (st1 m 31 i v) kp b) := by rw [sI_31, if_pos (inB_nI h (by decide)), nI_clamp (by omega)]
theorem rd_32 {i : Nat} (h : i < 8) : aI (mkS m kp b) 0 32 (nI i) = some (m 32 i) := by rw [aI_32, if_pos (inB_nI h (by decide)), nI_clamp (by omega)]
theorem wr_32 {i : Nat} {v : Int32} (h : i < 8) : sI (mkS m kp b) 32 (nI i) v = some (mkS (st1 m 32 i v) kp b) := by rw [sI_32, if_pos (inB_nI h (by decide)), nI_clamp (by omega)]
theorem rd_33 {i : Nat} (h : i < 30) : aI (mkS m kp b) 0 33 (nI i) = some (m 33 i) := by rw [aI_33, if_pos (inB_nI h (by decide)), nI_clamp (by omega)]
theorem wr_33 {i : Nat} {v : Int32} (h : i < 30) : sI (mkS m kp b) 33 (nI i) v = some (mkS (st1 m 33 i v) kp b) := by rw [sI_33, if_pos (inB_nI h (by decide)), nI_clamp (by omega)]
theorem rd_35 {i : Nat} (h : i < 24) : aI (mkS m kp b) 0 35 (nI i) = some (m 35 i) := by rw [aI_35, if_pos (inB_nI h (by decide)), nI_clamp (by omega)]
theorem wr_35 {i : Nat} {v : Int32} (h : i < 24) : sI (mkS m kp b) 35 (nI i) v = some (mkS (st1 m 35 i v) kp b) := by rw [sI_35, if_pos (inB_nI h (by decide)), nI_clamp (by omega)]
theorem rd_37 {i : Nat} (h : i < 24) : aI (mkS m kp b) 0 37 (nI i) = some (m 37 i) := by rw [aI_37, if_pos (inB_nI h (by decide)), nI_clamp (by omega)]
theorem wr_37 {i : Nat} {v : Int32} (h : i < 24) : sI (mkS m kp b) 37 (nI i) v = some (mkS (st1 m 37 i v) kp b) := by rw [sI_37, if_pos (inB_nI h (by decide)), nI_clamp (by omega)]
theorem rd_39 {i : Nat} (h : i < 24) : aI (mkS m kp b) 0 39 (nI i) = some (m 39 i) := by rw [aI_39, if_pos (inB_nI h (by decide)), nI_clamp (by omega)]
theorem wr_39 {i : Nat} {v : Int32} (h : i < 24) : sI (mkS m kp b) 39 (nI i) v = some (mkS (st1 m 39 i v) kp b) := by rw [sI_39, if_pos (inB_nI h (by decide)), nI_clamp (by omega)]
theorem rd_41 {i : Nat} (h : i < 24) : aI (mkS m kp b) 0 41 (nI i) = some (m 41 i) := by rw [aI_41, if_pos (inB_nI h (by decide)), nI_clamp (by omega)]
theorem wr_41 {i : Nat} {v : Int32} (h : i < 24) : sI (mkS m kp b) 41 (nI i) v = some (mkS (st1 m 41 i v) kp b) := by rw [sI_41, if_pos (inB_nI h (by decide)), nI_clamp (by omega)]
theorem rd_44 {i : Nat} (h : i < 1234) : aI (mkS m kp b) 0 44 (nI i) = some (m 44 i) := by rw [aI_44, if_pos (inB_nI h (by decide)), nI_clamp (by omega)]
theorem wr_44 {i : Nat} {v : Int32} (h : i < 1234) : sI (mkS m kp b) 44 (nI i) v = some (mkS (st1 m 44 i v) kp b) := by rw [sI_44, if_pos (inB_nI h (by decide)), nI_clamp (by omega)]
theorem rd_45 {i : Nat} (h : i < 7) : aI (mkS m kp b) 0 45 (nI i) = some (m 45 i) := by rw [aI_45, if_pos (inB_nI h (by decide)), nI_clamp (by omega)]
theorem wr_45 {i : Nat} {v : Int32} (h : i < 7) : sI (mkS m kp b) 45 (nI i) v = some (mkS (st1 m 45 i v) kp b) := by rw [sI_45, if_pos (inB_nI h (by decide)), nI_clamp (by omega)]
theorem rd_47 {i : Nat} (h : i < 57) : aI (mkS m kp b) 0 47 (nI i) = some (m 47 i) := by rw [aI_47, if_pos (inB_nI h (by decide)), nI_clamp (by omega)]
theorem wr_47 {i : Nat} {v : Int32} (h : i < 57) : sI (mkS m kp b) 47 (nI i) v = some (mkS (st1 m 47 i v) kp b) := by rw [sI_47, if_pos (inB_nI h (by decide)), nI_clamp (by omega)]
theorem rd_48 {i : Nat} (h : i < 3) : aI (mkS m kp b) 0 48 (nI i) = some (m 48 i) := by rw [aI_48, if_pos (inB_nI h (by decide)), nI_clamp (by omega)]
theorem wr_48 {i : Nat} {v : Int32} (h : i < 3) : sI (mkS m kp b) 48 (nI i) v = some (mkS (st1 m 48 i v) kp b) := by rw [sI_48, if_pos (inB_nI h (by decide)), nI_clamp (by omega)]
theorem rd_49 {i : Nat} (h : i < 57) : aI (mkS m kp b) 0 49 (nI i) = some (m 49 i) := by rw [aI_49, if_pos (inB_nI h (by decide)), nI_clamp (by omega)]
theorem wr_49 {i : Nat} {v : Int32} (h : i < 57) : sI (mkS m kp b) 49 (nI i) v = some (mkS (st1 m 49 i v) kp b) := by rw [sI_49, if_pos (inB_nI h (by decide)), nI_clamp (by omega)]
theorem rd_50 {i : Nat} (h : i < 5) : aI (mkS m kp b) 0 50 (nI i) = some (m 50 i) := by rw [aI_50, if_pos (inB_nI h (by decide)), nI_clamp (by omega)]
theorem wr_50 {i : Nat} {v : Int32} (h : i < 5) : sI (mkS m kp b) 50 (nI i) v = some (mkS (st1 m 50 i v) kp b) := by rw [sI_50, if_pos (inB_nI h (by decide)), nI_clamp (by omega)]
theorem rd_51 {i : Nat} (h : i < 24) : aI (mkS m kp b) 0 51 (nI i) = some (m 51 i) := by rw [aI_51, if_pos (inB_nI h (by decide)), nI_clamp (by omega)]
theorem wr_51 {i : Nat} {v : Int32} (h : i < 24) : sI (mkS m kp b) 51 (nI i) v = some (mkS (st1 m 51 i v) kp b) := by rw [sI_51, if_pos (inB_nI h (by decide)), nI_clamp (by omega)]
theorem rd_52 {i : Nat} (h : i < 8) : aI (mkS m kp b) 0 52 (nI i) = some (m 52 i) := by rw [aI_52, if_pos (inB_nI h (by decide)), nI_clamp (by omega)]
theorem wr_52 {i : Nat} {v : Int32} (h : i < 8) : sI (mkS m kp b) 52 (nI i) v = some (mkS (st1 m 52 i v) kp b) := by rw [sI_52, if_pos (inB_nI h (by decide)), nI_clamp (by omega)]
theorem rd_53 {i : Nat} (h : i < 30) : aI (mkS m kp b) 0 53 (nI i) = some (m 53 i) := by rw [aI_53, if_pos (inB_nI h (by decide)), nI_clamp (by omega)]
theorem wr_53 {i : Nat} {v : Int32} (h : i < 30) : sI (mkS m kp b) 53 (nI i) v = some (mkS (st1 m 53 i v) kp b) := by rw [sI_53, if_pos (inB_nI h (by decide)), nI_clamp (by omega)]
theorem rd_54 {i : Nat} (h : i < 30) : aI (mkS m kp b) 0 54 (nI i) = some (m 54 i) := by rw [aI_54, if_pos (inB_nI h (by decide)), nI_clamp (by omega)]
theorem wr_54 {i : Nat} {v : Int32} (h : i < 30) : sI (mkS m kp b) 54 (nI i) v = some (mkS (st1 m 54 i v) kp b) := by rw [sI_54, if_pos (inB_nI h (by decide)), nI_clamp (by omega)]
theorem rd_55 {i : Nat} (h : i < 4) : aI (mkS m kp b) 0 55 (nI i) = some (m 55 i) := by rw [aI_55, if_pos (inB_nI h (by decide)), nI_clamp (by omega)]
theorem wr_55 {i : Nat} {v : Int32} (h : i < 4) : sI (mkS m kp b) 55 (nI i) v = some (mkS (st1 m 55 i v) kp b) := by rw [sI_55, if_pos (inB_nI h (by decide)), nI_clamp (by omega)]
theorem rd_56 {i : Nat} (h : i < 4) : aI (mkS m kp b) 0 56 (nI i) = some (m 56 i) := by rw [aI_56, if_pos (inB_nI h (by decide)), nI_clamp (by omega)]
theorem wr_56 {i : Nat} {v : Int32} (h : i < 4) : sI (mkS m kp b) 56 (nI i) v = some (mkS (st1 m 56 i v) kp b) := by rw [sI_56, if_pos (inB_nI h (by decide)), nI_clamp (by omega)]
theorem rd_57 {i : Nat} (h : i < 96) : aI (mkS m kp b) 0 57 (nI i) = some (m 57 i) := by rw [aI_57, if_pos (inB_nI h (by decide)), nI_clamp (by omega)]
theorem wr_57 {i : Nat} {v : Int32} (h : i < 96) : sI (mkS m kp b) 57 (nI i) v = some (mkS (st1 m 57 i v) kp b) := by rw [sI_57, if_pos (inB_nI h (by decide)), nI_clamp (by omega)]
theorem rd_58 {i : Nat} (h : i < 24) : aI (mkS m kp b) 0 58 (nI i) = some (m 58 i) := by rw [aI_58, if_pos (inB_nI h (by decide)), nI_clamp (by omega)]
theorem wr_58 {i : Nat} {v : Int32} (h : i < 24) : sI (mkS m kp b) 58 (nI i) v = some (mkS (st1 m 58 i v) kp b) := by rw [sI_58, if_pos (inB_nI h (by decide)), nI_clamp (by omega)]
theorem le_pred {n : Nat} (hn : n ≤ 1000) {a : Int32} : (0 ≤ a ∧ a ≤ nI n - 1) ↔ (0 ≤ a ∧ a < nI n) := by
  have e : (nI n - 1).toInt = (n : Int) - 1 := pk_sub_toInt (a := n) (b := 1) (by omega) (by omega)
  simp only [Int32.le_iff_toInt_le, Int32.lt_iff_toInt_lt, e, nI_toInt (show n < 2 ^ 31 by omega), Int32.toInt_zero]
  omega
theorem is_0 {n : Nat} (h : m 43 0 = nI n) (hn : n ≤ 1000) {a : Int32} : f_X8_is (mkS m kp b) 42 a 0 = some (if 0 ≤ a ∧ a < nI n then 1 else 0) := by
  unfold f_X8_is
  simp only [io_0, gI_0, pI_0, pZ_0, io_1, gI_1, pI_1, pZ_1, io_2, gI_2, pI_2, pZ_2, aL_3, io_4, gI_4, pI_4, pZ_4, aL_5, io_6, gI_6, pI_6, pZ_6, aL_7, aL_8, io_9, gI_9, pI_9, pZ_9, aL_10, io_11, gI_11, pI_11, pZ_11, aL_12, io_13, gI_13, pI_13, pZ_13, aL_14, io_15, gI_15, pI_15, pZ_15, aL_16, io_17, gI_17, pI_17, pZ_17, aL_18, aL_19, io_20, gI_20, pI_20, pZ_20, aL_21, io_22, gI_22, pI_22, pZ_22, aL_23, io_24, gI_24, pI_24, pZ_24, aL_25, io_26, gI_26, pI_26, pZ_26, io_27, gI_27, pI_27, pZ_27, aL_28, aL_29, aL_30, aL_31, aL_32, aL_33, io_34, gI_34, pI_34, pZ_34, aL_35, io_36, gI_36, pI_36, pZ_36, aL_37, io_38, gI_38, pI_38, pZ_38, aL_39, io_40, gI_40, pI_40, pZ_40, aL_41, io_42, gI_42, pI_42, pZ_42, aL_43, aL_44, aL_45, aL_46, aL_47, aL_48, aL_49, aL_50, aL_51, aL_52, aL_53, aL_54, aL_55, aL_56, aL_57, aL_58, gq_0_0, gq_0_1, gq_0_2, gq_0_3, gq_0_4, gq_0_5, gq_0_6, gq_0_7, gq_1_0, gq_1_1, gq_1_2, gq_1_3, gq_1_4, gq_1_5, gq_1_6, gq_1_7, gq_1_8, gq_1_9, gq_2_2, gq_4_2, gq_6_2, gq_9_2, gq_11_2, gq_13_2, gq_15_2, gq_17_0, gq_20_0, gq_22_0, gq_24_0, gq_27_0, gq_34_0, gq_36_0, gq_38_0, gq_40_0, gq_42_0, gq_42_1, gq_42_3, gq_42_4, gq_42_11, gq_42_12, gq_42_13, gq_42_15, gq_42_16, gq_42_17, gq_42_18, gq_42_19, gq_42_23, gq_42_24, gq_42_25, gq_42_26, aQ_29_0, aQ_29_1, aQ_29_2, aQ_29_3, aQ_19_0, aQ_19_1, aQ_19_2, aQ_46_0, aQ_46_1, aQ_46_2, gq_26, gr_26, gr_0_8, pQ_26, Option.bind_some, ↓reduceIte, rdl_0, h, within_eq, le_pred hn, z10]
theorem is_1 {n : Nat} (h : m 43 1 = nI n) (hn : n ≤ 1000) {a : Int32} : f_X8_is (mkS m kp b) 42 a 1 = some (if 0 ≤ a ∧ a < nI n then 1 else 0) := by
  unfold f_X8_is
  simp only [io_0, gI_0, pI_0, pZ_0, io_1, gI_1, pI_1, pZ_1, io_2, gI_2, pI_2, pZ_2, aL_3, io_4, gI_4, pI_4, pZ_4, aL_5, io_6, gI_6, pI_6, pZ_6, aL_7, aL_8, io_9, gI_9, pI_9, pZ_9, aL_10, io_11, gI_11, pI_11, pZ_11, aL_12, io_13, gI_13, pI_13, pZ_13, aL_14, io_15, gI_15, pI_15, pZ_15, aL_16, io_17, gI_17, pI_17, pZ_17, aL_18, aL_19, io_20, gI_20, pI_20, pZ_20, aL_21, io_22, gI_22, pI_22, pZ_22, aL_23, io_24, gI_24, pI_24, pZ_24, aL_25, io_26, gI_26, pI_26, pZ_26, io_27, gI_27, pI_27, pZ_27, aL_28, aL_29, aL_30, aL_31, aL_32, aL_33, io_34, gI_34, pI_34, pZ_34, aL_35, io_36, gI_36, pI_36, pZ_36, aL_37, io_38, gI_38, pI_38, pZ_38, aL_39, io_40, gI_40, pI_40, pZ_40, aL_41, io_42, gI_42, pI_42, pZ_42, aL_43, aL_44, aL_45, aL_46, aL_47, aL_48, aL_49, aL_50, aL_51, aL_52, aL_53, aL_54, aL_55, aL_56, aL_57, aL_58, gq_0_0, gq_0_1, gq_0_2, gq_0_3, gq_0_4, gq_0_5, gq_0_6, gq_0_7, gq_1_0, gq_1_1, gq_1_2, gq_1_3, gq_1_4, gq_1_5, gq_1_6, gq_1_7, gq_1_8, gq_1_9, gq_2_2, gq_4_2, gq_6_2, gq_9_2, gq_11_2, gq_13_2, gq_15_2, gq_17_0, gq_20_0, gq_22_0, gq_24_0, gq_27_0, gq_34_0, gq_36_0, gq_38_0, gq_40_0, gq_42_0, gq_42_1, gq_42_3, gq_42_4, gq_42_11, gq_42_12, gq_42_13, gq_42_15, gq_42_16, gq_42_17, gq_42_18, gq_42_19, gq_42_23, gq_42_24, gq_42_25, gq_42_26, aQ_29_0, aQ_29_1, aQ_29_2, aQ_29_3, aQ_19_0, aQ_19_1, aQ_19_2, aQ_46_0, aQ_46_1, aQ_46_2, gq_26, gr_26, gr_0_8, pQ_26, Option.bind_some, ↓reduceIte, rdl_1, h, within_eq, le_pred hn, z10]
theorem bec_eq {k : Nat} {v : Int32} (h : k < 1234) : f_X8_become (mkS m kp b) 42 (nI k) v = some (m 43 k, mkS (st1 m 43 k v) kp b) := by
  unfold f_X8_become
  simp only [io_0, gI_0, pI_0, pZ_0, io_1, gI_1, pI_1, pZ_1, io_2, gI_2, pI_2, pZ_2, aL_3, io_4, gI_4, pI_4, pZ_4, aL_5, io_6, gI_6, pI_6, pZ_6, aL_7, aL_8, io_9, gI_9, pI_9, pZ_9, aL_10, io_11, gI_11, pI_11, pZ_11, aL_12, io_13, gI_13, pI_13, pZ_13, aL_14, io_15, gI_15, pI_15, pZ_15, aL_16, io_17, gI_17, pI_17, pZ_17, aL_18, aL_19, io_20, gI_20, pI_20, pZ_20, aL_21, io_22, gI_22, pI_22, pZ_22, aL_23, io_24, gI_24, pI_24, pZ_24, aL_25, io_26, gI_26, pI_26, pZ_26, io_27, gI_27, pI_27, pZ_27, aL_28, aL_29, aL_30, aL_31, aL_32, aL_33, io_34, gI_34, pI_34, pZ_34, aL_35, io_36, gI_36, pI_36, pZ_36, aL_37, io_38, gI_38, pI_38, pZ_38, aL_39, io_40, gI_40, pI_40, pZ_40, aL_41, io_42, gI_42, pI_42, pZ_42, aL_43, aL_44, aL_45, aL_46, aL_47, aL_48, aL_49, aL_50, aL_51, aL_52, aL_53, aL_54, aL_55, aL_56, aL_57, aL_58, gq_0_0, gq_0_1, gq_0_2, gq_0_3, gq_0_4, gq_0_5, gq_0_6, gq_0_7, gq_1_0, gq_1_1, gq_1_2, gq_1_3, gq_1_4, gq_1_5, gq_1_6, gq_1_7, gq_1_8, gq_1_9, gq_2_2, gq_4_2, gq_6_2, gq_9_2, gq_11_2, gq_13_2, gq_15_2, gq_17_0, gq_20_0, gq_22_0, gq_24_0, gq_27_0, gq_34_0, gq_36_0, gq_38_0, gq_40_0, gq_42_0, gq_42_1, gq_42_3, gq_42_4, gq_42_11, gq_42_12, gq_42_13, gq_42_15, gq_42_16, gq_42_17, gq_42_18, gq_42_19, gq_42_23, gq_42_24, gq_42_25, gq_42_26, aQ_29_0, aQ_29_1, aQ_29_2, aQ_29_3, aQ_19_0, aQ_19_1, aQ_19_2, aQ_46_0, aQ_46_1, aQ_46_2, gq_26, gr_26, gr_0_8, pQ_26, Option.bind_some, ↓reduceIte, rd_43 h, wr_43 h]
theorem ixP {p f : Nat} : (((22 : Int32) + ((5 : Int32) * nI p)) + nI f) = nI (22 + 5 * p + f) := by
  rw [show (22 : Int32) = nI 22 from rfl, show (5 : Int32) = nI 5 from rfl, pk_mul, nI_add, nI_add]
theorem ixC {p f : Nat} : (((82 : Int32) + ((29 : Int32) * nI p)) + nI f) = nI (82 + 29 * p + f) := by
  rw [show (82 : Int32) = nI 82 from rfl, show (29 : Int32) = nI 29 from rfl, pk_mul, nI_add, nI_add]
theorem ixP0 {p : Nat} : (((22 : Int32) + ((5 : Int32) * nI p)) + 0) = nI (22 + 5 * p) := ixP (f := 0)
theorem ixP1 {p : Nat} : (((22 : Int32) + ((5 : Int32) * nI p)) + 1) = nI (22 + 5 * p + 1) := ixP (f := 1)
theorem ixP2 {p : Nat} : (((22 : Int32) + ((5 : Int32) * nI p)) + 2) = nI (22 + 5 * p + 2) := ixP (f := 2)
theorem ixP3 {p : Nat} : (((22 : Int32) + ((5 : Int32) * nI p)) + 3) = nI (22 + 5 * p + 3) := ixP (f := 3)
theorem ixP4 {p : Nat} : (((22 : Int32) + ((5 : Int32) * nI p)) + 4) = nI (22 + 5 * p + 4) := ixP (f := 4)
theorem ixC0 {p : Nat} : (((82 : Int32) + ((29 : Int32) * nI p)) + 0) = nI (82 + 29 * p) := ixC (f := 0)
theorem ixC1 {p : Nat} : (((82 : Int32) + ((29 : Int32) * nI p)) + 1) = nI (82 + 29 * p + 1) := ixC (f := 1)
theorem ixC2 {p : Nat} : (((82 : Int32) + ((29 : Int32) * nI p)) + 2) = nI (82 + 29 * p + 2) := ixC (f := 2)
theorem ixC3 {p : Nat} : (((82 : Int32) + ((29 : Int32) * nI p)) + 3) = nI (82 + 29 * p + 3) := ixC (f := 3)
theorem ixC4 {p : Nat} : (((82 : Int32) + ((29 : Int32) * nI p)) + 4) = nI (82 + 29 * p + 4) := ixC (f := 4)
theorem mpap {p f : Nat} (hp : p < 12) (hf : f < 5) : f_X8_paper (mkS m kp b) 42 (nI p) (nI f) = some (m 43 (22 + 5 * p + f)) := by
  unfold f_X8_paper
  rw [ixP]
  simp only [io_0, gI_0, pI_0, pZ_0, io_1, gI_1, pI_1, pZ_1, io_2, gI_2, pI_2, pZ_2, aL_3, io_4, gI_4, pI_4, pZ_4, aL_5, io_6, gI_6, pI_6, pZ_6, aL_7, aL_8, io_9, gI_9, pI_9, pZ_9, aL_10, io_11, gI_11, pI_11, pZ_11, aL_12, io_13, gI_13, pI_13, pZ_13, aL_14, io_15, gI_15, pI_15, pZ_15, aL_16, io_17, gI_17, pI_17, pZ_17, aL_18, aL_19, io_20, gI_20, pI_20, pZ_20, aL_21, io_22, gI_22, pI_22, pZ_22, aL_23, io_24, gI_24, pI_24, pZ_24, aL_25, io_26, gI_26, pI_26, pZ_26, io_27, gI_27, pI_27, pZ_27, aL_28, aL_29, aL_30, aL_31, aL_32, aL_33, io_34, gI_34, pI_34, pZ_34, aL_35, io_36, gI_36, pI_36, pZ_36, aL_37, io_38, gI_38, pI_38, pZ_38, aL_39, io_40, gI_40, pI_40, pZ_40, aL_41, io_42, gI_42, pI_42, pZ_42, aL_43, aL_44, aL_45, aL_46, aL_47, aL_48, aL_49, aL_50, aL_51, aL_52, aL_53, aL_54, aL_55, aL_56, aL_57, aL_58, gq_0_0, gq_0_1, gq_0_2, gq_0_3, gq_0_4, gq_0_5, gq_0_6, gq_0_7, gq_1_0, gq_1_1, gq_1_2, gq_1_3, gq_1_4, gq_1_5, gq_1_6, gq_1_7, gq_1_8, gq_1_9, gq_2_2, gq_4_2, gq_6_2, gq_9_2, gq_11_2, gq_13_2, gq_15_2, gq_17_0, gq_20_0, gq_22_0, gq_24_0, gq_27_0, gq_34_0, gq_36_0, gq_38_0, gq_40_0, gq_42_0, gq_42_1, gq_42_3, gq_42_4, gq_42_11, gq_42_12, gq_42_13, gq_42_15, gq_42_16, gq_42_17, gq_42_18, gq_42_19, gq_42_23, gq_42_24, gq_42_25, gq_42_26, aQ_29_0, aQ_29_1, aQ_29_2, aQ_29_3, aQ_19_0, aQ_19_1, aQ_19_2, aQ_46_0, aQ_46_1, aQ_46_2, gq_26, gr_26, gr_0_8, pQ_26, Option.bind_some, ↓reduceIte, rd_43 (show 22 + 5 * p + f < 1234 by omega)]
theorem mcur {c f : Nat} (hc : c < 24) (hf : f < 29) : f_X8_curve (mkS m kp b) 42 (nI c) (nI f) = some (m 43 (82 + 29 * c + f)) := by
  unfold f_X8_curve
  rw [ixC]
  simp only [io_0, gI_0, pI_0, pZ_0, io_1, gI_1, pI_1, pZ_1, io_2, gI_2, pI_2, pZ_2, aL_3, io_4, gI_4, pI_4, pZ_4, aL_5, io_6, gI_6, pI_6, pZ_6, aL_7, aL_8, io_9, gI_9, pI_9, pZ_9, aL_10, io_11, gI_11, pI_11, pZ_11, aL_12, io_13, gI_13, pI_13, pZ_13, aL_14, io_15, gI_15, pI_15, pZ_15, aL_16, io_17, gI_17, pI_17, pZ_17, aL_18, aL_19, io_20, gI_20, pI_20, pZ_20, aL_21, io_22, gI_22, pI_22, pZ_22, aL_23, io_24, gI_24, pI_24, pZ_24, aL_25, io_26, gI_26, pI_26, pZ_26, io_27, gI_27, pI_27, pZ_27, aL_28, aL_29, aL_30, aL_31, aL_32, aL_33, io_34, gI_34, pI_34, pZ_34, aL_35, io_36, gI_36, pI_36, pZ_36, aL_37, io_38, gI_38, pI_38, pZ_38, aL_39, io_40, gI_40, pI_40, pZ_40, aL_41, io_42, gI_42, pI_42, pZ_42, aL_43, aL_44, aL_45, aL_46, aL_47, aL_48, aL_49, aL_50, aL_51, aL_52, aL_53, aL_54, aL_55, aL_56, aL_57, aL_58, gq_0_0, gq_0_1, gq_0_2, gq_0_3, gq_0_4, gq_0_5, gq_0_6, gq_0_7, gq_1_0, gq_1_1, gq_1_2, gq_1_3, gq_1_4, gq_1_5, gq_1_6, gq_1_7, gq_1_8, gq_1_9, gq_2_2, gq_4_2, gq_6_2, gq_9_2, gq_11_2, gq_13_2, gq_15_2, gq_17_0, gq_20_0, gq_22_0, gq_24_0, gq_27_0, gq_34_0, gq_36_0, gq_38_0, gq_40_0, gq_42_0, gq_42_1, gq_42_3, gq_42_4, gq_42_11, gq_42_12, gq_42_13, gq_42_15, gq_42_16, gq_42_17, gq_42_18, gq_42_19, gq_42_23, gq_42_24, gq_42_25, gq_42_26, aQ_29_0, aQ_29_1, aQ_29_2, aQ_29_3, aQ_19_0, aQ_19_1, aQ_19_2, aQ_46_0, aQ_46_1, aQ_46_2, gq_26, gr_26, gr_0_8, pQ_26, Option.bind_some, ↓reduceIte, rd_43 (show 82 + 29 * c + f < 1234 by omega)]
theorem mcur0 {c : Nat} (hc : c < 24) : f_X8_curve (mkS m kp b) 42 (nI c) 0 = some (m 43 (82 + 29 * c)) := mcur hc (f := 0) (by decide)
theorem mcur1 {c : Nat} (hc : c < 24) : f_X8_curve (mkS m kp b) 42 (nI c) 1 = some (m 43 (82 + 29 * c + 1)) := mcur hc (f := 1) (by decide)
theorem mcur2 {c : Nat} (hc : c < 24) : f_X8_curve (mkS m kp b) 42 (nI c) 2 = some (m 43 (82 + 29 * c + 2)) := mcur hc (f := 2) (by decide)
theorem mcur3 {c : Nat} (hc : c < 24) : f_X8_curve (mkS m kp b) 42 (nI c) 3 = some (m 43 (82 + 29 * c + 3)) := mcur hc (f := 3) (by decide)
theorem mmany {c : Nat} (hc : c < 24) : f_X8_many (mkS m kp b) 42 (nI c) = some (m 43 (82 + 29 * c + 3)) := by
  unfold f_X8_many
  simp only [io_0, gI_0, pI_0, pZ_0, io_1, gI_1, pI_1, pZ_1, io_2, gI_2, pI_2, pZ_2, aL_3, io_4, gI_4, pI_4, pZ_4, aL_5, io_6, gI_6, pI_6, pZ_6, aL_7, aL_8, io_9, gI_9, pI_9, pZ_9, aL_10, io_11, gI_11, pI_11, pZ_11, aL_12, io_13, gI_13, pI_13, pZ_13, aL_14, io_15, gI_15, pI_15, pZ_15, aL_16, io_17, gI_17, pI_17, pZ_17, aL_18, aL_19, io_20, gI_20, pI_20, pZ_20, aL_21, io_22, gI_22, pI_22, pZ_22, aL_23, io_24, gI_24, pI_24, pZ_24, aL_25, io_26, gI_26, pI_26, pZ_26, io_27, gI_27, pI_27, pZ_27, aL_28, aL_29, aL_30, aL_31, aL_32, aL_33, io_34, gI_34, pI_34, pZ_34, aL_35, io_36, gI_36, pI_36, pZ_36, aL_37, io_38, gI_38, pI_38, pZ_38, aL_39, io_40, gI_40, pI_40, pZ_40, aL_41, io_42, gI_42, pI_42, pZ_42, aL_43, aL_44, aL_45, aL_46, aL_47, aL_48, aL_49, aL_50, aL_51, aL_52, aL_53, aL_54, aL_55, aL_56, aL_57, aL_58, gq_0_0, gq_0_1, gq_0_2, gq_0_3, gq_0_4, gq_0_5, gq_0_6, gq_0_7, gq_1_0, gq_1_1, gq_1_2, gq_1_3, gq_1_4, gq_1_5, gq_1_6, gq_1_7, gq_1_8, gq_1_9, gq_2_2, gq_4_2, gq_6_2, gq_9_2, gq_11_2, gq_13_2, gq_15_2, gq_17_0, gq_20_0, gq_22_0, gq_24_0, gq_27_0, gq_34_0, gq_36_0, gq_38_0, gq_40_0, gq_42_0, gq_42_1, gq_42_3, gq_42_4, gq_42_11, gq_42_12, gq_42_13, gq_42_15, gq_42_16, gq_42_17, gq_42_18, gq_42_19, gq_42_23, gq_42_24, gq_42_25, gq_42_26, aQ_29_0, aQ_29_1, aQ_29_2, aQ_29_3, aQ_19_0, aQ_19_1, aQ_19_2, aQ_46_0, aQ_46_1, aQ_46_2, gq_26, gr_26, gr_0_8, pQ_26, Option.bind_some, ↓reduceIte, mcur3 hc]
theorem mdot {c j : Nat} (hc : c < 24) (hj : j < 24) : f_X8_dot (mkS m kp b) 42 (nI c) (nI j) = some (m 43 (87 + 29 * c + j)) := by
  unfold f_X8_dot
  rw [show (5 : Int32) = nI 5 from rfl, nI_add]
  simp only [io_0, gI_0, pI_0, pZ_0, io_1, gI_1, pI_1, pZ_1, io_2, gI_2, pI_2, pZ_2, aL_3, io_4, gI_4, pI_4, pZ_4, aL_5, io_6, gI_6, pI_6, pZ_6, aL_7, aL_8, io_9, gI_9, pI_9, pZ_9, aL_10, io_11, gI_11, pI_11, pZ_11, aL_12, io_13, gI_13, pI_13, pZ_13, aL_14, io_15, gI_15, pI_15, pZ_15, aL_16, io_17, gI_17, pI_17, pZ_17, aL_18, aL_19, io_20, gI_20, pI_20, pZ_20, aL_21, io_22, gI_22, pI_22, pZ_22, aL_23, io_24, gI_24, pI_24, pZ_24, aL_25, io_26, gI_26, pI_26, pZ_26, io_27, gI_27, pI_27, pZ_27, aL_28, aL_29, aL_30, aL_31, aL_32, aL_33, io_34, gI_34, pI_34, pZ_34, aL_35, io_36, gI_36, pI_36, pZ_36, aL_37, io_38, gI_38, pI_38, pZ_38, aL_39, io_40, gI_40, pI_40, pZ_40, aL_41, io_42, gI_42, pI_42, pZ_42, aL_43, aL_44, aL_45, aL_46, aL_47, aL_48, aL_49, aL_50, aL_51, aL_52, aL_53, aL_54, aL_55, aL_56, aL_57, aL_58, gq_0_0, gq_0_1, gq_0_2, gq_0_3, gq_0_4, gq_0_5, gq_0_6, gq_0_7, gq_1_0, gq_1_1, gq_1_2, gq_1_3, gq_1_4, gq_1_5, gq_1_6, gq_1_7, gq_1_8, gq_1_9, gq_2_2, gq_4_2, gq_6_2, gq_9_2, gq_11_2, gq_13_2, gq_15_2, gq_17_0, gq_20_0, gq_22_0, gq_24_0, gq_27_0, gq_34_0, gq_36_0, gq_38_0, gq_40_0, gq_42_0, gq_42_1, gq_42_3, gq_42_4, gq_42_11, gq_42_12, gq_42_13, gq_42_15, gq_42_16, gq_42_17, gq_42_18, gq_42_19, gq_42_23, gq_42_24, gq_42_25, gq_42_26, aQ_29_0, aQ_29_1, aQ_29_2, aQ_29_3, aQ_19_0, aQ_19_1, aQ_19_2, aQ_46_0, aQ_46_1, aQ_46_2, gq_26, gr_26, gr_0_8, pQ_26, Option.bind_some, ↓reduceIte, mcur hc (show 5 + j < 29 by omega)]
  rw [show 82 + 29 * c + (5 + j) = 87 + 29 * c + j by omega]
end MD
/-! an act on both sides -/
def OpR (fx fm : St → Option (Int32 × St)) : Prop := ∀ (m : Nat → Nat → Int32) (kp : Bool) (b : Option Nat) (z : Nat), RR m kp z → ∃ r m1 kp1 b1 m2, fx (mkS m kp b) = some (r, mkS m1 kp1 b1) ∧ fm (mkS m1 kp1 b1) = some (r, mkS m2 kp1 b1) ∧ RR m2 kp1 (z + 1)
theorem RR.up {m : Nat → Nat → Int32} {kp : Bool} {z : Nat} (h : RR m kp z) : RR m kp (z + 1) := by
  obtain ⟨e1, e2, e3, e4, e5, e6⟩ := h
  exact ⟨e1, e2, e3, e4, e5, e6.fr (Nat.le_succ z) rfl rfl⟩
/-- both sides tell ERROR k -/
theorem op_err1 {fx fm : St → Option (Int32 × St)} {m : Nat → Nat → Int32} {kp : Bool} {b : Option Nat} {z : Nat} {e : Int32} {k : Nat} (hk : k < 7) (hR : RR m kp z) (h1 : fx (mkS m kp b) = some (e, mkS (st1 m 30 k (m 30 k + 1)) kp b)) (h2 : fm (mkS (st1 m 30 k (m 30 k + 1)) kp b) = some (e, mkS (st1 (st1 m 30 k (m 30 k + 1)) 45 k (st1 m 30 k (m 30 k + 1) 45 k + 1)) kp b)) : ∃ r m1 kp1 b1 m2, fx (mkS m kp b) = some (r, mkS m1 kp1 b1) ∧ fm (mkS m1 kp1 b1) = some (r, mkS m2 kp1 b1) ∧ RR m2 kp1 (z + 1) :=
  ⟨_, _, _, _, _, h1, h2, RR_err hR (Nat.le_succ z) hk⟩
theorem ex_nI {a : Int32} {n : Nat} (hn : n < 2 ^ 31) (h : 0 ≤ a ∧ a < nI n) : ∃ j, j < n ∧ a = nI j := by
  obtain ⟨j, hj, rfl⟩ := nI_of (x := a) (Int32.not_lt.mpr h.1)
  refine ⟨j, ?_, rfl⟩
  exact (nI_ltI hj hn).mp h.2
theorem ex_nI2 {a : Int32} {n : Nat} (hn : n < 2 ^ 31) (h : 0 ≤ a ∧ a ≤ nI n) : ∃ j, j ≤ n ∧ a = nI j := by
  obtain ⟨j, hj, rfl⟩ := nI_of (x := a) (Int32.not_lt.mpr h.1)
  refine ⟨j, ?_, rfl⟩
  exact (nI_leI hj hn).mp h.2
