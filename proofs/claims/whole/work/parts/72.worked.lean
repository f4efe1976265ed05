/-! worked -/
def dAb (x : Int64) : Int64 := if 0 ≤ lg_cmp x 0 then x else -x
def mxL (x y : Int64) : Int64 := if lg_cmp x y < 0 then y else x
def wkD (m : Nat → Nat → Int32) (q j : Nat) : Int64 := dAb ((m 43 (87 + 29 * q + j)).toInt64 - (lwV m q (nI j)).toInt64)
def stp (m : Nat → Nat → Int32) (q : Nat) : Int32 := m 43 (10 + 3 * mcN m q)
def wkG (m : Nat → Nat → Int32) (q : Nat) (w : Int32) (j : Nat) (a : Int64 × Int32 × Int32) : Int64 × Int32 × Int32 := (mxL a.1 (wkD m q j), a.2.1 + (if (lg_cmp (lrm (wkD m q j) (stp m q).toInt64) 0) = 0 then 0 else 1 : Int32), a.2.2 + (if 0 < (lg_cmp (wkD m q j) w.toInt64) then 0 else 1 : Int32))
section WK
variable {m : Nat → Nat → Int32} {kp : Bool} {b : Option Nat} {z : Nat} {c : Nat → Nat}
theorem absL {σ : St} {x : Int64} : f_J9_abs_067f4 σ x = some (dAb x) := by
  unfold f_J9_abs_067f4 dAb
  by_cases h : 0 ≤ lg_cmp x 0
  · rw [if_pos h, if_pos h]
  · rw [if_neg h, if_neg h]
theorem maxL {σ : St} {x y : Int64} : f_J9_max_f86c9 σ x y = some (mxL x y) := rfl
theorem minL {σ τ : St} {x y : Int64} : f_J9_min_f86c9 σ x y = f_J9_min_f86c9 τ y x := by
  unfold f_J9_min_f86c9
  congr 1
  simp only [lg_cmp_gt, gt_iff_lt]
  by_cases h1 : y < x
  · rw [if_pos h1, if_neg (fun h => Int64.lt_irrefl (Int64.lt_trans h1 h))]
  · rw [if_neg h1]
    by_cases h2 : x < y
    · rw [if_pos h2]
    · rw [if_neg h2]
      exact Int64.le_antisymm (Int64.not_lt.mp h1) (Int64.not_lt.mp h2)
theorem stp_b {q : Nat} (h : RS m 1 43 c) (hq : q < c 1) : 1 ≤ stp m q ∧ stp m q ≤ 99 := (h.1.2.2.2.2 (mcN m q) (mc_of h hq).1).1
theorem stp_n {q : Nat} (h : RS m 1 43 c) (hq : q < c 1) : (stp m q).toInt64 ≠ 0 := by
  have i := (stp_b h hq).1
  intro e
  have e2 := congrArg Int64.toInt e
  rw [Int32.toInt_toInt64] at e2
  rw [Int32.le_iff_toInt_le, show (1 : Int32).toInt = 1 by decide] at i
  rw [show (0 : Int64).toInt = 0 by decide] at e2
  omega
theorem wkG_S {M : Nat → Nat → Int32} (h : EqS m M) : wkG M = wkG m := by
  have h43 : M 43 = m 43 := h.at 43 (by omega) (by omega)
  funext q w j a
  unfold wkG wkD stp
  rw [lwV_S h, mcN_fr h43, h43]
theorem wk7 {q X : Nat} {w : Int32} (h : RS m 1 43 c) (hq : q < c 1) (hX : X ≤ 24) (eX : m 43 (82 + 29 * q + 3) = nI X) : ∃ M b', f_X7_worked_L82 (stp m q).toInt64 0 (nI q) w 3000 0 0 0 0 (mkS m kp b) = some (nI X, (it (wkG m q w) X 0 (0, 0, 0)).1, (it (wkG m q w) X 0 (0, 0, 0)).2.1, (it (wkG m q w) X 0 (0, 0, 0)).2.2, mkS M kp b') ∧ EqS m M := by
  obtain ⟨w1, w2, w3, w4, w5, w6, w6b, w7⟩ := id h.2.2.2.1
  have e7 : m 7 (q * 5 + 3) = nI X := by rw [← eX]; exact w6 q 3 (by omega) (by decide)
  obtain ⟨σ1, e, M1, b1, rfl, hE1⟩ := loopZ (fun l j (a : Int64 × Int32 × Int32) σ => f_X7_worked_L82 (stp m q).toInt64 0 (nI q) w l (nI j) a.1 a.2.1 a.2.2 σ) (fun a σ => (nI X, a.1, a.2.1, a.2.2, σ)) (fun _ σ => sTb m kp σ) (wkG m q w) X (fun l j a σ hj hQ => by
    obtain ⟨M, b, rfl, hE⟩ := hQ
    obtain ⟨v1, v2, v3, v4, v5, v6, v6b, v7⟩ := id (RS_S h hE).2.2.2.1
    obtain ⟨M1, b1, el, hE1⟩ := law7 (kp := kp) (b := b) (a := nI j) (RS_S h hE) hq
    have hM7 : M 7 = m 7 := hE.at 7 (by omega) (by omega)
    have h43 : M 43 = m 43 := hE.at 43 (by omega) (by omega)
    rw [lwV_S hE] at el
    refine ⟨mkS M1 kp b1, ?_, M1, b1, rfl, hE.trans hE1⟩
    show f_X7_worked_L82 (stp m q).toInt64 0 (nI q) w (l + 1) (nI j) a.1 a.2.1 a.2.2 (mkS M kp b) = f_X7_worked_L82 (stp m q).toInt64 0 (nI q) w l (nI (j + 1)) (wkG m q w j a).1 (wkG m q w j a).2.1 (wkG m q w j a).2.2 (mkS M1 kp b1)
    rw [f_X7_worked_L82, gq_0_0, Option.bind_some, csz v1 v3 v5 hq, Option.bind_some, hM7, e7, if_neg (nI_ge hj (by omega)), Option.bind_some, cpt (show q < 24 by omega) (show j < 24 by omega), Option.bind_some, el, Option.bind_some, absL, Option.bind_some, maxL, Option.bind_some, (v6b q j (by omega) (by omega)).1, h43, nI_a1]
    unfold neL
    rw [if_neg (stp_n h hq), Option.bind_some]
    rfl) (fun l a σ hQ => by
    obtain ⟨M, b, rfl, hE⟩ := hQ
    obtain ⟨v1, v2, v3, v4, v5, v6, v6b, v7⟩ := id (RS_S h hE).2.2.2.1
    have hM7 : M 7 = m 7 := hE.at 7 (by omega) (by omega)
    show f_X7_worked_L82 (stp m q).toInt64 0 (nI q) w (l + 1) (nI X) a.1 a.2.1 a.2.2 (mkS M kp b) = _
    rw [f_X7_worked_L82, gq_0_0, Option.bind_some, csz v1 v3 v5 hq, Option.bind_some, hM7, e7, if_pos (Int32.le_refl _)]) X 0 3000 (0, 0, 0) (mkS m kp b) (by omega) (by omega) ⟨m, b, rfl, EqS.rfl'⟩
  exact ⟨M1, b1, e, hE1⟩
theorem wk8 {q X : Nat} {w : Int32} (h : RS m 1 43 c) (hq : q < c 1) (hX : X ≤ 24) (eX : m 43 (82 + 29 * q + 3) = nI X) : ∃ M, f_X8_worked_L47 42 (nI q) w 3000 0 0 0 0 (mkS m kp b) = some (nI X, (it (wkG m q w) X 0 (0, 0, 0)).1, (it (wkG m q w) X 0 (0, 0, 0)).2.1, (it (wkG m q w) X 0 (0, 0, 0)).2.2, mkS M kp b) ∧ EqS m M := by
  have w5 := h.2.2.2.1.2.2.2.2.1
  obtain ⟨e1, e2, e3⟩ := mc_of h hq
  obtain ⟨σ1, e, M1, rfl, hE1⟩ := loopZ (fun l j (a : Int64 × Int32 × Int32) σ => f_X8_worked_L47 42 (nI q) w l (nI j) a.1 a.2.1 a.2.2 σ) (fun a σ => (nI X, a.1, a.2.1, a.2.2, σ)) (fun _ σ => sR m kp b σ) (wkG m q w) X (fun l j a σ hj hQ => by
    obtain ⟨M, rfl, hE⟩ := hQ
    obtain ⟨M1, el, hE1⟩ := law8 (kp := kp) (b := b) (a := nI j) (RS_S h hE) hq
    have h43 : M 43 = m 43 := hE.at 43 (by omega) (by omega)
    have h431 : M1 43 = m 43 := (hE.trans hE1).at 43 (by omega) (by omega)
    rw [lwV_S hE] at el
    refine ⟨mkS M1 kp b, ?_, M1, rfl, hE.trans hE1⟩
    show f_X8_worked_L47 42 (nI q) w (l + 1) (nI j) a.1 a.2.1 a.2.2 (mkS M kp b) = f_X8_worked_L47 42 (nI q) w l (nI (j + 1)) (wkG m q w j a).1 (wkG m q w j a).2.1 (wkG m q w j a).2.2 (mkS M1 kp b)
    rw [f_X8_worked_L47, mmany (show q < 24 by omega), Option.bind_some, h43, eX, if_neg (nI_ge hj (by omega)), mdot (show q < 24 by omega) (show j < 24 by omega), Option.bind_some, el, Option.bind_some, absL, Option.bind_some, gq_42_0, Option.bind_some, show (2 : Int32) = nI 2 from rfl, mcur (show q < 24 by omega) (show 2 < 29 by decide), Option.bind_some, h431, e2, ixM0, rd_43 (show 10 + 3 * mcN m q < 1234 by omega), Option.bind_some, h431, h43, show m 43 (10 + 3 * mcN m q) = stp m q from rfl, nI_a1]
    unfold neL
    rw [if_neg (stp_n h hq), Option.bind_some, maxL, Option.bind_some]
    rfl) (fun l a σ hQ => by
    obtain ⟨M, rfl, hE⟩ := hQ
    have h43 : M 43 = m 43 := hE.at 43 (by omega) (by omega)
    show f_X8_worked_L47 42 (nI q) w (l + 1) (nI X) a.1 a.2.1 a.2.2 (mkS M kp b) = _
    rw [f_X8_worked_L47, mmany (show q < 24 by omega), Option.bind_some, h43, eX, if_pos (Int32.le_refl _)]) X 0 3000 (0, 0, 0) (mkS m kp b) (by omega) (by omega) ⟨m, rfl, EqS.rfl'⟩
  exact ⟨M1, e, hE1⟩
def wkR (a : Int64 × Int32 × Int32) (u : Int32) : Int32 := if u = 0 then a.2.2 else if u = 1 then (if 0 < lg_cmp a.1 2000000000 then 2000000000 else a.1 : Int64).toInt32 else a.2.1
theorem op_worked (a w u : Int32) : OpR (fun σ => f_X7_worked σ 0 a w u) (fun σ => f_X8_worked σ 42 a w u) := by
  intro m kp b z hR
  obtain ⟨⟨c, hS⟩, -⟩ := id hR
  obtain ⟨w1, w2, w3, w4, w5, w6, w6b, w7⟩ := id hS.2.2.2.1
  by_cases ha : 0 ≤ a ∧ a < nI (c 1)
  · by_cases hw : 0 ≤ w ∧ w ≤ 99999
    · by_cases hu : 0 ≤ u ∧ u ≤ 2
      · obtain ⟨q, hq, rfl⟩ := ex_nI (n := c 1) (by omega) ha
        obtain ⟨X, hX3, hX24, eX⟩ := (w7 q hq).2.2.2
        obtain ⟨M1, b1, e7, hE1⟩ := wk7 (kp := kp) (b := b) (w := w) hS hq hX24 eX
        have h43 : M1 43 = m 43 := hE1.at 43 (by omega) (by omega)
        obtain ⟨M2, e8, hE2⟩ := wk8 (kp := kp) (b := b1) (w := w) (RS_S hS hE1) hq hX24 (by rw [h43]; exact eX)
        rw [wkG_S hE1] at e8
        obtain ⟨e1, e2, e3⟩ := mc_of hS hq
        have hm : (if (1 : Int32) < stp m q then stp m q else 1 : Int32) = stp m q := by
          have i := (stp_b hS hq).1
          by_cases hl : (1 : Int32) < stp m q
          · rw [if_pos hl]
          · rw [if_neg hl]
            exact Int32.le_antisymm i (Int32.not_lt.mp hl)
        generalize it (wkG m q w) X 0 (0, 0, 0) = R at *
        refine ⟨wkR R u, M1, kp, b1, M2, ?_, ?_, (RR_scr hR (hE1.trans hE2)).up⟩
        · show f_X7_worked (mkS m kp b) 0 (nI q) w u = _
          unfold f_X7_worked f_J9_max_7cf53 wkR
          rw [if_pos io_0, gq_0_0, Option.bind_some, gq_1_2, Option.bind_some, has_6 w3, if_pos ha, Option.bind_some, if_neg (show ¬ (1 : Int32) = 0 by decide), outside_eq, if_pos hw, Option.bind_some, if_pos rfl, outside_eq, if_pos hu, Option.bind_some, if_pos rfl, Option.bind_some, gq_1_0, Option.bind_some, Option.bind_some, gq_1_2, Option.bind_some, at_6_2 w1 w3 w5 hq, Option.bind_some, e3, mach7_0 hS e1, Option.bind_some, show m 43 (10 + 3 * mcN m q) = stp m q from rfl, hm, Option.bind_some, e7, Option.bind_some]
          dsimp only
          by_cases u0 : u = 0
          · rw [if_pos u0, if_pos u0]
          · rw [if_neg u0, if_neg u0]
            by_cases u1 : u = 1
            · rw [if_pos u1, if_pos u1]; rfl
            · rw [if_neg u1, if_neg u1]
        · show f_X8_worked (mkS M1 kp b1) 42 (nI q) w u = _
          unfold f_X8_worked wkR
          rw [if_pos io_42, is_1 (show M1 43 1 = nI (c 1) by rw [h43]; exact w4) (show c 1 ≤ 1000 by omega), if_pos ha, Option.bind_some, if_neg (show ¬ (1 : Int32) = 0 by decide), within_eq, if_pos hw, Option.bind_some, if_neg (show ¬ (1 : Int32) = 0 by decide), within_eq, if_pos hu, Option.bind_some, if_neg (show ¬ (1 : Int32) = 0 by decide), e8, Option.bind_some]
          dsimp only
          by_cases u0 : u = 0
          · rw [if_pos u0, if_pos u0]
          · rw [if_neg u0, if_neg u0]
            by_cases u1 : u = 1
            · rw [if_pos u1, if_pos u1, minL (τ := mkS M2 kp b1)]; rfl
            · rw [if_neg u1, if_neg u1]
      · refine op_err1 (k := 1) (e := -1000001) (by decide) hR ?_ ?_
        · show f_X7_worked (mkS m kp b) 0 a w u = _
          unfold f_X7_worked
          simp only [io_0, gI_0, pI_0, pZ_0, io_1, gI_1, pI_1, pZ_1, io_2, gI_2, pI_2, pZ_2, aL_3, io_4, gI_4, pI_4, pZ_4, aL_5, io_6, gI_6, pI_6, pZ_6, aL_7, aL_8, io_9, gI_9, pI_9, pZ_9, aL_10, io_11, gI_11, pI_11, pZ_11, aL_12, io_13, gI_13, pI_13, pZ_13, aL_14, io_15, gI_15, pI_15, pZ_15, aL_16, io_17, gI_17, pI_17, pZ_17, aL_18, aL_19, io_20, gI_20, pI_20, pZ_20, aL_21, io_22, gI_22, pI_22, pZ_22, aL_23, io_24, gI_24, pI_24, pZ_24, aL_25, io_26, gI_26, pI_26, pZ_26, io_27, gI_27, pI_27, pZ_27, aL_28, aL_29, aL_30, aL_31, aL_32, aL_33, io_34, gI_34, pI_34, pZ_34, aL_35, io_36, gI_36, pI_36, pZ_36, aL_37, io_38, gI_38, pI_38, pZ_38, aL_39, io_40, gI_40, pI_40, pZ_40, aL_41, io_42, gI_42, pI_42, pZ_42, aL_43, aL_44, aL_45, aL_46, aL_47, aL_48, aL_49, aL_50, aL_51, aL_52, aL_53, aL_54, aL_55, aL_56, aL_57, aL_58, gq_0_0, gq_0_1, gq_0_2, gq_0_3, gq_0_4, gq_0_5, gq_0_6, gq_0_7, gq_1_0, gq_1_1, gq_1_2, gq_1_3, gq_1_4, gq_1_5, gq_1_6, gq_1_7, gq_1_8, gq_1_9, gq_2_2, gq_4_2, gq_6_2, gq_9_2, gq_11_2, gq_13_2, gq_15_2, gq_17_0, gq_20_0, gq_22_0, gq_24_0, gq_27_0, gq_34_0, gq_36_0, gq_38_0, gq_40_0, gq_42_0, gq_42_1, gq_42_3, gq_42_4, gq_42_11, gq_42_12, gq_42_13, gq_42_15, gq_42_16, gq_42_17, gq_42_18, gq_42_19, gq_42_23, gq_42_24, gq_42_25, gq_42_26, aQ_29_0, aQ_29_1, aQ_29_2, aQ_29_3, aQ_19_0, aQ_19_1, aQ_19_2, aQ_46_0, aQ_46_1, aQ_46_2, gq_26, gr_26, gr_0_8, pQ_26, Option.bind_some, ↓reduceIte, one_ne0, has_6 w3, if_pos ha, outside_eq, if_pos hw, if_neg hu, fails_1]
          try simp
        · show f_X8_worked (mkS _ kp b) 42 a w u = _
          unfold f_X8_worked
          simp only [io_0, gI_0, pI_0, pZ_0, io_1, gI_1, pI_1, pZ_1, io_2, gI_2, pI_2, pZ_2, aL_3, io_4, gI_4, pI_4, pZ_4, aL_5, io_6, gI_6, pI_6, pZ_6, aL_7, aL_8, io_9, gI_9, pI_9, pZ_9, aL_10, io_11, gI_11, pI_11, pZ_11, aL_12, io_13, gI_13, pI_13, pZ_13, aL_14, io_15, gI_15, pI_15, pZ_15, aL_16, io_17, gI_17, pI_17, pZ_17, aL_18, aL_19, io_20, gI_20, pI_20, pZ_20, aL_21, io_22, gI_22, pI_22, pZ_22, aL_23, io_24, gI_24, pI_24, pZ_24, aL_25, io_26, gI_26, pI_26, pZ_26, io_27, gI_27, pI_27, pZ_27, aL_28, aL_29, aL_30, aL_31, aL_32, aL_33, io_34, gI_34, pI_34, pZ_34, aL_35, io_36, gI_36, pI_36, pZ_36, aL_37, io_38, gI_38, pI_38, pZ_38, aL_39, io_40, gI_40, pI_40, pZ_40, aL_41, io_42, gI_42, pI_42, pZ_42, aL_43, aL_44, aL_45, aL_46, aL_47, aL_48, aL_49, aL_50, aL_51, aL_52, aL_53, aL_54, aL_55, aL_56, aL_57, aL_58, gq_0_0, gq_0_1, gq_0_2, gq_0_3, gq_0_4, gq_0_5, gq_0_6, gq_0_7, gq_1_0, gq_1_1, gq_1_2, gq_1_3, gq_1_4, gq_1_5, gq_1_6, gq_1_7, gq_1_8, gq_1_9, gq_2_2, gq_4_2, gq_6_2, gq_9_2, gq_11_2, gq_13_2, gq_15_2, gq_17_0, gq_20_0, gq_22_0, gq_24_0, gq_27_0, gq_34_0, gq_36_0, gq_38_0, gq_40_0, gq_42_0, gq_42_1, gq_42_3, gq_42_4, gq_42_11, gq_42_12, gq_42_13, gq_42_15, gq_42_16, gq_42_17, gq_42_18, gq_42_19, gq_42_23, gq_42_24, gq_42_25, gq_42_26, aQ_29_0, aQ_29_1, aQ_29_2, aQ_29_3, aQ_19_0, aQ_19_1, aQ_19_2, aQ_46_0, aQ_46_1, aQ_46_2, gq_26, gr_26, gr_0_8, pQ_26, Option.bind_some, ↓reduceIte, one_ne0, is_1 (e43 w4) (show c 1 ≤ 1000 by omega), if_pos ha, within_eq, if_pos hw, if_neg hu, finds_1]
          try simp
    · refine op_err1 (k := 1) (e := -1000001) (by decide) hR ?_ ?_
      · show f_X7_worked (mkS m kp b) 0 a w u = _
        unfold f_X7_worked
        simp only [io_0, gI_0, pI_0, pZ_0, io_1, gI_1, pI_1, pZ_1, io_2, gI_2, pI_2, pZ_2, aL_3, io_4, gI_4, pI_4, pZ_4, aL_5, io_6, gI_6, pI_6, pZ_6, aL_7, aL_8, io_9, gI_9, pI_9, pZ_9, aL_10, io_11, gI_11, pI_11, pZ_11, aL_12, io_13, gI_13, pI_13, pZ_13, aL_14, io_15, gI_15, pI_15, pZ_15, aL_16, io_17, gI_17, pI_17, pZ_17, aL_18, aL_19, io_20, gI_20, pI_20, pZ_20, aL_21, io_22, gI_22, pI_22, pZ_22, aL_23, io_24, gI_24, pI_24, pZ_24, aL_25, io_26, gI_26, pI_26, pZ_26, io_27, gI_27, pI_27, pZ_27, aL_28, aL_29, aL_30, aL_31, aL_32, aL_33, io_34, gI_34, pI_34, pZ_34, aL_35, io_36, gI_36, pI_36, pZ_36, aL_37, io_38, gI_38, pI_38, pZ_38, aL_39, io_40, gI_40, pI_40, pZ_40, aL_41, io_42, gI_42, pI_42, pZ_42, aL_43, aL_44, aL_45, aL_46, aL_47, aL_48, aL_49, aL_50, aL_51, aL_52, aL_53, aL_54, aL_55, aL_56, aL_57, aL_58, gq_0_0, gq_0_1, gq_0_2, gq_0_3, gq_0_4, gq_0_5, gq_0_6, gq_0_7, gq_1_0, gq_1_1, gq_1_2, gq_1_3, gq_1_4, gq_1_5, gq_1_6, gq_1_7, gq_1_8, gq_1_9, gq_2_2, gq_4_2, gq_6_2, gq_9_2, gq_11_2, gq_13_2, gq_15_2, gq_17_0, gq_20_0, gq_22_0, gq_24_0, gq_27_0, gq_34_0, gq_36_0, gq_38_0, gq_40_0, gq_42_0, gq_42_1, gq_42_3, gq_42_4, gq_42_11, gq_42_12, gq_42_13, gq_42_15, gq_42_16, gq_42_17, gq_42_18, gq_42_19, gq_42_23, gq_42_24, gq_42_25, gq_42_26, aQ_29_0, aQ_29_1, aQ_29_2, aQ_29_3, aQ_19_0, aQ_19_1, aQ_19_2, aQ_46_0, aQ_46_1, aQ_46_2, gq_26, gr_26, gr_0_8, pQ_26, Option.bind_some, ↓reduceIte, one_ne0, has_6 w3, if_pos ha, outside_eq, if_neg hw, fails_1]
        try simp
      · show f_X8_worked (mkS _ kp b) 42 a w u = _
        unfold f_X8_worked
        simp only [io_0, gI_0, pI_0, pZ_0, io_1, gI_1, pI_1, pZ_1, io_2, gI_2, pI_2, pZ_2, aL_3, io_4, gI_4, pI_4, pZ_4, aL_5, io_6, gI_6, pI_6, pZ_6, aL_7, aL_8, io_9, gI_9, pI_9, pZ_9, aL_10, io_11, gI_11, pI_11, pZ_11, aL_12, io_13, gI_13, pI_13, pZ_13, aL_14, io_15, gI_15, pI_15, pZ_15, aL_16, io_17, gI_17, pI_17, pZ_17, aL_18, aL_19, io_20, gI_20, pI_20, pZ_20, aL_21, io_22, gI_22, pI_22, pZ_22, aL_23, io_24, gI_24, pI_24, pZ_24, aL_25, io_26, gI_26, pI_26, pZ_26, io_27, gI_27, pI_27, pZ_27, aL_28, aL_29, aL_30, aL_31, aL_32, aL_33, io_34, gI_34, pI_34, pZ_34, aL_35, io_36, gI_36, pI_36, pZ_36, aL_37, io_38, gI_38, pI_38, pZ_38, aL_39, io_40, gI_40, pI_40, pZ_40, aL_41, io_42, gI_42, pI_42, pZ_42, aL_43, aL_44, aL_45, aL_46, aL_47, aL_48, aL_49, aL_50, aL_51, aL_52, aL_53, aL_54, aL_55, aL_56, aL_57, aL_58, gq_0_0, gq_0_1, gq_0_2, gq_0_3, gq_0_4, gq_0_5, gq_0_6, gq_0_7, gq_1_0, gq_1_1, gq_1_2, gq_1_3, gq_1_4, gq_1_5, gq_1_6, gq_1_7, gq_1_8, gq_1_9, gq_2_2, gq_4_2, gq_6_2, gq_9_2, gq_11_2, gq_13_2, gq_15_2, gq_17_0, gq_20_0, gq_22_0, gq_24_0, gq_27_0, gq_34_0, gq_36_0, gq_38_0, gq_40_0, gq_42_0, gq_42_1, gq_42_3, gq_42_4, gq_42_11, gq_42_12, gq_42_13, gq_42_15, gq_42_16, gq_42_17, gq_42_18, gq_42_19, gq_42_23, gq_42_24, gq_42_25, gq_42_26, aQ_29_0, aQ_29_1, aQ_29_2, aQ_29_3, aQ_19_0, aQ_19_1, aQ_19_2, aQ_46_0, aQ_46_1, aQ_46_2, gq_26, gr_26, gr_0_8, pQ_26, Option.bind_some, ↓reduceIte, one_ne0, is_1 (e43 w4) (show c 1 ≤ 1000 by omega), if_pos ha, within_eq, if_neg hw, finds_1]
        try simp
  · refine op_err1 (k := 1) (e := -1000001) (by decide) hR ?_ ?_
    · show f_X7_worked (mkS m kp b) 0 a w u = _
      unfold f_X7_worked
      simp only [io_0, gI_0, pI_0, pZ_0, io_1, gI_1, pI_1, pZ_1, io_2, gI_2, pI_2, pZ_2, aL_3, io_4, gI_4, pI_4, pZ_4, aL_5, io_6, gI_6, pI_6, pZ_6, aL_7, aL_8, io_9, gI_9, pI_9, pZ_9, aL_10, io_11, gI_11, pI_11, pZ_11, aL_12, io_13, gI_13, pI_13, pZ_13, aL_14, io_15, gI_15, pI_15, pZ_15, aL_16, io_17, gI_17, pI_17, pZ_17, aL_18, aL_19, io_20, gI_20, pI_20, pZ_20, aL_21, io_22, gI_22, pI_22, pZ_22, aL_23, io_24, gI_24, pI_24, pZ_24, aL_25, io_26, gI_26, pI_26, pZ_26, io_27, gI_27, pI_27, pZ_27, aL_28, aL_29, aL_30, aL_31, aL_32, aL_33, io_34, gI_34, pI_34, pZ_34, aL_35, io_36, gI_36, pI_36, pZ_36, aL_37, io_38, gI_38, pI_38, pZ_38, aL_39, io_40, gI_40, pI_40, pZ_40, aL_41, io_42, gI_42, pI_42, pZ_42, aL_43, aL_44, aL_45, aL_46, aL_47, aL_48, aL_49, aL_50, aL_51, aL_52, aL_53, aL_54, aL_55, aL_56, aL_57, aL_58, gq_0_0, gq_0_1, gq_0_2, gq_0_3, gq_0_4, gq_0_5, gq_0_6, gq_0_7, gq_1_0, gq_1_1, gq_1_2, gq_1_3, gq_1_4, gq_1_5, gq_1_6, gq_1_7, gq_1_8, gq_1_9, gq_2_2, gq_4_2, gq_6_2, gq_9_2, gq_11_2, gq_13_2, gq_15_2, gq_17_0, gq_20_0, gq_22_0, gq_24_0, gq_27_0, gq_34_0, gq_36_0, gq_38_0, gq_40_0, gq_42_0, gq_42_1, gq_42_3, gq_42_4, gq_42_11, gq_42_12, gq_42_13, gq_42_15, gq_42_16, gq_42_17, gq_42_18, gq_42_19, gq_42_23, gq_42_24, gq_42_25, gq_42_26, aQ_29_0, aQ_29_1, aQ_29_2, aQ_29_3, aQ_19_0, aQ_19_1, aQ_19_2, aQ_46_0, aQ_46_1, aQ_46_2, gq_26, gr_26, gr_0_8, pQ_26, Option.bind_some, ↓reduceIte, one_ne0, has_6 w3, if_neg ha, fails_1]
      try simp
    · show f_X8_worked (mkS _ kp b) 42 a w u = _
      unfold f_X8_worked
      simp only [io_0, gI_0, pI_0, pZ_0, io_1, gI_1, pI_1, pZ_1, io_2, gI_2, pI_2, pZ_2, aL_3, io_4, gI_4, pI_4, pZ_4, aL_5, io_6, gI_6, pI_6, pZ_6, aL_7, aL_8, io_9, gI_9, pI_9, pZ_9, aL_10, io_11, gI_11, pI_11, pZ_11, aL_12, io_13, gI_13, pI_13, pZ_13, aL_14, io_15, gI_15, pI_15, pZ_15, aL_16, io_17, gI_17, pI_17, pZ_17, aL_18, aL_19, io_20, gI_20, pI_20, pZ_20, aL_21, io_22, gI_22, pI_22, pZ_22, aL_23, io_24, gI_24, pI_24, pZ_24, aL_25, io_26, gI_26, pI_26, pZ_26, io_27, gI_27, pI_27, pZ_27, aL_28, aL_29, aL_30, aL_31, aL_32, aL_33, io_34, gI_34, pI_34, pZ_34, aL_35, io_36, gI_36, pI_36, pZ_36, aL_37, io_38, gI_38, pI_38, pZ_38, aL_39, io_40, gI_40, pI_40, pZ_40, aL_41, io_42, gI_42, pI_42, pZ_42, aL_43, aL_44, aL_45, aL_46, aL_47, aL_48, aL_49, aL_50, aL_51, aL_52, aL_53, aL_54, aL_55, aL_56, aL_57, aL_58, gq_0_0, gq_0_1, gq_0_2, gq_0_3, gq_0_4, gq_0_5, gq_0_6, gq_0_7, gq_1_0, gq_1_1, gq_1_2, gq_1_3, gq_1_4, gq_1_5, gq_1_6, gq_1_7, gq_1_8, gq_1_9, gq_2_2, gq_4_2, gq_6_2, gq_9_2, gq_11_2, gq_13_2, gq_15_2, gq_17_0, gq_20_0, gq_22_0, gq_24_0, gq_27_0, gq_34_0, gq_36_0, gq_38_0, gq_40_0, gq_42_0, gq_42_1, gq_42_3, gq_42_4, gq_42_11, gq_42_12, gq_42_13, gq_42_15, gq_42_16, gq_42_17, gq_42_18, gq_42_19, gq_42_23, gq_42_24, gq_42_25, gq_42_26, aQ_29_0, aQ_29_1, aQ_29_2, aQ_29_3, aQ_19_0, aQ_19_1, aQ_19_2, aQ_46_0, aQ_46_1, aQ_46_2, gq_26, gr_26, gr_0_8, pQ_26, Option.bind_some, ↓reduceIte, one_ne0, is_1 (e43 w4) (show c 1 ≤ 1000 by omega), if_neg ha, finds_1]
      try simp
end WK
