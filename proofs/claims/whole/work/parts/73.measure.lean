/-! measure -/
def dwS (v : Int32) : Nat → Int32
  | 0 => v
  | n + 1 => dwS v n * 1103515245 + 12345
def drw (v e : Int32) (j : Nat) : Int32 := irm (ush (dwS v (j + 1)) 16) (((2 : Int32) * e) + 1)
def msG (m : Nat → Nat → Int32) (u : Nat) (y v e s : Int32) (j : Nat) : Int32 := hdV ((wrV m 0 (nI j) (nI u) y).toInt64 + ((drw v e j - e).toInt64 * s.toInt64))
section MS
variable {m : Nat → Nat → Int32} {kp : Bool} {b : Option Nat} {z : Nat} {c : Nat → Nat}
theorem ushQ (v : Int32) : ∃ x, x < 65536 ∧ ush v 16 = nI x := by
  have e : ush (nI v.toBitVec.toNat) 16 = nI (v.toBitVec.toNat / 2 ^ 16) := ush_n v.toBitVec.isLt 16 (by decide)
  rw [← nI_all] at e
  have := v.toBitVec.isLt
  exact ⟨_, by omega, e⟩
theorem drw_b {v : Int32} {e j : Nat} (he : e ≤ 50) : ∃ d, d ≤ 100 ∧ drw v (nI e) j = nI d := by
  obtain ⟨x, hx, ex⟩ := ushQ (dwS v (j + 1))
  unfold drw
  rw [ex, show (2 : Int32) * nI e = nI (2 * e) from pk_mul 2 e, nI_a1, rmN (by omega) (by omega)]
  exact ⟨x % (2 * e + 1), by have := Nat.mod_lt x (show 0 < 2 * e + 1 by omega); omega, rfl⟩
theorem toI64 {x y : Int32} (h1 : -100 ≤ x.toInt) (h2 : x.toInt ≤ 100) (h3 : 1 ≤ y.toInt) (h4 : y.toInt ≤ 99) : (y * x).toInt64 = x.toInt64 * y.toInt64 := by
  have hb : -10000 ≤ y.toInt * x.toInt ∧ y.toInt * x.toInt ≤ 10000 := by
    have hn : (y.toInt * x.toInt).natAbs ≤ 99 * 100 := by
      rw [Int.natAbs_mul]
      exact Nat.mul_le_mul (by omega) (by omega)
    omega
  have e0 : (y * x).toInt = y.toInt * x.toInt := by
    rw [Int32.toInt_mul]
    exact Int.bmod_eq_of_le (by omega) (by omega)
  apply Int64.toInt_inj.mp
  rw [Int32.toInt_toInt64, e0, Int64.toInt_mul, Int32.toInt_toInt64, Int32.toInt_toInt64, Int.mul_comm x.toInt]
  exact (Int.bmod_eq_of_le (by omega) (by omega)).symm
theorem sub_b {d e : Nat} (hd : d ≤ 100) (he : e ≤ 50) : -100 ≤ (nI d - nI e).toInt ∧ (nI d - nI e).toInt ≤ 100 := by
  have : (nI d - nI e).toInt = (d : Int) - e := by
    rw [Int32.toInt_sub, nI_toInt (by omega), nI_toInt (by omega)]
    exact Int.bmod_eq_of_le (by omega) (by omega)
  omega
theorem TX_fr {M : Nat → Nat → Int32} {u : Nat} (h : TX m u) (h0 : M (20 + 2 * u) = m (20 + 2 * u)) (h1 : M (21 + 2 * u) = m (21 + 2 * u)) (h2 : ∀ i, 1054 ≤ i → M 43 i = m 43 i) : TX M u := by
  obtain ⟨s1, s2, q, q1, q2, hT⟩ := h
  have eS : szT M u = szT m u := by unfold szT; rw [h0]
  have eB : bT M (21 + 2 * u) = bT m (21 + 2 * u) := by unfold bT; rw [h1]
  have eC : (fun k => M 43 (1055 + 60 * u + k)) = fun k => m 43 (1055 + 60 * u + k) := by
    funext k
    exact h2 _ (by omega)
  unfold TX
  rw [eS, eB, eC, h0]
  exact ⟨s1, s2, q, q1, by rw [h2 _ (by omega)]; exact q2, hT⟩
theorem draw7 {v : Int32} {e : Nat} (he : e ≤ 50) : f_X4_draw (mkS m kp b) 1 (((2 : Int32) * nI e) + 1) = some (irm (ush (m 1 10 * 1103515245 + 12345) 16) (((2 : Int32) * nI e) + 1), mkS (st1 m 1 10 (m 1 10 * 1103515245 + 12345)) kp b) := by
  have e2 : ((2 : Int32) * nI e) + 1 = nI (2 * e + 1) := by rw [show (2 : Int32) * nI e = nI (2 * e) from pk_mul 2 e, nI_a1]
  unfold f_X4_draw ne0
  rw [e2, if_pos io_1, gI_1, Option.bind_some, pI_1, Option.bind_some, if_pos (show (1 : Int32) ≤ nI (2 * e + 1) from nI_le (a := 1) (by omega) (by omega)), gI_1, Option.bind_some, if_neg (nI_ne0 (by omega) (by omega)), Option.bind_some, st1_eq]
theorem draw8 {e : Nat} (he : e ≤ 50) : f_X8_drawn (mkS m kp b) 42 (((2 : Int32) * nI e) + 1) = some (irm (ush (m 43 7 * 1103515245 + 12345) 16) (((2 : Int32) * nI e) + 1), mkS (st1 m 43 7 (m 43 7 * 1103515245 + 12345)) kp b) := by
  have e2 : ((2 : Int32) * nI e) + 1 = nI (2 * e + 1) := by rw [show (2 : Int32) * nI e = nI (2 * e) from pk_mul 2 e, nI_a1]
  unfold f_X8_drawn ne0
  rw [e2, if_pos io_42, gq_42_0, Option.bind_some, Option.bind_some, rdl_7, Option.bind_some, wrl_7, Option.bind_some, gq_42_0, Option.bind_some, rdl_7, Option.bind_some, if_neg (nI_ne0 (by omega) (by omega)), Option.bind_some, st1_eq]
/-- the class's loop -/
theorem ms7 {n p u X e : Nat} {s v y : Int32} (hS : RS m 1 43 c) (en : n = c 1) (hn : n < 24) (hp : p < c 0) (hu : u < 4) (hX : X ≤ 24) (he : e ≤ 50) (hv : m 1 10 = v) (hy : m 43 (22 + 5 * p) = y) : ∃ M b', f_X7_measure_L96 (nI e) s.toInt64 (nI n) 0 (nI X) 3000 0 (mkS (cA m n 1 (nI p) (nI u) (nI X) (-1)) kp b) = some (nI X, mkS M kp b') ∧ ∀ k, k ≠ 26 → M k = st1 (cN m n 1 (nI p) (nI u) (nI X) (-1) X (msG m u y v (nI e) s)) 1 10 (dwS v X) k := by
  obtain ⟨w1, w2, w3, w4, w5, w6, w6b, w7⟩ := id hS.2.2.2.1
  obtain ⟨p1, p2, p3, p4, p5, p6, p7⟩ := id hS.2.2.1
  have hT := tx_of hS (u := 0) (by omega)
  obtain ⟨g, eg⟩ : ∃ g, g = msG m u y v (nI e) s := ⟨_, rfl⟩
  rw [← eg]
  obtain ⟨σ1, e7, M1, b1, rfl, hM1⟩ := loopZ (fun l j (_ : Unit) σ => f_X7_measure_L96 (nI e) s.toInt64 (nI n) 0 (nI X) l (nI j) σ) (fun _ σ => (nI X, σ)) (fun i σ => ∃ M b', σ = mkS M kp b' ∧ ∀ k, k ≠ 26 → M k = st1 (wrow (cA m n 1 (nI p) (nI u) (nI X) (-1)) 8 (n * 24) i g) 1 10 (dwS v i) k) (fun _ a => a) X (fun l j a σ hj hQ => by
    obtain ⟨M, b, rfl, hM⟩ := hQ
    have h110 : M 1 10 = dwS v j := by rw [hM 1 (by decide), st1_eq]
    have h6 : ∀ M' : Nat → Nat → Int32, (∀ k, k ≠ 26 → k ≠ 1 → M' k = M k) → M' 6 0 = nI 5 ∧ M' 6 3 = nI (n + 1) ∧ M' 7 (n * 5 + 2) = nI u ∧ M' 7 (n * 5 + 1) = nI p ∧ M' 4 0 = nI 5 ∧ M' 4 3 = nI (c 0) ∧ M' 5 (p * 5 + 0) = y := fun M' h' => by
      have hh : ∀ k, k ≠ 26 → k ≠ 1 → k ≠ 8 → M' k = cA m n 1 (nI p) (nI u) (nI X) (-1) k := fun k k1 k2 k3 => by rw [h' k k1 k2, hM k k1, st1_ne k2, wrow_ne k3]
      refine ⟨?_, ?_, ?_, ?_, ?_, ?_, ?_⟩
      · rw [hh 6 (by decide) (by decide) (by decide), cA_6 (by decide)]; exact w1
      · rw [hh 6 (by decide) (by decide) (by decide), cA_63]
      · rw [hh 7 (by decide) (by decide) (by decide), cA_7 (by decide), if_pos rfl]; rfl
      · rw [hh 7 (by decide) (by decide) (by decide), cA_7 (by decide), if_pos rfl]; rfl
      · rw [hh 4 (by decide) (by decide) (by decide), cA_ne (by decide) (by decide)]; exact p1
      · rw [hh 4 (by decide) (by decide) (by decide), cA_ne (by decide) (by decide)]; exact p3
      · rw [hh 5 (by decide) (by decide) (by decide), cA_ne (by decide) (by decide), ← hy, show 22 + 5 * p = 22 + (p * 5 + 0) by omega]
        exact p6 (p * 5 + 0) (by omega)
    obtain ⟨M', eM'⟩ : ∃ M', M' = st1 M 1 10 (dwS v (j + 1)) := ⟨_, rfl⟩
    have hM' : ∀ k, k ≠ 26 → k ≠ 1 → M' k = M k := fun k _ k2 => by rw [eM', st1_ne k2]
    obtain ⟨t1, t2, t3, t4, t5, t6, t7⟩ := h6 M' hM'
    have hT' : TX M' 0 := TX_fr hT (by rw [hM' _ (by decide) (by decide), hM _ (by decide), st1_ne (by decide), wrow_ne (by decide), cA_ne (by decide) (by decide)]) (by rw [hM' _ (by decide) (by decide), hM _ (by decide), st1_ne (by decide), wrow_ne (by decide), cA_ne (by decide) (by decide)]) (fun i _ => by rw [hM' 43 (by decide) (by decide), hM _ (by decide), st1_ne (by decide), wrow_ne (by decide), cA_ne (by decide) (by decide)])
    have hW : wrV M' 0 = wrV m 0 := wrV_fr (by rw [hM' _ (by decide) (by decide), hM _ (by decide), st1_ne (by decide), wrow_ne (by decide), cA_ne (by decide) (by decide)]) (by rw [hM' _ (by decide) (by decide), hM _ (by decide), st1_ne (by decide), wrow_ne (by decide), cA_ne (by decide) (by decide)])
    obtain ⟨M2, b2, ew, hM2⟩ := wor7s (kp := kp) (b := b) (a1 := nI j) (a2 := nI u) (a3 := y) hT' (by omega)
    rw [hW] at ew
    have hday : f_X4_dayOf (mkS M' kp b) 1 (nI n) = some y := by
      unfold f_X4_dayOf
      simp only [io_0, gI_0, pI_0, pZ_0, io_1, gI_1, pI_1, pZ_1, io_2, gI_2, pI_2, pZ_2, aL_3, io_4, gI_4, pI_4, pZ_4, aL_5, io_6, gI_6, pI_6, pZ_6, aL_7, aL_8, io_9, gI_9, pI_9, pZ_9, aL_10, io_11, gI_11, pI_11, pZ_11, aL_12, io_13, gI_13, pI_13, pZ_13, aL_14, io_15, gI_15, pI_15, pZ_15, aL_16, io_17, gI_17, pI_17, pZ_17, aL_18, aL_19, io_20, gI_20, pI_20, pZ_20, aL_21, io_22, gI_22, pI_22, pZ_22, aL_23, io_24, gI_24, pI_24, pZ_24, aL_25, io_26, gI_26, pI_26, pZ_26, io_27, gI_27, pI_27, pZ_27, aL_28, aL_29, aL_30, aL_31, aL_32, aL_33, io_34, gI_34, pI_34, pZ_34, aL_35, io_36, gI_36, pI_36, pZ_36, aL_37, io_38, gI_38, pI_38, pZ_38, aL_39, io_40, gI_40, pI_40, pZ_40, aL_41, io_42, gI_42, pI_42, pZ_42, aL_43, aL_44, aL_45, aL_46, aL_47, aL_48, aL_49, aL_50, aL_51, aL_52, aL_53, aL_54, aL_55, aL_56, aL_57, aL_58, gq_0_0, gq_0_1, gq_0_2, gq_0_3, gq_0_4, gq_0_5, gq_0_6, gq_0_7, gq_1_0, gq_1_1, gq_1_2, gq_1_3, gq_1_4, gq_1_5, gq_1_6, gq_1_7, gq_1_8, gq_1_9, gq_2_2, gq_4_2, gq_6_2, gq_9_2, gq_11_2, gq_13_2, gq_15_2, gq_17_0, gq_20_0, gq_22_0, gq_24_0, gq_27_0, gq_34_0, gq_36_0, gq_38_0, gq_40_0, gq_42_0, gq_42_1, gq_42_3, gq_42_4, gq_42_11, gq_42_12, gq_42_13, gq_42_15, gq_42_16, gq_42_17, gq_42_18, gq_42_19, gq_42_23, gq_42_24, gq_42_25, gq_42_26, aQ_29_0, aQ_29_1, aQ_29_2, aQ_29_3, aQ_19_0, aQ_19_1, aQ_19_2, aQ_46_0, aQ_46_1, aQ_46_2, gq_26, gr_26, gr_0_8, pQ_26, Option.bind_some, ↓reduceIte, one_ne0, at_6_1 t1 t2 (show n + 1 ≤ 24 by omega) (show n < n + 1 by omega), t4, at_4_0 t5 t6 p5 hp, t7]
    have hlaw : f_X7_lawAt (mkS M' kp b) 0 (nI n) (nI j) = some ((wrV m 0 (nI j) (nI u) y).toInt64, mkS M2 kp b2) := by
      unfold f_X7_lawAt
      rw [if_pos io_0, gq_0_0, Option.bind_some, gq_1_2, Option.bind_some, at_6_2 t1 t2 (show n + 1 ≤ 24 by omega) (show n < n + 1 by omega), Option.bind_some, Option.bind_some, hday, Option.bind_some, t3, show (0 : Int32) = nI 0 from rfl, ew, Option.bind_some]
    refine ⟨mkS (st1 M2 8 (n * 24 + j) (g j)) kp b2, ?_, _, _, rfl, fun k hk => ?_⟩
    · show f_X7_measure_L96 (nI e) s.toInt64 (nI n) 0 (nI X) (l + 1) (nI j) (mkS M kp b) = f_X7_measure_L96 (nI e) s.toInt64 (nI n) 0 (nI X) l (nI (j + 1)) (mkS (st1 M2 8 (n * 24 + j) (g j)) kp b2)
      rw [f_X7_measure_L96, if_neg (nI_ge hj (by omega)), gq_0_0, Option.bind_some, draw7 (v := v) he, Option.bind_some, h110]
      dsimp only
      rw [show dwS v j * 1103515245 + 12345 = dwS v (j + 1) from rfl, ← eM', gq_0_0, Option.bind_some, hlaw, Option.bind_some, held7_eq, Option.bind_some, setPt hn (show j < 24 by omega), Option.bind_some, nI_a1, eg]
      rfl
    · have ek : M2 k = st1 M 1 10 (dwS v (j + 1)) k := by rw [hM2 k hk, eM']
      funext f
      have e1 := congrFun ek f
      have e2 := congrFun (hM k hk) f
      have e3 := congrFun (congrFun (wrow_s (m := cA m n 1 (nI p) (nI u) (nI X) (-1)) (c := 8) (i := n * 24) (k := j) (g := g)) k) f
      rw [st1_app] at e1 e2 e3
      rw [st1_app, st1_app, e1, e2, ← e3]
      by_cases c1 : k = 1 ∧ f = 10
      · rw [if_neg (show ¬ (k = 8 ∧ f = n * 24 + j) by omega), if_pos c1, if_pos c1]
      · rw [if_neg c1, if_neg c1, if_neg c1]) (fun l a σ hQ => by
    obtain ⟨M, b, rfl, hM⟩ := hQ
    show f_X7_measure_L96 (nI e) s.toInt64 (nI n) 0 (nI X) (l + 1) (nI X) (mkS M kp b) = _
    rw [f_X7_measure_L96, if_pos (Int32.le_refl _)]) X 0 3000 () (mkS (cA m n 1 (nI p) (nI u) (nI X) (-1)) kp b) (by omega) (by omega) ⟨_, _, rfl, fun k hk => by
      funext f
      rw [wrow_0, st1_app]
      by_cases c1 : k = 1 ∧ f = 10
      · rw [if_pos c1, c1.1, c1.2, cA_ne (by decide) (by decide)]; exact hv
      · rw [if_neg c1]⟩
  exact ⟨M1, b1, e7, hM1⟩
/-- the reference's loop -/
theorem ms8 {n p u X e : Nat} {s v y : Int32} {g : Nat → Int32} (hT : TX m 0) (hn : n < 24) (hp : p < 12) (hu : u < 4) (hX : X ≤ 24) (he : e ≤ 50) (hv : m 43 7 = v) (hy : m 43 (22 + 5 * p) = y) (h0 : m 43 (10 + 3 * u) = s) (h1 : m 43 (10 + 3 * u + 1) = nI e) (s1 : 1 ≤ s.toInt) (s2 : s.toInt ≤ 99) (hg : ∀ j, g j = msG m u y v (nI e) s j) : ∃ M, f_X8_measure_L65 (nI n) (nI u) 42 (nI X) 3000 0 (mkS (mA m n 1 (nI p) (nI u) (nI X) (-1)) kp b) = some (nI X, mkS M kp b) ∧ ∀ k, k ≠ 48 → k ≠ 49 → M k = st1 (mN m n 1 (nI p) (nI u) (nI X) (-1) X g) 43 7 (dwS v X) k := by
  obtain ⟨σ1, e7, M1, rfl, hM1⟩ := loopZ (fun l j (_ : Unit) σ => f_X8_measure_L65 (nI n) (nI u) 42 (nI X) l (nI j) σ) (fun _ σ => (nI X, σ)) (fun i σ => ∃ M, σ = mkS M kp b ∧ ∀ k, k ≠ 48 → k ≠ 49 → M k = st1 (wrow (mA m n 1 (nI p) (nI u) (nI X) (-1)) 43 (87 + 29 * n) i g) 43 7 (dwS v i) k) (fun _ a => a) X (fun l j a σ hj hQ => by
    obtain ⟨M, rfl, hM⟩ := hQ
    have h43 : ∀ i, (i < 82 ∨ 778 ≤ i) → i ≠ 1 → i ≠ 7 → M 43 i = m 43 i := fun i i1 i2 i3 => by
      rw [hM 43 (by decide) (by decide), st1_nf i3, wrow_at, if_neg (by omega), mA_43, if_neg i2, if_neg (by omega)]
    have h437 : M 43 7 = dwS v j := by rw [hM 43 (by decide) (by decide), st1_eq]
    have hrow : ∀ f, f < 5 → M 43 (82 + 29 * n + f) = rowF 1 (nI p) (nI u) (nI X) (-1) f := fun f hf => by
      rw [hM 43 (by decide) (by decide), st1_nf (by omega), wrow_at, if_neg (by omega), mA_43, if_neg (by omega), if_pos (by omega), show 82 + 29 * n + f - (82 + 29 * n) = f by omega]
    have hne : ∀ k, k ≠ 43 → k ≠ 48 → k ≠ 49 → M k = m k := fun k k1 k2 k3 => by rw [hM k k2 k3, st1_ne k1, wrow_ne k1, mA_ne k1]
    have hT' : TX M 0 := TX_fr hT (hne _ (by decide) (by decide) (by decide)) (hne _ (by decide) (by decide) (by decide)) (fun i hi => h43 i (by omega) (by omega) (by omega))
    have hW : wrV M 0 = wrV m 0 := wrV_fr (hne _ (by decide) (by decide) (by decide)) (hne _ (by decide) (by decide) (by decide))
    obtain ⟨M2, ew, hM2⟩ := giv8s (kp := kp) (b := b) (a1 := nI j) (a2 := nI u) (a3 := y) hT' (by omega)
    rw [hW] at ew
    have r1 : M 43 (82 + 29 * n + 1) = nI p := hrow 1 (by decide)
    have r2 : M 43 (82 + 29 * n + 2) = nI u := hrow 2 (by decide)
    have hday : f_X8_dayOf (mkS M kp b) 42 (nI n) = some y := by
      unfold f_X8_dayOf
      simp only [io_0, gI_0, pI_0, pZ_0, io_1, gI_1, pI_1, pZ_1, io_2, gI_2, pI_2, pZ_2, aL_3, io_4, gI_4, pI_4, pZ_4, aL_5, io_6, gI_6, pI_6, pZ_6, aL_7, aL_8, io_9, gI_9, pI_9, pZ_9, aL_10, io_11, gI_11, pI_11, pZ_11, aL_12, io_13, gI_13, pI_13, pZ_13, aL_14, io_15, gI_15, pI_15, pZ_15, aL_16, io_17, gI_17, pI_17, pZ_17, aL_18, aL_19, io_20, gI_20, pI_20, pZ_20, aL_21, io_22, gI_22, pI_22, pZ_22, aL_23, io_24, gI_24, pI_24, pZ_24, aL_25, io_26, gI_26, pI_26, pZ_26, io_27, gI_27, pI_27, pZ_27, aL_28, aL_29, aL_30, aL_31, aL_32, aL_33, io_34, gI_34, pI_34, pZ_34, aL_35, io_36, gI_36, pI_36, pZ_36, aL_37, io_38, gI_38, pI_38, pZ_38, aL_39, io_40, gI_40, pI_40, pZ_40, aL_41, io_42, gI_42, pI_42, pZ_42, aL_43, aL_44, aL_45, aL_46, aL_47, aL_48, aL_49, aL_50, aL_51, aL_52, aL_53, aL_54, aL_55, aL_56, aL_57, aL_58, gq_0_0, gq_0_1, gq_0_2, gq_0_3, gq_0_4, gq_0_5, gq_0_6, gq_0_7, gq_1_0, gq_1_1, gq_1_2, gq_1_3, gq_1_4, gq_1_5, gq_1_6, gq_1_7, gq_1_8, gq_1_9, gq_2_2, gq_4_2, gq_6_2, gq_9_2, gq_11_2, gq_13_2, gq_15_2, gq_17_0, gq_20_0, gq_22_0, gq_24_0, gq_27_0, gq_34_0, gq_36_0, gq_38_0, gq_40_0, gq_42_0, gq_42_1, gq_42_3, gq_42_4, gq_42_11, gq_42_12, gq_42_13, gq_42_15, gq_42_16, gq_42_17, gq_42_18, gq_42_19, gq_42_23, gq_42_24, gq_42_25, gq_42_26, aQ_29_0, aQ_29_1, aQ_29_2, aQ_29_3, aQ_19_0, aQ_19_1, aQ_19_2, aQ_46_0, aQ_46_1, aQ_46_2, gq_26, gr_26, gr_0_8, pQ_26, Option.bind_some, ↓reduceIte, one_ne0, mcur1 hn, r1, mpap0 hp, h43 (22 + 5 * p) (by omega) (by omega) (by omega), hy]
    have hlaw : f_X8_lawAt (mkS M kp b) 42 (nI n) (nI j) = some (wrV m 0 (nI j) (nI u) y, mkS M2 kp b) := by
      unfold f_X8_lawAt
      rw [if_pos io_42, show (2 : Int32) = nI 2 from rfl, mcur hn (show 2 < 29 by decide), Option.bind_some, hday, Option.bind_some, r2, show (0 : Int32) = nI 0 from rfl, ew, Option.bind_some]
    have h2 : M2 43 = M 43 := hM2 43 (by decide) (by decide)
    obtain ⟨d, hd, ed⟩ := drw_b (v := v) (j := j) he
    refine ⟨mkS (st1 (st1 M2 43 7 (dwS v (j + 1))) 43 (87 + 29 * n + j) (g j)) kp b, ?_, _, rfl, fun k k1 k2 => ?_⟩
    · show f_X8_measure_L65 (nI n) (nI u) 42 (nI X) (l + 1) (nI j) (mkS M kp b) = f_X8_measure_L65 (nI n) (nI u) 42 (nI X) l (nI (j + 1)) (mkS (st1 (st1 M2 43 7 (dwS v (j + 1))) 43 (87 + 29 * n + j) (g j)) kp b)
      rw [f_X8_measure_L65, if_neg (nI_ge hj (by omega)), hlaw, Option.bind_some, gq_42_0, Option.bind_some, ixM1, rd_43 (show 10 + 3 * u + 1 < 1234 by omega), Option.bind_some, h2, h43 (10 + 3 * u + 1) (by omega) (by omega) (by omega), h1, Option.bind_some, ixM0, rd_43 (show 10 + 3 * u < 1234 by omega), Option.bind_some, h2, h43 (10 + 3 * u) (by omega) (by omega) (by omega), h0, draw8 he, Option.bind_some, h2, h437]
      dsimp only
      rw [show dwS v j * 1103515245 + 12345 = dwS v (j + 1) from rfl, show irm (ush (dwS v (j + 1)) 16) (((2 : Int32) * nI e) + 1) = drw v (nI e) j from rfl]
      have hb := sub_b hd he
      rw [← ed] at hb
      rw [toI64 hb.1 hb.2 s1 s2, held8_eq, Option.bind_some, lay_eq hn (show j < 24 by omega), Option.bind_some, nI_a1, hg j]
      rfl
    · funext f
      have e1 := congrFun (hM2 k k1 k2) f
      have e2 := congrFun (hM k k1 k2) f
      have e3 := congrFun (congrFun (wrow_s (m := mA m n 1 (nI p) (nI u) (nI X) (-1)) (c := 43) (i := 87 + 29 * n) (k := j) (g := g)) k) f
      rw [st1_app] at e2 e3
      rw [st1_app, st1_app, st1_app, e1, e2, ← e3]
      by_cases c1 : k = 43 ∧ f = 7
      · rw [if_neg (show ¬ (k = 43 ∧ f = 87 + 29 * n + j) by omega), if_pos c1, if_pos c1]
      · rw [if_neg c1, if_neg c1, if_neg c1]) (fun l a σ hQ => by
    obtain ⟨M, rfl, hM⟩ := hQ
    show f_X8_measure_L65 (nI n) (nI u) 42 (nI X) (l + 1) (nI X) (mkS M kp b) = _
    rw [f_X8_measure_L65, if_pos (Int32.le_refl _)]) X 0 3000 () (mkS (mA m n 1 (nI p) (nI u) (nI X) (-1)) kp b) (by omega) (by omega) ⟨_, rfl, fun k k1 k2 => by
      funext f
      rw [wrow_0, st1_app]
      by_cases c1 : k = 43 ∧ f = 7
      · rw [if_pos c1, c1.1, c1.2, mA_43, if_neg (by decide), if_neg (by omega)]; exact hv
      · rw [if_neg c1]⟩
  exact ⟨M1, e7, hM1⟩
theorem op_measure (v w : Int32) : OpR (fun σ => f_X7_measure σ 0 v w) (fun σ => f_X8_measure σ 42 v w) := by
  intro m kp b z hR
  obtain ⟨⟨c, hS⟩, -⟩ := id hR
  obtain ⟨u1, u2, u3, u4, u5, u6, u6b, u7⟩ := id hS.2.2.2.1
  obtain ⟨w1, w2, w3, w4, w5, w6, w7⟩ := id hS.2.2.1
  have w4e : ∀ k v, st1 m 30 k v 43 0 = nI (c 0) := fun k v => e43 w4
  by_cases hp : plP v (c 0)
  · by_cases ht : 3 ≤ w ∧ w ≤ 24
    · by_cases hf : c 1 < 24
      · have eF : ¬ nI (c 1) = 24 := fun h => by have := (nI_eq (a := c 1) (b := 24) (by omega) (by decide)).mp h; omega
        obtain ⟨X, hX3, hX, rfl⟩ := ex_rng (lo := 3) (hi := 24) (by decide) ht (by decide)
        obtain ⟨p, u, hpn, hu, ep, eu⟩ := place_ex (by omega) hp
        obtain ⟨v1, v2, v3, v4, v5⟩ := id hS.1
        obtain ⟨q1, q2, q3⟩ := v5 u hu
        obtain ⟨e, -, he, ee⟩ := ex_rng (lo := 0) (hi := 50) (by decide) q2 (by decide)
        obtain ⟨s, es⟩ : ∃ s, s = m 43 (10 + 3 * u) := ⟨_, rfl⟩
        obtain ⟨y, ey⟩ : ∃ y, y = m 43 (22 + 5 * p) := ⟨_, rfl⟩
        have eD : m 1 10 = m 43 7 := hS.2.1
        obtain ⟨d, ed⟩ : ∃ d, d = m 43 7 := ⟨_, rfl⟩
        rw [← es] at q1
        rw [Int32.le_iff_toInt_le, Int32.le_iff_toInt_le, show (1 : Int32).toInt = 1 by decide, show (99 : Int32).toInt = 99 by decide] at q1
        obtain ⟨M1, b1, e7, hM1⟩ := ms7 (kp := kp) (b := b) (X := X) (s := s) (v := d) (y := y) hS rfl hf hpn hu hX he (eD.trans ed.symm) ey.symm
        have hne : ∀ k, k ≠ 26 → k ≠ 1 → k ≠ 6 → k ≠ 7 → k ≠ 8 → M1 k = m k := fun k k1 k2 k3 k4 k5 => by
          rw [hM1 k k1, st1_ne k2]; unfold cN; rw [wrow_ne k5, cA_ne k3 k4]
        have h43 : M1 43 = m 43 := hne 43 (by decide) (by decide) (by decide) (by decide) (by decide)
        have hT : TX M1 0 := TX_fr (tx_of hS (by omega)) (hne _ (by decide) (by decide) (by decide) (by decide) (by decide)) (hne _ (by decide) (by decide) (by decide) (by decide) (by decide)) (fun i _ => by rw [h43])
        have hW : wrV M1 0 = wrV m 0 := wrV_fr (hne _ (by decide) (by decide) (by decide) (by decide) (by decide)) (hne _ (by decide) (by decide) (by decide) (by decide) (by decide))
        obtain ⟨M2, e8, hM2⟩ := ms8 (m := M1) (kp := kp) (b := b1) (n := c 1) (p := p) (u := u) (X := X) (e := e) (s := s) (v := d) (y := y) (g := msG m u y d (nI e) s) hT hf (by omega) hu hX he (by rw [h43]; exact ed.symm) (by rw [h43]; exact ey.symm) (by rw [h43]; exact es.symm) (by rw [h43]; exact ee) q1.1 q1.2 (fun j => by unfold msG; rw [hW])
        refine ⟨nI (c 1), M1, kp, b1, M2, ?_, ?_, ?_⟩
        · show f_X7_measure (mkS m kp b) 0 v (nI X) = _
          have hA := addC (m := m) (kp := kp) (b := b) (k := 1) (p := nI p) (u := nI u) (x := nI X) (s := -1) u1 u2 u3 hf
          obtain ⟨A, eA⟩ : ∃ A, A = cA m (c 1) 1 (nI p) (nI u) (nI X) (-1) := ⟨_, rfl⟩
          rw [← eA] at hA e7
          have a2 : A 2 = m 2 := by rw [eA, cA_ne (by decide) (by decide)]
          have a3 : A 3 = m 3 := by rw [eA, cA_ne (by decide) (by decide)]
          have t0 : m 3 (u * 3 + 0) = s := by
            have := v4 (u * 3 + 0) (by omega)
            rw [show 10 + (u * 3 + 0) = 10 + 3 * u by omega] at this
            exact this.trans es.symm
          have t1 : m 3 (u * 3 + 1) = nI e := by
            have := v4 (u * 3 + 1) (by omega)
            rw [show 10 + (u * 3 + 1) = 10 + 3 * u + 1 by omega] at this
            exact this.trans ee
          have n0 : f_X5_at (mkS A kp b) 2 (nI u) 0 = some s := by
            rw [at_2_0 (show A 2 0 = nI 3 by rw [a2]; exact v1) (show A 2 3 = nI 4 by rw [a2]; exact v3) (Nat.le_refl 4) hu, a3, t0]
          have n1 : f_X5_at (mkS A kp b) 2 (nI u) 1 = some (nI e) := by
            rw [at_2_1 (show A 2 0 = nI 3 by rw [a2]; exact v1) (show A 2 3 = nI 4 by rw [a2]; exact v3) (Nat.le_refl 4) hu, a3, t1]
          unfold f_X7_measure
          rw [if_pos io_0, (place7 w3).1 hp, Option.bind_some, if_neg (show ¬ (1 : Int32) = 0 by decide), isLength7_eq, if_pos ht, Option.bind_some, if_neg (show ¬ (1 : Int32) = 0 by decide), gq_0_0, Option.bind_some, gq_1_2, Option.bind_some, full_6 u2 u3 u5, if_pos hf, Option.bind_some, if_pos rfl, Option.bind_some, ep, eu, hA, Option.bind_some, gq_0_0, Option.bind_some, gq_1_0, Option.bind_some, n0, Option.bind_some, Option.bind_some, gq_1_0, Option.bind_some, n1, Option.bind_some, e7, Option.bind_some]
        · show f_X8_measure (mkS M1 kp b1) 42 v (nI X) = _
          have h1 : M1 43 1 = nI (c 1) := by rw [h43]; exact u4
          have hz : M1 43 0 = nI (c 0) := by rw [h43]; exact w4
          unfold f_X8_measure
          rw [if_pos io_42, (place8 hz (show c 0 ≤ 1000 by omega)).1 hp, Option.bind_some, if_neg (show ¬ (1 : Int32) = 0 by decide), within_eq, if_pos ht, Option.bind_some, if_neg (show ¬ (1 : Int32) = 0 by decide), gq_42_0, Option.bind_some, rdl_1, h1, Option.bind_some, if_neg eF, ep, eu, begin_eq h1 hf, Option.bind_some, e8, Option.bind_some]
        · have hN := RR_new (k := 1) (s := -1) (g := msG m u y d (nI e) s) hR hS hf (by decide) hpn hu hX3 hX (fun j _ => hdV_b _)
          obtain ⟨N, eN⟩ : ∃ N, N = mN (cN m (c 1) (nI 1) (nI p) (nI u) (nI X) (-1) X (msG m u y d (nI e) s)) (c 1) (nI 1) (nI p) (nI u) (nI X) (-1) X (msG m u y d (nI e) s) := ⟨_, rfl⟩
          rw [← eN] at hN
          obtain ⟨⟨c', hS'⟩, -⟩ := id hN
          have hD := RR_Drw (m' := st1 (st1 N 1 10 (dwS d X)) 43 7 (dwS d X)) hN hS' (fun q q1 q2 => by rw [st1_ne q2, st1_ne q1]) (fun i hi => by rw [st1_nf hi, st1_ne (by decide)]) (by unfold RDrw; rw [st1_eq, st1_ne (by decide), st1_eq])
          have hE : EqS (st1 (st1 N 1 10 (dwS d X)) 43 7 (dwS d X)) M2 := by
            have key : ∀ q, q ≠ 26 → q ≠ 48 → q ≠ 49 → M2 q = st1 (st1 N 1 10 (dwS d X)) 43 7 (dwS d X) q := fun q k1 k2 k3 => by
              funext f
              have f2 := congrFun (hM2 q k2 k3) f
              have f1 := congrFun (hM1 q k1) f
              rw [f2, eN]
              by_cases q43 : q = 43
              · subst q43
                unfold mN
                rw [st1_app, st1_app, st1_app, if_neg (show ¬ (43 = 1 ∧ f = 10) by omega), wrow_at, wrow_at, mA_43, mA_43, f1, st1_ne (show (43 : Nat) ≠ 1 by decide)]
                rfl
              · unfold mN
                rw [st1_ne q43, st1_ne q43, wrow_ne q43, mA_ne q43, f1, st1_app, st1_app, wrow_ne q43, mA_ne q43]
                rfl
            refine ⟨fun q q1 _ => key q (fun e => q1 (by unfold Sc; omega)) (fun e => q1 (by unfold Sc; omega)) (fun e => q1 (by unfold Sc; omega)), by rw [key 42 (by decide) (by decide) (by decide)], by rw [key 42 (by decide) (by decide) (by decide)]⟩
          have hF := RR_scr hD hE
          refine ⟨hF.1, hF.2.1, hF.2.2.1, hF.2.2.2.1, hF.2.2.2.2.1, ?_⟩
          obtain ⟨i, i1, i2, i3, i4⟩ := hR.2.2.2.2.2
          have j0 : M2 0 = m 0 := by
            rw [hM2 0 (by decide) (by decide), st1_ne (by decide)]; unfold mN
            rw [wrow_ne (by decide), mA_ne (by decide), hne 0 (by decide) (by decide) (by decide) (by decide) (by decide)]
          have j42 : M2 42 = m 42 := by
            rw [hM2 42 (by decide) (by decide), st1_ne (by decide)]; unfold mN
            rw [wrow_ne (by decide), mA_ne (by decide), hne 42 (by decide) (by decide) (by decide) (by decide) (by decide)]
          exact ⟨i, by omega, by rw [j0]; exact i2, by rw [j42]; exact i3, i4⟩
      · have eF : nI (c 1) = 24 := by rw [show c 1 = 24 by omega]; rfl
        refine op_err1 (k := 4) (e := -1000004) (by decide) hR ?_ ?_
        · show f_X7_measure (mkS m kp b) 0 v w = _
          unfold f_X7_measure
          simp only [io_0, gI_0, pI_0, pZ_0, io_1, gI_1, pI_1, pZ_1, io_2, gI_2, pI_2, pZ_2, aL_3, io_4, gI_4, pI_4, pZ_4, aL_5, io_6, gI_6, pI_6, pZ_6, aL_7, aL_8, io_9, gI_9, pI_9, pZ_9, aL_10, io_11, gI_11, pI_11, pZ_11, aL_12, io_13, gI_13, pI_13, pZ_13, aL_14, io_15, gI_15, pI_15, pZ_15, aL_16, io_17, gI_17, pI_17, pZ_17, aL_18, aL_19, io_20, gI_20, pI_20, pZ_20, aL_21, io_22, gI_22, pI_22, pZ_22, aL_23, io_24, gI_24, pI_24, pZ_24, aL_25, io_26, gI_26, pI_26, pZ_26, io_27, gI_27, pI_27, pZ_27, aL_28, aL_29, aL_30, aL_31, aL_32, aL_33, io_34, gI_34, pI_34, pZ_34, aL_35, io_36, gI_36, pI_36, pZ_36, aL_37, io_38, gI_38, pI_38, pZ_38, aL_39, io_40, gI_40, pI_40, pZ_40, aL_41, io_42, gI_42, pI_42, pZ_42, aL_43, aL_44, aL_45, aL_46, aL_47, aL_48, aL_49, aL_50, aL_51, aL_52, aL_53, aL_54, aL_55, aL_56, aL_57, aL_58, gq_0_0, gq_0_1, gq_0_2, gq_0_3, gq_0_4, gq_0_5, gq_0_6, gq_0_7, gq_1_0, gq_1_1, gq_1_2, gq_1_3, gq_1_4, gq_1_5, gq_1_6, gq_1_7, gq_1_8, gq_1_9, gq_2_2, gq_4_2, gq_6_2, gq_9_2, gq_11_2, gq_13_2, gq_15_2, gq_17_0, gq_20_0, gq_22_0, gq_24_0, gq_27_0, gq_34_0, gq_36_0, gq_38_0, gq_40_0, gq_42_0, gq_42_1, gq_42_3, gq_42_4, gq_42_11, gq_42_12, gq_42_13, gq_42_15, gq_42_16, gq_42_17, gq_42_18, gq_42_19, gq_42_23, gq_42_24, gq_42_25, gq_42_26, aQ_29_0, aQ_29_1, aQ_29_2, aQ_29_3, aQ_19_0, aQ_19_1, aQ_19_2, aQ_46_0, aQ_46_1, aQ_46_2, gq_26, gr_26, gr_0_8, pQ_26, Option.bind_some, ↓reduceIte, one_ne0, (place7 w3).1 hp, isLength7_eq, if_pos ht, full_6 u2 u3 u5, if_neg hf, fails_4]
          try simp
        · show f_X8_measure (mkS _ kp b) 42 v w = _
          unfold f_X8_measure
          simp only [io_0, gI_0, pI_0, pZ_0, io_1, gI_1, pI_1, pZ_1, io_2, gI_2, pI_2, pZ_2, aL_3, io_4, gI_4, pI_4, pZ_4, aL_5, io_6, gI_6, pI_6, pZ_6, aL_7, aL_8, io_9, gI_9, pI_9, pZ_9, aL_10, io_11, gI_11, pI_11, pZ_11, aL_12, io_13, gI_13, pI_13, pZ_13, aL_14, io_15, gI_15, pI_15, pZ_15, aL_16, io_17, gI_17, pI_17, pZ_17, aL_18, aL_19, io_20, gI_20, pI_20, pZ_20, aL_21, io_22, gI_22, pI_22, pZ_22, aL_23, io_24, gI_24, pI_24, pZ_24, aL_25, io_26, gI_26, pI_26, pZ_26, io_27, gI_27, pI_27, pZ_27, aL_28, aL_29, aL_30, aL_31, aL_32, aL_33, io_34, gI_34, pI_34, pZ_34, aL_35, io_36, gI_36, pI_36, pZ_36, aL_37, io_38, gI_38, pI_38, pZ_38, aL_39, io_40, gI_40, pI_40, pZ_40, aL_41, io_42, gI_42, pI_42, pZ_42, aL_43, aL_44, aL_45, aL_46, aL_47, aL_48, aL_49, aL_50, aL_51, aL_52, aL_53, aL_54, aL_55, aL_56, aL_57, aL_58, gq_0_0, gq_0_1, gq_0_2, gq_0_3, gq_0_4, gq_0_5, gq_0_6, gq_0_7, gq_1_0, gq_1_1, gq_1_2, gq_1_3, gq_1_4, gq_1_5, gq_1_6, gq_1_7, gq_1_8, gq_1_9, gq_2_2, gq_4_2, gq_6_2, gq_9_2, gq_11_2, gq_13_2, gq_15_2, gq_17_0, gq_20_0, gq_22_0, gq_24_0, gq_27_0, gq_34_0, gq_36_0, gq_38_0, gq_40_0, gq_42_0, gq_42_1, gq_42_3, gq_42_4, gq_42_11, gq_42_12, gq_42_13, gq_42_15, gq_42_16, gq_42_17, gq_42_18, gq_42_19, gq_42_23, gq_42_24, gq_42_25, gq_42_26, aQ_29_0, aQ_29_1, aQ_29_2, aQ_29_3, aQ_19_0, aQ_19_1, aQ_19_2, aQ_46_0, aQ_46_1, aQ_46_2, gq_26, gr_26, gr_0_8, pQ_26, Option.bind_some, ↓reduceIte, one_ne0, (place8 (w4e _ _) (show c 0 ≤ 1000 by omega)).1 hp, within_eq, if_pos ht, rdl_1, e43 u4, if_pos eF, finds_4]
          try simp
    · refine op_err1 (k := 1) (e := -1000001) (by decide) hR ?_ ?_
      · show f_X7_measure (mkS m kp b) 0 v w = _
        unfold f_X7_measure
        simp only [io_0, gI_0, pI_0, pZ_0, io_1, gI_1, pI_1, pZ_1, io_2, gI_2, pI_2, pZ_2, aL_3, io_4, gI_4, pI_4, pZ_4, aL_5, io_6, gI_6, pI_6, pZ_6, aL_7, aL_8, io_9, gI_9, pI_9, pZ_9, aL_10, io_11, gI_11, pI_11, pZ_11, aL_12, io_13, gI_13, pI_13, pZ_13, aL_14, io_15, gI_15, pI_15, pZ_15, aL_16, io_17, gI_17, pI_17, pZ_17, aL_18, aL_19, io_20, gI_20, pI_20, pZ_20, aL_21, io_22, gI_22, pI_22, pZ_22, aL_23, io_24, gI_24, pI_24, pZ_24, aL_25, io_26, gI_26, pI_26, pZ_26, io_27, gI_27, pI_27, pZ_27, aL_28, aL_29, aL_30, aL_31, aL_32, aL_33, io_34, gI_34, pI_34, pZ_34, aL_35, io_36, gI_36, pI_36, pZ_36, aL_37, io_38, gI_38, pI_38, pZ_38, aL_39, io_40, gI_40, pI_40, pZ_40, aL_41, io_42, gI_42, pI_42, pZ_42, aL_43, aL_44, aL_45, aL_46, aL_47, aL_48, aL_49, aL_50, aL_51, aL_52, aL_53, aL_54, aL_55, aL_56, aL_57, aL_58, gq_0_0, gq_0_1, gq_0_2, gq_0_3, gq_0_4, gq_0_5, gq_0_6, gq_0_7, gq_1_0, gq_1_1, gq_1_2, gq_1_3, gq_1_4, gq_1_5, gq_1_6, gq_1_7, gq_1_8, gq_1_9, gq_2_2, gq_4_2, gq_6_2, gq_9_2, gq_11_2, gq_13_2, gq_15_2, gq_17_0, gq_20_0, gq_22_0, gq_24_0, gq_27_0, gq_34_0, gq_36_0, gq_38_0, gq_40_0, gq_42_0, gq_42_1, gq_42_3, gq_42_4, gq_42_11, gq_42_12, gq_42_13, gq_42_15, gq_42_16, gq_42_17, gq_42_18, gq_42_19, gq_42_23, gq_42_24, gq_42_25, gq_42_26, aQ_29_0, aQ_29_1, aQ_29_2, aQ_29_3, aQ_19_0, aQ_19_1, aQ_19_2, aQ_46_0, aQ_46_1, aQ_46_2, gq_26, gr_26, gr_0_8, pQ_26, Option.bind_some, ↓reduceIte, one_ne0, (place7 w3).1 hp, isLength7_eq, if_neg ht, fails_1]
        try simp
      · show f_X8_measure (mkS _ kp b) 42 v w = _
        unfold f_X8_measure
        simp only [io_0, gI_0, pI_0, pZ_0, io_1, gI_1, pI_1, pZ_1, io_2, gI_2, pI_2, pZ_2, aL_3, io_4, gI_4, pI_4, pZ_4, aL_5, io_6, gI_6, pI_6, pZ_6, aL_7, aL_8, io_9, gI_9, pI_9, pZ_9, aL_10, io_11, gI_11, pI_11, pZ_11, aL_12, io_13, gI_13, pI_13, pZ_13, aL_14, io_15, gI_15, pI_15, pZ_15, aL_16, io_17, gI_17, pI_17, pZ_17, aL_18, aL_19, io_20, gI_20, pI_20, pZ_20, aL_21, io_22, gI_22, pI_22, pZ_22, aL_23, io_24, gI_24, pI_24, pZ_24, aL_25, io_26, gI_26, pI_26, pZ_26, io_27, gI_27, pI_27, pZ_27, aL_28, aL_29, aL_30, aL_31, aL_32, aL_33, io_34, gI_34, pI_34, pZ_34, aL_35, io_36, gI_36, pI_36, pZ_36, aL_37, io_38, gI_38, pI_38, pZ_38, aL_39, io_40, gI_40, pI_40, pZ_40, aL_41, io_42, gI_42, pI_42, pZ_42, aL_43, aL_44, aL_45, aL_46, aL_47, aL_48, aL_49, aL_50, aL_51, aL_52, aL_53, aL_54, aL_55, aL_56, aL_57, aL_58, gq_0_0, gq_0_1, gq_0_2, gq_0_3, gq_0_4, gq_0_5, gq_0_6, gq_0_7, gq_1_0, gq_1_1, gq_1_2, gq_1_3, gq_1_4, gq_1_5, gq_1_6, gq_1_7, gq_1_8, gq_1_9, gq_2_2, gq_4_2, gq_6_2, gq_9_2, gq_11_2, gq_13_2, gq_15_2, gq_17_0, gq_20_0, gq_22_0, gq_24_0, gq_27_0, gq_34_0, gq_36_0, gq_38_0, gq_40_0, gq_42_0, gq_42_1, gq_42_3, gq_42_4, gq_42_11, gq_42_12, gq_42_13, gq_42_15, gq_42_16, gq_42_17, gq_42_18, gq_42_19, gq_42_23, gq_42_24, gq_42_25, gq_42_26, aQ_29_0, aQ_29_1, aQ_29_2, aQ_29_3, aQ_19_0, aQ_19_1, aQ_19_2, aQ_46_0, aQ_46_1, aQ_46_2, gq_26, gr_26, gr_0_8, pQ_26, Option.bind_some, ↓reduceIte, one_ne0, (place8 (w4e _ _) (show c 0 ≤ 1000 by omega)).1 hp, within_eq, if_neg ht, finds_1]
        try simp
  · refine op_err1 (k := 1) (e := -1000001) (by decide) hR ?_ ?_
    · show f_X7_measure (mkS m kp b) 0 v w = _
      unfold f_X7_measure
      simp only [io_0, gI_0, pI_0, pZ_0, io_1, gI_1, pI_1, pZ_1, io_2, gI_2, pI_2, pZ_2, aL_3, io_4, gI_4, pI_4, pZ_4, aL_5, io_6, gI_6, pI_6, pZ_6, aL_7, aL_8, io_9, gI_9, pI_9, pZ_9, aL_10, io_11, gI_11, pI_11, pZ_11, aL_12, io_13, gI_13, pI_13, pZ_13, aL_14, io_15, gI_15, pI_15, pZ_15, aL_16, io_17, gI_17, pI_17, pZ_17, aL_18, aL_19, io_20, gI_20, pI_20, pZ_20, aL_21, io_22, gI_22, pI_22, pZ_22, aL_23, io_24, gI_24, pI_24, pZ_24, aL_25, io_26, gI_26, pI_26, pZ_26, io_27, gI_27, pI_27, pZ_27, aL_28, aL_29, aL_30, aL_31, aL_32, aL_33, io_34, gI_34, pI_34, pZ_34, aL_35, io_36, gI_36, pI_36, pZ_36, aL_37, io_38, gI_38, pI_38, pZ_38, aL_39, io_40, gI_40, pI_40, pZ_40, aL_41, io_42, gI_42, pI_42, pZ_42, aL_43, aL_44, aL_45, aL_46, aL_47, aL_48, aL_49, aL_50, aL_51, aL_52, aL_53, aL_54, aL_55, aL_56, aL_57, aL_58, gq_0_0, gq_0_1, gq_0_2, gq_0_3, gq_0_4, gq_0_5, gq_0_6, gq_0_7, gq_1_0, gq_1_1, gq_1_2, gq_1_3, gq_1_4, gq_1_5, gq_1_6, gq_1_7, gq_1_8, gq_1_9, gq_2_2, gq_4_2, gq_6_2, gq_9_2, gq_11_2, gq_13_2, gq_15_2, gq_17_0, gq_20_0, gq_22_0, gq_24_0, gq_27_0, gq_34_0, gq_36_0, gq_38_0, gq_40_0, gq_42_0, gq_42_1, gq_42_3, gq_42_4, gq_42_11, gq_42_12, gq_42_13, gq_42_15, gq_42_16, gq_42_17, gq_42_18, gq_42_19, gq_42_23, gq_42_24, gq_42_25, gq_42_26, aQ_29_0, aQ_29_1, aQ_29_2, aQ_29_3, aQ_19_0, aQ_19_1, aQ_19_2, aQ_46_0, aQ_46_1, aQ_46_2, gq_26, gr_26, gr_0_8, pQ_26, Option.bind_some, ↓reduceIte, one_ne0, (place7 w3).2 hp, fails_1]
      try simp
    · show f_X8_measure (mkS _ kp b) 42 v w = _
      unfold f_X8_measure
      simp only [io_0, gI_0, pI_0, pZ_0, io_1, gI_1, pI_1, pZ_1, io_2, gI_2, pI_2, pZ_2, aL_3, io_4, gI_4, pI_4, pZ_4, aL_5, io_6, gI_6, pI_6, pZ_6, aL_7, aL_8, io_9, gI_9, pI_9, pZ_9, aL_10, io_11, gI_11, pI_11, pZ_11, aL_12, io_13, gI_13, pI_13, pZ_13, aL_14, io_15, gI_15, pI_15, pZ_15, aL_16, io_17, gI_17, pI_17, pZ_17, aL_18, aL_19, io_20, gI_20, pI_20, pZ_20, aL_21, io_22, gI_22, pI_22, pZ_22, aL_23, io_24, gI_24, pI_24, pZ_24, aL_25, io_26, gI_26, pI_26, pZ_26, io_27, gI_27, pI_27, pZ_27, aL_28, aL_29, aL_30, aL_31, aL_32, aL_33, io_34, gI_34, pI_34, pZ_34, aL_35, io_36, gI_36, pI_36, pZ_36, aL_37, io_38, gI_38, pI_38, pZ_38, aL_39, io_40, gI_40, pI_40, pZ_40, aL_41, io_42, gI_42, pI_42, pZ_42, aL_43, aL_44, aL_45, aL_46, aL_47, aL_48, aL_49, aL_50, aL_51, aL_52, aL_53, aL_54, aL_55, aL_56, aL_57, aL_58, gq_0_0, gq_0_1, gq_0_2, gq_0_3, gq_0_4, gq_0_5, gq_0_6, gq_0_7, gq_1_0, gq_1_1, gq_1_2, gq_1_3, gq_1_4, gq_1_5, gq_1_6, gq_1_7, gq_1_8, gq_1_9, gq_2_2, gq_4_2, gq_6_2, gq_9_2, gq_11_2, gq_13_2, gq_15_2, gq_17_0, gq_20_0, gq_22_0, gq_24_0, gq_27_0, gq_34_0, gq_36_0, gq_38_0, gq_40_0, gq_42_0, gq_42_1, gq_42_3, gq_42_4, gq_42_11, gq_42_12, gq_42_13, gq_42_15, gq_42_16, gq_42_17, gq_42_18, gq_42_19, gq_42_23, gq_42_24, gq_42_25, gq_42_26, aQ_29_0, aQ_29_1, aQ_29_2, aQ_29_3, aQ_19_0, aQ_19_1, aQ_19_2, aQ_46_0, aQ_46_1, aQ_46_2, gq_26, gr_26, gr_0_8, pQ_26, Option.bind_some, ↓reduceIte, one_ne0, (place8 (w4e _ _) (show c 0 ≤ 1000 by omega)).2 hp, finds_1]
      try simp
end MS
