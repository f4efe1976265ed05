/-! the law's loop -/
section LL
variable {m : Nat → Nat → Int32} {kp : Bool} {b : Option Nat} {z : Nat}
theorem st_ok {fx fm : St → Option (Int32 × St)} {K : St → Option (Int32 × St)} (h : OpAt fx fm m kp b z) (hK : ∀ m2 kp1 b1, RR m2 kp1 (z + 1) → ∃ p, K (mkS m2 kp1 b1) = some p) : ∃ p, ((fx (mkS m kp b)).bind fun p => (fm p.2).bind fun q => if p.1 = q.1 then K q.2 else none) = some p := by
  obtain ⟨r, m1, kp1, b1, m2, e1, e2, hR⟩ := h
  obtain ⟨p, hp⟩ := hK m2 kp1 b1 hR
  refine ⟨p, ?_⟩
  rw [e1, Option.bind_some]
  show ((fm (mkS m1 kp1 b1)).bind fun q => if r = q.1 then K q.2 else none) = some p
  rw [e2, Option.bind_some]
  show (if r = r then K (mkS m2 kp1 b1) else none) = some p
  rw [if_pos rfl, hp]
theorem lg_same (x : Int64) : lg_cmp x x = 0 := by
  unfold lg_cmp
  rw [if_neg (fun h => Int64.lt_irrefl h), if_pos rfl]
theorem st_okL {fx fm : St → Option (Int64 × St)} {K : St → Option (Int32 × St)} (h : OpAt fx fm m kp b z) (hK : ∀ m2 kp1 b1, RR m2 kp1 (z + 1) → ∃ p, K (mkS m2 kp1 b1) = some p) : ∃ p, ((fx (mkS m kp b)).bind fun p => (fm p.2).bind fun q => if lg_cmp p.1 q.1 = 0 then K q.2 else none) = some p := by
  obtain ⟨r, m1, kp1, b1, m2, e1, e2, hR⟩ := h
  obtain ⟨p, hp⟩ := hK m2 kp1 b1 hR
  refine ⟨p, ?_⟩
  rw [e1, Option.bind_some]
  show ((fm (mkS m1 kp1 b1)).bind fun q => if lg_cmp r q.1 = 0 then K q.2 else none) = some p
  rw [e2, Option.bind_some]
  show (if lg_cmp r r = 0 then K (mkS m2 kp1 b1) else none) = some p
  rw [if_pos (lg_same r), hp]
set_option maxRecDepth 100000 in
theorem lw_small : ∀ L, L < 6 → ∀ i, i < 65 → nI L - 6 < nI (6 * i) := by decide +kernel
theorem lw_end {L i : Nat} (hL : L ≤ 384) (hi : i ≤ 64) : (nI L - 6 < nI (6 * i)) ↔ L < 6 * i + 6 := by
  by_cases h : L < 6
  · exact ⟨fun _ => by omega, fun _ => lw_small L h i (by omega)⟩
  · rw [show (6 : Int32) = nI 6 from rfl, nI_sub (by omega), nI_ltI (by omega) (by omega)]
    omega
theorem scI_at {xs : Nat → Int32} {L j : Nat} (hL : L ≤ 384) (hj : j < L) : scI xs L (nI j) = some (xs j) := by
  unfold scI
  rw [if_pos (inB_nI hj (by omega)), nI_clamp (by omega)]

theorem lc_0 {xs : Nat → Int32} {L : Nat} {x3 a1 a2 a3 a4 a5 : Int32} {K : St → Option (Int32 × St)} (e1 : scI xs L (x3 + 1) = some a1) (e2 : scI xs L (x3 + 2) = some a2) (e3 : scI xs L (x3 + 3) = some a3) (e4 : scI xs L (x3 + 4) = some a4) (e5 : scI xs L (x3 + 5) = some a5) (hR : RR m kp z) (hK : ∀ m2 kp1 b1, RR m2 kp1 (z + 1) → ∃ p, K (mkS m2 kp1 b1) = some p) : ∃ p, ((scI xs L (x3 + 1)).bind fun v14 => (scI xs L (x3 + 2)).bind fun v16 => (scI xs L (x3 + 3)).bind fun v18 => (f_X7_machine (mkS m kp b) 0 v14 v16 v18).bind fun p20 => (scI xs L (x3 + 1)).bind fun v22 => (scI xs L (x3 + 2)).bind fun v24 => (scI xs L (x3 + 3)).bind fun v26 => (f_X8_machine p20.2 42 v22 v24 v26).bind fun p28 => if p20.1 = p28.1 then (K p28.2) else (none)) = some p := by
  simp only [e1, e2, e3, Option.bind_some]
  exact st_ok (fx := fun σ => f_X7_machine σ 0 a1 a2 a3) (fm := fun σ => f_X8_machine σ 42 a1 a2 a3) (K := K) (op_machine a1 a2 a3 m kp b z hR) hK
theorem lc_1 {xs : Nat → Int32} {L : Nat} {x3 a1 a2 a3 a4 a5 : Int32} {K : St → Option (Int32 × St)} (e1 : scI xs L (x3 + 1) = some a1) (e2 : scI xs L (x3 + 2) = some a2) (e3 : scI xs L (x3 + 3) = some a3) (e4 : scI xs L (x3 + 4) = some a4) (e5 : scI xs L (x3 + 5) = some a5) (hR : RR m kp z) (hK : ∀ m2 kp1 b1, RR m2 kp1 (z + 1) → ∃ p, K (mkS m2 kp1 b1) = some p) : ∃ p, ((scI xs L (x3 + 1)).bind fun v32 => (f_X7_draws (mkS m kp b) 0 v32).bind fun p34 => (scI xs L (x3 + 1)).bind fun v36 => (f_X8_draws p34.2 42 v36).bind fun p38 => if p34.1 = p38.1 then (K p38.2) else (none)) = some p := by
  simp only [e1, Option.bind_some]
  exact st_ok (fx := fun σ => f_X7_draws σ 0 a1) (fm := fun σ => f_X8_draws σ 42 a1) (K := K) (op_draws a1 m kp b z hR) hK
theorem lc_2 {xs : Nat → Int32} {L : Nat} {x3 a1 a2 a3 a4 a5 : Int32} {K : St → Option (Int32 × St)} (e1 : scI xs L (x3 + 1) = some a1) (e2 : scI xs L (x3 + 2) = some a2) (e3 : scI xs L (x3 + 3) = some a3) (e4 : scI xs L (x3 + 4) = some a4) (e5 : scI xs L (x3 + 5) = some a5) (hR : RR m kp z) (hK : ∀ m2 kp1 b1, RR m2 kp1 (z + 1) → ∃ p, K (mkS m2 kp1 b1) = some p) : ∃ p, ((scI xs L (x3 + 1)).bind fun v42 => (scI xs L (x3 + 2)).bind fun v44 => (scI xs L (x3 + 3)).bind fun v46 => (f_X7_paper (mkS m kp b) 0 v42 v44 v46).bind fun p48 => (scI xs L (x3 + 1)).bind fun v50 => (scI xs L (x3 + 2)).bind fun v52 => (scI xs L (x3 + 3)).bind fun v54 => (f_X8_paper_ p48.2 42 v50 v52 v54).bind fun p56 => if p48.1 = p56.1 then (K p56.2) else (none)) = some p := by
  simp only [e1, e2, e3, Option.bind_some]
  exact st_ok (fx := fun σ => f_X7_paper σ 0 a1 a2 a3) (fm := fun σ => f_X8_paper_ σ 42 a1 a2 a3) (K := K) (op_paper a1 a2 a3 m kp b z hR) hK
theorem lc_3 {xs : Nat → Int32} {L : Nat} {x3 a1 a2 a3 a4 a5 : Int32} {K : St → Option (Int32 × St)} (e1 : scI xs L (x3 + 1) = some a1) (e2 : scI xs L (x3 + 2) = some a2) (e3 : scI xs L (x3 + 3) = some a3) (e4 : scI xs L (x3 + 4) = some a4) (e5 : scI xs L (x3 + 5) = some a5) (hR : RR m kp z) (hK : ∀ m2 kp1 b1, RR m2 kp1 (z + 1) → ∃ p, K (mkS m2 kp1 b1) = some p) : ∃ p, ((scI xs L (x3 + 1)).bind fun v60 => (scI xs L (x3 + 2)).bind fun v62 => (f_X7_paperIs (mkS m kp b) 0 v60 v62).bind fun p64 => (scI xs L (x3 + 1)).bind fun v66 => (scI xs L (x3 + 2)).bind fun v68 => (f_X8_paperIs p64.2 42 v66 v68).bind fun p70 => if p64.1 = p70.1 then (K p70.2) else (none)) = some p := by
  simp only [e1, e2, Option.bind_some]
  exact st_ok (fx := fun σ => f_X7_paperIs σ 0 a1 a2) (fm := fun σ => f_X8_paperIs σ 42 a1 a2) (K := K) (op_paperIs a1 a2 m kp b z hR) hK
theorem lc_4 {xs : Nat → Int32} {L : Nat} {x3 a1 a2 a3 a4 a5 : Int32} {K : St → Option (Int32 × St)} (e1 : scI xs L (x3 + 1) = some a1) (e2 : scI xs L (x3 + 2) = some a2) (e3 : scI xs L (x3 + 3) = some a3) (e4 : scI xs L (x3 + 4) = some a4) (e5 : scI xs L (x3 + 5) = some a5) (hR : RR m kp z) (hK : ∀ m2 kp1 b1, RR m2 kp1 (z + 1) → ∃ p, K (mkS m2 kp1 b1) = some p) : ∃ p, ((scI xs L (x3 + 1)).bind fun v74 => (scI xs L (x3 + 2)).bind fun v76 => (scI xs L (x3 + 3)).bind fun v78 => (scI xs L (x3 + 4)).bind fun v80 => (scI xs L (x3 + 5)).bind fun v82 => (f_X7_curve (mkS m kp b) 0 v74 v76 v78 v80 v82).bind fun p84 => (scI xs L (x3 + 1)).bind fun v86 => (scI xs L (x3 + 2)).bind fun v88 => (scI xs L (x3 + 3)).bind fun v90 => (scI xs L (x3 + 4)).bind fun v92 => (scI xs L (x3 + 5)).bind fun v94 => (f_X8_curve_ p84.2 42 v86 v88 v90 v92 v94).bind fun p96 => if p84.1 = p96.1 then (K p96.2) else (none)) = some p := by
  simp only [e1, e2, e3, e4, e5, Option.bind_some]
  exact st_ok (fx := fun σ => f_X7_curve σ 0 a1 a2 a3 a4 a5) (fm := fun σ => f_X8_curve_ σ 42 a1 a2 a3 a4 a5) (K := K) (op_curve a1 a2 a3 a4 a5 m kp b z hR) hK
theorem lc_5 {xs : Nat → Int32} {L : Nat} {x3 a1 a2 a3 a4 a5 : Int32} {K : St → Option (Int32 × St)} (e1 : scI xs L (x3 + 1) = some a1) (e2 : scI xs L (x3 + 2) = some a2) (e3 : scI xs L (x3 + 3) = some a3) (e4 : scI xs L (x3 + 4) = some a4) (e5 : scI xs L (x3 + 5) = some a5) (hR : RR m kp z) (hK : ∀ m2 kp1 b1, RR m2 kp1 (z + 1) → ∃ p, K (mkS m2 kp1 b1) = some p) : ∃ p, ((scI xs L (x3 + 1)).bind fun v100 => (scI xs L (x3 + 2)).bind fun v102 => (f_X7_measure (mkS m kp b) 0 v100 v102).bind fun p104 => (scI xs L (x3 + 1)).bind fun v106 => (scI xs L (x3 + 2)).bind fun v108 => (f_X8_measure p104.2 42 v106 v108).bind fun p110 => if p104.1 = p110.1 then (K p110.2) else (none)) = some p := by
  simp only [e1, e2, Option.bind_some]
  exact st_ok (fx := fun σ => f_X7_measure σ 0 a1 a2) (fm := fun σ => f_X8_measure σ 42 a1 a2) (K := K) (op_measure a1 a2 m kp b z hR) hK
theorem lc_6 {xs : Nat → Int32} {L : Nat} {x3 a1 a2 a3 a4 a5 : Int32} {K : St → Option (Int32 × St)} (e1 : scI xs L (x3 + 1) = some a1) (e2 : scI xs L (x3 + 2) = some a2) (e3 : scI xs L (x3 + 3) = some a3) (e4 : scI xs L (x3 + 4) = some a4) (e5 : scI xs L (x3 + 5) = some a5) (hR : RR m kp z) (hK : ∀ m2 kp1 b1, RR m2 kp1 (z + 1) → ∃ p, K (mkS m2 kp1 b1) = some p) : ∃ p, ((scI xs L (x3 + 1)).bind fun v114 => (scI xs L (x3 + 2)).bind fun v116 => (scI xs L (x3 + 3)).bind fun v118 => (scI xs L (x3 + 4)).bind fun v120 => (scI xs L (x3 + 5)).bind fun v122 => (f_X7_make (mkS m kp b) 0 v114 v116 v118 v120 v122).bind fun p124 => (scI xs L (x3 + 1)).bind fun v126 => (scI xs L (x3 + 2)).bind fun v128 => (scI xs L (x3 + 3)).bind fun v130 => (scI xs L (x3 + 4)).bind fun v132 => (scI xs L (x3 + 5)).bind fun v134 => (f_X8_make p124.2 42 v126 v128 v130 v132 v134).bind fun p136 => if p124.1 = p136.1 then (K p136.2) else (none)) = some p := by
  simp only [e1, e2, e3, e4, e5, Option.bind_some]
  exact st_ok (fx := fun σ => f_X7_make σ 0 a1 a2 a3 a4 a5) (fm := fun σ => f_X8_make σ 42 a1 a2 a3 a4 a5) (K := K) (op_make a1 a2 a3 a4 a5 m kp b z hR) hK
theorem lc_7 {xs : Nat → Int32} {L : Nat} {x3 a1 a2 a3 a4 a5 : Int32} {K : St → Option (Int32 × St)} (e1 : scI xs L (x3 + 1) = some a1) (e2 : scI xs L (x3 + 2) = some a2) (e3 : scI xs L (x3 + 3) = some a3) (e4 : scI xs L (x3 + 4) = some a4) (e5 : scI xs L (x3 + 5) = some a5) (hR : RR m kp z) (hK : ∀ m2 kp1 b1, RR m2 kp1 (z + 1) → ∃ p, K (mkS m2 kp1 b1) = some p) : ∃ p, ((scI xs L (x3 + 1)).bind fun v140 => (scI xs L (x3 + 2)).bind fun v142 => (f_X7_curveIs (mkS m kp b) 0 v140 v142).bind fun p144 => (scI xs L (x3 + 1)).bind fun v146 => (scI xs L (x3 + 2)).bind fun v148 => (f_X8_curveIs p144.2 42 v146 v148).bind fun p150 => if p144.1 = p150.1 then (K p150.2) else (none)) = some p := by
  simp only [e1, e2, Option.bind_some]
  exact st_ok (fx := fun σ => f_X7_curveIs σ 0 a1 a2) (fm := fun σ => f_X8_curveIs σ 42 a1 a2) (K := K) (op_curveIs a1 a2 m kp b z hR) hK
theorem lc_8 {xs : Nat → Int32} {L : Nat} {x3 a1 a2 a3 a4 a5 : Int32} {K : St → Option (Int32 × St)} (e1 : scI xs L (x3 + 1) = some a1) (e2 : scI xs L (x3 + 2) = some a2) (e3 : scI xs L (x3 + 3) = some a3) (e4 : scI xs L (x3 + 4) = some a4) (e5 : scI xs L (x3 + 5) = some a5) (hR : RR m kp z) (hK : ∀ m2 kp1 b1, RR m2 kp1 (z + 1) → ∃ p, K (mkS m2 kp1 b1) = some p) : ∃ p, ((scI xs L (x3 + 1)).bind fun v154 => (scI xs L (x3 + 2)).bind fun v156 => (f_X7_as (mkS m kp b) 0 v154 v156).bind fun p158 => (scI xs L (x3 + 1)).bind fun v160 => (scI xs L (x3 + 2)).bind fun v162 => (f_X8_as p158.2 42 v160 v162).bind fun p164 => if p158.1 = p164.1 then (K p164.2) else (none)) = some p := by
  simp only [e1, e2, Option.bind_some]
  exact st_ok (fx := fun σ => f_X7_as σ 0 a1 a2) (fm := fun σ => f_X8_as σ 42 a1 a2) (K := K) (op_as a1 a2 m kp b z hR) hK
theorem lc_9 {xs : Nat → Int32} {L : Nat} {x3 a1 a2 a3 a4 a5 : Int32} {K : St → Option (Int32 × St)} (e1 : scI xs L (x3 + 1) = some a1) (e2 : scI xs L (x3 + 2) = some a2) (e3 : scI xs L (x3 + 3) = some a3) (e4 : scI xs L (x3 + 4) = some a4) (e5 : scI xs L (x3 + 5) = some a5) (hR : RR m kp z) (hK : ∀ m2 kp1 b1, RR m2 kp1 (z + 1) → ∃ p, K (mkS m2 kp1 b1) = some p) : ∃ p, ((scI xs L (x3 + 1)).bind fun v168 => (scI xs L (x3 + 2)).bind fun v170 => (f_X7_point (mkS m kp b) 0 v168 v170).bind fun p172 => (scI xs L (x3 + 1)).bind fun v174 => (scI xs L (x3 + 2)).bind fun v176 => (f_X8_point p172.2 42 v174 v176).bind fun p178 => if p172.1 = p178.1 then (K p178.2) else (none)) = some p := by
  simp only [e1, e2, Option.bind_some]
  exact st_ok (fx := fun σ => f_X7_point σ 0 a1 a2) (fm := fun σ => f_X8_point σ 42 a1 a2) (K := K) (op_point a1 a2 m kp b z hR) hK
theorem lc_10 {xs : Nat → Int32} {L : Nat} {x3 a1 a2 a3 a4 a5 : Int32} {K : St → Option (Int32 × St)} (e1 : scI xs L (x3 + 1) = some a1) (e2 : scI xs L (x3 + 2) = some a2) (e3 : scI xs L (x3 + 3) = some a3) (e4 : scI xs L (x3 + 4) = some a4) (e5 : scI xs L (x3 + 5) = some a5) (hR : RR m kp z) (hK : ∀ m2 kp1 b1, RR m2 kp1 (z + 1) → ∃ p, K (mkS m2 kp1 b1) = some p) : ∃ p, ((scI xs L (x3 + 1)).bind fun v182 => (scI xs L (x3 + 2)).bind fun v184 => (f_X7_hair (mkS m kp b) 0 v182 v184).bind fun p186 => (scI xs L (x3 + 1)).bind fun v188 => (scI xs L (x3 + 2)).bind fun v190 => (f_X8_hair p186.2 42 v188 v190).bind fun p192 => if p186.1 = p192.1 then (K p192.2) else (none)) = some p := by
  simp only [e1, e2, Option.bind_some]
  exact st_ok (fx := fun σ => f_X7_hair σ 0 a1 a2) (fm := fun σ => f_X8_hair σ 42 a1 a2) (K := K) (op_hair a1 a2 m kp b z hR) hK
theorem lc_11 {xs : Nat → Int32} {L : Nat} {x3 a1 a2 a3 a4 a5 : Int32} {K : St → Option (Int32 × St)} (e1 : scI xs L (x3 + 1) = some a1) (e2 : scI xs L (x3 + 2) = some a2) (e3 : scI xs L (x3 + 3) = some a3) (e4 : scI xs L (x3 + 4) = some a4) (e5 : scI xs L (x3 + 5) = some a5) (hR : RR m kp z) (hK : ∀ m2 kp1 b1, RR m2 kp1 (z + 1) → ∃ p, K (mkS m2 kp1 b1) = some p) : ∃ p, ((scI xs L (x3 + 1)).bind fun v196 => (scI xs L (x3 + 2)).bind fun v198 => (scI xs L (x3 + 3)).bind fun v200 => (f_X7_feed (mkS m kp b) 0 ((v196.toInt64 <<< ((32 : Int32).toInt64 &&& 63)) ||| (v198.toInt64 &&& 4294967295)) v200).bind fun p202 => (scI xs L (x3 + 1)).bind fun v204 => (scI xs L (x3 + 2)).bind fun v206 => (scI xs L (x3 + 3)).bind fun v208 => (f_X8_feed p202.2 42 ((v204.toInt64 <<< ((32 : Int32).toInt64 &&& 63)) ||| (v206.toInt64 &&& 4294967295)) v208).bind fun p210 => if p202.1 = p210.1 then (K p210.2) else (none)) = some p := by
  simp only [e1, e2, e3, Option.bind_some]
  exact st_ok (fx := fun σ => f_X7_feed σ 0 ((a1.toInt64 <<< ((32 : Int32).toInt64 &&& 63)) ||| (a2.toInt64 &&& 4294967295)) a3) (fm := fun σ => f_X8_feed σ 42 ((a1.toInt64 <<< ((32 : Int32).toInt64 &&& 63)) ||| (a2.toInt64 &&& 4294967295)) a3) (K := K) (op_feed ((a1.toInt64 <<< ((32 : Int32).toInt64 &&& 63)) ||| (a2.toInt64 &&& 4294967295)) a3 m kp b z hR) hK
theorem lc_12 {xs : Nat → Int32} {L : Nat} {x3 a1 a2 a3 a4 a5 : Int32} {K : St → Option (Int32 × St)} (e1 : scI xs L (x3 + 1) = some a1) (e2 : scI xs L (x3 + 2) = some a2) (e3 : scI xs L (x3 + 3) = some a3) (e4 : scI xs L (x3 + 4) = some a4) (e5 : scI xs L (x3 + 5) = some a5) (hR : RR m kp z) (hK : ∀ m2 kp1 b1, RR m2 kp1 (z + 1) → ∃ p, K (mkS m2 kp1 b1) = some p) : ∃ p, ((scI xs L (x3 + 1)).bind fun v214 => (f_X7_text (mkS m kp b) 0 v214).bind fun p216 => (scI xs L (x3 + 1)).bind fun v218 => (f_X8_text_ p216.2 42 v218).bind fun p220 => if p216.1 = p220.1 then (K p220.2) else (none)) = some p := by
  simp only [e1, Option.bind_some]
  exact st_ok (fx := fun σ => f_X7_text σ 0 a1) (fm := fun σ => f_X8_text_ σ 42 a1) (K := K) (op_text a1 m kp b z hR) hK
theorem lc_13 {xs : Nat → Int32} {L : Nat} {x3 a1 a2 a3 a4 a5 : Int32} {K : St → Option (Int32 × St)} (e1 : scI xs L (x3 + 1) = some a1) (e2 : scI xs L (x3 + 2) = some a2) (e3 : scI xs L (x3 + 3) = some a3) (e4 : scI xs L (x3 + 4) = some a4) (e5 : scI xs L (x3 + 5) = some a5) (hR : RR m kp z) (hK : ∀ m2 kp1 b1, RR m2 kp1 (z + 1) → ∃ p, K (mkS m2 kp1 b1) = some p) : ∃ p, ((scI xs L (x3 + 1)).bind fun v224 => (scI xs L (x3 + 2)).bind fun v226 => (scI xs L (x3 + 3)).bind fun v228 => (scI xs L (x3 + 4)).bind fun v230 => (f_X7_law (mkS m kp b) 0 v224 v226 v228 v230).bind fun p232 => (scI xs L (x3 + 1)).bind fun v234 => (scI xs L (x3 + 2)).bind fun v236 => (scI xs L (x3 + 3)).bind fun v238 => (scI xs L (x3 + 4)).bind fun v240 => (f_X8_law p232.2 42 v234 v236 v238 v240).bind fun p242 => if p232.1 = p242.1 then (K p242.2) else (none)) = some p := by
  simp only [e1, e2, e3, e4, Option.bind_some]
  exact st_ok (fx := fun σ => f_X7_law σ 0 a1 a2 a3 a4) (fm := fun σ => f_X8_law σ 42 a1 a2 a3 a4) (K := K) (op_law a1 a2 a3 a4 m kp b z hR) hK
theorem lc_14 {xs : Nat → Int32} {L : Nat} {x3 a1 a2 a3 a4 a5 : Int32} {K : St → Option (Int32 × St)} (e1 : scI xs L (x3 + 1) = some a1) (e2 : scI xs L (x3 + 2) = some a2) (e3 : scI xs L (x3 + 3) = some a3) (e4 : scI xs L (x3 + 4) = some a4) (e5 : scI xs L (x3 + 5) = some a5) (hR : RR m kp z) (hK : ∀ m2 kp1 b1, RR m2 kp1 (z + 1) → ∃ p, K (mkS m2 kp1 b1) = some p) : ∃ p, ((scI xs L (x3 + 1)).bind fun v246 => (scI xs L (x3 + 2)).bind fun v248 => (scI xs L (x3 + 3)).bind fun v250 => (f_X7_same (mkS m kp b) 0 v246 v248 v250).bind fun p252 => (scI xs L (x3 + 1)).bind fun v254 => (scI xs L (x3 + 2)).bind fun v256 => (scI xs L (x3 + 3)).bind fun v258 => (f_X8_same p252.2 42 v254 v256 v258).bind fun p260 => if p252.1 = p260.1 then (K p260.2) else (none)) = some p := by
  simp only [e1, e2, e3, Option.bind_some]
  exact st_ok (fx := fun σ => f_X7_same σ 0 a1 a2 a3) (fm := fun σ => f_X8_same σ 42 a1 a2 a3) (K := K) (op_same a1 a2 a3 m kp b z hR) hK
theorem lc_15 {xs : Nat → Int32} {L : Nat} {x3 a1 a2 a3 a4 a5 : Int32} {K : St → Option (Int32 × St)} (e1 : scI xs L (x3 + 1) = some a1) (e2 : scI xs L (x3 + 2) = some a2) (e3 : scI xs L (x3 + 3) = some a3) (e4 : scI xs L (x3 + 4) = some a4) (e5 : scI xs L (x3 + 5) = some a5) (hR : RR m kp z) (hK : ∀ m2 kp1 b1, RR m2 kp1 (z + 1) → ∃ p, K (mkS m2 kp1 b1) = some p) : ∃ p, ((scI xs L (x3 + 1)).bind fun v264 => (scI xs L (x3 + 2)).bind fun v266 => (scI xs L (x3 + 3)).bind fun v268 => (scI xs L (x3 + 4)).bind fun v270 => (f_X7_bent (mkS m kp b) 0 v264 v266 v268 v270).bind fun p272 => (scI xs L (x3 + 1)).bind fun v274 => (scI xs L (x3 + 2)).bind fun v276 => (scI xs L (x3 + 3)).bind fun v278 => (scI xs L (x3 + 4)).bind fun v280 => (f_X8_bent p272.2 42 v274 v276 v278 v280).bind fun p282 => if p272.1 = p282.1 then (K p282.2) else (none)) = some p := by
  simp only [e1, e2, e3, e4, Option.bind_some]
  exact st_ok (fx := fun σ => f_X7_bent σ 0 a1 a2 a3 a4) (fm := fun σ => f_X8_bent σ 42 a1 a2 a3 a4) (K := K) (op_bent a1 a2 a3 a4 m kp b z hR) hK
theorem lc_16 {xs : Nat → Int32} {L : Nat} {x3 a1 a2 a3 a4 a5 : Int32} {K : St → Option (Int32 × St)} (e1 : scI xs L (x3 + 1) = some a1) (e2 : scI xs L (x3 + 2) = some a2) (e3 : scI xs L (x3 + 3) = some a3) (e4 : scI xs L (x3 + 4) = some a4) (e5 : scI xs L (x3 + 5) = some a5) (hR : RR m kp z) (hK : ∀ m2 kp1 b1, RR m2 kp1 (z + 1) → ∃ p, K (mkS m2 kp1 b1) = some p) : ∃ p, ((scI xs L (x3 + 1)).bind fun v286 => (f_X7_pairs (mkS m kp b) 0 v286).bind fun p288 => (scI xs L (x3 + 1)).bind fun v290 => (f_X8_pairs p288.2 42 v290).bind fun p292 => if p288.1 = p292.1 then (K p292.2) else (none)) = some p := by
  simp only [e1, Option.bind_some]
  exact st_ok (fx := fun σ => f_X7_pairs σ 0 a1) (fm := fun σ => f_X8_pairs σ 42 a1) (K := K) (op_pairs a1 m kp b z hR) hK
theorem lc_17 {xs : Nat → Int32} {L : Nat} {x3 a1 a2 a3 a4 a5 : Int32} {K : St → Option (Int32 × St)} (e1 : scI xs L (x3 + 1) = some a1) (e2 : scI xs L (x3 + 2) = some a2) (e3 : scI xs L (x3 + 3) = some a3) (e4 : scI xs L (x3 + 4) = some a4) (e5 : scI xs L (x3 + 5) = some a5) (hR : RR m kp z) (hK : ∀ m2 kp1 b1, RR m2 kp1 (z + 1) → ∃ p, K (mkS m2 kp1 b1) = some p) : ∃ p, ((scI xs L (x3 + 1)).bind fun v296 => (scI xs L (x3 + 2)).bind fun v298 => (scI xs L (x3 + 3)).bind fun v300 => (f_X7_prints (mkS m kp b) 0 v296 v298 v300).bind fun p302 => (scI xs L (x3 + 1)).bind fun v304 => (scI xs L (x3 + 2)).bind fun v306 => (scI xs L (x3 + 3)).bind fun v308 => (f_X8_prints p302.2 42 v304 v306 v308).bind fun p310 => if p302.1 = p310.1 then (K p310.2) else (none)) = some p := by
  simp only [e1, e2, e3, Option.bind_some]
  exact st_ok (fx := fun σ => f_X7_prints σ 0 a1 a2 a3) (fm := fun σ => f_X8_prints σ 42 a1 a2 a3) (K := K) (op_prints a1 a2 a3 m kp b z hR) hK
theorem lc_18 {xs : Nat → Int32} {L : Nat} {x3 a1 a2 a3 a4 a5 : Int32} {K : St → Option (Int32 × St)} (e1 : scI xs L (x3 + 1) = some a1) (e2 : scI xs L (x3 + 2) = some a2) (e3 : scI xs L (x3 + 3) = some a3) (e4 : scI xs L (x3 + 4) = some a4) (e5 : scI xs L (x3 + 5) = some a5) (hR : RR m kp z) (hK : ∀ m2 kp1 b1, RR m2 kp1 (z + 1) → ∃ p, K (mkS m2 kp1 b1) = some p) : ∃ p, ((scI xs L (x3 + 1)).bind fun v314 => (scI xs L (x3 + 2)).bind fun v316 => (scI xs L (x3 + 3)).bind fun v318 => (f_X7_worked (mkS m kp b) 0 v314 v316 v318).bind fun p320 => (scI xs L (x3 + 1)).bind fun v322 => (scI xs L (x3 + 2)).bind fun v324 => (scI xs L (x3 + 3)).bind fun v326 => (f_X8_worked p320.2 42 v322 v324 v326).bind fun p328 => if p320.1 = p328.1 then (K p328.2) else (none)) = some p := by
  simp only [e1, e2, e3, Option.bind_some]
  exact st_ok (fx := fun σ => f_X7_worked σ 0 a1 a2 a3) (fm := fun σ => f_X8_worked σ 42 a1 a2 a3) (K := K) (op_worked a1 a2 a3 m kp b z hR) hK
theorem lc_19 {xs : Nat → Int32} {L : Nat} {x3 a1 a2 a3 a4 a5 : Int32} {K : St → Option (Int32 × St)} (e1 : scI xs L (x3 + 1) = some a1) (e2 : scI xs L (x3 + 2) = some a2) (e3 : scI xs L (x3 + 3) = some a3) (e4 : scI xs L (x3 + 4) = some a4) (e5 : scI xs L (x3 + 5) = some a5) (hR : RR m kp z) (hK : ∀ m2 kp1 b1, RR m2 kp1 (z + 1) → ∃ p, K (mkS m2 kp1 b1) = some p) : ∃ p, ((scI xs L (x3 + 1)).bind fun v332 => (f_X7_sign (mkS m kp b) 0 v332).bind fun p334 => (scI xs L (x3 + 1)).bind fun v336 => (f_X8_sign p334.2 42 v336).bind fun p338 => if p334.1 = p338.1 then (K p338.2) else (none)) = some p := by
  simp only [e1, Option.bind_some]
  exact st_ok (fx := fun σ => f_X7_sign σ 0 a1) (fm := fun σ => f_X8_sign σ 42 a1) (K := K) (op_sign a1 m kp b z hR) hK
theorem lc_20 {xs : Nat → Int32} {L : Nat} {x3 a1 a2 a3 a4 a5 : Int32} {K : St → Option (Int32 × St)} (e1 : scI xs L (x3 + 1) = some a1) (e2 : scI xs L (x3 + 2) = some a2) (e3 : scI xs L (x3 + 3) = some a3) (e4 : scI xs L (x3 + 4) = some a4) (e5 : scI xs L (x3 + 5) = some a5) (hR : RR m kp z) (hK : ∀ m2 kp1 b1, RR m2 kp1 (z + 1) → ∃ p, K (mkS m2 kp1 b1) = some p) : ∃ p, ((f_X7_unsigned (mkS m kp b) 0).bind fun p342 => (f_X8_unsigned p342.2 42).bind fun p344 => if p342.1 = p344.1 then (K p344.2) else (none)) = some p := by
  exact st_ok (fx := fun σ => f_X7_unsigned σ 0 ) (fm := fun σ => f_X8_unsigned σ 42 ) (K := K) (op_unsigned  m kp b z hR) hK
theorem lc_21 {xs : Nat → Int32} {L : Nat} {x3 a1 a2 a3 a4 a5 : Int32} {K : St → Option (Int32 × St)} (e1 : scI xs L (x3 + 1) = some a1) (e2 : scI xs L (x3 + 2) = some a2) (e3 : scI xs L (x3 + 3) = some a3) (e4 : scI xs L (x3 + 4) = some a4) (e5 : scI xs L (x3 + 5) = some a5) (hR : RR m kp z) (hK : ∀ m2 kp1 b1, RR m2 kp1 (z + 1) → ∃ p, K (mkS m2 kp1 b1) = some p) : ∃ p, ((scI xs L (x3 + 1)).bind fun v348 => (scI xs L (x3 + 2)).bind fun v350 => (scI xs L (x3 + 3)).bind fun v352 => (scI xs L (x3 + 4)).bind fun v354 => (f_X7_honest (mkS m kp b) 0 v348 v350 v352 v354).bind fun p356 => (scI xs L (x3 + 1)).bind fun v358 => (scI xs L (x3 + 2)).bind fun v360 => (scI xs L (x3 + 3)).bind fun v362 => (scI xs L (x3 + 4)).bind fun v364 => (f_X8_honest p356.2 42 v358 v360 v362 v364).bind fun p366 => if (lg_cmp p356.1 p366.1) = 0 then (K p366.2) else (none)) = some p := by
  simp only [e1, e2, e3, e4, Option.bind_some]
  exact st_okL (fx := fun σ => f_X7_honest σ 0 a1 a2 a3 a4) (fm := fun σ => f_X8_honest σ 42 a1 a2 a3 a4) (K := K) (op_honest a1 a2 a3 a4 m kp b z hR) hK
theorem lc_22 {xs : Nat → Int32} {L : Nat} {x3 a1 a2 a3 a4 a5 : Int32} {K : St → Option (Int32 × St)} (e1 : scI xs L (x3 + 1) = some a1) (e2 : scI xs L (x3 + 2) = some a2) (e3 : scI xs L (x3 + 3) = some a3) (e4 : scI xs L (x3 + 4) = some a4) (e5 : scI xs L (x3 + 5) = some a5) (hR : RR m kp z) (hK : ∀ m2 kp1 b1, RR m2 kp1 (z + 1) → ∃ p, K (mkS m2 kp1 b1) = some p) : ∃ p, ((scI xs L (x3 + 1)).bind fun v370 => (scI xs L (x3 + 2)).bind fun v372 => (f_X7_could (mkS m kp b) 0 v370 v372).bind fun p374 => (scI xs L (x3 + 1)).bind fun v376 => (scI xs L (x3 + 2)).bind fun v378 => (f_X8_could p374.2 42 v376 v378).bind fun p380 => if p374.1 = p380.1 then (K p380.2) else (none)) = some p := by
  simp only [e1, e2, Option.bind_some]
  exact st_ok (fx := fun σ => f_X7_could σ 0 a1 a2) (fm := fun σ => f_X8_could σ 42 a1 a2) (K := K) (op_could a1 a2 m kp b z hR) hK
theorem lc_23 {xs : Nat → Int32} {L : Nat} {x3 a1 a2 a3 a4 a5 : Int32} {K : St → Option (Int32 × St)} (e1 : scI xs L (x3 + 1) = some a1) (e2 : scI xs L (x3 + 2) = some a2) (e3 : scI xs L (x3 + 3) = some a3) (e4 : scI xs L (x3 + 4) = some a4) (e5 : scI xs L (x3 + 5) = some a5) (hR : RR m kp z) (hK : ∀ m2 kp1 b1, RR m2 kp1 (z + 1) → ∃ p, K (mkS m2 kp1 b1) = some p) : ∃ p, ((scI xs L (x3 + 1)).bind fun v384 => (f_X7_sources (mkS m kp b) 0 v384).bind fun p386 => (scI xs L (x3 + 1)).bind fun v388 => (f_X8_sources p386.2 42 v388).bind fun p390 => if p386.1 = p390.1 then (K p390.2) else (none)) = some p := by
  simp only [e1, Option.bind_some]
  exact st_ok (fx := fun σ => f_X7_sources σ 0 a1) (fm := fun σ => f_X8_sources σ 42 a1) (K := K) (op_sources a1 m kp b z hR) hK
theorem lc_24 {xs : Nat → Int32} {L : Nat} {x3 a1 a2 a3 a4 a5 : Int32} {K : St → Option (Int32 × St)} (e1 : scI xs L (x3 + 1) = some a1) (e2 : scI xs L (x3 + 2) = some a2) (e3 : scI xs L (x3 + 3) = some a3) (e4 : scI xs L (x3 + 4) = some a4) (e5 : scI xs L (x3 + 5) = some a5) (hR : RR m kp z) (hK : ∀ m2 kp1 b1, RR m2 kp1 (z + 1) → ∃ p, K (mkS m2 kp1 b1) = some p) : ∃ p, ((scI xs L (x3 + 1)).bind fun v394 => (f_X7_hands (mkS m kp b) 0 v394).bind fun p396 => (scI xs L (x3 + 1)).bind fun v398 => (f_X8_hands p396.2 42 v398).bind fun p400 => if p396.1 = p400.1 then (K p400.2) else (none)) = some p := by
  simp only [e1, Option.bind_some]
  exact st_ok (fx := fun σ => f_X7_hands σ 0 a1) (fm := fun σ => f_X8_hands σ 42 a1) (K := K) (op_hands a1 m kp b z hR) hK
theorem lc_25 {xs : Nat → Int32} {L : Nat} {x3 a1 a2 a3 a4 a5 : Int32} {K : St → Option (Int32 × St)} (e1 : scI xs L (x3 + 1) = some a1) (e2 : scI xs L (x3 + 2) = some a2) (e3 : scI xs L (x3 + 3) = some a3) (e4 : scI xs L (x3 + 4) = some a4) (e5 : scI xs L (x3 + 5) = some a5) (hR : RR m kp z) (hK : ∀ m2 kp1 b1, RR m2 kp1 (z + 1) → ∃ p, K (mkS m2 kp1 b1) = some p) : ∃ p, ((scI xs L (x3 + 1)).bind fun v404 => (scI xs L (x3 + 2)).bind fun v406 => (f_X7_saw (mkS m kp b) 0 v404 v406).bind fun p408 => (scI xs L (x3 + 1)).bind fun v410 => (scI xs L (x3 + 2)).bind fun v412 => (f_X8_saw p408.2 42 v410 v412).bind fun p414 => if p408.1 = p414.1 then (K p414.2) else (none)) = some p := by
  simp only [e1, e2, Option.bind_some]
  exact st_ok (fx := fun σ => f_X7_saw σ 0 a1 a2) (fm := fun σ => f_X8_saw σ 42 a1 a2) (K := K) (op_saw a1 a2 m kp b z hR) hK
theorem lc_26 {xs : Nat → Int32} {L : Nat} {x3 a1 a2 a3 a4 a5 : Int32} {K : St → Option (Int32 × St)} (e1 : scI xs L (x3 + 1) = some a1) (e2 : scI xs L (x3 + 2) = some a2) (e3 : scI xs L (x3 + 3) = some a3) (e4 : scI xs L (x3 + 4) = some a4) (e5 : scI xs L (x3 + 5) = some a5) (hR : RR m kp z) (hK : ∀ m2 kp1 b1, RR m2 kp1 (z + 1) → ∃ p, K (mkS m2 kp1 b1) = some p) : ∃ p, ((scI xs L (x3 + 1)).bind fun v418 => (scI xs L (x3 + 2)).bind fun v420 => (f_X7_rests (mkS m kp b) 0 v418 v420).bind fun p422 => (scI xs L (x3 + 1)).bind fun v424 => (scI xs L (x3 + 2)).bind fun v426 => (f_X8_rests p422.2 42 v424 v426).bind fun p428 => if p422.1 = p428.1 then (K p428.2) else (none)) = some p := by
  simp only [e1, e2, Option.bind_some]
  exact st_ok (fx := fun σ => f_X7_rests σ 0 a1 a2) (fm := fun σ => f_X8_rests σ 42 a1 a2) (K := K) (op_rests a1 a2 m kp b z hR) hK
theorem lc_27 {xs : Nat → Int32} {L : Nat} {x3 a1 a2 a3 a4 a5 : Int32} {K : St → Option (Int32 × St)} (e1 : scI xs L (x3 + 1) = some a1) (e2 : scI xs L (x3 + 2) = some a2) (e3 : scI xs L (x3 + 3) = some a3) (e4 : scI xs L (x3 + 4) = some a4) (e5 : scI xs L (x3 + 5) = some a5) (hR : RR m kp z) (hK : ∀ m2 kp1 b1, RR m2 kp1 (z + 1) → ∃ p, K (mkS m2 kp1 b1) = some p) : ∃ p, ((scI xs L (x3 + 1)).bind fun v432 => (scI xs L (x3 + 2)).bind fun v434 => (f_X7_needs (mkS m kp b) 0 v432 v434).bind fun p436 => (scI xs L (x3 + 1)).bind fun v438 => (scI xs L (x3 + 2)).bind fun v440 => (f_X8_needs p436.2 42 v438 v440).bind fun p442 => if p436.1 = p442.1 then (K p442.2) else (none)) = some p := by
  simp only [e1, e2, Option.bind_some]
  exact st_ok (fx := fun σ => f_X7_needs σ 0 a1 a2) (fm := fun σ => f_X8_needs σ 42 a1 a2) (K := K) (op_needs a1 a2 m kp b z hR) hK
theorem lc_28 {xs : Nat → Int32} {L : Nat} {x3 a1 a2 a3 a4 a5 : Int32} {K : St → Option (Int32 × St)} (e1 : scI xs L (x3 + 1) = some a1) (e2 : scI xs L (x3 + 2) = some a2) (e3 : scI xs L (x3 + 3) = some a3) (e4 : scI xs L (x3 + 4) = some a4) (e5 : scI xs L (x3 + 5) = some a5) (hR : RR m kp z) (hK : ∀ m2 kp1 b1, RR m2 kp1 (z + 1) → ∃ p, K (mkS m2 kp1 b1) = some p) : ∃ p, ((scI xs L (x3 + 1)).bind fun v446 => (f_X7_fall (mkS m kp b) 0 v446).bind fun p448 => (scI xs L (x3 + 1)).bind fun v450 => (f_X8_fall p448.2 42 v450).bind fun p452 => if p448.1 = p452.1 then (K p452.2) else (none)) = some p := by
  simp only [e1, Option.bind_some]
  exact st_ok (fx := fun σ => f_X7_fall σ 0 a1) (fm := fun σ => f_X8_fall σ 42 a1) (K := K) (op_fall a1 m kp b z hR) hK
theorem lc_29 {xs : Nat → Int32} {L : Nat} {x3 a1 a2 a3 a4 a5 : Int32} {K : St → Option (Int32 × St)} (e1 : scI xs L (x3 + 1) = some a1) (e2 : scI xs L (x3 + 2) = some a2) (e3 : scI xs L (x3 + 3) = some a3) (e4 : scI xs L (x3 + 4) = some a4) (e5 : scI xs L (x3 + 5) = some a5) (hR : RR m kp z) (hK : ∀ m2 kp1 b1, RR m2 kp1 (z + 1) → ∃ p, K (mkS m2 kp1 b1) = some p) : ∃ p, ((scI xs L (x3 + 1)).bind fun v456 => (scI xs L (x3 + 2)).bind fun v458 => (scI xs L (x3 + 3)).bind fun v460 => (f_X7_link (mkS m kp b) 0 v456 v458 v460).bind fun p462 => (scI xs L (x3 + 1)).bind fun v464 => (scI xs L (x3 + 2)).bind fun v466 => (scI xs L (x3 + 3)).bind fun v468 => (f_X8_link p462.2 42 v464 v466 v468).bind fun p470 => if p462.1 = p470.1 then (K p470.2) else (none)) = some p := by
  simp only [e1, e2, e3, Option.bind_some]
  exact st_ok (fx := fun σ => f_X7_link σ 0 a1 a2 a3) (fm := fun σ => f_X8_link σ 42 a1 a2 a3) (K := K) (op_link a1 a2 a3 m kp b z hR) hK
theorem lc_30 {xs : Nat → Int32} {L : Nat} {x3 a1 a2 a3 a4 a5 : Int32} {K : St → Option (Int32 × St)} (e1 : scI xs L (x3 + 1) = some a1) (e2 : scI xs L (x3 + 2) = some a2) (e3 : scI xs L (x3 + 3) = some a3) (e4 : scI xs L (x3 + 4) = some a4) (e5 : scI xs L (x3 + 5) = some a5) (hR : RR m kp z) (hK : ∀ m2 kp1 b1, RR m2 kp1 (z + 1) → ∃ p, K (mkS m2 kp1 b1) = some p) : ∃ p, ((scI xs L (x3 + 1)).bind fun v474 => (scI xs L (x3 + 2)).bind fun v476 => (scI xs L (x3 + 3)).bind fun v478 => (scI xs L (x3 + 4)).bind fun v480 => (f_X7_tries (mkS m kp b) 0 v474 v476 v478 (if v480 = 0 then 0 else 1 : Int32)).bind fun p482 => (scI xs L (x3 + 1)).bind fun v484 => (scI xs L (x3 + 2)).bind fun v486 => (scI xs L (x3 + 3)).bind fun v488 => (scI xs L (x3 + 4)).bind fun v490 => (f_X8_tries p482.2 42 v484 v486 v488 (if v490 = 0 then 0 else 1 : Int32)).bind fun p492 => if p482.1 = p492.1 then (K p492.2) else (none)) = some p := by
  simp only [e1, e2, e3, e4, Option.bind_some]
  exact st_ok (fx := fun σ => f_X7_tries σ 0 a1 a2 a3 (if a4 = 0 then 0 else 1 : Int32)) (fm := fun σ => f_X8_tries σ 42 a1 a2 a3 (if a4 = 0 then 0 else 1 : Int32)) (K := K) (op_tries a1 a2 a3 (if a4 = 0 then 0 else 1 : Int32) m kp b z hR) hK
theorem lc_31 {xs : Nat → Int32} {L : Nat} {x3 a1 a2 a3 a4 a5 : Int32} {K : St → Option (Int32 × St)} (e1 : scI xs L (x3 + 1) = some a1) (e2 : scI xs L (x3 + 2) = some a2) (e3 : scI xs L (x3 + 3) = some a3) (e4 : scI xs L (x3 + 4) = some a4) (e5 : scI xs L (x3 + 5) = some a5) (hR : RR m kp z) (hK : ∀ m2 kp1 b1, RR m2 kp1 (z + 1) → ∃ p, K (mkS m2 kp1 b1) = some p) : ∃ p, ((scI xs L (x3 + 1)).bind fun v500 => (scI xs L (x3 + 2)).bind fun v502 => (scI xs L (x3 + 3)).bind fun v504 => (f_X7_knows (mkS m kp b) 0 v500 v502 v504).bind fun p506 => (scI xs L (x3 + 1)).bind fun v508 => (scI xs L (x3 + 2)).bind fun v510 => (scI xs L (x3 + 3)).bind fun v512 => (f_X8_knows p506.2 42 v508 v510 v512).bind fun p514 => if p506.1 = p514.1 then (K p514.2) else (none)) = some p := by
  simp only [e1, e2, e3, Option.bind_some]
  exact st_ok (fx := fun σ => f_X7_knows σ 0 a1 a2 a3) (fm := fun σ => f_X8_knows σ 42 a1 a2 a3) (K := K) (op_knows a1 a2 a3 m kp b z hR) hK
theorem lc_32 {xs : Nat → Int32} {L : Nat} {x3 a1 a2 a3 a4 a5 : Int32} {K : St → Option (Int32 × St)} (e1 : scI xs L (x3 + 1) = some a1) (e2 : scI xs L (x3 + 2) = some a2) (e3 : scI xs L (x3 + 3) = some a3) (e4 : scI xs L (x3 + 4) = some a4) (e5 : scI xs L (x3 + 5) = some a5) (hR : RR m kp z) (hK : ∀ m2 kp1 b1, RR m2 kp1 (z + 1) → ∃ p, K (mkS m2 kp1 b1) = some p) : ∃ p, ((scI xs L (x3 + 1)).bind fun v518 => (scI xs L (x3 + 2)).bind fun v520 => (f_X7_rule (mkS m kp b) 0 v518 v520).bind fun p522 => (scI xs L (x3 + 1)).bind fun v524 => (scI xs L (x3 + 2)).bind fun v526 => (f_X8_rule p522.2 42 v524 v526).bind fun p528 => if p522.1 = p528.1 then (K p528.2) else (none)) = some p := by
  simp only [e1, e2, Option.bind_some]
  exact st_ok (fx := fun σ => f_X7_rule σ 0 a1 a2) (fm := fun σ => f_X8_rule σ 42 a1 a2) (K := K) (op_rule a1 a2 m kp b z hR) hK
theorem lc_33 {xs : Nat → Int32} {L : Nat} {x3 a1 a2 a3 a4 a5 : Int32} {K : St → Option (Int32 × St)} (e1 : scI xs L (x3 + 1) = some a1) (e2 : scI xs L (x3 + 2) = some a2) (e3 : scI xs L (x3 + 3) = some a3) (e4 : scI xs L (x3 + 4) = some a4) (e5 : scI xs L (x3 + 5) = some a5) (hR : RR m kp z) (hK : ∀ m2 kp1 b1, RR m2 kp1 (z + 1) → ∃ p, K (mkS m2 kp1 b1) = some p) : ∃ p, ((scI xs L (x3 + 1)).bind fun v532 => (scI xs L (x3 + 2)).bind fun v534 => (scI xs L (x3 + 3)).bind fun v536 => (f_X7_rules (mkS m kp b) 0 v532 v534 v536).bind fun p538 => (scI xs L (x3 + 1)).bind fun v540 => (scI xs L (x3 + 2)).bind fun v542 => (scI xs L (x3 + 3)).bind fun v544 => (f_X8_rules p538.2 42 v540 v542 v544).bind fun p546 => if p538.1 = p546.1 then (K p546.2) else (none)) = some p := by
  simp only [e1, e2, e3, Option.bind_some]
  exact st_ok (fx := fun σ => f_X7_rules σ 0 a1 a2 a3) (fm := fun σ => f_X8_rules σ 42 a1 a2 a3) (K := K) (op_rules a1 a2 a3 m kp b z hR) hK
theorem lc_34 {xs : Nat → Int32} {L : Nat} {x3 a1 a2 a3 a4 a5 : Int32} {K : St → Option (Int32 × St)} (e1 : scI xs L (x3 + 1) = some a1) (e2 : scI xs L (x3 + 2) = some a2) (e3 : scI xs L (x3 + 3) = some a3) (e4 : scI xs L (x3 + 4) = some a4) (e5 : scI xs L (x3 + 5) = some a5) (hR : RR m kp z) (hK : ∀ m2 kp1 b1, RR m2 kp1 (z + 1) → ∃ p, K (mkS m2 kp1 b1) = some p) : ∃ p, ((scI xs L (x3 + 1)).bind fun v550 => (scI xs L (x3 + 2)).bind fun v552 => (scI xs L (x3 + 3)).bind fun v554 => (f_X7_voice (mkS m kp b) 0 v550 v552 v554).bind fun p556 => (scI xs L (x3 + 1)).bind fun v558 => (scI xs L (x3 + 2)).bind fun v560 => (scI xs L (x3 + 3)).bind fun v562 => (f_X8_voice p556.2 42 v558 v560 v562).bind fun p564 => if p556.1 = p564.1 then (K p564.2) else (none)) = some p := by
  simp only [e1, e2, e3, Option.bind_some]
  exact st_ok (fx := fun σ => f_X7_voice σ 0 a1 a2 a3) (fm := fun σ => f_X8_voice σ 42 a1 a2 a3) (K := K) (op_voice a1 a2 a3 m kp b z hR) hK
theorem lc_35 {xs : Nat → Int32} {L : Nat} {x3 a1 a2 a3 a4 a5 : Int32} {K : St → Option (Int32 × St)} (e1 : scI xs L (x3 + 1) = some a1) (e2 : scI xs L (x3 + 2) = some a2) (e3 : scI xs L (x3 + 3) = some a3) (e4 : scI xs L (x3 + 4) = some a4) (e5 : scI xs L (x3 + 5) = some a5) (hR : RR m kp z) (hK : ∀ m2 kp1 b1, RR m2 kp1 (z + 1) → ∃ p, K (mkS m2 kp1 b1) = some p) : ∃ p, ((scI xs L (x3 + 1)).bind fun v568 => (f_X7_trace (mkS m kp b) 0 v568).bind fun p570 => (scI xs L (x3 + 1)).bind fun v572 => (f_X8_trace p570.2 42 v572).bind fun p574 => if p570.1 = p574.1 then (K p574.2) else (none)) = some p := by
  simp only [e1, Option.bind_some]
  exact st_ok (fx := fun σ => f_X7_trace σ 0 a1) (fm := fun σ => f_X8_trace σ 42 a1) (K := K) (op_trace a1 m kp b z hR) hK
theorem lc_36 {xs : Nat → Int32} {L : Nat} {x3 a1 a2 a3 a4 a5 : Int32} {K : St → Option (Int32 × St)} (e1 : scI xs L (x3 + 1) = some a1) (e2 : scI xs L (x3 + 2) = some a2) (e3 : scI xs L (x3 + 3) = some a3) (e4 : scI xs L (x3 + 4) = some a4) (e5 : scI xs L (x3 + 5) = some a5) (hR : RR m kp z) (hK : ∀ m2 kp1 b1, RR m2 kp1 (z + 1) → ∃ p, K (mkS m2 kp1 b1) = some p) : ∃ p, ((scI xs L (x3 + 1)).bind fun v578 => (scI xs L (x3 + 2)).bind fun v580 => (scI xs L (x3 + 3)).bind fun v582 => (f_X7_sheet (mkS m kp b) 0 v578 v580 v582).bind fun p584 => (scI xs L (x3 + 1)).bind fun v586 => (scI xs L (x3 + 2)).bind fun v588 => (scI xs L (x3 + 3)).bind fun v590 => (f_X8_sheet p584.2 42 v586 v588 v590).bind fun p592 => if p584.1 = p592.1 then (K p592.2) else (none)) = some p := by
  simp only [e1, e2, e3, Option.bind_some]
  exact st_ok (fx := fun σ => f_X7_sheet σ 0 a1 a2 a3) (fm := fun σ => f_X8_sheet σ 42 a1 a2 a3) (K := K) (op_sheet a1 a2 a3 m kp b z hR) hK
theorem lc_37 {xs : Nat → Int32} {L : Nat} {x3 a1 a2 a3 a4 a5 : Int32} {K : St → Option (Int32 × St)} (e1 : scI xs L (x3 + 1) = some a1) (e2 : scI xs L (x3 + 2) = some a2) (e3 : scI xs L (x3 + 3) = some a3) (e4 : scI xs L (x3 + 4) = some a4) (e5 : scI xs L (x3 + 5) = some a5) (hR : RR m kp z) (hK : ∀ m2 kp1 b1, RR m2 kp1 (z + 1) → ∃ p, K (mkS m2 kp1 b1) = some p) : ∃ p, ((scI xs L (x3 + 1)).bind fun v596 => (scI xs L (x3 + 2)).bind fun v598 => (scI xs L (x3 + 3)).bind fun v600 => (f_X7_put (mkS m kp b) 0 v596 v598 v600).bind fun p602 => (scI xs L (x3 + 1)).bind fun v604 => (scI xs L (x3 + 2)).bind fun v606 => (scI xs L (x3 + 3)).bind fun v608 => (f_X8_put p602.2 42 v604 v606 v608).bind fun p610 => if p602.1 = p610.1 then (K p610.2) else (none)) = some p := by
  simp only [e1, e2, e3, Option.bind_some]
  exact st_ok (fx := fun σ => f_X7_put σ 0 a1 a2 a3) (fm := fun σ => f_X8_put σ 42 a1 a2 a3) (K := K) (op_put a1 a2 a3 m kp b z hR) hK
theorem lc_38 {xs : Nat → Int32} {L : Nat} {x3 a1 a2 a3 a4 a5 : Int32} {K : St → Option (Int32 × St)} (e1 : scI xs L (x3 + 1) = some a1) (e2 : scI xs L (x3 + 2) = some a2) (e3 : scI xs L (x3 + 3) = some a3) (e4 : scI xs L (x3 + 4) = some a4) (e5 : scI xs L (x3 + 5) = some a5) (hR : RR m kp z) (hK : ∀ m2 kp1 b1, RR m2 kp1 (z + 1) → ∃ p, K (mkS m2 kp1 b1) = some p) : ∃ p, ((scI xs L (x3 + 1)).bind fun v614 => (scI xs L (x3 + 2)).bind fun v616 => (scI xs L (x3 + 3)).bind fun v618 => (scI xs L (x3 + 4)).bind fun v620 => (scI xs L (x3 + 5)).bind fun v622 => (f_X7_move (mkS m kp b) 0 v614 v616 v618 v620 v622).bind fun p624 => (scI xs L (x3 + 1)).bind fun v626 => (scI xs L (x3 + 2)).bind fun v628 => (scI xs L (x3 + 3)).bind fun v630 => (scI xs L (x3 + 4)).bind fun v632 => (scI xs L (x3 + 5)).bind fun v634 => (f_X8_move p624.2 42 v626 v628 v630 v632 v634).bind fun p636 => if p624.1 = p636.1 then (K p636.2) else (none)) = some p := by
  simp only [e1, e2, e3, e4, e5, Option.bind_some]
  exact st_ok (fx := fun σ => f_X7_move σ 0 a1 a2 a3 a4 a5) (fm := fun σ => f_X8_move σ 42 a1 a2 a3 a4 a5) (K := K) (op_move a1 a2 a3 a4 a5 m kp b z hR) hK
theorem lc_39 {xs : Nat → Int32} {L : Nat} {x3 a1 a2 a3 a4 a5 : Int32} {K : St → Option (Int32 × St)} (e1 : scI xs L (x3 + 1) = some a1) (e2 : scI xs L (x3 + 2) = some a2) (e3 : scI xs L (x3 + 3) = some a3) (e4 : scI xs L (x3 + 4) = some a4) (e5 : scI xs L (x3 + 5) = some a5) (hR : RR m kp z) (hK : ∀ m2 kp1 b1, RR m2 kp1 (z + 1) → ∃ p, K (mkS m2 kp1 b1) = some p) : ∃ p, ((f_X7_image (mkS m kp b) 0).bind fun p640 => (f_X8_image p640.2 42).bind fun p642 => if p640.1 = p642.1 then (K p642.2) else (none)) = some p := by
  exact st_ok (fx := fun σ => f_X7_image σ 0 ) (fm := fun σ => f_X8_image σ 42 ) (K := K) (op_image  m kp b z hR) hK
theorem lc_40 {xs : Nat → Int32} {L : Nat} {x3 a1 a2 a3 a4 a5 : Int32} {K : St → Option (Int32 × St)} (hz : z < 1000) (e1 : scI xs L (x3 + 1) = some a1) (e2 : scI xs L (x3 + 2) = some a2) (e3 : scI xs L (x3 + 3) = some a3) (e4 : scI xs L (x3 + 4) = some a4) (e5 : scI xs L (x3 + 5) = some a5) (hR : RR m kp z) (hK : ∀ m2 kp1 b1, RR m2 kp1 (z + 1) → ∃ p, K (mkS m2 kp1 b1) = some p) : ∃ p, ((f_X7_restore (mkS m kp b) 0).bind fun p646 => (f_X8_restore p646.2 42).bind fun p648 => if p646.1 = p648.1 then (K p648.2) else (none)) = some p := by
  exact st_ok (fx := fun σ => f_X7_restore σ 0 ) (fm := fun σ => f_X8_restore σ 42 ) (K := K) (op_restore hz hR) hK
theorem lc_41 {xs : Nat → Int32} {L : Nat} {x3 a1 a2 a3 a4 a5 : Int32} {K : St → Option (Int32 × St)} (e1 : scI xs L (x3 + 1) = some a1) (e2 : scI xs L (x3 + 2) = some a2) (e3 : scI xs L (x3 + 3) = some a3) (e4 : scI xs L (x3 + 4) = some a4) (e5 : scI xs L (x3 + 5) = some a5) (hR : RR m kp z) (hK : ∀ m2 kp1 b1, RR m2 kp1 (z + 1) → ∃ p, K (mkS m2 kp1 b1) = some p) : ∃ p, ((scI xs L (x3 + 1)).bind fun v652 => (f_X7_tell (mkS m kp b) 0 v652).bind fun p654 => (scI xs L (x3 + 1)).bind fun v656 => (f_X8_tell p654.2 42 v656).bind fun p658 => if p654.1 = p658.1 then (K p658.2) else (none)) = some p := by
  simp only [e1, Option.bind_some]
  exact st_ok (fx := fun σ => f_X7_tell σ 0 a1) (fm := fun σ => f_X8_tell σ 42 a1) (K := K) (op_tell a1 m kp b z hR) hK
theorem lc_42 {xs : Nat → Int32} {L : Nat} {x3 a1 a2 a3 a4 a5 : Int32} {K : St → Option (Int32 × St)} (e1 : scI xs L (x3 + 1) = some a1) (e2 : scI xs L (x3 + 2) = some a2) (e3 : scI xs L (x3 + 3) = some a3) (e4 : scI xs L (x3 + 4) = some a4) (e5 : scI xs L (x3 + 5) = some a5) (hR : RR m kp z) (hK : ∀ m2 kp1 b1, RR m2 kp1 (z + 1) → ∃ p, K (mkS m2 kp1 b1) = some p) : ∃ p, ((scI xs L (x3 + 1)).bind fun v662 => (f_X7_check (mkS m kp b) 0 v662).bind fun p664 => (scI xs L (x3 + 1)).bind fun v666 => (f_X8_check p664.2 42 v666).bind fun p668 => if p664.1 = p668.1 then (K p668.2) else (none)) = some p := by
  simp only [e1, Option.bind_some]
  exact st_ok (fx := fun σ => f_X7_check σ 0 a1) (fm := fun σ => f_X8_check σ 42 a1) (K := K) (op_check a1 m kp b z hR) hK
theorem lc_43 {xs : Nat → Int32} {L : Nat} {x3 a1 a2 a3 a4 a5 : Int32} {K : St → Option (Int32 × St)} (e1 : scI xs L (x3 + 1) = some a1) (e2 : scI xs L (x3 + 2) = some a2) (e3 : scI xs L (x3 + 3) = some a3) (e4 : scI xs L (x3 + 4) = some a4) (e5 : scI xs L (x3 + 5) = some a5) (hR : RR m kp z) (hK : ∀ m2 kp1 b1, RR m2 kp1 (z + 1) → ∃ p, K (mkS m2 kp1 b1) = some p) : ∃ p, ((scI xs L (x3 + 1)).bind fun v672 => (f_X7_count (mkS m kp b) 0 v672).bind fun p674 => (scI xs L (x3 + 1)).bind fun v676 => (f_X8_count p674.2 42 v676).bind fun p678 => if p674.1 = p678.1 then (K p678.2) else (none)) = some p := by
  simp only [e1, Option.bind_some]
  exact st_ok (fx := fun σ => f_X7_count σ 0 a1) (fm := fun σ => f_X8_count σ 42 a1) (K := K) (op_count a1 m kp b z hR) hK
theorem lc_44 {xs : Nat → Int32} {L : Nat} {x3 a1 a2 a3 a4 a5 : Int32} {K : St → Option (Int32 × St)} (e1 : scI xs L (x3 + 1) = some a1) (e2 : scI xs L (x3 + 2) = some a2) (e3 : scI xs L (x3 + 3) = some a3) (e4 : scI xs L (x3 + 4) = some a4) (e5 : scI xs L (x3 + 5) = some a5) (hR : RR m kp z) (hK : ∀ m2 kp1 b1, RR m2 kp1 (z + 1) → ∃ p, K (mkS m2 kp1 b1) = some p) : ∃ p, ((scI xs L (x3 + 1)).bind fun v682 => (f_X7_told (mkS m kp b) 0 v682).bind fun p684 => (scI xs L (x3 + 1)).bind fun v686 => (f_X8_told p684.2 42 v686).bind fun p688 => if p684.1 = p688.1 then (K p688.2) else (none)) = some p := by
  simp only [e1, Option.bind_some]
  exact st_ok (fx := fun σ => f_X7_told σ 0 a1) (fm := fun σ => f_X8_told σ 42 a1) (K := K) (op_told a1 m kp b z hR) hK
theorem loop_ok {xs : Nat → Int32} {L : Nat} (hL : L ≤ 384) : ∀ f i m kp b, i + f = 70 → i ≤ 64 → RR m kp i → ∃ p, f_L_law_L18 xs L 42 0 f (nI (6 * i)) (mkS m kp b) = some p := by
  intro f
  induction f with
  | zero => intro i m kp b h1 h2 _; exact absurd h1 (by omega)
  | succ f ih =>
    intro i m kp b h1 h2 hR
    rw [f_L_law_L18]
    by_cases hE : L < 6 * i + 6
    · rw [if_pos ((lw_end hL h2).mpr hE)]
      exact ⟨_, rfl⟩
    · rw [if_neg (fun q => hE ((lw_end hL h2).mp q)), scI_at hL (show 6 * i < L by omega), Option.bind_some]
      have e1 : scI xs L (nI (6 * i) + 1) = some (xs (6 * i + 1)) := (congrArg (scI xs L) (nI_add (6 * i) 1)).trans (scI_at hL (by omega))
      have e2 : scI xs L (nI (6 * i) + 2) = some (xs (6 * i + 2)) := (congrArg (scI xs L) (nI_add (6 * i) 2)).trans (scI_at hL (by omega))
      have e3 : scI xs L (nI (6 * i) + 3) = some (xs (6 * i + 3)) := (congrArg (scI xs L) (nI_add (6 * i) 3)).trans (scI_at hL (by omega))
      have e4 : scI xs L (nI (6 * i) + 4) = some (xs (6 * i + 4)) := (congrArg (scI xs L) (nI_add (6 * i) 4)).trans (scI_at hL (by omega))
      have e5 : scI xs L (nI (6 * i) + 5) = some (xs (6 * i + 5)) := (congrArg (scI xs L) (nI_add (6 * i) 5)).trans (scI_at hL (by omega))
      have hK : ∀ m2 kp1 b1, RR m2 kp1 (i + 1) → ∃ p, f_L_law_L18 xs L 42 0 f (nI (6 * i) + 6) (mkS m2 kp1 b1) = some p := fun m2 kp1 b1 hR2 => by
        have := ih (i + 1) m2 kp1 b1 (by omega) (by omega) hR2
        rw [show nI (6 * i) + 6 = nI (6 * (i + 1)) from (nI_add (6 * i) 6).trans (congrArg nI (by omega))]
        exact this
      generalize xs (6 * i) &&& 63 = w
      generalize f_L_law_L18 xs L 42 0 f (nI (6 * i) + 6) = K at hK ⊢
      clear ih h1 hE
      by_cases h0 : w = 0
      · rw [if_pos h0]
        exact lc_0 e1 e2 e3 e4 e5 hR hK
      rw [if_neg h0]
      clear h0
      by_cases h1 : w = 1
      · rw [if_pos h1]
        exact lc_1 e1 e2 e3 e4 e5 hR hK
      rw [if_neg h1]
      clear h1
      by_cases h2 : w = 2
      · rw [if_pos h2]
        exact lc_2 e1 e2 e3 e4 e5 hR hK
      rw [if_neg h2]
      clear h2
      by_cases h3 : w = 3
      · rw [if_pos h3]
        exact lc_3 e1 e2 e3 e4 e5 hR hK
      rw [if_neg h3]
      clear h3
      by_cases h4 : w = 4
      · rw [if_pos h4]
        exact lc_4 e1 e2 e3 e4 e5 hR hK
      rw [if_neg h4]
      clear h4
      by_cases h5 : w = 5
      · rw [if_pos h5]
        exact lc_5 e1 e2 e3 e4 e5 hR hK
      rw [if_neg h5]
      clear h5
      by_cases h6 : w = 6
      · rw [if_pos h6]
        exact lc_6 e1 e2 e3 e4 e5 hR hK
      rw [if_neg h6]
      clear h6
      by_cases h7 : w = 7
      · rw [if_pos h7]
        exact lc_7 e1 e2 e3 e4 e5 hR hK
      rw [if_neg h7]
      clear h7
      by_cases h8 : w = 8
      · rw [if_pos h8]
        exact lc_8 e1 e2 e3 e4 e5 hR hK
      rw [if_neg h8]
      clear h8
      by_cases h9 : w = 9
      · rw [if_pos h9]
        exact lc_9 e1 e2 e3 e4 e5 hR hK
      rw [if_neg h9]
      clear h9
      by_cases h10 : w = 10
      · rw [if_pos h10]
        exact lc_10 e1 e2 e3 e4 e5 hR hK
      rw [if_neg h10]
      clear h10
      by_cases h11 : w = 11
      · rw [if_pos h11]
        exact lc_11 e1 e2 e3 e4 e5 hR hK
      rw [if_neg h11]
      clear h11
      by_cases h12 : w = 12
      · rw [if_pos h12]
        exact lc_12 e1 e2 e3 e4 e5 hR hK
      rw [if_neg h12]
      clear h12
      by_cases h13 : w = 13
      · rw [if_pos h13]
        exact lc_13 e1 e2 e3 e4 e5 hR hK
      rw [if_neg h13]
      clear h13
      by_cases h14 : w = 14
      · rw [if_pos h14]
        exact lc_14 e1 e2 e3 e4 e5 hR hK
      rw [if_neg h14]
      clear h14
      by_cases h15 : w = 15
      · rw [if_pos h15]
        exact lc_15 e1 e2 e3 e4 e5 hR hK
      rw [if_neg h15]
      clear h15
      by_cases h16 : w = 16
      · rw [if_pos h16]
        exact lc_16 e1 e2 e3 e4 e5 hR hK
      rw [if_neg h16]
      clear h16
      by_cases h17 : w = 17
      · rw [if_pos h17]
        exact lc_17 e1 e2 e3 e4 e5 hR hK
      rw [if_neg h17]
      clear h17
      by_cases h18 : w = 18
      · rw [if_pos h18]
        exact lc_18 e1 e2 e3 e4 e5 hR hK
      rw [if_neg h18]
      clear h18
      by_cases h19 : w = 19
      · rw [if_pos h19]
        exact lc_19 e1 e2 e3 e4 e5 hR hK
      rw [if_neg h19]
      clear h19
      by_cases h20 : w = 20
      · rw [if_pos h20]
        exact lc_20 e1 e2 e3 e4 e5 hR hK
      rw [if_neg h20]
      clear h20
      by_cases h21 : w = 21
      · rw [if_pos h21]
        exact lc_21 e1 e2 e3 e4 e5 hR hK
      rw [if_neg h21]
      clear h21
      by_cases h22 : w = 22
      · rw [if_pos h22]
        exact lc_22 e1 e2 e3 e4 e5 hR hK
      rw [if_neg h22]
      clear h22
      by_cases h23 : w = 23
      · rw [if_pos h23]
        exact lc_23 e1 e2 e3 e4 e5 hR hK
      rw [if_neg h23]
      clear h23
      by_cases h24 : w = 24
      · rw [if_pos h24]
        exact lc_24 e1 e2 e3 e4 e5 hR hK
      rw [if_neg h24]
      clear h24
      by_cases h25 : w = 25
      · rw [if_pos h25]
        exact lc_25 e1 e2 e3 e4 e5 hR hK
      rw [if_neg h25]
      clear h25
      by_cases h26 : w = 26
      · rw [if_pos h26]
        exact lc_26 e1 e2 e3 e4 e5 hR hK
      rw [if_neg h26]
      clear h26
      by_cases h27 : w = 27
      · rw [if_pos h27]
        exact lc_27 e1 e2 e3 e4 e5 hR hK
      rw [if_neg h27]
      clear h27
      by_cases h28 : w = 28
      · rw [if_pos h28]
        exact lc_28 e1 e2 e3 e4 e5 hR hK
      rw [if_neg h28]
      clear h28
      by_cases h29 : w = 29
      · rw [if_pos h29]
        exact lc_29 e1 e2 e3 e4 e5 hR hK
      rw [if_neg h29]
      clear h29
      by_cases h30 : w = 30
      · rw [if_pos h30]
        exact lc_30 e1 e2 e3 e4 e5 hR hK
      rw [if_neg h30]
      clear h30
      by_cases h31 : w = 31
      · rw [if_pos h31]
        exact lc_31 e1 e2 e3 e4 e5 hR hK
      rw [if_neg h31]
      clear h31
      by_cases h32 : w = 32
      · rw [if_pos h32]
        exact lc_32 e1 e2 e3 e4 e5 hR hK
      rw [if_neg h32]
      clear h32
      by_cases h33 : w = 33
      · rw [if_pos h33]
        exact lc_33 e1 e2 e3 e4 e5 hR hK
      rw [if_neg h33]
      clear h33
      by_cases h34 : w = 34
      · rw [if_pos h34]
        exact lc_34 e1 e2 e3 e4 e5 hR hK
      rw [if_neg h34]
      clear h34
      by_cases h35 : w = 35
      · rw [if_pos h35]
        exact lc_35 e1 e2 e3 e4 e5 hR hK
      rw [if_neg h35]
      clear h35
      by_cases h36 : w = 36
      · rw [if_pos h36]
        exact lc_36 e1 e2 e3 e4 e5 hR hK
      rw [if_neg h36]
      clear h36
      by_cases h37 : w = 37
      · rw [if_pos h37]
        exact lc_37 e1 e2 e3 e4 e5 hR hK
      rw [if_neg h37]
      clear h37
      by_cases h38 : w = 38
      · rw [if_pos h38]
        exact lc_38 e1 e2 e3 e4 e5 hR hK
      rw [if_neg h38]
      clear h38
      by_cases h39 : w = 39
      · rw [if_pos h39]
        exact lc_39 e1 e2 e3 e4 e5 hR hK
      rw [if_neg h39]
      clear h39
      by_cases h40 : w = 40
      · rw [if_pos h40]
        exact lc_40 (by omega) e1 e2 e3 e4 e5 hR hK
      rw [if_neg h40]
      clear h40
      by_cases h41 : w = 41
      · rw [if_pos h41]
        exact lc_41 e1 e2 e3 e4 e5 hR hK
      rw [if_neg h41]
      clear h41
      by_cases h42 : w = 42
      · rw [if_pos h42]
        exact lc_42 e1 e2 e3 e4 e5 hR hK
      rw [if_neg h42]
      clear h42
      by_cases h43 : w = 43
      · rw [if_pos h43]
        exact lc_43 e1 e2 e3 e4 e5 hR hK
      rw [if_neg h43]
      clear h43
      by_cases h44 : w = 44
      · rw [if_pos h44]
        exact lc_44 e1 e2 e3 e4 e5 hR hK
      rw [if_neg h44]
      clear h44
      exact hK m kp b hR.up
theorem rf_start : rfF false (RF0 26 0) = RF0 := by
  funext k f
  unfold rfF
  by_cases h : k = 26 ∧ f = 0
  · obtain ⟨rfl, rfl⟩ := h
    rw [if_pos ⟨rfl, rfl⟩]
  · rw [if_neg h, if_neg (by decide)]
theorem law_ok {xs : Nat → Int32} {L : Nat} (hL : L ≤ 384) : f_L_law xs L σ00 = some 1 := by
  have h0 : σ00.2.2 = 0 := rfl
  obtain ⟨p, hp⟩ := loop_ok (xs := xs) hL 70 0 M0 false (RF0 26 0) (by decide) (by decide) RR_start
  have e8 : mkS M0 false (RF0 26 0) = sv8 := by
    rw [sv8_mk]
    show (M0, rfF false (RF0 26 0), 59) = (M0, RF0, 59)
    rw [rf_start]
  rw [e8, show nI (6 * 0) = 0 from rfl] at hp
  unfold f_L_law
  rw [h0, sv2_eq, Option.bind_some, sv4_eq, Option.bind_some, sv6_eq, Option.bind_some, sv4_n, sv8_eq, Option.bind_some, hp, Option.bind_some]
end LL
