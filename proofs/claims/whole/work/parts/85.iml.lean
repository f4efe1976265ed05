/-! what holds of a State holds of its copy -/
def Shp (m : Nat → Nat → Int32) (t : Nat) : Prop := m (t + 1) 0 = nI 3 ∧ m (t + 1) 1 = nI 4 ∧ m (t + 3) 0 = nI 5 ∧ m (t + 3) 1 = nI 12 ∧ m (t + 5) 0 = nI 5 ∧ m (t + 5) 1 = nI 24 ∧ m (t + 8) 0 = nI 3 ∧ m (t + 8) 1 = nI 20 ∧ m (t + 10) 0 = nI 4 ∧ m (t + 10) 1 = nI 30 ∧ m (t + 12) 0 = nI 2 ∧ m (t + 12) 1 = nI 8 ∧ m (t + 14) 0 = nI 1 ∧ m (t + 14) 1 = nI 24
section MV
variable {m M : Nat → Nat → Int32} {t u a a' : Nat} {c : Nat → Nat}
theorem RS.shp (h : RS m t a c) : Shp m t := by
  obtain ⟨e1, e2, e3, e4, e5, e6, e7, e8, e9, -⟩ := h
  exact ⟨e1.1, e1.2.1, e3.1, e3.2.1, e4.1, e4.2.1, e5.1, e5.2.1, e6.1, e6.2.1, e7.1, e7.2.1, e9.1, e9.2.1⟩
theorem RS.fit (h : RS m t a c) : FitB m t := by
  obtain ⟨-, -, -, -, -, -, -, e8, -, e10, e11, e12⟩ := h
  refine ⟨fun i hi => (e8.2.2.2 i hi).2, ?_, ?_, ?_⟩
  · obtain ⟨s, q, -, -, -, -, hf, -⟩ := e10
    exact hf
  · obtain ⟨s, q, -, -, -, -, hf, -⟩ := e11
    exact hf
  · obtain ⟨s, q, -, -, -, -, hf, -⟩ := e12
    exact hf
theorem TxRel.cp {w s q : Nat} {B B' co co' : Nat → Int32} (h : TxRel w B s co q) (hB : ∀ k, k < s → B k = B' k) (hc : ∀ k, k < q → co k = co' k) : TxRel w B' s co' q := by
  rcases h with h | ⟨h1, h2, h3, h4, h5⟩
  · exact Or.inl h
  · refine Or.inr ⟨h1, h2, ?_, ?_, fun k hk => ?_⟩
    · rw [← pOkB hB]; exact h3
    · rw [← psrB hB]; exact h4
    · rw [← psrB hB, ← hc k hk]; exact h5 k hk
theorem RTx1.cp {w : Nat} (hw : w < 3) (h : RTx1 m u a w) (h1 : M (t + (19 + 2 * w)) 1 = m (u + (19 + 2 * w)) 1) (h2 : ∀ k, k < 56 → M (t + (20 + 2 * w)) k = m (u + (20 + 2 * w)) k) (h3 : ∀ i, i < 1234 → M a' i = m a i) : RTx1 M t a' w := by
  obtain ⟨s, q, e1, e2, e3, e4, e5, e6⟩ := h
  have x1 : t + 19 + 2 * w = t + (19 + 2 * w) := by omega
  have x2 : u + 19 + 2 * w = u + (19 + 2 * w) := by omega
  have x3 : t + 20 + 2 * w = t + (20 + 2 * w) := by omega
  have x4 : u + 20 + 2 * w = u + (20 + 2 * w) := by omega
  rw [x2] at e3
  rw [x4] at e5 e6
  unfold RTx1
  rw [x1, x3]
  refine ⟨s, q, e1, e2, by rw [h1]; exact e3, by rw [h3 _ (by omega)]; exact e4, fun k hk => by rw [h2 k hk]; exact e5 k hk, e6.cp (fun k hk => ?_) (fun k hk => ?_)⟩
  · show m (u + (20 + 2 * w)) k &&& 255 = M (t + (20 + 2 * w)) k &&& 255
    rw [h2 k (by omega)]
  · show m a (1055 + 60 * w + k) = M a' (1055 + 60 * w + k)
    rw [h3 _ (by omega)]
theorem RS.cp (h : RS m u a c) (hs : Shp m t) (hm : ∀ x j, 1 ≤ x → x ≤ 24 → M (t + x) j = if (cpL x).1 ≤ j ∧ j < (cpL x).2 then m (u + x) j else m (t + x) j) (h10 : M t 10 = m u 10) (ha : ∀ i, i < 1234 → M a' i = m a i) : RS M t a' c := by
  have hA : ∀ x n k, cpL x = (0, n) → 1 ≤ x → x ≤ 24 → k < n → M (t + x) k = m (u + x) k := fun x n k e h1 h2 hk => by
    rw [hm x k h1 h2, e]
    exact if_pos ⟨Nat.zero_le k, hk⟩
  have hF : ∀ x f, cpL x = (f, f + 1) → 1 ≤ x → x ≤ 24 → M (t + x) f = m (u + x) f := fun x f e h1 h2 => by
    rw [hm x f h1 h2, e]
    exact if_pos ⟨Nat.le_refl f, Nat.lt_succ_self f⟩
  have hN : ∀ x j, cpL x = (3, 4) → j < 3 → 1 ≤ x → x ≤ 24 → M (t + x) j = m (t + x) j := fun x j e hj h1 h2 => by
    rw [hm x j h1 h2, e]
    exact if_neg (fun q => absurd q.1 (Nat.not_le.mpr hj))
  clear hm
  obtain ⟨e1, e2, e3, e4, e5, e6, e7, e8, e9, e10, e11, e12⟩ := h
  obtain ⟨s1, s2, s3, s4, s5, s6, s7, s8, s9, s10, s11, s12, s13, s14⟩ := hs
  refine ⟨?_, ?_, ?_, ?_, ?_, ?_, ?_, ?_, ?_, e10.cp (by decide) (hF 19 1 rfl (by decide) (by decide)) (fun k hk => hA 20 56 k rfl (by decide) (by decide) hk) ha, e11.cp (by decide) (hF 21 1 rfl (by decide) (by decide)) (fun k hk => hA 22 56 k rfl (by decide) (by decide) hk) ha, e12.cp (by decide) (hF 23 1 rfl (by decide) (by decide)) (fun k hk => hA 24 56 k rfl (by decide) (by decide) hk) ha⟩
  · obtain ⟨-, -, q3, q4, q5⟩ := e1
    refine ⟨(hN 1 0 rfl (by decide) (by decide) (by decide)).trans s1, (hN 1 1 rfl (by decide) (by decide) (by decide)).trans s2, (hF 1 3 rfl (by decide) (by decide)).trans q3, fun k hk => ?_, fun k hk => ?_⟩
    · rw [hA 2 12 k rfl (by decide) (by decide) hk, ha _ (by omega)]; exact q4 k hk
    · rw [ha _ (by omega), ha _ (by omega), ha _ (by omega)]; exact q5 k hk
  · show M t 10 = M a' 7
    rw [h10, ha 7 (by decide)]; exact e2
  · obtain ⟨-, -, q3, q4, q5, q6, q7⟩ := e3
    refine ⟨(hN 3 0 rfl (by decide) (by decide) (by decide)).trans s3, (hN 3 1 rfl (by decide) (by decide) (by decide)).trans s4, (hF 3 3 rfl (by decide) (by decide)).trans q3, (ha 0 (by decide)).trans q4, q5, fun k hk => ?_, fun p hp => ?_⟩
    · rw [hA 4 60 k rfl (by decide) (by decide) hk, ha _ (by omega)]; exact q6 k hk
    · rw [ha _ (by omega), ha _ (by omega), ha _ (by omega), ha _ (by omega)]; exact q7 p hp
  · obtain ⟨-, -, q3, q4, q5, q6, q7, q8⟩ := e4
    refine ⟨(hN 5 0 rfl (by decide) (by decide) (by decide)).trans s5, (hN 5 1 rfl (by decide) (by decide) (by decide)).trans s6, (hF 5 3 rfl (by decide) (by decide)).trans q3, (ha 1 (by decide)).trans q4, q5, fun k f hk hf => ?_, fun k j hk hj => ?_, fun p hp => ?_⟩
    · rw [hA 6 120 (k * 5 + f) rfl (by decide) (by decide) (by omega), ha _ (by omega)]; exact q6 k f hk hf
    · rw [hA 7 576 (k * 24 + j) rfl (by decide) (by decide) (by omega), ha _ (by omega)]; exact q7 k j hk hj
    · rw [ha _ (by omega), ha _ (by omega), ha _ (by omega), ha _ (by omega)]; exact q8 p hp
  · obtain ⟨-, -, q3, q4, q5, q6, q7⟩ := e5
    refine ⟨(hN 8 0 rfl (by decide) (by decide) (by decide)).trans s7, (hN 8 1 rfl (by decide) (by decide) (by decide)).trans s8, (hF 8 3 rfl (by decide) (by decide)).trans q3, (ha 2 (by decide)).trans q4, q5, fun k hk => ?_, fun p hp => ?_⟩
    · rw [hA 9 60 k rfl (by decide) (by decide) hk, ha _ (by omega)]; exact q6 k hk
    · rw [ha _ (by omega), ha _ (by omega), ha _ (by omega)]; exact q7 p hp
  · obtain ⟨-, -, q3, q4, q5, q6, q7⟩ := e6
    refine ⟨(hN 10 0 rfl (by decide) (by decide) (by decide)).trans s9, (hN 10 1 rfl (by decide) (by decide) (by decide)).trans s10, (hF 10 3 rfl (by decide) (by decide)).trans q3, (ha 3 (by decide)).trans q4, q5, fun k f hk hf => ?_, fun p hp => ?_⟩
    · rw [hA 11 120 (k * 4 + f) rfl (by decide) (by decide) (by omega), ha _ (by omega)]; exact q6 k f hk hf
    · rw [hA 11 120 (p * 4 + 3) rfl (by decide) (by decide) (by omega), ha _ (by omega), ha _ (by omega), ha _ (by omega), ha _ (by omega)]; exact q7 p hp
  · obtain ⟨-, -, q3, q4, q5, q6, q7⟩ := e7
    refine ⟨(hN 12 0 rfl (by decide) (by decide) (by decide)).trans s11, (hN 12 1 rfl (by decide) (by decide) (by decide)).trans s12, (hF 12 3 rfl (by decide) (by decide)).trans q3, (ha 4 (by decide)).trans q4, q5, fun k hk => ?_, fun p hp => ?_⟩
    · rw [hA 13 16 k rfl (by decide) (by decide) hk, ha _ (by omega)]; exact q6 k hk
    · rw [ha _ (by omega), ha _ (by omega)]; exact q7 p hp
  · obtain ⟨q1, q2, q3, q4⟩ := e8
    refine ⟨(hF 16 1 rfl (by decide) (by decide)).trans q1, (ha 5 (by decide)).trans q2, q3, fun k hk => ?_⟩
    rw [hA 17 56 k rfl (by decide) (by decide) hk, ha _ (by omega)]; exact q4 k hk
  · obtain ⟨-, -, q3, q4, q5, q6⟩ := e9
    refine ⟨(hN 14 0 rfl (by decide) (by decide) (by decide)).trans s13, (hN 14 1 rfl (by decide) (by decide) (by decide)).trans s14, (hF 14 3 rfl (by decide) (by decide)).trans q3, (ha 6 (by decide)).trans q4, q5, fun k hk => ?_⟩
    rw [hA 15 24 k rfl (by decide) (by decide) hk, ha _ (by omega)]; exact q6 k hk
set_option maxRecDepth 100000 in
theorem tau1_shp : Shp tau1.1 59 := by
  unfold Shp
  decide +kernel
theorem iniM_shp : Shp (iniM m) 59 := by
  have h := tau1_shp
  have e : ∀ x, x ≤ 24 → iniM m (59 + x) = tau1.1 (59 + x) := fun x hx => iniM_hi (by omega) (by omega)
  generalize tau1.1 = T at h e
  obtain ⟨s1, s2, s3, s4, s5, s6, s7, s8, s9, s10, s11, s12, s13, s14⟩ := h
  unfold Shp
  rw [e 1 (by decide), e 3 (by decide), e 5 (by decide), e 8 (by decide), e 10 (by decide), e 12 (by decide), e 14 (by decide)]
  exact ⟨s1, s2, s3, s4, s5, s6, s7, s8, s9, s10, s11, s12, s13, s14⟩
end MV
section OM
variable {m : Nat → Nat → Int32} {kp : Bool} {b : Option Nat} {z : Nat}
/-- the class's numbers after an IMAGE of M -/
def im7 (M : Nat → Nat → Int32) : Nat → Nat → Int32 := st1 (cpF M 59 1) 0 9 (M 0 9 + 1)
def im8 (M : Nat → Nat → Int32) : Nat → Nat → Int32 := st1 (wrow M 44 0 1234 (fun k => M 43 k)) 42 2 (M 42 2 + 1)
theorem im_tail {M : Nat → Nat → Int32} (hf : FitB M 1) : ((gQ (mkS M true b) 6 0 8).bind fun q12 => (gQ (mkS M true b) 6 0 0).bind fun q14 => (f_X4_copyFrom (mkS M true b) q12 q14).bind fun s16 => (gI s16 6 0 9).bind fun v18 => (pI s16 6 0 9 (v18 + 1)).bind fun s20 => (gI s20 6 0 9).bind fun v22 => some (v22, s20)) = some (M 0 9 + 1, mkS (im7 M) true b) := by
  have e0 : cpF M 59 1 0 9 = M 0 9 := by rw [cpF_out (Or.inl (by decide))]
  rw [gq_0_8, Option.bind_some, gq_0_0, Option.bind_some, c4_eq (t := 59) (u := 1) (Or.inr ⟨rfl, rfl⟩) hf, Option.bind_some, gI_0, Option.bind_some, e0, pI_0, Option.bind_some, gI_0, Option.bind_some, st1_eq]
  rfl
theorem im_new (hf : FitB m 1) : f_X7_image (mkS m false b) 0 = some (m 0 9 + 1, mkS (im7 (iniM m)) true b) := by
  have hI : INI (mkS m false b) = some (ov m (rfF false b) tau1) := INI_mk (m := m) (r := rfF false b)
  have hI' : (nwO (mkS m false b) 3).bind (fun s5 => f_X4_init s5 (mkS m false b).2.2) = some (ov m (rfF false b) tau1) := hI
  have hn : (mkS m false b).2.2 = 59 := rfl
  have e0 : iniM m 0 9 = m 0 9 := by rw [iniM_lo (by decide)]
  have e8 : gR (mkS m false b) 6 0 8 = some none := by rw [gr_0_8, if_neg (by decide)]
  have hf' : FitB (iniM m) 1 := by
    unfold FitB
    rw [iniM_lo (by decide), iniM_lo (by decide), iniM_lo (by decide), iniM_lo (by decide)]
    exact hf
  have ht := im_tail (b := b) hf'
  rw [e0] at ht
  rw [f_X7_image, if_pos io_0, e8, Option.bind_some, if_pos rfl, ← Option.bind_assoc, hI', Option.bind_some, hn, made, Option.bind_some]
  exact ht
theorem im_old (hf : FitB m 1) : f_X7_image (mkS m true b) 0 = some (m 0 9 + 1, mkS (im7 m) true b) := by
  have e8 : gR (mkS m true b) 6 0 8 = some (some 59) := by rw [gr_0_8, if_pos rfl]
  rw [f_X7_image, if_pos io_0, e8, Option.bind_some, if_neg (fun q => by cases q)]
  exact im_tail hf
theorem im_ref {M : Nat → Nat → Int32} : f_X8_image (mkS M true b) 42 = some (M 42 2 + 1, mkS (im8 M) true b) := by
  have e0 : wrow M 44 0 1234 (fun k => M 43 k) 42 2 = M 42 2 := by rw [wrow_ne (by decide)]
  rw [f_X8_image, if_pos io_42, gq_42_0, Option.bind_some, gq_42_1, Option.bind_some, copy_34, Option.bind_some, gI_42, Option.bind_some, e0, pI_42, Option.bind_some, gI_42, Option.bind_some, st1_eq]
  rfl
theorem im7_ne {M : Nat → Nat → Int32} {k : Nat} (h0 : k ≠ 0) (h : k < 59) : im7 M k = M k := by
  unfold im7
  rw [st1_ne h0, cpF_out (by omega)]
theorem im7_nf {M : Nat → Nat → Int32} {f : Nat} (h : f ≠ 9) : im7 M 0 f = M 0 f := by
  unfold im7
  rw [st1_nf h, cpF_out (by omega)]
theorem im8_ne {M : Nat → Nat → Int32} {k : Nat} (h1 : k ≠ 42) (h2 : k ≠ 44) : im8 M k = M k := by
  unfold im8
  rw [st1_ne h1, wrow_ne h2]
theorem im_RR {M : Nat → Nat → Int32} (hR : RR m kp z) (hM : ∀ k, k < 59 → M k = m k) (hs : Shp M 59) : M 0 9 = m 0 9 ∧ im7 M 42 2 = M 0 9 ∧ RR (im8 (im7 M)) true (z + 1) := by
  obtain ⟨⟨c, hS⟩, -, h3, h4, h5, n, hz, i1, i2, i3⟩ := hR
  have e09 : M 0 9 = m 0 9 := by rw [hM 0 (by decide)]
  have e422 : im7 M 42 = m 42 := by rw [im7_ne (by decide) (by decide), hM 42 (by decide)]
  have hlow : ∀ k, k ≠ 0 → k ≠ 42 → k ≠ 44 → k < 59 → im8 (im7 M) k = m k := fun k k0 k1 k2 hk => by rw [im8_ne k1 k2, im7_ne k0 hk, hM k hk]
  have hS' : RS M 1 43 c := hS.fr (fun k q1 q2 => hM k (by omega)) (hM 43 (by decide))
  have hc42 : ∀ f, f ≠ 2 → im8 (im7 M) 42 f = m 42 f := fun f hf => by
    unfold im8
    rw [st1_nf hf, wrow_ne (by decide), e422]
  refine ⟨e09, by rw [e422, i2, e09, i1], ⟨c, hS.fr (fun k q1 q2 => hlow k (by omega) (by omega) (by omega) (by omega)) (hlow 43 (by decide) (by decide) (by decide) (by decide))⟩, fun _ => ⟨c, ?_⟩, h3.fr (fun k q1 q2 => hlow k (by omega) (by omega) (by omega) (by omega)) (fun k q1 q2 => hlow k (by omega) (by omega) (by omega) (by omega)), h4.fr (by rw [hlow 27 (by decide) (by decide) (by decide) (by decide)]) (hlow 28 (by decide) (by decide) (by decide) (by decide)) (hc42 20 (by decide)) (hlow 54 (by decide) (by decide) (by decide) (by decide)), h5.fr (hlow 30 (by decide) (by decide) (by decide) (by decide)) (hlow 45 (by decide) (by decide) (by decide) (by decide)), n + 1, by omega, ?_, ?_, ?_⟩
  · refine hS'.cp hs (fun x j x1 x2 => ?_) ?_ (fun i hi => ?_)
    · rw [im8_ne (by omega) (by omega)]
      unfold im7
      rw [st1_ne (by omega), cpF_in x1 x2]
    · rw [im8_ne (by decide) (by decide)]
      unfold im7
      rw [st1_ne (by decide), cpF_10]
    · unfold im8
      rw [st1_ne (by decide), wrow_at, if_pos ⟨Nat.zero_le i, by omega⟩]
      show im7 M 43 (i - 0) = M 43 i
      rw [im7_ne (by decide) (by decide), Nat.sub_zero]
  · rw [im8_ne (by decide) (by decide)]
    unfold im7
    rw [st1_eq, e09, i1, nI_a1]
  · unfold im8
    rw [st1_eq, e422, i2, nI_a1]
  · exact ⟨fun q => (by cases q), fun q => (by omega)⟩
theorem op_image : OpR (fun σ => f_X7_image σ 0) (fun σ => f_X8_image σ 42) := by
  intro m kp b z hR
  obtain ⟨c, hS⟩ := hR.1
  cases kp with
  | false =>
    obtain ⟨q1, q2, q3⟩ := im_RR hR (M := iniM m) (fun k hk => iniM_lo hk) iniM_shp
    refine ⟨m 0 9 + 1, im7 (iniM m), true, b, im8 (im7 (iniM m)), im_new hS.fit, ?_, q3⟩
    show f_X8_image (mkS (im7 (iniM m)) true b) 42 = _
    rw [im_ref, q2, q1]
  | true =>
    obtain ⟨c', hS2⟩ := hR.2.1 rfl
    obtain ⟨q1, q2, q3⟩ := im_RR hR (M := m) (fun k hk => rfl) hS2.shp
    refine ⟨m 0 9 + 1, im7 m, true, b, im8 (im7 m), im_old hS.fit, ?_, q3⟩
    show f_X8_image (mkS (im7 m) true b) 42 = _
    rw [im_ref, q2]
theorem nI_nz {n : Nat} (h : n ≠ 0) (hn : n < 2 ^ 31) : ¬ nI n = 0 := fun e => by
  have e2 := congrArg Int32.toNatClampNeg e
  rw [nI_clamp hn] at e2
  exact h (e2.trans (by decide))
def rs8 (M : Nat → Nat → Int32) : Nat → Nat → Int32 := wrow M 43 0 1234 (fun k => M 44 k)
theorem op_restore (hz : z < 1000) (hR : RR m kp z) : OpAt (fun σ => f_X7_restore σ 0) (fun σ => f_X8_restore σ 42) m kp b z := by
  obtain ⟨⟨c, hS⟩, hk, h3, h4, h5, n, hn, i1, i2, i3⟩ := id hR
  cases kp with
  | false =>
    have hn0 : n = 0 := i3.mp rfl
    subst hn0
    refine op_err1 (k := 2) (e := -1000002) (by decide) hR ?_ ?_
    · show f_X7_restore (mkS m false b) 0 = _
      have e8 : gR (mkS m false b) 6 0 8 = some none := by rw [gr_0_8, if_neg (by decide)]
      rw [f_X7_restore, if_pos io_0, e8, Option.bind_some, if_pos rfl, fails_2, Option.bind_some]
    · show f_X8_restore (mkS (st1 m 30 2 (m 30 2 + 1)) false b) 42 = _
      have e2 : st1 m 30 2 (m 30 2 + 1) 42 2 = 0 := by rw [st1_ne (by decide)]; exact i2
      rw [f_X8_restore, if_pos io_42, gI_42, Option.bind_some, e2, if_pos rfl, finds_2, Option.bind_some]
  | true =>
    have hn0 : n ≠ 0 := fun e => by
      have := i3.mpr e
      cases this
    obtain ⟨c', hS2⟩ := hk rfl
    have hfit := hS2.fit
    have hcur : m 64 3 = nI (c' 1) := hS2.2.2.2.1.2.2.1
    have hcu2 : m 44 1 = nI (c' 1) := hS2.2.2.2.1.2.2.2.1
    have hlow : ∀ k, k = 0 ∨ 25 < k → cpF m 1 59 k = m k := fun k hk => cpF_out (by omega)
    have hall : ∀ k, k = 0 ∨ 25 < k → k ≠ 43 → rs8 (cpF m 1 59) k = m k := fun k hk h43 => by
      unfold rs8
      rw [wrow_ne h43, hlow k hk]
    have e63 : cpF m 1 59 6 3 = nI (c' 1) := by
      have := cpF_in (m := m) (t := 1) (u := 59) (x := 5) (j := 3) (by decide) (by decide)
      rw [if_pos (by decide)] at this
      exact this.trans hcur
    have e44 : cpF m 1 59 44 = m 44 := hlow 44 (by decide)
    have e431 : rs8 (cpF m 1 59) 43 1 = nI (c' 1) := by
      unfold rs8
      rw [wrow_at, if_pos ⟨by decide, by decide⟩, e44]
      exact hcu2
    refine ⟨nI (c' 1), cpF m 1 59, true, b, rs8 (cpF m 1 59), ?_, ?_, ⟨c', ?_⟩, fun _ => ⟨c', hS2.fr (fun k q1 q2 => hall k (by omega) (by omega)) (hall 44 (by decide) (by decide))⟩, h3.fr (fun k q1 q2 => hall k (by omega) (by omega)) (fun k q1 q2 => hall k (by omega) (by omega)), h4.fr (by rw [hall 27 (by decide) (by decide)]) (hall 28 (by decide) (by decide)) (by rw [hall 42 (by decide) (by decide)]) (hall 54 (by decide) (by decide)), h5.fr (hall 30 (by decide) (by decide)) (hall 45 (by decide) (by decide)), n, by omega, by rw [hall 0 (by decide) (by decide)]; exact i1, by rw [hall 42 (by decide) (by decide)]; exact i2, i3⟩
    · show f_X7_restore (mkS m true b) 0 = _
      have e8 : gR (mkS m true b) 6 0 8 = some (some 59) := by rw [gr_0_8, if_pos rfl]
      rw [f_X7_restore, if_pos io_0, e8, Option.bind_some, if_neg (fun q => by cases q), gq_0_0, Option.bind_some, gq_0_8, Option.bind_some, c4_eq (t := 1) (u := 59) (Or.inl ⟨rfl, rfl⟩) hfit, Option.bind_some, gq_0_0, Option.bind_some, gq_1_2, Option.bind_some, gI_6, Option.bind_some, e63]
    · show f_X8_restore (mkS (cpF m 1 59) true b) 42 = _
      have e2 : cpF m 1 59 42 2 = nI n := by rw [hlow 42 (by decide)]; exact i2
      have r1 : aI (mkS (rs8 (cpF m 1 59)) true b) 0 43 1 = some (nI (c' 1)) := by rw [rdl_1, e431]
      have cpy : f_X8_copy (mkS (cpF m 1 59) true b) 44 43 = some (mkS (rs8 (cpF m 1 59)) true b) := copy_43
      rw [f_X8_restore, if_pos io_42, gI_42, Option.bind_some, e2, if_neg (nI_nz hn0 (by omega)), gq_42_1, Option.bind_some, gq_42_0, Option.bind_some, cpy, Option.bind_some, gq_42_0, Option.bind_some, r1, Option.bind_some]
    · refine hS2.cp hS.shp (fun x j x1 x2 => ?_) ?_ (fun i hi => ?_)
      · unfold rs8
        rw [wrow_ne (by omega), cpF_in x1 x2]
      · unfold rs8
        rw [wrow_ne (by decide), cpF_10]
      · unfold rs8
        rw [wrow_at, if_pos ⟨Nat.zero_le i, by omega⟩, e44]
        show m 44 (i - 0) = m 44 i
        rw [Nat.sub_zero]
end OM
