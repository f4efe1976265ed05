section CR
variable {m : Nat → Nat → Int32} {kp : Bool} {b : Option Nat} {t u : Nat}
theorem oS {T : Nat} (hT : T = 1 ∨ T = 59) : isO (mkS m true b) 3 T = true := oT (x := 0) hT (by decide) rfl rfl
theorem gS {T y f : Nat} (hT : T = 1 ∨ T = 59) (h : RF1 (1 + 0) f = some (1 + y) ∧ RF1 (59 + 0) f = some (59 + y)) : gQ (mkS m true b) 3 T f = some (T + y) := gT (x := 0) hT (by decide) rfl rfl h
theorem gS_0 {T : Nat} (hT : T = 1 ∨ T = 59) : gQ (mkS m true b) 3 T 0 = some (T + 1) := gS hT (tq (i := 0) (q := (0, 0, 1)) rfl)
theorem gS_1 {T : Nat} (hT : T = 1 ∨ T = 59) : gQ (mkS m true b) 3 T 1 = some (T + 3) := gS hT (tq (i := 1) (q := (0, 1, 3)) rfl)
theorem gS_2 {T : Nat} (hT : T = 1 ∨ T = 59) : gQ (mkS m true b) 3 T 2 = some (T + 5) := gS hT (tq (i := 2) (q := (0, 2, 5)) rfl)
theorem gS_3 {T : Nat} (hT : T = 1 ∨ T = 59) : gQ (mkS m true b) 3 T 3 = some (T + 7) := gS hT (tq (i := 3) (q := (0, 3, 7)) rfl)
theorem gS_4 {T : Nat} (hT : T = 1 ∨ T = 59) : gQ (mkS m true b) 3 T 4 = some (T + 8) := gS hT (tq (i := 4) (q := (0, 4, 8)) rfl)
theorem gS_5 {T : Nat} (hT : T = 1 ∨ T = 59) : gQ (mkS m true b) 3 T 5 = some (T + 10) := gS hT (tq (i := 5) (q := (0, 5, 10)) rfl)
theorem gS_6 {T : Nat} (hT : T = 1 ∨ T = 59) : gQ (mkS m true b) 3 T 6 = some (T + 12) := gS hT (tq (i := 6) (q := (0, 6, 12)) rfl)
theorem gS_7 {T : Nat} (hT : T = 1 ∨ T = 59) : gQ (mkS m true b) 3 T 7 = some (T + 14) := gS hT (tq (i := 7) (q := (0, 7, 14)) rfl)
theorem gS_8 {T : Nat} (hT : T = 1 ∨ T = 59) : gQ (mkS m true b) 3 T 8 = some (T + 16) := gS hT (tq (i := 8) (q := (0, 8, 16)) rfl)
theorem gS_9 {T : Nat} (hT : T = 1 ∨ T = 59) : gQ (mkS m true b) 3 T 9 = some (T + 18) := gS hT (tq (i := 9) (q := (0, 9, 18)) rfl)
theorem cpM_18 : cpM 18 m t u = cpM 19 m t u := by
  funext k j
  by_cases e : k = t + 18
  · subst e
    rw [cpM_t (Nat.le_refl _), cpM_in (s := 19) (by decide) (by decide)]
    exact (if_neg (fun q => absurd q.2 (Nat.not_lt_zero j))).symm
  · exact cpM_mid (by omega) (by decide)
theorem aL18 {T : Nat} (hT : T = 1 ∨ T = 59) : aL (mkS m true b) 2 (T + 18) = some (nI 3) := aL_of (aT (n := 3) hT (by decide) rfl rfl)
theorem aQ18 {T i : Nat} (hT : T = 1 ∨ T = 59) (hi : i < 3) : aQ (mkS m true b) 2 (T + 18) (nI i) = some (T + (19 + 2 * i)) := by
  rw [aQ_of (aT (n := 3) hT (by decide) rfl rfl), if_pos (inB_nI hi (by decide)), nI_clamp (by omega)]
  match i, hi with
  | 0, _ => exact rT hT (by decide) (tq (i := 18) (q := (18, 0, 19)) rfl)
  | 1, _ => exact rT hT (by decide) (tq (i := 19) (q := (18, 1, 21)) rfl)
  | 2, _ => exact rT hT (by decide) (tq (i := 20) (q := (18, 2, 23)) rfl)
/-- the bytes of a State fit -/
def FitB (m : Nat → Nat → Int32) (u : Nat) : Prop := (∀ i, i < 56 → fits .byte (.int (m (u + 17) i)) = true) ∧ (∀ i, i < 56 → fits .byte (.int (m (u + 20) i)) = true) ∧ (∀ i, i < 56 → fits .byte (.int (m (u + 22) i)) = true) ∧ ∀ i, i < 56 → fits .byte (.int (m (u + 24) i)) = true
theorem c1_t {i : Nat} (h : Two t u) (hf : FitB m u) (hi : i < 3) : f_X1_copyFrom (mkS (cpM (19 + 2 * i) m t u) true b) (t + (19 + 2 * i)) (u + (19 + 2 * i)) = some (mkS (cpM (19 + 2 * (i + 1)) m t u) true b) := by
  match i, hi with
  | 0, _ => exact c1_at (x := 19) h (by decide) (by decide) hf.2.1 rfl rfl rfl rfl rfl rfl (tq (i := 21) (q := (19, 0, 20)) rfl)
  | 1, _ => exact c1_at (x := 21) h (by decide) (by decide) hf.2.2.1 rfl rfl rfl rfl rfl rfl (tq (i := 22) (q := (21, 0, 22)) rfl)
  | 2, _ => exact c1_at (x := 23) h (by decide) (by decide) hf.2.2.2 rfl rfl rfl rfl rfl rfl (tq (i := 23) (q := (23, 0, 24)) rfl)
theorem c4_l (h : Two t u) (hf : FitB m u) : f_X4_copyFrom_L108 t u 3000 0 (mkS (cpM 18 m t u) true b) = some (nI 3, mkS (cpM (19 + 2 * 3) m t u) true b) := by
  have := loopS (fun f i σ => f_X4_copyFrom_L108 t u f (nI i) σ) (fun i => mkS (cpM (19 + 2 * i) m t u) true b) (nI 3, mkS (cpM (19 + 2 * 3) m t u) true b) 3 (fun f i hi => by
    show f_X4_copyFrom_L108 t u (f + 1) (nI i) (mkS (cpM (19 + 2 * i) m t u) true b) = f_X4_copyFrom_L108 t u f (nI (i + 1)) (mkS (cpM (19 + 2 * (i + 1)) m t u) true b)
    rw [f_X4_copyFrom_L108, gS_9 h.l, Option.bind_some, aL18 h.l, Option.bind_some, if_neg (nI_ge hi (by decide)), Option.bind_some, aQ18 h.l hi, Option.bind_some, gS_9 h.r, Option.bind_some, aQ18 h.r hi, Option.bind_some, c1_t h hf hi, Option.bind_some, nI_a1]) (fun f => by
    show f_X4_copyFrom_L108 t u (f + 1) (nI 3) (mkS (cpM (19 + 2 * 3) m t u) true b) = some (nI 3, mkS (cpM (19 + 2 * 3) m t u) true b)
    rw [f_X4_copyFrom_L108, gS_9 h.l, Option.bind_some, aL18 h.l, Option.bind_some, if_pos (Int32.le_refl _)]) 3 0 3000 (by decide) (by decide)
  rw [cpM_18]
  exact this
def cpF (m : Nat → Nat → Int32) (t u : Nat) : Nat → Nat → Int32 := st1 (cpM 25 m t u) t 10 (m u 10)
theorem c4_eq (h : Two t u) (hf : FitB m u) : f_X4_copyFrom (mkS m true b) t u = some (mkS (cpF m t u) true b) := by
  have s1 : f_X5_copyFrom (mkS (cpM 1 m t u) true b) (t + 1) (u + 1) = some (mkS (cpM 3 m t u) true b) := c5_at (x := 1) (n := 12) h (by decide) (by decide) (by decide) rfl rfl rfl rfl rfl rfl (tq (i := 10) (q := (1, 2, 2)) rfl)
  have s3 : f_X5_copyFrom (mkS (cpM 3 m t u) true b) (t + 3) (u + 3) = some (mkS (cpM 5 m t u) true b) := c5_at (x := 3) (n := 60) h (by decide) (by decide) (by decide) rfl rfl rfl rfl rfl rfl (tq (i := 11) (q := (3, 2, 4)) rfl)
  have s5 : f_X5_copyFrom (mkS (cpM 5 m t u) true b) (t + 5) (u + 5) = some (mkS (cpM 7 m t u) true b) := c5_at (x := 5) (n := 120) h (by decide) (by decide) (by decide) rfl rfl rfl rfl rfl rfl (tq (i := 12) (q := (5, 2, 6)) rfl)
  have s8 : f_X5_copyFrom (mkS (cpM 8 m t u) true b) (t + 8) (u + 8) = some (mkS (cpM 10 m t u) true b) := c5_at (x := 8) (n := 60) h (by decide) (by decide) (by decide) rfl rfl rfl rfl rfl rfl (tq (i := 13) (q := (8, 2, 9)) rfl)
  have s10 : f_X5_copyFrom (mkS (cpM 10 m t u) true b) (t + 10) (u + 10) = some (mkS (cpM 12 m t u) true b) := c5_at (x := 10) (n := 120) h (by decide) (by decide) (by decide) rfl rfl rfl rfl rfl rfl (tq (i := 14) (q := (10, 2, 11)) rfl)
  have s12 : f_X5_copyFrom (mkS (cpM 12 m t u) true b) (t + 12) (u + 12) = some (mkS (cpM 14 m t u) true b) := c5_at (x := 12) (n := 16) h (by decide) (by decide) (by decide) rfl rfl rfl rfl rfl rfl (tq (i := 15) (q := (12, 2, 13)) rfl)
  have s14 : f_X5_copyFrom (mkS (cpM 14 m t u) true b) (t + 14) (u + 14) = some (mkS (cpM 16 m t u) true b) := c5_at (x := 14) (n := 24) h (by decide) (by decide) (by decide) rfl rfl rfl rfl rfl rfl (tq (i := 16) (q := (14, 2, 15)) rfl)
  have s16 : f_X1_copyFrom (mkS (cpM 16 m t u) true b) (t + 16) (u + 16) = some (mkS (cpM 18 m t u) true b) := c1_at (x := 16) h (by decide) (by decide) hf.1 rfl rfl rfl rfl rfl rfl (tq (i := 17) (q := (16, 0, 17)) rfl)
  have s7 : cp (mkS (cpM 7 m t u) true b) 0 (u + 7) 0 (t + 7) 0 (nI 576) = some (mkS (cpM 8 m t u) true b) := by
    have e5 := cp_gen (m := cpM 7 m t u) (b := b) (n := 576) (k := u + 7) (k2 := t + 7) (aT h.r (by decide) rfl rfl) (aT h.l (by decide) rfl rfl) (by decide) (Or.inl rfl)
    rw [cpM_u h (by decide) (by decide), cpM_t (by decide), cp_arr h (by decide) (by decide) rfl] at e5
    exact e5
  have a7 : aL (mkS (cpM 7 m t u) true b) 0 (t + 7) = some (nI 576) := aL_of (aT h.l (by decide) rfl rfl)
  have s18 := c4_l (b := b) h hf
  have hd := h.d
  have e10 : gI (mkS (cpM (19 + 2 * 3) m t u) true b) 3 u 10 = some (m u 10) := by
    rw [gI_of (oS h.r)]
    show some (cpM (19 + 2 * 3) m t u u 10) = _
    rw [cpM_out (by omega)]
  have key : f_X4_copyFrom (mkS (cpM 1 m t u) true b) t u = some (mkS (cpF m t u) true b) := by
    unfold f_X4_copyFrom
    rw [if_pos (oS h.l), gS_0 h.l, Option.bind_some, gS_0 h.r, Option.bind_some, s1, Option.bind_some, gS_1 h.l, Option.bind_some, gS_1 h.r, Option.bind_some, s3, Option.bind_some, gS_2 h.l, Option.bind_some, gS_2 h.r, Option.bind_some, s5, Option.bind_some, gS_3 h.r, Option.bind_some, gS_3 h.l, Option.bind_some, Option.bind_some, a7, Option.bind_some, s7, Option.bind_some, gS_4 h.l, Option.bind_some, gS_4 h.r, Option.bind_some, s8, Option.bind_some, gS_5 h.l, Option.bind_some, gS_5 h.r, Option.bind_some, s10, Option.bind_some, gS_6 h.l, Option.bind_some, gS_6 h.r, Option.bind_some, s12, Option.bind_some, gS_7 h.l, Option.bind_some, gS_7 h.r, Option.bind_some, s14, Option.bind_some, gS_8 h.l, Option.bind_some, gS_8 h.r, Option.bind_some, s16, Option.bind_some, s18, Option.bind_some, e10, Option.bind_some, pI_of (oS h.l), Option.bind_some]
    rfl
  rw [cpM_1] at key
  exact key
theorem cpF_out {k : Nat} (hk : k < t ∨ t + 24 < k) : cpF m t u k = m k := by
  unfold cpF
  rw [st1_ne (by omega), cpM_out (by omega)]
theorem cpF_in {x j : Nat} (h1 : 1 ≤ x) (h2 : x ≤ 24) : cpF m t u (t + x) j = if (cpL x).1 ≤ j ∧ j < (cpL x).2 then m (u + x) j else m (t + x) j := by
  unfold cpF
  rw [st1_ne (by omega), cpM_in h1 (by omega)]
theorem cpF_10 : cpF m t u t 10 = m u 10 := st1_eq
theorem nI_1234 : (1234 : Int32) = nI 1234 := rfl
/-- the reference's row copied -/
theorem copy_34 : f_X8_copy (mkS m kp b) 43 44 = some (mkS (wrow m 44 0 1234 (fun k => m 43 k)) kp b) := by
  have := loopW (kp := kp) (b := b) (L := fun f i σ => f_X8_copy_L2 43 44 f (nI i) σ) (X := 1234) (g := fun k => m 43 k) (m0 := m) (cell := 44) (base := 0) (fun f i hi => by
    show f_X8_copy_L2 43 44 (f + 1) (nI i) _ = f_X8_copy_L2 43 44 f (nI (i + 1)) _
    rw [f_X8_copy_L2, nI_1234, if_neg (nI_ge hi (by decide)), rd_43 hi, Option.bind_some, wrow_ne (by decide), wr_44 hi, Option.bind_some, nI_a1, Nat.zero_add]) (fun f => by
    show f_X8_copy_L2 43 44 (f + 1) (nI 1234) _ = _
    rw [f_X8_copy_L2, nI_1234, if_pos (Int32.le_refl _)]) (by decide)
  have e : f_X8_copy_L2 43 44 3000 0 (mkS m kp b) = some (nI 1234, mkS (wrow m 44 0 1234 (fun k => m 43 k)) kp b) := this
  unfold f_X8_copy
  rw [e, Option.bind_some]
theorem copy_43 : f_X8_copy (mkS m kp b) 44 43 = some (mkS (wrow m 43 0 1234 (fun k => m 44 k)) kp b) := by
  have := loopW (kp := kp) (b := b) (L := fun f i σ => f_X8_copy_L2 44 43 f (nI i) σ) (X := 1234) (g := fun k => m 44 k) (m0 := m) (cell := 43) (base := 0) (fun f i hi => by
    show f_X8_copy_L2 44 43 (f + 1) (nI i) _ = f_X8_copy_L2 44 43 f (nI (i + 1)) _
    rw [f_X8_copy_L2, nI_1234, if_neg (nI_ge hi (by decide)), rd_44 hi, Option.bind_some, wrow_ne (by decide), wr_43 hi, Option.bind_some, nI_a1, Nat.zero_add]) (fun f => by
    show f_X8_copy_L2 44 43 (f + 1) (nI 1234) _ = _
    rw [f_X8_copy_L2, nI_1234, if_pos (Int32.le_refl _)]) (by decide)
  have e : f_X8_copy_L2 44 43 3000 0 (mkS m kp b) = some (nI 1234, mkS (wrow m 43 0 1234 (fun k => m 44 k)) kp b) := this
  unfold f_X8_copy
  rw [e, Option.bind_some]
end CR
