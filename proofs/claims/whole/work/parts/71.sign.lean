/-! machines of a curve, the law of a point, signs -/
def mcN (m : Nat → Nat → Int32) (q : Nat) : Nat := (m 43 (82 + 29 * q + 2)).toNatClampNeg
def lwV (m : Nat → Nat → Int32) (q : Nat) (a : Int32) : Int32 := wrV m 0 a (nI (mcN m q)) (dyv m q)
def yv (m : Nat → Nat → Int32) (q : Nat) : Int32 := m 43 (10 + 3 * mcN m q + 2)
def sgB (m : Nat → Nat → Int32) (q j : Nat) : Bool := decide (yv m q < hrv m q j ∨ hrv m q j < - yv m q)
def sgE (m : Nat → Nat → Int32) (q : Nat) (j : Nat) (_ : Unit) : Unit ⊕ Unit := if sgB m q j = true then .inl () else .inr ()
def sgM (m : Nat → Nat → Int32) (q : Nat) (j : Nat) (a : Int32) : Int32 := if a = 0 then (if sgB m q j = true then 1 else 0) else 1
def sgV (m : Nat → Nat → Int32) (q : Nat) : Int32 := if wrV m 1 (nI (mcN m q)) (dyv m q) 0 = 0 then 0 else match itE (sgE m q) ((m 43 (82 + 29 * q + 3)).toNatClampNeg - 2) 1 () with
  | .inl _ => 1
  | .inr _ => 2
def sTb (m : Nat → Nat → Int32) (kp : Bool) (σ : St) : Prop := ∃ M b, σ = mkS M kp b ∧ EqS m M
section SG
variable {m : Nat → Nat → Int32} {kp : Bool} {b : Option Nat} {z : Nat} {c : Nat → Nat}
theorem mc_of {q : Nat} (h : RS m 1 43 c) (hq : q < c 1) : mcN m q < 4 ∧ m 43 (82 + 29 * q + 2) = nI (mcN m q) ∧ m 7 (q * 5 + 2) = nI (mcN m q) := by
  obtain ⟨w1, w2, w3, w4, w5, w6, w6b, w7⟩ := id h.2.2.2.1
  obtain ⟨x, hx, ex⟩ := (w7 q hq).2.2.1
  have e : mcN m q = x := by unfold mcN; rw [ex, nI_clamp (by omega)]
  rw [e]
  exact ⟨hx, ex, (w6 q 2 (by omega) (by decide)).trans ex⟩
theorem mach7 {k f : Nat} (h : RS m 1 43 c) (hk : k < 4) (hf : f < 3) : f_X5_at (mkS m kp b) 2 (nI k) (nI f) = some (m 43 (10 + 3 * k + f)) := by
  obtain ⟨w1, w2, w3, w4, w5⟩ := id h.1
  rw [at_2 w1 w3 (Nat.le_refl 4) hk hf]
  have := w4 (k * 3 + f) (by omega)
  rw [show 10 + (k * 3 + f) = 10 + 3 * k + f by omega] at this
  exact congrArg some this
theorem mach7_0 {k : Nat} (h : RS m 1 43 c) (hk : k < 4) : f_X5_at (mkS m kp b) 2 (nI k) 0 = some (m 43 (10 + 3 * k)) := mach7 (f := 0) h hk (by decide)
theorem mach7_1 {k : Nat} (h : RS m 1 43 c) (hk : k < 4) : f_X5_at (mkS m kp b) 2 (nI k) 1 = some (m 43 (10 + 3 * k + 1)) := mach7 (f := 1) h hk (by decide)
theorem mach7_2 {k : Nat} (h : RS m 1 43 c) (hk : k < 4) : f_X5_at (mkS m kp b) 2 (nI k) 2 = some (m 43 (10 + 3 * k + 2)) := mach7 (f := 2) h hk (by decide)
theorem ixM0 {k : Nat} : (10 : Int32) + ((3 : Int32) * nI k) = nI (10 + 3 * k) := by
  rw [show (10 : Int32) = nI 10 from rfl, show (3 : Int32) = nI 3 from rfl, pk_mul, nI_add]
theorem ixM1 {k : Nat} : ((10 : Int32) + ((3 : Int32) * nI k)) + 1 = nI (10 + 3 * k + 1) := by rw [ixM0, nI_a1]
theorem ixM2 {k : Nat} : ((10 : Int32) + ((3 : Int32) * nI k)) + 2 = nI (10 + 3 * k + 2) := by rw [ixM0]; exact nI_add _ 2
theorem mcN_fr {M : Nat → Nat → Int32} (h : M 43 = m 43) : mcN M = mcN m := by funext q; unfold mcN; rw [h]
theorem lwV_S {M : Nat → Nat → Int32} (h : EqS m M) : lwV M = lwV m := by
  have h43 : M 43 = m 43 := h.at 43 (by omega) (by omega)
  funext q a
  unfold lwV
  rw [wrV_S (by omega) h, mcN_fr h43, dyv_fr h43]
theorem yv_fr {M : Nat → Nat → Int32} (h : M 43 = m 43) : yv M = yv m := by funext q; unfold yv; rw [mcN_fr h, h]
theorem hrv_fr {M : Nat → Nat → Int32} (h : M 43 = m 43) : hrv M = hrv m := by funext q j; unfold hrv; rw [h]
theorem sgB_fr {M : Nat → Nat → Int32} (h : M 43 = m 43) : sgB M = sgB m := by funext q j; unfold sgB; rw [yv_fr h, hrv_fr h]
theorem sgE_fr {M : Nat → Nat → Int32} (h : M 43 = m 43) : sgE M = sgE m := by funext q j a; unfold sgE; rw [sgB_fr h]
theorem sgV_S {M : Nat → Nat → Int32} (h : EqS m M) : sgV M = sgV m := by
  have h43 : M 43 = m 43 := h.at 43 (by omega) (by omega)
  funext q
  unfold sgV
  rw [wrV_S (by omega) h, mcN_fr h43, dyv_fr h43, sgE_fr h43, h43]
theorem law7 {q : Nat} {a : Int32} (h : RS m 1 43 c) (hq : q < c 1) : ∃ M b', f_X7_lawAt (mkS m kp b) 0 (nI q) a = some ((lwV m q a).toInt64, mkS M kp b') ∧ EqS m M := by
  obtain ⟨w1, w2, w3, w4, w5, w6, w6b, w7⟩ := id h.2.2.2.1
  obtain ⟨e1, e2, e3⟩ := mc_of h hq
  obtain ⟨M, b', e7, h7⟩ := wor7 (kp := kp) (b := b) (u := 0) (a1 := a) (a2 := nI (mcN m q)) (a3 := dyv m q) h (by omega)
  refine ⟨M, b', ?_, EqS_26 h7⟩
  unfold f_X7_lawAt lwV
  rw [if_pos io_0, gq_0_0, Option.bind_some, gq_1_2, Option.bind_some, at_6_2 w1 w3 w5 hq, Option.bind_some, Option.bind_some, day7 h hq, Option.bind_some, e3, show (0 : Int32) = nI 0 from rfl, e7, Option.bind_some]
theorem law8 {q : Nat} {a : Int32} (h : RS m 1 43 c) (hq : q < c 1) : ∃ M, f_X8_lawAt (mkS m kp b) 42 (nI q) a = some (lwV m q a, mkS M kp b) ∧ EqS m M := by
  have w5 := h.2.2.2.1.2.2.2.2.1
  obtain ⟨e1, e2, e3⟩ := mc_of h hq
  obtain ⟨M, e7, h7⟩ := giv8 (kp := kp) (b := b) (u := 0) (a1 := a) (a2 := nI (mcN m q)) (a3 := dyv m q) h (by omega)
  refine ⟨M, ?_, EqS_48 h7⟩
  unfold f_X8_lawAt lwV
  rw [if_pos io_42, show (2 : Int32) = nI 2 from rfl, mcur (show q < 24 by omega) (show 2 < 29 by decide), Option.bind_some, day8 h hq, Option.bind_some, e2, show (0 : Int32) = nI 0 from rfl, e7, Option.bind_some]
theorem hrv_b {q j : Nat} (h : RS m 1 43 c) (hq : q < 24) (h1 : 1 ≤ j) (h2 : j + 1 < 24) : -400000 ≤ (hrv m q j).toInt ∧ (hrv m q j).toInt ≤ 400000 := by
  have w6b := h.2.2.2.1.2.2.2.2.2.2.1
  have i1 := (w6b q (j - 1) hq (by omega)).2
  have i2 := (w6b q (j + 1) hq (by omega)).2
  have i3 := (w6b q j hq (by omega)).2
  unfold hrv
  generalize m 43 (87 + 29 * q + (j - 1)) = x at *
  generalize m 43 (87 + 29 * q + (j + 1)) = y at *
  generalize m 43 (87 + 29 * q + j) = v at *
  clear w6b
  simp only [Int32.le_iff_toInt_le, show (-99999 : Int32).toInt = -99999 by decide, show (99999 : Int32).toInt = 99999 by decide] at i1 i2 i3
  have e1 : (x + y).toInt = x.toInt + y.toInt := by
    rw [Int32.toInt_add]; exact Int.bmod_eq_of_le (by omega) (by omega)
  have e2 : (2 * v).toInt = 2 * v.toInt := by
    rw [Int32.toInt_mul, show (2 : Int32).toInt = 2 by decide]; exact Int.bmod_eq_of_le (by omega) (by omega)
  have e3 : (x + y - 2 * v).toInt = (x + y).toInt - (2 * v).toInt := by
    rw [Int32.toInt_sub, e1, e2]; exact Int.bmod_eq_of_le (by omega) (by omega)
  rw [e3, e1, e2]
  omega
theorem yv_b {q : Nat} (h : RS m 1 43 c) (hq : q < c 1) : 0 ≤ (yv m q).toInt ∧ (yv m q).toInt ≤ 9999 := by
  have := (h.1.2.2.2.2 (mcN m q) (mc_of h hq).1).2.2
  unfold yv
  simp only [Int32.le_iff_toInt_le, show (0 : Int32).toInt = 0 by decide, show (9999 : Int32).toInt = 9999 by decide] at this
  exact this
theorem sg_abs {q j : Nat} (h : RS m 1 43 c) (hq : q < c 1) (h1 : 1 ≤ j) (h2 : j + 1 < 24) : (nI (hrv m q j).toInt.natAbs ≤ yv m q) ↔ ¬ (yv m q < hrv m q j ∨ hrv m q j < - yv m q) := by
  have w5 := h.2.2.2.1.2.2.2.2.1
  have i1 := hrv_b h (show q < 24 by omega) h1 h2
  have i2 := yv_b h hq
  clear h
  generalize hrv m q j = x at *
  generalize yv m q = y at *
  have e : (-y).toInt = -y.toInt := by rw [Int32.toInt_neg]; exact Int.bmod_eq_of_le (by omega) (by omega)
  rw [Int32.le_iff_toInt_le, Int32.lt_iff_toInt_lt, Int32.lt_iff_toInt_lt, e, nI_toInt (by omega)]
  omega
theorem sg_it {q : Nat} : ∀ k i, it (sgM m q) k i 1 = 1 := by
  intro k
  induction k with
  | zero => intro i; rfl
  | succ k ih =>
    intro i
    show it (sgM m q) k (i + 1) (sgM m q i 1) = 1
    rw [show sgM m q i 1 = 1 from if_neg (by decide)]
    exact ih (i + 1)
theorem sg_eq {q : Nat} : ∀ k i, it (sgM m q) k i 0 = match itE (sgE m q) k i () with
  | .inl _ => 1
  | .inr _ => 0 := by
  intro k
  induction k with
  | zero => intro i; rfl
  | succ k ih =>
    intro i
    show it (sgM m q) k (i + 1) (sgM m q i 0) = _
    unfold itE
    rw [show sgM m q i 0 = if sgB m q i = true then 1 else 0 from if_pos rfl]
    unfold sgE
    by_cases hb : sgB m q i = true
    · simp only [hb, if_true]
      exact sg_it k (i + 1)
    · simp only [if_neg hb]
      exact ih (i + 1)
theorem sg49 {q X : Nat} (h : RS m 1 43 c) (hq : q < c 1) (hX3 : 3 ≤ X) (hX : X ≤ 24) (eX : m 43 (82 + 29 * q + 3) = nI X) : f_X7_signOf_L49 (mkS m kp b) (yv m q) 0 (nI q) 3000 1 = some (match itE (sgE m q) (X - 2) 1 () with
  | .inl _ => Sum.inl (1, mkS m kp b)
  | .inr _ => Sum.inr (nI (X - 1))) := by
  obtain ⟨w1, w2, w3, w4, w5, w6, w6b, w7⟩ := id h.2.2.2.1
  have e7 : m 7 (q * 5 + 3) = nI X := by rw [← eX]; exact w6 q 3 (by omega) (by decide)
  have hX2 : nI X - 2 = nI (X - 2) := nI_sub (b := 2) (by omega)
  have := loopE (fun f j (_ : Unit) => f_X7_signOf_L49 (mkS m kp b) (yv m q) 0 (nI q) f (nI (j + 1))) (fun _ => Sum.inl (1, mkS m kp b)) (fun _ => Sum.inr (nI (X - 1))) (fun j a => sgE m q (j + 1) a) (X - 2) (fun f j a hj => by
    show f_X7_signOf_L49 (mkS m kp b) (yv m q) 0 (nI q) (f + 1) (nI (j + 1)) = _
    have hb := hrv_b h (show q < 24 by omega) (show 1 ≤ j + 1 by omega) (show j + 1 + 1 < 24 by omega)
    have ha := sg_abs h hq (show 1 ≤ j + 1 by omega) (show j + 1 + 1 < 24 by omega)
    rw [f_X7_signOf_L49, gq_0_0, Option.bind_some, csz w1 w3 w5 hq, Option.bind_some, e7, hX2, if_neg (nI_nlt (show j + 1 ≤ X - 2 by omega) (by omega)), Option.bind_some, hair7 (fun c j h1 h2 => (w6b c j h1 h2).1) (show q < 24 by omega) (by omega) (by omega), Option.bind_some, absI (by omega) (by omega), Option.bind_some, nI_a1]
    unfold sgE sgB
    by_cases hB : yv m q < hrv m q (j + 1) ∨ hrv m q (j + 1) < - yv m q
    · rw [if_neg (fun y => (ha.mp y) hB), if_pos (decide_eq_true hB)]
    · rw [if_pos (ha.mpr hB), if_neg (fun y => hB (of_decide_eq_true y))]) (fun f a => by
    show f_X7_signOf_L49 (mkS m kp b) (yv m q) 0 (nI q) (f + 1) (nI (X - 2 + 1)) = _
    rw [f_X7_signOf_L49, gq_0_0, Option.bind_some, csz w1 w3 w5 hq, Option.bind_some, e7, hX2, if_pos (nI_lt (show X - 2 < X - 2 + 1 by omega) (by omega)), show X - 2 + 1 = X - 1 by omega]) (X - 2) 0 () 3000 (by omega) (by omega)
  have sh : ∀ k i, itE (fun j a => sgE m q (j + 1) a) k i () = itE (sgE m q) k (i + 1) () := by
    intro k
    induction k with
    | zero => intro i; rfl
    | succ k ih =>
      intro i
      unfold itE
      cases sgE m q (i + 1) () with
      | inl r => rfl
      | inr r => exact ih (i + 1)
  rw [sh] at this
  refine Eq.trans (this : f_X7_signOf_L49 (mkS m kp b) (yv m q) 0 (nI q) 3000 1 = _) ?_
  rw [Nat.zero_add]
  cases itE (sgE m q) (X - 2) 1 () <;> rfl
theorem sg44 {q X : Nat} (h : RS m 1 43 c) (hq : q < c 1) (hX3 : 3 ≤ X) (hX : X ≤ 24) (eX : m 43 (82 + 29 * q + 3) = nI X) : f_X8_signOf_L44 (mkS m kp b) (yv m q) 42 (nI q) 3000 1 0 = some (nI (X - 1), it (sgM m q) (X - 2) 1 0) := by
  have w5 := h.2.2.2.1.2.2.2.2.1
  have hX1 : nI X - 1 = nI (X - 1) := subj (by omega)
  have := (loopT (fun f j (a : Int32) => f_X8_signOf_L44 (mkS m kp b) (yv m q) 42 (nI q) f (nI j) a) (fun a => (nI (X - 1), a)) (sgM m q) (fun j _ => 1 ≤ j) (X - 1) (fun f j a hj hI => by
    refine ⟨?_, by omega⟩
    show f_X8_signOf_L44 (mkS m kp b) (yv m q) 42 (nI q) (f + 1) (nI j) a = f_X8_signOf_L44 (mkS m kp b) (yv m q) 42 (nI q) f (nI (j + 1)) (sgM m q j a)
    rw [f_X8_signOf_L44, mmany (show q < 24 by omega), Option.bind_some, eX, hX1, if_neg (nI_ge hj (by omega)), hair8 (show q < 24 by omega) hI (show j + 1 < 24 by omega), Option.bind_some, Option.bind_some, nI_a1]
    unfold sgM sgB
    by_cases h0 : a = 0
    · rw [if_pos h0, if_pos h0]
      by_cases h1 : yv m q < hrv m q j
      · rw [if_pos h1, if_pos (decide_eq_true (Or.inl h1))]
      · rw [if_neg h1]
        by_cases h2 : hrv m q j < - yv m q
        · rw [if_neg (fun y => Int32.not_le.mpr h2 y), if_pos (decide_eq_true (Or.inr h2))]
        · rw [if_pos (Int32.not_lt.mp h2), if_neg (fun y => (of_decide_eq_true y).elim h1 h2)]
    · rw [if_neg h0, if_neg h0]) (fun f a hI => by
    show f_X8_signOf_L44 (mkS m kp b) (yv m q) 42 (nI q) (f + 1) (nI (X - 1)) a = _
    rw [f_X8_signOf_L44, mmany (show q < 24 by omega), Option.bind_some, eX, hX1, if_pos (Int32.le_refl _)]) (X - 2) 1 0 3000 (by omega) (by omega) (Nat.le_refl _)).1
  exact this
theorem sign7 {q : Nat} (h : RS m 1 43 c) (hq : q < c 1) : ∃ M b', f_X7_signOf (mkS m kp b) 0 (nI q) = some (sgV m q, mkS M kp b') ∧ EqS m M := by
  obtain ⟨w1, w2, w3, w4, w5, w6, w6b, w7⟩ := id h.2.2.2.1
  obtain ⟨e1, e2, e3⟩ := mc_of h hq
  obtain ⟨M, b', e7, h7⟩ := wor7 (kp := kp) (b := b) (u := 1) (a1 := nI (mcN m q)) (a2 := dyv m q) (a3 := 0) h (by omega)
  obtain ⟨X, hX3, hX24, eX⟩ := (w7 q hq).2.2.2
  have hE := EqS_26 h7
  have h43 : M 43 = m 43 := hE.at 43 (by omega) (by omega)
  refine ⟨M, b', ?_, hE⟩
  have hl := sg49 (kp := kp) (b := b') (RS_S h hE) hq hX3 hX24 (by rw [h43]; exact eX)
  rw [sgE_fr h43, yv_fr h43] at hl
  unfold f_X7_signOf sgV
  rw [if_pos io_0, gq_0_0, Option.bind_some, gq_1_2, Option.bind_some, at_6_2 w1 w3 w5 hq, Option.bind_some, Option.bind_some, day7 h hq, Option.bind_some, e3, show (1 : Int32) = nI 1 from rfl, e7, Option.bind_some, eX, nI_clamp (by omega)]
  dsimp only
  by_cases h0 : wrV m 1 (nI (mcN m q)) (dyv m q) 0 = 0
  · rw [if_pos h0, if_pos h0]
  · rw [if_neg h0, if_neg h0, gq_0_0, Option.bind_some, gq_1_0, Option.bind_some, mach7_2 (RS_S h hE) e1, Option.bind_some, h43, show m 43 (10 + 3 * mcN m q + 2) = yv m q from rfl, show nI 1 = (1 : Int32) from rfl, hl, Option.bind_some]
    cases itE (sgE m q) (X - 2) 1 () <;> rfl
theorem sign8 {q : Nat} (h : RS m 1 43 c) (hq : q < c 1) : ∃ M, f_X8_signOf (mkS m kp b) 42 (nI q) = some (sgV m q, mkS M kp b) ∧ EqS m M := by
  have w5 := h.2.2.2.1.2.2.2.2.1
  obtain ⟨e1, e2, e3⟩ := mc_of h hq
  obtain ⟨M, e7, h7⟩ := giv8 (kp := kp) (b := b) (u := 1) (a1 := nI (mcN m q)) (a2 := dyv m q) (a3 := 0) h (by omega)
  obtain ⟨X, hX3, hX24, eX⟩ := (h.2.2.2.1.2.2.2.2.2.2.2 q hq).2.2.2
  have hE := EqS_48 h7
  have h43 : M 43 = m 43 := hE.at 43 (by omega) (by omega)
  refine ⟨M, ?_, hE⟩
  have hl := sg44 (kp := kp) (b := b) (RS_S h hE) hq hX3 hX24 (by rw [h43]; exact eX)
  rw [yv_fr h43, sg_eq, sgE_fr h43] at hl
  unfold f_X8_signOf sgV
  rw [if_pos io_42, show (2 : Int32) = nI 2 from rfl, mcur (show q < 24 by omega) (show 2 < 29 by decide), Option.bind_some, day8 h hq, Option.bind_some, e2, show (1 : Int32) = nI 1 from rfl, e7, Option.bind_some, eX, nI_clamp (by omega)]
  dsimp only
  by_cases h0 : wrV m 1 (nI (mcN m q)) (dyv m q) 0 = 0
  · rw [if_pos h0, if_pos h0]
  · rw [if_neg h0, if_neg h0, gq_42_0, Option.bind_some, show nI 2 = (2 : Int32) from rfl, ixM2, rd_43 (show 10 + 3 * mcN m q + 2 < 1234 by omega), Option.bind_some, h43, show m 43 (10 + 3 * mcN m q + 2) = yv m q from rfl, show nI 1 = (1 : Int32) from rfl, hl, Option.bind_some]
    dsimp only
    cases itE (sgE m q) (X - 2) 1 () <;> rfl
theorem op_sign (a : Int32) : OpR (fun σ => f_X7_sign σ 0 a) (fun σ => f_X8_sign σ 42 a) := by
  intro m kp b z hR
  obtain ⟨⟨c, hS⟩, -⟩ := id hR
  obtain ⟨w1, w2, w3, w4, w5, w6, w6b, w7⟩ := id hS.2.2.2.1
  by_cases ha : 0 ≤ a ∧ a < nI (c 1)
  · obtain ⟨q, hq, rfl⟩ := ex_nI (n := c 1) (by omega) ha
    obtain ⟨M1, b1, e7, hE1⟩ := sign7 (kp := kp) (b := b) hS hq
    obtain ⟨M2, e8, hE2⟩ := sign8 (kp := kp) (b := b1) (RS_S hS hE1) hq
    rw [sgV_S hE1] at e8
    have h43 : M1 43 = m 43 := hE1.at 43 (by omega) (by omega)
    refine ⟨sgV m q, M1, kp, b1, M2, ?_, ?_, (RR_scr hR (hE1.trans hE2)).up⟩
    · show f_X7_sign (mkS m kp b) 0 (nI q) = _
      unfold f_X7_sign
      rw [if_pos io_0, gq_0_0, Option.bind_some, gq_1_2, Option.bind_some, has_6 w3, if_pos ha, Option.bind_some, if_neg (show ¬ (1 : Int32) = 0 by decide), e7, Option.bind_some]
    · show f_X8_sign (mkS M1 kp b1) 42 (nI q) = _
      unfold f_X8_sign
      rw [if_pos io_42, is_1 (show M1 43 1 = nI (c 1) by rw [h43]; exact w4) (show c 1 ≤ 1000 by omega), if_pos ha, Option.bind_some, if_neg (show ¬ (1 : Int32) = 0 by decide), e8, Option.bind_some]
  · refine op_err1 (k := 1) (e := -1000001) (by decide) hR ?_ ?_
    · show f_X7_sign (mkS m kp b) 0 a = _
      unfold f_X7_sign
      simp only [io_0, gI_0, pI_0, pZ_0, io_1, gI_1, pI_1, pZ_1, io_2, gI_2, pI_2, pZ_2, aL_3, io_4, gI_4, pI_4, pZ_4, aL_5, io_6, gI_6, pI_6, pZ_6, aL_7, aL_8, io_9, gI_9, pI_9, pZ_9, aL_10, io_11, gI_11, pI_11, pZ_11, aL_12, io_13, gI_13, pI_13, pZ_13, aL_14, io_15, gI_15, pI_15, pZ_15, aL_16, io_17, gI_17, pI_17, pZ_17, aL_18, aL_19, io_20, gI_20, pI_20, pZ_20, aL_21, io_22, gI_22, pI_22, pZ_22, aL_23, io_24, gI_24, pI_24, pZ_24, aL_25, io_26, gI_26, pI_26, pZ_26, io_27, gI_27, pI_27, pZ_27, aL_28, aL_29, aL_30, aL_31, aL_32, aL_33, io_34, gI_34, pI_34, pZ_34, aL_35, io_36, gI_36, pI_36, pZ_36, aL_37, io_38, gI_38, pI_38, pZ_38, aL_39, io_40, gI_40, pI_40, pZ_40, aL_41, io_42, gI_42, pI_42, pZ_42, aL_43, aL_44, aL_45, aL_46, aL_47, aL_48, aL_49, aL_50, aL_51, aL_52, aL_53, aL_54, aL_55, aL_56, aL_57, aL_58, gq_0_0, gq_0_1, gq_0_2, gq_0_3, gq_0_4, gq_0_5, gq_0_6, gq_0_7, gq_1_0, gq_1_1, gq_1_2, gq_1_3, gq_1_4, gq_1_5, gq_1_6, gq_1_7, gq_1_8, gq_1_9, gq_2_2, gq_4_2, gq_6_2, gq_9_2, gq_11_2, gq_13_2, gq_15_2, gq_17_0, gq_20_0, gq_22_0, gq_24_0, gq_27_0, gq_34_0, gq_36_0, gq_38_0, gq_40_0, gq_42_0, gq_42_1, gq_42_3, gq_42_4, gq_42_11, gq_42_12, gq_42_13, gq_42_15, gq_42_16, gq_42_17, gq_42_18, gq_42_19, gq_42_23, gq_42_24, gq_42_25, gq_42_26, aQ_29_0, aQ_29_1, aQ_29_2, aQ_29_3, aQ_19_0, aQ_19_1, aQ_19_2, aQ_46_0, aQ_46_1, aQ_46_2, gq_26, gr_26, gr_0_8, pQ_26, Option.bind_some, ↓reduceIte, one_ne0, has_6 w3, if_neg ha, fails_1]
      try simp
    · show f_X8_sign (mkS _ kp b) 42 a = _
      unfold f_X8_sign
      simp only [io_0, gI_0, pI_0, pZ_0, io_1, gI_1, pI_1, pZ_1, io_2, gI_2, pI_2, pZ_2, aL_3, io_4, gI_4, pI_4, pZ_4, aL_5, io_6, gI_6, pI_6, pZ_6, aL_7, aL_8, io_9, gI_9, pI_9, pZ_9, aL_10, io_11, gI_11, pI_11, pZ_11, aL_12, io_13, gI_13, pI_13, pZ_13, aL_14, io_15, gI_15, pI_15, pZ_15, aL_16, io_17, gI_17, pI_17, pZ_17, aL_18, aL_19, io_20, gI_20, pI_20, pZ_20, aL_21, io_22, gI_22, pI_22, pZ_22, aL_23, io_24, gI_24, pI_24, pZ_24, aL_25, io_26, gI_26, pI_26, pZ_26, io_27, gI_27, pI_27, pZ_27, aL_28, aL_29, aL_30, aL_31, aL_32, aL_33, io_34, gI_34, pI_34, pZ_34, aL_35, io_36, gI_36, pI_36, pZ_36, aL_37, io_38, gI_38, pI_38, pZ_38, aL_39, io_40, gI_40, pI_40, pZ_40, aL_41, io_42, gI_42, pI_42, pZ_42, aL_43, aL_44, aL_45, aL_46, aL_47, aL_48, aL_49, aL_50, aL_51, aL_52, aL_53, aL_54, aL_55, aL_56, aL_57, aL_58, gq_0_0, gq_0_1, gq_0_2, gq_0_3, gq_0_4, gq_0_5, gq_0_6, gq_0_7, gq_1_0, gq_1_1, gq_1_2, gq_1_3, gq_1_4, gq_1_5, gq_1_6, gq_1_7, gq_1_8, gq_1_9, gq_2_2, gq_4_2, gq_6_2, gq_9_2, gq_11_2, gq_13_2, gq_15_2, gq_17_0, gq_20_0, gq_22_0, gq_24_0, gq_27_0, gq_34_0, gq_36_0, gq_38_0, gq_40_0, gq_42_0, gq_42_1, gq_42_3, gq_42_4, gq_42_11, gq_42_12, gq_42_13, gq_42_15, gq_42_16, gq_42_17, gq_42_18, gq_42_19, gq_42_23, gq_42_24, gq_42_25, gq_42_26, aQ_29_0, aQ_29_1, aQ_29_2, aQ_29_3, aQ_19_0, aQ_19_1, aQ_19_2, aQ_46_0, aQ_46_1, aQ_46_2, gq_26, gr_26, gr_0_8, pQ_26, Option.bind_some, ↓reduceIte, one_ne0, is_1 (e43 w4) (show c 1 ≤ 1000 by omega), if_neg ha, finds_1]
      try simp
def unG (m : Nat → Nat → Int32) (q : Nat) (a : Int32) : Int32 := if sgV m q = 2 then a ||| ((1 : Int32) <<< (nI q &&& 31)) else a
theorem op_unsigned : OpR (fun σ => f_X7_unsigned σ 0) (fun σ => f_X8_unsigned σ 42) := by
  intro m kp b z hR
  obtain ⟨⟨c, hS⟩, -⟩ := id hR
  obtain ⟨w1, w2, w3, w4, w5, w6, w6b, w7⟩ := id hS.2.2.2.1
  obtain ⟨σ1, e7, M1, b1, rfl, hE1⟩ := loopZ (fun l q a σ => f_X7_unsigned_L4 0 l (nI q) a σ) (fun a σ => (nI (c 1), a, σ)) (fun _ σ => sTb m kp σ) (unG m) (c 1) (fun l q a σ hq hQ => by
    obtain ⟨M, b, rfl, hE⟩ := hQ
    obtain ⟨M1, b1, e7, hE1⟩ := sign7 (kp := kp) (b := b) (RS_S hS hE) hq
    rw [sgV_S hE] at e7
    refine ⟨mkS M1 kp b1, ?_, M1, b1, rfl, hE.trans hE1⟩
    show f_X7_unsigned_L4 0 (l + 1) (nI q) a (mkS M kp b) = f_X7_unsigned_L4 0 l (nI (q + 1)) (unG m q a) (mkS M1 kp b1)
    rw [f_X7_unsigned_L4, gq_0_0, Option.bind_some, gq_1_2, Option.bind_some, gI_6, Option.bind_some, hE.at 6 (by omega) (by omega), w3, if_neg (nI_ge hq (by omega)), e7, Option.bind_some, nI_a1]
    rfl) (fun l a σ hQ => by
    obtain ⟨M, b, rfl, hE⟩ := hQ
    show f_X7_unsigned_L4 0 (l + 1) (nI (c 1)) a (mkS M kp b) = _
    rw [f_X7_unsigned_L4, gq_0_0, Option.bind_some, gq_1_2, Option.bind_some, gI_6, Option.bind_some, hE.at 6 (by omega) (by omega), w3, if_pos (Int32.le_refl _)]) (c 1) 0 3000 0 (mkS m kp b) (by omega) (by omega) ⟨m, b, rfl, EqS.rfl'⟩
  have hS1 := RS_S hS hE1
  have w41 : M1 43 1 = nI (c 1) := by rw [hE1.at 43 (by omega) (by omega)]; exact w4
  obtain ⟨σ2, e8, M2, rfl, hE2⟩ := loopZ (fun l q a σ => f_X8_unsigned_L4 42 l (nI q) a σ) (fun a σ => (nI (c 1), a, σ)) (fun _ σ => sR M1 kp b1 σ) (unG M1) (c 1) (fun l q a σ hq hQ => by
    obtain ⟨M, rfl, hE⟩ := hQ
    obtain ⟨M2, e8, hE2⟩ := sign8 (kp := kp) (b := b1) (RS_S hS1 hE) hq
    rw [sgV_S hE] at e8
    have e1 : M 43 1 = nI (c 1) := by rw [hE.at 43 (by omega) (by omega)]; exact w41
    refine ⟨mkS M2 kp b1, ?_, M2, rfl, hE.trans hE2⟩
    show f_X8_unsigned_L4 42 (l + 1) (nI q) a (mkS M kp b1) = f_X8_unsigned_L4 42 l (nI (q + 1)) (unG M1 q a) (mkS M2 kp b1)
    rw [f_X8_unsigned_L4, gq_42_0, Option.bind_some, rdl_1, e1, Option.bind_some, if_neg (nI_ge hq (by omega)), e8, Option.bind_some, nI_a1]
    unfold unG
    dsimp only
    by_cases h2 : sgV M1 q = 2
    · rw [if_pos h2, if_pos h2]
    · rw [if_neg h2, if_neg h2, Int32.or_zero]) (fun l a σ hQ => by
    obtain ⟨M, rfl, hE⟩ := hQ
    have e1 : M 43 1 = nI (c 1) := by rw [hE.at 43 (by omega) (by omega)]; exact w41
    show f_X8_unsigned_L4 42 (l + 1) (nI (c 1)) a (mkS M kp b1) = _
    rw [f_X8_unsigned_L4, gq_42_0, Option.bind_some, rdl_1, e1, Option.bind_some, if_pos (Int32.le_refl _)]) (c 1) 0 3000 0 (mkS M1 kp b1) (by omega) (by omega) ⟨M1, rfl, EqS.rfl'⟩
  have hG : unG M1 = unG m := by funext q a; unfold unG; rw [sgV_S hE1]
  rw [hG] at e8
  have e7' : f_X7_unsigned_L4 0 3000 0 0 (mkS m kp b) = some (nI (c 1), it (unG m) (c 1) 0 0, mkS M1 kp b1) := e7
  have e8' : f_X8_unsigned_L4 42 3000 0 0 (mkS M1 kp b1) = some (nI (c 1), it (unG m) (c 1) 0 0, mkS M2 kp b1) := e8
  refine ⟨it (unG m) (c 1) 0 0, M1, kp, b1, M2, ?_, ?_, (RR_scr hR (hE1.trans hE2)).up⟩
  · show f_X7_unsigned (mkS m kp b) 0 = _
    unfold f_X7_unsigned
    rw [if_pos io_0, e7', Option.bind_some]
  · show f_X8_unsigned (mkS M1 kp b1) 42 = _
    unfold f_X8_unsigned
    rw [if_pos io_42, e8', Option.bind_some]
end SG
