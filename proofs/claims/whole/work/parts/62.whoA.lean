/-- a loop that carries numbers and a state of which only a relation is kept -/
theorem loopZ {α ρ : Type} (L : Nat → Nat → α → St → Option ρ) (out : α → St → ρ) (R : Nat → St → Prop) (g : Nat → α → α) (n : Nat) (hs : ∀ f i a σ, i < n → R i σ → ∃ σ', L (f + 1) i a σ = L f (i + 1) (g i a) σ' ∧ R (i + 1) σ') (he : ∀ f a σ, R n σ → L (f + 1) n a σ = some (out a σ)) : ∀ k i f a σ, i + k = n → k < f → R i σ → ∃ σ', L f i a σ = some (out (it g k i a) σ') ∧ R n σ' := by
  intro k
  induction k with
  | zero =>
    intro i f a σ h1 h2 hR
    obtain ⟨f, rfl⟩ : ∃ q, f = q + 1 := ⟨f - 1, by omega⟩
    have : i = n := by omega
    subst this
    exact ⟨σ, he f a σ hR, hR⟩
  | succ k ih =>
    intro i f a σ h1 h2 hR
    obtain ⟨f, rfl⟩ : ∃ q, f = q + 1 := ⟨f - 1, by omega⟩
    obtain ⟨σ', e, hR'⟩ := hs f i a σ (by omega) hR
    obtain ⟨σ2, e2, hR2⟩ := ih (i + 1) f (g i a) σ' (by omega) (by omega) hR'
    exact ⟨σ2, e.trans e2, hR2⟩
def sR (m : Nat → Nat → Int32) (kp : Bool) (b : Option Nat) (σ : St) : Prop := ∃ M, σ = mkS M kp b ∧ EqS m M
section WA
variable {m : Nat → Nat → Int32} {kp : Bool} {b : Option Nat} {z : Nat} {c : Nat → Nat}
theorem RS_S {M : Nat → Nat → Int32} (h : RS m 1 43 c) (hE : EqS m M) : RS M 1 43 c := h.fr (fun k _ _ => hE.at k (by omega) (by omega)) (hE.at _ (by omega) (by omega))
/-! days and names of a curve -/
def ppN (m : Nat → Nat → Int32) (q : Nat) : Nat := (m 43 (82 + 29 * q + 1)).toNatClampNeg
def dyv (m : Nat → Nat → Int32) (q : Nat) : Int32 := m 43 (22 + 5 * ppN m q)
def nmv (m : Nat → Nat → Int32) (q : Nat) : Int32 := m 43 (22 + 5 * ppN m q + 1)
theorem pp_of {q : Nat} (h : RS m 1 43 c) (hq : q < c 1) : ppN m q < c 0 ∧ m 43 (82 + 29 * q + 1) = nI (ppN m q) ∧ m 7 (q * 5 + 1) = nI (ppN m q) := by
  obtain ⟨w1, w2, w3, w4, w5, w6, w6b, w7⟩ := id h.2.2.2.1
  have hP := h.2.2.1.2.2.2.2.1
  obtain ⟨x, hx, ex⟩ := (w7 q hq).2.1
  have e : ppN m q = x := by unfold ppN; rw [ex, nI_clamp (by omega)]
  rw [e]
  exact ⟨hx, ex, (w6 q 1 (by omega) (by decide)).trans ex⟩
theorem day7 {q : Nat} (h : RS m 1 43 c) (hq : q < c 1) : f_X4_dayOf (mkS m kp b) 1 (nI q) = some (dyv m q) := by
  obtain ⟨w1, w2, w3, w4, w5, w6, w6b, w7⟩ := id h.2.2.2.1
  obtain ⟨p1, p2, p3, p4, p5, p6, p7⟩ := id h.2.2.1
  obtain ⟨e1, e2, e3⟩ := pp_of h hq
  unfold f_X4_dayOf dyv
  have e5 : m 5 (ppN m q * 5 + 0) = m 43 (22 + 5 * ppN m q) := by
    have := p6 (ppN m q * 5 + 0) (by omega)
    rw [show 22 + (ppN m q * 5 + 0) = 22 + 5 * ppN m q by omega] at this
    exact this
  simp only [io_0, gI_0, pI_0, pZ_0, io_1, gI_1, pI_1, pZ_1, io_2, gI_2, pI_2, pZ_2, aL_3, io_4, gI_4, pI_4, pZ_4, aL_5, io_6, gI_6, pI_6, pZ_6, aL_7, aL_8, io_9, gI_9, pI_9, pZ_9, aL_10, io_11, gI_11, pI_11, pZ_11, aL_12, io_13, gI_13, pI_13, pZ_13, aL_14, io_15, gI_15, pI_15, pZ_15, aL_16, io_17, gI_17, pI_17, pZ_17, aL_18, aL_19, io_20, gI_20, pI_20, pZ_20, aL_21, io_22, gI_22, pI_22, pZ_22, aL_23, io_24, gI_24, pI_24, pZ_24, aL_25, io_26, gI_26, pI_26, pZ_26, io_27, gI_27, pI_27, pZ_27, aL_28, aL_29, aL_30, aL_31, aL_32, aL_33, io_34, gI_34, pI_34, pZ_34, aL_35, io_36, gI_36, pI_36, pZ_36, aL_37, io_38, gI_38, pI_38, pZ_38, aL_39, io_40, gI_40, pI_40, pZ_40, aL_41, io_42, gI_42, pI_42, pZ_42, aL_43, aL_44, aL_45, aL_46, aL_47, aL_48, aL_49, aL_50, aL_51, aL_52, aL_53, aL_54, aL_55, aL_56, aL_57, aL_58, gq_0_0, gq_0_1, gq_0_2, gq_0_3, gq_0_4, gq_0_5, gq_0_6, gq_0_7, gq_1_0, gq_1_1, gq_1_2, gq_1_3, gq_1_4, gq_1_5, gq_1_6, gq_1_7, gq_1_8, gq_1_9, gq_2_2, gq_4_2, gq_6_2, gq_9_2, gq_11_2, gq_13_2, gq_15_2, gq_17_0, gq_20_0, gq_22_0, gq_24_0, gq_27_0, gq_34_0, gq_36_0, gq_38_0, gq_40_0, gq_42_0, gq_42_1, gq_42_3, gq_42_4, gq_42_11, gq_42_12, gq_42_13, gq_42_15, gq_42_16, gq_42_17, gq_42_18, gq_42_19, gq_42_23, gq_42_24, gq_42_25, gq_42_26, aQ_29_0, aQ_29_1, aQ_29_2, aQ_29_3, aQ_19_0, aQ_19_1, aQ_19_2, aQ_46_0, aQ_46_1, aQ_46_2, gq_26, gr_26, gr_0_8, pQ_26, Option.bind_some, ↓reduceIte, one_ne0, at_6_1 w1 w3 w5 hq, e3, at_4_0 p1 p3 p5 e1, e5]
theorem nam7 {q : Nat} (h : RS m 1 43 c) (hq : q < c 1) : f_X4_namesOf (mkS m kp b) 1 (nI q) = some (nmv m q) := by
  obtain ⟨w1, w2, w3, w4, w5, w6, w6b, w7⟩ := id h.2.2.2.1
  obtain ⟨p1, p2, p3, p4, p5, p6, p7⟩ := id h.2.2.1
  obtain ⟨e1, e2, e3⟩ := pp_of h hq
  unfold f_X4_namesOf nmv
  have e5 : m 5 (ppN m q * 5 + 1) = m 43 (22 + 5 * ppN m q + 1) := by
    have := p6 (ppN m q * 5 + 1) (by omega)
    rw [show 22 + (ppN m q * 5 + 1) = 22 + 5 * ppN m q + 1 by omega] at this
    exact this
  simp only [io_0, gI_0, pI_0, pZ_0, io_1, gI_1, pI_1, pZ_1, io_2, gI_2, pI_2, pZ_2, aL_3, io_4, gI_4, pI_4, pZ_4, aL_5, io_6, gI_6, pI_6, pZ_6, aL_7, aL_8, io_9, gI_9, pI_9, pZ_9, aL_10, io_11, gI_11, pI_11, pZ_11, aL_12, io_13, gI_13, pI_13, pZ_13, aL_14, io_15, gI_15, pI_15, pZ_15, aL_16, io_17, gI_17, pI_17, pZ_17, aL_18, aL_19, io_20, gI_20, pI_20, pZ_20, aL_21, io_22, gI_22, pI_22, pZ_22, aL_23, io_24, gI_24, pI_24, pZ_24, aL_25, io_26, gI_26, pI_26, pZ_26, io_27, gI_27, pI_27, pZ_27, aL_28, aL_29, aL_30, aL_31, aL_32, aL_33, io_34, gI_34, pI_34, pZ_34, aL_35, io_36, gI_36, pI_36, pZ_36, aL_37, io_38, gI_38, pI_38, pZ_38, aL_39, io_40, gI_40, pI_40, pZ_40, aL_41, io_42, gI_42, pI_42, pZ_42, aL_43, aL_44, aL_45, aL_46, aL_47, aL_48, aL_49, aL_50, aL_51, aL_52, aL_53, aL_54, aL_55, aL_56, aL_57, aL_58, gq_0_0, gq_0_1, gq_0_2, gq_0_3, gq_0_4, gq_0_5, gq_0_6, gq_0_7, gq_1_0, gq_1_1, gq_1_2, gq_1_3, gq_1_4, gq_1_5, gq_1_6, gq_1_7, gq_1_8, gq_1_9, gq_2_2, gq_4_2, gq_6_2, gq_9_2, gq_11_2, gq_13_2, gq_15_2, gq_17_0, gq_20_0, gq_22_0, gq_24_0, gq_27_0, gq_34_0, gq_36_0, gq_38_0, gq_40_0, gq_42_0, gq_42_1, gq_42_3, gq_42_4, gq_42_11, gq_42_12, gq_42_13, gq_42_15, gq_42_16, gq_42_17, gq_42_18, gq_42_19, gq_42_23, gq_42_24, gq_42_25, gq_42_26, aQ_29_0, aQ_29_1, aQ_29_2, aQ_29_3, aQ_19_0, aQ_19_1, aQ_19_2, aQ_46_0, aQ_46_1, aQ_46_2, gq_26, gr_26, gr_0_8, pQ_26, Option.bind_some, ↓reduceIte, one_ne0, at_6_1 w1 w3 w5 hq, e3, at_4_1 p1 p3 p5 e1, e5]
theorem day8 {q : Nat} (h : RS m 1 43 c) (hq : q < c 1) : f_X8_dayOf (mkS m kp b) 42 (nI q) = some (dyv m q) := by
  have w5 := h.2.2.2.1.2.2.2.2.1
  have p5 := h.2.2.1.2.2.2.2.1
  obtain ⟨e1, e2, e3⟩ := pp_of h hq
  unfold f_X8_dayOf dyv
  simp only [io_0, gI_0, pI_0, pZ_0, io_1, gI_1, pI_1, pZ_1, io_2, gI_2, pI_2, pZ_2, aL_3, io_4, gI_4, pI_4, pZ_4, aL_5, io_6, gI_6, pI_6, pZ_6, aL_7, aL_8, io_9, gI_9, pI_9, pZ_9, aL_10, io_11, gI_11, pI_11, pZ_11, aL_12, io_13, gI_13, pI_13, pZ_13, aL_14, io_15, gI_15, pI_15, pZ_15, aL_16, io_17, gI_17, pI_17, pZ_17, aL_18, aL_19, io_20, gI_20, pI_20, pZ_20, aL_21, io_22, gI_22, pI_22, pZ_22, aL_23, io_24, gI_24, pI_24, pZ_24, aL_25, io_26, gI_26, pI_26, pZ_26, io_27, gI_27, pI_27, pZ_27, aL_28, aL_29, aL_30, aL_31, aL_32, aL_33, io_34, gI_34, pI_34, pZ_34, aL_35, io_36, gI_36, pI_36, pZ_36, aL_37, io_38, gI_38, pI_38, pZ_38, aL_39, io_40, gI_40, pI_40, pZ_40, aL_41, io_42, gI_42, pI_42, pZ_42, aL_43, aL_44, aL_45, aL_46, aL_47, aL_48, aL_49, aL_50, aL_51, aL_52, aL_53, aL_54, aL_55, aL_56, aL_57, aL_58, gq_0_0, gq_0_1, gq_0_2, gq_0_3, gq_0_4, gq_0_5, gq_0_6, gq_0_7, gq_1_0, gq_1_1, gq_1_2, gq_1_3, gq_1_4, gq_1_5, gq_1_6, gq_1_7, gq_1_8, gq_1_9, gq_2_2, gq_4_2, gq_6_2, gq_9_2, gq_11_2, gq_13_2, gq_15_2, gq_17_0, gq_20_0, gq_22_0, gq_24_0, gq_27_0, gq_34_0, gq_36_0, gq_38_0, gq_40_0, gq_42_0, gq_42_1, gq_42_3, gq_42_4, gq_42_11, gq_42_12, gq_42_13, gq_42_15, gq_42_16, gq_42_17, gq_42_18, gq_42_19, gq_42_23, gq_42_24, gq_42_25, gq_42_26, aQ_29_0, aQ_29_1, aQ_29_2, aQ_29_3, aQ_19_0, aQ_19_1, aQ_19_2, aQ_46_0, aQ_46_1, aQ_46_2, gq_26, gr_26, gr_0_8, pQ_26, Option.bind_some, ↓reduceIte, one_ne0, mcur1 (show q < 24 by omega), e2, mpap0 (show ppN m q < 12 by omega)]
theorem nam8 {q : Nat} (h : RS m 1 43 c) (hq : q < c 1) : f_X8_namesOf (mkS m kp b) 42 (nI q) = some (nmv m q) := by
  have w5 := h.2.2.2.1.2.2.2.2.1
  have p5 := h.2.2.1.2.2.2.2.1
  obtain ⟨e1, e2, e3⟩ := pp_of h hq
  unfold f_X8_namesOf nmv
  simp only [io_0, gI_0, pI_0, pZ_0, io_1, gI_1, pI_1, pZ_1, io_2, gI_2, pI_2, pZ_2, aL_3, io_4, gI_4, pI_4, pZ_4, aL_5, io_6, gI_6, pI_6, pZ_6, aL_7, aL_8, io_9, gI_9, pI_9, pZ_9, aL_10, io_11, gI_11, pI_11, pZ_11, aL_12, io_13, gI_13, pI_13, pZ_13, aL_14, io_15, gI_15, pI_15, pZ_15, aL_16, io_17, gI_17, pI_17, pZ_17, aL_18, aL_19, io_20, gI_20, pI_20, pZ_20, aL_21, io_22, gI_22, pI_22, pZ_22, aL_23, io_24, gI_24, pI_24, pZ_24, aL_25, io_26, gI_26, pI_26, pZ_26, io_27, gI_27, pI_27, pZ_27, aL_28, aL_29, aL_30, aL_31, aL_32, aL_33, io_34, gI_34, pI_34, pZ_34, aL_35, io_36, gI_36, pI_36, pZ_36, aL_37, io_38, gI_38, pI_38, pZ_38, aL_39, io_40, gI_40, pI_40, pZ_40, aL_41, io_42, gI_42, pI_42, pZ_42, aL_43, aL_44, aL_45, aL_46, aL_47, aL_48, aL_49, aL_50, aL_51, aL_52, aL_53, aL_54, aL_55, aL_56, aL_57, aL_58, gq_0_0, gq_0_1, gq_0_2, gq_0_3, gq_0_4, gq_0_5, gq_0_6, gq_0_7, gq_1_0, gq_1_1, gq_1_2, gq_1_3, gq_1_4, gq_1_5, gq_1_6, gq_1_7, gq_1_8, gq_1_9, gq_2_2, gq_4_2, gq_6_2, gq_9_2, gq_11_2, gq_13_2, gq_15_2, gq_17_0, gq_20_0, gq_22_0, gq_24_0, gq_27_0, gq_34_0, gq_36_0, gq_38_0, gq_40_0, gq_42_0, gq_42_1, gq_42_3, gq_42_4, gq_42_11, gq_42_12, gq_42_13, gq_42_15, gq_42_16, gq_42_17, gq_42_18, gq_42_19, gq_42_23, gq_42_24, gq_42_25, gq_42_26, aQ_29_0, aQ_29_1, aQ_29_2, aQ_29_3, aQ_19_0, aQ_19_1, aQ_19_2, aQ_46_0, aQ_46_1, aQ_46_2, gq_26, gr_26, gr_0_8, pQ_26, Option.bind_some, ↓reduceIte, one_ne0, mcur1 (show q < 24 by omega), e2, mpap1 (show ppN m q < 12 by omega)]
theorem nm_le {q : Nat} (h : RS m 1 43 c) (hq : q < c 1) : ∃ x, x ≤ 255 ∧ nmv m q = nI x := (h.2.2.1.2.2.2.2.2.2 (ppN m q) (pp_of h hq).1).2.1
theorem dyv_fr {M : Nat → Nat → Int32} (h : M 43 = m 43) : dyv M = dyv m := by funext q; unfold dyv ppN; rw [h]
theorem nmv_fr {M : Nat → Nat → Int32} (h : M 43 = m 43) : nmv M = nmv m := by funext q; unfold nmv ppN; rw [h]
/-! pairs -/
noncomputable def bNo (m : Nat → Nat → Int32) (p q f : Nat) : Bool := (bF5 m p q f).isNone
theorem bNo_t {p q f : Nat} : bNo m p q f = true ↔ bF5 m p q f = none := by unfold bNo; exact Option.isNone_iff_eq_none
theorem bNo_fr {M : Nat → Nat → Int32} (h : M 43 = m 43) : bNo M = bNo m := by funext p q f; unfold bNo; rw [bF5_fr h]
noncomputable def paG (m : Nat → Nat → Int32) (f p : Nat) (q : Nat) (a : Int32) : Int32 := if p = q then a else if bNo m p q f = true then a else a + 1
theorem pa35 {n p f : Nat} {a : Int32} (hC : CvC m n) (hp : p < n) (hf : f ≤ 5) : f_X7_pairs_L35 (mkS m kp b) (nI p) 0 (nI f) 3000 0 a = some (nI n, it (paG m f p) n 0 a) := by
  have hn := hC.2.2.2.1
  have e3 : m 6 3 = nI n := hC.2.2.1
  have := loopU (fun l q a => f_X7_pairs_L35 (mkS m kp b) (nI p) 0 (nI f) l (nI q) a) (fun a => (nI n, a)) (paG m f p) n (fun l q a hq => by
    show f_X7_pairs_L35 (mkS m kp b) (nI p) 0 (nI f) (l + 1) (nI q) a = f_X7_pairs_L35 (mkS m kp b) (nI p) 0 (nI f) l (nI (q + 1)) (paG m f p q a)
    rw [f_X7_pairs_L35]
    simp only [io_0, gI_0, pI_0, pZ_0, io_1, gI_1, pI_1, pZ_1, io_2, gI_2, pI_2, pZ_2, aL_3, io_4, gI_4, pI_4, pZ_4, aL_5, io_6, gI_6, pI_6, pZ_6, aL_7, aL_8, io_9, gI_9, pI_9, pZ_9, aL_10, io_11, gI_11, pI_11, pZ_11, aL_12, io_13, gI_13, pI_13, pZ_13, aL_14, io_15, gI_15, pI_15, pZ_15, aL_16, io_17, gI_17, pI_17, pZ_17, aL_18, aL_19, io_20, gI_20, pI_20, pZ_20, aL_21, io_22, gI_22, pI_22, pZ_22, aL_23, io_24, gI_24, pI_24, pZ_24, aL_25, io_26, gI_26, pI_26, pZ_26, io_27, gI_27, pI_27, pZ_27, aL_28, aL_29, aL_30, aL_31, aL_32, aL_33, io_34, gI_34, pI_34, pZ_34, aL_35, io_36, gI_36, pI_36, pZ_36, aL_37, io_38, gI_38, pI_38, pZ_38, aL_39, io_40, gI_40, pI_40, pZ_40, aL_41, io_42, gI_42, pI_42, pZ_42, aL_43, aL_44, aL_45, aL_46, aL_47, aL_48, aL_49, aL_50, aL_51, aL_52, aL_53, aL_54, aL_55, aL_56, aL_57, aL_58, gq_0_0, gq_0_1, gq_0_2, gq_0_3, gq_0_4, gq_0_5, gq_0_6, gq_0_7, gq_1_0, gq_1_1, gq_1_2, gq_1_3, gq_1_4, gq_1_5, gq_1_6, gq_1_7, gq_1_8, gq_1_9, gq_2_2, gq_4_2, gq_6_2, gq_9_2, gq_11_2, gq_13_2, gq_15_2, gq_17_0, gq_20_0, gq_22_0, gq_24_0, gq_27_0, gq_34_0, gq_36_0, gq_38_0, gq_40_0, gq_42_0, gq_42_1, gq_42_3, gq_42_4, gq_42_11, gq_42_12, gq_42_13, gq_42_15, gq_42_16, gq_42_17, gq_42_18, gq_42_19, gq_42_23, gq_42_24, gq_42_25, gq_42_26, aQ_29_0, aQ_29_1, aQ_29_2, aQ_29_3, aQ_19_0, aQ_19_1, aQ_19_2, aQ_46_0, aQ_46_1, aQ_46_2, gq_26, gr_26, gr_0_8, pQ_26, Option.bind_some, ↓reduceIte, one_ne0, e3, nle hq (show n < 2 ^ 31 by omega), nI_lit (show p < 2 ^ 31 by omega) (show q < 2 ^ 31 by omega), nI_a1]
    rw [fst7 hC hp hq hf, Option.bind_some]
    unfold paG
    by_cases hpq : p = q
    · rw [if_pos hpq, if_pos hpq]
    · rw [if_neg hpq, if_neg hpq]
      by_cases hb : bNo m p q f = true
      · rw [if_pos hb, if_pos ((cdR_neg hC hp hf).mpr (bNo_t.mp hb))]
      · rw [if_neg hb, if_neg (fun y => hb (bNo_t.mpr ((cdR_neg hC hp hf).mp y)))]) (fun l a => by
    show f_X7_pairs_L35 (mkS m kp b) (nI p) 0 (nI f) (l + 1) (nI n) a = _
    rw [f_X7_pairs_L35]
    simp only [io_0, gI_0, pI_0, pZ_0, io_1, gI_1, pI_1, pZ_1, io_2, gI_2, pI_2, pZ_2, aL_3, io_4, gI_4, pI_4, pZ_4, aL_5, io_6, gI_6, pI_6, pZ_6, aL_7, aL_8, io_9, gI_9, pI_9, pZ_9, aL_10, io_11, gI_11, pI_11, pZ_11, aL_12, io_13, gI_13, pI_13, pZ_13, aL_14, io_15, gI_15, pI_15, pZ_15, aL_16, io_17, gI_17, pI_17, pZ_17, aL_18, aL_19, io_20, gI_20, pI_20, pZ_20, aL_21, io_22, gI_22, pI_22, pZ_22, aL_23, io_24, gI_24, pI_24, pZ_24, aL_25, io_26, gI_26, pI_26, pZ_26, io_27, gI_27, pI_27, pZ_27, aL_28, aL_29, aL_30, aL_31, aL_32, aL_33, io_34, gI_34, pI_34, pZ_34, aL_35, io_36, gI_36, pI_36, pZ_36, aL_37, io_38, gI_38, pI_38, pZ_38, aL_39, io_40, gI_40, pI_40, pZ_40, aL_41, io_42, gI_42, pI_42, pZ_42, aL_43, aL_44, aL_45, aL_46, aL_47, aL_48, aL_49, aL_50, aL_51, aL_52, aL_53, aL_54, aL_55, aL_56, aL_57, aL_58, gq_0_0, gq_0_1, gq_0_2, gq_0_3, gq_0_4, gq_0_5, gq_0_6, gq_0_7, gq_1_0, gq_1_1, gq_1_2, gq_1_3, gq_1_4, gq_1_5, gq_1_6, gq_1_7, gq_1_8, gq_1_9, gq_2_2, gq_4_2, gq_6_2, gq_9_2, gq_11_2, gq_13_2, gq_15_2, gq_17_0, gq_20_0, gq_22_0, gq_24_0, gq_27_0, gq_34_0, gq_36_0, gq_38_0, gq_40_0, gq_42_0, gq_42_1, gq_42_3, gq_42_4, gq_42_11, gq_42_12, gq_42_13, gq_42_15, gq_42_16, gq_42_17, gq_42_18, gq_42_19, gq_42_23, gq_42_24, gq_42_25, gq_42_26, aQ_29_0, aQ_29_1, aQ_29_2, aQ_29_3, aQ_19_0, aQ_19_1, aQ_19_2, aQ_46_0, aQ_46_1, aQ_46_2, gq_26, gr_26, gr_0_8, pQ_26, Option.bind_some, ↓reduceIte, one_ne0, e3, Int32.le_refl]) n 0 a 3000 (by omega) (by omega)
  simp only [nI_0] at this
  exact this
theorem pa31 {n p f : Nat} {a : Int32} {σ : St} (hC : CvC m n) (hp : p < n) (hf : f ≤ 5) (hR : sR m kp b σ) : ∃ σ', f_X8_pairs_L31 (nI p) 42 (nI f) 3000 0 a σ = some (nI n, it (paG m f p) n 0 a, σ') ∧ sR m kp b σ' := by
  have hn := hC.2.2.2.1
  exact loopZ (fun l q a σ => f_X8_pairs_L31 (nI p) 42 (nI f) l (nI q) a σ) (fun a σ => (nI n, a, σ)) (fun _ σ => sR m kp b σ) (paG m f p) n (fun l q a σ hq hR => by
    obtain ⟨M, rfl, hE⟩ := hR
    have h43 : M 43 = m 43 := hE.at 43 (by omega) (by omega)
    have e1 : M 43 1 = nI n := by rw [h43]; exact hC.2.2.2.2.1
    show ∃ σ', f_X8_pairs_L31 (nI p) 42 (nI f) (l + 1) (nI q) a (mkS M kp b) = f_X8_pairs_L31 (nI p) 42 (nI f) l (nI (q + 1)) (paG m f p q a) σ' ∧ _
    rw [f_X8_pairs_L31, gq_42_0, Option.bind_some, rdl_1, e1, Option.bind_some, if_neg (nI_ge hq (by omega)), nI_a1]
    unfold paG
    by_cases hpq : p = q
    · rw [if_pos (show nI p = nI q by rw [hpq]), if_pos hpq, Int32.add_zero]
      exact ⟨_, rfl, M, rfl, hE⟩
    · rw [if_neg (fun y => hpq ((nI_eq (by omega) (by omega)).mp y)), if_neg hpq, bends8 (CvC_S hC hE) hp hq hf, Option.bind_some, bF5_fr h43]
      refine ⟨mkS (bSR M (bF5 m p q f)) kp b, ?_, _, rfl, hE.trans EqS_bSR⟩
      by_cases hb : bNo m p q f = true
      · rw [if_pos hb]
        dsimp only
        rw [if_pos (bNo_t.mp hb), if_pos rfl, Int32.add_zero]
      · rw [if_neg hb]
        dsimp only
        rw [if_neg (fun y => hb (bNo_t.mpr y)), if_neg (show ¬ (1 : Int32) = 0 by decide)]) (fun l a σ hR => by
    obtain ⟨M, rfl, hE⟩ := hR
    have e1 : M 43 1 = nI n := by rw [hE.at 43 (by omega) (by omega)]; exact hC.2.2.2.2.1
    show f_X8_pairs_L31 (nI p) 42 (nI f) (l + 1) (nI n) a (mkS M kp b) = _
    rw [f_X8_pairs_L31, gq_42_0, Option.bind_some, rdl_1, e1, Option.bind_some, if_pos (Int32.le_refl _)]) n 0 3000 a σ (by omega) (by omega) hR
noncomputable def paH (m : Nat → Nat → Int32) (f n : Nat) (p : Nat) (a : Int32) : Int32 := it (paG m f p) n 0 a
theorem op_pairs (w : Int32) : OpR (fun σ => f_X7_pairs σ 0 w) (fun σ => f_X8_pairs σ 42 w) := by
  intro m kp b z hR
  obtain ⟨⟨c, hS⟩, -⟩ := id hR
  have hC := CvC_of hS.2.2.2.1
  have hn := hC.2.2.2.1
  have e3 : m 6 3 = nI (c 1) := hC.2.2.1
  by_cases hw : 1 ≤ w ∧ w ≤ 5
  · obtain ⟨f, hf1, hf, rfl⟩ := ex_rng (lo := 1) (hi := 5) (by decide) hw (by decide)
    have h7 : f_X7_pairs_L18 (mkS m kp b) 0 (nI f) 3000 0 0 = some (nI (c 1), it (paH m f (c 1)) (c 1) 0 0) := by
      have := loopU (fun l p a => f_X7_pairs_L18 (mkS m kp b) 0 (nI f) l (nI p) a) (fun a => (nI (c 1), a)) (paH m f (c 1)) (c 1) (fun l p a hp => by
        show f_X7_pairs_L18 (mkS m kp b) 0 (nI f) (l + 1) (nI p) a = _
        rw [f_X7_pairs_L18]
        simp only [io_0, gI_0, pI_0, pZ_0, io_1, gI_1, pI_1, pZ_1, io_2, gI_2, pI_2, pZ_2, aL_3, io_4, gI_4, pI_4, pZ_4, aL_5, io_6, gI_6, pI_6, pZ_6, aL_7, aL_8, io_9, gI_9, pI_9, pZ_9, aL_10, io_11, gI_11, pI_11, pZ_11, aL_12, io_13, gI_13, pI_13, pZ_13, aL_14, io_15, gI_15, pI_15, pZ_15, aL_16, io_17, gI_17, pI_17, pZ_17, aL_18, aL_19, io_20, gI_20, pI_20, pZ_20, aL_21, io_22, gI_22, pI_22, pZ_22, aL_23, io_24, gI_24, pI_24, pZ_24, aL_25, io_26, gI_26, pI_26, pZ_26, io_27, gI_27, pI_27, pZ_27, aL_28, aL_29, aL_30, aL_31, aL_32, aL_33, io_34, gI_34, pI_34, pZ_34, aL_35, io_36, gI_36, pI_36, pZ_36, aL_37, io_38, gI_38, pI_38, pZ_38, aL_39, io_40, gI_40, pI_40, pZ_40, aL_41, io_42, gI_42, pI_42, pZ_42, aL_43, aL_44, aL_45, aL_46, aL_47, aL_48, aL_49, aL_50, aL_51, aL_52, aL_53, aL_54, aL_55, aL_56, aL_57, aL_58, gq_0_0, gq_0_1, gq_0_2, gq_0_3, gq_0_4, gq_0_5, gq_0_6, gq_0_7, gq_1_0, gq_1_1, gq_1_2, gq_1_3, gq_1_4, gq_1_5, gq_1_6, gq_1_7, gq_1_8, gq_1_9, gq_2_2, gq_4_2, gq_6_2, gq_9_2, gq_11_2, gq_13_2, gq_15_2, gq_17_0, gq_20_0, gq_22_0, gq_24_0, gq_27_0, gq_34_0, gq_36_0, gq_38_0, gq_40_0, gq_42_0, gq_42_1, gq_42_3, gq_42_4, gq_42_11, gq_42_12, gq_42_13, gq_42_15, gq_42_16, gq_42_17, gq_42_18, gq_42_19, gq_42_23, gq_42_24, gq_42_25, gq_42_26, aQ_29_0, aQ_29_1, aQ_29_2, aQ_29_3, aQ_19_0, aQ_19_1, aQ_19_2, aQ_46_0, aQ_46_1, aQ_46_2, gq_26, gr_26, gr_0_8, pQ_26, Option.bind_some, ↓reduceIte, one_ne0, e3, nle hp (show c 1 < 2 ^ 31 by omega), nI_a1]
        rw [pa35 hC hp hf, Option.bind_some]
        rfl) (fun l a => by
        show f_X7_pairs_L18 (mkS m kp b) 0 (nI f) (l + 1) (nI (c 1)) a = _
        rw [f_X7_pairs_L18]
        simp only [io_0, gI_0, pI_0, pZ_0, io_1, gI_1, pI_1, pZ_1, io_2, gI_2, pI_2, pZ_2, aL_3, io_4, gI_4, pI_4, pZ_4, aL_5, io_6, gI_6, pI_6, pZ_6, aL_7, aL_8, io_9, gI_9, pI_9, pZ_9, aL_10, io_11, gI_11, pI_11, pZ_11, aL_12, io_13, gI_13, pI_13, pZ_13, aL_14, io_15, gI_15, pI_15, pZ_15, aL_16, io_17, gI_17, pI_17, pZ_17, aL_18, aL_19, io_20, gI_20, pI_20, pZ_20, aL_21, io_22, gI_22, pI_22, pZ_22, aL_23, io_24, gI_24, pI_24, pZ_24, aL_25, io_26, gI_26, pI_26, pZ_26, io_27, gI_27, pI_27, pZ_27, aL_28, aL_29, aL_30, aL_31, aL_32, aL_33, io_34, gI_34, pI_34, pZ_34, aL_35, io_36, gI_36, pI_36, pZ_36, aL_37, io_38, gI_38, pI_38, pZ_38, aL_39, io_40, gI_40, pI_40, pZ_40, aL_41, io_42, gI_42, pI_42, pZ_42, aL_43, aL_44, aL_45, aL_46, aL_47, aL_48, aL_49, aL_50, aL_51, aL_52, aL_53, aL_54, aL_55, aL_56, aL_57, aL_58, gq_0_0, gq_0_1, gq_0_2, gq_0_3, gq_0_4, gq_0_5, gq_0_6, gq_0_7, gq_1_0, gq_1_1, gq_1_2, gq_1_3, gq_1_4, gq_1_5, gq_1_6, gq_1_7, gq_1_8, gq_1_9, gq_2_2, gq_4_2, gq_6_2, gq_9_2, gq_11_2, gq_13_2, gq_15_2, gq_17_0, gq_20_0, gq_22_0, gq_24_0, gq_27_0, gq_34_0, gq_36_0, gq_38_0, gq_40_0, gq_42_0, gq_42_1, gq_42_3, gq_42_4, gq_42_11, gq_42_12, gq_42_13, gq_42_15, gq_42_16, gq_42_17, gq_42_18, gq_42_19, gq_42_23, gq_42_24, gq_42_25, gq_42_26, aQ_29_0, aQ_29_1, aQ_29_2, aQ_29_3, aQ_19_0, aQ_19_1, aQ_19_2, aQ_46_0, aQ_46_1, aQ_46_2, gq_26, gr_26, gr_0_8, pQ_26, Option.bind_some, ↓reduceIte, one_ne0, e3, Int32.le_refl]) (c 1) 0 0 3000 (by omega) (by omega)
      simp only [nI_0] at this
      exact this
    obtain ⟨σ', e8, M, rfl, hE⟩ := loopZ (fun l p a σ => f_X8_pairs_L18 42 (nI f) l (nI p) a σ) (fun a σ => (nI (c 1), a, σ)) (fun _ σ => sR m kp b σ) (paH m f (c 1)) (c 1) (fun l p a σ hp hR => by
      obtain ⟨σ', e, hR'⟩ := pa31 (a := a) hC hp hf hR
      obtain ⟨M, rfl, hE⟩ := hR
      have e1 : M 43 1 = nI (c 1) := by rw [hE.at 43 (by omega) (by omega)]; exact hC.2.2.2.2.1
      refine ⟨σ', ?_, hR'⟩
      show f_X8_pairs_L18 42 (nI f) (l + 1) (nI p) a (mkS M kp b) = f_X8_pairs_L18 42 (nI f) l (nI (p + 1)) (paH m f (c 1) p a) σ'
      rw [f_X8_pairs_L18, gq_42_0, Option.bind_some, rdl_1, e1, Option.bind_some, if_neg (nI_ge hp (by omega)), nI_a1, e]
      rfl) (fun l a σ hR => by
      obtain ⟨M, rfl, hE⟩ := hR
      have e1 : M 43 1 = nI (c 1) := by rw [hE.at 43 (by omega) (by omega)]; exact hC.2.2.2.2.1
      show f_X8_pairs_L18 42 (nI f) (l + 1) (nI (c 1)) a (mkS M kp b) = _
      rw [f_X8_pairs_L18, gq_42_0, Option.bind_some, rdl_1, e1, Option.bind_some, if_pos (Int32.le_refl _)]) (c 1) 0 3000 0 (mkS m kp b) (by omega) (by omega) ⟨m, rfl, EqS.rfl'⟩
    have e8' : f_X8_pairs_L18 42 (nI f) 3000 0 0 (mkS m kp b) = _ := e8
    refine ⟨it (paH m f (c 1)) (c 1) 0 0, m, kp, b, M, ?_, ?_, (RR_scr hR hE).up⟩
    · show f_X7_pairs (mkS m kp b) 0 (nI f) = _
      unfold f_X7_pairs
      rw [if_pos io_0, isFactor7_eq, if_pos hw, Option.bind_some, if_neg (show ¬ (1 : Int32) = 0 by decide), h7]
      rfl
    · show f_X8_pairs (mkS m kp b) 42 (nI f) = _
      unfold f_X8_pairs
      rw [if_pos io_42, isFactor8_eq (t := 0), if_pos hw, Option.bind_some, if_neg (show ¬ (1 : Int32) = 0 by decide), e8']
      rfl
  · refine op_err1 (k := 1) (e := -1000001) (by decide) hR ?_ ?_
    · show f_X7_pairs (mkS m kp b) 0 w = _
      unfold f_X7_pairs
      simp only [io_0, gI_0, pI_0, pZ_0, io_1, gI_1, pI_1, pZ_1, io_2, gI_2, pI_2, pZ_2, aL_3, io_4, gI_4, pI_4, pZ_4, aL_5, io_6, gI_6, pI_6, pZ_6, aL_7, aL_8, io_9, gI_9, pI_9, pZ_9, aL_10, io_11, gI_11, pI_11, pZ_11, aL_12, io_13, gI_13, pI_13, pZ_13, aL_14, io_15, gI_15, pI_15, pZ_15, aL_16, io_17, gI_17, pI_17, pZ_17, aL_18, aL_19, io_20, gI_20, pI_20, pZ_20, aL_21, io_22, gI_22, pI_22, pZ_22, aL_23, io_24, gI_24, pI_24, pZ_24, aL_25, io_26, gI_26, pI_26, pZ_26, io_27, gI_27, pI_27, pZ_27, aL_28, aL_29, aL_30, aL_31, aL_32, aL_33, io_34, gI_34, pI_34, pZ_34, aL_35, io_36, gI_36, pI_36, pZ_36, aL_37, io_38, gI_38, pI_38, pZ_38, aL_39, io_40, gI_40, pI_40, pZ_40, aL_41, io_42, gI_42, pI_42, pZ_42, aL_43, aL_44, aL_45, aL_46, aL_47, aL_48, aL_49, aL_50, aL_51, aL_52, aL_53, aL_54, aL_55, aL_56, aL_57, aL_58, gq_0_0, gq_0_1, gq_0_2, gq_0_3, gq_0_4, gq_0_5, gq_0_6, gq_0_7, gq_1_0, gq_1_1, gq_1_2, gq_1_3, gq_1_4, gq_1_5, gq_1_6, gq_1_7, gq_1_8, gq_1_9, gq_2_2, gq_4_2, gq_6_2, gq_9_2, gq_11_2, gq_13_2, gq_15_2, gq_17_0, gq_20_0, gq_22_0, gq_24_0, gq_27_0, gq_34_0, gq_36_0, gq_38_0, gq_40_0, gq_42_0, gq_42_1, gq_42_3, gq_42_4, gq_42_11, gq_42_12, gq_42_13, gq_42_15, gq_42_16, gq_42_17, gq_42_18, gq_42_19, gq_42_23, gq_42_24, gq_42_25, gq_42_26, aQ_29_0, aQ_29_1, aQ_29_2, aQ_29_3, aQ_19_0, aQ_19_1, aQ_19_2, aQ_46_0, aQ_46_1, aQ_46_2, gq_26, gr_26, gr_0_8, pQ_26, Option.bind_some, ↓reduceIte, one_ne0, isFactor7_eq, if_neg hw, fails_1]
      try simp
    · show f_X8_pairs (mkS _ kp b) 42 w = _
      unfold f_X8_pairs
      simp only [io_0, gI_0, pI_0, pZ_0, io_1, gI_1, pI_1, pZ_1, io_2, gI_2, pI_2, pZ_2, aL_3, io_4, gI_4, pI_4, pZ_4, aL_5, io_6, gI_6, pI_6, pZ_6, aL_7, aL_8, io_9, gI_9, pI_9, pZ_9, aL_10, io_11, gI_11, pI_11, pZ_11, aL_12, io_13, gI_13, pI_13, pZ_13, aL_14, io_15, gI_15, pI_15, pZ_15, aL_16, io_17, gI_17, pI_17, pZ_17, aL_18, aL_19, io_20, gI_20, pI_20, pZ_20, aL_21, io_22, gI_22, pI_22, pZ_22, aL_23, io_24, gI_24, pI_24, pZ_24, aL_25, io_26, gI_26, pI_26, pZ_26, io_27, gI_27, pI_27, pZ_27, aL_28, aL_29, aL_30, aL_31, aL_32, aL_33, io_34, gI_34, pI_34, pZ_34, aL_35, io_36, gI_36, pI_36, pZ_36, aL_37, io_38, gI_38, pI_38, pZ_38, aL_39, io_40, gI_40, pI_40, pZ_40, aL_41, io_42, gI_42, pI_42, pZ_42, aL_43, aL_44, aL_45, aL_46, aL_47, aL_48, aL_49, aL_50, aL_51, aL_52, aL_53, aL_54, aL_55, aL_56, aL_57, aL_58, gq_0_0, gq_0_1, gq_0_2, gq_0_3, gq_0_4, gq_0_5, gq_0_6, gq_0_7, gq_1_0, gq_1_1, gq_1_2, gq_1_3, gq_1_4, gq_1_5, gq_1_6, gq_1_7, gq_1_8, gq_1_9, gq_2_2, gq_4_2, gq_6_2, gq_9_2, gq_11_2, gq_13_2, gq_15_2, gq_17_0, gq_20_0, gq_22_0, gq_24_0, gq_27_0, gq_34_0, gq_36_0, gq_38_0, gq_40_0, gq_42_0, gq_42_1, gq_42_3, gq_42_4, gq_42_11, gq_42_12, gq_42_13, gq_42_15, gq_42_16, gq_42_17, gq_42_18, gq_42_19, gq_42_23, gq_42_24, gq_42_25, gq_42_26, aQ_29_0, aQ_29_1, aQ_29_2, aQ_29_3, aQ_19_0, aQ_19_1, aQ_19_2, aQ_46_0, aQ_46_1, aQ_46_2, gq_26, gr_26, gr_0_8, pQ_26, Option.bind_some, ↓reduceIte, one_ne0, isFactor8_eq (t := 0), if_neg hw, finds_1]
      try simp
/-! of what a curve could come -/
noncomputable def cuB (m : Nat → Nat → Int32) (f q a : Nat) : Bool := (decide (dyv m a < dyv m q) || (decide (dyv m a = dyv m q) && decide (a < q))) && (!decide (nmv m a &&& nmv m q = 0) && !bNo m a q f)
noncomputable def orG (m : Nat → Nat → Int32) (f q : Nat) (a s : Nat) : Nat := if cuB m f q a = true then s ||| 2 ^ a else s
noncomputable def orN (m : Nat → Nat → Int32) (f n q : Nat) : Nat := it (orG m f q) n 0 0
theorem orN_lt {f n q : Nat} : orN m f n q < 2 ^ n := by
  have := it_inv (g := orG m f q) (fun i s => s < 2 ^ i) n 0 0 (by decide) (fun j s _ h2 h3 => by
    unfold orG
    have p1 : 2 ^ j < 2 ^ (j + 1) := Nat.pow_lt_pow_right (by decide) (by omega)
    by_cases hc : cuB m f q j = true
    · rw [if_pos hc]; exact Nat.or_lt_two_pow (by omega) p1
    · rw [if_neg hc]; omega)
  rw [Nat.zero_add] at this
  exact this
theorem orG_fr {M : Nat → Nat → Int32} (h : M 43 = m 43) : orG M = orG m := by
  funext f q a s; unfold orG cuB; rw [dyv_fr h, nmv_fr h, bNo_fr h]
theorem orN_fr {M : Nat → Nat → Int32} (h : M 43 = m 43) : orN M = orN m := by
  funext f n q; unfold orN; rw [orG_fr h]
theorem ori7 {q f : Nat} (h : RS m 1 43 c) (hq : q < c 1) (hf : f ≤ 5) : f_X0_origins (mkS m kp b) 1 (nI q) (nI f) = some (nI (orN m f (c 1) q)) := by
  have hC := CvC_of h.2.2.2.1
  have hn := hC.2.2.2.1
  have e3 : m 6 3 = nI (c 1) := hC.2.2.1
  unfold f_X0_origins orN
  have := loopU (fun l a (s : Nat) => f_X0_origins_L5 (mkS m kp b) 1 (nI q) (nI f) l (nI a) (nI s)) (fun s => (nI (c 1), nI s)) (orG m f q) (c 1) (fun l a s ha => by
    show f_X0_origins_L5 (mkS m kp b) 1 (nI q) (nI f) (l + 1) (nI a) (nI s) = f_X0_origins_L5 (mkS m kp b) 1 (nI q) (nI f) l (nI (a + 1)) (nI (orG m f q a s))
    rw [f_X0_origins_L5, gq_1_2, Option.bind_some, gI_6, Option.bind_some, e3, if_neg (nI_ge ha (by omega)), day7 h ha, Option.bind_some, day7 h hq, Option.bind_some, nI_a1]
    unfold orG cuB
    have bl : ((f_X4_namesOf (mkS m kp b) 1 (nI a)).bind fun v12 => (f_X4_namesOf (mkS m kp b) 1 (nI q)).bind fun v14 => if (v12 &&& v14) = 0 then (f_X0_origins_L5 (mkS m kp b) 1 (nI q) (nI f) l (nI (a + 1)) (nI s)) else ((f_X0_first (mkS m kp b) 1 (nI a) (nI q) (nI f)).bind fun v17 => f_X0_origins_L5 (mkS m kp b) 1 (nI q) (nI f) l (nI (a + 1)) (if v17 < 0 then nI s else (nI s ||| ((1 : Int32) <<< (nI a &&& 31))) : Int32))) = f_X0_origins_L5 (mkS m kp b) 1 (nI q) (nI f) l (nI (a + 1)) (nI (if (!decide (nmv m a &&& nmv m q = 0) && !bNo m a q f) = true then s ||| 2 ^ a else s)) := by
      rw [nam7 h ha, Option.bind_some, nam7 h hq, Option.bind_some, fst7 hC ha hq hf, Option.bind_some, shl1 a (by omega), nI_or]
      by_cases q1 : nmv m a &&& nmv m q = 0
      · rw [if_pos q1]; simp [q1]
      · rw [if_neg q1]
        by_cases hb : bNo m a q f = true
        · rw [if_pos ((cdR_neg hC ha hf).mpr (bNo_t.mp hb))]; simp [hb]
        · rw [if_neg (fun y => hb (bNo_t.mpr ((cdR_neg hC ha hf).mp y)))]; simp [q1, hb]
    by_cases q1 : dyv m a < dyv m q
    · rw [if_pos q1, bl]; simp [q1]
    · rw [if_neg q1, Option.bind_some, Option.bind_some]
      by_cases q2 : dyv m a = dyv m q
      · by_cases q3 : a < q
        · rw [if_pos q2, if_neg (nI_ge q3 (by omega)), if_neg (show ¬ (1 : Int32) = 0 by decide), bl]; simp [q1, q2, q3]
        · rw [if_pos q2, if_pos (nI_le (by omega) (by omega)), if_pos rfl]; simp [q1, q3]
      · rw [if_neg q2, if_pos rfl]; simp [q1, q2]) (fun l s => by
    show f_X0_origins_L5 (mkS m kp b) 1 (nI q) (nI f) (l + 1) (nI (c 1)) (nI s) = _
    rw [f_X0_origins_L5, gq_1_2, Option.bind_some, gI_6, Option.bind_some, e3, if_pos (Int32.le_refl _)]) (c 1) 0 0 3000 (by omega) (by omega)
  simp only [nI_0] at this
  rw [this]
  rfl
theorem cou8 {q f : Nat} {σ : St} (h : RS m 1 43 c) (hq : q < c 1) (hf : f ≤ 5) (hR : sR m kp b σ) : ∃ M, f_X8_couldOf σ 42 (nI q) (nI f) = some (nI (orN m f (c 1) q), mkS M kp b) ∧ ∃ M0, σ = mkS M0 kp b ∧ EqS M0 M ∧ EqS m M ∧ M 51 = M0 51 := by
  obtain ⟨M0, rfl, hE0⟩ := hR
  have hC := CvC_of h.2.2.2.1
  have hn := hC.2.2.2.1
  unfold f_X8_couldOf
  rw [if_pos io_42]
  obtain ⟨σ', e, M, rfl, hE, hM, h51⟩ := loopZ (fun l a (s : Nat) σ => f_X8_couldOf_L5 42 (nI q) (nI f) l (nI a) (nI s) σ) (fun s σ => (nI (c 1), nI s, σ)) (fun _ σ => ∃ M, σ = mkS M kp b ∧ EqS M0 M ∧ EqS m M ∧ M 51 = M0 51) (orG m f q) (c 1) (fun l a s σ ha hR => by
    obtain ⟨M, rfl, hE, hM, h51⟩ := hR
    have h43 : M 43 = m 43 := hM.at 43 (by omega) (by omega)
    have hS := RS_S h hM
    have e1 : M 43 1 = nI (c 1) := by rw [h43]; exact hC.2.2.2.2.1
    have b51 : ∀ o, bSR M o 51 = M 51 := fun o => by
      cases o with
      | none => show bS0 M 51 = _; unfold bS0; exact st1_ne (by decide)
      | some t => show bS1 M t 51 = _; unfold bS1 bS0; rw [st1_ne (by decide), st1_ne (by decide), st1_ne (by decide), st1_ne (by decide), st1_ne (by decide), st1_ne (by decide), st1_ne (by decide)]
    show ∃ σ', f_X8_couldOf_L5 42 (nI q) (nI f) (l + 1) (nI a) (nI s) (mkS M kp b) = f_X8_couldOf_L5 42 (nI q) (nI f) l (nI (a + 1)) (nI (orG m f q a s)) σ' ∧ _
    rw [f_X8_couldOf_L5, gq_42_0, Option.bind_some, rdl_1, e1, Option.bind_some, if_neg (nI_ge ha (by omega)), day8 hS ha, Option.bind_some, day8 hS hq, Option.bind_some, nI_a1, dyv_fr h43, Int32.or_zero]
    have bl : ∃ σ', ((f_X8_namesOf (mkS M kp b) 42 (nI a)).bind fun v12 => (f_X8_namesOf (mkS M kp b) 42 (nI q)).bind fun v14 => if (v12 &&& v14) = 0 then (f_X8_couldOf_L5 42 (nI q) (nI f) l (nI (a + 1)) (nI s) (mkS M kp b)) else ((f_X8_bends (mkS M kp b) 42 (nI a) (nI q) (nI f)).bind fun p17 => f_X8_couldOf_L5 42 (nI q) (nI f) l (nI (a + 1)) (nI s ||| (if p17.1 = 0 then 0 else (1 : Int32) <<< (nI a &&& 31) : Int32)) p17.2)) = f_X8_couldOf_L5 42 (nI q) (nI f) l (nI (a + 1)) (nI (if (!decide (nmv m a &&& nmv m q = 0) && !bNo m a q f) = true then s ||| 2 ^ a else s)) σ' ∧ ∃ M, σ' = mkS M kp b ∧ EqS M0 M ∧ EqS m M ∧ M 51 = M0 51 := by
      rw [nam8 hS ha, Option.bind_some, nam8 hS hq, Option.bind_some, nmv_fr h43]
      by_cases q1 : nmv m a &&& nmv m q = 0
      · rw [if_pos q1]
        refine ⟨mkS M kp b, ?_, M, rfl, hE, hM, h51⟩
        simp [q1]
      · rw [if_neg q1, bends8 (CvC_S hC hM) ha hq hf, Option.bind_some, bF5_fr h43]
        refine ⟨mkS (bSR M (bF5 m a q f)) kp b, ?_, _, rfl, hE.trans EqS_bSR, hM.trans EqS_bSR, (b51 _).trans h51⟩
        dsimp only
        rw [shl1 a (by omega)]
        by_cases hb : bNo m a q f = true
        · rw [if_pos (bNo_t.mp hb), if_pos rfl, Int32.or_zero]; simp [hb]
        · rw [if_neg (fun y => hb (bNo_t.mpr y)), if_neg (show ¬ (1 : Int32) = 0 by decide), nI_or]; simp [q1, hb]
    obtain ⟨σ', bl, hR'⟩ := bl
    unfold orG cuB
    by_cases q1 : dyv m a < dyv m q
    · refine ⟨σ', ?_, hR'⟩
      rw [if_pos q1, bl]; simp [q1]
    · rw [if_neg q1, Option.bind_some, Option.bind_some]
      by_cases q2 : dyv m a = dyv m q
      · by_cases q3 : a < q
        · refine ⟨σ', ?_, hR'⟩
          rw [if_pos q2, if_neg (nI_ge q3 (by omega)), if_neg (show ¬ (1 : Int32) = 0 by decide), bl]; simp [q1, q2, q3]
        · refine ⟨mkS M kp b, ?_, M, rfl, hE, hM, h51⟩
          rw [if_pos q2, if_pos (nI_le (by omega) (by omega)), if_pos rfl]; simp [q1, q3]
      · refine ⟨mkS M kp b, ?_, M, rfl, hE, hM, h51⟩
        rw [if_neg q2, if_pos rfl]; simp [q1, q2]) (fun l s σ hR => by
    obtain ⟨M, rfl, hE, hM, h51⟩ := hR
    have e1 : M 43 1 = nI (c 1) := by rw [hM.at 43 (by omega) (by omega)]; exact hC.2.2.2.2.1
    show f_X8_couldOf_L5 42 (nI q) (nI f) (l + 1) (nI (c 1)) (nI s) (mkS M kp b) = _
    rw [f_X8_couldOf_L5, gq_42_0, Option.bind_some, rdl_1, e1, Option.bind_some, if_pos (Int32.le_refl _)]) (c 1) 0 3000 0 (mkS M0 kp b) (by omega) (by omega) ⟨M0, rfl, EqS.rfl', hE0, rfl⟩
  have e' : f_X8_couldOf_L5 42 (nI q) (nI f) 3000 0 0 (mkS M0 kp b) = _ := e
  refine ⟨M, ?_, M0, rfl, hE, hM, h51⟩
  rw [e']
  rfl
theorem op_could (a w : Int32) : OpR (fun σ => f_X7_could σ 0 a w) (fun σ => f_X8_could σ 42 a w) := by
  intro m kp b z hR
  obtain ⟨⟨c, hS⟩, -⟩ := id hR
  obtain ⟨w1, w2, w3, w4, w5, w6, w6b, w7⟩ := id hS.2.2.2.1
  by_cases ha : 0 ≤ a ∧ a < nI (c 1)
  · by_cases hw : 1 ≤ w ∧ w ≤ 5
    · obtain ⟨p, hp, rfl⟩ := ex_nI (n := c 1) (by omega) ha
      obtain ⟨f, hf1, hf, rfl⟩ := ex_rng (lo := 1) (hi := 5) (by decide) hw (by decide)
      obtain ⟨M, e8, -, -, -, hE, -⟩ := cou8 (kp := kp) (b := b) hS hp hf ⟨m, rfl, EqS.rfl'⟩
      refine ⟨nI (orN m f (c 1) p), m, kp, b, M, ?_, ?_, (RR_scr hR hE).up⟩
      · show f_X7_could (mkS m kp b) 0 (nI p) (nI f) = _
        unfold f_X7_could
        rw [if_pos io_0, gq_0_0, Option.bind_some, gq_1_2, Option.bind_some, has_6 w3, if_pos ha, Option.bind_some, if_neg (show ¬ (1 : Int32) = 0 by decide), isFactor7_eq, if_pos hw, Option.bind_some, if_neg (show ¬ (1 : Int32) = 0 by decide), Option.bind_some, ori7 hS hp hf]
        rfl
      · show f_X8_could (mkS m kp b) 42 (nI p) (nI f) = _
        unfold f_X8_could
        rw [if_pos io_42, is_1 w4 (by omega), if_pos ha, Option.bind_some, if_neg (show ¬ (1 : Int32) = 0 by decide), isFactor8_eq (t := 0), if_pos hw, Option.bind_some, if_neg (show ¬ (1 : Int32) = 0 by decide), e8]
        rfl
    · refine op_err1 (k := 1) (e := -1000001) (by decide) hR ?_ ?_
      · show f_X7_could (mkS m kp b) 0 a w = _
        unfold f_X7_could
        simp only [io_0, gI_0, pI_0, pZ_0, io_1, gI_1, pI_1, pZ_1, io_2, gI_2, pI_2, pZ_2, aL_3, io_4, gI_4, pI_4, pZ_4, aL_5, io_6, gI_6, pI_6, pZ_6, aL_7, aL_8, io_9, gI_9, pI_9, pZ_9, aL_10, io_11, gI_11, pI_11, pZ_11, aL_12, io_13, gI_13, pI_13, pZ_13, aL_14, io_15, gI_15, pI_15, pZ_15, aL_16, io_17, gI_17, pI_17, pZ_17, aL_18, aL_19, io_20, gI_20, pI_20, pZ_20, aL_21, io_22, gI_22, pI_22, pZ_22, aL_23, io_24, gI_24, pI_24, pZ_24, aL_25, io_26, gI_26, pI_26, pZ_26, io_27, gI_27, pI_27, pZ_27, aL_28, aL_29, aL_30, aL_31, aL_32, aL_33, io_34, gI_34, pI_34, pZ_34, aL_35, io_36, gI_36, pI_36, pZ_36, aL_37, io_38, gI_38, pI_38, pZ_38, aL_39, io_40, gI_40, pI_40, pZ_40, aL_41, io_42, gI_42, pI_42, pZ_42, aL_43, aL_44, aL_45, aL_46, aL_47, aL_48, aL_49, aL_50, aL_51, aL_52, aL_53, aL_54, aL_55, aL_56, aL_57, aL_58, gq_0_0, gq_0_1, gq_0_2, gq_0_3, gq_0_4, gq_0_5, gq_0_6, gq_0_7, gq_1_0, gq_1_1, gq_1_2, gq_1_3, gq_1_4, gq_1_5, gq_1_6, gq_1_7, gq_1_8, gq_1_9, gq_2_2, gq_4_2, gq_6_2, gq_9_2, gq_11_2, gq_13_2, gq_15_2, gq_17_0, gq_20_0, gq_22_0, gq_24_0, gq_27_0, gq_34_0, gq_36_0, gq_38_0, gq_40_0, gq_42_0, gq_42_1, gq_42_3, gq_42_4, gq_42_11, gq_42_12, gq_42_13, gq_42_15, gq_42_16, gq_42_17, gq_42_18, gq_42_19, gq_42_23, gq_42_24, gq_42_25, gq_42_26, aQ_29_0, aQ_29_1, aQ_29_2, aQ_29_3, aQ_19_0, aQ_19_1, aQ_19_2, aQ_46_0, aQ_46_1, aQ_46_2, gq_26, gr_26, gr_0_8, pQ_26, Option.bind_some, ↓reduceIte, one_ne0, has_6 w3, if_pos ha, isFactor7_eq, if_neg hw, fails_1]
        try simp
      · show f_X8_could (mkS _ kp b) 42 a w = _
        unfold f_X8_could
        simp only [io_0, gI_0, pI_0, pZ_0, io_1, gI_1, pI_1, pZ_1, io_2, gI_2, pI_2, pZ_2, aL_3, io_4, gI_4, pI_4, pZ_4, aL_5, io_6, gI_6, pI_6, pZ_6, aL_7, aL_8, io_9, gI_9, pI_9, pZ_9, aL_10, io_11, gI_11, pI_11, pZ_11, aL_12, io_13, gI_13, pI_13, pZ_13, aL_14, io_15, gI_15, pI_15, pZ_15, aL_16, io_17, gI_17, pI_17, pZ_17, aL_18, aL_19, io_20, gI_20, pI_20, pZ_20, aL_21, io_22, gI_22, pI_22, pZ_22, aL_23, io_24, gI_24, pI_24, pZ_24, aL_25, io_26, gI_26, pI_26, pZ_26, io_27, gI_27, pI_27, pZ_27, aL_28, aL_29, aL_30, aL_31, aL_32, aL_33, io_34, gI_34, pI_34, pZ_34, aL_35, io_36, gI_36, pI_36, pZ_36, aL_37, io_38, gI_38, pI_38, pZ_38, aL_39, io_40, gI_40, pI_40, pZ_40, aL_41, io_42, gI_42, pI_42, pZ_42, aL_43, aL_44, aL_45, aL_46, aL_47, aL_48, aL_49, aL_50, aL_51, aL_52, aL_53, aL_54, aL_55, aL_56, aL_57, aL_58, gq_0_0, gq_0_1, gq_0_2, gq_0_3, gq_0_4, gq_0_5, gq_0_6, gq_0_7, gq_1_0, gq_1_1, gq_1_2, gq_1_3, gq_1_4, gq_1_5, gq_1_6, gq_1_7, gq_1_8, gq_1_9, gq_2_2, gq_4_2, gq_6_2, gq_9_2, gq_11_2, gq_13_2, gq_15_2, gq_17_0, gq_20_0, gq_22_0, gq_24_0, gq_27_0, gq_34_0, gq_36_0, gq_38_0, gq_40_0, gq_42_0, gq_42_1, gq_42_3, gq_42_4, gq_42_11, gq_42_12, gq_42_13, gq_42_15, gq_42_16, gq_42_17, gq_42_18, gq_42_19, gq_42_23, gq_42_24, gq_42_25, gq_42_26, aQ_29_0, aQ_29_1, aQ_29_2, aQ_29_3, aQ_19_0, aQ_19_1, aQ_19_2, aQ_46_0, aQ_46_1, aQ_46_2, gq_26, gr_26, gr_0_8, pQ_26, Option.bind_some, ↓reduceIte, one_ne0, is_1 (e43 w4) (show c 1 ≤ 1000 by omega), if_pos ha, isFactor8_eq (t := 0), if_neg hw, finds_1]
        try simp
  · refine op_err1 (k := 1) (e := -1000001) (by decide) hR ?_ ?_
    · show f_X7_could (mkS m kp b) 0 a w = _
      unfold f_X7_could
      simp only [io_0, gI_0, pI_0, pZ_0, io_1, gI_1, pI_1, pZ_1, io_2, gI_2, pI_2, pZ_2, aL_3, io_4, gI_4, pI_4, pZ_4, aL_5, io_6, gI_6, pI_6, pZ_6, aL_7, aL_8, io_9, gI_9, pI_9, pZ_9, aL_10, io_11, gI_11, pI_11, pZ_11, aL_12, io_13, gI_13, pI_13, pZ_13, aL_14, io_15, gI_15, pI_15, pZ_15, aL_16, io_17, gI_17, pI_17, pZ_17, aL_18, aL_19, io_20, gI_20, pI_20, pZ_20, aL_21, io_22, gI_22, pI_22, pZ_22, aL_23, io_24, gI_24, pI_24, pZ_24, aL_25, io_26, gI_26, pI_26, pZ_26, io_27, gI_27, pI_27, pZ_27, aL_28, aL_29, aL_30, aL_31, aL_32, aL_33, io_34, gI_34, pI_34, pZ_34, aL_35, io_36, gI_36, pI_36, pZ_36, aL_37, io_38, gI_38, pI_38, pZ_38, aL_39, io_40, gI_40, pI_40, pZ_40, aL_41, io_42, gI_42, pI_42, pZ_42, aL_43, aL_44, aL_45, aL_46, aL_47, aL_48, aL_49, aL_50, aL_51, aL_52, aL_53, aL_54, aL_55, aL_56, aL_57, aL_58, gq_0_0, gq_0_1, gq_0_2, gq_0_3, gq_0_4, gq_0_5, gq_0_6, gq_0_7, gq_1_0, gq_1_1, gq_1_2, gq_1_3, gq_1_4, gq_1_5, gq_1_6, gq_1_7, gq_1_8, gq_1_9, gq_2_2, gq_4_2, gq_6_2, gq_9_2, gq_11_2, gq_13_2, gq_15_2, gq_17_0, gq_20_0, gq_22_0, gq_24_0, gq_27_0, gq_34_0, gq_36_0, gq_38_0, gq_40_0, gq_42_0, gq_42_1, gq_42_3, gq_42_4, gq_42_11, gq_42_12, gq_42_13, gq_42_15, gq_42_16, gq_42_17, gq_42_18, gq_42_19, gq_42_23, gq_42_24, gq_42_25, gq_42_26, aQ_29_0, aQ_29_1, aQ_29_2, aQ_29_3, aQ_19_0, aQ_19_1, aQ_19_2, aQ_46_0, aQ_46_1, aQ_46_2, gq_26, gr_26, gr_0_8, pQ_26, Option.bind_some, ↓reduceIte, one_ne0, has_6 w3, if_neg ha, fails_1]
      try simp
    · show f_X8_could (mkS _ kp b) 42 a w = _
      unfold f_X8_could
      simp only [io_0, gI_0, pI_0, pZ_0, io_1, gI_1, pI_1, pZ_1, io_2, gI_2, pI_2, pZ_2, aL_3, io_4, gI_4, pI_4, pZ_4, aL_5, io_6, gI_6, pI_6, pZ_6, aL_7, aL_8, io_9, gI_9, pI_9, pZ_9, aL_10, io_11, gI_11, pI_11, pZ_11, aL_12, io_13, gI_13, pI_13, pZ_13, aL_14, io_15, gI_15, pI_15, pZ_15, aL_16, io_17, gI_17, pI_17, pZ_17, aL_18, aL_19, io_20, gI_20, pI_20, pZ_20, aL_21, io_22, gI_22, pI_22, pZ_22, aL_23, io_24, gI_24, pI_24, pZ_24, aL_25, io_26, gI_26, pI_26, pZ_26, io_27, gI_27, pI_27, pZ_27, aL_28, aL_29, aL_30, aL_31, aL_32, aL_33, io_34, gI_34, pI_34, pZ_34, aL_35, io_36, gI_36, pI_36, pZ_36, aL_37, io_38, gI_38, pI_38, pZ_38, aL_39, io_40, gI_40, pI_40, pZ_40, aL_41, io_42, gI_42, pI_42, pZ_42, aL_43, aL_44, aL_45, aL_46, aL_47, aL_48, aL_49, aL_50, aL_51, aL_52, aL_53, aL_54, aL_55, aL_56, aL_57, aL_58, gq_0_0, gq_0_1, gq_0_2, gq_0_3, gq_0_4, gq_0_5, gq_0_6, gq_0_7, gq_1_0, gq_1_1, gq_1_2, gq_1_3, gq_1_4, gq_1_5, gq_1_6, gq_1_7, gq_1_8, gq_1_9, gq_2_2, gq_4_2, gq_6_2, gq_9_2, gq_11_2, gq_13_2, gq_15_2, gq_17_0, gq_20_0, gq_22_0, gq_24_0, gq_27_0, gq_34_0, gq_36_0, gq_38_0, gq_40_0, gq_42_0, gq_42_1, gq_42_3, gq_42_4, gq_42_11, gq_42_12, gq_42_13, gq_42_15, gq_42_16, gq_42_17, gq_42_18, gq_42_19, gq_42_23, gq_42_24, gq_42_25, gq_42_26, aQ_29_0, aQ_29_1, aQ_29_2, aQ_29_3, aQ_19_0, aQ_19_1, aQ_19_2, aQ_46_0, aQ_46_1, aQ_46_2, gq_26, gr_26, gr_0_8, pQ_26, Option.bind_some, ↓reduceIte, one_ne0, is_1 (e43 w4) (show c 1 ≤ 1000 by omega), if_neg ha, finds_1]
      try simp
/-! sources -/
def fcR (m : Nat → Nat → Int32) (kp : Bool) (b : Option Nat) (v : Nat → Int32) (i : Nat) (σ : St) : Prop := ∃ M, σ = mkS M kp b ∧ EqS m M ∧ ∀ k, k < i → M 51 k = v k
theorem fco8 {f : Nat} (h : RS m 1 43 c) (hf : f ≤ 5) : ∃ M, f_X8_findCould (mkS m kp b) 42 (nI f) = some (mkS M kp b) ∧ EqS m M ∧ ∀ k, k < c 1 → M 51 k = nI (orN m f (c 1) k) := by
  have hC := CvC_of h.2.2.2.1
  have hn := hC.2.2.2.1
  unfold f_X8_findCould
  rw [if_pos io_42]
  obtain ⟨σ', e, M, rfl, hE, hv⟩ := loopZ (fun l a (_ : Unit) σ => f_X8_findCould_L2 42 (nI f) l (nI a) σ) (fun _ σ => (nI (c 1), σ)) (fcR m kp b (fun k => nI (orN m f (c 1) k))) (fun _ _ => ()) (c 1) (fun l a s σ ha hR => by
    obtain ⟨M, rfl, hE, hv⟩ := hR
    obtain ⟨M', e8, M0, eM0, hE', hM', h51⟩ := cou8 (kp := kp) (b := b) h ha hf ⟨M, rfl, hE⟩
    have e0 : M0 = M := by have := congrArg Prod.fst eM0; exact this.symm
    subst e0
    have e1 : M0 43 1 = nI (c 1) := by rw [hE.at 43 (by omega) (by omega)]; exact hC.2.2.2.2.1
    refine ⟨mkS (st1 M' 51 a (nI (orN m f (c 1) a))) kp b, ?_, _, rfl, hM'.trans (EqS.st (by unfold Sc; omega)), fun k hk => ?_⟩
    · show f_X8_findCould_L2 42 (nI f) (l + 1) (nI a) (mkS M0 kp b) = f_X8_findCould_L2 42 (nI f) l (nI (a + 1)) _
      rw [f_X8_findCould_L2, gq_42_0, Option.bind_some, rdl_1, e1, Option.bind_some, if_neg (nI_ge ha (by omega)), gq_42_16, Option.bind_some, e8, Option.bind_some, nI_a1]
      dsimp only
      rw [wr_51 (show a < 24 by omega), Option.bind_some]
    · by_cases e : k = a
      · rw [e, st1_eq]
      · rw [st1_nf e, h51]; exact hv k (by omega)) (fun l s σ hR => by
    obtain ⟨M, rfl, hE, hv⟩ := hR
    have e1 : M 43 1 = nI (c 1) := by rw [hE.at 43 (by omega) (by omega)]; exact hC.2.2.2.2.1
    show f_X8_findCould_L2 42 (nI f) (l + 1) (nI (c 1)) (mkS M kp b) = _
    rw [f_X8_findCould_L2, gq_42_0, Option.bind_some, rdl_1, e1, Option.bind_some, if_pos (Int32.le_refl _)]) (c 1) 0 3000 () (mkS m kp b) (by omega) (by omega) ⟨m, rfl, EqS.rfl', fun k hk => absurd hk (by omega)⟩
  have e' : f_X8_findCould_L2 42 (nI f) 3000 0 (mkS m kp b) = _ := e
  refine ⟨M, ?_, hE, hv⟩
  rw [e']
  rfl
theorem or_0 {f n q : Nat} (hn : n ≤ 24) : (nI (orN m f n q) = 0) ↔ orN m f n q = 0 := by
  have h1 := orN_lt (m := m) (f := f) (n := n) (q := q)
  have h2 := lt31 h1 (by omega)
  exact nI_eq (b := 0) h2 (by decide)
noncomputable def soG (m : Nat → Nat → Int32) (f n : Nat) (q : Nat) (a : Int32) : Int32 := if orN m f n q = 0 then a ||| ((1 : Int32) <<< (nI q &&& 31)) else a
theorem op_sources (w : Int32) : OpR (fun σ => f_X7_sources σ 0 w) (fun σ => f_X8_sources σ 42 w) := by
  intro m kp b z hR
  obtain ⟨⟨c, hS⟩, -⟩ := id hR
  have hC := CvC_of hS.2.2.2.1
  have hn := hC.2.2.2.1
  have e3 : m 6 3 = nI (c 1) := hC.2.2.1
  by_cases hw : 1 ≤ w ∧ w ≤ 5
  · obtain ⟨f, hf1, hf, rfl⟩ := ex_rng (lo := 1) (hi := 5) (by decide) hw (by decide)
    obtain ⟨M, e8, hE, hv⟩ := fco8 (kp := kp) (b := b) hS hf
    have e1 : M 43 1 = nI (c 1) := by rw [hE.at 43 (by omega) (by omega)]; exact hC.2.2.2.2.1
    have h7 : f_X7_sources_L18 (mkS m kp b) 0 (nI f) 3000 0 0 = some (nI (c 1), it (soG m f (c 1)) (c 1) 0 0) := by
      have := loopU (fun l p a => f_X7_sources_L18 (mkS m kp b) 0 (nI f) l (nI p) a) (fun a => (nI (c 1), a)) (soG m f (c 1)) (c 1) (fun l p a hp => by
        show f_X7_sources_L18 (mkS m kp b) 0 (nI f) (l + 1) (nI p) a = _
        rw [f_X7_sources_L18, gq_0_0, Option.bind_some, gq_1_2, Option.bind_some, gI_6, Option.bind_some, e3, if_neg (nI_ge hp (by omega)), Option.bind_some, ori7 hS hp hf, Option.bind_some, nI_a1]
        unfold soG
        by_cases q1 : orN m f (c 1) p = 0
        · rw [if_pos ((or_0 hn).mpr q1), if_pos q1]
        · rw [if_neg (fun y => q1 ((or_0 hn).mp y)), if_neg q1]) (fun l a => by
        show f_X7_sources_L18 (mkS m kp b) 0 (nI f) (l + 1) (nI (c 1)) a = _
        rw [f_X7_sources_L18, gq_0_0, Option.bind_some, gq_1_2, Option.bind_some, gI_6, Option.bind_some, e3, if_pos (Int32.le_refl _)]) (c 1) 0 0 3000 (by omega) (by omega)
      simp only [nI_0] at this
      exact this
    have h8 : f_X8_sources_L23 (mkS M kp b) 42 3000 0 0 = some (nI (c 1), it (soG m f (c 1)) (c 1) 0 0) := by
      have := loopU (fun l p a => f_X8_sources_L23 (mkS M kp b) 42 l (nI p) a) (fun a => (nI (c 1), a)) (soG m f (c 1)) (c 1) (fun l p a hp => by
        show f_X8_sources_L23 (mkS M kp b) 42 (l + 1) (nI p) a = _
        rw [f_X8_sources_L23, gq_42_0, Option.bind_some, rdl_1, e1, Option.bind_some, if_neg (nI_ge hp (by omega)), gq_42_16, Option.bind_some, rd_51 (show p < 24 by omega), Option.bind_some, hv p hp, nI_a1]
        unfold soG
        by_cases q1 : orN m f (c 1) p = 0
        · rw [if_pos ((or_0 hn).mpr q1), if_pos q1]
        · rw [if_neg (fun y => q1 ((or_0 hn).mp y)), if_neg q1, Int32.or_zero]) (fun l a => by
        show f_X8_sources_L23 (mkS M kp b) 42 (l + 1) (nI (c 1)) a = _
        rw [f_X8_sources_L23, gq_42_0, Option.bind_some, rdl_1, e1, Option.bind_some, if_pos (Int32.le_refl _)]) (c 1) 0 0 3000 (by omega) (by omega)
      simp only [nI_0] at this
      exact this
    refine ⟨it (soG m f (c 1)) (c 1) 0 0, m, kp, b, M, ?_, ?_, (RR_scr hR hE).up⟩
    · show f_X7_sources (mkS m kp b) 0 (nI f) = _
      unfold f_X7_sources
      rw [if_pos io_0, isFactor7_eq, if_pos hw, Option.bind_some, if_neg (show ¬ (1 : Int32) = 0 by decide), h7]
      rfl
    · show f_X8_sources (mkS m kp b) 42 (nI f) = _
      unfold f_X8_sources
      rw [if_pos io_42, isFactor8_eq (t := 0), if_pos hw, Option.bind_some, if_neg (show ¬ (1 : Int32) = 0 by decide), e8, Option.bind_some, h8]
      rfl
  · refine op_err1 (k := 1) (e := -1000001) (by decide) hR ?_ ?_
    · show f_X7_sources (mkS m kp b) 0 w = _
      unfold f_X7_sources
      simp only [io_0, gI_0, pI_0, pZ_0, io_1, gI_1, pI_1, pZ_1, io_2, gI_2, pI_2, pZ_2, aL_3, io_4, gI_4, pI_4, pZ_4, aL_5, io_6, gI_6, pI_6, pZ_6, aL_7, aL_8, io_9, gI_9, pI_9, pZ_9, aL_10, io_11, gI_11, pI_11, pZ_11, aL_12, io_13, gI_13, pI_13, pZ_13, aL_14, io_15, gI_15, pI_15, pZ_15, aL_16, io_17, gI_17, pI_17, pZ_17, aL_18, aL_19, io_20, gI_20, pI_20, pZ_20, aL_21, io_22, gI_22, pI_22, pZ_22, aL_23, io_24, gI_24, pI_24, pZ_24, aL_25, io_26, gI_26, pI_26, pZ_26, io_27, gI_27, pI_27, pZ_27, aL_28, aL_29, aL_30, aL_31, aL_32, aL_33, io_34, gI_34, pI_34, pZ_34, aL_35, io_36, gI_36, pI_36, pZ_36, aL_37, io_38, gI_38, pI_38, pZ_38, aL_39, io_40, gI_40, pI_40, pZ_40, aL_41, io_42, gI_42, pI_42, pZ_42, aL_43, aL_44, aL_45, aL_46, aL_47, aL_48, aL_49, aL_50, aL_51, aL_52, aL_53, aL_54, aL_55, aL_56, aL_57, aL_58, gq_0_0, gq_0_1, gq_0_2, gq_0_3, gq_0_4, gq_0_5, gq_0_6, gq_0_7, gq_1_0, gq_1_1, gq_1_2, gq_1_3, gq_1_4, gq_1_5, gq_1_6, gq_1_7, gq_1_8, gq_1_9, gq_2_2, gq_4_2, gq_6_2, gq_9_2, gq_11_2, gq_13_2, gq_15_2, gq_17_0, gq_20_0, gq_22_0, gq_24_0, gq_27_0, gq_34_0, gq_36_0, gq_38_0, gq_40_0, gq_42_0, gq_42_1, gq_42_3, gq_42_4, gq_42_11, gq_42_12, gq_42_13, gq_42_15, gq_42_16, gq_42_17, gq_42_18, gq_42_19, gq_42_23, gq_42_24, gq_42_25, gq_42_26, aQ_29_0, aQ_29_1, aQ_29_2, aQ_29_3, aQ_19_0, aQ_19_1, aQ_19_2, aQ_46_0, aQ_46_1, aQ_46_2, gq_26, gr_26, gr_0_8, pQ_26, Option.bind_some, ↓reduceIte, one_ne0, isFactor7_eq, if_neg hw, fails_1]
      try simp
    · show f_X8_sources (mkS _ kp b) 42 w = _
      unfold f_X8_sources
      simp only [io_0, gI_0, pI_0, pZ_0, io_1, gI_1, pI_1, pZ_1, io_2, gI_2, pI_2, pZ_2, aL_3, io_4, gI_4, pI_4, pZ_4, aL_5, io_6, gI_6, pI_6, pZ_6, aL_7, aL_8, io_9, gI_9, pI_9, pZ_9, aL_10, io_11, gI_11, pI_11, pZ_11, aL_12, io_13, gI_13, pI_13, pZ_13, aL_14, io_15, gI_15, pI_15, pZ_15, aL_16, io_17, gI_17, pI_17, pZ_17, aL_18, aL_19, io_20, gI_20, pI_20, pZ_20, aL_21, io_22, gI_22, pI_22, pZ_22, aL_23, io_24, gI_24, pI_24, pZ_24, aL_25, io_26, gI_26, pI_26, pZ_26, io_27, gI_27, pI_27, pZ_27, aL_28, aL_29, aL_30, aL_31, aL_32, aL_33, io_34, gI_34, pI_34, pZ_34, aL_35, io_36, gI_36, pI_36, pZ_36, aL_37, io_38, gI_38, pI_38, pZ_38, aL_39, io_40, gI_40, pI_40, pZ_40, aL_41, io_42, gI_42, pI_42, pZ_42, aL_43, aL_44, aL_45, aL_46, aL_47, aL_48, aL_49, aL_50, aL_51, aL_52, aL_53, aL_54, aL_55, aL_56, aL_57, aL_58, gq_0_0, gq_0_1, gq_0_2, gq_0_3, gq_0_4, gq_0_5, gq_0_6, gq_0_7, gq_1_0, gq_1_1, gq_1_2, gq_1_3, gq_1_4, gq_1_5, gq_1_6, gq_1_7, gq_1_8, gq_1_9, gq_2_2, gq_4_2, gq_6_2, gq_9_2, gq_11_2, gq_13_2, gq_15_2, gq_17_0, gq_20_0, gq_22_0, gq_24_0, gq_27_0, gq_34_0, gq_36_0, gq_38_0, gq_40_0, gq_42_0, gq_42_1, gq_42_3, gq_42_4, gq_42_11, gq_42_12, gq_42_13, gq_42_15, gq_42_16, gq_42_17, gq_42_18, gq_42_19, gq_42_23, gq_42_24, gq_42_25, gq_42_26, aQ_29_0, aQ_29_1, aQ_29_2, aQ_29_3, aQ_19_0, aQ_19_1, aQ_19_2, aQ_46_0, aQ_46_1, aQ_46_2, gq_26, gr_26, gr_0_8, pQ_26, Option.bind_some, ↓reduceIte, one_ne0, isFactor8_eq (t := 0), if_neg hw, finds_1]
      try simp
end WA
