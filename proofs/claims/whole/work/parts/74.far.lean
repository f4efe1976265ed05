/-! how far news is behind -/
theorem loopY {α ρ : Type} (L : Nat → Nat → α → St → Option ρ) (out : α → St → ρ) (R : Nat → α → St → Prop) (g : Nat → α → α) (n : Nat) (hs : ∀ f i a σ, i < n → R i a σ → ∃ σ', L (f + 1) i a σ = L f (i + 1) (g i a) σ' ∧ R (i + 1) (g i a) σ') (he : ∀ f a σ, R n a σ → L (f + 1) n a σ = some (out a σ)) : ∀ k i f a σ, i + k = n → k < f → R i a σ → ∃ σ', L f i a σ = some (out (it g k i a) σ') ∧ R n (it g k i a) σ' := by
  intro k
  induction k with
  | zero =>
    intro i f a σ h1 h2 hR
    obtain ⟨f, rfl⟩ : ∃ q, f = q + 1 := ⟨f - 1, by omega⟩
    have : i = n := by omega
    subst this
    exact ⟨σ, he f a σ hR, hR⟩
  | succ k ih =>
    intro i f a σ h1 h2 hR
    obtain ⟨f, rfl⟩ : ∃ q, f = q + 1 := ⟨f - 1, by omega⟩
    obtain ⟨σ', e, hR'⟩ := hs f i a σ (by omega) hR
    obtain ⟨σ2, e2, hR2⟩ := ih (i + 1) f (g i a) σ' (by omega) (by omega) hR'
    exact ⟨σ2, e.trans e2, hR2⟩
def lkA (m : Nat → Nat → Int32) (k : Nat) : Nat := (m 43 (778 + 3 * k)).toNatClampNeg
def lkB (m : Nat → Nat → Int32) (k : Nat) : Nat := (m 43 (778 + 3 * k + 1)).toNatClampNeg
def lkD (m : Nat → Nat → Int32) (k : Nat) : Nat := (m 43 (778 + 3 * k + 2)).toNatClampNeg
def mnI (x y : Int32) : Int32 := if y < x then y else x
def lkG (m : Nat → Nat → Int32) (k : Nat) (F : Nat → Int32) : Nat → Int32 := fun i => if i = lkA m k then mnI (F (lkA m k)) (F (lkB m k) + nI (lkD m k)) else F i
def far0 (h : Nat) : Nat → Int32 := fun i => if i = h then 0 else 1000000
def farR (m : Nat → Nat → Int32) (n : Nat) (_ : Nat) (F : Nat → Int32) : Nat → Int32 := it (lkG m) n 0 F
def farF (m : Nat → Nat → Int32) (n h : Nat) : Nat → Int32 := it (farR m n) 8 0 (far0 h)
def FB (h t : Nat) (F : Nat → Int32) : Prop := F h = 0 ∧ ∀ i, i < 8 → ∃ x, F i = nI x ∧ (x = 1000000 ∨ x ≤ 60 * t)
def RK (m : Nat → Nat → Int32) (kp : Bool) (P : Option Nat → Prop) (C : Nat) (F : Nat → Int32) (σ : St) : Prop := ∃ M b, σ = mkS M kp b ∧ P b ∧ EqS m M ∧ ∀ i, i < 8 → M C i = F i
section FA
variable {m : Nat → Nat → Int32} {kp : Bool} {b : Option Nat} {z : Nat} {c : Nat → Nat} {P : Option Nat → Prop}
theorem lk_of {k : Nat} (h : RS m 1 43 c) (hk : k < c 2) : lkA m k < 8 ∧ lkB m k < 8 ∧ (1 ≤ lkD m k ∧ lkD m k ≤ 60) ∧ (m 43 (778 + 3 * k) = nI (lkA m k) ∧ m 43 (778 + 3 * k + 1) = nI (lkB m k) ∧ m 43 (778 + 3 * k + 2) = nI (lkD m k)) ∧ m 10 (k * 3 + 0) = nI (lkA m k) ∧ m 10 (k * 3 + 1) = nI (lkB m k) ∧ m 10 (k * 3 + 2) = nI (lkD m k) := by
  obtain ⟨w1, w2, w3, w4, w5, w6, w7⟩ := id h.2.2.2.2.1
  obtain ⟨⟨x, hx, ex⟩, ⟨y, hy, ey⟩, ⟨d, hd1, hd2, ed⟩⟩ := w7 k hk
  have e1 : lkA m k = x := by unfold lkA; rw [ex, nI_clamp (by omega)]
  have e2 : lkB m k = y := by unfold lkB; rw [ey, nI_clamp (by omega)]
  have e3 : lkD m k = d := by unfold lkD; rw [ed, nI_clamp (by omega)]
  rw [e1, e2, e3]
  have f0 := w6 (k * 3 + 0) (by omega)
  have f1 := w6 (k * 3 + 1) (by omega)
  have f2 := w6 (k * 3 + 2) (by omega)
  rw [show 778 + (k * 3 + 0) = 778 + 3 * k by omega] at f0
  rw [show 778 + (k * 3 + 1) = 778 + 3 * k + 1 by omega] at f1
  rw [show 778 + (k * 3 + 2) = 778 + 3 * k + 2 by omega] at f2
  exact ⟨hx, hy, ⟨hd1, hd2⟩, ⟨ex, ey, ed⟩, f0.trans ex, f1.trans ey, f2.trans ed⟩
theorem lkG_fr {M : Nat → Nat → Int32} (h : M 43 = m 43) : lkG M = lkG m := by funext k F i; unfold lkG lkA lkB lkD; rw [h]
theorem farF_fr {M : Nat → Nat → Int32} (h : M 43 = m 43) : farF M = farF m := by
  funext n q
  unfold farF
  have : farR M n = farR m n := by funext k F; unfold farR; rw [lkG_fr h]
  rw [this]
theorem FB_st {k h t : Nat} {F : Nat → Int32} (hS : RS m 1 43 c) (hk : k < c 2) (hh : h < 8) (ht : t < 160) (hF : FB h t F) : FB h (t + 1) (lkG m k F) := by
  obtain ⟨a1, a2, ⟨a3, a4⟩, -⟩ := lk_of hS hk
  obtain ⟨f0, f1⟩ := hF
  obtain ⟨x, ex, hx⟩ := f1 (lkA m k) a1
  obtain ⟨y, ey, hy⟩ := f1 (lkB m k) a2
  have key : ∃ v, mnI (F (lkA m k)) (F (lkB m k) + nI (lkD m k)) = nI v ∧ (v = 1000000 ∨ v ≤ 60 * (t + 1)) ∧ (x = 0 → v = 0) := by
    unfold mnI
    rw [ex, ey, nI_add]
    by_cases hl : y + lkD m k < x
    · rw [if_pos (nI_lt hl (by omega))]
      exact ⟨_, rfl, by omega, by omega⟩
    · rw [if_neg (nI_nlt (by omega) (by omega))]
      exact ⟨_, rfl, by omega, by omega⟩
  obtain ⟨v, ev, hv, hv0⟩ := key
  refine ⟨?_, fun i hi => ?_⟩
  · unfold lkG
    by_cases e : h = lkA m k
    · rw [if_pos e, ev]
      have : x = 0 := by
        rw [← e, f0] at ex
        exact ((nI_eq (a := 0) (b := x) (by decide) (by omega)).mp ex).symm
      rw [hv0 this]; rfl
    · rw [if_neg e]; exact f0
  · unfold lkG
    by_cases e : i = lkA m k
    · rw [if_pos e]; exact ⟨v, ev, hv⟩
    · rw [if_neg e]
      obtain ⟨w, ew, hw⟩ := f1 i hi
      exact ⟨w, ew, by omega⟩
theorem FB_it {h : Nat} (hS : RS m 1 43 c) (hh : h < 8) : ∀ k i t F, i + k ≤ c 2 → t + k ≤ 160 → FB h t F → FB h (t + k) (it (lkG m) k i F) := by
  intro k
  induction k with
  | zero => intro i t F _ _ hF; exact hF
  | succ k ih =>
    intro i t F h1 h2 hF
    have := ih (i + 1) (t + 1) (lkG m i F) (by omega) (by omega) (FB_st hS (by omega) hh (by omega) hF)
    rw [show t + 1 + k = t + (k + 1) by omega] at this
    exact this
theorem FB_up {h t t' : Nat} {F : Nat → Int32} (hF : FB h t F) (ht : t ≤ t') : FB h t' F := ⟨hF.1, fun i hi => by obtain ⟨x, e, hx⟩ := hF.2 i hi; exact ⟨x, e, by omega⟩⟩
theorem FB_far {h : Nat} (hS : RS m 1 43 c) (hh : h < 8) : FB h 160 (farF m (c 2) h) := by
  have hc : c 2 ≤ 20 := hS.2.2.2.2.1.2.2.2.2.1
  have key : ∀ k i F, i + k ≤ 8 → FB h (20 * i) F → FB h (20 * (i + k)) (it (farR m (c 2)) k i F) := by
    intro k
    induction k with
    | zero => intro i F _ hF; exact hF
    | succ k ih =>
      intro i F h1 hF
      have h2 := FB_it hS hh (c 2) 0 (20 * i) F (by omega) (by omega) hF
      have := ih (i + 1) (farR m (c 2) i F) (by omega) (FB_up h2 (by omega))
      rw [show i + 1 + k = i + (k + 1) by omega] at this
      exact this
  have h0 : FB h (20 * 0) (far0 h) := by
    refine ⟨if_pos rfl, fun i _ => ?_⟩
    unfold far0
    by_cases e : i = h
    · rw [if_pos e]; exact ⟨0, rfl, by omega⟩
    · rw [if_neg e]; exact ⟨1000000, rfl, Or.inl rfl⟩
  exact key 8 0 (far0 h) (by omega) h0
theorem RK_w {M : Nat → Nat → Int32} {C x : Nat} {F G : Nat → Int32} {v : Int32} (hC : Sc C) (hP : P b) (hE : EqS m M) (hF : ∀ i, i < 8 → M C i = F i) (hG : ∀ i, i < 8 → G i = if i = x then v else F i) : RK m kp P C G (mkS (st1 M C x v) kp b) := by
  refine ⟨_, _, rfl, hP, hE.trans (EqS.st hC), fun i hi => ?_⟩
  rw [st1_app, hG i hi]
  by_cases e : i = x
  · rw [if_pos ⟨rfl, e⟩, if_pos e]
  · rw [if_neg (fun y => e y.2), if_neg e, hF i hi]
theorem sc32 : Sc 32 := by unfold Sc; omega
theorem sc33 : Sc 33 := by unfold Sc; omega
theorem sc52 : Sc 52 := by unfold Sc; omega
theorem sc53 : Sc 53 := by unfold Sc; omega
theorem hs7 {x : Nat} (h : x < 8) : 0 ≤ nI x ∧ nI x ≤ 7 := ⟨nI_pos' (by omega), nI_le (b := 7) (by omega) (by decide)⟩
theorem fb48 {F : Nat → Int32} {σ : St} (hS : RS m 1 43 c) (hR : RK m kp P 32 F σ) : ∃ σ', f_X7_findBehind_L48 0 3000 0 σ = some (nI (c 2), σ') ∧ RK m kp P 32 (it (lkG m) (c 2) 0 F) σ' := by
  obtain ⟨w1, w2, w3, w4, w5, w6, w7⟩ := id hS.2.2.2.2.1
  exact loopY (fun l k (_ : Nat → Int32) σ => f_X7_findBehind_L48 0 l (nI k) σ) (fun _ σ => (nI (c 2), σ)) (fun _ F σ => RK m kp P 32 F σ) (lkG m) (c 2) (fun l k F σ hk hQ => by
    obtain ⟨M, b, rfl, hP, hE, hF⟩ := hQ
    obtain ⟨a1, a2, ⟨a3, a4⟩, -, d0, d1, d2⟩ := lk_of hS hk
    have e9 : M 9 = m 9 := hE.at 9 (by omega) (by omega)
    have e10 : M 10 = m 10 := hE.at 10 (by omega) (by omega)
    have t1 : M 9 0 = nI 3 := by rw [e9]; exact w1
    have t3 : M 9 3 = nI (c 2) := by rw [e9]; exact w3
    refine ⟨mkS (st1 M 32 (lkA m k) (mnI (F (lkA m k)) (F (lkB m k) + nI (lkD m k)))) kp b, ?_, RK_w sc32 hP hE hF (fun i _ => rfl)⟩
    show f_X7_findBehind_L48 0 (l + 1) (nI k) (mkS M kp b) = f_X7_findBehind_L48 0 l (nI (k + 1)) _
    rw [f_X7_findBehind_L48]
    unfold f_J9_min_7cf53
    simp only [io_0, gI_0, pI_0, pZ_0, io_1, gI_1, pI_1, pZ_1, io_2, gI_2, pI_2, pZ_2, aL_3, io_4, gI_4, pI_4, pZ_4, aL_5, io_6, gI_6, pI_6, pZ_6, aL_7, aL_8, io_9, gI_9, pI_9, pZ_9, aL_10, io_11, gI_11, pI_11, pZ_11, aL_12, io_13, gI_13, pI_13, pZ_13, aL_14, io_15, gI_15, pI_15, pZ_15, aL_16, io_17, gI_17, pI_17, pZ_17, aL_18, aL_19, io_20, gI_20, pI_20, pZ_20, aL_21, io_22, gI_22, pI_22, pZ_22, aL_23, io_24, gI_24, pI_24, pZ_24, aL_25, io_26, gI_26, pI_26, pZ_26, io_27, gI_27, pI_27, pZ_27, aL_28, aL_29, aL_30, aL_31, aL_32, aL_33, io_34, gI_34, pI_34, pZ_34, aL_35, io_36, gI_36, pI_36, pZ_36, aL_37, io_38, gI_38, pI_38, pZ_38, aL_39, io_40, gI_40, pI_40, pZ_40, aL_41, io_42, gI_42, pI_42, pZ_42, aL_43, aL_44, aL_45, aL_46, aL_47, aL_48, aL_49, aL_50, aL_51, aL_52, aL_53, aL_54, aL_55, aL_56, aL_57, aL_58, gq_0_0, gq_0_1, gq_0_2, gq_0_3, gq_0_4, gq_0_5, gq_0_6, gq_0_7, gq_1_0, gq_1_1, gq_1_2, gq_1_3, gq_1_4, gq_1_5, gq_1_6, gq_1_7, gq_1_8, gq_1_9, gq_2_2, gq_4_2, gq_6_2, gq_9_2, gq_11_2, gq_13_2, gq_15_2, gq_17_0, gq_20_0, gq_22_0, gq_24_0, gq_27_0, gq_34_0, gq_36_0, gq_38_0, gq_40_0, gq_42_0, gq_42_1, gq_42_3, gq_42_4, gq_42_11, gq_42_12, gq_42_13, gq_42_15, gq_42_16, gq_42_17, gq_42_18, gq_42_19, gq_42_23, gq_42_24, gq_42_25, gq_42_26, aQ_29_0, aQ_29_1, aQ_29_2, aQ_29_3, aQ_19_0, aQ_19_1, aQ_19_2, aQ_46_0, aQ_46_1, aQ_46_2, gq_26, gr_26, gr_0_8, pQ_26, Option.bind_some, ↓reduceIte, one_ne0, t3, if_neg (nI_ge hk (show c 2 < 2 ^ 31 by omega)), at_9_0 t1 t3 w5 hk, at_9_1 t1 t3 w5 hk, at_9_2 t1 t3 w5 hk, e10, d0, d1, d2, isHouse7_eq, if_pos (hs7 a1), if_pos (hs7 a2), rd_32 a1, rd_32 a2, wr_32 a1, hF _ a1, hF _ a2, nI_a1]
    rfl) (fun l F σ hQ => by
    obtain ⟨M, b, rfl, hP, hE, hF⟩ := hQ
    have t3 : M 9 3 = nI (c 2) := by rw [hE.at 9 (by omega) (by omega)]; exact w3
    show f_X7_findBehind_L48 0 (l + 1) (nI (c 2)) (mkS M kp b) = _
    rw [f_X7_findBehind_L48]
    simp only [io_0, gI_0, pI_0, pZ_0, io_1, gI_1, pI_1, pZ_1, io_2, gI_2, pI_2, pZ_2, aL_3, io_4, gI_4, pI_4, pZ_4, aL_5, io_6, gI_6, pI_6, pZ_6, aL_7, aL_8, io_9, gI_9, pI_9, pZ_9, aL_10, io_11, gI_11, pI_11, pZ_11, aL_12, io_13, gI_13, pI_13, pZ_13, aL_14, io_15, gI_15, pI_15, pZ_15, aL_16, io_17, gI_17, pI_17, pZ_17, aL_18, aL_19, io_20, gI_20, pI_20, pZ_20, aL_21, io_22, gI_22, pI_22, pZ_22, aL_23, io_24, gI_24, pI_24, pZ_24, aL_25, io_26, gI_26, pI_26, pZ_26, io_27, gI_27, pI_27, pZ_27, aL_28, aL_29, aL_30, aL_31, aL_32, aL_33, io_34, gI_34, pI_34, pZ_34, aL_35, io_36, gI_36, pI_36, pZ_36, aL_37, io_38, gI_38, pI_38, pZ_38, aL_39, io_40, gI_40, pI_40, pZ_40, aL_41, io_42, gI_42, pI_42, pZ_42, aL_43, aL_44, aL_45, aL_46, aL_47, aL_48, aL_49, aL_50, aL_51, aL_52, aL_53, aL_54, aL_55, aL_56, aL_57, aL_58, gq_0_0, gq_0_1, gq_0_2, gq_0_3, gq_0_4, gq_0_5, gq_0_6, gq_0_7, gq_1_0, gq_1_1, gq_1_2, gq_1_3, gq_1_4, gq_1_5, gq_1_6, gq_1_7, gq_1_8, gq_1_9, gq_2_2, gq_4_2, gq_6_2, gq_9_2, gq_11_2, gq_13_2, gq_15_2, gq_17_0, gq_20_0, gq_22_0, gq_24_0, gq_27_0, gq_34_0, gq_36_0, gq_38_0, gq_40_0, gq_42_0, gq_42_1, gq_42_3, gq_42_4, gq_42_11, gq_42_12, gq_42_13, gq_42_15, gq_42_16, gq_42_17, gq_42_18, gq_42_19, gq_42_23, gq_42_24, gq_42_25, gq_42_26, aQ_29_0, aQ_29_1, aQ_29_2, aQ_29_3, aQ_19_0, aQ_19_1, aQ_19_2, aQ_46_0, aQ_46_1, aQ_46_2, gq_26, gr_26, gr_0_8, pQ_26, Option.bind_some, ↓reduceIte, one_ne0, t3, Int32.le_refl]) (c 2) 0 3000 F σ (by omega) (by omega) hR
theorem ixLk {k : Nat} : (778 : Int32) + ((3 : Int32) * nI k) = nI (778 + 3 * k) := by
  rw [show (778 : Int32) = nI 778 from rfl, show (3 : Int32) = nI 3 from rfl, pk_mul, nI_add]
theorem ff44 {F : Nat → Int32} {σ : St} (hS : RS m 1 43 c) (hR : RK m kp P 52 F σ) : ∃ σ', f_X8_findFar_L44 42 3000 778 σ = some (nI (778 + 3 * c 2), σ') ∧ RK m kp P 52 (it (lkG m) (c 2) 0 F) σ' := by
  obtain ⟨w1, w2, w3, w4, w5, w6, w7⟩ := id hS.2.2.2.2.1
  exact loopY (fun l k (_ : Nat → Int32) σ => f_X8_findFar_L44 42 l (nI (778 + 3 * k)) σ) (fun _ σ => (nI (778 + 3 * c 2), σ)) (fun _ F σ => RK m kp P 52 F σ) (lkG m) (c 2) (fun l k F σ hk hQ => by
    obtain ⟨M, b, rfl, hP, hE, hF⟩ := hQ
    obtain ⟨a1, a2, ⟨a3, a4⟩, ⟨d0, d1, d2⟩, -⟩ := lk_of hS hk
    have e43 : M 43 = m 43 := hE.at 43 (by omega) (by omega)
    have t3 : M 43 2 = nI (c 2) := by rw [e43]; exact w4
    have x2 : nI (778 + 3 * k) + 2 = nI (778 + 3 * k + 2) := nI_add _ 2
    have x3 : nI (778 + 3 * k) + 3 = nI (778 + 3 * (k + 1)) := nI_add _ 3
    refine ⟨mkS (st1 M 52 (lkA m k) (mnI (F (lkA m k)) (F (lkB m k) + nI (lkD m k)))) kp b, ?_, RK_w sc52 hP hE hF (fun i _ => rfl)⟩
    show f_X8_findFar_L44 42 (l + 1) (nI (778 + 3 * k)) (mkS M kp b) = f_X8_findFar_L44 42 l (nI (778 + 3 * (k + 1))) _
    rw [f_X8_findFar_L44]
    unfold f_J9_min_7cf53
    simp only [io_0, gI_0, pI_0, pZ_0, io_1, gI_1, pI_1, pZ_1, io_2, gI_2, pI_2, pZ_2, aL_3, io_4, gI_4, pI_4, pZ_4, aL_5, io_6, gI_6, pI_6, pZ_6, aL_7, aL_8, io_9, gI_9, pI_9, pZ_9, aL_10, io_11, gI_11, pI_11, pZ_11, aL_12, io_13, gI_13, pI_13, pZ_13, aL_14, io_15, gI_15, pI_15, pZ_15, aL_16, io_17, gI_17, pI_17, pZ_17, aL_18, aL_19, io_20, gI_20, pI_20, pZ_20, aL_21, io_22, gI_22, pI_22, pZ_22, aL_23, io_24, gI_24, pI_24, pZ_24, aL_25, io_26, gI_26, pI_26, pZ_26, io_27, gI_27, pI_27, pZ_27, aL_28, aL_29, aL_30, aL_31, aL_32, aL_33, io_34, gI_34, pI_34, pZ_34, aL_35, io_36, gI_36, pI_36, pZ_36, aL_37, io_38, gI_38, pI_38, pZ_38, aL_39, io_40, gI_40, pI_40, pZ_40, aL_41, io_42, gI_42, pI_42, pZ_42, aL_43, aL_44, aL_45, aL_46, aL_47, aL_48, aL_49, aL_50, aL_51, aL_52, aL_53, aL_54, aL_55, aL_56, aL_57, aL_58, gq_0_0, gq_0_1, gq_0_2, gq_0_3, gq_0_4, gq_0_5, gq_0_6, gq_0_7, gq_1_0, gq_1_1, gq_1_2, gq_1_3, gq_1_4, gq_1_5, gq_1_6, gq_1_7, gq_1_8, gq_1_9, gq_2_2, gq_4_2, gq_6_2, gq_9_2, gq_11_2, gq_13_2, gq_15_2, gq_17_0, gq_20_0, gq_22_0, gq_24_0, gq_27_0, gq_34_0, gq_36_0, gq_38_0, gq_40_0, gq_42_0, gq_42_1, gq_42_3, gq_42_4, gq_42_11, gq_42_12, gq_42_13, gq_42_15, gq_42_16, gq_42_17, gq_42_18, gq_42_19, gq_42_23, gq_42_24, gq_42_25, gq_42_26, aQ_29_0, aQ_29_1, aQ_29_2, aQ_29_3, aQ_19_0, aQ_19_1, aQ_19_2, aQ_46_0, aQ_46_1, aQ_46_2, gq_26, gr_26, gr_0_8, pQ_26, Option.bind_some, ↓reduceIte, one_ne0, rdl_2, t3, ixLk, if_neg (nI_ge (show 778 + 3 * k < 778 + 3 * c 2 by omega) (show 778 + 3 * c 2 < 2 ^ 31 by omega)), rd_43 (show 778 + 3 * k < 1234 by omega), nI_a1, x2, x3, rd_43 (show 778 + 3 * k + 1 < 1234 by omega), rd_43 (show 778 + 3 * k + 2 < 1234 by omega), e43, d0, d1, d2, rd_52 a1, rd_52 a2, wr_52 a1, hF _ a1, hF _ a2]
    rfl) (fun l F σ hQ => by
    obtain ⟨M, b, rfl, hP, hE, hF⟩ := hQ
    have t3 : M 43 2 = nI (c 2) := by rw [hE.at 43 (by omega) (by omega)]; exact w4
    show f_X8_findFar_L44 42 (l + 1) (nI (778 + 3 * c 2)) (mkS M kp b) = _
    rw [f_X8_findFar_L44]
    simp only [io_0, gI_0, pI_0, pZ_0, io_1, gI_1, pI_1, pZ_1, io_2, gI_2, pI_2, pZ_2, aL_3, io_4, gI_4, pI_4, pZ_4, aL_5, io_6, gI_6, pI_6, pZ_6, aL_7, aL_8, io_9, gI_9, pI_9, pZ_9, aL_10, io_11, gI_11, pI_11, pZ_11, aL_12, io_13, gI_13, pI_13, pZ_13, aL_14, io_15, gI_15, pI_15, pZ_15, aL_16, io_17, gI_17, pI_17, pZ_17, aL_18, aL_19, io_20, gI_20, pI_20, pZ_20, aL_21, io_22, gI_22, pI_22, pZ_22, aL_23, io_24, gI_24, pI_24, pZ_24, aL_25, io_26, gI_26, pI_26, pZ_26, io_27, gI_27, pI_27, pZ_27, aL_28, aL_29, aL_30, aL_31, aL_32, aL_33, io_34, gI_34, pI_34, pZ_34, aL_35, io_36, gI_36, pI_36, pZ_36, aL_37, io_38, gI_38, pI_38, pZ_38, aL_39, io_40, gI_40, pI_40, pZ_40, aL_41, io_42, gI_42, pI_42, pZ_42, aL_43, aL_44, aL_45, aL_46, aL_47, aL_48, aL_49, aL_50, aL_51, aL_52, aL_53, aL_54, aL_55, aL_56, aL_57, aL_58, gq_0_0, gq_0_1, gq_0_2, gq_0_3, gq_0_4, gq_0_5, gq_0_6, gq_0_7, gq_1_0, gq_1_1, gq_1_2, gq_1_3, gq_1_4, gq_1_5, gq_1_6, gq_1_7, gq_1_8, gq_1_9, gq_2_2, gq_4_2, gq_6_2, gq_9_2, gq_11_2, gq_13_2, gq_15_2, gq_17_0, gq_20_0, gq_22_0, gq_24_0, gq_27_0, gq_34_0, gq_36_0, gq_38_0, gq_40_0, gq_42_0, gq_42_1, gq_42_3, gq_42_4, gq_42_11, gq_42_12, gq_42_13, gq_42_15, gq_42_16, gq_42_17, gq_42_18, gq_42_19, gq_42_23, gq_42_24, gq_42_25, gq_42_26, aQ_29_0, aQ_29_1, aQ_29_2, aQ_29_3, aQ_19_0, aQ_19_1, aQ_19_2, aQ_46_0, aQ_46_1, aQ_46_2, gq_26, gr_26, gr_0_8, pQ_26, Option.bind_some, ↓reduceIte, one_ne0, rdl_2, t3, ixLk, Int32.le_refl]) (c 2) 0 3000 F σ (by omega) (by omega) hR
def RK0 (m : Nat → Nat → Int32) (kp : Bool) (P : Option Nat → Prop) (C h n : Nat) (σ : St) : Prop := ∃ M b, σ = mkS M kp b ∧ P b ∧ EqS m M ∧ ∀ i, i < n → M C i = far0 h i
theorem RK0_w {M : Nat → Nat → Int32} {C h n : Nat} (hC : Sc C) (hP : P b) (hE : EqS m M) (hF : ∀ i, i < n → M C i = far0 h i) : RK0 m kp P C h (n + 1) (mkS (st1 M C n (far0 h n)) kp b) := by
  refine ⟨_, _, rfl, hP, hE.trans (EqS.st hC), fun i hi => ?_⟩
  rw [st1_app]
  by_cases e : i = n
  · rw [if_pos ⟨rfl, e⟩, e]
  · rw [if_neg (fun y => e y.2), hF i (by omega)]
theorem fe0 {h k : Nat} (h1 : h < 8) (h2 : k < 8) : (if nI k = nI h then 0 else 1000000 : Int32) = far0 h k := by
  unfold far0
  by_cases e : k = h
  · rw [if_pos e, if_pos (by rw [e])]
  · rw [if_neg e, if_neg (fun y => e ((nI_eq (by omega) (by omega)).mp y))]
theorem n8 {k : Nat} (h : k < 8) : ¬ (8 : Int32) ≤ nI k := nI_ge (b := 8) h (by decide)
theorem beh7 {h : Nat} {σ : St} (hS : RS m 1 43 c) (hh : h < 8) (hR : RK0 m kp P 32 h 0 σ) : ∃ σ', f_X7_findBehind σ 0 (nI h) = some σ' ∧ RK m kp P 32 (farF m (c 2) h) σ' := by
  obtain ⟨σ1, e1, hR1⟩ := loopY (fun l k (_ : Unit) σ => f_X7_findBehind_L2 0 (nI h) l (nI k) σ) (fun _ σ => (nI 8, σ)) (fun k _ σ => RK0 m kp P 32 h k σ) (fun _ a => a) 8 (fun l k a σ hk hQ => by
    obtain ⟨M, b, rfl, hP, hE, hF⟩ := hQ
    refine ⟨mkS (st1 M 32 k (far0 h k)) kp b, ?_, RK0_w sc32 hP hE hF⟩
    show f_X7_findBehind_L2 0 (nI h) (l + 1) (nI k) (mkS M kp b) = f_X7_findBehind_L2 0 (nI h) l (nI (k + 1)) _
    rw [f_X7_findBehind_L2, gq_0_6, Option.bind_some, aL_32, Option.bind_some, if_neg (nI_ge hk (by decide)), Option.bind_some, fe0 hh hk, wr_32 hk, Option.bind_some, nI_a1]) (fun l a σ hQ => by
    obtain ⟨M, b, rfl, hP, hE, hF⟩ := hQ
    show f_X7_findBehind_L2 0 (nI h) (l + 1) (nI 8) (mkS M kp b) = _
    rw [f_X7_findBehind_L2, gq_0_6, Option.bind_some, aL_32, Option.bind_some, if_pos (Int32.le_refl _)]) 8 0 3000 () σ (by omega) (by omega) hR
  obtain ⟨M1, b1, rfl, hP1, hE1, hF1⟩ := hR1
  obtain ⟨σ2, e2, hR2⟩ := loopY (fun l k (_ : Nat → Int32) σ => f_X7_findBehind_L37 0 l (nI k) σ) (fun _ σ => (nI 8, σ)) (fun _ F σ => RK m kp P 32 F σ) (farR m (c 2)) 8 (fun l k F σ hk hQ => by
    obtain ⟨σ', e, hR'⟩ := fb48 hS hQ
    obtain ⟨M, b, rfl, hP, hE, hF⟩ := hQ
    refine ⟨σ', ?_, hR'⟩
    show f_X7_findBehind_L37 0 (l + 1) (nI k) (mkS M kp b) = f_X7_findBehind_L37 0 l (nI (k + 1)) σ'
    rw [f_X7_findBehind_L37, gq_0_6, Option.bind_some, aL_32, Option.bind_some, if_neg (nI_ge hk (by decide)), e, Option.bind_some, nI_a1]) (fun l F σ hQ => by
    obtain ⟨M, b, rfl, hP, hE, hF⟩ := hQ
    show f_X7_findBehind_L37 0 (l + 1) (nI 8) (mkS M kp b) = _
    rw [f_X7_findBehind_L37, gq_0_6, Option.bind_some, aL_32, Option.bind_some, if_pos (Int32.le_refl _)]) 8 0 3000 (far0 h) (mkS M1 kp b1) (by omega) (by omega) ⟨M1, b1, rfl, hP1, hE1, hF1⟩
  refine ⟨σ2, ?_, hR2⟩
  have e1' : f_X7_findBehind_L2 0 (nI h) 3000 0 σ = some (nI 8, mkS M1 kp b1) := e1
  have e2' : f_X7_findBehind_L37 0 3000 0 (mkS M1 kp b1) = some (nI 8, σ2) := e2
  obtain ⟨M, b, rfl, hP, hE, hF⟩ := hR
  unfold f_X7_findBehind
  rw [if_pos io_0, e1', Option.bind_some, e2', Option.bind_some]
theorem far8 {h : Nat} {σ : St} (hS : RS m 1 43 c) (hh : h < 8) (hR : RK0 m kp P 52 h 0 σ) : ∃ σ', f_X8_findFar σ 42 (nI h) = some σ' ∧ RK m kp P 52 (farF m (c 2) h) σ' := by
  obtain ⟨σ1, e1, hR1⟩ := loopY (fun l k (_ : Unit) σ => f_X8_findFar_L2 42 (nI h) l (nI k) σ) (fun _ σ => (nI 8, σ)) (fun k _ σ => RK0 m kp P 52 h k σ) (fun _ a => a) 8 (fun l k a σ hk hQ => by
    obtain ⟨M, b, rfl, hP, hE, hF⟩ := hQ
    refine ⟨mkS (st1 M 52 k (far0 h k)) kp b, ?_, RK0_w sc52 hP hE hF⟩
    show f_X8_findFar_L2 42 (nI h) (l + 1) (nI k) (mkS M kp b) = f_X8_findFar_L2 42 (nI h) l (nI (k + 1)) _
    rw [f_X8_findFar_L2, if_neg (n8 hk), gq_42_17, Option.bind_some, fe0 hh hk, wr_52 hk, Option.bind_some, nI_a1]) (fun l a σ hQ => by
    obtain ⟨M, b, rfl, hP, hE, hF⟩ := hQ
    show f_X8_findFar_L2 42 (nI h) (l + 1) (nI 8) (mkS M kp b) = _
    rw [f_X8_findFar_L2, if_pos (show (8 : Int32) ≤ nI 8 by decide)]) 8 0 3000 () σ (by omega) (by omega) hR
  obtain ⟨M1, b1, rfl, hP1, hE1, hF1⟩ := hR1
  obtain ⟨σ2, e2, hR2⟩ := loopY (fun l k (_ : Nat → Int32) σ => f_X8_findFar_L34 42 l (nI k) σ) (fun _ σ => (nI 8, σ)) (fun _ F σ => RK m kp P 52 F σ) (farR m (c 2)) 8 (fun l k F σ hk hQ => by
    obtain ⟨σ', e, hR'⟩ := ff44 hS hQ
    refine ⟨σ', ?_, hR'⟩
    show f_X8_findFar_L34 42 (l + 1) (nI k) σ = f_X8_findFar_L34 42 l (nI (k + 1)) σ'
    rw [f_X8_findFar_L34, if_neg (n8 hk), e, Option.bind_some, nI_a1]) (fun l F σ hQ => by
    show f_X8_findFar_L34 42 (l + 1) (nI 8) σ = _
    rw [f_X8_findFar_L34, if_pos (show (8 : Int32) ≤ nI 8 by decide)]) 8 0 3000 (far0 h) (mkS M1 kp b1) (by omega) (by omega) ⟨M1, b1, rfl, hP1, hE1, hF1⟩
  refine ⟨σ2, ?_, hR2⟩
  have e1' : f_X8_findFar_L2 42 (nI h) 3000 0 σ = some (nI 8, mkS M1 kp b1) := e1
  have e2' : f_X8_findFar_L34 42 3000 0 (mkS M1 kp b1) = some (nI 8, σ2) := e2
  obtain ⟨M, b, rfl, hP, hE, hF⟩ := hR
  unfold f_X8_findFar
  rw [if_pos io_42, e1', Option.bind_some, e2', Option.bind_some]
end FA
