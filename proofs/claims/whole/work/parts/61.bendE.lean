section BE
variable {m : Nat → Nat → Int32} {kp : Bool} {b : Option Nat} {z : Nat}
theorem FS_uq {p q X Y f : Nat} {P : Nat → Nat → Prop} {a a' : Int32} (h : FS m p q X Y f P a) (h' : FS m p q X Y f P a') : a = a' := by
  rcases h with ⟨a1, a2⟩ | ⟨bk0, t0, u0, d0, i0, b1, b2, b3, b4, b5⟩
  · rcases h' with ⟨c1, c2⟩ | ⟨bk1, t1, u1, d1, i1, c1, c2, c3, c4, c5⟩
    · rw [a1, c1]
    · exact absurd c3 (a2 bk1 i1 t1 u1 d1 c1 c2)
  · rcases h' with ⟨c1, c2⟩ | ⟨bk1, t1, u1, d1, i1, c1, c2, c3, c4, c5⟩
    · exact absurd b3 (c2 bk0 i0 t0 u0 d0 b1 b2)
    · rw [b4, c4, Nat.le_antisymm (b5 bk1 t1 u1 d1 i1 c1 c2 c3) (c5 bk0 t0 u0 d0 i0 b1 b2 b3)]
theorem fst7 {n p q f : Nat} (h : CvC m n) (hp : p < n) (hq : q < n) (hf : f ≤ 5) : f_X0_first (mkS m kp b) 1 (nI p) (nI q) (nI f) = some (cdR (bF5 m p q f)) := by
  obtain ⟨a, e, hF⟩ := first7 (kp := kp) (b := b) h hp hq hf
  rw [e, FS_uq hF (bF5_spec hf (h.2.2.2.2.2 p hp).2.1).1]
theorem cdR_neg {n p q f : Nat} (h : CvC m n) (hp : p < n) (hf : f ≤ 5) : (cdR (bF5 m p q f) < 0) ↔ bF5 m p q f = none := by
  have hz := (h.2.2.2.2.2 p hp).2.1
  have := (bF5_spec (m := m) (p := p) (q := q) (f := f) hf hz).2
  cases e : bF5 m p q f with
  | none => exact ⟨fun _ => rfl, fun _ => by decide⟩
  | some t =>
    obtain ⟨t1, t2, t3⟩ := this t e
    have hc := codB_lt (bk := t.1 / 2) (i := t.2.2.2) hf (by omega) t3 (by omega)
    refine ⟨fun q => absurd q (nI_pos (by omega)), fun q => by cases q⟩
theorem bS1_14 {t : T4} : bS1 m t 42 14 = 1 := by unfold bS1; exact st1_eq
theorem bS0_14 : bS0 m 42 14 = 0 := by unfold bS0; exact st1_eq
theorem sc50 : Sc 50 := by unfold Sc; omega
theorem EqS_bS0 : EqS m (bS0 m) := EqS.s42 (by decide) (by decide)
theorem EqS_bS1 {t : T4} : EqS m (bS1 m t) := by
  unfold bS1
  exact EqS_bS0.trans ((EqS.st sc50).trans ((EqS.st sc50).trans ((EqS.st sc50).trans ((EqS.st sc50).trans ((EqS.st sc50).trans (EqS.s42 (by decide) (by decide)))))))
theorem EqS_bSR {o : Option T4} : EqS m (bSR m o) := by
  cases o with
  | none => exact EqS_bS0
  | some t => exact EqS_bS1
theorem bends8 {n p q f : Nat} (h : CvC m n) (hp : p < n) (hq : q < n) (hf : f ≤ 5) : f_X8_bends (mkS m kp b) 42 (nI p) (nI q) (nI f) = some (if (bF5 m p q f) = none then 0 else 1, mkS (bSR m (bF5 m p q f)) kp b) := by
  unfold f_X8_bends
  rw [if_pos io_42, fb8 h hp hq hf, Option.bind_some, gI_42, Option.bind_some, z01, Option.bind_some]
  cases bF5 m p q f with
  | none =>
    show some ((if bS0 m 42 14 ≤ 0 then 0 else 1 : Int32), _) = _
    rw [bS0_14]
    rfl
  | some t =>
    show some ((if bS1 m t 42 14 ≤ 0 then 0 else 1 : Int32), _) = _
    rw [bS1_14]
    rfl
theorem CvC_S {n : Nat} {M : Nat → Nat → Int32} (h : CvC m n) (hE : EqS m M) : CvC M n := CvC_fr h (hE.at _ (by omega) (by omega)) (hE.at _ (by omega) (by omega)) (hE.at _ (by omega) (by omega)) (hE.at _ (by omega) (by omega))
theorem bF5_fr {M : Nat → Nat → Int32} (h : M 43 = m 43) : bF5 M = bF5 m := by
  have e2 : szN M = szN m := by funext c; unfold szN; rw [h]
  funext p q f
  unfold bF5 bF4 bF3 bF2 bF1
  rw [bdB_fr h, e2]
/-! how many: the reference -/
theorem loopX (L : Nat → Nat → St → Option (St ⊕ (Int32 × St))) (R : Nat → St → Prop) (w : Nat → Nat) (n : Nat) (hs : ∀ f i c σ, i < n → R c σ → ∃ σ', L (f + 1) i σ = L f (i + 1) σ' ∧ R (c + w i) σ') (he : ∀ f c σ, R c σ → L (f + 1) n σ = some (.inr (nI n, σ))) : ∀ k i f c σ, i + k = n → k < f → R c σ → ∃ σ', L f i σ = some (.inr (nI n, σ')) ∧ R (c + sm w k i) σ' := by
  intro k
  induction k with
  | zero =>
    intro i f c σ h1 h2 hR
    obtain ⟨f, rfl⟩ : ∃ q, f = q + 1 := ⟨f - 1, by omega⟩
    have : i = n := by omega
    subst this
    exact ⟨σ, he f c σ hR, hR⟩
  | succ k ih =>
    intro i f c σ h1 h2 hR
    obtain ⟨f, rfl⟩ : ∃ q, f = q + 1 := ⟨f - 1, by omega⟩
    obtain ⟨σ', e, hR'⟩ := hs f i c σ (by omega) hR
    obtain ⟨σ2, e2, hR2⟩ := ih (i + 1) f (c + w i) σ' (by omega) (by omega) hR'
    refine ⟨σ2, e.trans e2, ?_⟩
    show R (c + (w i + sm w k (i + 1))) σ2
    rw [← Nat.add_assoc]
    exact hR2
noncomputable def bd1 (m : Nat → Nat → Int32) (p q h u d i : Nat) : Nat := if bdB m p q h u d i = true then 1 else 0
noncomputable def bw2 (m : Nat → Nat → Int32) (p q h u d : Nat) : Nat := if Nat.gcd u d = 1 then sm (bd1 m p q h u d) (szN m p) 0 else 0
noncomputable def bw3 (m : Nat → Nat → Int32) (p q f h u : Nat) : Nat := sm (bw2 m p q h u) f 1
noncomputable def bw4 (m : Nat → Nat → Int32) (p q f h : Nat) : Nat := sm (bw3 m p q f h) f 1
def cR (m : Nat → Nat → Int32) (kp : Bool) (b : Option Nat) (c : Nat) (σ : St) : Prop := ∃ M, σ = mkS M kp b ∧ EqS m M ∧ M 42 14 = nI c
theorem cn35 {n p q h u d c : Nat} {σ : St} (hC : CvC m n) (hp : p < n) (hq : q < n) (hh : h < 4) (hu : u ≤ 5) (hd : d ≤ 5) (hR : cR m kp b c σ) : ∃ y σ', f_X8_findBendings_L35 (nI d) (nI u) (nI h) 42 (nI p) (nI q) 0 3000 0 σ = some (.inr (y, σ')) ∧ cR m kp b (c + bw2 m p q h u d) σ' := by
  obtain ⟨p1, p2, p3, p4⟩ := hC.2.2.2.2.2 p hp
  have hn := hC.2.2.2.1
  have em : ∀ M, EqS m M → f_X8_many (mkS M kp b) 42 (nI p) = some (nI (szN m p)) := fun M hE => by rw [mmany (show p < 24 by omega), hE.at 43 (by omega) (by omega), p3]
  by_cases hg : Nat.gcd u d = 1
  · have e2 : bw2 m p q h u d = sm (bd1 m p q h u d) (szN m p) 0 := if_pos hg
    rw [e2]
    obtain ⟨σ', e, hR'⟩ := loopX (fun f i σ => f_X8_findBendings_L35 (nI d) (nI u) (nI h) 42 (nI p) (nI q) 0 f (nI i) σ) (cR m kp b) (bd1 m p q h u d) (szN m p) (fun f i c σ hi hR => by
      obtain ⟨M, rfl, hE, h14⟩ := hR
      have h43 : M 43 = m 43 := hE.at 43 (by omega) (by omega)
      have hsz : szN M = szN m := by funext c; unfold szN; rw [h43]
      have ed := div8 (σ := mkS M kp b) (a := u) (b := d) (by omega) (by omega)
      rw [hg] at ed
      show ∃ σ', f_X8_findBendings_L35 (nI d) (nI u) (nI h) 42 (nI p) (nI q) 0 (f + 1) (nI i) (mkS M kp b) = f_X8_findBendings_L35 (nI d) (nI u) (nI h) 42 (nI p) (nI q) 0 f (nI (i + 1)) σ' ∧ _
      rw [f_X8_findBendings_L35, em M hE, Option.bind_some, if_neg (nI_ge hi (by omega)), ed, Option.bind_some, if_pos (show nI 1 = 1 from rfl), isB8 (CvC_S hC hE) hp hq hh hu hd (by rw [hsz]; exact hi), Option.bind_some, bdB_fr h43, nI_a1]
      unfold bd1
      by_cases hb : bdB m p q h u d i = true
      · rw [if_pos hb, if_pos hb, if_neg (show ¬ (1 : Int32) = 0 by decide), gI_42, Option.bind_some]
        by_cases h0 : M 42 14 = 0
        · rw [if_pos h0]
          refine ⟨mkS (st1 (st1 (st1 (st1 (st1 (st1 M 50 0 (nI h / 2)) 50 1 (irm (nI h) 2)) 50 2 (nI u)) 50 3 (nI d)) 50 4 (nI i)) 42 14 (nI c + 1)) kp b, ?_, ⟨_, rfl, hE.trans ((EqS.st sc50).trans ((EqS.st sc50).trans ((EqS.st sc50).trans ((EqS.st sc50).trans ((EqS.st sc50).trans (EqS.s42 (by decide) (by decide))))))), by rw [st1_eq, nI_a1]⟩⟩
          simp only [io_0, gI_0, pI_0, pZ_0, io_1, gI_1, pI_1, pZ_1, io_2, gI_2, pI_2, pZ_2, aL_3, io_4, gI_4, pI_4, pZ_4, aL_5, io_6, gI_6, pI_6, pZ_6, aL_7, aL_8, io_9, gI_9, pI_9, pZ_9, aL_10, io_11, gI_11, pI_11, pZ_11, aL_12, io_13, gI_13, pI_13, pZ_13, aL_14, io_15, gI_15, pI_15, pZ_15, aL_16, io_17, gI_17, pI_17, pZ_17, aL_18, aL_19, io_20, gI_20, pI_20, pZ_20, aL_21, io_22, gI_22, pI_22, pZ_22, aL_23, io_24, gI_24, pI_24, pZ_24, aL_25, io_26, gI_26, pI_26, pZ_26, io_27, gI_27, pI_27, pZ_27, aL_28, aL_29, aL_30, aL_31, aL_32, aL_33, io_34, gI_34, pI_34, pZ_34, aL_35, io_36, gI_36, pI_36, pZ_36, aL_37, io_38, gI_38, pI_38, pZ_38, aL_39, io_40, gI_40, pI_40, pZ_40, aL_41, io_42, gI_42, pI_42, pZ_42, aL_43, aL_44, aL_45, aL_46, aL_47, aL_48, aL_49, aL_50, aL_51, aL_52, aL_53, aL_54, aL_55, aL_56, aL_57, aL_58, gq_0_0, gq_0_1, gq_0_2, gq_0_3, gq_0_4, gq_0_5, gq_0_6, gq_0_7, gq_1_0, gq_1_1, gq_1_2, gq_1_3, gq_1_4, gq_1_5, gq_1_6, gq_1_7, gq_1_8, gq_1_9, gq_2_2, gq_4_2, gq_6_2, gq_9_2, gq_11_2, gq_13_2, gq_15_2, gq_17_0, gq_20_0, gq_22_0, gq_24_0, gq_27_0, gq_34_0, gq_36_0, gq_38_0, gq_40_0, gq_42_0, gq_42_1, gq_42_3, gq_42_4, gq_42_11, gq_42_12, gq_42_13, gq_42_15, gq_42_16, gq_42_17, gq_42_18, gq_42_19, gq_42_23, gq_42_24, gq_42_25, gq_42_26, aQ_29_0, aQ_29_1, aQ_29_2, aQ_29_3, aQ_19_0, aQ_19_1, aQ_19_2, aQ_46_0, aQ_46_1, aQ_46_2, gq_26, gr_26, gr_0_8, pQ_26, Option.bind_some, ↓reduceIte, one_ne0, wr50_0, wr50_1, wr50_2, wr50_3, wr50_4, st1_ne (show (42 : Nat) ≠ 50 by decide), h14]
        · rw [if_neg h0]
          refine ⟨mkS (st1 M 42 14 (nI c + 1)) kp b, ?_, ⟨_, rfl, hE.trans (EqS.s42 (by decide) (by decide)), by rw [st1_eq, nI_a1]⟩⟩
          simp only [io_0, gI_0, pI_0, pZ_0, io_1, gI_1, pI_1, pZ_1, io_2, gI_2, pI_2, pZ_2, aL_3, io_4, gI_4, pI_4, pZ_4, aL_5, io_6, gI_6, pI_6, pZ_6, aL_7, aL_8, io_9, gI_9, pI_9, pZ_9, aL_10, io_11, gI_11, pI_11, pZ_11, aL_12, io_13, gI_13, pI_13, pZ_13, aL_14, io_15, gI_15, pI_15, pZ_15, aL_16, io_17, gI_17, pI_17, pZ_17, aL_18, aL_19, io_20, gI_20, pI_20, pZ_20, aL_21, io_22, gI_22, pI_22, pZ_22, aL_23, io_24, gI_24, pI_24, pZ_24, aL_25, io_26, gI_26, pI_26, pZ_26, io_27, gI_27, pI_27, pZ_27, aL_28, aL_29, aL_30, aL_31, aL_32, aL_33, io_34, gI_34, pI_34, pZ_34, aL_35, io_36, gI_36, pI_36, pZ_36, aL_37, io_38, gI_38, pI_38, pZ_38, aL_39, io_40, gI_40, pI_40, pZ_40, aL_41, io_42, gI_42, pI_42, pZ_42, aL_43, aL_44, aL_45, aL_46, aL_47, aL_48, aL_49, aL_50, aL_51, aL_52, aL_53, aL_54, aL_55, aL_56, aL_57, aL_58, gq_0_0, gq_0_1, gq_0_2, gq_0_3, gq_0_4, gq_0_5, gq_0_6, gq_0_7, gq_1_0, gq_1_1, gq_1_2, gq_1_3, gq_1_4, gq_1_5, gq_1_6, gq_1_7, gq_1_8, gq_1_9, gq_2_2, gq_4_2, gq_6_2, gq_9_2, gq_11_2, gq_13_2, gq_15_2, gq_17_0, gq_20_0, gq_22_0, gq_24_0, gq_27_0, gq_34_0, gq_36_0, gq_38_0, gq_40_0, gq_42_0, gq_42_1, gq_42_3, gq_42_4, gq_42_11, gq_42_12, gq_42_13, gq_42_15, gq_42_16, gq_42_17, gq_42_18, gq_42_19, gq_42_23, gq_42_24, gq_42_25, gq_42_26, aQ_29_0, aQ_29_1, aQ_29_2, aQ_29_3, aQ_19_0, aQ_19_1, aQ_19_2, aQ_46_0, aQ_46_1, aQ_46_2, gq_26, gr_26, gr_0_8, pQ_26, Option.bind_some, ↓reduceIte, one_ne0, h14]
      · rw [if_neg hb, if_neg hb, if_pos rfl]
        exact ⟨mkS M kp b, rfl, M, rfl, hE, h14⟩) (fun f c σ hR => by
      obtain ⟨M, rfl, hE, h14⟩ := hR
      show f_X8_findBendings_L35 (nI d) (nI u) (nI h) 42 (nI p) (nI q) 0 (f + 1) (nI (szN m p)) (mkS M kp b) = _
      rw [f_X8_findBendings_L35, em M hE, Option.bind_some, if_pos (Int32.le_refl _)]) (szN m p) 0 3000 c σ (by omega) (by omega) hR
    exact ⟨_, σ', e, hR'⟩
  · obtain ⟨M, rfl, hE, h14⟩ := hR
    have e2 : bw2 m p q h u d = 0 := if_neg hg
    have ed := div8 (σ := mkS M kp b) (a := u) (b := d) (by omega) (by omega)
    have hg5 : Nat.gcd u d ≤ 10 := by
      rcases Nat.eq_zero_or_pos u with e | e
      · rw [e, Nat.gcd_zero_left]; omega
      · exact Nat.le_trans (Nat.gcd_le_left d e) (by omega)
    refine ⟨0, mkS M kp b, ?_, M, rfl, hE, by rw [e2]; exact h14⟩
    rw [f_X8_findBendings_L35, em M hE, Option.bind_some, if_neg (nI_nle (by omega) (by omega)), ed, Option.bind_some, if_neg (show ¬ nI (Nat.gcd u d) = (1 : Int32) from fun y => hg ((nI_eq (b := 1) (by omega) (by decide)).mp y))]
theorem cn26 {n p q f h u c : Nat} {σ : St} (hC : CvC m n) (hp : p < n) (hq : q < n) (hf : f ≤ 5) (hh : h < 4) (hu : u ≤ 5) (hR : cR m kp b c σ) : ∃ σ', f_X8_findBendings_L26 (nI u) (nI h) 42 (nI p) (nI q) (nI f) 0 3000 1 σ = some (.inr (nI (f + 1), σ')) ∧ cR m kp b (c + bw3 m p q f h u) σ' :=
  loopX (fun l d σ => f_X8_findBendings_L26 (nI u) (nI h) 42 (nI p) (nI q) (nI f) 0 l (nI d) σ) (cR m kp b) (bw2 m p q h u) (f + 1) (fun l d c σ hd hR => by
    obtain ⟨y, σ', e, hR'⟩ := cn35 hC hp hq hh hu (show d ≤ 5 by omega) hR
    refine ⟨σ', ?_, hR'⟩
    show f_X8_findBendings_L26 (nI u) (nI h) 42 (nI p) (nI q) (nI f) 0 (l + 1) (nI d) σ = f_X8_findBendings_L26 (nI u) (nI h) 42 (nI p) (nI q) (nI f) 0 l (nI (d + 1)) σ'
    rw [f_X8_findBendings_L26, if_neg (nI_nlt (by omega) (by omega)), e, nI_a1]
    rfl) (fun l c σ hR => by
    show f_X8_findBendings_L26 (nI u) (nI h) 42 (nI p) (nI q) (nI f) 0 (l + 1) (nI (f + 1)) σ = _
    rw [f_X8_findBendings_L26, if_pos (nI_lt (by omega) (by omega))]) f 1 3000 c σ (by omega) (by omega) hR
theorem cn17 {n p q f h c : Nat} {σ : St} (hC : CvC m n) (hp : p < n) (hq : q < n) (hf : f ≤ 5) (hh : h < 4) (hR : cR m kp b c σ) : ∃ σ', f_X8_findBendings_L17 (nI h) 42 (nI p) (nI q) (nI f) 0 3000 1 σ = some (.inr (nI (f + 1), σ')) ∧ cR m kp b (c + bw4 m p q f h) σ' :=
  loopX (fun l u σ => f_X8_findBendings_L17 (nI h) 42 (nI p) (nI q) (nI f) 0 l (nI u) σ) (cR m kp b) (bw3 m p q f h) (f + 1) (fun l u c σ hu hR => by
    obtain ⟨σ', e, hR'⟩ := cn26 hC hp hq hf hh (show u ≤ 5 by omega) hR
    refine ⟨σ', ?_, hR'⟩
    show f_X8_findBendings_L17 (nI h) 42 (nI p) (nI q) (nI f) 0 (l + 1) (nI u) σ = f_X8_findBendings_L17 (nI h) 42 (nI p) (nI q) (nI f) 0 l (nI (u + 1)) σ'
    rw [f_X8_findBendings_L17, if_neg (nI_nlt (by omega) (by omega)), e, nI_a1]
    rfl) (fun l c σ hR => by
    show f_X8_findBendings_L17 (nI h) 42 (nI p) (nI q) (nI f) 0 (l + 1) (nI (f + 1)) σ = _
    rw [f_X8_findBendings_L17, if_pos (nI_lt (by omega) (by omega))]) f 1 3000 c σ (by omega) (by omega) hR
theorem cn8 {n p q f : Nat} (hC : CvC m n) (hp : p < n) (hq : q < n) (hf : f ≤ 5) : ∃ M, f_X8_findBendings (mkS m kp b) 42 (nI p) (nI q) (nI f) 0 = some (mkS M kp b) ∧ EqS m M ∧ M 42 14 = nI (sm (bw4 m p q f) 4 0) := by
  unfold f_X8_findBendings
  rw [if_pos io_42, pI_42, Option.bind_some]
  obtain ⟨σ', e, M, rfl, hE, h14⟩ := loopX (fun l h σ => f_X8_findBendings_L8 42 (nI p) (nI q) (nI f) 0 l (nI h) σ) (cR m kp b) (bw4 m p q f) 4 (fun l h c σ hh hR => by
    obtain ⟨σ', e, hR'⟩ := cn17 hC hp hq hf hh hR
    refine ⟨σ', ?_, hR'⟩
    show f_X8_findBendings_L8 42 (nI p) (nI q) (nI f) 0 (l + 1) (nI h) σ = f_X8_findBendings_L8 42 (nI p) (nI q) (nI f) 0 l (nI (h + 1)) σ'
    rw [f_X8_findBendings_L8, if_neg (n4 hh), e, nI_a1]
    rfl) (fun l c σ hR => by
    show f_X8_findBendings_L8 42 (nI p) (nI q) (nI f) 0 (l + 1) (nI 4) σ = _
    rw [f_X8_findBendings_L8, if_pos (show (4 : Int32) ≤ nI 4 by decide)]) 4 0 3000 0 (mkS (bS0 m) kp b) (by omega) (by omega) ⟨bS0 m, rfl, EqS_bS0, bS0_14⟩
  rw [Nat.zero_add] at h14
  refine ⟨M, ?_, hE, h14⟩
  have e' : f_X8_findBendings_L8 42 (nI p) (nI q) (nI f) 0 3000 0 (mkS (st1 m 42 14 0) kp b) = _ := e
  rw [e']
  rfl
/-! the two counts are one -/
noncomputable def bG (m : Nat → Nat → Int32) (p q h u d i : Nat) : Nat := if Nat.gcd u d = 1 then bd1 m p q h u d i else 0
noncomputable def bH (m : Nat → Nat → Int32) (p q f h i : Nat) : Nat := sm (fun u => sm (fun d => bG m p q h u d i) f 1) f 1
theorem bw4_eq {p q f h : Nat} : bw4 m p q f h = sm (bH m p q f h) (szN m p) 0 := by
  have e2 : ∀ u d, bw2 m p q h u d = sm (fun i => bG m p q h u d i) (szN m p) 0 := fun u d => by
    unfold bw2 bG
    by_cases hg : Nat.gcd u d = 1
    · rw [if_pos hg]; exact sm_congr _ _ (fun j _ _ => by rw [if_pos hg])
    · rw [if_neg hg]; exact (sm_none (fun j _ _ => by rw [if_neg hg])).symm
  have e3 : ∀ u, bw3 m p q f h u = sm (fun i => sm (fun d => bG m p q h u d i) f 1) (szN m p) 0 := fun u => by
    unfold bw3
    rw [sm_congr f 1 (fun d _ _ => e2 u d)]
    exact sm_comm f 1
  unfold bw4 bH
  rw [sm_congr f 1 (fun u _ _ => e3 u)]
  exact sm_comm f 1
theorem bG_nz {p q f h u d i : Nat} (hh : h < 4) (h1 : 1 ≤ u) (h2 : u ≤ f) (h3 : 1 ≤ d) (h4 : d ≤ f) (hz : bG m p q h u d i ≠ 0) : Val f (h % 2) u d ∧ Bd m p q (szN m p) (szN m q) (h / 2) (h % 2) u d i := by
  unfold bG bd1 at hz
  by_cases hg : Nat.gcd u d = 1
  · rw [if_pos hg] at hz
    by_cases hb : bdB m p q h u d i = true
    · exact ⟨⟨by omega, h1, h2, h3, h4, hg⟩, bdB_t.mp hb⟩
    · rw [if_neg hb] at hz; exact absurd rfl hz
  · rw [if_neg hg] at hz; exact absurd rfl hz
theorem bH_none {p q f h i : Nat} (hh : h < 4) (hno : ∀ u d, Val f (h % 2) u d → ¬ Bd m p q (szN m p) (szN m q) (h / 2) (h % 2) u d i) : bH m p q f h i = 0 := by
  unfold bH
  refine sm_none (fun u h1 h2 => sm_none (fun d h3 h4 => ?_))
  refine Classical.byContradiction (fun hz => ?_)
  obtain ⟨v, hB⟩ := bG_nz hh h1 (show u ≤ f by omega) h3 (show d ≤ f by omega) hz
  exact hno u d v hB
theorem bH_one {p q f h i u0 d0 : Nat} (hh : h < 4) (v : Val f (h % 2) u0 d0) (hB : Bd m p q (szN m p) (szN m q) (h / 2) (h % 2) u0 d0 i) : bH m p q f h i = 1 := by
  have hval : bG m p q h u0 d0 i = 1 := by
    unfold bG bd1
    rw [if_pos v.2.2.2.2.2, if_pos (bdB_t.mpr hB)]
  unfold bH
  rw [sm_one (j0 := u0) f 1 v.2.1 (by have := v.2.2.1; omega) (fun u h1 h2 h3 => sm_none (fun d h4 h5 => Classical.byContradiction (fun hz => by
    obtain ⟨v', hB'⟩ := bG_nz hh h1 (show u ≤ f by omega) h4 (show d ≤ f by omega) hz
    exact h3 (Bd_uq hB' hB v' v).2.1)))]
  rw [sm_one (j0 := d0) f 1 v.2.2.2.1 (by have := v.2.2.2.2.1; omega) (fun d h4 h5 h6 => Classical.byContradiction (fun hz => by
    obtain ⟨v', hB'⟩ := bG_nz hh v.2.1 v.2.2.1 h4 (show d ≤ f by omega) hz
    exact h6 (Bd_uq hB' hB v' v).2.2))]
  exact hval
theorem eB_eq {n p q f bk i : Nat} (hC : CvC m n) (hp : p < n) (hq : q < n) (hf : f ≤ 5) (hbk : bk < 2) (hi : i < szN m p) : eB m kp b p q f bk i = bH m p q f (2 * bk) i + bH m p q f (2 * bk + 1) i := by
  have hz := (hC.2.2.2.2.2 p hp).2.1
  have a1 : (2 * bk) / 2 = bk := by omega
  have a2 : (2 * bk) % 2 = 0 := by omega
  have a3 : (2 * bk + 1) / 2 = bk := by omega
  have a4 : (2 * bk + 1) % 2 = 1 := by omega
  unfold eB
  rcases (rB_eq (kp := kp) (b := b) hC hp hq hf hbk hi).2 with ⟨r1, r2⟩ | ⟨t, u, d, v, hB, er⟩
  · rw [r1, if_pos (by decide), bH_none (by omega) (fun u d v => by rw [a1, a2] at *; exact r2 0 u d v), bH_none (by omega) (fun u d v => by rw [a3, a4] at *; exact r2 1 u d v)]
  · have hc := codB_lt hf hbk v (show i < 24 by omega)
    rw [er, if_neg (nI_pos (by omega))]
    have ht : t = 0 ∨ t = 1 := by have := v.1; omega
    rcases ht with rfl | rfl
    · rw [bH_one (u0 := u) (d0 := d) (by omega) (by rw [a2]; exact v) (by rw [a1, a2]; exact hB), bH_none (by omega) (fun u' d' v' hB' => by
        rw [a3, a4] at hB'
        rw [a4] at v'
        have := (Bd_uq hB hB' v v').1
        omega)]
    · rw [bH_none (by omega) (fun u' d' v' hB' => by
        rw [a1, a2] at hB'
        rw [a2] at v'
        have := (Bd_uq hB hB' v v').1
        omega), bH_one (u0 := u) (d0 := d) (by omega) (by rw [a4]; exact v) (by rw [a3, a4]; exact hB)]
theorem cnt_eq {n p q f : Nat} (hC : CvC m n) (hp : p < n) (hq : q < n) (hf : f ≤ 5) : sm (eB m kp b p q f 0) (szN m p) 0 + sm (eB m kp b p q f 1) (szN m p) 0 = sm (bw4 m p q f) 4 0 := by
  have e0 : sm (eB m kp b p q f 0) (szN m p) 0 = sm (bH m p q f 0) (szN m p) 0 + sm (bH m p q f 1) (szN m p) 0 := by
    rw [← sm_add]; exact sm_congr _ _ (fun j _ h2 => eB_eq hC hp hq hf (by decide) (by omega))
  have e1 : sm (eB m kp b p q f 1) (szN m p) 0 = sm (bH m p q f 2) (szN m p) 0 + sm (bH m p q f 3) (szN m p) 0 := by
    rw [← sm_add]; exact sm_congr _ _ (fun j _ h2 => eB_eq hC hp hq hf (by decide) (by omega))
  show _ = bw4 m p q f 0 + (bw4 m p q f 1 + (bw4 m p q f 2 + (bw4 m p q f 3 + 0)))
  rw [e0, e1, bw4_eq, bw4_eq, bw4_eq, bw4_eq]
  omega
/-! bent -/
theorem part_eq {σ : St} {t : T4} {f k : Nat} (hf : f ≤ 5) (h1 : t.1 < 4) (h2 : t.2.2.2 < 24) (v : Val f (t.1 % 2) t.2.1 t.2.2.1) (hk1 : 1 ≤ k) (hk : k ≤ 5) : f_X0_part σ (nI (codB (t.1 / 2) (t.1 % 2) t.2.1 t.2.2.1 t.2.2.2)) (nI k) = some (bS1 m t 50 (k - 1)) := by
  obtain ⟨h, u, d, i⟩ := t
  obtain ⟨v1, v2, v3, v4, v5, v6⟩ := v
  dsimp only at *
  have hc : codB (h / 2) (h % 2) u d i = ((h * 6 + u) * 6 + d) * 24 + i := by unfold codB; rw [show h / 2 * 2 + h % 2 = h by omega]
  rw [hc]
  have d1 : (((h * 6 + u) * 6 + d) * 24 + i) / 24 = (h * 6 + u) * 6 + d := by omega
  have d2 : ((h * 6 + u) * 6 + d) / 6 = h * 6 + u := by omega
  have d3 : (h * 6 + u) / 6 = h := by omega
  have r1 : (((h * 6 + u) * 6 + d) * 24 + i) % 24 = i := by omega
  have r2 : ((h * 6 + u) * 6 + d) % 6 = d := by omega
  have r3 : (h * 6 + u) % 6 = u := by omega
  have D1 : nI (((h * 6 + u) * 6 + d) * 24 + i) / 24 = nI ((h * 6 + u) * 6 + d) := (dv (x := ((h * 6 + u) * 6 + d) * 24 + i) (k := 24) (by omega) (by decide)).trans (congrArg nI d1)
  have D2 : nI ((h * 6 + u) * 6 + d) / 6 = nI (h * 6 + u) := (dv (x := (h * 6 + u) * 6 + d) (k := 6) (by omega) (by decide)).trans (congrArg nI d2)
  have D3 : nI (h * 6 + u) / 6 = nI h := (dv (x := h * 6 + u) (k := 6) (by omega) (by decide)).trans (congrArg nI d3)
  have R1 : irm (nI (((h * 6 + u) * 6 + d) * 24 + i)) 24 = nI i := (rmN (x := ((h * 6 + u) * 6 + d) * 24 + i) (k := 24) (by omega) (by decide)).trans (congrArg nI r1)
  have R2 : irm (nI ((h * 6 + u) * 6 + d)) 6 = nI d := (rmN (x := (h * 6 + u) * 6 + d) (k := 6) (by omega) (by decide)).trans (congrArg nI r2)
  have R3 : irm (nI (h * 6 + u)) 6 = nI u := (rmN (x := h * 6 + u) (k := 6) (by omega) (by decide)).trans (congrArg nI r3)
  unfold f_X0_part bS1
  dsimp only
  have hk' : k = 1 ∨ k = 2 ∨ k = 3 ∨ k = 4 ∨ k = 5 := by omega
  rcases hk' with rfl | rfl | rfl | rfl | rfl
  · rw [if_pos (show nI 1 = 1 from rfl), D1, D2, D3, h2d h1, st1_ne (by decide), st1_nf (by decide), st1_nf (by decide), st1_nf (by decide), st1_nf (by decide), st1_eq]
  · rw [if_neg (show ¬ nI 2 = 1 by decide), if_pos (show nI 2 = 2 from rfl), D1, D2, D3, h2r h1, st1_ne (by decide), st1_nf (by decide), st1_nf (by decide), st1_nf (by decide), st1_eq]
  · rw [if_neg (show ¬ nI 3 = 1 by decide), if_neg (show ¬ nI 3 = 2 by decide), if_pos (show nI 3 = 3 from rfl), D1, D2, R3, st1_ne (by decide), st1_nf (by decide), st1_nf (by decide), st1_eq]
  · rw [if_neg (show ¬ nI 4 = 1 by decide), if_neg (show ¬ nI 4 = 2 by decide), if_neg (show ¬ nI 4 = 3 by decide), if_pos (show nI 4 = 4 from rfl), D1, R2, st1_ne (by decide), st1_nf (by decide), st1_eq]
  · rw [if_neg (show ¬ nI 5 = 1 by decide), if_neg (show ¬ nI 5 = 2 by decide), if_neg (show ¬ nI 5 = 3 by decide), if_neg (show ¬ nI 5 = 4 by decide), R1, st1_ne (by decide), st1_eq]
theorem op_bent (a v w u : Int32) : OpR (fun σ => f_X7_bent σ 0 a v w u) (fun σ => f_X8_bent σ 42 a v w u) := by
  intro m kp b z hR
  obtain ⟨⟨c, hS⟩, -⟩ := id hR
  have hC := CvC_of hS.2.2.2.1
  obtain ⟨w1, w2, w3, w4, w5, w6, w6b, w7⟩ := id hS.2.2.2.1
  by_cases hT : (0 ≤ a ∧ a < nI (c 1)) ∧ (0 ≤ v ∧ v < nI (c 1)) ∧ a ≠ v
  · by_cases hw : 1 ≤ w ∧ w ≤ 5
    · by_cases hu : 0 ≤ u ∧ u ≤ 5
      · have hT2 := hT
        obtain ⟨p, q, hp, hq, hpq, rfl, rfl⟩ := two_ex w5 hT
        obtain ⟨f, hf1, hf, rfl⟩ := ex_rng (lo := 1) (hi := 5) (by decide) hw (by decide)
        obtain ⟨k, -, hk, rfl⟩ := ex_rng (lo := 0) (hi := 5) (by decide) hu (by decide)
        by_cases hk0 : k = 0
        · subst hk0
          obtain ⟨M, e8, hE, h14⟩ := cn8 (kp := kp) (b := b) hC hp hq hf
          have e7 := many7 (kp := kp) (b := b) hC hp hq hf
          rw [cnt_eq hC hp hq hf] at e7
          refine ⟨nI (sm (bw4 m p q f) 4 0), m, kp, b, M, ?_, ?_, (RR_scr hR hE).up⟩
          · show f_X7_bent (mkS m kp b) 0 (nI p) (nI q) (nI f) (nI 0) = _
            unfold f_X7_bent
            rw [if_pos io_0, two7 w3, if_pos hT2, Option.bind_some, if_neg (show ¬ (1 : Int32) = 0 by decide), isFactor7_eq, if_pos hw, Option.bind_some, if_neg (show ¬ (1 : Int32) = 0 by decide), outside_eq, if_pos hu, Option.bind_some, if_pos rfl, if_pos nI_0, gq_0_0, Option.bind_some, e7]
            rfl
          · show f_X8_bent (mkS m kp b) 42 (nI p) (nI q) (nI f) (nI 0) = _
            unfold f_X8_bent
            rw [if_pos io_42, two8 w4 (by omega), if_pos hT2, Option.bind_some, if_neg (show ¬ (1 : Int32) = 0 by decide), isFactor8_eq (t := 0), if_pos hw, Option.bind_some, if_neg (show ¬ (1 : Int32) = 0 by decide), within_eq, if_pos hu, Option.bind_some, if_neg (show ¬ (1 : Int32) = 0 by decide), if_pos (show nI 0 ≤ 0 by decide), e8, Option.bind_some, if_pos nI_0, gI_42, Option.bind_some, h14]
        · have hk1 : ¬ nI k = 0 := nI_ne0 (by omega) (by omega)
          have hk2 : ¬ nI k ≤ 0 := nI_nle (by omega) (by omega)
          have e7 := fst7 (kp := kp) (b := b) hC hp hq hf
          have hz := (hC.2.2.2.2.2 p hp).2.1
          have hsp := (bF5_spec (m := m) (p := p) (q := q) (f := f) hf hz).2
          have hn0 := cdR_neg (q := q) hC hp hf
          cases e5 : bF5 m p q f with
          | none =>
            rw [e5] at e7 hn0
            have e8 : ∀ k v, f_X8_findBendings (mkS (st1 m 30 k v) kp b) 42 (nI p) (nI q) (nI f) 1 = some (mkS (bS0 (st1 m 30 k v)) kp b) := fun k v => by
              have h43 : (st1 m 30 k v) 43 = m 43 := st1_ne (by decide)
              have := fb8 (kp := kp) (b := b) (CvC_fr hC (st1_ne (by decide)) (st1_ne (by decide)) (st1_ne (by decide)) h43) hp hq hf
              rw [bF5_fr h43, e5] at this
              exact this
            have hm1 : ¬ (0 : Int32) ≤ cdR none := by decide
            refine ⟨-1000002, st1 m 30 2 (m 30 2 + 1), kp, b, st1 (bS0 (st1 m 30 2 (m 30 2 + 1))) 45 2 (bS0 (st1 m 30 2 (m 30 2 + 1)) 45 2 + 1), ?_, ?_, ?_⟩
            · show f_X7_bent (mkS m kp b) 0 (nI p) (nI q) (nI f) (nI k) = _
              unfold f_X7_bent
              rw [if_pos io_0, two7 w3, if_pos hT2, Option.bind_some, if_neg (show ¬ (1 : Int32) = 0 by decide), isFactor7_eq, if_pos hw, Option.bind_some, if_neg (show ¬ (1 : Int32) = 0 by decide), outside_eq, if_pos hu, Option.bind_some, if_pos rfl, if_neg hk1, gq_0_0, Option.bind_some, e7, Option.bind_some, if_neg hm1, fails_2]
              rfl
            · show f_X8_bent (mkS _ kp b) 42 (nI p) (nI q) (nI f) (nI k) = _
              unfold f_X8_bent
              rw [if_pos io_42, two8 (e43 w4) (by omega), if_pos hT2, Option.bind_some, if_neg (show ¬ (1 : Int32) = 0 by decide), isFactor8_eq (t := 0), if_pos hw, Option.bind_some, if_neg (show ¬ (1 : Int32) = 0 by decide), within_eq, if_pos hu, Option.bind_some, if_neg (show ¬ (1 : Int32) = 0 by decide), if_neg hk2, e8, Option.bind_some, if_neg hk1, gI_42, Option.bind_some, bS0_14, if_pos rfl, finds_2]
              rfl
            · have hRR := RR_err hR (Nat.le_succ z) (k := 2) (by decide)
              refine RR_scr hRR ⟨fun q q1 q2 => ?_, ?_, ?_⟩
              · unfold bS0
                by_cases e45 : q = 45
                · subst e45
                  funext j
                  rw [st1_at, st1_at, st1_ne (show (45 : Nat) ≠ 42 by decide)]
                · rw [st1_ne e45, st1_ne e45, st1_ne q2]
              · unfold bS0; rw [st1_ne (by decide), st1_nf (by decide), st1_ne (by decide), st1_ne (by decide), st1_ne (by decide)]
              · unfold bS0; rw [st1_ne (by decide), st1_nf (by decide), st1_ne (by decide), st1_ne (by decide), st1_ne (by decide)]
          | some t =>
            rw [e5] at e7 hn0
            obtain ⟨t1, t2, t3⟩ := hsp t e5
            have e8 := fb8 (kp := kp) (b := b) hC hp hq hf
            rw [e5] at e8
            have e8' : f_X8_findBendings (mkS m kp b) 42 (nI p) (nI q) (nI f) 1 = some (mkS (bS1 m t) kp b) := e8
            have hge : (0 : Int32) ≤ cdR (some t) := Int32.not_lt.mp (fun q => by have := hn0.mp q; cases this)
            refine ⟨bS1 m t 50 (k - 1), m, kp, b, bS1 m t, ?_, ?_, (RR_scr hR EqS_bS1).up⟩
            · show f_X7_bent (mkS m kp b) 0 (nI p) (nI q) (nI f) (nI k) = _
              unfold f_X7_bent
              rw [if_pos io_0, two7 w3, if_pos hT2, Option.bind_some, if_neg (show ¬ (1 : Int32) = 0 by decide), isFactor7_eq, if_pos hw, Option.bind_some, if_neg (show ¬ (1 : Int32) = 0 by decide), outside_eq, if_pos hu, Option.bind_some, if_pos rfl, if_neg hk1, gq_0_0, Option.bind_some, e7, Option.bind_some, if_pos hge]
              have := part_eq (m := m) (σ := mkS m kp b) (t := t) hf t1 (by omega) t3 (show 1 ≤ k by omega) hk
              show (f_X0_part _ (nI (codB (t.1 / 2) (t.1 % 2) t.2.1 t.2.2.1 t.2.2.2)) (nI k)).bind _ = _
              rw [this]
              rfl
            · show f_X8_bent (mkS m kp b) 42 (nI p) (nI q) (nI f) (nI k) = _
              unfold f_X8_bent
              rw [if_pos io_42, two8 w4 (by omega), if_pos hT2, Option.bind_some, if_neg (show ¬ (1 : Int32) = 0 by decide), isFactor8_eq (t := 0), if_pos hw, Option.bind_some, if_neg (show ¬ (1 : Int32) = 0 by decide), within_eq, if_pos hu, Option.bind_some, if_neg (show ¬ (1 : Int32) = 0 by decide), if_neg hk2, e8', Option.bind_some, if_neg hk1, gI_42, Option.bind_some, bS1_14, if_neg (show ¬ (1 : Int32) = 0 by decide), gq_42_15, Option.bind_some, subj (show 1 ≤ k by omega), rd_50 (show k - 1 < 5 by omega), Option.bind_some]
      · refine op_err1 (k := 1) (e := -1000001) (by decide) hR ?_ ?_
        · show f_X7_bent (mkS m kp b) 0 a v w u = _
          unfold f_X7_bent
          simp only [io_0, gI_0, pI_0, pZ_0, io_1, gI_1, pI_1, pZ_1, io_2, gI_2, pI_2, pZ_2, aL_3, io_4, gI_4, pI_4, pZ_4, aL_5, io_6, gI_6, pI_6, pZ_6, aL_7, aL_8, io_9, gI_9, pI_9, pZ_9, aL_10, io_11, gI_11, pI_11, pZ_11, aL_12, io_13, gI_13, pI_13, pZ_13, aL_14, io_15, gI_15, pI_15, pZ_15, aL_16, io_17, gI_17, pI_17, pZ_17, aL_18, aL_19, io_20, gI_20, pI_20, pZ_20, aL_21, io_22, gI_22, pI_22, pZ_22, aL_23, io_24, gI_24, pI_24, pZ_24, aL_25, io_26, gI_26, pI_26, pZ_26, io_27, gI_27, pI_27, pZ_27, aL_28, aL_29, aL_30, aL_31, aL_32, aL_33, io_34, gI_34, pI_34, pZ_34, aL_35, io_36, gI_36, pI_36, pZ_36, aL_37, io_38, gI_38, pI_38, pZ_38, aL_39, io_40, gI_40, pI_40, pZ_40, aL_41, io_42, gI_42, pI_42, pZ_42, aL_43, aL_44, aL_45, aL_46, aL_47, aL_48, aL_49, aL_50, aL_51, aL_52, aL_53, aL_54, aL_55, aL_56, aL_57, aL_58, gq_0_0, gq_0_1, gq_0_2, gq_0_3, gq_0_4, gq_0_5, gq_0_6, gq_0_7, gq_1_0, gq_1_1, gq_1_2, gq_1_3, gq_1_4, gq_1_5, gq_1_6, gq_1_7, gq_1_8, gq_1_9, gq_2_2, gq_4_2, gq_6_2, gq_9_2, gq_11_2, gq_13_2, gq_15_2, gq_17_0, gq_20_0, gq_22_0, gq_24_0, gq_27_0, gq_34_0, gq_36_0, gq_38_0, gq_40_0, gq_42_0, gq_42_1, gq_42_3, gq_42_4, gq_42_11, gq_42_12, gq_42_13, gq_42_15, gq_42_16, gq_42_17, gq_42_18, gq_42_19, gq_42_23, gq_42_24, gq_42_25, gq_42_26, aQ_29_0, aQ_29_1, aQ_29_2, aQ_29_3, aQ_19_0, aQ_19_1, aQ_19_2, aQ_46_0, aQ_46_1, aQ_46_2, gq_26, gr_26, gr_0_8, pQ_26, Option.bind_some, ↓reduceIte, one_ne0, two7 w3, if_pos hT, isFactor7_eq, if_pos hw, outside_eq, if_neg hu, fails_1]
          try simp
        · show f_X8_bent (mkS _ kp b) 42 a v w u = _
          unfold f_X8_bent
          simp only [io_0, gI_0, pI_0, pZ_0, io_1, gI_1, pI_1, pZ_1, io_2, gI_2, pI_2, pZ_2, aL_3, io_4, gI_4, pI_4, pZ_4, aL_5, io_6, gI_6, pI_6, pZ_6, aL_7, aL_8, io_9, gI_9, pI_9, pZ_9, aL_10, io_11, gI_11, pI_11, pZ_11, aL_12, io_13, gI_13, pI_13, pZ_13, aL_14, io_15, gI_15, pI_15, pZ_15, aL_16, io_17, gI_17, pI_17, pZ_17, aL_18, aL_19, io_20, gI_20, pI_20, pZ_20, aL_21, io_22, gI_22, pI_22, pZ_22, aL_23, io_24, gI_24, pI_24, pZ_24, aL_25, io_26, gI_26, pI_26, pZ_26, io_27, gI_27, pI_27, pZ_27, aL_28, aL_29, aL_30, aL_31, aL_32, aL_33, io_34, gI_34, pI_34, pZ_34, aL_35, io_36, gI_36, pI_36, pZ_36, aL_37, io_38, gI_38, pI_38, pZ_38, aL_39, io_40, gI_40, pI_40, pZ_40, aL_41, io_42, gI_42, pI_42, pZ_42, aL_43, aL_44, aL_45, aL_46, aL_47, aL_48, aL_49, aL_50, aL_51, aL_52, aL_53, aL_54, aL_55, aL_56, aL_57, aL_58, gq_0_0, gq_0_1, gq_0_2, gq_0_3, gq_0_4, gq_0_5, gq_0_6, gq_0_7, gq_1_0, gq_1_1, gq_1_2, gq_1_3, gq_1_4, gq_1_5, gq_1_6, gq_1_7, gq_1_8, gq_1_9, gq_2_2, gq_4_2, gq_6_2, gq_9_2, gq_11_2, gq_13_2, gq_15_2, gq_17_0, gq_20_0, gq_22_0, gq_24_0, gq_27_0, gq_34_0, gq_36_0, gq_38_0, gq_40_0, gq_42_0, gq_42_1, gq_42_3, gq_42_4, gq_42_11, gq_42_12, gq_42_13, gq_42_15, gq_42_16, gq_42_17, gq_42_18, gq_42_19, gq_42_23, gq_42_24, gq_42_25, gq_42_26, aQ_29_0, aQ_29_1, aQ_29_2, aQ_29_3, aQ_19_0, aQ_19_1, aQ_19_2, aQ_46_0, aQ_46_1, aQ_46_2, gq_26, gr_26, gr_0_8, pQ_26, Option.bind_some, ↓reduceIte, one_ne0, two8 (e43 w4) (show c 1 ≤ 1000 by omega), if_pos hT, isFactor8_eq (t := 0), if_pos hw, within_eq, if_neg hu, finds_1]
          try simp
    · refine op_err1 (k := 1) (e := -1000001) (by decide) hR ?_ ?_
      · show f_X7_bent (mkS m kp b) 0 a v w u = _
        unfold f_X7_bent
        simp only [io_0, gI_0, pI_0, pZ_0, io_1, gI_1, pI_1, pZ_1, io_2, gI_2, pI_2, pZ_2, aL_3, io_4, gI_4, pI_4, pZ_4, aL_5, io_6, gI_6, pI_6, pZ_6, aL_7, aL_8, io_9, gI_9, pI_9, pZ_9, aL_10, io_11, gI_11, pI_11, pZ_11, aL_12, io_13, gI_13, pI_13, pZ_13, aL_14, io_15, gI_15, pI_15, pZ_15, aL_16, io_17, gI_17, pI_17, pZ_17, aL_18, aL_19, io_20, gI_20, pI_20, pZ_20, aL_21, io_22, gI_22, pI_22, pZ_22, aL_23, io_24, gI_24, pI_24, pZ_24, aL_25, io_26, gI_26, pI_26, pZ_26, io_27, gI_27, pI_27, pZ_27, aL_28, aL_29, aL_30, aL_31, aL_32, aL_33, io_34, gI_34, pI_34, pZ_34, aL_35, io_36, gI_36, pI_36, pZ_36, aL_37, io_38, gI_38, pI_38, pZ_38, aL_39, io_40, gI_40, pI_40, pZ_40, aL_41, io_42, gI_42, pI_42, pZ_42, aL_43, aL_44, aL_45, aL_46, aL_47, aL_48, aL_49, aL_50, aL_51, aL_52, aL_53, aL_54, aL_55, aL_56, aL_57, aL_58, gq_0_0, gq_0_1, gq_0_2, gq_0_3, gq_0_4, gq_0_5, gq_0_6, gq_0_7, gq_1_0, gq_1_1, gq_1_2, gq_1_3, gq_1_4, gq_1_5, gq_1_6, gq_1_7, gq_1_8, gq_1_9, gq_2_2, gq_4_2, gq_6_2, gq_9_2, gq_11_2, gq_13_2, gq_15_2, gq_17_0, gq_20_0, gq_22_0, gq_24_0, gq_27_0, gq_34_0, gq_36_0, gq_38_0, gq_40_0, gq_42_0, gq_42_1, gq_42_3, gq_42_4, gq_42_11, gq_42_12, gq_42_13, gq_42_15, gq_42_16, gq_42_17, gq_42_18, gq_42_19, gq_42_23, gq_42_24, gq_42_25, gq_42_26, aQ_29_0, aQ_29_1, aQ_29_2, aQ_29_3, aQ_19_0, aQ_19_1, aQ_19_2, aQ_46_0, aQ_46_1, aQ_46_2, gq_26, gr_26, gr_0_8, pQ_26, Option.bind_some, ↓reduceIte, one_ne0, two7 w3, if_pos hT, isFactor7_eq, if_neg hw, fails_1]
        try simp
      · show f_X8_bent (mkS _ kp b) 42 a v w u = _
        unfold f_X8_bent
        simp only [io_0, gI_0, pI_0, pZ_0, io_1, gI_1, pI_1, pZ_1, io_2, gI_2, pI_2, pZ_2, aL_3, io_4, gI_4, pI_4, pZ_4, aL_5, io_6, gI_6, pI_6, pZ_6, aL_7, aL_8, io_9, gI_9, pI_9, pZ_9, aL_10, io_11, gI_11, pI_11, pZ_11, aL_12, io_13, gI_13, pI_13, pZ_13, aL_14, io_15, gI_15, pI_15, pZ_15, aL_16, io_17, gI_17, pI_17, pZ_17, aL_18, aL_19, io_20, gI_20, pI_20, pZ_20, aL_21, io_22, gI_22, pI_22, pZ_22, aL_23, io_24, gI_24, pI_24, pZ_24, aL_25, io_26, gI_26, pI_26, pZ_26, io_27, gI_27, pI_27, pZ_27, aL_28, aL_29, aL_30, aL_31, aL_32, aL_33, io_34, gI_34, pI_34, pZ_34, aL_35, io_36, gI_36, pI_36, pZ_36, aL_37, io_38, gI_38, pI_38, pZ_38, aL_39, io_40, gI_40, pI_40, pZ_40, aL_41, io_42, gI_42, pI_42, pZ_42, aL_43, aL_44, aL_45, aL_46, aL_47, aL_48, aL_49, aL_50, aL_51, aL_52, aL_53, aL_54, aL_55, aL_56, aL_57, aL_58, gq_0_0, gq_0_1, gq_0_2, gq_0_3, gq_0_4, gq_0_5, gq_0_6, gq_0_7, gq_1_0, gq_1_1, gq_1_2, gq_1_3, gq_1_4, gq_1_5, gq_1_6, gq_1_7, gq_1_8, gq_1_9, gq_2_2, gq_4_2, gq_6_2, gq_9_2, gq_11_2, gq_13_2, gq_15_2, gq_17_0, gq_20_0, gq_22_0, gq_24_0, gq_27_0, gq_34_0, gq_36_0, gq_38_0, gq_40_0, gq_42_0, gq_42_1, gq_42_3, gq_42_4, gq_42_11, gq_42_12, gq_42_13, gq_42_15, gq_42_16, gq_42_17, gq_42_18, gq_42_19, gq_42_23, gq_42_24, gq_42_25, gq_42_26, aQ_29_0, aQ_29_1, aQ_29_2, aQ_29_3, aQ_19_0, aQ_19_1, aQ_19_2, aQ_46_0, aQ_46_1, aQ_46_2, gq_26, gr_26, gr_0_8, pQ_26, Option.bind_some, ↓reduceIte, one_ne0, two8 (e43 w4) (show c 1 ≤ 1000 by omega), if_pos hT, isFactor8_eq (t := 0), if_neg hw, finds_1]
        try simp
  · refine op_err1 (k := 1) (e := -1000001) (by decide) hR ?_ ?_
    · show f_X7_bent (mkS m kp b) 0 a v w u = _
      unfold f_X7_bent
      simp only [io_0, gI_0, pI_0, pZ_0, io_1, gI_1, pI_1, pZ_1, io_2, gI_2, pI_2, pZ_2, aL_3, io_4, gI_4, pI_4, pZ_4, aL_5, io_6, gI_6, pI_6, pZ_6, aL_7, aL_8, io_9, gI_9, pI_9, pZ_9, aL_10, io_11, gI_11, pI_11, pZ_11, aL_12, io_13, gI_13, pI_13, pZ_13, aL_14, io_15, gI_15, pI_15, pZ_15, aL_16, io_17, gI_17, pI_17, pZ_17, aL_18, aL_19, io_20, gI_20, pI_20, pZ_20, aL_21, io_22, gI_22, pI_22, pZ_22, aL_23, io_24, gI_24, pI_24, pZ_24, aL_25, io_26, gI_26, pI_26, pZ_26, io_27, gI_27, pI_27, pZ_27, aL_28, aL_29, aL_30, aL_31, aL_32, aL_33, io_34, gI_34, pI_34, pZ_34, aL_35, io_36, gI_36, pI_36, pZ_36, aL_37, io_38, gI_38, pI_38, pZ_38, aL_39, io_40, gI_40, pI_40, pZ_40, aL_41, io_42, gI_42, pI_42, pZ_42, aL_43, aL_44, aL_45, aL_46, aL_47, aL_48, aL_49, aL_50, aL_51, aL_52, aL_53, aL_54, aL_55, aL_56, aL_57, aL_58, gq_0_0, gq_0_1, gq_0_2, gq_0_3, gq_0_4, gq_0_5, gq_0_6, gq_0_7, gq_1_0, gq_1_1, gq_1_2, gq_1_3, gq_1_4, gq_1_5, gq_1_6, gq_1_7, gq_1_8, gq_1_9, gq_2_2, gq_4_2, gq_6_2, gq_9_2, gq_11_2, gq_13_2, gq_15_2, gq_17_0, gq_20_0, gq_22_0, gq_24_0, gq_27_0, gq_34_0, gq_36_0, gq_38_0, gq_40_0, gq_42_0, gq_42_1, gq_42_3, gq_42_4, gq_42_11, gq_42_12, gq_42_13, gq_42_15, gq_42_16, gq_42_17, gq_42_18, gq_42_19, gq_42_23, gq_42_24, gq_42_25, gq_42_26, aQ_29_0, aQ_29_1, aQ_29_2, aQ_29_3, aQ_19_0, aQ_19_1, aQ_19_2, aQ_46_0, aQ_46_1, aQ_46_2, gq_26, gr_26, gr_0_8, pQ_26, Option.bind_some, ↓reduceIte, one_ne0, two7 w3, if_neg hT, fails_1]
      try simp
    · show f_X8_bent (mkS _ kp b) 42 a v w u = _
      unfold f_X8_bent
      simp only [io_0, gI_0, pI_0, pZ_0, io_1, gI_1, pI_1, pZ_1, io_2, gI_2, pI_2, pZ_2, aL_3, io_4, gI_4, pI_4, pZ_4, aL_5, io_6, gI_6, pI_6, pZ_6, aL_7, aL_8, io_9, gI_9, pI_9, pZ_9, aL_10, io_11, gI_11, pI_11, pZ_11, aL_12, io_13, gI_13, pI_13, pZ_13, aL_14, io_15, gI_15, pI_15, pZ_15, aL_16, io_17, gI_17, pI_17, pZ_17, aL_18, aL_19, io_20, gI_20, pI_20, pZ_20, aL_21, io_22, gI_22, pI_22, pZ_22, aL_23, io_24, gI_24, pI_24, pZ_24, aL_25, io_26, gI_26, pI_26, pZ_26, io_27, gI_27, pI_27, pZ_27, aL_28, aL_29, aL_30, aL_31, aL_32, aL_33, io_34, gI_34, pI_34, pZ_34, aL_35, io_36, gI_36, pI_36, pZ_36, aL_37, io_38, gI_38, pI_38, pZ_38, aL_39, io_40, gI_40, pI_40, pZ_40, aL_41, io_42, gI_42, pI_42, pZ_42, aL_43, aL_44, aL_45, aL_46, aL_47, aL_48, aL_49, aL_50, aL_51, aL_52, aL_53, aL_54, aL_55, aL_56, aL_57, aL_58, gq_0_0, gq_0_1, gq_0_2, gq_0_3, gq_0_4, gq_0_5, gq_0_6, gq_0_7, gq_1_0, gq_1_1, gq_1_2, gq_1_3, gq_1_4, gq_1_5, gq_1_6, gq_1_7, gq_1_8, gq_1_9, gq_2_2, gq_4_2, gq_6_2, gq_9_2, gq_11_2, gq_13_2, gq_15_2, gq_17_0, gq_20_0, gq_22_0, gq_24_0, gq_27_0, gq_34_0, gq_36_0, gq_38_0, gq_40_0, gq_42_0, gq_42_1, gq_42_3, gq_42_4, gq_42_11, gq_42_12, gq_42_13, gq_42_15, gq_42_16, gq_42_17, gq_42_18, gq_42_19, gq_42_23, gq_42_24, gq_42_25, gq_42_26, aQ_29_0, aQ_29_1, aQ_29_2, aQ_29_3, aQ_19_0, aQ_19_1, aQ_19_2, aQ_46_0, aQ_46_1, aQ_46_2, gq_26, gr_26, gr_0_8, pQ_26, Option.bind_some, ↓reduceIte, one_ne0, two8 (e43 w4) (show c 1 ≤ 1000 by omega), if_neg hT, finds_1]
      try simp
end BE
