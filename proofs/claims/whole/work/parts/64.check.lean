def oZ {ρ τ : Type} (oe : ρ → τ) (d : τ) (o : Option ρ) : τ := match o with
  | some r => oe r
  | none => d
theorem loopEZ {ρ τ : Type} (L : Nat → Nat → St → Option τ) (oe : ρ → St → τ) (out : St → τ) (R : St → Prop) (g : Nat → Option ρ) (n : Nat) (hs : ∀ f i σ, i < n → R σ → ∃ σ', R σ' ∧ L (f + 1) i σ = oZ (fun r => some (oe r σ')) (L f (i + 1) σ') (g i)) (he : ∀ f σ, R σ → L (f + 1) n σ = some (out σ)) : ∀ k i f σ, i + k = n → k < f → R σ → ∃ σ', R σ' ∧ L f i σ = some (oZ (fun r => oe r σ') (out σ') (fstN g k i)) := by
  intro k
  induction k with
  | zero =>
    intro i f σ h1 h2 hR
    obtain ⟨f, rfl⟩ : ∃ q, f = q + 1 := ⟨f - 1, by omega⟩
    have : i = n := by omega
    subst this
    exact ⟨σ, hR, he f σ hR⟩
  | succ k ih =>
    intro i f σ h1 h2 hR
    obtain ⟨f, rfl⟩ : ∃ q, f = q + 1 := ⟨f - 1, by omega⟩
    obtain ⟨σ', hR', e⟩ := hs f i σ (by omega) hR
    unfold fstN
    cases hg : g i with
    | some r =>
      rw [hg] at e
      exact ⟨σ', hR', e⟩
    | none =>
      rw [hg] at e
      obtain ⟨σ2, hR2, e2⟩ := ih (i + 1) f σ' (by omega) (by omega) hR'
      exact ⟨σ2, hR2, e.trans e2⟩
section CK
variable {m : Nat → Nat → Int32} {kp : Bool} {b : Option Nat} {z : Nat} {c : Nat → Nat}
def loG (x k : Nat) : Option Nat := if x.testBit k = true then some k else none
def loV (x : Nat) : Int32 := oZ nI (-1) (fstN (loG x) 32 0)
theorem n32 {k : Nat} (h : k < 32) : ¬ (32 : Int32) ≤ nI k := nI_ge (b := 32) h (by decide)
theorem low7 {σ : St} {x : Nat} (hx : x < 2 ^ 31) : f_X7_lowestBit σ (nI x) = some (loV x) := by
  unfold f_X7_lowestBit loV
  obtain ⟨-, -, e⟩ := loopEZ (fun f i (_ : St) => f_X7_lowestBit_L2 (nI x) f (nI i)) (fun r _ => Sum.inl (nI r)) (fun _ => Sum.inr (nI 32)) (fun _ => True) (loG x) 32 (fun f i σ hi _ => by
    refine ⟨σ, trivial, ?_⟩
    show f_X7_lowestBit_L2 (nI x) (f + 1) (nI i) = oZ (fun r => some (Sum.inl (nI r))) (f_X7_lowestBit_L2 (nI x) f (nI (i + 1))) (loG x i)
    rw [f_X7_lowestBit_L2, if_neg (n32 hi), nI_a1]
    unfold loG
    simp only [bit1 hx hi]
    cases x.testBit i <;> rfl) (fun f σ _ => by
    show f_X7_lowestBit_L2 (nI x) (f + 1) (nI 32) = _
    rw [f_X7_lowestBit_L2, if_pos (show (32 : Int32) ≤ nI 32 by decide)]) 32 0 3000 σ (by omega) (by omega) trivial
  simp only [nI_0] at e
  rw [e, Option.bind_some]
  cases fstN (loG x) 32 0 <;> rfl
theorem low8 {σ : St} {x : Nat} (hx : x < 2 ^ 31) : f_X8_check_L71 σ (nI x) 3000 (if nI x = 0 then (-1) else 0 : Int32) = some (loV x) := by
  have key : ∀ k i f r, i + k = 32 → k < f → fstN (loG x) k i = some r → f_X8_check_L71 σ (nI x) f (nI i) = some (nI r) := by
    intro k
    induction k with
    | zero => intro i f r _ _ h; cases h
    | succ k ih =>
      intro i f r h1 h2 h
      obtain ⟨f, rfl⟩ : ∃ q, f = q + 1 := ⟨f - 1, by omega⟩
      rw [f_X8_check_L71, if_neg (nI_pos (by omega)), has_eq hx (by omega), Option.bind_some, nI_a1]
      unfold fstN at h
      cases hb : x.testBit i
      · have : loG x i = none := if_neg (by rw [hb]; decide)
        rw [this] at h
        simp only [Bool.false_eq_true, if_false, if_true]
        exact ih (i + 1) f r (by omega) (by omega) h
      · have : loG x i = some i := if_pos hb
        rw [this] at h
        cases h
        simp
  unfold loV
  by_cases h0 : x = 0
  · subst h0
    rw [if_pos nI_0, f_X8_check_L71, if_pos (by decide)]
    have : fstN (loG 0) 32 0 = none := by decide +kernel
    rw [this]
    rfl
  · rw [if_neg (nI_ne0 (by omega) hx)]
    cases e : fstN (loG x) 32 0 with
    | some r => exact key 32 0 3000 r (by omega) (by omega) e
    | none =>
      refine absurd (Nat.eq_of_testBit_eq (fun i => ?_)) h0
      rw [Nat.zero_testBit]
      by_cases hi : i < 32
      · have := fstN_none 32 0 e i (by omega) (by omega)
        unfold loG at this
        cases hb : x.testBit i
        · rfl
        · rw [if_pos hb] at this; cases this
      · exact Nat.testBit_lt_two_pow (Nat.lt_of_lt_of_le hx (Nat.pow_le_pow_right (by decide) (by omega)))
noncomputable def ckG (m : Nat → Nat → Int32) (f n k : Nat) : Option Nat := if k < n ∧ m 43 (1030 + k) = loV (orN m f n k) then none else some (1 + k)
theorem chk7 {f : Nat} (h : RS m 1 43 c) (hf : f ≤ 5) : f_X7_firstWrong (mkS m kp b) 0 (nI f) = some (oZ nI 0 (fstN (ckG m f (c 1)) (c 6) 0)) := by
  have hC := CvC_of h.2.2.2.1
  have hn := hC.2.2.2.1
  obtain ⟨y1, y2, y3, y4, y5, y6⟩ := id h.2.2.2.2.2.2.2.2.1
  have e15 : m 15 3 = nI (c 6) := y3
  have c3 : m 6 3 = nI (c 1) := hC.2.2.1
  unfold f_X7_firstWrong
  obtain ⟨-, -, e⟩ := loopEZ (fun l i (_ : St) => f_X7_firstWrong_L2 (mkS m kp b) 0 (nI f) l (nI i)) (fun r _ => Sum.inl (nI r)) (fun _ => Sum.inr (nI (c 6))) (fun _ => True) (ckG m f (c 1)) (c 6) (fun l i σ hi _ => by
    refine ⟨σ, trivial, ?_⟩
    show f_X7_firstWrong_L2 (mkS m kp b) 0 (nI f) (l + 1) (nI i) = oZ (fun r => some (Sum.inl (nI r))) (f_X7_firstWrong_L2 (mkS m kp b) 0 (nI f) l (nI (i + 1))) (ckG m f (c 1) i)
    have e1 : (1 : Int32) + nI i = nI (1 + i) := nI_add 1 i
    rw [f_X7_firstWrong_L2, gq_0_0, Option.bind_some, gq_1_7, Option.bind_some, gI_15, Option.bind_some, e15, if_neg (nI_ge hi (by omega)), Option.bind_some, gq_1_2, Option.bind_some, has_6 c3, Option.bind_some, e1, nI_a1]
    unfold ckG
    by_cases q1 : i < c 1
    · have e16 : m 16 (i * 1 + 0) = m 43 (1030 + i) := by
        have := y6 i (by omega)
        rw [show i * 1 + 0 = i by omega]
        exact this
      have hp : 0 ≤ nI i ∧ nI i < nI (c 1) := ⟨nI_pos' (by omega), nI_lt q1 (by omega)⟩
      rw [if_pos hp, if_neg (show ¬ (1 : Int32) = 0 by decide), Option.bind_some, gq_1_7, Option.bind_some, at_15_0 y1 y3 y5 hi, Option.bind_some, Option.bind_some, ori7 h q1 hf, Option.bind_some, low7 (lt31 orN_lt (by omega)), Option.bind_some, e16]
      by_cases q2 : m 43 (1030 + i) = loV (orN m f (c 1) i)
      · rw [if_pos q2, if_pos ⟨q1, q2⟩]; rfl
      · rw [if_neg q2, if_neg (fun y => q2 y.2)]; rfl
    · have hp : ¬ (0 ≤ nI i ∧ nI i < nI (c 1)) := fun y => q1 ((nI_ltI (by omega) (by omega)).mp y.2)
      rw [if_neg hp, if_pos rfl, if_neg (fun y => q1 y.1)]; rfl) (fun l σ _ => by
    show f_X7_firstWrong_L2 (mkS m kp b) 0 (nI f) (l + 1) (nI (c 6)) = _
    rw [f_X7_firstWrong_L2, gq_0_0, Option.bind_some, gq_1_7, Option.bind_some, gI_15, Option.bind_some, e15, if_pos (Int32.le_refl _)]) (c 6) 0 3000 (mkS m kp b) (by omega) (by omega) trivial
  simp only [nI_0] at e
  rw [if_pos io_0, e, Option.bind_some]
  cases fstN (ckG m f (c 1)) (c 6) 0 <;> rfl
theorem chk8 {f w : Nat} (h : RS m 1 43 c) (hf : f ≤ 5) (hw : w ≤ 24) : ∃ M y, f_X8_check_L32 (nI w) 42 (nI f) 3000 0 (mkS m kp b) = some (oZ (fun r => Sum.inl (nI r, mkS M kp b)) (Sum.inr (y, mkS M kp b)) (fstN (ckG m f (c 1)) w 0)) ∧ EqS m M := by
  have hC := CvC_of h.2.2.2.1
  have hn := hC.2.2.2.1
  obtain ⟨σ', ⟨M, rfl, hE⟩, e⟩ := loopEZ (fun l i σ => f_X8_check_L32 (nI w) 42 (nI f) l (nI i) σ) (fun r σ => Sum.inl (nI r, σ)) (fun σ => Sum.inr (nI w, σ)) (sR m kp b) (ckG m f (c 1)) w (fun l i σ hi hR => by
    obtain ⟨M, rfl, hE⟩ := id hR
    have h43 : M 43 = m 43 := hE.at 43 (by omega) (by omega)
    have e1 : M 43 1 = nI (c 1) := by rw [h43]; exact hC.2.2.2.2.1
    have ei : (1 : Int32) + nI i = nI (1 + i) := nI_add 1 i
    have e1030 : (1030 : Int32) + nI i = nI (1030 + i) := nI_add 1030 i
    unfold ckG
    by_cases q1 : i < c 1
    · obtain ⟨M', e8, M0, eM0, hE', hM', -⟩ := cou8 (kp := kp) (b := b) h q1 hf hR
      have h43' : M' 43 = m 43 := hM'.at 43 (by omega) (by omega)
      refine ⟨mkS M' kp b, ⟨M', rfl, hM'⟩, ?_⟩
      show f_X8_check_L32 (nI w) 42 (nI f) (l + 1) (nI i) (mkS M kp b) = oZ (fun r => some (Sum.inl (nI r, mkS M' kp b))) (f_X8_check_L32 (nI w) 42 (nI f) l (nI (i + 1)) (mkS M' kp b)) _
      rw [f_X8_check_L32, if_neg (nI_ge hi (by omega)), gq_42_0, Option.bind_some, rdl_1, e1, Option.bind_some, ei, nI_a1, if_pos (nI_lt q1 (by omega)), e8, Option.bind_some]
      dsimp only
      rw [low8 (lt31 orN_lt (by omega)), Option.bind_some, gq_42_0, Option.bind_some, e1030, rd_43 (show 1030 + i < 1234 by omega), Option.bind_some, h43']
      by_cases q2 : m 43 (1030 + i) = loV (orN m f (c 1) i)
      · rw [if_pos q2, if_pos ⟨q1, q2⟩]; rfl
      · rw [if_neg q2, if_neg (fun y => q2 y.2)]; rfl
    · refine ⟨mkS M kp b, hR, ?_⟩
      show f_X8_check_L32 (nI w) 42 (nI f) (l + 1) (nI i) (mkS M kp b) = oZ (fun r => some (Sum.inl (nI r, mkS M kp b))) (f_X8_check_L32 (nI w) 42 (nI f) l (nI (i + 1)) (mkS M kp b)) _
      rw [f_X8_check_L32, if_neg (nI_ge hi (by omega)), gq_42_0, Option.bind_some, rdl_1, e1, Option.bind_some, ei, nI_a1, if_neg (nI_nlt (by omega) (by omega)), if_neg (fun y => q1 y.1)]
      rfl) (fun l σ hR => by
    show f_X8_check_L32 (nI w) 42 (nI f) (l + 1) (nI w) σ = _
    rw [f_X8_check_L32, if_pos (Int32.le_refl _)]) w 0 3000 (mkS m kp b) (by omega) (by omega) ⟨m, rfl, EqS.rfl'⟩
  have e' : f_X8_check_L32 (nI w) 42 (nI f) 3000 0 (mkS m kp b) = _ := e
  exact ⟨M, nI w, e', hE⟩
theorem RR_clr (hR : RR m kp z) (hS : RS m 1 43 c) : RR (st1 (st1 m 15 3 0) 43 6 0) kp (z + 1) ∧ RS (st1 (st1 m 15 3 0) 43 6 0) 1 43 (cset c 6 0) := by
  obtain ⟨y1, y2, y3, y4, y5, y6⟩ := id hS.2.2.2.2.2.2.2.2.1
  have hW : RWai (st1 (st1 m 15 3 0) 43 6 0) 1 43 0 := by
    refine ⟨?_, ?_, ?_, ?_, by decide, fun k hk => ?_⟩
    · show st1 (st1 m 15 3 0) 43 6 0 15 0 = _
      rw [st1_ne (by decide), st1_nf (by decide)]; exact y1
    · show st1 (st1 m 15 3 0) 43 6 0 15 1 = _
      rw [st1_ne (by decide), st1_nf (by decide)]; exact y2
    · show st1 (st1 m 15 3 0) 43 6 0 15 3 = _
      rw [st1_ne (by decide), st1_eq]; rfl
    · rw [st1_eq]; rfl
    · show st1 (st1 m 15 3 0) 43 6 0 16 k = _
      rw [st1_ne (by decide), st1_ne (by decide), st1_nf (by omega), st1_ne (by decide)]
      exact y6 k hk
  refine ⟨RR_Wai hR hS (fun q q1 q2 q3 => by rw [st1_ne q3, st1_ne q1]) (fun i hi => by rw [st1_nf (by omega), st1_ne (by decide)]) 0 hW, ?_⟩
  obtain ⟨e1, e2, e3, e4, e5, e6, e7, e8, e9, e10, e11, e12⟩ := id hS
  have hc : ∀ q, q ≠ 15 → q ≠ 43 → st1 (st1 m 15 3 0) 43 6 0 q = m q := fun q q1 q2 => by rw [st1_ne q2, st1_ne q1]
  have hi : ∀ i, i ≠ 6 → st1 (st1 m 15 3 0) 43 6 0 43 i = m 43 i := fun i q => by rw [st1_nf q, st1_ne (by decide)]
  exact ⟨e1.fr (hc _ (by decide) (by decide)) (hc _ (by decide) (by decide)) (fun i _ _ => hi i (by omega)), e2.fr (by rw [hc _ (by decide) (by decide)]) (hi _ (by omega)), e3.fr (hc _ (by decide) (by decide)) (hc _ (by decide) (by decide)) (hi _ (by omega)) (fun i _ _ => hi i (by omega)), e4.fr (hc _ (by decide) (by decide)) (hc _ (by decide) (by decide)) (hc _ (by decide) (by decide)) (hi _ (by omega)) (fun i _ _ => hi i (by omega)), e5.fr (hc _ (by decide) (by decide)) (hc _ (by decide) (by decide)) (hi _ (by omega)) (fun i _ _ => hi i (by omega)), e6.fr (hc _ (by decide) (by decide)) (hc _ (by decide) (by decide)) (hi _ (by omega)) (fun i _ _ => hi i (by omega)), e7.fr (hc _ (by decide) (by decide)) (hc _ (by decide) (by decide)) (hi _ (by omega)) (fun i _ _ => hi i (by omega)), e8.fr (by rw [hc _ (by decide) (by decide)]) (hc _ (by decide) (by decide)) (hi _ (by omega)) (fun i _ _ => hi i (by omega)), hW, e10.fr (by rw [hc _ (by decide) (by decide)]) (hc _ (by decide) (by decide)) (fun i _ _ => hi i (by omega)), e11.fr (by rw [hc _ (by decide) (by decide)]) (hc _ (by decide) (by decide)) (fun i _ _ => hi i (by omega)), e12.fr (by rw [hc _ (by decide) (by decide)]) (hc _ (by decide) (by decide)) (fun i _ _ => hi i (by omega))⟩
theorem ckG_cl {f n k : Nat} : ckG (st1 (st1 m 15 3 0) 43 6 0) f n k = ckG m f n k := by
  have e1 : st1 (st1 m 15 3 0) 43 6 0 43 (1030 + k) = m 43 (1030 + k) := by rw [st1_nf (by omega), st1_ne (by decide)]
  have e2 : orN (st1 (st1 m 15 3 0) 43 6 0) f n k = orN m f n k := by
    obtain ⟨m', em'⟩ : ∃ m', m' = st1 (st1 m 15 3 0) 43 6 0 := ⟨_, rfl⟩
    have hN : ∀ i, i ≠ 6 → m' 43 i = m 43 i := fun i q => by rw [em', st1_nf q, st1_ne (by decide)]
    rw [← em']
    have hpp : ppN m' = ppN m := by funext q; unfold ppN; rw [hN _ (by omega)]
    have hdy : dyv m' = dyv m := by funext q; unfold dyv; rw [hpp, hN _ (by omega)]
    have hnm : nmv m' = nmv m := by funext q; unfold nmv; rw [hpp, hN _ (by omega)]
    have hPV : PV m' = PV m := by funext c j; unfold PV; rw [hN _ (by omega)]
    have hsz : szN m' = szN m := by funext c; unfold szN; rw [hN _ (by omega)]
    have hbd : bdB m' = bdB m := by funext p q h u d i; unfold bdB Bd BdE dA dB; rw [hPV, hsz]
    have hb5 : bF5 m' = bF5 m := by funext p q f; unfold bF5 bF4 bF3 bF2 bF1; rw [hbd, hsz]
    unfold orN orG cuB bNo
    rw [hdy, hnm, hb5]
  unfold ckG
  rw [e1, e2]
theorem ckF_cl {f n : Nat} : ckG (st1 (st1 m 15 3 0) 43 6 0) f n = ckG m f n := by
  funext k
  exact ckG_cl
theorem chk9 {f : Nat} (h : RS (st1 (st1 m 15 3 0) 43 6 0) 1 43 (cset c 6 0)) (hf : f ≤ 5) (hw : c 6 ≤ 24) : ∃ M y, f_X8_check_L32 (nI (c 6)) 42 (nI f) 3000 0 (mkS (st1 (st1 m 15 3 0) 43 6 0) kp b) = some (oZ (fun r => Sum.inl (nI r, mkS M kp b)) (Sum.inr (y, mkS M kp b)) (fstN (ckG m f (c 1)) (c 6) 0)) ∧ EqS (st1 (st1 m 15 3 0) 43 6 0) M := by
  have := chk8 (kp := kp) (b := b) (w := c 6) h hf hw
  rw [show cset c 6 0 1 = c 1 from rfl, ckF_cl] at this
  exact this
theorem op_check (w : Int32) : OpR (fun σ => f_X7_check σ 0 w) (fun σ => f_X8_check σ 42 w) := by
  intro m kp b z hR
  obtain ⟨⟨c, hS⟩, -⟩ := id hR
  obtain ⟨y1, y2, y3, y4, y5, y6⟩ := id hS.2.2.2.2.2.2.2.2.1
  obtain ⟨hR2, hS2⟩ := RR_clr hR hS
  by_cases hw : 1 ≤ w ∧ w ≤ 5
  · obtain ⟨f, hf1, hf, rfl⟩ := ex_rng (lo := 1) (hi := 5) (by decide) hw (by decide)
    obtain ⟨M, y, e8, hE⟩ := chk9 (kp := kp) (b := b) hS2 hf y5
    refine ⟨oZ nI 0 (fstN (ckG m f (c 1)) (c 6) 0), st1 m 15 3 0, kp, b, M, ?_, ?_, RR_scr hR2 hE⟩
    · show f_X7_check (mkS m kp b) 0 (nI f) = _
      unfold f_X7_check
      rw [if_pos io_0, isFactor7_eq, if_pos hw, Option.bind_some, if_neg (show ¬ (1 : Int32) = 0 by decide), chk7 hS hf, Option.bind_some, gq_0_0, Option.bind_some, gq_1_7, Option.bind_some, clear_15, Option.bind_some]
    · show f_X8_check (mkS (st1 m 15 3 0) kp b) 42 (nI f) = _
      unfold f_X8_check
      have e6 : st1 m 15 3 0 43 6 = nI (c 6) := by rw [st1_ne (by decide)]; exact y4
      rw [if_pos io_42, gq_42_0, Option.bind_some, rdl_6, e6, Option.bind_some, Option.bind_some, wrl_6, Option.bind_some, isFactor8_eq (t := 0), if_pos hw, Option.bind_some, if_neg (show ¬ (1 : Int32) = 0 by decide), e8, Option.bind_some]
      cases fstN (ckG m f (c 1)) (c 6) 0 <;> rfl
  · have hRR := RR_err hR2 (Nat.le_refl _) (k := 1) (by decide)
    refine ⟨-1000001, st1 (st1 m 30 1 (m 30 1 + 1)) 15 3 0, kp, b, st1 (st1 (st1 (st1 m 30 1 (m 30 1 + 1)) 15 3 0) 43 6 0) 45 1 (m 45 1 + 1), ?_, ?_, ?_⟩
    · show f_X7_check (mkS m kp b) 0 w = _
      unfold f_X7_check
      rw [if_pos io_0, isFactor7_eq, if_neg hw, Option.bind_some, if_pos rfl, fails_1, Option.bind_some]
      dsimp only
      rw [gq_0_0, Option.bind_some, gq_1_7, Option.bind_some, clear_15, Option.bind_some]
    · show f_X8_check (mkS _ kp b) 42 w = _
      unfold f_X8_check
      rw [if_pos io_42, gq_42_0, Option.bind_some, rdl_6, Option.bind_some, Option.bind_some, wrl_6, Option.bind_some, isFactor8_eq (t := 0), if_neg hw, Option.bind_some, if_pos rfl, finds_1, Option.bind_some, st1_ne (show (45 : Nat) ≠ 43 by decide), st1_ne (show (45 : Nat) ≠ 15 by decide), st1_ne (show (45 : Nat) ≠ 30 by decide)]
    · have e : st1 (st1 (st1 (st1 m 30 1 (m 30 1 + 1)) 15 3 0) 43 6 0) 45 1 (m 45 1 + 1) = st1 (st1 (st1 (st1 m 15 3 0) 43 6 0) 30 1 (st1 (st1 m 15 3 0) 43 6 0 30 1 + 1)) 45 1 (st1 (st1 (st1 m 15 3 0) 43 6 0) 30 1 (st1 (st1 m 15 3 0) 43 6 0 30 1 + 1) 45 1 + 1) := by
        rw [st1_ne (show (30 : Nat) ≠ 43 by decide), st1_ne (show (30 : Nat) ≠ 15 by decide), st1_ne (show (45 : Nat) ≠ 30 by decide), st1_ne (show (45 : Nat) ≠ 43 by decide), st1_ne (show (45 : Nat) ≠ 15 by decide)]
        funext q j
        simp only [st1_app]
        repeat' split
        all_goals first | rfl | (exfalso; omega)
      rw [e]
      exact hRR
end CK
