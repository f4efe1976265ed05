/-- a loop over a known row of states -/
theorem loopS {α ρ : Type} (L : Nat → Nat → α → Option ρ) (S : Nat → α) (r : ρ) (K : Nat) (hs : ∀ f i, i < K → L (f + 1) i (S i) = L f (i + 1) (S (i + 1))) (he : ∀ f, L (f + 1) K (S K) = some r) : ∀ k i f, i + k = K → k < f → L f i (S i) = some r := by
  intro k
  induction k with
  | zero =>
    intro i f h1 h2
    obtain ⟨f, rfl⟩ : ∃ q, f = q + 1 := ⟨f - 1, by omega⟩
    have : i = K := by omega
    subst this
    exact he f
  | succ k ih =>
    intro i f h1 h2
    obtain ⟨f, rfl⟩ : ∃ q, f = q + 1 := ⟨f - 1, by omega⟩
    rw [hs f i (by omega)]
    exact ih (i + 1) f (by omega) (by omega)
theorem st1_app {m : Nat → Nat → Int32} {k f : Nat} {v : Int32} (q j : Nat) : st1 m k f v q j = if q = k ∧ j = f then v else m q j := by
  by_cases h : q = k
  · subst h
    rw [st1_at]
    by_cases h2 : j = f
    · rw [if_pos h2, if_pos ⟨rfl, h2⟩]
    · rw [if_neg h2, if_neg (fun x => h2 x.2)]
  · rw [st1_ne h, if_neg (fun x => h x.1)]
theorem wrow_app {m : Nat → Nat → Int32} {c i k : Nat} {g : Nat → Int32} (q j : Nat) : wrow m c i k g q j = if q = c ∧ i ≤ j ∧ j < i + k then g (j - i) else m q j := by
  by_cases h : q = c
  · subst h
    rw [wrow_at]
    by_cases h2 : i ≤ j ∧ j < i + k
    · rw [if_pos h2, if_pos ⟨rfl, h2⟩]
    · rw [if_neg h2, if_neg (fun x => h2 x.2)]
  · rw [wrow_ne h, if_neg (fun x => h x.1)]
section OJ
variable {m : Nat → Nat → Int32} {kp : Bool} {b : Option Nat} {z : Nat}
/-! places -/
def plP (a : Int32) (n : Nat) : Prop := 0 ≤ a ∧ (0 ≤ a / 10 ∧ a / 10 < nI n) ∧ ¬ 3 < irm a 10
theorem r10n {a : Int32} (h : ¬ a < 0) : ∃ x, x < 10 ∧ irm a 10 = nI x := by
  obtain ⟨x, hx, rfl⟩ := nn h
  exact ⟨x % 10, by omega, r10 hx⟩
theorem place7 {n : Nat} (h3 : m 4 3 = nI n) {a : Int32} : (plP a n → f_X7_isPlace (mkS m kp b) 0 a = some 1) ∧ (¬ plP a n → f_X7_isPlace (mkS m kp b) 0 a = some 0) := by
  unfold f_X7_isPlace plP
  simp only [io_0, gI_0, pI_0, pZ_0, io_1, gI_1, pI_1, pZ_1, io_2, gI_2, pI_2, pZ_2, aL_3, io_4, gI_4, pI_4, pZ_4, aL_5, io_6, gI_6, pI_6, pZ_6, aL_7, aL_8, io_9, gI_9, pI_9, pZ_9, aL_10, io_11, gI_11, pI_11, pZ_11, aL_12, io_13, gI_13, pI_13, pZ_13, aL_14, io_15, gI_15, pI_15, pZ_15, aL_16, io_17, gI_17, pI_17, pZ_17, aL_18, aL_19, io_20, gI_20, pI_20, pZ_20, aL_21, io_22, gI_22, pI_22, pZ_22, aL_23, io_24, gI_24, pI_24, pZ_24, aL_25, io_26, gI_26, pI_26, pZ_26, io_27, gI_27, pI_27, pZ_27, aL_28, aL_29, aL_30, aL_31, aL_32, aL_33, io_34, gI_34, pI_34, pZ_34, aL_35, io_36, gI_36, pI_36, pZ_36, aL_37, io_38, gI_38, pI_38, pZ_38, aL_39, io_40, gI_40, pI_40, pZ_40, aL_41, io_42, gI_42, pI_42, pZ_42, aL_43, aL_44, aL_45, aL_46, aL_47, aL_48, aL_49, aL_50, aL_51, aL_52, aL_53, aL_54, aL_55, aL_56, aL_57, aL_58, gq_0_0, gq_0_1, gq_0_2, gq_0_3, gq_0_4, gq_0_5, gq_0_6, gq_0_7, gq_1_0, gq_1_1, gq_1_2, gq_1_3, gq_1_4, gq_1_5, gq_1_6, gq_1_7, gq_1_8, gq_1_9, gq_2_2, gq_4_2, gq_6_2, gq_9_2, gq_11_2, gq_13_2, gq_15_2, gq_17_0, gq_20_0, gq_22_0, gq_24_0, gq_27_0, gq_34_0, gq_36_0, gq_38_0, gq_40_0, gq_42_0, gq_42_1, gq_42_3, gq_42_4, gq_42_11, gq_42_12, gq_42_13, gq_42_15, gq_42_16, gq_42_17, gq_42_18, gq_42_19, gq_42_23, gq_42_24, gq_42_25, gq_42_26, aQ_29_0, aQ_29_1, aQ_29_2, aQ_29_3, aQ_19_0, aQ_19_1, aQ_19_2, aQ_46_0, aQ_46_1, aQ_46_2, gq_26, gr_26, gr_0_8, pQ_26, Option.bind_some, ↓reduceIte, one_ne0, has_4 h3, z01]
  by_cases h0 : a < 0
  · exact ⟨fun h => absurd h.1 (Int32.not_le.mpr h0), fun _ => by rw [if_pos h0]⟩
  · have h0' := Int32.not_lt.mp h0
    by_cases h1 : 0 ≤ a / 10 ∧ a / 10 < nI n
    · by_cases h2 : 3 < irm a 10
      · exact ⟨fun h => absurd h2 h.2.2, fun _ => by simp [h0, h1, h2]⟩
      · exact ⟨fun _ => by simp [h0, h1, h2], fun h => absurd ⟨h0', h1, h2⟩ h⟩
    · exact ⟨fun h => absurd h.2.1 h1, fun _ => by simp [h0, h1]⟩
theorem place8 {n : Nat} (h3 : m 43 0 = nI n) (hn : n ≤ 1000) {a : Int32} : (plP a n → f_X8_isPlace (mkS m kp b) 42 a = some 1) ∧ (¬ plP a n → f_X8_isPlace (mkS m kp b) 42 a = some 0) := by
  unfold f_X8_isPlace plP
  simp only [io_0, gI_0, pI_0, pZ_0, io_1, gI_1, pI_1, pZ_1, io_2, gI_2, pI_2, pZ_2, aL_3, io_4, gI_4, pI_4, pZ_4, aL_5, io_6, gI_6, pI_6, pZ_6, aL_7, aL_8, io_9, gI_9, pI_9, pZ_9, aL_10, io_11, gI_11, pI_11, pZ_11, aL_12, io_13, gI_13, pI_13, pZ_13, aL_14, io_15, gI_15, pI_15, pZ_15, aL_16, io_17, gI_17, pI_17, pZ_17, aL_18, aL_19, io_20, gI_20, pI_20, pZ_20, aL_21, io_22, gI_22, pI_22, pZ_22, aL_23, io_24, gI_24, pI_24, pZ_24, aL_25, io_26, gI_26, pI_26, pZ_26, io_27, gI_27, pI_27, pZ_27, aL_28, aL_29, aL_30, aL_31, aL_32, aL_33, io_34, gI_34, pI_34, pZ_34, aL_35, io_36, gI_36, pI_36, pZ_36, aL_37, io_38, gI_38, pI_38, pZ_38, aL_39, io_40, gI_40, pI_40, pZ_40, aL_41, io_42, gI_42, pI_42, pZ_42, aL_43, aL_44, aL_45, aL_46, aL_47, aL_48, aL_49, aL_50, aL_51, aL_52, aL_53, aL_54, aL_55, aL_56, aL_57, aL_58, gq_0_0, gq_0_1, gq_0_2, gq_0_3, gq_0_4, gq_0_5, gq_0_6, gq_0_7, gq_1_0, gq_1_1, gq_1_2, gq_1_3, gq_1_4, gq_1_5, gq_1_6, gq_1_7, gq_1_8, gq_1_9, gq_2_2, gq_4_2, gq_6_2, gq_9_2, gq_11_2, gq_13_2, gq_15_2, gq_17_0, gq_20_0, gq_22_0, gq_24_0, gq_27_0, gq_34_0, gq_36_0, gq_38_0, gq_40_0, gq_42_0, gq_42_1, gq_42_3, gq_42_4, gq_42_11, gq_42_12, gq_42_13, gq_42_15, gq_42_16, gq_42_17, gq_42_18, gq_42_19, gq_42_23, gq_42_24, gq_42_25, gq_42_26, aQ_29_0, aQ_29_1, aQ_29_2, aQ_29_3, aQ_19_0, aQ_19_1, aQ_19_2, aQ_46_0, aQ_46_1, aQ_46_2, gq_26, gr_26, gr_0_8, pQ_26, Option.bind_some, ↓reduceIte, one_ne0, is_0 h3 hn, z01]
  by_cases h0 : a < 0
  · exact ⟨fun h => absurd h.1 (Int32.not_le.mpr h0), fun _ => by rw [if_pos h0]⟩
  · have h0' := Int32.not_lt.mp h0
    obtain ⟨x, hx, ex⟩ := r10n h0
    have e3 : (3 < irm a 10) ↔ (4 ≤ irm a 10) := by
      rw [ex, show (3 : Int32) = nI 3 from rfl, show (4 : Int32) = nI 4 from rfl, nI_ltI (by decide) (by omega), nI_leI (by decide) (by omega)]
      omega
    by_cases h1 : 0 ≤ a / 10 ∧ a / 10 < nI n
    · by_cases h2 : 3 < irm a 10
      · have h4 := e3.mp h2
        exact ⟨fun h => absurd h2 h.2.2, fun _ => by simp [h0, h1, h4]⟩
      · have h4 : ¬ 4 ≤ irm a 10 := fun h => h2 (e3.mpr h)
        exact ⟨fun _ => by simp [h0, h1, h4], fun h => absurd ⟨h0', h1, h2⟩ h⟩
    · exact ⟨fun h => absurd h.2.1 h1, fun _ => by simp [h0, h1]⟩
theorem place_ex {n : Nat} (hn : n ≤ 1000) {a : Int32} (h : plP a n) : ∃ p u, p < n ∧ u < 4 ∧ a / 10 = nI p ∧ irm a 10 = nI u := by
  obtain ⟨h1, h2, h3⟩ := h
  obtain ⟨p, hp, ep⟩ := ex_nI (n := n) (by omega) h2
  obtain ⟨x, hx, ex⟩ := r10n (Int32.not_lt.mpr h1)
  refine ⟨p, x, hp, ?_, ep, ex⟩
  rw [ex, show (3 : Int32) = nI 3 from rfl, nI_ltI (by decide) (by omega)] at h3
  omega
/-! curves of sheets -/
theorem atS {i s j : Nat} (hi : i < 4) (hs : m (34 + 2 * i) 2 = nI s) (hs2 : s ≤ 24) (hj : j < s) : f_X3_at (mkS m kp b) (34 + 2 * i) (nI j) = some (m (35 + 2 * i) j) := by
  unfold f_X3_at
  rw [if_pos (ioS hi), holds1 hi hs hs2, if_pos ⟨nI_pos' (by omega), nI_lt hj (by omega)⟩]
  simp only [Option.bind_some, one_ne0, ↓reduceIte, gqS hi, rdS hi (show j < 24 by omega)]
def ptG (m : Nat → Nat → Int32) (i x : Nat) (k : Nat) (_ : Unit) : Unit ⊕ Unit := if -99999 ≤ m 57 (24 * i + x + k) ∧ m 57 (24 * i + x + k) ≤ 99999 then .inr () else .inl ()
def ptB (r : Unit ⊕ Unit) : Int32 := match r with | .inl _ => 0 | .inr _ => 1
theorem ptG_all {i x : Nat} : ∀ k j, itE (ptG m i x) k j () = .inr () → ∀ q, j ≤ q → q < j + k → -99999 ≤ m 57 (24 * i + x + q) ∧ m 57 (24 * i + x + q) ≤ 99999
  | 0, j, _, q, h1, h2 => absurd h2 (by omega)
  | k + 1, j, h, q, h1, h2 => by
    unfold itE at h
    by_cases hj : -99999 ≤ m 57 (24 * i + x + j) ∧ m 57 (24 * i + x + j) ≤ 99999
    · have e : ptG m i x j () = .inr () := if_pos hj
      rw [e] at h
      by_cases hq : q = j
      · rw [hq]; exact hj
      · exact ptG_all k (j + 1) h q (by omega) (by omega)
    · have e : ptG m i x j () = .inl () := if_neg hj
      rw [e] at h
      exact absurd h (by simp)
theorem pts7 {i s x L : Nat} (hi : i < 4) (hs : m (34 + 2 * i) 2 = nI s) (hs2 : s ≤ 24) (hx : x + L ≤ s) (hr : ∀ j, j < 24 → m (35 + 2 * i) j = m 57 (24 * i + j)) : f_X7_arePoints (mkS m kp b) (34 + 2 * i) (nI x) (nI L) = some (ptB (itE (ptG m i x) L 0 ())) := by
  unfold f_X7_arePoints
  have := loopE (fun f k (_ : Unit) => f_X7_arePoints_L2 (mkS m kp b) (34 + 2 * i) (nI x) (nI L) f (nI k)) (fun _ => Sum.inl (0 : Int32)) (fun _ => Sum.inr (nI L)) (ptG m i x) L (fun f k a hk => by
    show f_X7_arePoints_L2 (mkS m kp b) (34 + 2 * i) (nI x) (nI L) (f + 1) (nI k) = _
    rw [f_X7_arePoints_L2]
    have e : m (35 + 2 * i) (x + k) = m 57 (24 * i + x + k) := by rw [hr _ (by omega)]; congr 1; omega
    simp only [nle hk (show L < 2 ^ 31 by omega), ↓reduceIte, nI_add, atS hi hs hs2 (show x + k < s by omega), Option.bind_some, outside_eq, e, nI_a1]
    unfold ptG
    by_cases h : -99999 ≤ m 57 (24 * i + x + k) ∧ m 57 (24 * i + x + k) ≤ 99999
    · simp only [if_pos h, ↓reduceIte]
    · simp only [if_neg h, ↓reduceIte, one_ne0]) (fun f a => by
    show f_X7_arePoints_L2 (mkS m kp b) (34 + 2 * i) (nI x) (nI L) (f + 1) (nI L) = _
    rw [f_X7_arePoints_L2, if_pos (Int32.le_refl _)]) L 0 () 3000 (by omega) (by omega)
  simp only [nI_0] at this
  rw [this, Option.bind_some]
  cases itE (ptG m i x) L 0 () <;> rfl
theorem pts8 {i x L : Nat} (hi : i < 4) (hx : x + L ≤ 24) : ∀ k j f, j + k = L → k < f → ∃ y, f_X8_curve__L88 (mkS m kp b) 42 (nI i) (nI x) (nI L) f (nI j) 1 = some (y, ptB (itE (ptG m i x) k j ())) := by
  intro k
  induction k with
  | zero =>
    intro j f h1 h2
    obtain ⟨f, rfl⟩ : ∃ q, f = q + 1 := ⟨f - 1, by omega⟩
    refine ⟨nI j, ?_⟩
    rw [f_X8_curve__L88, if_pos (nI_le (by omega) (by omega))]
    rfl
  | succ k ih =>
    intro j f h1 h2
    obtain ⟨f, rfl⟩ : ∃ q, f = q + 2 := ⟨f - 2, by omega⟩
    rw [f_X8_curve__L88]
    simp only [io_0, gI_0, pI_0, pZ_0, io_1, gI_1, pI_1, pZ_1, io_2, gI_2, pI_2, pZ_2, aL_3, io_4, gI_4, pI_4, pZ_4, aL_5, io_6, gI_6, pI_6, pZ_6, aL_7, aL_8, io_9, gI_9, pI_9, pZ_9, aL_10, io_11, gI_11, pI_11, pZ_11, aL_12, io_13, gI_13, pI_13, pZ_13, aL_14, io_15, gI_15, pI_15, pZ_15, aL_16, io_17, gI_17, pI_17, pZ_17, aL_18, aL_19, io_20, gI_20, pI_20, pZ_20, aL_21, io_22, gI_22, pI_22, pZ_22, aL_23, io_24, gI_24, pI_24, pZ_24, aL_25, io_26, gI_26, pI_26, pZ_26, io_27, gI_27, pI_27, pZ_27, aL_28, aL_29, aL_30, aL_31, aL_32, aL_33, io_34, gI_34, pI_34, pZ_34, aL_35, io_36, gI_36, pI_36, pZ_36, aL_37, io_38, gI_38, pI_38, pZ_38, aL_39, io_40, gI_40, pI_40, pZ_40, aL_41, io_42, gI_42, pI_42, pZ_42, aL_43, aL_44, aL_45, aL_46, aL_47, aL_48, aL_49, aL_50, aL_51, aL_52, aL_53, aL_54, aL_55, aL_56, aL_57, aL_58, gq_0_0, gq_0_1, gq_0_2, gq_0_3, gq_0_4, gq_0_5, gq_0_6, gq_0_7, gq_1_0, gq_1_1, gq_1_2, gq_1_3, gq_1_4, gq_1_5, gq_1_6, gq_1_7, gq_1_8, gq_1_9, gq_2_2, gq_4_2, gq_6_2, gq_9_2, gq_11_2, gq_13_2, gq_15_2, gq_17_0, gq_20_0, gq_22_0, gq_24_0, gq_27_0, gq_34_0, gq_36_0, gq_38_0, gq_40_0, gq_42_0, gq_42_1, gq_42_3, gq_42_4, gq_42_11, gq_42_12, gq_42_13, gq_42_15, gq_42_16, gq_42_17, gq_42_18, gq_42_19, gq_42_23, gq_42_24, gq_42_25, gq_42_26, aQ_29_0, aQ_29_1, aQ_29_2, aQ_29_3, aQ_19_0, aQ_19_1, aQ_19_2, aQ_46_0, aQ_46_1, aQ_46_2, gq_26, gr_26, gr_0_8, pQ_26, Option.bind_some, ↓reduceIte, one_ne0, nle (show j < L by omega) (show L < 2 ^ 31 by omega), ix57b, rd_57 (show 24 * i + x + j < 96 by omega), within_eq, nI_a1]
    unfold itE
    by_cases h : -99999 ≤ m 57 (24 * i + x + j) ∧ m 57 (24 * i + x + j) ≤ 99999
    · have e : ptG m i x j () = .inr () := if_pos h
      rw [if_pos h, e]
      exact ih (j + 1) (f + 1) (by omega) (by omega)
    · have e : ptG m i x j () = .inl () := if_neg h
      rw [if_neg h, e, f_X8_curve__L88]
      by_cases h3 : nI L ≤ nI (j + 1)
      · exact ⟨_, by rw [if_pos h3]; rfl⟩
      · exact ⟨_, by rw [if_neg h3, if_pos rfl]; rfl⟩
theorem cur7_loop {n i s x L : Nat} {k p u y v : Int32} (hn : n < 24) (hi : i < 4) (hs : m (34 + 2 * i) 2 = nI s) (hs2 : s ≤ 24) (hx : x + L ≤ s) (hr : ∀ j, j < 24 → m (35 + 2 * i) j = m 57 (24 * i + j)) : f_X7_curve_L140 (nI n) (34 + 2 * i) 0 (nI x) (nI L) 3000 0 (mkS (cA m n k p u y v) kp b) = some (nI L, mkS (cN m n k p u y v L (fun j => m 57 (24 * i + x + j))) kp b) := by
  refine rowC (L := fun f j M => f_X7_curve_L140 (nI n) (34 + 2 * i) 0 (nI x) (nI L) f (nI j) (mkS M kp b)) (X := L) (n := n) (g := fun j => m 57 (24 * i + x + j)) (cell := 8) (base := n * 24) (fun f j hj => ?_) (fun f => ?_) (by omega)
  · show f_X7_curve_L140 (nI n) (34 + 2 * i) 0 (nI x) (nI L) (f + 1) (nI j) _ = f_X7_curve_L140 (nI n) (34 + 2 * i) 0 (nI x) (nI L) f (nI (j + 1)) _
    rw [f_X7_curve_L140]
    have h2 : wrow (cA m n k p u y v) 8 (n * 24) j (fun j => m 57 (24 * i + x + j)) (34 + 2 * i) 2 = nI s := by rw [wrow_ne (by omega), cA_ne (by omega) (by omega)]; exact hs
    have h3 : wrow (cA m n k p u y v) 8 (n * 24) j (fun j => m 57 (24 * i + x + j)) (35 + 2 * i) (x + j) = m 57 (24 * i + x + j) := by
      rw [wrow_ne (by omega), cA_ne (by omega) (by omega), hr _ (by omega)]; congr 1; omega
    simp only [io_0, gI_0, pI_0, pZ_0, io_1, gI_1, pI_1, pZ_1, io_2, gI_2, pI_2, pZ_2, aL_3, io_4, gI_4, pI_4, pZ_4, aL_5, io_6, gI_6, pI_6, pZ_6, aL_7, aL_8, io_9, gI_9, pI_9, pZ_9, aL_10, io_11, gI_11, pI_11, pZ_11, aL_12, io_13, gI_13, pI_13, pZ_13, aL_14, io_15, gI_15, pI_15, pZ_15, aL_16, io_17, gI_17, pI_17, pZ_17, aL_18, aL_19, io_20, gI_20, pI_20, pZ_20, aL_21, io_22, gI_22, pI_22, pZ_22, aL_23, io_24, gI_24, pI_24, pZ_24, aL_25, io_26, gI_26, pI_26, pZ_26, io_27, gI_27, pI_27, pZ_27, aL_28, aL_29, aL_30, aL_31, aL_32, aL_33, io_34, gI_34, pI_34, pZ_34, aL_35, io_36, gI_36, pI_36, pZ_36, aL_37, io_38, gI_38, pI_38, pZ_38, aL_39, io_40, gI_40, pI_40, pZ_40, aL_41, io_42, gI_42, pI_42, pZ_42, aL_43, aL_44, aL_45, aL_46, aL_47, aL_48, aL_49, aL_50, aL_51, aL_52, aL_53, aL_54, aL_55, aL_56, aL_57, aL_58, gq_0_0, gq_0_1, gq_0_2, gq_0_3, gq_0_4, gq_0_5, gq_0_6, gq_0_7, gq_1_0, gq_1_1, gq_1_2, gq_1_3, gq_1_4, gq_1_5, gq_1_6, gq_1_7, gq_1_8, gq_1_9, gq_2_2, gq_4_2, gq_6_2, gq_9_2, gq_11_2, gq_13_2, gq_15_2, gq_17_0, gq_20_0, gq_22_0, gq_24_0, gq_27_0, gq_34_0, gq_36_0, gq_38_0, gq_40_0, gq_42_0, gq_42_1, gq_42_3, gq_42_4, gq_42_11, gq_42_12, gq_42_13, gq_42_15, gq_42_16, gq_42_17, gq_42_18, gq_42_19, gq_42_23, gq_42_24, gq_42_25, gq_42_26, aQ_29_0, aQ_29_1, aQ_29_2, aQ_29_3, aQ_19_0, aQ_19_1, aQ_19_2, aQ_46_0, aQ_46_1, aQ_46_2, gq_26, gr_26, gr_0_8, pQ_26, Option.bind_some, ↓reduceIte, one_ne0, nle hj (show L < 2 ^ 31 by omega), nI_add, atS hi h2 hs2 (show x + j < s by omega), h3, setPt hn (show j < 24 by omega), nI_a1]
  · show f_X7_curve_L140 (nI n) (34 + 2 * i) 0 (nI x) (nI L) (f + 1) (nI L) _ = _
    rw [f_X7_curve_L140, if_pos (Int32.le_refl _)]
theorem cur8_loop {n i x L : Nat} {m0 : Nat → Nat → Int32} {k p u y v : Int32} {g : Nat → Int32} (hn : n < 24) (hi : i < 4) (hx : x + L ≤ 24) (hg : ∀ j, j < L → m0 57 (24 * i + x + j) = g j) : f_X8_curve__L181 (nI n) 42 (nI i) (nI x) (nI L) 3000 0 (mkS (mA m0 n k p u y v) kp b) = some (nI L, mkS (mN m0 n k p u y v L g) kp b) := by
  refine rowC (L := fun f j M => f_X8_curve__L181 (nI n) 42 (nI i) (nI x) (nI L) f (nI j) (mkS M kp b)) (X := L) (n := n) (g := g) (cell := 43) (base := 87 + 29 * n) (fun f j hj => ?_) (fun f => ?_) (by omega)
  · show f_X8_curve__L181 (nI n) 42 (nI i) (nI x) (nI L) (f + 1) (nI j) _ = f_X8_curve__L181 (nI n) 42 (nI i) (nI x) (nI L) f (nI (j + 1)) _
    rw [f_X8_curve__L181]
    have h3 : wrow (mA m0 n k p u y v) 43 (87 + 29 * n) j g 57 (24 * i + x + j) = g j := by
      rw [wrow_ne (by decide), mA_ne (by decide)]; exact hg j hj
    simp only [io_0, gI_0, pI_0, pZ_0, io_1, gI_1, pI_1, pZ_1, io_2, gI_2, pI_2, pZ_2, aL_3, io_4, gI_4, pI_4, pZ_4, aL_5, io_6, gI_6, pI_6, pZ_6, aL_7, aL_8, io_9, gI_9, pI_9, pZ_9, aL_10, io_11, gI_11, pI_11, pZ_11, aL_12, io_13, gI_13, pI_13, pZ_13, aL_14, io_15, gI_15, pI_15, pZ_15, aL_16, io_17, gI_17, pI_17, pZ_17, aL_18, aL_19, io_20, gI_20, pI_20, pZ_20, aL_21, io_22, gI_22, pI_22, pZ_22, aL_23, io_24, gI_24, pI_24, pZ_24, aL_25, io_26, gI_26, pI_26, pZ_26, io_27, gI_27, pI_27, pZ_27, aL_28, aL_29, aL_30, aL_31, aL_32, aL_33, io_34, gI_34, pI_34, pZ_34, aL_35, io_36, gI_36, pI_36, pZ_36, aL_37, io_38, gI_38, pI_38, pZ_38, aL_39, io_40, gI_40, pI_40, pZ_40, aL_41, io_42, gI_42, pI_42, pZ_42, aL_43, aL_44, aL_45, aL_46, aL_47, aL_48, aL_49, aL_50, aL_51, aL_52, aL_53, aL_54, aL_55, aL_56, aL_57, aL_58, gq_0_0, gq_0_1, gq_0_2, gq_0_3, gq_0_4, gq_0_5, gq_0_6, gq_0_7, gq_1_0, gq_1_1, gq_1_2, gq_1_3, gq_1_4, gq_1_5, gq_1_6, gq_1_7, gq_1_8, gq_1_9, gq_2_2, gq_4_2, gq_6_2, gq_9_2, gq_11_2, gq_13_2, gq_15_2, gq_17_0, gq_20_0, gq_22_0, gq_24_0, gq_27_0, gq_34_0, gq_36_0, gq_38_0, gq_40_0, gq_42_0, gq_42_1, gq_42_3, gq_42_4, gq_42_11, gq_42_12, gq_42_13, gq_42_15, gq_42_16, gq_42_17, gq_42_18, gq_42_19, gq_42_23, gq_42_24, gq_42_25, gq_42_26, aQ_29_0, aQ_29_1, aQ_29_2, aQ_29_3, aQ_19_0, aQ_19_1, aQ_19_2, aQ_46_0, aQ_46_1, aQ_46_2, gq_26, gr_26, gr_0_8, pQ_26, Option.bind_some, ↓reduceIte, one_ne0, nle hj (show L < 2 ^ 31 by omega), ix57b, rd_57 (show 24 * i + x + j < 96 by omega), h3, lay_eq hn (show j < 24 by omega), nI_a1]
  · show f_X8_curve__L181 (nI n) 42 (nI i) (nI x) (nI L) (f + 1) (nI L) _ = _
    rw [f_X8_curve__L181, if_pos (Int32.le_refl _)]
theorem op_curve (a v w u t : Int32) : OpR (fun σ => f_X7_curve σ 0 a v w u t) (fun σ => f_X8_curve_ σ 42 a v w u t) := by
  intro m kp b z hR
  have hSh := hR.2.2.1
  obtain ⟨⟨c, hS⟩, -⟩ := id hR
  obtain ⟨u1, u2, u3, u4, u5, u6, u6b, u7⟩ := id hS.2.2.2.1
  obtain ⟨w1, w2, w3, w4, w5, w6, w7⟩ := id hS.2.2.1
  have w4e : ∀ k v, st1 m 30 k v 43 0 = nI (c 0) := fun k v => e43 w4
  by_cases ha : 0 ≤ a ∧ a ≤ 7
  · by_cases hp : plP v (c 0)
    · by_cases hw : 0 ≤ w ∧ w ≤ 3
      · by_cases ht : 3 ≤ t ∧ t ≤ 24
        · obtain ⟨i, -, hi, rfl⟩ := ex_rng (lo := 0) (hi := 3) (by decide) hw (by decide)
          obtain ⟨L, hL3, hL, rfl⟩ := ex_rng (lo := 3) (hi := 24) (by decide) ht (by decide)
          obtain ⟨s1, s2, ⟨s, hs, es⟩, s4, s5⟩ := hSh i (by omega)
          have es7 : m (34 + 2 * i) 2 = nI s := s2.trans es
          have hi4 : i < 4 := by omega
          by_cases h0 : m 55 i = 0
          · refine op_err1 (k := 2) (e := -1000002) (by decide) hR ?_ ?_
            · show f_X7_curve (mkS m kp b) 0 a v (nI i) u (nI L) = _
              unfold f_X7_curve
              simp only [io_0, gI_0, pI_0, pZ_0, io_1, gI_1, pI_1, pZ_1, io_2, gI_2, pI_2, pZ_2, aL_3, io_4, gI_4, pI_4, pZ_4, aL_5, io_6, gI_6, pI_6, pZ_6, aL_7, aL_8, io_9, gI_9, pI_9, pZ_9, aL_10, io_11, gI_11, pI_11, pZ_11, aL_12, io_13, gI_13, pI_13, pZ_13, aL_14, io_15, gI_15, pI_15, pZ_15, aL_16, io_17, gI_17, pI_17, pZ_17, aL_18, aL_19, io_20, gI_20, pI_20, pZ_20, aL_21, io_22, gI_22, pI_22, pZ_22, aL_23, io_24, gI_24, pI_24, pZ_24, aL_25, io_26, gI_26, pI_26, pZ_26, io_27, gI_27, pI_27, pZ_27, aL_28, aL_29, aL_30, aL_31, aL_32, aL_33, io_34, gI_34, pI_34, pZ_34, aL_35, io_36, gI_36, pI_36, pZ_36, aL_37, io_38, gI_38, pI_38, pZ_38, aL_39, io_40, gI_40, pI_40, pZ_40, aL_41, io_42, gI_42, pI_42, pZ_42, aL_43, aL_44, aL_45, aL_46, aL_47, aL_48, aL_49, aL_50, aL_51, aL_52, aL_53, aL_54, aL_55, aL_56, aL_57, aL_58, gq_0_0, gq_0_1, gq_0_2, gq_0_3, gq_0_4, gq_0_5, gq_0_6, gq_0_7, gq_1_0, gq_1_1, gq_1_2, gq_1_3, gq_1_4, gq_1_5, gq_1_6, gq_1_7, gq_1_8, gq_1_9, gq_2_2, gq_4_2, gq_6_2, gq_9_2, gq_11_2, gq_13_2, gq_15_2, gq_17_0, gq_20_0, gq_22_0, gq_24_0, gq_27_0, gq_34_0, gq_36_0, gq_38_0, gq_40_0, gq_42_0, gq_42_1, gq_42_3, gq_42_4, gq_42_11, gq_42_12, gq_42_13, gq_42_15, gq_42_16, gq_42_17, gq_42_18, gq_42_19, gq_42_23, gq_42_24, gq_42_25, gq_42_26, aQ_29_0, aQ_29_1, aQ_29_2, aQ_29_3, aQ_19_0, aQ_19_1, aQ_19_2, aQ_46_0, aQ_46_1, aQ_46_2, gq_26, gr_26, gr_0_8, pQ_26, Option.bind_some, ↓reduceIte, one_ne0, outside_eq, if_pos ha, (place7 w3).1 hp, if_pos hw, isLength7_eq, if_pos ht, aQ29 hi4, missS hi4, s1, if_pos h0, fails_2]
              try simp
            · show f_X8_curve_ (mkS _ kp b) 42 a v (nI i) u (nI L) = _
              unfold f_X8_curve_
              simp only [io_0, gI_0, pI_0, pZ_0, io_1, gI_1, pI_1, pZ_1, io_2, gI_2, pI_2, pZ_2, aL_3, io_4, gI_4, pI_4, pZ_4, aL_5, io_6, gI_6, pI_6, pZ_6, aL_7, aL_8, io_9, gI_9, pI_9, pZ_9, aL_10, io_11, gI_11, pI_11, pZ_11, aL_12, io_13, gI_13, pI_13, pZ_13, aL_14, io_15, gI_15, pI_15, pZ_15, aL_16, io_17, gI_17, pI_17, pZ_17, aL_18, aL_19, io_20, gI_20, pI_20, pZ_20, aL_21, io_22, gI_22, pI_22, pZ_22, aL_23, io_24, gI_24, pI_24, pZ_24, aL_25, io_26, gI_26, pI_26, pZ_26, io_27, gI_27, pI_27, pZ_27, aL_28, aL_29, aL_30, aL_31, aL_32, aL_33, io_34, gI_34, pI_34, pZ_34, aL_35, io_36, gI_36, pI_36, pZ_36, aL_37, io_38, gI_38, pI_38, pZ_38, aL_39, io_40, gI_40, pI_40, pZ_40, aL_41, io_42, gI_42, pI_42, pZ_42, aL_43, aL_44, aL_45, aL_46, aL_47, aL_48, aL_49, aL_50, aL_51, aL_52, aL_53, aL_54, aL_55, aL_56, aL_57, aL_58, gq_0_0, gq_0_1, gq_0_2, gq_0_3, gq_0_4, gq_0_5, gq_0_6, gq_0_7, gq_1_0, gq_1_1, gq_1_2, gq_1_3, gq_1_4, gq_1_5, gq_1_6, gq_1_7, gq_1_8, gq_1_9, gq_2_2, gq_4_2, gq_6_2, gq_9_2, gq_11_2, gq_13_2, gq_15_2, gq_17_0, gq_20_0, gq_22_0, gq_24_0, gq_27_0, gq_34_0, gq_36_0, gq_38_0, gq_40_0, gq_42_0, gq_42_1, gq_42_3, gq_42_4, gq_42_11, gq_42_12, gq_42_13, gq_42_15, gq_42_16, gq_42_17, gq_42_18, gq_42_19, gq_42_23, gq_42_24, gq_42_25, gq_42_26, aQ_29_0, aQ_29_1, aQ_29_2, aQ_29_3, aQ_19_0, aQ_19_1, aQ_19_2, aQ_46_0, aQ_46_1, aQ_46_2, gq_26, gr_26, gr_0_8, pQ_26, Option.bind_some, ↓reduceIte, one_ne0, within_eq, if_pos ha, (place8 (w4e _ _) (show c 0 ≤ 1000 by omega)).1 hp, isSheet8_eq, if_pos hw, if_pos ht, rd_55 hi4, st1_ne (show (55 : Nat) ≠ 30 by decide), if_pos h0, finds_2]
              try simp
          · by_cases hu : u < 0
            · have h88 : ∀ M : Nat → Nat → Int32, f_X8_curve__L88 (mkS M kp b) 42 (nI i) u (nI L) 3000 0 0 = some (0, 0) := fun M => by
                rw [f_X8_curve__L88, if_neg (nI_nle (by omega) (by omega)), if_pos rfl]
              refine op_err1 (k := 1) (e := -1000001) (by decide) hR ?_ ?_
              · show f_X7_curve (mkS m kp b) 0 a v (nI i) u (nI L) = _
                unfold f_X7_curve
                simp only [io_0, gI_0, pI_0, pZ_0, io_1, gI_1, pI_1, pZ_1, io_2, gI_2, pI_2, pZ_2, aL_3, io_4, gI_4, pI_4, pZ_4, aL_5, io_6, gI_6, pI_6, pZ_6, aL_7, aL_8, io_9, gI_9, pI_9, pZ_9, aL_10, io_11, gI_11, pI_11, pZ_11, aL_12, io_13, gI_13, pI_13, pZ_13, aL_14, io_15, gI_15, pI_15, pZ_15, aL_16, io_17, gI_17, pI_17, pZ_17, aL_18, aL_19, io_20, gI_20, pI_20, pZ_20, aL_21, io_22, gI_22, pI_22, pZ_22, aL_23, io_24, gI_24, pI_24, pZ_24, aL_25, io_26, gI_26, pI_26, pZ_26, io_27, gI_27, pI_27, pZ_27, aL_28, aL_29, aL_30, aL_31, aL_32, aL_33, io_34, gI_34, pI_34, pZ_34, aL_35, io_36, gI_36, pI_36, pZ_36, aL_37, io_38, gI_38, pI_38, pZ_38, aL_39, io_40, gI_40, pI_40, pZ_40, aL_41, io_42, gI_42, pI_42, pZ_42, aL_43, aL_44, aL_45, aL_46, aL_47, aL_48, aL_49, aL_50, aL_51, aL_52, aL_53, aL_54, aL_55, aL_56, aL_57, aL_58, gq_0_0, gq_0_1, gq_0_2, gq_0_3, gq_0_4, gq_0_5, gq_0_6, gq_0_7, gq_1_0, gq_1_1, gq_1_2, gq_1_3, gq_1_4, gq_1_5, gq_1_6, gq_1_7, gq_1_8, gq_1_9, gq_2_2, gq_4_2, gq_6_2, gq_9_2, gq_11_2, gq_13_2, gq_15_2, gq_17_0, gq_20_0, gq_22_0, gq_24_0, gq_27_0, gq_34_0, gq_36_0, gq_38_0, gq_40_0, gq_42_0, gq_42_1, gq_42_3, gq_42_4, gq_42_11, gq_42_12, gq_42_13, gq_42_15, gq_42_16, gq_42_17, gq_42_18, gq_42_19, gq_42_23, gq_42_24, gq_42_25, gq_42_26, aQ_29_0, aQ_29_1, aQ_29_2, aQ_29_3, aQ_19_0, aQ_19_1, aQ_19_2, aQ_46_0, aQ_46_1, aQ_46_2, gq_26, gr_26, gr_0_8, pQ_26, Option.bind_some, ↓reduceIte, one_ne0, outside_eq, if_pos ha, (place7 w3).1 hp, if_pos hw, isLength7_eq, if_pos ht, aQ29 hi4, missS hi4, s1, if_neg h0, holds_n1 hi4 hu, fails_1]
                try simp
              · show f_X8_curve_ (mkS _ kp b) 42 a v (nI i) u (nI L) = _
                unfold f_X8_curve_
                simp only [io_0, gI_0, pI_0, pZ_0, io_1, gI_1, pI_1, pZ_1, io_2, gI_2, pI_2, pZ_2, aL_3, io_4, gI_4, pI_4, pZ_4, aL_5, io_6, gI_6, pI_6, pZ_6, aL_7, aL_8, io_9, gI_9, pI_9, pZ_9, aL_10, io_11, gI_11, pI_11, pZ_11, aL_12, io_13, gI_13, pI_13, pZ_13, aL_14, io_15, gI_15, pI_15, pZ_15, aL_16, io_17, gI_17, pI_17, pZ_17, aL_18, aL_19, io_20, gI_20, pI_20, pZ_20, aL_21, io_22, gI_22, pI_22, pZ_22, aL_23, io_24, gI_24, pI_24, pZ_24, aL_25, io_26, gI_26, pI_26, pZ_26, io_27, gI_27, pI_27, pZ_27, aL_28, aL_29, aL_30, aL_31, aL_32, aL_33, io_34, gI_34, pI_34, pZ_34, aL_35, io_36, gI_36, pI_36, pZ_36, aL_37, io_38, gI_38, pI_38, pZ_38, aL_39, io_40, gI_40, pI_40, pZ_40, aL_41, io_42, gI_42, pI_42, pZ_42, aL_43, aL_44, aL_45, aL_46, aL_47, aL_48, aL_49, aL_50, aL_51, aL_52, aL_53, aL_54, aL_55, aL_56, aL_57, aL_58, gq_0_0, gq_0_1, gq_0_2, gq_0_3, gq_0_4, gq_0_5, gq_0_6, gq_0_7, gq_1_0, gq_1_1, gq_1_2, gq_1_3, gq_1_4, gq_1_5, gq_1_6, gq_1_7, gq_1_8, gq_1_9, gq_2_2, gq_4_2, gq_6_2, gq_9_2, gq_11_2, gq_13_2, gq_15_2, gq_17_0, gq_20_0, gq_22_0, gq_24_0, gq_27_0, gq_34_0, gq_36_0, gq_38_0, gq_40_0, gq_42_0, gq_42_1, gq_42_3, gq_42_4, gq_42_11, gq_42_12, gq_42_13, gq_42_15, gq_42_16, gq_42_17, gq_42_18, gq_42_19, gq_42_23, gq_42_24, gq_42_25, gq_42_26, aQ_29_0, aQ_29_1, aQ_29_2, aQ_29_3, aQ_19_0, aQ_19_1, aQ_19_2, aQ_46_0, aQ_46_1, aQ_46_2, gq_26, gr_26, gr_0_8, pQ_26, Option.bind_some, ↓reduceIte, one_ne0, within_eq, if_pos ha, (place8 (w4e _ _) (show c 0 ≤ 1000 by omega)).1 hp, isSheet8_eq, if_pos hw, if_pos ht, rd_55 hi4, st1_ne (show (55 : Nat) ≠ 30 by decide), if_neg h0, if_pos hu, h88, finds_1]
                try simp
            · obtain ⟨x, hx, rfl⟩ := nn hu
              by_cases hxL : x + L ≤ s
              · have hfl : (if nI s - nI L < nI x then 0 else 1 : Int32) = 1 := by
                  rw [nI_sub (by omega), if_neg (nI_nlt (by omega) (by omega))]
                have hr : ∀ j, j < 24 → m (35 + 2 * i) j = m 57 (24 * i + j) := s5
                have h7 := pts7 (kp := kp) (b := b) hi4 es7 hs hxL hr
                cases hpt : itE (ptG m i x) L 0 () with
                | inl q =>
                  rw [hpt] at h7
                  have e57 : ∀ k v, ptG (st1 m 30 k v) i x = ptG m i x := fun k v => by
                    funext q r; unfold ptG; rw [st1_ne (show (57 : Nat) ≠ 30 by decide)]
                  have h8 : ∀ k v, ∃ y, f_X8_curve__L88 (mkS (st1 m 30 k v) kp b) 42 (nI i) (nI x) (nI L) 3000 0 1 = some (y, 0) := fun k v => by
                    obtain ⟨y, hy⟩ := pts8 (m := st1 m 30 k v) (kp := kp) (b := b) hi4 (show x + L ≤ 24 by omega) L 0 3000 (by omega) (by omega)
                    rw [e57, hpt] at hy
                    exact ⟨y, hy⟩
                  obtain ⟨y, hy⟩ := h8 1 (m 30 1 + 1)
                  refine op_err1 (k := 1) (e := -1000001) (by decide) hR ?_ ?_
                  · show f_X7_curve (mkS m kp b) 0 a v (nI i) (nI x) (nI L) = _
                    unfold f_X7_curve
                    simp only [io_0, gI_0, pI_0, pZ_0, io_1, gI_1, pI_1, pZ_1, io_2, gI_2, pI_2, pZ_2, aL_3, io_4, gI_4, pI_4, pZ_4, aL_5, io_6, gI_6, pI_6, pZ_6, aL_7, aL_8, io_9, gI_9, pI_9, pZ_9, aL_10, io_11, gI_11, pI_11, pZ_11, aL_12, io_13, gI_13, pI_13, pZ_13, aL_14, io_15, gI_15, pI_15, pZ_15, aL_16, io_17, gI_17, pI_17, pZ_17, aL_18, aL_19, io_20, gI_20, pI_20, pZ_20, aL_21, io_22, gI_22, pI_22, pZ_22, aL_23, io_24, gI_24, pI_24, pZ_24, aL_25, io_26, gI_26, pI_26, pZ_26, io_27, gI_27, pI_27, pZ_27, aL_28, aL_29, aL_30, aL_31, aL_32, aL_33, io_34, gI_34, pI_34, pZ_34, aL_35, io_36, gI_36, pI_36, pZ_36, aL_37, io_38, gI_38, pI_38, pZ_38, aL_39, io_40, gI_40, pI_40, pZ_40, aL_41, io_42, gI_42, pI_42, pZ_42, aL_43, aL_44, aL_45, aL_46, aL_47, aL_48, aL_49, aL_50, aL_51, aL_52, aL_53, aL_54, aL_55, aL_56, aL_57, aL_58, gq_0_0, gq_0_1, gq_0_2, gq_0_3, gq_0_4, gq_0_5, gq_0_6, gq_0_7, gq_1_0, gq_1_1, gq_1_2, gq_1_3, gq_1_4, gq_1_5, gq_1_6, gq_1_7, gq_1_8, gq_1_9, gq_2_2, gq_4_2, gq_6_2, gq_9_2, gq_11_2, gq_13_2, gq_15_2, gq_17_0, gq_20_0, gq_22_0, gq_24_0, gq_27_0, gq_34_0, gq_36_0, gq_38_0, gq_40_0, gq_42_0, gq_42_1, gq_42_3, gq_42_4, gq_42_11, gq_42_12, gq_42_13, gq_42_15, gq_42_16, gq_42_17, gq_42_18, gq_42_19, gq_42_23, gq_42_24, gq_42_25, gq_42_26, aQ_29_0, aQ_29_1, aQ_29_2, aQ_29_3, aQ_19_0, aQ_19_1, aQ_19_2, aQ_46_0, aQ_46_1, aQ_46_2, gq_26, gr_26, gr_0_8, pQ_26, Option.bind_some, ↓reduceIte, one_ne0, outside_eq, if_pos ha, (place7 w3).1 hp, if_pos hw, isLength7_eq, if_pos ht, aQ29 hi4, missS hi4, s1, if_neg h0, holdsN hi4 es7 hs hx (show L < 2 ^ 31 by omega), if_pos hxL, h7, ptB, fails_1]
                    try simp
                  · show f_X8_curve_ (mkS _ kp b) 42 a v (nI i) (nI x) (nI L) = _
                    unfold f_X8_curve_
                    simp only [io_0, gI_0, pI_0, pZ_0, io_1, gI_1, pI_1, pZ_1, io_2, gI_2, pI_2, pZ_2, aL_3, io_4, gI_4, pI_4, pZ_4, aL_5, io_6, gI_6, pI_6, pZ_6, aL_7, aL_8, io_9, gI_9, pI_9, pZ_9, aL_10, io_11, gI_11, pI_11, pZ_11, aL_12, io_13, gI_13, pI_13, pZ_13, aL_14, io_15, gI_15, pI_15, pZ_15, aL_16, io_17, gI_17, pI_17, pZ_17, aL_18, aL_19, io_20, gI_20, pI_20, pZ_20, aL_21, io_22, gI_22, pI_22, pZ_22, aL_23, io_24, gI_24, pI_24, pZ_24, aL_25, io_26, gI_26, pI_26, pZ_26, io_27, gI_27, pI_27, pZ_27, aL_28, aL_29, aL_30, aL_31, aL_32, aL_33, io_34, gI_34, pI_34, pZ_34, aL_35, io_36, gI_36, pI_36, pZ_36, aL_37, io_38, gI_38, pI_38, pZ_38, aL_39, io_40, gI_40, pI_40, pZ_40, aL_41, io_42, gI_42, pI_42, pZ_42, aL_43, aL_44, aL_45, aL_46, aL_47, aL_48, aL_49, aL_50, aL_51, aL_52, aL_53, aL_54, aL_55, aL_56, aL_57, aL_58, gq_0_0, gq_0_1, gq_0_2, gq_0_3, gq_0_4, gq_0_5, gq_0_6, gq_0_7, gq_1_0, gq_1_1, gq_1_2, gq_1_3, gq_1_4, gq_1_5, gq_1_6, gq_1_7, gq_1_8, gq_1_9, gq_2_2, gq_4_2, gq_6_2, gq_9_2, gq_11_2, gq_13_2, gq_15_2, gq_17_0, gq_20_0, gq_22_0, gq_24_0, gq_27_0, gq_34_0, gq_36_0, gq_38_0, gq_40_0, gq_42_0, gq_42_1, gq_42_3, gq_42_4, gq_42_11, gq_42_12, gq_42_13, gq_42_15, gq_42_16, gq_42_17, gq_42_18, gq_42_19, gq_42_23, gq_42_24, gq_42_25, gq_42_26, aQ_29_0, aQ_29_1, aQ_29_2, aQ_29_3, aQ_19_0, aQ_19_1, aQ_19_2, aQ_46_0, aQ_46_1, aQ_46_2, gq_26, gr_26, gr_0_8, pQ_26, Option.bind_some, ↓reduceIte, one_ne0, within_eq, if_pos ha, (place8 (w4e _ _) (show c 0 ≤ 1000 by omega)).1 hp, isSheet8_eq, if_pos hw, if_pos ht, rd_55 hi4, st1_ne (show (55 : Nat) ≠ 30 by decide), if_neg h0, if_neg hu, rd_56 hi4, st1_ne (show (56 : Nat) ≠ 30 by decide), es, hfl, hy, finds_1]
                    try simp
                | inr q =>
                  rw [hpt] at h7
                  have hall := ptG_all L 0 hpt
                  by_cases hf : c 1 < 24
                  · have eF : ¬ nI (c 1) = 24 := fun h => by have := (nI_eq (a := c 1) (b := 24) (by omega) (by decide)).mp h; omega
                    obtain ⟨p, o, hpn, ho, ep, eo⟩ := place_ex (by omega) hp
                    obtain ⟨k, -, hk, rfl⟩ := ex_rng (lo := 0) (hi := 7) (by decide) ha (by decide)
                    refine ⟨nI (c 1), cN m (c 1) (nI k) (nI p) (nI o) (nI L) (-1) L (fun j => m 57 (24 * i + x + j)), kp, b, mN (cN m (c 1) (nI k) (nI p) (nI o) (nI L) (-1) L (fun j => m 57 (24 * i + x + j))) (c 1) (nI k) (nI p) (nI o) (nI L) (-1) L (fun j => m 57 (24 * i + x + j)), ?_, ?_, ?_⟩
                    · show f_X7_curve (mkS m kp b) 0 (nI k) v (nI i) (nI x) (nI L) = _
                      unfold f_X7_curve
                      simp only [io_0, gI_0, pI_0, pZ_0, io_1, gI_1, pI_1, pZ_1, io_2, gI_2, pI_2, pZ_2, aL_3, io_4, gI_4, pI_4, pZ_4, aL_5, io_6, gI_6, pI_6, pZ_6, aL_7, aL_8, io_9, gI_9, pI_9, pZ_9, aL_10, io_11, gI_11, pI_11, pZ_11, aL_12, io_13, gI_13, pI_13, pZ_13, aL_14, io_15, gI_15, pI_15, pZ_15, aL_16, io_17, gI_17, pI_17, pZ_17, aL_18, aL_19, io_20, gI_20, pI_20, pZ_20, aL_21, io_22, gI_22, pI_22, pZ_22, aL_23, io_24, gI_24, pI_24, pZ_24, aL_25, io_26, gI_26, pI_26, pZ_26, io_27, gI_27, pI_27, pZ_27, aL_28, aL_29, aL_30, aL_31, aL_32, aL_33, io_34, gI_34, pI_34, pZ_34, aL_35, io_36, gI_36, pI_36, pZ_36, aL_37, io_38, gI_38, pI_38, pZ_38, aL_39, io_40, gI_40, pI_40, pZ_40, aL_41, io_42, gI_42, pI_42, pZ_42, aL_43, aL_44, aL_45, aL_46, aL_47, aL_48, aL_49, aL_50, aL_51, aL_52, aL_53, aL_54, aL_55, aL_56, aL_57, aL_58, gq_0_0, gq_0_1, gq_0_2, gq_0_3, gq_0_4, gq_0_5, gq_0_6, gq_0_7, gq_1_0, gq_1_1, gq_1_2, gq_1_3, gq_1_4, gq_1_5, gq_1_6, gq_1_7, gq_1_8, gq_1_9, gq_2_2, gq_4_2, gq_6_2, gq_9_2, gq_11_2, gq_13_2, gq_15_2, gq_17_0, gq_20_0, gq_22_0, gq_24_0, gq_27_0, gq_34_0, gq_36_0, gq_38_0, gq_40_0, gq_42_0, gq_42_1, gq_42_3, gq_42_4, gq_42_11, gq_42_12, gq_42_13, gq_42_15, gq_42_16, gq_42_17, gq_42_18, gq_42_19, gq_42_23, gq_42_24, gq_42_25, gq_42_26, aQ_29_0, aQ_29_1, aQ_29_2, aQ_29_3, aQ_19_0, aQ_19_1, aQ_19_2, aQ_46_0, aQ_46_1, aQ_46_2, gq_26, gr_26, gr_0_8, pQ_26, Option.bind_some, ↓reduceIte, one_ne0, outside_eq, if_pos ha, (place7 w3).1 hp, if_pos hw, isLength7_eq, if_pos ht, aQ29 hi4, missS hi4, s1, if_neg h0, holdsN hi4 es7 hs hx (show L < 2 ^ 31 by omega), if_pos hxL, h7, ptB, full_6 u2 u3 u5, if_pos hf, ep, eo, addC u1 u2 u3 hf, cur7_loop hf hi4 es7 hs hxL hr]
                    · obtain ⟨M1, eM1⟩ : ∃ q, q = cN m (c 1) (nI k) (nI p) (nI o) (nI L) (-1) L (fun j => m 57 (24 * i + x + j)) := ⟨_, rfl⟩
                      have hM : ∀ q, q ≠ 6 → q ≠ 7 → q ≠ 8 → M1 q = m q := fun q q1 q2 q3 => by rw [eM1]; unfold cN; rw [wrow_ne q3, cA_ne q1 q2]
                      rw [← eM1]
                      have e57 : ptG M1 i x = ptG m i x := by funext q r; unfold ptG; rw [hM 57 (by decide) (by decide) (by decide)]
                      obtain ⟨y, hy⟩ := pts8 (m := M1) (kp := kp) (b := b) hi4 (show x + L ≤ 24 by omega) L 0 3000 (by omega) (by omega)
                      rw [e57, hpt] at hy
                      have h1 : M1 43 1 = nI (c 1) := by rw [hM 43 (by decide) (by decide) (by decide)]; exact u4
                      have hz : M1 43 0 = nI (c 0) := by rw [hM 43 (by decide) (by decide) (by decide)]; exact w4
                      have hy2 : f_X8_curve__L88 (mkS M1 kp b) 42 (nI i) (nI x) (nI L) 3000 0 1 = some (y, 1) := hy
                      show f_X8_curve_ (mkS M1 kp b) 42 (nI k) v (nI i) (nI x) (nI L) = _
                      unfold f_X8_curve_
                      simp only [io_0, gI_0, pI_0, pZ_0, io_1, gI_1, pI_1, pZ_1, io_2, gI_2, pI_2, pZ_2, aL_3, io_4, gI_4, pI_4, pZ_4, aL_5, io_6, gI_6, pI_6, pZ_6, aL_7, aL_8, io_9, gI_9, pI_9, pZ_9, aL_10, io_11, gI_11, pI_11, pZ_11, aL_12, io_13, gI_13, pI_13, pZ_13, aL_14, io_15, gI_15, pI_15, pZ_15, aL_16, io_17, gI_17, pI_17, pZ_17, aL_18, aL_19, io_20, gI_20, pI_20, pZ_20, aL_21, io_22, gI_22, pI_22, pZ_22, aL_23, io_24, gI_24, pI_24, pZ_24, aL_25, io_26, gI_26, pI_26, pZ_26, io_27, gI_27, pI_27, pZ_27, aL_28, aL_29, aL_30, aL_31, aL_32, aL_33, io_34, gI_34, pI_34, pZ_34, aL_35, io_36, gI_36, pI_36, pZ_36, aL_37, io_38, gI_38, pI_38, pZ_38, aL_39, io_40, gI_40, pI_40, pZ_40, aL_41, io_42, gI_42, pI_42, pZ_42, aL_43, aL_44, aL_45, aL_46, aL_47, aL_48, aL_49, aL_50, aL_51, aL_52, aL_53, aL_54, aL_55, aL_56, aL_57, aL_58, gq_0_0, gq_0_1, gq_0_2, gq_0_3, gq_0_4, gq_0_5, gq_0_6, gq_0_7, gq_1_0, gq_1_1, gq_1_2, gq_1_3, gq_1_4, gq_1_5, gq_1_6, gq_1_7, gq_1_8, gq_1_9, gq_2_2, gq_4_2, gq_6_2, gq_9_2, gq_11_2, gq_13_2, gq_15_2, gq_17_0, gq_20_0, gq_22_0, gq_24_0, gq_27_0, gq_34_0, gq_36_0, gq_38_0, gq_40_0, gq_42_0, gq_42_1, gq_42_3, gq_42_4, gq_42_11, gq_42_12, gq_42_13, gq_42_15, gq_42_16, gq_42_17, gq_42_18, gq_42_19, gq_42_23, gq_42_24, gq_42_25, gq_42_26, aQ_29_0, aQ_29_1, aQ_29_2, aQ_29_3, aQ_19_0, aQ_19_1, aQ_19_2, aQ_46_0, aQ_46_1, aQ_46_2, gq_26, gr_26, gr_0_8, pQ_26, Option.bind_some, ↓reduceIte, one_ne0, within_eq, if_pos ha, (place8 hz (show c 0 ≤ 1000 by omega)).1 hp, isSheet8_eq, if_pos hw, if_pos ht, rd_55 hi4, hM 55 (by decide) (by decide) (by decide), if_neg h0, if_neg hu, rd_56 hi4, hM 56 (by decide) (by decide) (by decide), es, hfl, hy2, rdl_1, h1, if_neg eF, ep, eo, begin_eq h1 hf, cur8_loop (m0 := M1) (g := fun j => m 57 (24 * i + x + j)) hf hi4 (show x + L ≤ 24 by omega) (fun j _ => by rw [hM 57 (by decide) (by decide) (by decide)])]
                    · exact RR_new hR hS hf (by omega) hpn ho hL3 hL (fun j hj => hall j (by omega) (by omega))
                  · have eF : nI (c 1) = 24 := by rw [show c 1 = 24 by omega]; rfl
                    have e57 : ∀ k v, ptG (st1 m 30 k v) i x = ptG m i x := fun k v => by
                      funext q r; unfold ptG; rw [st1_ne (show (57 : Nat) ≠ 30 by decide)]
                    obtain ⟨y, hy⟩ := pts8 (m := st1 m 30 4 (m 30 4 + 1)) (kp := kp) (b := b) hi4 (show x + L ≤ 24 by omega) L 0 3000 (by omega) (by omega)
                    rw [e57, hpt] at hy
                    have hy2 : f_X8_curve__L88 (mkS (st1 m 30 4 (m 30 4 + 1)) kp b) 42 (nI i) (nI x) (nI L) 3000 0 1 = some (y, 1) := hy
                    refine op_err1 (k := 4) (e := -1000004) (by decide) hR ?_ ?_
                    · show f_X7_curve (mkS m kp b) 0 a v (nI i) (nI x) (nI L) = _
                      unfold f_X7_curve
                      simp only [io_0, gI_0, pI_0, pZ_0, io_1, gI_1, pI_1, pZ_1, io_2, gI_2, pI_2, pZ_2, aL_3, io_4, gI_4, pI_4, pZ_4, aL_5, io_6, gI_6, pI_6, pZ_6, aL_7, aL_8, io_9, gI_9, pI_9, pZ_9, aL_10, io_11, gI_11, pI_11, pZ_11, aL_12, io_13, gI_13, pI_13, pZ_13, aL_14, io_15, gI_15, pI_15, pZ_15, aL_16, io_17, gI_17, pI_17, pZ_17, aL_18, aL_19, io_20, gI_20, pI_20, pZ_20, aL_21, io_22, gI_22, pI_22, pZ_22, aL_23, io_24, gI_24, pI_24, pZ_24, aL_25, io_26, gI_26, pI_26, pZ_26, io_27, gI_27, pI_27, pZ_27, aL_28, aL_29, aL_30, aL_31, aL_32, aL_33, io_34, gI_34, pI_34, pZ_34, aL_35, io_36, gI_36, pI_36, pZ_36, aL_37, io_38, gI_38, pI_38, pZ_38, aL_39, io_40, gI_40, pI_40, pZ_40, aL_41, io_42, gI_42, pI_42, pZ_42, aL_43, aL_44, aL_45, aL_46, aL_47, aL_48, aL_49, aL_50, aL_51, aL_52, aL_53, aL_54, aL_55, aL_56, aL_57, aL_58, gq_0_0, gq_0_1, gq_0_2, gq_0_3, gq_0_4, gq_0_5, gq_0_6, gq_0_7, gq_1_0, gq_1_1, gq_1_2, gq_1_3, gq_1_4, gq_1_5, gq_1_6, gq_1_7, gq_1_8, gq_1_9, gq_2_2, gq_4_2, gq_6_2, gq_9_2, gq_11_2, gq_13_2, gq_15_2, gq_17_0, gq_20_0, gq_22_0, gq_24_0, gq_27_0, gq_34_0, gq_36_0, gq_38_0, gq_40_0, gq_42_0, gq_42_1, gq_42_3, gq_42_4, gq_42_11, gq_42_12, gq_42_13, gq_42_15, gq_42_16, gq_42_17, gq_42_18, gq_42_19, gq_42_23, gq_42_24, gq_42_25, gq_42_26, aQ_29_0, aQ_29_1, aQ_29_2, aQ_29_3, aQ_19_0, aQ_19_1, aQ_19_2, aQ_46_0, aQ_46_1, aQ_46_2, gq_26, gr_26, gr_0_8, pQ_26, Option.bind_some, ↓reduceIte, one_ne0, outside_eq, if_pos ha, (place7 w3).1 hp, if_pos hw, isLength7_eq, if_pos ht, aQ29 hi4, missS hi4, s1, if_neg h0, holdsN hi4 es7 hs hx (show L < 2 ^ 31 by omega), if_pos hxL, h7, ptB, full_6 u2 u3 u5, if_neg hf, fails_4]
                      try simp
                    · show f_X8_curve_ (mkS _ kp b) 42 a v (nI i) (nI x) (nI L) = _
                      unfold f_X8_curve_
                      simp only [io_0, gI_0, pI_0, pZ_0, io_1, gI_1, pI_1, pZ_1, io_2, gI_2, pI_2, pZ_2, aL_3, io_4, gI_4, pI_4, pZ_4, aL_5, io_6, gI_6, pI_6, pZ_6, aL_7, aL_8, io_9, gI_9, pI_9, pZ_9, aL_10, io_11, gI_11, pI_11, pZ_11, aL_12, io_13, gI_13, pI_13, pZ_13, aL_14, io_15, gI_15, pI_15, pZ_15, aL_16, io_17, gI_17, pI_17, pZ_17, aL_18, aL_19, io_20, gI_20, pI_20, pZ_20, aL_21, io_22, gI_22, pI_22, pZ_22, aL_23, io_24, gI_24, pI_24, pZ_24, aL_25, io_26, gI_26, pI_26, pZ_26, io_27, gI_27, pI_27, pZ_27, aL_28, aL_29, aL_30, aL_31, aL_32, aL_33, io_34, gI_34, pI_34, pZ_34, aL_35, io_36, gI_36, pI_36, pZ_36, aL_37, io_38, gI_38, pI_38, pZ_38, aL_39, io_40, gI_40, pI_40, pZ_40, aL_41, io_42, gI_42, pI_42, pZ_42, aL_43, aL_44, aL_45, aL_46, aL_47, aL_48, aL_49, aL_50, aL_51, aL_52, aL_53, aL_54, aL_55, aL_56, aL_57, aL_58, gq_0_0, gq_0_1, gq_0_2, gq_0_3, gq_0_4, gq_0_5, gq_0_6, gq_0_7, gq_1_0, gq_1_1, gq_1_2, gq_1_3, gq_1_4, gq_1_5, gq_1_6, gq_1_7, gq_1_8, gq_1_9, gq_2_2, gq_4_2, gq_6_2, gq_9_2, gq_11_2, gq_13_2, gq_15_2, gq_17_0, gq_20_0, gq_22_0, gq_24_0, gq_27_0, gq_34_0, gq_36_0, gq_38_0, gq_40_0, gq_42_0, gq_42_1, gq_42_3, gq_42_4, gq_42_11, gq_42_12, gq_42_13, gq_42_15, gq_42_16, gq_42_17, gq_42_18, gq_42_19, gq_42_23, gq_42_24, gq_42_25, gq_42_26, aQ_29_0, aQ_29_1, aQ_29_2, aQ_29_3, aQ_19_0, aQ_19_1, aQ_19_2, aQ_46_0, aQ_46_1, aQ_46_2, gq_26, gr_26, gr_0_8, pQ_26, Option.bind_some, ↓reduceIte, one_ne0, within_eq, if_pos ha, (place8 (w4e _ _) (show c 0 ≤ 1000 by omega)).1 hp, isSheet8_eq, if_pos hw, if_pos ht, rd_55 hi4, st1_ne (show (55 : Nat) ≠ 30 by decide), if_neg h0, if_neg hu, rd_56 hi4, st1_ne (show (56 : Nat) ≠ 30 by decide), es, hfl, hy2, rdl_1, e43 u4, if_pos eF, finds_4]
                      try simp
              · have hfl : (if nI s - nI L < nI x then 0 else 1 : Int32) = 0 := by
                  by_cases hLs : L ≤ s
                  · rw [nI_sub hLs, if_pos (nI_lt (by omega) hx)]
                  · rw [if_pos (Int32.lt_of_lt_of_le (subneg s (by omega) L (by omega) (by omega)) (nI_pos' hx))]
                have h88 : ∀ M : Nat → Nat → Int32, f_X8_curve__L88 (mkS M kp b) 42 (nI i) (nI x) (nI L) 3000 0 0 = some (0, 0) := fun M => by
                  rw [f_X8_curve__L88, if_neg (nI_nle (by omega) (by omega)), if_pos rfl]
                refine op_err1 (k := 1) (e := -1000001) (by decide) hR ?_ ?_
                · show f_X7_curve (mkS m kp b) 0 a v (nI i) (nI x) (nI L) = _
                  unfold f_X7_curve
                  simp only [io_0, gI_0, pI_0, pZ_0, io_1, gI_1, pI_1, pZ_1, io_2, gI_2, pI_2, pZ_2, aL_3, io_4, gI_4, pI_4, pZ_4, aL_5, io_6, gI_6, pI_6, pZ_6, aL_7, aL_8, io_9, gI_9, pI_9, pZ_9, aL_10, io_11, gI_11, pI_11, pZ_11, aL_12, io_13, gI_13, pI_13, pZ_13, aL_14, io_15, gI_15, pI_15, pZ_15, aL_16, io_17, gI_17, pI_17, pZ_17, aL_18, aL_19, io_20, gI_20, pI_20, pZ_20, aL_21, io_22, gI_22, pI_22, pZ_22, aL_23, io_24, gI_24, pI_24, pZ_24, aL_25, io_26, gI_26, pI_26, pZ_26, io_27, gI_27, pI_27, pZ_27, aL_28, aL_29, aL_30, aL_31, aL_32, aL_33, io_34, gI_34, pI_34, pZ_34, aL_35, io_36, gI_36, pI_36, pZ_36, aL_37, io_38, gI_38, pI_38, pZ_38, aL_39, io_40, gI_40, pI_40, pZ_40, aL_41, io_42, gI_42, pI_42, pZ_42, aL_43, aL_44, aL_45, aL_46, aL_47, aL_48, aL_49, aL_50, aL_51, aL_52, aL_53, aL_54, aL_55, aL_56, aL_57, aL_58, gq_0_0, gq_0_1, gq_0_2, gq_0_3, gq_0_4, gq_0_5, gq_0_6, gq_0_7, gq_1_0, gq_1_1, gq_1_2, gq_1_3, gq_1_4, gq_1_5, gq_1_6, gq_1_7, gq_1_8, gq_1_9, gq_2_2, gq_4_2, gq_6_2, gq_9_2, gq_11_2, gq_13_2, gq_15_2, gq_17_0, gq_20_0, gq_22_0, gq_24_0, gq_27_0, gq_34_0, gq_36_0, gq_38_0, gq_40_0, gq_42_0, gq_42_1, gq_42_3, gq_42_4, gq_42_11, gq_42_12, gq_42_13, gq_42_15, gq_42_16, gq_42_17, gq_42_18, gq_42_19, gq_42_23, gq_42_24, gq_42_25, gq_42_26, aQ_29_0, aQ_29_1, aQ_29_2, aQ_29_3, aQ_19_0, aQ_19_1, aQ_19_2, aQ_46_0, aQ_46_1, aQ_46_2, gq_26, gr_26, gr_0_8, pQ_26, Option.bind_some, ↓reduceIte, one_ne0, outside_eq, if_pos ha, (place7 w3).1 hp, if_pos hw, isLength7_eq, if_pos ht, aQ29 hi4, missS hi4, s1, if_neg h0, holdsN hi4 es7 hs hx (show L < 2 ^ 31 by omega), if_neg hxL, fails_1]
                  try simp
                · show f_X8_curve_ (mkS _ kp b) 42 a v (nI i) (nI x) (nI L) = _
                  unfold f_X8_curve_
                  simp only [io_0, gI_0, pI_0, pZ_0, io_1, gI_1, pI_1, pZ_1, io_2, gI_2, pI_2, pZ_2, aL_3, io_4, gI_4, pI_4, pZ_4, aL_5, io_6, gI_6, pI_6, pZ_6, aL_7, aL_8, io_9, gI_9, pI_9, pZ_9, aL_10, io_11, gI_11, pI_11, pZ_11, aL_12, io_13, gI_13, pI_13, pZ_13, aL_14, io_15, gI_15, pI_15, pZ_15, aL_16, io_17, gI_17, pI_17, pZ_17, aL_18, aL_19, io_20, gI_20, pI_20, pZ_20, aL_21, io_22, gI_22, pI_22, pZ_22, aL_23, io_24, gI_24, pI_24, pZ_24, aL_25, io_26, gI_26, pI_26, pZ_26, io_27, gI_27, pI_27, pZ_27, aL_28, aL_29, aL_30, aL_31, aL_32, aL_33, io_34, gI_34, pI_34, pZ_34, aL_35, io_36, gI_36, pI_36, pZ_36, aL_37, io_38, gI_38, pI_38, pZ_38, aL_39, io_40, gI_40, pI_40, pZ_40, aL_41, io_42, gI_42, pI_42, pZ_42, aL_43, aL_44, aL_45, aL_46, aL_47, aL_48, aL_49, aL_50, aL_51, aL_52, aL_53, aL_54, aL_55, aL_56, aL_57, aL_58, gq_0_0, gq_0_1, gq_0_2, gq_0_3, gq_0_4, gq_0_5, gq_0_6, gq_0_7, gq_1_0, gq_1_1, gq_1_2, gq_1_3, gq_1_4, gq_1_5, gq_1_6, gq_1_7, gq_1_8, gq_1_9, gq_2_2, gq_4_2, gq_6_2, gq_9_2, gq_11_2, gq_13_2, gq_15_2, gq_17_0, gq_20_0, gq_22_0, gq_24_0, gq_27_0, gq_34_0, gq_36_0, gq_38_0, gq_40_0, gq_42_0, gq_42_1, gq_42_3, gq_42_4, gq_42_11, gq_42_12, gq_42_13, gq_42_15, gq_42_16, gq_42_17, gq_42_18, gq_42_19, gq_42_23, gq_42_24, gq_42_25, gq_42_26, aQ_29_0, aQ_29_1, aQ_29_2, aQ_29_3, aQ_19_0, aQ_19_1, aQ_19_2, aQ_46_0, aQ_46_1, aQ_46_2, gq_26, gr_26, gr_0_8, pQ_26, Option.bind_some, ↓reduceIte, one_ne0, within_eq, if_pos ha, (place8 (w4e _ _) (show c 0 ≤ 1000 by omega)).1 hp, isSheet8_eq, if_pos hw, if_pos ht, rd_55 hi4, st1_ne (show (55 : Nat) ≠ 30 by decide), if_neg h0, if_neg hu, rd_56 hi4, st1_ne (show (56 : Nat) ≠ 30 by decide), es, hfl, h88, finds_1]
                  try simp
        · refine op_err1 (k := 1) (e := -1000001) (by decide) hR ?_ ?_
          · show f_X7_curve (mkS m kp b) 0 a v w u t = _
            unfold f_X7_curve
            simp only [io_0, gI_0, pI_0, pZ_0, io_1, gI_1, pI_1, pZ_1, io_2, gI_2, pI_2, pZ_2, aL_3, io_4, gI_4, pI_4, pZ_4, aL_5, io_6, gI_6, pI_6, pZ_6, aL_7, aL_8, io_9, gI_9, pI_9, pZ_9, aL_10, io_11, gI_11, pI_11, pZ_11, aL_12, io_13, gI_13, pI_13, pZ_13, aL_14, io_15, gI_15, pI_15, pZ_15, aL_16, io_17, gI_17, pI_17, pZ_17, aL_18, aL_19, io_20, gI_20, pI_20, pZ_20, aL_21, io_22, gI_22, pI_22, pZ_22, aL_23, io_24, gI_24, pI_24, pZ_24, aL_25, io_26, gI_26, pI_26, pZ_26, io_27, gI_27, pI_27, pZ_27, aL_28, aL_29, aL_30, aL_31, aL_32, aL_33, io_34, gI_34, pI_34, pZ_34, aL_35, io_36, gI_36, pI_36, pZ_36, aL_37, io_38, gI_38, pI_38, pZ_38, aL_39, io_40, gI_40, pI_40, pZ_40, aL_41, io_42, gI_42, pI_42, pZ_42, aL_43, aL_44, aL_45, aL_46, aL_47, aL_48, aL_49, aL_50, aL_51, aL_52, aL_53, aL_54, aL_55, aL_56, aL_57, aL_58, gq_0_0, gq_0_1, gq_0_2, gq_0_3, gq_0_4, gq_0_5, gq_0_6, gq_0_7, gq_1_0, gq_1_1, gq_1_2, gq_1_3, gq_1_4, gq_1_5, gq_1_6, gq_1_7, gq_1_8, gq_1_9, gq_2_2, gq_4_2, gq_6_2, gq_9_2, gq_11_2, gq_13_2, gq_15_2, gq_17_0, gq_20_0, gq_22_0, gq_24_0, gq_27_0, gq_34_0, gq_36_0, gq_38_0, gq_40_0, gq_42_0, gq_42_1, gq_42_3, gq_42_4, gq_42_11, gq_42_12, gq_42_13, gq_42_15, gq_42_16, gq_42_17, gq_42_18, gq_42_19, gq_42_23, gq_42_24, gq_42_25, gq_42_26, aQ_29_0, aQ_29_1, aQ_29_2, aQ_29_3, aQ_19_0, aQ_19_1, aQ_19_2, aQ_46_0, aQ_46_1, aQ_46_2, gq_26, gr_26, gr_0_8, pQ_26, Option.bind_some, ↓reduceIte, one_ne0, outside_eq, if_pos ha, (place7 w3).1 hp, if_pos hw, isLength7_eq, if_neg ht, fails_1]
            try simp
          · show f_X8_curve_ (mkS _ kp b) 42 a v w u t = _
            unfold f_X8_curve_
            simp only [io_0, gI_0, pI_0, pZ_0, io_1, gI_1, pI_1, pZ_1, io_2, gI_2, pI_2, pZ_2, aL_3, io_4, gI_4, pI_4, pZ_4, aL_5, io_6, gI_6, pI_6, pZ_6, aL_7, aL_8, io_9, gI_9, pI_9, pZ_9, aL_10, io_11, gI_11, pI_11, pZ_11, aL_12, io_13, gI_13, pI_13, pZ_13, aL_14, io_15, gI_15, pI_15, pZ_15, aL_16, io_17, gI_17, pI_17, pZ_17, aL_18, aL_19, io_20, gI_20, pI_20, pZ_20, aL_21, io_22, gI_22, pI_22, pZ_22, aL_23, io_24, gI_24, pI_24, pZ_24, aL_25, io_26, gI_26, pI_26, pZ_26, io_27, gI_27, pI_27, pZ_27, aL_28, aL_29, aL_30, aL_31, aL_32, aL_33, io_34, gI_34, pI_34, pZ_34, aL_35, io_36, gI_36, pI_36, pZ_36, aL_37, io_38, gI_38, pI_38, pZ_38, aL_39, io_40, gI_40, pI_40, pZ_40, aL_41, io_42, gI_42, pI_42, pZ_42, aL_43, aL_44, aL_45, aL_46, aL_47, aL_48, aL_49, aL_50, aL_51, aL_52, aL_53, aL_54, aL_55, aL_56, aL_57, aL_58, gq_0_0, gq_0_1, gq_0_2, gq_0_3, gq_0_4, gq_0_5, gq_0_6, gq_0_7, gq_1_0, gq_1_1, gq_1_2, gq_1_3, gq_1_4, gq_1_5, gq_1_6, gq_1_7, gq_1_8, gq_1_9, gq_2_2, gq_4_2, gq_6_2, gq_9_2, gq_11_2, gq_13_2, gq_15_2, gq_17_0, gq_20_0, gq_22_0, gq_24_0, gq_27_0, gq_34_0, gq_36_0, gq_38_0, gq_40_0, gq_42_0, gq_42_1, gq_42_3, gq_42_4, gq_42_11, gq_42_12, gq_42_13, gq_42_15, gq_42_16, gq_42_17, gq_42_18, gq_42_19, gq_42_23, gq_42_24, gq_42_25, gq_42_26, aQ_29_0, aQ_29_1, aQ_29_2, aQ_29_3, aQ_19_0, aQ_19_1, aQ_19_2, aQ_46_0, aQ_46_1, aQ_46_2, gq_26, gr_26, gr_0_8, pQ_26, Option.bind_some, ↓reduceIte, one_ne0, within_eq, if_pos ha, (place8 (w4e _ _) (show c 0 ≤ 1000 by omega)).1 hp, isSheet8_eq, if_pos hw, if_neg ht, finds_1]
            try simp
      · refine op_err1 (k := 1) (e := -1000001) (by decide) hR ?_ ?_
        · show f_X7_curve (mkS m kp b) 0 a v w u t = _
          unfold f_X7_curve
          simp only [io_0, gI_0, pI_0, pZ_0, io_1, gI_1, pI_1, pZ_1, io_2, gI_2, pI_2, pZ_2, aL_3, io_4, gI_4, pI_4, pZ_4, aL_5, io_6, gI_6, pI_6, pZ_6, aL_7, aL_8, io_9, gI_9, pI_9, pZ_9, aL_10, io_11, gI_11, pI_11, pZ_11, aL_12, io_13, gI_13, pI_13, pZ_13, aL_14, io_15, gI_15, pI_15, pZ_15, aL_16, io_17, gI_17, pI_17, pZ_17, aL_18, aL_19, io_20, gI_20, pI_20, pZ_20, aL_21, io_22, gI_22, pI_22, pZ_22, aL_23, io_24, gI_24, pI_24, pZ_24, aL_25, io_26, gI_26, pI_26, pZ_26, io_27, gI_27, pI_27, pZ_27, aL_28, aL_29, aL_30, aL_31, aL_32, aL_33, io_34, gI_34, pI_34, pZ_34, aL_35, io_36, gI_36, pI_36, pZ_36, aL_37, io_38, gI_38, pI_38, pZ_38, aL_39, io_40, gI_40, pI_40, pZ_40, aL_41, io_42, gI_42, pI_42, pZ_42, aL_43, aL_44, aL_45, aL_46, aL_47, aL_48, aL_49, aL_50, aL_51, aL_52, aL_53, aL_54, aL_55, aL_56, aL_57, aL_58, gq_0_0, gq_0_1, gq_0_2, gq_0_3, gq_0_4, gq_0_5, gq_0_6, gq_0_7, gq_1_0, gq_1_1, gq_1_2, gq_1_3, gq_1_4, gq_1_5, gq_1_6, gq_1_7, gq_1_8, gq_1_9, gq_2_2, gq_4_2, gq_6_2, gq_9_2, gq_11_2, gq_13_2, gq_15_2, gq_17_0, gq_20_0, gq_22_0, gq_24_0, gq_27_0, gq_34_0, gq_36_0, gq_38_0, gq_40_0, gq_42_0, gq_42_1, gq_42_3, gq_42_4, gq_42_11, gq_42_12, gq_42_13, gq_42_15, gq_42_16, gq_42_17, gq_42_18, gq_42_19, gq_42_23, gq_42_24, gq_42_25, gq_42_26, aQ_29_0, aQ_29_1, aQ_29_2, aQ_29_3, aQ_19_0, aQ_19_1, aQ_19_2, aQ_46_0, aQ_46_1, aQ_46_2, gq_26, gr_26, gr_0_8, pQ_26, Option.bind_some, ↓reduceIte, one_ne0, outside_eq, if_pos ha, (place7 w3).1 hp, if_neg hw, fails_1]
          try simp
        · show f_X8_curve_ (mkS _ kp b) 42 a v w u t = _
          unfold f_X8_curve_
          simp only [io_0, gI_0, pI_0, pZ_0, io_1, gI_1, pI_1, pZ_1, io_2, gI_2, pI_2, pZ_2, aL_3, io_4, gI_4, pI_4, pZ_4, aL_5, io_6, gI_6, pI_6, pZ_6, aL_7, aL_8, io_9, gI_9, pI_9, pZ_9, aL_10, io_11, gI_11, pI_11, pZ_11, aL_12, io_13, gI_13, pI_13, pZ_13, aL_14, io_15, gI_15, pI_15, pZ_15, aL_16, io_17, gI_17, pI_17, pZ_17, aL_18, aL_19, io_20, gI_20, pI_20, pZ_20, aL_21, io_22, gI_22, pI_22, pZ_22, aL_23, io_24, gI_24, pI_24, pZ_24, aL_25, io_26, gI_26, pI_26, pZ_26, io_27, gI_27, pI_27, pZ_27, aL_28, aL_29, aL_30, aL_31, aL_32, aL_33, io_34, gI_34, pI_34, pZ_34, aL_35, io_36, gI_36, pI_36, pZ_36, aL_37, io_38, gI_38, pI_38, pZ_38, aL_39, io_40, gI_40, pI_40, pZ_40, aL_41, io_42, gI_42, pI_42, pZ_42, aL_43, aL_44, aL_45, aL_46, aL_47, aL_48, aL_49, aL_50, aL_51, aL_52, aL_53, aL_54, aL_55, aL_56, aL_57, aL_58, gq_0_0, gq_0_1, gq_0_2, gq_0_3, gq_0_4, gq_0_5, gq_0_6, gq_0_7, gq_1_0, gq_1_1, gq_1_2, gq_1_3, gq_1_4, gq_1_5, gq_1_6, gq_1_7, gq_1_8, gq_1_9, gq_2_2, gq_4_2, gq_6_2, gq_9_2, gq_11_2, gq_13_2, gq_15_2, gq_17_0, gq_20_0, gq_22_0, gq_24_0, gq_27_0, gq_34_0, gq_36_0, gq_38_0, gq_40_0, gq_42_0, gq_42_1, gq_42_3, gq_42_4, gq_42_11, gq_42_12, gq_42_13, gq_42_15, gq_42_16, gq_42_17, gq_42_18, gq_42_19, gq_42_23, gq_42_24, gq_42_25, gq_42_26, aQ_29_0, aQ_29_1, aQ_29_2, aQ_29_3, aQ_19_0, aQ_19_1, aQ_19_2, aQ_46_0, aQ_46_1, aQ_46_2, gq_26, gr_26, gr_0_8, pQ_26, Option.bind_some, ↓reduceIte, one_ne0, within_eq, if_pos ha, (place8 (w4e _ _) (show c 0 ≤ 1000 by omega)).1 hp, isSheet8_eq, if_neg hw, finds_1]
          try simp
    · refine op_err1 (k := 1) (e := -1000001) (by decide) hR ?_ ?_
      · show f_X7_curve (mkS m kp b) 0 a v w u t = _
        unfold f_X7_curve
        simp only [io_0, gI_0, pI_0, pZ_0, io_1, gI_1, pI_1, pZ_1, io_2, gI_2, pI_2, pZ_2, aL_3, io_4, gI_4, pI_4, pZ_4, aL_5, io_6, gI_6, pI_6, pZ_6, aL_7, aL_8, io_9, gI_9, pI_9, pZ_9, aL_10, io_11, gI_11, pI_11, pZ_11, aL_12, io_13, gI_13, pI_13, pZ_13, aL_14, io_15, gI_15, pI_15, pZ_15, aL_16, io_17, gI_17, pI_17, pZ_17, aL_18, aL_19, io_20, gI_20, pI_20, pZ_20, aL_21, io_22, gI_22, pI_22, pZ_22, aL_23, io_24, gI_24, pI_24, pZ_24, aL_25, io_26, gI_26, pI_26, pZ_26, io_27, gI_27, pI_27, pZ_27, aL_28, aL_29, aL_30, aL_31, aL_32, aL_33, io_34, gI_34, pI_34, pZ_34, aL_35, io_36, gI_36, pI_36, pZ_36, aL_37, io_38, gI_38, pI_38, pZ_38, aL_39, io_40, gI_40, pI_40, pZ_40, aL_41, io_42, gI_42, pI_42, pZ_42, aL_43, aL_44, aL_45, aL_46, aL_47, aL_48, aL_49, aL_50, aL_51, aL_52, aL_53, aL_54, aL_55, aL_56, aL_57, aL_58, gq_0_0, gq_0_1, gq_0_2, gq_0_3, gq_0_4, gq_0_5, gq_0_6, gq_0_7, gq_1_0, gq_1_1, gq_1_2, gq_1_3, gq_1_4, gq_1_5, gq_1_6, gq_1_7, gq_1_8, gq_1_9, gq_2_2, gq_4_2, gq_6_2, gq_9_2, gq_11_2, gq_13_2, gq_15_2, gq_17_0, gq_20_0, gq_22_0, gq_24_0, gq_27_0, gq_34_0, gq_36_0, gq_38_0, gq_40_0, gq_42_0, gq_42_1, gq_42_3, gq_42_4, gq_42_11, gq_42_12, gq_42_13, gq_42_15, gq_42_16, gq_42_17, gq_42_18, gq_42_19, gq_42_23, gq_42_24, gq_42_25, gq_42_26, aQ_29_0, aQ_29_1, aQ_29_2, aQ_29_3, aQ_19_0, aQ_19_1, aQ_19_2, aQ_46_0, aQ_46_1, aQ_46_2, gq_26, gr_26, gr_0_8, pQ_26, Option.bind_some, ↓reduceIte, one_ne0, outside_eq, if_pos ha, (place7 w3).2 hp, fails_1]
        try simp
      · show f_X8_curve_ (mkS _ kp b) 42 a v w u t = _
        unfold f_X8_curve_
        simp only [io_0, gI_0, pI_0, pZ_0, io_1, gI_1, pI_1, pZ_1, io_2, gI_2, pI_2, pZ_2, aL_3, io_4, gI_4, pI_4, pZ_4, aL_5, io_6, gI_6, pI_6, pZ_6, aL_7, aL_8, io_9, gI_9, pI_9, pZ_9, aL_10, io_11, gI_11, pI_11, pZ_11, aL_12, io_13, gI_13, pI_13, pZ_13, aL_14, io_15, gI_15, pI_15, pZ_15, aL_16, io_17, gI_17, pI_17, pZ_17, aL_18, aL_19, io_20, gI_20, pI_20, pZ_20, aL_21, io_22, gI_22, pI_22, pZ_22, aL_23, io_24, gI_24, pI_24, pZ_24, aL_25, io_26, gI_26, pI_26, pZ_26, io_27, gI_27, pI_27, pZ_27, aL_28, aL_29, aL_30, aL_31, aL_32, aL_33, io_34, gI_34, pI_34, pZ_34, aL_35, io_36, gI_36, pI_36, pZ_36, aL_37, io_38, gI_38, pI_38, pZ_38, aL_39, io_40, gI_40, pI_40, pZ_40, aL_41, io_42, gI_42, pI_42, pZ_42, aL_43, aL_44, aL_45, aL_46, aL_47, aL_48, aL_49, aL_50, aL_51, aL_52, aL_53, aL_54, aL_55, aL_56, aL_57, aL_58, gq_0_0, gq_0_1, gq_0_2, gq_0_3, gq_0_4, gq_0_5, gq_0_6, gq_0_7, gq_1_0, gq_1_1, gq_1_2, gq_1_3, gq_1_4, gq_1_5, gq_1_6, gq_1_7, gq_1_8, gq_1_9, gq_2_2, gq_4_2, gq_6_2, gq_9_2, gq_11_2, gq_13_2, gq_15_2, gq_17_0, gq_20_0, gq_22_0, gq_24_0, gq_27_0, gq_34_0, gq_36_0, gq_38_0, gq_40_0, gq_42_0, gq_42_1, gq_42_3, gq_42_4, gq_42_11, gq_42_12, gq_42_13, gq_42_15, gq_42_16, gq_42_17, gq_42_18, gq_42_19, gq_42_23, gq_42_24, gq_42_25, gq_42_26, aQ_29_0, aQ_29_1, aQ_29_2, aQ_29_3, aQ_19_0, aQ_19_1, aQ_19_2, aQ_46_0, aQ_46_1, aQ_46_2, gq_26, gr_26, gr_0_8, pQ_26, Option.bind_some, ↓reduceIte, one_ne0, within_eq, if_pos ha, (place8 (w4e _ _) (show c 0 ≤ 1000 by omega)).2 hp, finds_1]
        try simp
  · refine op_err1 (k := 1) (e := -1000001) (by decide) hR ?_ ?_
    · show f_X7_curve (mkS m kp b) 0 a v w u t = _
      unfold f_X7_curve
      simp only [io_0, gI_0, pI_0, pZ_0, io_1, gI_1, pI_1, pZ_1, io_2, gI_2, pI_2, pZ_2, aL_3, io_4, gI_4, pI_4, pZ_4, aL_5, io_6, gI_6, pI_6, pZ_6, aL_7, aL_8, io_9, gI_9, pI_9, pZ_9, aL_10, io_11, gI_11, pI_11, pZ_11, aL_12, io_13, gI_13, pI_13, pZ_13, aL_14, io_15, gI_15, pI_15, pZ_15, aL_16, io_17, gI_17, pI_17, pZ_17, aL_18, aL_19, io_20, gI_20, pI_20, pZ_20, aL_21, io_22, gI_22, pI_22, pZ_22, aL_23, io_24, gI_24, pI_24, pZ_24, aL_25, io_26, gI_26, pI_26, pZ_26, io_27, gI_27, pI_27, pZ_27, aL_28, aL_29, aL_30, aL_31, aL_32, aL_33, io_34, gI_34, pI_34, pZ_34, aL_35, io_36, gI_36, pI_36, pZ_36, aL_37, io_38, gI_38, pI_38, pZ_38, aL_39, io_40, gI_40, pI_40, pZ_40, aL_41, io_42, gI_42, pI_42, pZ_42, aL_43, aL_44, aL_45, aL_46, aL_47, aL_48, aL_49, aL_50, aL_51, aL_52, aL_53, aL_54, aL_55, aL_56, aL_57, aL_58, gq_0_0, gq_0_1, gq_0_2, gq_0_3, gq_0_4, gq_0_5, gq_0_6, gq_0_7, gq_1_0, gq_1_1, gq_1_2, gq_1_3, gq_1_4, gq_1_5, gq_1_6, gq_1_7, gq_1_8, gq_1_9, gq_2_2, gq_4_2, gq_6_2, gq_9_2, gq_11_2, gq_13_2, gq_15_2, gq_17_0, gq_20_0, gq_22_0, gq_24_0, gq_27_0, gq_34_0, gq_36_0, gq_38_0, gq_40_0, gq_42_0, gq_42_1, gq_42_3, gq_42_4, gq_42_11, gq_42_12, gq_42_13, gq_42_15, gq_42_16, gq_42_17, gq_42_18, gq_42_19, gq_42_23, gq_42_24, gq_42_25, gq_42_26, aQ_29_0, aQ_29_1, aQ_29_2, aQ_29_3, aQ_19_0, aQ_19_1, aQ_19_2, aQ_46_0, aQ_46_1, aQ_46_2, gq_26, gr_26, gr_0_8, pQ_26, Option.bind_some, ↓reduceIte, one_ne0, outside_eq, if_neg ha, fails_1]
      try simp
    · show f_X8_curve_ (mkS _ kp b) 42 a v w u t = _
      unfold f_X8_curve_
      simp only [io_0, gI_0, pI_0, pZ_0, io_1, gI_1, pI_1, pZ_1, io_2, gI_2, pI_2, pZ_2, aL_3, io_4, gI_4, pI_4, pZ_4, aL_5, io_6, gI_6, pI_6, pZ_6, aL_7, aL_8, io_9, gI_9, pI_9, pZ_9, aL_10, io_11, gI_11, pI_11, pZ_11, aL_12, io_13, gI_13, pI_13, pZ_13, aL_14, io_15, gI_15, pI_15, pZ_15, aL_16, io_17, gI_17, pI_17, pZ_17, aL_18, aL_19, io_20, gI_20, pI_20, pZ_20, aL_21, io_22, gI_22, pI_22, pZ_22, aL_23, io_24, gI_24, pI_24, pZ_24, aL_25, io_26, gI_26, pI_26, pZ_26, io_27, gI_27, pI_27, pZ_27, aL_28, aL_29, aL_30, aL_31, aL_32, aL_33, io_34, gI_34, pI_34, pZ_34, aL_35, io_36, gI_36, pI_36, pZ_36, aL_37, io_38, gI_38, pI_38, pZ_38, aL_39, io_40, gI_40, pI_40, pZ_40, aL_41, io_42, gI_42, pI_42, pZ_42, aL_43, aL_44, aL_45, aL_46, aL_47, aL_48, aL_49, aL_50, aL_51, aL_52, aL_53, aL_54, aL_55, aL_56, aL_57, aL_58, gq_0_0, gq_0_1, gq_0_2, gq_0_3, gq_0_4, gq_0_5, gq_0_6, gq_0_7, gq_1_0, gq_1_1, gq_1_2, gq_1_3, gq_1_4, gq_1_5, gq_1_6, gq_1_7, gq_1_8, gq_1_9, gq_2_2, gq_4_2, gq_6_2, gq_9_2, gq_11_2, gq_13_2, gq_15_2, gq_17_0, gq_20_0, gq_22_0, gq_24_0, gq_27_0, gq_34_0, gq_36_0, gq_38_0, gq_40_0, gq_42_0, gq_42_1, gq_42_3, gq_42_4, gq_42_11, gq_42_12, gq_42_13, gq_42_15, gq_42_16, gq_42_17, gq_42_18, gq_42_19, gq_42_23, gq_42_24, gq_42_25, gq_42_26, aQ_29_0, aQ_29_1, aQ_29_2, aQ_29_3, aQ_19_0, aQ_19_1, aQ_19_2, aQ_46_0, aQ_46_1, aQ_46_2, gq_26, gr_26, gr_0_8, pQ_26, Option.bind_some, ↓reduceIte, one_ne0, within_eq, if_neg ha, finds_1]
      try simp
/-! feed -/
theorem lsb255 : ∀ i, i < 64 → (255#64).getLsbD i = decide (i < 8) := by decide
theorem lsb255w : ∀ i, i < 32 → (255#32).getLsbD i = decide (i < 8) := by decide
theorem byte255 (w : Int64) : w.toInt32.toInt8.toInt32.toInt8.toInt32 &&& 255 = (w &&& 255).toInt32 := by
  apply Int32.toBitVec_inj.1
  apply BitVec.eq_of_getLsbD_eq
  intro i hi
  show (((((w.toBitVec.signExtend 32).signExtend 8).signExtend 32).signExtend 8).signExtend 32 &&& 255#32).getLsbD i = ((w.toBitVec &&& 255#64).signExtend 32).getLsbD i
  simp only [BitVec.getLsbD_and, BitVec.getLsbD_signExtend, hi, decide_true, Bool.true_and, lsb255w i hi]
  by_cases h8 : i < 8
  · simp [h8, show i < 32 by omega, show i < 64 by omega, lsb255 i (by omega)]
  · rw [if_pos (show i < 64 by omega), lsb255 i (by omega), decide_eq_false h8, Bool.and_false, Bool.and_false, if_pos (show i < 64 by omega)]
def fd7 (m : Nat → Nat → Int32) (n : Nat) (g : Nat → Int32) (i : Nat) : Nat → Nat → Int32 := st1 (wrow m 18 n i g) 17 1 (nI (n + i))
def fd8 (m : Nat → Nat → Int32) (n : Nat) (g : Nat → Int32) (i : Nat) : Nat → Nat → Int32 := st1 (wrow m 43 (974 + n) i g) 43 5 (nI (n + i))
theorem fd7_s {n i : Nat} {g : Nat → Int32} : st1 (st1 (fd7 m n g i) 18 (n + i) (g i)) 17 1 (nI (n + (i + 1))) = fd7 m n g (i + 1) := by
  unfold fd7
  rw [← wrow_s]
  funext q j
  simp only [st1_app]
  repeat' split
  all_goals first | rfl | (exfalso; omega)
theorem fd8_s {n i : Nat} {g : Nat → Int32} : st1 (st1 (fd8 m n g i) 43 (974 + (n + i)) (g i)) 43 5 (nI (n + (i + 1))) = fd8 m n g (i + 1) := by
  unfold fd8
  rw [← wrow_s]
  funext q j
  simp only [st1_app]
  repeat' split
  all_goals first | rfl | (exfalso; omega)
def fdA (w : Int64) (k : Nat) : Int32 := (w >>> (((8 : Int32) * nI k).toInt64 &&& 63)).toInt32.toInt8.toInt32.toInt8.toInt32
def fdB (w : Int64) (k : Nat) : Int32 := ((w >>> (((8 : Int32) * nI k).toInt64 &&& 63)) &&& 255).toInt32
theorem wr_18b {i : Nat} {v : Int32} (h : i < 56) : sB (mkS m kp b) 18 (nI i) v = some (mkS (st1 m 18 i v.toInt8.toInt32) kp b) := by rw [sB_of al_18, if_pos (inB_nI h (by decide)), nI_clamp (by omega)]
theorem feed7 {n K : Nat} {w : Int64} (hK : n + K ≤ 56) : f_X7_feed_L44 0 w (nI K) 3000 0 (mkS (fd7 m n (fdA w) 0) kp b) = some (nI K, mkS (fd7 m n (fdA w) K) kp b) := by
  have := loopS (fun f i s => f_X7_feed_L44 0 w (nI K) f (nI i) s) (fun i => mkS (fd7 m n (fdA w) i) kp b) (nI K, mkS (fd7 m n (fdA w) K) kp b) K (fun f i hi => by
    show f_X7_feed_L44 0 w (nI K) (f + 1) (nI i) _ = f_X7_feed_L44 0 w (nI K) f (nI (i + 1)) _
    rw [f_X7_feed_L44]
    have h17 : fd7 m n (fdA w) i 17 1 = nI (n + i) := by unfold fd7; rw [st1_eq]
    have h56 : ((56 : Int32) ≤ nI (n + i)) = False := eq_false (nI_ge (b := 56) (by omega) (by decide))
    simp only [io_0, gI_0, pI_0, pZ_0, io_1, gI_1, pI_1, pZ_1, io_2, gI_2, pI_2, pZ_2, aL_3, io_4, gI_4, pI_4, pZ_4, aL_5, io_6, gI_6, pI_6, pZ_6, aL_7, aL_8, io_9, gI_9, pI_9, pZ_9, aL_10, io_11, gI_11, pI_11, pZ_11, aL_12, io_13, gI_13, pI_13, pZ_13, aL_14, io_15, gI_15, pI_15, pZ_15, aL_16, io_17, gI_17, pI_17, pZ_17, aL_18, aL_19, io_20, gI_20, pI_20, pZ_20, aL_21, io_22, gI_22, pI_22, pZ_22, aL_23, io_24, gI_24, pI_24, pZ_24, aL_25, io_26, gI_26, pI_26, pZ_26, io_27, gI_27, pI_27, pZ_27, aL_28, aL_29, aL_30, aL_31, aL_32, aL_33, io_34, gI_34, pI_34, pZ_34, aL_35, io_36, gI_36, pI_36, pZ_36, aL_37, io_38, gI_38, pI_38, pZ_38, aL_39, io_40, gI_40, pI_40, pZ_40, aL_41, io_42, gI_42, pI_42, pZ_42, aL_43, aL_44, aL_45, aL_46, aL_47, aL_48, aL_49, aL_50, aL_51, aL_52, aL_53, aL_54, aL_55, aL_56, aL_57, aL_58, gq_0_0, gq_0_1, gq_0_2, gq_0_3, gq_0_4, gq_0_5, gq_0_6, gq_0_7, gq_1_0, gq_1_1, gq_1_2, gq_1_3, gq_1_4, gq_1_5, gq_1_6, gq_1_7, gq_1_8, gq_1_9, gq_2_2, gq_4_2, gq_6_2, gq_9_2, gq_11_2, gq_13_2, gq_15_2, gq_17_0, gq_20_0, gq_22_0, gq_24_0, gq_27_0, gq_34_0, gq_36_0, gq_38_0, gq_40_0, gq_42_0, gq_42_1, gq_42_3, gq_42_4, gq_42_11, gq_42_12, gq_42_13, gq_42_15, gq_42_16, gq_42_17, gq_42_18, gq_42_19, gq_42_23, gq_42_24, gq_42_25, gq_42_26, aQ_29_0, aQ_29_1, aQ_29_2, aQ_29_3, aQ_19_0, aQ_19_1, aQ_19_2, aQ_46_0, aQ_46_1, aQ_46_2, gq_26, gr_26, gr_0_8, pQ_26, Option.bind_some, ↓reduceIte, one_ne0, nle hi (show K < 2 ^ 31 by omega), f_X1_add, h17, h56, wr_18b (show n + i < 56 by omega), st1_ne (show (17 : Nat) ≠ 18 by decide), nI_a1]
    exact congrArg (fun M => f_X7_feed_L44 0 w (nI K) f (nI (i + 1)) (mkS M kp b)) (fd7_s (m := m) (n := n) (i := i) (g := fdA w))) (fun f => by
    show f_X7_feed_L44 0 w (nI K) (f + 1) (nI K) _ = _
    rw [f_X7_feed_L44, if_pos (Int32.le_refl _)]) K 0 3000 (by omega) (by omega)
  simp only [nI_0] at this
  exact this
theorem feed8 {n K : Nat} {w : Int64} (hK : n + K ≤ 56) : f_X8_feed_L40 42 w (nI K) 3000 0 (mkS (fd8 m n (fdB w) 0) kp b) = some (nI K, mkS (fd8 m n (fdB w) K) kp b) := by
  have := loopS (fun f i s => f_X8_feed_L40 42 w (nI K) f (nI i) s) (fun i => mkS (fd8 m n (fdB w) i) kp b) (nI K, mkS (fd8 m n (fdB w) K) kp b) K (fun f i hi => by
    show f_X8_feed_L40 42 w (nI K) (f + 1) (nI i) _ = f_X8_feed_L40 42 w (nI K) f (nI (i + 1)) _
    rw [f_X8_feed_L40]
    have h5 : fd8 m n (fdB w) i 43 5 = nI (n + i) := by unfold fd8; rw [st1_eq]
    have e974 : (974 : Int32) + nI (n + i) = nI (974 + (n + i)) := nI_add 974 (n + i)
    simp only [io_0, gI_0, pI_0, pZ_0, io_1, gI_1, pI_1, pZ_1, io_2, gI_2, pI_2, pZ_2, aL_3, io_4, gI_4, pI_4, pZ_4, aL_5, io_6, gI_6, pI_6, pZ_6, aL_7, aL_8, io_9, gI_9, pI_9, pZ_9, aL_10, io_11, gI_11, pI_11, pZ_11, aL_12, io_13, gI_13, pI_13, pZ_13, aL_14, io_15, gI_15, pI_15, pZ_15, aL_16, io_17, gI_17, pI_17, pZ_17, aL_18, aL_19, io_20, gI_20, pI_20, pZ_20, aL_21, io_22, gI_22, pI_22, pZ_22, aL_23, io_24, gI_24, pI_24, pZ_24, aL_25, io_26, gI_26, pI_26, pZ_26, io_27, gI_27, pI_27, pZ_27, aL_28, aL_29, aL_30, aL_31, aL_32, aL_33, io_34, gI_34, pI_34, pZ_34, aL_35, io_36, gI_36, pI_36, pZ_36, aL_37, io_38, gI_38, pI_38, pZ_38, aL_39, io_40, gI_40, pI_40, pZ_40, aL_41, io_42, gI_42, pI_42, pZ_42, aL_43, aL_44, aL_45, aL_46, aL_47, aL_48, aL_49, aL_50, aL_51, aL_52, aL_53, aL_54, aL_55, aL_56, aL_57, aL_58, gq_0_0, gq_0_1, gq_0_2, gq_0_3, gq_0_4, gq_0_5, gq_0_6, gq_0_7, gq_1_0, gq_1_1, gq_1_2, gq_1_3, gq_1_4, gq_1_5, gq_1_6, gq_1_7, gq_1_8, gq_1_9, gq_2_2, gq_4_2, gq_6_2, gq_9_2, gq_11_2, gq_13_2, gq_15_2, gq_17_0, gq_20_0, gq_22_0, gq_24_0, gq_27_0, gq_34_0, gq_36_0, gq_38_0, gq_40_0, gq_42_0, gq_42_1, gq_42_3, gq_42_4, gq_42_11, gq_42_12, gq_42_13, gq_42_15, gq_42_16, gq_42_17, gq_42_18, gq_42_19, gq_42_23, gq_42_24, gq_42_25, gq_42_26, aQ_29_0, aQ_29_1, aQ_29_2, aQ_29_3, aQ_19_0, aQ_19_1, aQ_19_2, aQ_46_0, aQ_46_1, aQ_46_2, gq_26, gr_26, gr_0_8, pQ_26, Option.bind_some, ↓reduceIte, one_ne0, nle hi (show K < 2 ^ 31 by omega), rdl_5, h5, e974, wr_43 (show 974 + (n + i) < 1234 by omega), st1_nf (show (5 : Nat) ≠ 974 + (n + i) by omega), wrl_5, nI_a1]
    exact congrArg (fun M => f_X8_feed_L40 42 w (nI K) f (nI (i + 1)) (mkS M kp b)) (fd8_s (m := m) (n := n) (i := i) (g := fdB w))) (fun f => by
    show f_X8_feed_L40 42 w (nI K) (f + 1) (nI K) _ = _
    rw [f_X8_feed_L40, if_pos (Int32.le_refl _)]) K 0 3000 (by omega) (by omega)
  simp only [nI_0] at this
  exact this
theorem fd7_0 {n : Nat} {g : Nat → Int32} (h : m 17 1 = nI n) : fd7 m n g 0 = m := by
  unfold fd7
  rw [wrow_0]
  funext q j
  rw [st1_app]
  by_cases e : q = 17 ∧ j = 1
  · rw [if_pos e, e.1, e.2]; exact h.symm
  · rw [if_neg e]
theorem fd8_0 {n : Nat} {g : Nat → Int32} (h : m 43 5 = nI n) : fd8 m n g 0 = m := by
  unfold fd8
  rw [wrow_0]
  funext q j
  rw [st1_app]
  by_cases e : q = 43 ∧ j = 5
  · rw [if_pos e, e.1, e.2]; exact h.symm
  · rw [if_neg e]
theorem op_feed (w : Int64) (a : Int32) : OpR (fun σ => f_X7_feed σ 0 w a) (fun σ => f_X8_feed σ 42 w a) := by
  intro m kp b z hR
  obtain ⟨⟨c, hS⟩, -⟩ := id hR
  obtain ⟨x1, x2, x3, x4⟩ := id hS.2.2.2.2.2.2.2.1
  have e17 : m 17 1 = nI (c 5) := x1
  by_cases ha : 1 ≤ a ∧ a ≤ 8
  · obtain ⟨K, hK1, hK, rfl⟩ := ex_rng (lo := 1) (hi := 8) (by decide) ha (by decide)
    by_cases hf : c 5 + K ≤ 56
    · have hf2 : nI (c 5) + nI K ≤ 56 := by rw [nI_add]; exact nI_le (b := 56) hf (by decide)
      refine ⟨nI (c 5 + K), fd7 m (c 5) (fdA w) K, kp, b, fd8 (fd7 m (c 5) (fdA w) K) (c 5) (fdB w) K, ?_, ?_, ?_⟩
      · have h7 := feed7 (m := m) (kp := kp) (b := b) (n := c 5) (K := K) (w := w) hf
        rw [fd7_0 e17] at h7
        have h17 : fd7 m (c 5) (fdA w) K 17 1 = nI (c 5 + K) := by unfold fd7; rw [st1_eq]
        show f_X7_feed (mkS m kp b) 0 w (nI K) = _
        unfold f_X7_feed
        simp only [io_0, gI_0, pI_0, pZ_0, io_1, gI_1, pI_1, pZ_1, io_2, gI_2, pI_2, pZ_2, aL_3, io_4, gI_4, pI_4, pZ_4, aL_5, io_6, gI_6, pI_6, pZ_6, aL_7, aL_8, io_9, gI_9, pI_9, pZ_9, aL_10, io_11, gI_11, pI_11, pZ_11, aL_12, io_13, gI_13, pI_13, pZ_13, aL_14, io_15, gI_15, pI_15, pZ_15, aL_16, io_17, gI_17, pI_17, pZ_17, aL_18, aL_19, io_20, gI_20, pI_20, pZ_20, aL_21, io_22, gI_22, pI_22, pZ_22, aL_23, io_24, gI_24, pI_24, pZ_24, aL_25, io_26, gI_26, pI_26, pZ_26, io_27, gI_27, pI_27, pZ_27, aL_28, aL_29, aL_30, aL_31, aL_32, aL_33, io_34, gI_34, pI_34, pZ_34, aL_35, io_36, gI_36, pI_36, pZ_36, aL_37, io_38, gI_38, pI_38, pZ_38, aL_39, io_40, gI_40, pI_40, pZ_40, aL_41, io_42, gI_42, pI_42, pZ_42, aL_43, aL_44, aL_45, aL_46, aL_47, aL_48, aL_49, aL_50, aL_51, aL_52, aL_53, aL_54, aL_55, aL_56, aL_57, aL_58, gq_0_0, gq_0_1, gq_0_2, gq_0_3, gq_0_4, gq_0_5, gq_0_6, gq_0_7, gq_1_0, gq_1_1, gq_1_2, gq_1_3, gq_1_4, gq_1_5, gq_1_6, gq_1_7, gq_1_8, gq_1_9, gq_2_2, gq_4_2, gq_6_2, gq_9_2, gq_11_2, gq_13_2, gq_15_2, gq_17_0, gq_20_0, gq_22_0, gq_24_0, gq_27_0, gq_34_0, gq_36_0, gq_38_0, gq_40_0, gq_42_0, gq_42_1, gq_42_3, gq_42_4, gq_42_11, gq_42_12, gq_42_13, gq_42_15, gq_42_16, gq_42_17, gq_42_18, gq_42_19, gq_42_23, gq_42_24, gq_42_25, gq_42_26, aQ_29_0, aQ_29_1, aQ_29_2, aQ_29_3, aQ_19_0, aQ_19_1, aQ_19_2, aQ_46_0, aQ_46_1, aQ_46_2, gq_26, gr_26, gr_0_8, pQ_26, Option.bind_some, ↓reduceIte, one_ne0, outside_eq, if_pos ha, e17, if_pos hf2, h7, h17]
      · obtain ⟨M, eM⟩ : ∃ q, q = fd7 m (c 5) (fdA w) K := ⟨_, rfl⟩
        have h5 : M 43 5 = nI (c 5) := by rw [eM]; unfold fd7; rw [st1_ne (by decide), wrow_ne (by decide)]; exact x2
        rw [← eM]
        have h8 := feed8 (m := M) (kp := kp) (b := b) (n := c 5) (K := K) (w := w) hf
        rw [fd8_0 h5] at h8
        have h17 : fd8 M (c 5) (fdB w) K 43 5 = nI (c 5 + K) := by unfold fd8; rw [st1_eq]
        show f_X8_feed (mkS M kp b) 42 w (nI K) = _
        unfold f_X8_feed
        simp only [io_0, gI_0, pI_0, pZ_0, io_1, gI_1, pI_1, pZ_1, io_2, gI_2, pI_2, pZ_2, aL_3, io_4, gI_4, pI_4, pZ_4, aL_5, io_6, gI_6, pI_6, pZ_6, aL_7, aL_8, io_9, gI_9, pI_9, pZ_9, aL_10, io_11, gI_11, pI_11, pZ_11, aL_12, io_13, gI_13, pI_13, pZ_13, aL_14, io_15, gI_15, pI_15, pZ_15, aL_16, io_17, gI_17, pI_17, pZ_17, aL_18, aL_19, io_20, gI_20, pI_20, pZ_20, aL_21, io_22, gI_22, pI_22, pZ_22, aL_23, io_24, gI_24, pI_24, pZ_24, aL_25, io_26, gI_26, pI_26, pZ_26, io_27, gI_27, pI_27, pZ_27, aL_28, aL_29, aL_30, aL_31, aL_32, aL_33, io_34, gI_34, pI_34, pZ_34, aL_35, io_36, gI_36, pI_36, pZ_36, aL_37, io_38, gI_38, pI_38, pZ_38, aL_39, io_40, gI_40, pI_40, pZ_40, aL_41, io_42, gI_42, pI_42, pZ_42, aL_43, aL_44, aL_45, aL_46, aL_47, aL_48, aL_49, aL_50, aL_51, aL_52, aL_53, aL_54, aL_55, aL_56, aL_57, aL_58, gq_0_0, gq_0_1, gq_0_2, gq_0_3, gq_0_4, gq_0_5, gq_0_6, gq_0_7, gq_1_0, gq_1_1, gq_1_2, gq_1_3, gq_1_4, gq_1_5, gq_1_6, gq_1_7, gq_1_8, gq_1_9, gq_2_2, gq_4_2, gq_6_2, gq_9_2, gq_11_2, gq_13_2, gq_15_2, gq_17_0, gq_20_0, gq_22_0, gq_24_0, gq_27_0, gq_34_0, gq_36_0, gq_38_0, gq_40_0, gq_42_0, gq_42_1, gq_42_3, gq_42_4, gq_42_11, gq_42_12, gq_42_13, gq_42_15, gq_42_16, gq_42_17, gq_42_18, gq_42_19, gq_42_23, gq_42_24, gq_42_25, gq_42_26, aQ_29_0, aQ_29_1, aQ_29_2, aQ_29_3, aQ_19_0, aQ_19_1, aQ_19_2, aQ_46_0, aQ_46_1, aQ_46_2, gq_26, gr_26, gr_0_8, pQ_26, Option.bind_some, ↓reduceIte, one_ne0, within_eq, if_pos ha, rdl_5, h5, if_pos hf2, h8, h17]
      · refine RR_Tap hR hS (fun q q1 q2 q3 => by unfold fd8 fd7; rw [st1_ne q3, wrow_ne q3, st1_ne q1, wrow_ne q2]) (fun i hi => by unfold fd8 fd7; rw [st1_nf (by omega), wrow_at, if_neg (by omega), st1_ne (by decide), wrow_ne (by decide)]) (c 5 + K) ⟨?_, ?_, hf, fun k hk => ?_⟩
        · show fd8 _ _ _ _ 17 1 = _
          unfold fd8 fd7
          rw [st1_ne (by decide), wrow_ne (by decide), st1_eq]
        · unfold fd8
          rw [st1_eq]
        · show fd8 _ _ _ _ 18 k &&& 255 = _ ∧ fits .byte (.int (fd8 _ _ _ _ 18 k)) = true
          unfold fd8 fd7
          rw [st1_ne (by decide), wrow_ne (by decide), st1_ne (by decide), wrow_at, st1_nf (by omega), wrow_at, st1_ne (by decide), wrow_ne (by decide)]
          have := x4 k hk
          by_cases e : c 5 ≤ k ∧ k < c 5 + K
          · rw [if_pos e, if_pos (by omega), show 974 + k - (974 + c 5) = k - c 5 by omega]
            exact ⟨byte255 _, pk_fb _⟩
          · rw [if_neg e, if_neg (by omega)]
            exact this
    · have hf2 : ¬ nI (c 5) + nI K ≤ 56 := by rw [nI_add]; exact nI_ge (a := 56) (by omega) (by omega)
      refine op_err1 (k := 4) (e := -1000004) (by decide) hR ?_ ?_
      · show f_X7_feed (mkS m kp b) 0 w (nI K) = _
        unfold f_X7_feed
        simp only [io_0, gI_0, pI_0, pZ_0, io_1, gI_1, pI_1, pZ_1, io_2, gI_2, pI_2, pZ_2, aL_3, io_4, gI_4, pI_4, pZ_4, aL_5, io_6, gI_6, pI_6, pZ_6, aL_7, aL_8, io_9, gI_9, pI_9, pZ_9, aL_10, io_11, gI_11, pI_11, pZ_11, aL_12, io_13, gI_13, pI_13, pZ_13, aL_14, io_15, gI_15, pI_15, pZ_15, aL_16, io_17, gI_17, pI_17, pZ_17, aL_18, aL_19, io_20, gI_20, pI_20, pZ_20, aL_21, io_22, gI_22, pI_22, pZ_22, aL_23, io_24, gI_24, pI_24, pZ_24, aL_25, io_26, gI_26, pI_26, pZ_26, io_27, gI_27, pI_27, pZ_27, aL_28, aL_29, aL_30, aL_31, aL_32, aL_33, io_34, gI_34, pI_34, pZ_34, aL_35, io_36, gI_36, pI_36, pZ_36, aL_37, io_38, gI_38, pI_38, pZ_38, aL_39, io_40, gI_40, pI_40, pZ_40, aL_41, io_42, gI_42, pI_42, pZ_42, aL_43, aL_44, aL_45, aL_46, aL_47, aL_48, aL_49, aL_50, aL_51, aL_52, aL_53, aL_54, aL_55, aL_56, aL_57, aL_58, gq_0_0, gq_0_1, gq_0_2, gq_0_3, gq_0_4, gq_0_5, gq_0_6, gq_0_7, gq_1_0, gq_1_1, gq_1_2, gq_1_3, gq_1_4, gq_1_5, gq_1_6, gq_1_7, gq_1_8, gq_1_9, gq_2_2, gq_4_2, gq_6_2, gq_9_2, gq_11_2, gq_13_2, gq_15_2, gq_17_0, gq_20_0, gq_22_0, gq_24_0, gq_27_0, gq_34_0, gq_36_0, gq_38_0, gq_40_0, gq_42_0, gq_42_1, gq_42_3, gq_42_4, gq_42_11, gq_42_12, gq_42_13, gq_42_15, gq_42_16, gq_42_17, gq_42_18, gq_42_19, gq_42_23, gq_42_24, gq_42_25, gq_42_26, aQ_29_0, aQ_29_1, aQ_29_2, aQ_29_3, aQ_19_0, aQ_19_1, aQ_19_2, aQ_46_0, aQ_46_1, aQ_46_2, gq_26, gr_26, gr_0_8, pQ_26, Option.bind_some, ↓reduceIte, one_ne0, outside_eq, if_pos ha, e17, if_neg hf2, fails_4]
        try simp
      · show f_X8_feed (mkS _ kp b) 42 w (nI K) = _
        unfold f_X8_feed
        simp only [io_0, gI_0, pI_0, pZ_0, io_1, gI_1, pI_1, pZ_1, io_2, gI_2, pI_2, pZ_2, aL_3, io_4, gI_4, pI_4, pZ_4, aL_5, io_6, gI_6, pI_6, pZ_6, aL_7, aL_8, io_9, gI_9, pI_9, pZ_9, aL_10, io_11, gI_11, pI_11, pZ_11, aL_12, io_13, gI_13, pI_13, pZ_13, aL_14, io_15, gI_15, pI_15, pZ_15, aL_16, io_17, gI_17, pI_17, pZ_17, aL_18, aL_19, io_20, gI_20, pI_20, pZ_20, aL_21, io_22, gI_22, pI_22, pZ_22, aL_23, io_24, gI_24, pI_24, pZ_24, aL_25, io_26, gI_26, pI_26, pZ_26, io_27, gI_27, pI_27, pZ_27, aL_28, aL_29, aL_30, aL_31, aL_32, aL_33, io_34, gI_34, pI_34, pZ_34, aL_35, io_36, gI_36, pI_36, pZ_36, aL_37, io_38, gI_38, pI_38, pZ_38, aL_39, io_40, gI_40, pI_40, pZ_40, aL_41, io_42, gI_42, pI_42, pZ_42, aL_43, aL_44, aL_45, aL_46, aL_47, aL_48, aL_49, aL_50, aL_51, aL_52, aL_53, aL_54, aL_55, aL_56, aL_57, aL_58, gq_0_0, gq_0_1, gq_0_2, gq_0_3, gq_0_4, gq_0_5, gq_0_6, gq_0_7, gq_1_0, gq_1_1, gq_1_2, gq_1_3, gq_1_4, gq_1_5, gq_1_6, gq_1_7, gq_1_8, gq_1_9, gq_2_2, gq_4_2, gq_6_2, gq_9_2, gq_11_2, gq_13_2, gq_15_2, gq_17_0, gq_20_0, gq_22_0, gq_24_0, gq_27_0, gq_34_0, gq_36_0, gq_38_0, gq_40_0, gq_42_0, gq_42_1, gq_42_3, gq_42_4, gq_42_11, gq_42_12, gq_42_13, gq_42_15, gq_42_16, gq_42_17, gq_42_18, gq_42_19, gq_42_23, gq_42_24, gq_42_25, gq_42_26, aQ_29_0, aQ_29_1, aQ_29_2, aQ_29_3, aQ_19_0, aQ_19_1, aQ_19_2, aQ_46_0, aQ_46_1, aQ_46_2, gq_26, gr_26, gr_0_8, pQ_26, Option.bind_some, ↓reduceIte, one_ne0, within_eq, if_pos ha, rdl_5, e43 x2, if_neg hf2, finds_4]
        try simp
  · refine op_err1 (k := 1) (e := -1000001) (by decide) hR ?_ ?_
    · show f_X7_feed (mkS m kp b) 0 w a = _
      unfold f_X7_feed
      simp only [io_0, gI_0, pI_0, pZ_0, io_1, gI_1, pI_1, pZ_1, io_2, gI_2, pI_2, pZ_2, aL_3, io_4, gI_4, pI_4, pZ_4, aL_5, io_6, gI_6, pI_6, pZ_6, aL_7, aL_8, io_9, gI_9, pI_9, pZ_9, aL_10, io_11, gI_11, pI_11, pZ_11, aL_12, io_13, gI_13, pI_13, pZ_13, aL_14, io_15, gI_15, pI_15, pZ_15, aL_16, io_17, gI_17, pI_17, pZ_17, aL_18, aL_19, io_20, gI_20, pI_20, pZ_20, aL_21, io_22, gI_22, pI_22, pZ_22, aL_23, io_24, gI_24, pI_24, pZ_24, aL_25, io_26, gI_26, pI_26, pZ_26, io_27, gI_27, pI_27, pZ_27, aL_28, aL_29, aL_30, aL_31, aL_32, aL_33, io_34, gI_34, pI_34, pZ_34, aL_35, io_36, gI_36, pI_36, pZ_36, aL_37, io_38, gI_38, pI_38, pZ_38, aL_39, io_40, gI_40, pI_40, pZ_40, aL_41, io_42, gI_42, pI_42, pZ_42, aL_43, aL_44, aL_45, aL_46, aL_47, aL_48, aL_49, aL_50, aL_51, aL_52, aL_53, aL_54, aL_55, aL_56, aL_57, aL_58, gq_0_0, gq_0_1, gq_0_2, gq_0_3, gq_0_4, gq_0_5, gq_0_6, gq_0_7, gq_1_0, gq_1_1, gq_1_2, gq_1_3, gq_1_4, gq_1_5, gq_1_6, gq_1_7, gq_1_8, gq_1_9, gq_2_2, gq_4_2, gq_6_2, gq_9_2, gq_11_2, gq_13_2, gq_15_2, gq_17_0, gq_20_0, gq_22_0, gq_24_0, gq_27_0, gq_34_0, gq_36_0, gq_38_0, gq_40_0, gq_42_0, gq_42_1, gq_42_3, gq_42_4, gq_42_11, gq_42_12, gq_42_13, gq_42_15, gq_42_16, gq_42_17, gq_42_18, gq_42_19, gq_42_23, gq_42_24, gq_42_25, gq_42_26, aQ_29_0, aQ_29_1, aQ_29_2, aQ_29_3, aQ_19_0, aQ_19_1, aQ_19_2, aQ_46_0, aQ_46_1, aQ_46_2, gq_26, gr_26, gr_0_8, pQ_26, Option.bind_some, ↓reduceIte, one_ne0, outside_eq, if_neg ha, fails_1]
      try simp
    · show f_X8_feed (mkS _ kp b) 42 w a = _
      unfold f_X8_feed
      simp only [io_0, gI_0, pI_0, pZ_0, io_1, gI_1, pI_1, pZ_1, io_2, gI_2, pI_2, pZ_2, aL_3, io_4, gI_4, pI_4, pZ_4, aL_5, io_6, gI_6, pI_6, pZ_6, aL_7, aL_8, io_9, gI_9, pI_9, pZ_9, aL_10, io_11, gI_11, pI_11, pZ_11, aL_12, io_13, gI_13, pI_13, pZ_13, aL_14, io_15, gI_15, pI_15, pZ_15, aL_16, io_17, gI_17, pI_17, pZ_17, aL_18, aL_19, io_20, gI_20, pI_20, pZ_20, aL_21, io_22, gI_22, pI_22, pZ_22, aL_23, io_24, gI_24, pI_24, pZ_24, aL_25, io_26, gI_26, pI_26, pZ_26, io_27, gI_27, pI_27, pZ_27, aL_28, aL_29, aL_30, aL_31, aL_32, aL_33, io_34, gI_34, pI_34, pZ_34, aL_35, io_36, gI_36, pI_36, pZ_36, aL_37, io_38, gI_38, pI_38, pZ_38, aL_39, io_40, gI_40, pI_40, pZ_40, aL_41, io_42, gI_42, pI_42, pZ_42, aL_43, aL_44, aL_45, aL_46, aL_47, aL_48, aL_49, aL_50, aL_51, aL_52, aL_53, aL_54, aL_55, aL_56, aL_57, aL_58, gq_0_0, gq_0_1, gq_0_2, gq_0_3, gq_0_4, gq_0_5, gq_0_6, gq_0_7, gq_1_0, gq_1_1, gq_1_2, gq_1_3, gq_1_4, gq_1_5, gq_1_6, gq_1_7, gq_1_8, gq_1_9, gq_2_2, gq_4_2, gq_6_2, gq_9_2, gq_11_2, gq_13_2, gq_15_2, gq_17_0, gq_20_0, gq_22_0, gq_24_0, gq_27_0, gq_34_0, gq_36_0, gq_38_0, gq_40_0, gq_42_0, gq_42_1, gq_42_3, gq_42_4, gq_42_11, gq_42_12, gq_42_13, gq_42_15, gq_42_16, gq_42_17, gq_42_18, gq_42_19, gq_42_23, gq_42_24, gq_42_25, gq_42_26, aQ_29_0, aQ_29_1, aQ_29_2, aQ_29_3, aQ_19_0, aQ_19_1, aQ_19_2, aQ_46_0, aQ_46_1, aQ_46_2, gq_26, gr_26, gr_0_8, pQ_26, Option.bind_some, ↓reduceIte, one_ne0, within_eq, if_neg ha, finds_1]
      try simp
end OJ
