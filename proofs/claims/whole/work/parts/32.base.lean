/-! numbers and loops -/
theorem inB_nI {k n : Nat} (h : k < n) (hn : n < 2 ^ 31) : inB (nI k) n = true := by
  simp only [inB, Bool.and_eq_true, decide_eq_true_eq]
  rw [nI_clamp (by omega)]
  exact ⟨nI_pos' (by omega), h⟩
def it {α : Type} (g : Nat → α → α) : Nat → Nat → α → α
  | 0, _, a => a
  | k + 1, i, a => it g k (i + 1) (g i a)
theorem it_congr {α : Type} {g g' : Nat → α → α} : ∀ (k i : Nat) (a : α), (∀ j a, i ≤ j → j < i + k → g j a = g' j a) → it g k i a = it g' k i a
  | 0, _, _, _ => rfl
  | k + 1, i, a, h => by
    show it g k (i + 1) (g i a) = it g' k (i + 1) (g' i a)
    rw [h i a (Nat.le_refl _) (by omega)]
    exact it_congr k (i + 1) (g' i a) (fun j a h1 h2 => h j a (by omega) (by omega))
theorem it_succ {α : Type} (g : Nat → α → α) : ∀ (k i : Nat) (a : α), it g (k + 1) i a = g (i + k) (it g k i a)
  | 0, i, a => rfl
  | k + 1, i, a => by
    show it g (k + 1) (i + 1) (g i a) = g (i + (k + 1)) (it g k (i + 1) (g i a))
    rw [it_succ g k (i + 1) (g i a), show i + 1 + k = i + (k + 1) by omega]
theorem it_inv {α : Type} {g : Nat → α → α} (I : Nat → α → Prop) : ∀ (k i : Nat) (a : α), I i a → (∀ j a, i ≤ j → j < i + k → I j a → I (j + 1) (g j a)) → I (i + k) (it g k i a)
  | 0, _, _, h, _ => h
  | k + 1, i, a, h, hs => by
    have := it_inv I k (i + 1) (g i a) (hs i a (Nat.le_refl _) (by omega) h) (fun j a h1 h2 h3 => hs j a (by omega) (by omega) h3)
    rw [show i + (k + 1) = i + 1 + k by omega]
    exact this
/-- a loop that counts up to n -/
theorem loopT {α ρ : Type} (L : Nat → Nat → α → Option ρ) (out : α → ρ) (g : Nat → α → α) (I : Nat → α → Prop) (n : Nat) (hs : ∀ f i a, i < n → I i a → L (f + 1) i a = L f (i + 1) (g i a) ∧ I (i + 1) (g i a)) (he : ∀ f a, I n a → L (f + 1) n a = some (out a)) : ∀ k i a f, i + k = n → k < f → I i a → L f i a = some (out (it g k i a)) ∧ I n (it g k i a) := by
  intro k
  induction k with
  | zero =>
    intro i a f h1 h2 hI
    have : i = n := by omega
    subst this
    obtain ⟨f, rfl⟩ : ∃ q, f = q + 1 := ⟨f - 1, by omega⟩
    exact ⟨he f a hI, hI⟩
  | succ k ih =>
    intro i a f h1 h2 hI
    obtain ⟨f, rfl⟩ : ∃ q, f = q + 1 := ⟨f - 1, by omega⟩
    obtain ⟨e1, e2⟩ := hs f i a (by omega) hI
    rw [e1]
    exact ih (i + 1) (g i a) f (by omega) (by omega) e2
/-- the same with no invariant -/
theorem loopU {α ρ : Type} (L : Nat → Nat → α → Option ρ) (out : α → ρ) (g : Nat → α → α) (n : Nat) (hs : ∀ f i a, i < n → L (f + 1) i a = L f (i + 1) (g i a)) (he : ∀ f a, L (f + 1) n a = some (out a)) (k i : Nat) (a : α) (f : Nat) (h1 : i + k = n) (h2 : k < f) : L f i a = some (out (it g k i a)) :=
  (loopT L out g (fun _ _ => True) n (fun f i a h _ => ⟨hs f i a h, trivial⟩) (fun f a _ => he f a) k i a f h1 h2 trivial).1
/-- a loop that may end early -/
def itE {α ρ : Type} (g : Nat → α → ρ ⊕ α) : Nat → Nat → α → ρ ⊕ α
  | 0, _, a => .inr a
  | k + 1, i, a => match g i a with
    | .inl r => .inl r
    | .inr a' => itE g k (i + 1) a'
theorem itE_congr {α ρ : Type} {g g' : Nat → α → ρ ⊕ α} : ∀ (k i : Nat) (a : α), (∀ j a, i ≤ j → j < i + k → g j a = g' j a) → itE g k i a = itE g' k i a
  | 0, _, _, _ => rfl
  | k + 1, i, a, h => by
    unfold itE
    rw [h i a (Nat.le_refl _) (by omega)]
    cases g' i a with
    | inl r => rfl
    | inr a' => exact itE_congr k (i + 1) a' (fun j a h1 h2 => h j a (by omega) (by omega))
theorem loopE {α ρ τ : Type} (L : Nat → Nat → α → Option τ) (oe : ρ → τ) (out : α → τ) (g : Nat → α → ρ ⊕ α) (n : Nat) (hs : ∀ f i a, i < n → L (f + 1) i a = (match g i a with | .inl r => some (oe r) | .inr a' => L f (i + 1) a')) (he : ∀ f a, L (f + 1) n a = some (out a)) : ∀ k i a f, i + k = n → k < f → L f i a = some (match itE g k i a with | .inl r => oe r | .inr a' => out a') := by
  intro k
  induction k with
  | zero =>
    intro i a f h1 h2
    have : i = n := by omega
    subst this
    obtain ⟨f, rfl⟩ : ∃ q, f = q + 1 := ⟨f - 1, by omega⟩
    exact he f a
  | succ k ih =>
    intro i a f h1 h2
    obtain ⟨f, rfl⟩ : ∃ q, f = q + 1 := ⟨f - 1, by omega⟩
    rw [hs f i a (by omega)]
    unfold itE
    cases g i a with
    | inl r => rfl
    | inr a' => exact ih (i + 1) a' f (by omega) (by omega)
/-! small answers -/
theorem z01 {c : Prop} [Decidable c] : zr (if c then (0 : Int32) else 1) = some (if c then 0 else 1) := by by_cases h : c <;> simp [h, zr]
theorem z10 {c : Prop} [Decidable c] : zr (if c then (1 : Int32) else 0) = some (if c then 1 else 0) := by by_cases h : c <;> simp [h, zr]
theorem i10 {c : Prop} [Decidable c] : ((if c then (1 : Int32) else 0) = 0) = ¬ c := by by_cases h : c <;> simp [h]
theorem i01 {c : Prop} [Decidable c] : ((if c then (0 : Int32) else 1) = 0) = c := by by_cases h : c <;> simp [h]
theorem outside_eq {σ : St} {v a b : Int32} : f_X7_outside σ v a b = some (if a ≤ v ∧ v ≤ b then 0 else 1) := by
  unfold f_X7_outside
  by_cases h1 : v < a
  · have : ¬ (a ≤ v ∧ v ≤ b) := fun q => Int32.not_le.mpr h1 q.1
    simp [h1, this, zr]
  · by_cases h2 : v ≤ b
    · have : a ≤ v ∧ v ≤ b := ⟨Int32.not_lt.mp h1, h2⟩
      simp [h1, h2, this, zr]
    · have : ¬ (a ≤ v ∧ v ≤ b) := fun q => h2 q.2
      simp [h1, h2, zr]
theorem within_eq {σ : St} {v a b : Int32} : f_X8_within σ v a b = some (if a ≤ v ∧ v ≤ b then 1 else 0) := by
  unfold f_X8_within
  by_cases h1 : v < a
  · have : ¬ (a ≤ v ∧ v ≤ b) := fun q => Int32.not_le.mpr h1 q.1
    simp [h1, this, zr]
  · by_cases h2 : b < v
    · have : ¬ (a ≤ v ∧ v ≤ b) := fun q => Int32.not_le.mpr h2 q.2
      simp [h1, h2, this, zr]
    · have : a ≤ v ∧ v ≤ b := ⟨Int32.not_lt.mp h1, Int32.not_lt.mp h2⟩
      simp [h1, h2, this, zr]
theorem isFactor7_eq {σ : St} {f : Int32} : f_X7_isFactor σ f = some (if 1 ≤ f ∧ f ≤ 5 then 1 else 0) := by
  unfold f_X7_isFactor
  simp only [outside_eq, Option.bind_some, i01]
  by_cases h : 1 ≤ f ∧ f ≤ 5 <;> simp [h, zr]
theorem isLength7_eq {σ : St} {f : Int32} : f_X7_isLength σ f = some (if 3 ≤ f ∧ f ≤ 24 then 1 else 0) := by
  unfold f_X7_isLength
  simp only [outside_eq, Option.bind_some, i01]
  by_cases h : 3 ≤ f ∧ f ≤ 24 <;> simp [h, zr]
theorem isHouse7_eq {σ : St} {f : Int32} : f_X7_isHouse σ f = some (if 0 ≤ f ∧ f ≤ 7 then 1 else 0) := by
  unfold f_X7_isHouse
  simp only [outside_eq, Option.bind_some, i01]
  by_cases h : 0 ≤ f ∧ f ≤ 7 <;> simp [h, zr]
theorem isUse7_eq {σ : St} {f : Int32} : f_X7_isUse σ f = some (if 0 ≤ f ∧ f ≤ 2 then 1 else 0) := by
  unfold f_X7_isUse
  simp only [outside_eq, Option.bind_some, i01]
  by_cases h : 0 ≤ f ∧ f ≤ 2 <;> simp [h, zr]
theorem isFactor8_eq {σ : St} {t : Nat} {f : Int32} : f_X8_isFactor σ f = some (if 1 ≤ f ∧ f ≤ 5 then 1 else 0) := by
  unfold f_X8_isFactor
  simp only [within_eq, Option.bind_some, z10]
theorem isHouse8_eq {σ : St} {f : Int32} : f_X8_isHouse σ f = some (if 0 ≤ f ∧ f ≤ 7 then 1 else 0) := by
  unfold f_X8_isHouse
  simp only [within_eq, Option.bind_some, z10]
theorem isSheet8_eq {σ : St} {f : Int32} : f_X8_isSheet σ f = some (if 0 ≤ f ∧ f ≤ 3 then 1 else 0) := by
  unfold f_X8_isSheet
  simp only [within_eq, Option.bind_some, z10]
section BS
variable {m : Nat → Nat → Int32} {kp : Bool} {b : Option Nat}
theorem clamp_1 : (1 : Int32).toNatClampNeg = 1 := by decide
theorem clamp_2 : (2 : Int32).toNatClampNeg = 2 := by decide
theorem clamp_3 : (3 : Int32).toNatClampNeg = 3 := by decide
theorem clamp_4 : (4 : Int32).toNatClampNeg = 4 := by decide
theorem clamp_5 : (5 : Int32).toNatClampNeg = 5 := by decide
theorem clamp_6 : (6 : Int32).toNatClampNeg = 6 := by decide
theorem fails_1 : f_X7_fails (mkS m kp b) 0 (-1000001) = some (-1000001, mkS (st1 m 30 1 (m 30 1 + 1)) kp b) := by
  unfold f_X7_fails
  have e : (-1000000 : Int32) - (-1000001) = 1 := by decide
  have e2 : (1 : Int32) ≤ 1 ∧ (1 : Int32) ≤ 6 := by decide
  have e3 : inB 1 7 = true := by decide
  simp only [e, outside_eq, e2, e3, clamp_1, aI_30, sI_30, aI_45, sI_45, io_0, gI_0, pI_0, pZ_0, io_1, gI_1, pI_1, pZ_1, io_2, gI_2, pI_2, pZ_2, aL_3, io_4, gI_4, pI_4, pZ_4, aL_5, io_6, gI_6, pI_6, pZ_6, aL_7, aL_8, io_9, gI_9, pI_9, pZ_9, aL_10, io_11, gI_11, pI_11, pZ_11, aL_12, io_13, gI_13, pI_13, pZ_13, aL_14, io_15, gI_15, pI_15, pZ_15, aL_16, io_17, gI_17, pI_17, pZ_17, aL_18, aL_19, io_20, gI_20, pI_20, pZ_20, aL_21, io_22, gI_22, pI_22, pZ_22, aL_23, io_24, gI_24, pI_24, pZ_24, aL_25, io_26, gI_26, pI_26, pZ_26, io_27, gI_27, pI_27, pZ_27, aL_28, aL_29, aL_30, aL_31, aL_32, aL_33, io_34, gI_34, pI_34, pZ_34, aL_35, io_36, gI_36, pI_36, pZ_36, aL_37, io_38, gI_38, pI_38, pZ_38, aL_39, io_40, gI_40, pI_40, pZ_40, aL_41, io_42, gI_42, pI_42, pZ_42, aL_43, aL_44, aL_45, aL_46, aL_47, aL_48, aL_49, aL_50, aL_51, aL_52, aL_53, aL_54, aL_55, aL_56, aL_57, aL_58, gq_0_0, gq_0_1, gq_0_2, gq_0_3, gq_0_4, gq_0_5, gq_0_6, gq_0_7, gq_1_0, gq_1_1, gq_1_2, gq_1_3, gq_1_4, gq_1_5, gq_1_6, gq_1_7, gq_1_8, gq_1_9, gq_2_2, gq_4_2, gq_6_2, gq_9_2, gq_11_2, gq_13_2, gq_15_2, gq_17_0, gq_20_0, gq_22_0, gq_24_0, gq_27_0, gq_34_0, gq_36_0, gq_38_0, gq_40_0, gq_42_0, gq_42_1, gq_42_3, gq_42_4, gq_42_11, gq_42_12, gq_42_13, gq_42_15, gq_42_16, gq_42_17, gq_42_18, gq_42_19, gq_42_23, gq_42_24, gq_42_25, gq_42_26, aQ_29_0, aQ_29_1, aQ_29_2, aQ_29_3, aQ_19_0, aQ_19_1, aQ_19_2, aQ_46_0, aQ_46_1, aQ_46_2, gq_26, gr_26, gr_0_8, pQ_26, Option.bind_some, ↓reduceIte, and_self]
theorem fails_2 : f_X7_fails (mkS m kp b) 0 (-1000002) = some (-1000002, mkS (st1 m 30 2 (m 30 2 + 1)) kp b) := by
  unfold f_X7_fails
  have e : (-1000000 : Int32) - (-1000002) = 2 := by decide
  have e2 : (1 : Int32) ≤ 2 ∧ (2 : Int32) ≤ 6 := by decide
  have e3 : inB 2 7 = true := by decide
  simp only [e, outside_eq, e2, e3, clamp_2, aI_30, sI_30, aI_45, sI_45, io_0, gI_0, pI_0, pZ_0, io_1, gI_1, pI_1, pZ_1, io_2, gI_2, pI_2, pZ_2, aL_3, io_4, gI_4, pI_4, pZ_4, aL_5, io_6, gI_6, pI_6, pZ_6, aL_7, aL_8, io_9, gI_9, pI_9, pZ_9, aL_10, io_11, gI_11, pI_11, pZ_11, aL_12, io_13, gI_13, pI_13, pZ_13, aL_14, io_15, gI_15, pI_15, pZ_15, aL_16, io_17, gI_17, pI_17, pZ_17, aL_18, aL_19, io_20, gI_20, pI_20, pZ_20, aL_21, io_22, gI_22, pI_22, pZ_22, aL_23, io_24, gI_24, pI_24, pZ_24, aL_25, io_26, gI_26, pI_26, pZ_26, io_27, gI_27, pI_27, pZ_27, aL_28, aL_29, aL_30, aL_31, aL_32, aL_33, io_34, gI_34, pI_34, pZ_34, aL_35, io_36, gI_36, pI_36, pZ_36, aL_37, io_38, gI_38, pI_38, pZ_38, aL_39, io_40, gI_40, pI_40, pZ_40, aL_41, io_42, gI_42, pI_42, pZ_42, aL_43, aL_44, aL_45, aL_46, aL_47, aL_48, aL_49, aL_50, aL_51, aL_52, aL_53, aL_54, aL_55, aL_56, aL_57, aL_58, gq_0_0, gq_0_1, gq_0_2, gq_0_3, gq_0_4, gq_0_5, gq_0_6, gq_0_7, gq_1_0, gq_1_1, gq_1_2, gq_1_3, gq_1_4, gq_1_5, gq_1_6, gq_1_7, gq_1_8, gq_1_9, gq_2_2, gq_4_2, gq_6_2, gq_9_2, gq_11_2, gq_13_2, gq_15_2, gq_17_0, gq_20_0, gq_22_0, gq_24_0, gq_27_0, gq_34_0, gq_36_0, gq_38_0, gq_40_0, gq_42_0, gq_42_1, gq_42_3, gq_42_4, gq_42_11, gq_42_12, gq_42_13, gq_42_15, gq_42_16, gq_42_17, gq_42_18, gq_42_19, gq_42_23, gq_42_24, gq_42_25, gq_42_26, aQ_29_0, aQ_29_1, aQ_29_2, aQ_29_3, aQ_19_0, aQ_19_1, aQ_19_2, aQ_46_0, aQ_46_1, aQ_46_2, gq_26, gr_26, gr_0_8, pQ_26, Option.bind_some, ↓reduceIte, and_self]
theorem fails_3 : f_X7_fails (mkS m kp b) 0 (-1000003) = some (-1000003, mkS (st1 m 30 3 (m 30 3 + 1)) kp b) := by
  unfold f_X7_fails
  have e : (-1000000 : Int32) - (-1000003) = 3 := by decide
  have e2 : (1 : Int32) ≤ 3 ∧ (3 : Int32) ≤ 6 := by decide
  have e3 : inB 3 7 = true := by decide
  simp only [e, outside_eq, e2, e3, clamp_3, aI_30, sI_30, aI_45, sI_45, io_0, gI_0, pI_0, pZ_0, io_1, gI_1, pI_1, pZ_1, io_2, gI_2, pI_2, pZ_2, aL_3, io_4, gI_4, pI_4, pZ_4, aL_5, io_6, gI_6, pI_6, pZ_6, aL_7, aL_8, io_9, gI_9, pI_9, pZ_9, aL_10, io_11, gI_11, pI_11, pZ_11, aL_12, io_13, gI_13, pI_13, pZ_13, aL_14, io_15, gI_15, pI_15, pZ_15, aL_16, io_17, gI_17, pI_17, pZ_17, aL_18, aL_19, io_20, gI_20, pI_20, pZ_20, aL_21, io_22, gI_22, pI_22, pZ_22, aL_23, io_24, gI_24, pI_24, pZ_24, aL_25, io_26, gI_26, pI_26, pZ_26, io_27, gI_27, pI_27, pZ_27, aL_28, aL_29, aL_30, aL_31, aL_32, aL_33, io_34, gI_34, pI_34, pZ_34, aL_35, io_36, gI_36, pI_36, pZ_36, aL_37, io_38, gI_38, pI_38, pZ_38, aL_39, io_40, gI_40, pI_40, pZ_40, aL_41, io_42, gI_42, pI_42, pZ_42, aL_43, aL_44, aL_45, aL_46, aL_47, aL_48, aL_49, aL_50, aL_51, aL_52, aL_53, aL_54, aL_55, aL_56, aL_57, aL_58, gq_0_0, gq_0_1, gq_0_2, gq_0_3, gq_0_4, gq_0_5, gq_0_6, gq_0_7, gq_1_0, gq_1_1, gq_1_2, gq_1_3, gq_1_4, gq_1_5, gq_1_6, gq_1_7, gq_1_8, gq_1_9, gq_2_2, gq_4_2, gq_6_2, gq_9_2, gq_11_2, gq_13_2, gq_15_2, gq_17_0, gq_20_0, gq_22_0, gq_24_0, gq_27_0, gq_34_0, gq_36_0, gq_38_0, gq_40_0, gq_42_0, gq_42_1, gq_42_3, gq_42_4, gq_42_11, gq_42_12, gq_42_13, gq_42_15, gq_42_16, gq_42_17, gq_42_18, gq_42_19, gq_42_23, gq_42_24, gq_42_25, gq_42_26, aQ_29_0, aQ_29_1, aQ_29_2, aQ_29_3, aQ_19_0, aQ_19_1, aQ_19_2, aQ_46_0, aQ_46_1, aQ_46_2, gq_26, gr_26, gr_0_8, pQ_26, Option.bind_some, ↓reduceIte, and_self]
theorem fails_4 : f_X7_fails (mkS m kp b) 0 (-1000004) = some (-1000004, mkS (st1 m 30 4 (m 30 4 + 1)) kp b) := by
  unfold f_X7_fails
  have e : (-1000000 : Int32) - (-1000004) = 4 := by decide
  have e2 : (1 : Int32) ≤ 4 ∧ (4 : Int32) ≤ 6 := by decide
  have e3 : inB 4 7 = true := by decide
  simp only [e, outside_eq, e2, e3, clamp_4, aI_30, sI_30, aI_45, sI_45, io_0, gI_0, pI_0, pZ_0, io_1, gI_1, pI_1, pZ_1, io_2, gI_2, pI_2, pZ_2, aL_3, io_4, gI_4, pI_4, pZ_4, aL_5, io_6, gI_6, pI_6, pZ_6, aL_7, aL_8, io_9, gI_9, pI_9, pZ_9, aL_10, io_11, gI_11, pI_11, pZ_11, aL_12, io_13, gI_13, pI_13, pZ_13, aL_14, io_15, gI_15, pI_15, pZ_15, aL_16, io_17, gI_17, pI_17, pZ_17, aL_18, aL_19, io_20, gI_20, pI_20, pZ_20, aL_21, io_22, gI_22, pI_22, pZ_22, aL_23, io_24, gI_24, pI_24, pZ_24, aL_25, io_26, gI_26, pI_26, pZ_26, io_27, gI_27, pI_27, pZ_27, aL_28, aL_29, aL_30, aL_31, aL_32, aL_33, io_34, gI_34, pI_34, pZ_34, aL_35, io_36, gI_36, pI_36, pZ_36, aL_37, io_38, gI_38, pI_38, pZ_38, aL_39, io_40, gI_40, pI_40, pZ_40, aL_41, io_42, gI_42, pI_42, pZ_42, aL_43, aL_44, aL_45, aL_46, aL_47, aL_48, aL_49, aL_50, aL_51, aL_52, aL_53, aL_54, aL_55, aL_56, aL_57, aL_58, gq_0_0, gq_0_1, gq_0_2, gq_0_3, gq_0_4, gq_0_5, gq_0_6, gq_0_7, gq_1_0, gq_1_1, gq_1_2, gq_1_3, gq_1_4, gq_1_5, gq_1_6, gq_1_7, gq_1_8, gq_1_9, gq_2_2, gq_4_2, gq_6_2, gq_9_2, gq_11_2, gq_13_2, gq_15_2, gq_17_0, gq_20_0, gq_22_0, gq_24_0, gq_27_0, gq_34_0, gq_36_0, gq_38_0, gq_40_0, gq_42_0, gq_42_1, gq_42_3, gq_42_4, gq_42_11, gq_42_12, gq_42_13, gq_42_15, gq_42_16, gq_42_17, gq_42_18, gq_42_19, gq_42_23, gq_42_24, gq_42_25, gq_42_26, aQ_29_0, aQ_29_1, aQ_29_2, aQ_29_3, aQ_19_0, aQ_19_1, aQ_19_2, aQ_46_0, aQ_46_1, aQ_46_2, gq_26, gr_26, gr_0_8, pQ_26, Option.bind_some, ↓reduceIte, and_self]
theorem fails_5 : f_X7_fails (mkS m kp b) 0 (-1000005) = some (-1000005, mkS (st1 m 30 5 (m 30 5 + 1)) kp b) := by
  unfold f_X7_fails
  have e : (-1000000 : Int32) - (-1000005) = 5 := by decide
  have e2 : (1 : Int32) ≤ 5 ∧ (5 : Int32) ≤ 6 := by decide
  have e3 : inB 5 7 = true := by decide
  simp only [e, outside_eq, e2, e3, clamp_5, aI_30, sI_30, aI_45, sI_45, io_0, gI_0, pI_0, pZ_0, io_1, gI_1, pI_1, pZ_1, io_2, gI_2, pI_2, pZ_2, aL_3, io_4, gI_4, pI_4, pZ_4, aL_5, io_6, gI_6, pI_6, pZ_6, aL_7, aL_8, io_9, gI_9, pI_9, pZ_9, aL_10, io_11, gI_11, pI_11, pZ_11, aL_12, io_13, gI_13, pI_13, pZ_13, aL_14, io_15, gI_15, pI_15, pZ_15, aL_16, io_17, gI_17, pI_17, pZ_17, aL_18, aL_19, io_20, gI_20, pI_20, pZ_20, aL_21, io_22, gI_22, pI_22, pZ_22, aL_23, io_24, gI_24, pI_24, pZ_24, aL_25, io_26, gI_26, pI_26, pZ_26, io_27, gI_27, pI_27, pZ_27, aL_28, aL_29, aL_30, aL_31, aL_32, aL_33, io_34, gI_34, pI_34, pZ_34, aL_35, io_36, gI_36, pI_36, pZ_36, aL_37, io_38, gI_38, pI_38, pZ_38, aL_39, io_40, gI_40, pI_40, pZ_40, aL_41, io_42, gI_42, pI_42, pZ_42, aL_43, aL_44, aL_45, aL_46, aL_47, aL_48, aL_49, aL_50, aL_51, aL_52, aL_53, aL_54, aL_55, aL_56, aL_57, aL_58, gq_0_0, gq_0_1, gq_0_2, gq_0_3, gq_0_4, gq_0_5, gq_0_6, gq_0_7, gq_1_0, gq_1_1, gq_1_2, gq_1_3, gq_1_4, gq_1_5, gq_1_6, gq_1_7, gq_1_8, gq_1_9, gq_2_2, gq_4_2, gq_6_2, gq_9_2, gq_11_2, gq_13_2, gq_15_2, gq_17_0, gq_20_0, gq_22_0, gq_24_0, gq_27_0, gq_34_0, gq_36_0, gq_38_0, gq_40_0, gq_42_0, gq_42_1, gq_42_3, gq_42_4, gq_42_11, gq_42_12, gq_42_13, gq_42_15, gq_42_16, gq_42_17, gq_42_18, gq_42_19, gq_42_23, gq_42_24, gq_42_25, gq_42_26, aQ_29_0, aQ_29_1, aQ_29_2, aQ_29_3, aQ_19_0, aQ_19_1, aQ_19_2, aQ_46_0, aQ_46_1, aQ_46_2, gq_26, gr_26, gr_0_8, pQ_26, Option.bind_some, ↓reduceIte, and_self]
theorem fails_6 : f_X7_fails (mkS m kp b) 0 (-1000006) = some (-1000006, mkS (st1 m 30 6 (m 30 6 + 1)) kp b) := by
  unfold f_X7_fails
  have e : (-1000000 : Int32) - (-1000006) = 6 := by decide
  have e2 : (1 : Int32) ≤ 6 ∧ (6 : Int32) ≤ 6 := by decide
  have e3 : inB 6 7 = true := by decide
  simp only [e, outside_eq, e2, e3, clamp_6, aI_30, sI_30, aI_45, sI_45, io_0, gI_0, pI_0, pZ_0, io_1, gI_1, pI_1, pZ_1, io_2, gI_2, pI_2, pZ_2, aL_3, io_4, gI_4, pI_4, pZ_4, aL_5, io_6, gI_6, pI_6, pZ_6, aL_7, aL_8, io_9, gI_9, pI_9, pZ_9, aL_10, io_11, gI_11, pI_11, pZ_11, aL_12, io_13, gI_13, pI_13, pZ_13, aL_14, io_15, gI_15, pI_15, pZ_15, aL_16, io_17, gI_17, pI_17, pZ_17, aL_18, aL_19, io_20, gI_20, pI_20, pZ_20, aL_21, io_22, gI_22, pI_22, pZ_22, aL_23, io_24, gI_24, pI_24, pZ_24, aL_25, io_26, gI_26, pI_26, pZ_26, io_27, gI_27, pI_27, pZ_27, aL_28, aL_29, aL_30, aL_31, aL_32, aL_33, io_34, gI_34, pI_34, pZ_34, aL_35, io_36, gI_36, pI_36, pZ_36, aL_37, io_38, gI_38, pI_38, pZ_38, aL_39, io_40, gI_40, pI_40, pZ_40, aL_41, io_42, gI_42, pI_42, pZ_42, aL_43, aL_44, aL_45, aL_46, aL_47, aL_48, aL_49, aL_50, aL_51, aL_52, aL_53, aL_54, aL_55, aL_56, aL_57, aL_58, gq_0_0, gq_0_1, gq_0_2, gq_0_3, gq_0_4, gq_0_5, gq_0_6, gq_0_7, gq_1_0, gq_1_1, gq_1_2, gq_1_3, gq_1_4, gq_1_5, gq_1_6, gq_1_7, gq_1_8, gq_1_9, gq_2_2, gq_4_2, gq_6_2, gq_9_2, gq_11_2, gq_13_2, gq_15_2, gq_17_0, gq_20_0, gq_22_0, gq_24_0, gq_27_0, gq_34_0, gq_36_0, gq_38_0, gq_40_0, gq_42_0, gq_42_1, gq_42_3, gq_42_4, gq_42_11, gq_42_12, gq_42_13, gq_42_15, gq_42_16, gq_42_17, gq_42_18, gq_42_19, gq_42_23, gq_42_24, gq_42_25, gq_42_26, aQ_29_0, aQ_29_1, aQ_29_2, aQ_29_3, aQ_19_0, aQ_19_1, aQ_19_2, aQ_46_0, aQ_46_1, aQ_46_2, gq_26, gr_26, gr_0_8, pQ_26, Option.bind_some, ↓reduceIte, and_self]
theorem finds_1 : f_X8_finding (mkS m kp b) 42 (-1000001) = some (-1000001, mkS (st1 m 45 1 (m 45 1 + 1)) kp b) := by
  unfold f_X8_finding
  have e : (-1000000 : Int32) - (-1000001) = 1 := by decide
  have e3 : inB 1 7 = true := by decide
  simp only [e, e3, clamp_1, aI_30, sI_30, aI_45, sI_45, io_0, gI_0, pI_0, pZ_0, io_1, gI_1, pI_1, pZ_1, io_2, gI_2, pI_2, pZ_2, aL_3, io_4, gI_4, pI_4, pZ_4, aL_5, io_6, gI_6, pI_6, pZ_6, aL_7, aL_8, io_9, gI_9, pI_9, pZ_9, aL_10, io_11, gI_11, pI_11, pZ_11, aL_12, io_13, gI_13, pI_13, pZ_13, aL_14, io_15, gI_15, pI_15, pZ_15, aL_16, io_17, gI_17, pI_17, pZ_17, aL_18, aL_19, io_20, gI_20, pI_20, pZ_20, aL_21, io_22, gI_22, pI_22, pZ_22, aL_23, io_24, gI_24, pI_24, pZ_24, aL_25, io_26, gI_26, pI_26, pZ_26, io_27, gI_27, pI_27, pZ_27, aL_28, aL_29, aL_30, aL_31, aL_32, aL_33, io_34, gI_34, pI_34, pZ_34, aL_35, io_36, gI_36, pI_36, pZ_36, aL_37, io_38, gI_38, pI_38, pZ_38, aL_39, io_40, gI_40, pI_40, pZ_40, aL_41, io_42, gI_42, pI_42, pZ_42, aL_43, aL_44, aL_45, aL_46, aL_47, aL_48, aL_49, aL_50, aL_51, aL_52, aL_53, aL_54, aL_55, aL_56, aL_57, aL_58, gq_0_0, gq_0_1, gq_0_2, gq_0_3, gq_0_4, gq_0_5, gq_0_6, gq_0_7, gq_1_0, gq_1_1, gq_1_2, gq_1_3, gq_1_4, gq_1_5, gq_1_6, gq_1_7, gq_1_8, gq_1_9, gq_2_2, gq_4_2, gq_6_2, gq_9_2, gq_11_2, gq_13_2, gq_15_2, gq_17_0, gq_20_0, gq_22_0, gq_24_0, gq_27_0, gq_34_0, gq_36_0, gq_38_0, gq_40_0, gq_42_0, gq_42_1, gq_42_3, gq_42_4, gq_42_11, gq_42_12, gq_42_13, gq_42_15, gq_42_16, gq_42_17, gq_42_18, gq_42_19, gq_42_23, gq_42_24, gq_42_25, gq_42_26, aQ_29_0, aQ_29_1, aQ_29_2, aQ_29_3, aQ_19_0, aQ_19_1, aQ_19_2, aQ_46_0, aQ_46_1, aQ_46_2, gq_26, gr_26, gr_0_8, pQ_26, Option.bind_some, ↓reduceIte]
theorem finds_2 : f_X8_finding (mkS m kp b) 42 (-1000002) = some (-1000002, mkS (st1 m 45 2 (m 45 2 + 1)) kp b) := by
  unfold f_X8_finding
  have e : (-1000000 : Int32) - (-1000002) = 2 := by decide
  have e3 : inB 2 7 = true := by decide
  simp only [e, e3, clamp_2, aI_30, sI_30, aI_45, sI_45, io_0, gI_0, pI_0, pZ_0, io_1, gI_1, pI_1, pZ_1, io_2, gI_2, pI_2, pZ_2, aL_3, io_4, gI_4, pI_4, pZ_4, aL_5, io_6, gI_6, pI_6, pZ_6, aL_7, aL_8, io_9, gI_9, pI_9, pZ_9, aL_10, io_11, gI_11, pI_11, pZ_11, aL_12, io_13, gI_13, pI_13, pZ_13, aL_14, io_15, gI_15, pI_15, pZ_15, aL_16, io_17, gI_17, pI_17, pZ_17, aL_18, aL_19, io_20, gI_20, pI_20, pZ_20, aL_21, io_22, gI_22, pI_22, pZ_22, aL_23, io_24, gI_24, pI_24, pZ_24, aL_25, io_26, gI_26, pI_26, pZ_26, io_27, gI_27, pI_27, pZ_27, aL_28, aL_29, aL_30, aL_31, aL_32, aL_33, io_34, gI_34, pI_34, pZ_34, aL_35, io_36, gI_36, pI_36, pZ_36, aL_37, io_38, gI_38, pI_38, pZ_38, aL_39, io_40, gI_40, pI_40, pZ_40, aL_41, io_42, gI_42, pI_42, pZ_42, aL_43, aL_44, aL_45, aL_46, aL_47, aL_48, aL_49, aL_50, aL_51, aL_52, aL_53, aL_54, aL_55, aL_56, aL_57, aL_58, gq_0_0, gq_0_1, gq_0_2, gq_0_3, gq_0_4, gq_0_5, gq_0_6, gq_0_7, gq_1_0, gq_1_1, gq_1_2, gq_1_3, gq_1_4, gq_1_5, gq_1_6, gq_1_7, gq_1_8, gq_1_9, gq_2_2, gq_4_2, gq_6_2, gq_9_2, gq_11_2, gq_13_2, gq_15_2, gq_17_0, gq_20_0, gq_22_0, gq_24_0, gq_27_0, gq_34_0, gq_36_0, gq_38_0, gq_40_0, gq_42_0, gq_42_1, gq_42_3, gq_42_4, gq_42_11, gq_42_12, gq_42_13, gq_42_15, gq_42_16, gq_42_17, gq_42_18, gq_42_19, gq_42_23, gq_42_24, gq_42_25, gq_42_26, aQ_29_0, aQ_29_1, aQ_29_2, aQ_29_3, aQ_19_0, aQ_19_1, aQ_19_2, aQ_46_0, aQ_46_1, aQ_46_2, gq_26, gr_26, gr_0_8, pQ_26, Option.bind_some, ↓reduceIte]
theorem finds_3 : f_X8_finding (mkS m kp b) 42 (-1000003) = some (-1000003, mkS (st1 m 45 3 (m 45 3 + 1)) kp b) := by
  unfold f_X8_finding
  have e : (-1000000 : Int32) - (-1000003) = 3 := by decide
  have e3 : inB 3 7 = true := by decide
  simp only [e, e3, clamp_3, aI_30, sI_30, aI_45, sI_45, io_0, gI_0, pI_0, pZ_0, io_1, gI_1, pI_1, pZ_1, io_2, gI_2, pI_2, pZ_2, aL_3, io_4, gI_4, pI_4, pZ_4, aL_5, io_6, gI_6, pI_6, pZ_6, aL_7, aL_8, io_9, gI_9, pI_9, pZ_9, aL_10, io_11, gI_11, pI_11, pZ_11, aL_12, io_13, gI_13, pI_13, pZ_13, aL_14, io_15, gI_15, pI_15, pZ_15, aL_16, io_17, gI_17, pI_17, pZ_17, aL_18, aL_19, io_20, gI_20, pI_20, pZ_20, aL_21, io_22, gI_22, pI_22, pZ_22, aL_23, io_24, gI_24, pI_24, pZ_24, aL_25, io_26, gI_26, pI_26, pZ_26, io_27, gI_27, pI_27, pZ_27, aL_28, aL_29, aL_30, aL_31, aL_32, aL_33, io_34, gI_34, pI_34, pZ_34, aL_35, io_36, gI_36, pI_36, pZ_36, aL_37, io_38, gI_38, pI_38, pZ_38, aL_39, io_40, gI_40, pI_40, pZ_40, aL_41, io_42, gI_42, pI_42, pZ_42, aL_43, aL_44, aL_45, aL_46, aL_47, aL_48, aL_49, aL_50, aL_51, aL_52, aL_53, aL_54, aL_55, aL_56, aL_57, aL_58, gq_0_0, gq_0_1, gq_0_2, gq_0_3, gq_0_4, gq_0_5, gq_0_6, gq_0_7, gq_1_0, gq_1_1, gq_1_2, gq_1_3, gq_1_4, gq_1_5, gq_1_6, gq_1_7, gq_1_8, gq_1_9, gq_2_2, gq_4_2, gq_6_2, gq_9_2, gq_11_2, gq_13_2, gq_15_2, gq_17_0, gq_20_0, gq_22_0, gq_24_0, gq_27_0, gq_34_0, gq_36_0, gq_38_0, gq_40_0, gq_42_0, gq_42_1, gq_42_3, gq_42_4, gq_42_11, gq_42_12, gq_42_13, gq_42_15, gq_42_16, gq_42_17, gq_42_18, gq_42_19, gq_42_23, gq_42_24, gq_42_25, gq_42_26, aQ_29_0, aQ_29_1, aQ_29_2, aQ_29_3, aQ_19_0, aQ_19_1, aQ_19_2, aQ_46_0, aQ_46_1, aQ_46_2, gq_26, gr_26, gr_0_8, pQ_26, Option.bind_some, ↓reduceIte]
theorem finds_4 : f_X8_finding (mkS m kp b) 42 (-1000004) = some (-1000004, mkS (st1 m 45 4 (m 45 4 + 1)) kp b) := by
  unfold f_X8_finding
  have e : (-1000000 : Int32) - (-1000004) = 4 := by decide
  have e3 : inB 4 7 = true := by decide
  simp only [e, e3, clamp_4, aI_30, sI_30, aI_45, sI_45, io_0, gI_0, pI_0, pZ_0, io_1, gI_1, pI_1, pZ_1, io_2, gI_2, pI_2, pZ_2, aL_3, io_4, gI_4, pI_4, pZ_4, aL_5, io_6, gI_6, pI_6, pZ_6, aL_7, aL_8, io_9, gI_9, pI_9, pZ_9, aL_10, io_11, gI_11, pI_11, pZ_11, aL_12, io_13, gI_13, pI_13, pZ_13, aL_14, io_15, gI_15, pI_15, pZ_15, aL_16, io_17, gI_17, pI_17, pZ_17, aL_18, aL_19, io_20, gI_20, pI_20, pZ_20, aL_21, io_22, gI_22, pI_22, pZ_22, aL_23, io_24, gI_24, pI_24, pZ_24, aL_25, io_26, gI_26, pI_26, pZ_26, io_27, gI_27, pI_27, pZ_27, aL_28, aL_29, aL_30, aL_31, aL_32, aL_33, io_34, gI_34, pI_34, pZ_34, aL_35, io_36, gI_36, pI_36, pZ_36, aL_37, io_38, gI_38, pI_38, pZ_38, aL_39, io_40, gI_40, pI_40, pZ_40, aL_41, io_42, gI_42, pI_42, pZ_42, aL_43, aL_44, aL_45, aL_46, aL_47, aL_48, aL_49, aL_50, aL_51, aL_52, aL_53, aL_54, aL_55, aL_56, aL_57, aL_58, gq_0_0, gq_0_1, gq_0_2, gq_0_3, gq_0_4, gq_0_5, gq_0_6, gq_0_7, gq_1_0, gq_1_1, gq_1_2, gq_1_3, gq_1_4, gq_1_5, gq_1_6, gq_1_7, gq_1_8, gq_1_9, gq_2_2, gq_4_2, gq_6_2, gq_9_2, gq_11_2, gq_13_2, gq_15_2, gq_17_0, gq_20_0, gq_22_0, gq_24_0, gq_27_0, gq_34_0, gq_36_0, gq_38_0, gq_40_0, gq_42_0, gq_42_1, gq_42_3, gq_42_4, gq_42_11, gq_42_12, gq_42_13, gq_42_15, gq_42_16, gq_42_17, gq_42_18, gq_42_19, gq_42_23, gq_42_24, gq_42_25, gq_42_26, aQ_29_0, aQ_29_1, aQ_29_2, aQ_29_3, aQ_19_0, aQ_19_1, aQ_19_2, aQ_46_0, aQ_46_1, aQ_46_2, gq_26, gr_26, gr_0_8, pQ_26, Option.bind_some, ↓reduceIte]
theorem finds_5 : f_X8_finding (mkS m kp b) 42 (-1000005) = some (-1000005, mkS (st1 m 45 5 (m 45 5 + 1)) kp b) := by
  unfold f_X8_finding
  have e : (-1000000 : Int32) - (-1000005) = 5 := by decide
  have e3 : inB 5 7 = true := by decide
  simp only [e, e3, clamp_5, aI_30, sI_30, aI_45, sI_45, io_0, gI_0, pI_0, pZ_0, io_1, gI_1, pI_1, pZ_1, io_2, gI_2, pI_2, pZ_2, aL_3, io_4, gI_4, pI_4, pZ_4, aL_5, io_6, gI_6, pI_6, pZ_6, aL_7, aL_8, io_9, gI_9, pI_9, pZ_9, aL_10, io_11, gI_11, pI_11, pZ_11, aL_12, io_13, gI_13, pI_13, pZ_13, aL_14, io_15, gI_15, pI_15, pZ_15, aL_16, io_17, gI_17, pI_17, pZ_17, aL_18, aL_19, io_20, gI_20, pI_20, pZ_20, aL_21, io_22, gI_22, pI_22, pZ_22, aL_23, io_24, gI_24, pI_24, pZ_24, aL_25, io_26, gI_26, pI_26, pZ_26, io_27, gI_27, pI_27, pZ_27, aL_28, aL_29, aL_30, aL_31, aL_32, aL_33, io_34, gI_34, pI_34, pZ_34, aL_35, io_36, gI_36, pI_36, pZ_36, aL_37, io_38, gI_38, pI_38, pZ_38, aL_39, io_40, gI_40, pI_40, pZ_40, aL_41, io_42, gI_42, pI_42, pZ_42, aL_43, aL_44, aL_45, aL_46, aL_47, aL_48, aL_49, aL_50, aL_51, aL_52, aL_53, aL_54, aL_55, aL_56, aL_57, aL_58, gq_0_0, gq_0_1, gq_0_2, gq_0_3, gq_0_4, gq_0_5, gq_0_6, gq_0_7, gq_1_0, gq_1_1, gq_1_2, gq_1_3, gq_1_4, gq_1_5, gq_1_6, gq_1_7, gq_1_8, gq_1_9, gq_2_2, gq_4_2, gq_6_2, gq_9_2, gq_11_2, gq_13_2, gq_15_2, gq_17_0, gq_20_0, gq_22_0, gq_24_0, gq_27_0, gq_34_0, gq_36_0, gq_38_0, gq_40_0, gq_42_0, gq_42_1, gq_42_3, gq_42_4, gq_42_11, gq_42_12, gq_42_13, gq_42_15, gq_42_16, gq_42_17, gq_42_18, gq_42_19, gq_42_23, gq_42_24, gq_42_25, gq_42_26, aQ_29_0, aQ_29_1, aQ_29_2, aQ_29_3, aQ_19_0, aQ_19_1, aQ_19_2, aQ_46_0, aQ_46_1, aQ_46_2, gq_26, gr_26, gr_0_8, pQ_26, Option.bind_some, ↓reduceIte]
theorem finds_6 : f_X8_finding (mkS m kp b) 42 (-1000006) = some (-1000006, mkS (st1 m 45 6 (m 45 6 + 1)) kp b) := by
  unfold f_X8_finding
  have e : (-1000000 : Int32) - (-1000006) = 6 := by decide
  have e3 : inB 6 7 = true := by decide
  simp only [e, e3, clamp_6, aI_30, sI_30, aI_45, sI_45, io_0, gI_0, pI_0, pZ_0, io_1, gI_1, pI_1, pZ_1, io_2, gI_2, pI_2, pZ_2, aL_3, io_4, gI_4, pI_4, pZ_4, aL_5, io_6, gI_6, pI_6, pZ_6, aL_7, aL_8, io_9, gI_9, pI_9, pZ_9, aL_10, io_11, gI_11, pI_11, pZ_11, aL_12, io_13, gI_13, pI_13, pZ_13, aL_14, io_15, gI_15, pI_15, pZ_15, aL_16, io_17, gI_17, pI_17, pZ_17, aL_18, aL_19, io_20, gI_20, pI_20, pZ_20, aL_21, io_22, gI_22, pI_22, pZ_22, aL_23, io_24, gI_24, pI_24, pZ_24, aL_25, io_26, gI_26, pI_26, pZ_26, io_27, gI_27, pI_27, pZ_27, aL_28, aL_29, aL_30, aL_31, aL_32, aL_33, io_34, gI_34, pI_34, pZ_34, aL_35, io_36, gI_36, pI_36, pZ_36, aL_37, io_38, gI_38, pI_38, pZ_38, aL_39, io_40, gI_40, pI_40, pZ_40, aL_41, io_42, gI_42, pI_42, pZ_42, aL_43, aL_44, aL_45, aL_46, aL_47, aL_48, aL_49, aL_50, aL_51, aL_52, aL_53, aL_54, aL_55, aL_56, aL_57, aL_58, gq_0_0, gq_0_1, gq_0_2, gq_0_3, gq_0_4, gq_0_5, gq_0_6, gq_0_7, gq_1_0, gq_1_1, gq_1_2, gq_1_3, gq_1_4, gq_1_5, gq_1_6, gq_1_7, gq_1_8, gq_1_9, gq_2_2, gq_4_2, gq_6_2, gq_9_2, gq_11_2, gq_13_2, gq_15_2, gq_17_0, gq_20_0, gq_22_0, gq_24_0, gq_27_0, gq_34_0, gq_36_0, gq_38_0, gq_40_0, gq_42_0, gq_42_1, gq_42_3, gq_42_4, gq_42_11, gq_42_12, gq_42_13, gq_42_15, gq_42_16, gq_42_17, gq_42_18, gq_42_19, gq_42_23, gq_42_24, gq_42_25, gq_42_26, aQ_29_0, aQ_29_1, aQ_29_2, aQ_29_3, aQ_19_0, aQ_19_1, aQ_19_2, aQ_46_0, aQ_46_1, aQ_46_2, gq_26, gr_26, gr_0_8, pQ_26, Option.bind_some, ↓reduceIte]
end BS
