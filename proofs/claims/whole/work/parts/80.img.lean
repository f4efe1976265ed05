/-! copies move no reference; the State made anew stands where it stood in the concrete run -/
def Kp (σ : St) (o : Option St) : Prop := ∀ s, o = some s → s.2 = σ.2
section IM
variable {m : Nat → Nat → Int32} {b : Option Nat} {σ : St}
theorem Kp.bind {o : Option St} {f : St → Option St} (h : Kp σ o) (hf : ∀ s, s.2 = σ.2 → Kp σ (f s)) : Kp σ (o.bind f) := by
  intro s hs
  obtain ⟨a, ha, hfa⟩ := Option.bind_eq_some_iff.mp hs
  exact hf a (h a ha) s hfa
theorem Kp.val {α : Type} {o : Option α} {f : α → Option St} (hf : ∀ a, Kp σ (f a)) : Kp σ (o.bind f) := by
  intro s hs
  obtain ⟨a, ha, hfa⟩ := Option.bind_eq_some_iff.mp hs
  exact hf a s hfa
theorem Kp.none : Kp σ none := fun s hs => by cases hs
theorem Kp.ite {c : Prop} [Decidable c] {o p : Option St} (h1 : Kp σ o) (h2 : Kp σ p) : Kp σ (if c then o else p) := by
  by_cases h : c
  · rw [if_pos h]; exact h1
  · rw [if_neg h]; exact h2
theorem Kp.some {s : St} (h : s.2 = σ.2) : Kp σ (some s) := fun t ht => by cases ht; exact h
theorem Kp.to {s : St} {o : Option St} (h : Kp s o) (e : s.2 = σ.2) : Kp σ o := fun t ht => (h t ht).trans e
theorem pI_kp {s : St} {c k f : Nat} {v : Int32} (e : s.2 = σ.2) : Kp σ (pI s c k f v) := by
  unfold pI
  exact Kp.ite (Kp.some e) Kp.none
theorem cp_kp {s : St} {t k k2 : Nat} {sp dp n : Int32} (e : s.2 = σ.2) : Kp σ (cp s t k sp k2 dp n) := by
  unfold cp
  exact Kp.val fun _ => Kp.val fun _ => Kp.ite (Kp.some e) Kp.none
theorem c5_kp {s : St} {t a : Nat} (e : s.2 = σ.2) : Kp σ (f_X5_copyFrom s t a) := by
  unfold f_X5_copyFrom
  exact Kp.ite (Kp.val fun _ => Kp.val fun _ => Kp.val fun _ => Kp.val fun _ => Kp.val fun _ => Kp.val fun _ => Kp.val fun _ => (cp_kp e).bind fun s1 e1 => Kp.val fun _ => (pI_kp e1).bind fun s2 e2 => Kp.some e2) Kp.none
theorem c1_kp {s : St} {t a : Nat} (e : s.2 = σ.2) : Kp σ (f_X1_copyFrom s t a) := by
  unfold f_X1_copyFrom
  exact Kp.ite (Kp.val fun _ => Kp.val fun _ => (cp_kp e).bind fun s1 e1 => Kp.val fun _ => (pI_kp e1).bind fun s2 e2 => Kp.some e2) Kp.none
theorem l108_kp {t a : Nat} : ∀ n x s p, s.2 = σ.2 → f_X4_copyFrom_L108 t a n x s = some p → p.2.2 = σ.2 := by
  intro n
  induction n with
  | zero => intro x s p _ h; cases h
  | succ n ih =>
    intro x s p e h
    rw [f_X4_copyFrom_L108] at h
    obtain ⟨q, -, h⟩ := Option.bind_eq_some_iff.mp h
    obtain ⟨v, -, h⟩ := Option.bind_eq_some_iff.mp h
    by_cases hv : v ≤ x
    · rw [if_pos hv] at h; cases h; exact e
    · rw [if_neg hv] at h
      obtain ⟨q1, -, h⟩ := Option.bind_eq_some_iff.mp h
      obtain ⟨q2, -, h⟩ := Option.bind_eq_some_iff.mp h
      obtain ⟨q3, -, h⟩ := Option.bind_eq_some_iff.mp h
      obtain ⟨q4, -, h⟩ := Option.bind_eq_some_iff.mp h
      obtain ⟨s', hs', h⟩ := Option.bind_eq_some_iff.mp h
      exact ih _ s' p (c1_kp e s' hs') h
theorem c4_kp {s : St} {t a : Nat} (e : s.2 = σ.2) : Kp σ (f_X4_copyFrom s t a) := by
  unfold f_X4_copyFrom
  refine Kp.ite (Kp.val fun _ => Kp.val fun _ => (c5_kp e).bind fun s1 e1 => Kp.val fun _ => Kp.val fun _ => (c5_kp e1).bind fun s2 e2 => Kp.val fun _ => Kp.val fun _ => (c5_kp e2).bind fun s3 e3 => Kp.val fun _ => Kp.val fun _ => Kp.val fun _ => Kp.val fun _ => (cp_kp e3).bind fun s4 e4 => Kp.val fun _ => Kp.val fun _ => (c5_kp e4).bind fun s5 e5 => Kp.val fun _ => Kp.val fun _ => (c5_kp e5).bind fun s6 e6 => Kp.val fun _ => Kp.val fun _ => (c5_kp e6).bind fun s7 e7 => Kp.val fun _ => Kp.val fun _ => (c5_kp e7).bind fun s8 e8 => Kp.val fun _ => Kp.val fun _ => (c1_kp e8).bind fun s9 e9 => ?_) Kp.none
  intro s10 h
  obtain ⟨p, hp, h⟩ := Option.bind_eq_some_iff.mp h
  have ep := l108_kp _ _ _ _ e9 hp
  obtain ⟨v, -, h⟩ := Option.bind_eq_some_iff.mp h
  obtain ⟨s11, h11, h⟩ := Option.bind_eq_some_iff.mp h
  cases h
  exact pI_kp ep _ h11
theorem sv8_mk : sv8 = (M0, RF0, 59) := by
  show (sv8.1, sv8.2.1, sv8.2.2) = _
  rw [sv8_n]
  rfl
def tau1 : St := (INI sv8).getD σ00
theorem tau1_eq : INI sv8 = some tau1 := getD_some (by decide +kernel)
theorem tau1_n : tau1.2.2 = 84 := by decide +kernel
theorem WH8 : WH sv8 := by
  refine ⟨by rw [sv8_n]; exact Nat.le_refl 59, fun k f q h1 h2 _ => ?_⟩
  rw [sv8_n] at h2
  omega
theorem ov_8 {r : Nat → Nat → Option Nat} : ov m r sv8 = (m, r, 59) := by
  unfold ov
  rw [sv8_n]
  congr 1
  · funext k; exact if_pos (by omega)
  · congr 1
    funext k
    exact if_pos (by omega)
theorem INI_mk {r : Nat → Nat → Option Nat} : INI (m, r, 59) = some (ov m r tau1) := by
  have h : RT m r sv8 (m, r, 59) := ⟨WH8, ov_8.symm⟩
  obtain ⟨c, hc, hR⟩ := INI_rl h tau1 tau1_eq
  rw [hc, hR.2]
end IM
