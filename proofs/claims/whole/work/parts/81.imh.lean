section IK
variable {m : Nat → Nat → Int32} {b : Option Nat} {σ : St}
theorem svi_eq : f_X7_image sv8 0 = some ((f_X7_image sv8 0).getD (0, σ00)) := getD_some (by decide +kernel)
theorem RF1_eq : RF1 = upR tau1.2.1 0 (up1 (tau1.2.1 0) 8 (some 59)) := by
  have h := svi_eq
  have e8 : gR sv8 6 0 8 = some none := by decide +kernel
  have eT : (nwO sv8 3).bind (fun s5 => f_X4_init s5 sv8.2.2) = some tau1 := tau1_eq
  rw [f_X7_image, if_pos (by decide +kernel), e8, Option.bind_some, if_pos rfl, ← Option.bind_assoc, eT, Option.bind_some] at h
  obtain ⟨s9, h9, h⟩ := Option.bind_eq_some_iff.mp h
  obtain ⟨q1, -, h⟩ := Option.bind_eq_some_iff.mp h
  obtain ⟨q2, -, h⟩ := Option.bind_eq_some_iff.mp h
  obtain ⟨s16, h16, h⟩ := Option.bind_eq_some_iff.mp h
  obtain ⟨v1, -, h⟩ := Option.bind_eq_some_iff.mp h
  obtain ⟨s20, h20, h⟩ := Option.bind_eq_some_iff.mp h
  obtain ⟨v2, -, h⟩ := Option.bind_eq_some_iff.mp h
  have e16 : s16.2 = s9.2 := c4_kp rfl s16 h16
  have e20 : s20.2 = s9.2 := pI_kp e16 s20 h20
  have es : s20 = svi := congrArg Prod.snd (Option.some.inj h)
  unfold pQ at h9
  rw [if_pos (by decide +kernel)] at h9
  have e9 : s9.2.1 = upR tau1.2.1 0 (up1 (tau1.2.1 0) 8 (some sv8.2.2)) := by
    rw [← Option.some.inj h9]
  unfold RF1
  rw [← es, e20, e9, sv8_n]
theorem tau1_ov : tau1 = ov M0 RF0 tau1 := by
  have h := INI_mk (m := M0) (r := RF0)
  rw [← sv8_mk, tau1_eq] at h
  exact Option.some.inj h
theorem tau1_lo {k : Nat} (h : k < 59 ∨ 84 ≤ k) : tau1.2.1 k = RF0 k := by
  have e := congrArg (fun σ : St => σ.2.1 k) tau1_ov
  dsimp only at e
  rw [e]
  exact if_pos (by rw [tau1_n]; exact h)
def iniM (m : Nat → Nat → Int32) : Nat → Nat → Int32 := fun k => if k < 59 ∨ 84 ≤ k then m k else tau1.1 k
theorem made : pQ (ov m (rfF false b) tau1) 6 0 8 59 = some (mkS (iniM m) true b) := by
  unfold pQ
  rw [if_pos (by rw [isO_ov]; decide +kernel)]
  congr 1
  unfold mkS ov
  dsimp only
  rw [tau1_n]
  congr 1
  congr 1
  funext k f
  unfold rfF
  rw [RF1_eq]
  unfold upR up1
  by_cases h0 : k = 0
  · subst h0
    simp only [if_true]
    by_cases h8 : f = 8
    · simp [h8]
    · simp [h8, tau1_lo (k := 0) (Or.inl (by omega))]
  · simp only [if_neg h0]
    by_cases hk : k < 59 ∨ 84 ≤ k
    · simp [hk, tau1_lo hk]
    · simp only [if_neg hk]
      rw [if_neg (by omega)]
      simp
end IK
