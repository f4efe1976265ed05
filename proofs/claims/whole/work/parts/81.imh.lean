section IK
variable {m : Nat → Nat → Int32} {b : Option Nat} {σ : St}
theorem svi_eq : f_X7_image sv8 0 = some ((f_X7_image sv8 0).getD (0, σ00)) := getD_some (by decide +kernel)
theorem img_rf {τ t1 : St} {p : Int32 × St} (hn : τ.2.2 = 59) (e0 : isO τ 6 0 = true) (e8 : gR τ 6 0 8 = some none) (eT : INI τ = some t1) (e1 : isO t1 6 0 = true) (h : f_X7_image τ 0 = some p) : p.2.2.1 = upR t1.2.1 0 (up1 (t1.2.1 0) 8 (some 59)) := by
  have eT' : (nwO τ 3).bind (fun s5 => f_X4_init s5 τ.2.2) = some t1 := eT
  rw [f_X7_image, if_pos e0, e8, Option.bind_some, if_pos rfl, ← Option.bind_assoc, eT', Option.bind_some] at h
  obtain ⟨s9, h9, h⟩ := Option.bind_eq_some_iff.mp h
  obtain ⟨q1, -, h⟩ := Option.bind_eq_some_iff.mp h
  obtain ⟨q2, -, h⟩ := Option.bind_eq_some_iff.mp h
  obtain ⟨s16, h16, h⟩ := Option.bind_eq_some_iff.mp h
  obtain ⟨v1, -, h⟩ := Option.bind_eq_some_iff.mp h
  obtain ⟨s20, h20, h⟩ := Option.bind_eq_some_iff.mp h
  obtain ⟨v2, -, h⟩ := Option.bind_eq_some_iff.mp h
  have e16 : s16.2 = s9.2 := c4_kp rfl s16 h16
  have e20 : s20.2 = s9.2 := pI_kp e16 s20 h20
  have es : (v2, s20) = p := Option.some.inj h
  unfold pQ at h9
  rw [if_pos e1, hn] at h9
  have e9 : s9 = (t1.1, upR t1.2.1 0 (up1 (t1.2.1 0) 8 (some 59)), t1.2.2) := (Option.some.inj h9).symm
  rw [← es]
  show s20.2.1 = _
  rw [e20, e9]
theorem sv8_o : isO sv8 6 0 = true := by decide +kernel
theorem sv8_r : gR sv8 6 0 8 = some none := by decide +kernel
theorem tau1_o : isO tau1 6 0 = true := by decide +kernel
theorem RF1_eq : RF1 = upR tau1.2.1 0 (up1 (tau1.2.1 0) 8 (some 59)) := by
  have h := img_rf sv8_n sv8_o sv8_r tau1_eq tau1_o svi_eq
  unfold RF1 svi
  exact h
end IK
