section IL
variable {m : Nat → Nat → Int32} {b : Option Nat}
theorem ov_self {τ : St} {m : Nat → Nat → Int32} {r : Nat → Nat → Option Nat} (e : τ = ov m r τ) {N k : Nat} (hn : τ.2.2 = N) (h : k < 59 ∨ N ≤ k) : τ.2.1 k = r k := by
  have e2 : τ.2.1 k = (ov m r τ).2.1 k := congrArg (fun s : St => s.2.1 k) e
  have e3 : (ov m r τ).2.1 k = r k := if_pos (by rw [hn]; exact h)
  exact e2.trans e3
theorem ov_ini {τ t1 : St} {M : Nat → Nat → Int32} {R : Nat → Nat → Option Nat} (h8 : τ = (M, R, 59)) (e : INI τ = some t1) (hI : INI (M, R, 59) = some (ov M R t1)) : t1 = ov M R t1 := by
  rw [← h8, e] at hI
  exact Option.some.inj hI
theorem tau1_ov : tau1 = ov M0 RF0 tau1 := ov_ini sv8_mk tau1_eq INI_mk
theorem tau1_lo {k : Nat} (h : k < 59 ∨ 84 ≤ k) : tau1.2.1 k = RF0 k := ov_self tau1_ov tau1_n h
theorem rf_gen {R0 R1 T F0 F1 : Nat → Nat → Option Nat} {τ1 : Nat → Nat → Int32} {N : Nat} (hN : 59 ≤ N) (hF0 : ∀ k f, F0 k f = if k = 26 ∧ f = 0 then b else R0 k f) (hF1 : ∀ k f, F1 k f = if k = 26 ∧ f = 0 then b else R1 k f) (hlo : ∀ k, k < 59 ∨ N ≤ k → T k = R0 k) (h1 : R1 = upR T 0 (up1 (T 0) 8 (some 59))) : upR (ov m F0 (τ1, T, N)).2.1 0 (up1 ((ov m F0 (τ1, T, N)).2.1 0) 8 (some 59)) = F1 := by
  funext k f
  rw [hF1 k f]
  subst h1
  unfold ov upR up1
  dsimp only
  by_cases h0 : k = 0
  · subst h0
    have e0 := hlo 0 (Or.inl (by decide))
    by_cases h8 : f = 8 <;> simp [h8, e0, hF0]
  · by_cases hk : k < 59 ∨ N ≤ k
    · simp [h0, hk, hlo k hk, hF0]
    · have h26 : ¬ k = 26 := fun e => hk (Or.inl (by omega))
      simp [h0, hk, h26]
theorem rfF_f {k f : Nat} : rfF false b k f = if k = 26 ∧ f = 0 then b else RF0 k f := by
  unfold rfF
  rw [if_neg (show ¬ (false = true) by decide)]
theorem rfF_t {k f : Nat} : rfF true b k f = if k = 26 ∧ f = 0 then b else RF1 k f := by
  unfold rfF
  rw [if_pos (show true = true from rfl)]
theorem made_gen {τ1 : Nat → Nat → Int32} {T : Nat → Nat → Option Nat} (ho : isO (τ1, T, 84) 6 0 = true) (hlo : ∀ k, k < 59 ∨ 84 ≤ k → T k = RF0 k) (h1 : RF1 = upR T 0 (up1 (T 0) 8 (some 59))) : pQ (ov m (rfF false b) (τ1, T, 84)) 6 0 8 59 = some (mkS (fun k => if k < 59 ∨ 84 ≤ k then m k else τ1 k) true b) := by
  have e := rf_gen (m := m) (b := b) (τ1 := τ1) (N := 84) (by decide) (fun k f => rfF_f (b := b) (k := k) (f := f)) (fun k f => rfF_t (b := b) (k := k) (f := f)) hlo h1
  unfold pQ
  rw [if_pos (show isO (ov m (rfF false b) (τ1, T, 84)) 6 0 = true from ho), e]
  rfl
theorem made_of {τ : St} (hn : τ.2.2 = 84) (ho : isO τ 6 0 = true) (hlo : ∀ k, k < 59 ∨ 84 ≤ k → τ.2.1 k = RF0 k) (h1 : RF1 = upR τ.2.1 0 (up1 (τ.2.1 0) 8 (some 59))) : pQ (ov m (rfF false b) τ) 6 0 8 59 = some (mkS (fun k => if k < 59 ∨ 84 ≤ k then m k else τ.1 k) true b) := by
  obtain ⟨t1, t2, t3⟩ := τ
  have hn' : t3 = 84 := hn
  subst hn'
  exact made_gen ho hlo h1
def iniM (m : Nat → Nat → Int32) : Nat → Nat → Int32 := fun k => if k < 59 ∨ 84 ≤ k then m k else tau1.1 k
theorem made : pQ (ov m (rfF false b) tau1) 6 0 8 59 = some (mkS (iniM m) true b) := made_of tau1_n tau1_o (fun _ h => tau1_lo h) RF1_eq
theorem iniM_lo {k : Nat} (h : k < 59) : iniM m k = m k := if_pos (Or.inl h)
theorem iniM_hi {k : Nat} (h : 59 ≤ k) (h2 : k < 84) : iniM m k = tau1.1 k := if_neg (by omega)
end IL
