/-! bendings: numbers -/
theorem PV_uq {u d : Nat} {s U A B : Int} {D : Nat} (hA : A ≠ 0) (hd : 1 ≤ d) (hD : 1 ≤ D) (hs : s.natAbs = u) (hg : Nat.gcd u d = 1) (hG : Nat.gcd U.natAbs D = 1) (h1 : (d : Int) * B = s * A) (h2 : (D : Int) * B = U * A) : d = D ∧ s = U := by
  have e1 : (d : Int) * U * A = (D : Int) * s * A := by
    rw [Int.mul_assoc, ← h2, Int.mul_assoc, ← h1, ← Int.mul_assoc, ← Int.mul_assoc, Int.mul_comm (d : Int)]
  have e2 : (d : Int) * U = (D : Int) * s := Int.eq_of_mul_eq_mul_right hA e1
  have e3 : d * U.natAbs = D * u := by
    have := congrArg Int.natAbs e2
    rw [Int.natAbs_mul, Int.natAbs_mul, hs, Int.natAbs_natCast, Int.natAbs_natCast] at this
    exact this
  have c1 : Nat.Coprime d u := (Nat.gcd_comm d u).trans hg
  have c2 : Nat.Coprime D U.natAbs := (Nat.gcd_comm D U.natAbs).trans hG
  have d1 : d ∣ D := c1.dvd_of_dvd_mul_right (e3 ▸ Nat.dvd_mul_right d U.natAbs)
  have d2 : D ∣ d := c2.dvd_of_dvd_mul_right (e3 ▸ Nat.dvd_mul_right D u)
  have e4 : d = D := Nat.dvd_antisymm d1 d2
  refine ⟨e4, ?_⟩
  rw [e4] at e2
  exact (Int.eq_of_mul_eq_mul_left (by omega) e2).symm
theorem mulB {x y : Int32} (h1 : -5 ≤ x.toInt) (h2 : x.toInt ≤ 5) (h3 : -200000 ≤ y.toInt) (h4 : y.toInt ≤ 200000) : (x * y).toInt = x.toInt * y.toInt := by
  rw [Int32.toInt_mul]
  generalize x.toInt = k at *
  generalize y.toInt = v at *
  have hk : k = -5 ∨ k = -4 ∨ k = -3 ∨ k = -2 ∨ k = -1 ∨ k = 0 ∨ k = 1 ∨ k = 2 ∨ k = 3 ∨ k = 4 ∨ k = 5 := by omega
  rcases hk with rfl | rfl | rfl | rfl | rfl | rfl | rfl | rfl | rfl | rfl | rfl <;> exact Int.bmod_eq_of_le (by omega) (by omega)
theorem subB {x y : Int32} (h1 : -99999 ≤ x.toInt) (h2 : x.toInt ≤ 99999) (h3 : -99999 ≤ y.toInt) (h4 : y.toInt ≤ 99999) : (x - y).toInt = x.toInt - y.toInt := by
  rw [Int32.toInt_sub]
  exact Int.bmod_eq_of_le (by omega) (by omega)
theorem absI {σ : St} {w : Int32} (h1 : -1000000 ≤ w.toInt) (h2 : w.toInt ≤ 1000000) : f_J9_abs_0f7a4 σ w = some (nI w.toInt.natAbs) := by
  unfold f_J9_abs_0f7a4
  congr 1
  apply Int32.toInt_inj.mp
  rw [nI_toInt (by omega)]
  by_cases h : 0 ≤ w
  · rw [if_pos h]
    rw [Int32.le_iff_toInt_le, Int32.toInt_zero] at h
    omega
  · rw [if_neg h]
    rw [Int32.le_iff_toInt_le, Int32.toInt_zero] at h
    rw [Int32.toInt_neg, Int.bmod_eq_of_le (by omega) (by omega)]
    omega
theorem eq0I {w : Int32} : (w = 0) ↔ w.toInt = 0 := by rw [← Int32.toInt_inj, Int32.toInt_zero]
/-- the first unlike point settles it -/
theorem stepI {a c : Int32} {A B : Int} (ea : a.toInt = A) (ec : c.toInt = B) (hA : A ≠ 0) (a1 : -200000 ≤ A) (a2 : A ≤ 200000) (b1 : -200000 ≤ B) (b2 : B ≤ 200000) (hB : B ≠ 0) : ∃ g x y : Nat, g = Nat.gcd A.natAbs B.natAbs ∧ 1 ≤ g ∧ g < 2 ^ 31 ∧ A.natAbs / g = x ∧ 1 ≤ x ∧ x ≤ 200000 ∧ 1 ≤ y ∧ y ≤ 200000 ∧ Nat.gcd y x = 1 ∧ (((if a ≤ 0 then (-c) else c : Int32) / nI g).toInt = y ∨ ((if a ≤ 0 then (-c) else c : Int32) / nI g).toInt = -(y : Int)) ∧ (x : Int) * B = ((if a ≤ 0 then (-c) else c : Int32) / nI g).toInt * A := by
  have hg : 0 < Nat.gcd A.natAbs B.natAbs := Nat.gcd_pos_of_pos_left _ (by omega)
  have hgA : Nat.gcd A.natAbs B.natAbs ≤ A.natAbs := Nat.gcd_le_left _ (by omega)
  have q1 := Nat.div_mul_cancel (Nat.gcd_dvd_left A.natAbs B.natAbs)
  have q2 := Nat.div_mul_cancel (Nat.gcd_dvd_right A.natAbs B.natAbs)
  have q3 := Nat.gcd_div_gcd_div_gcd_of_pos_left (n := A.natAbs) (m := B.natAbs) (by omega)
  obtain ⟨g, eg⟩ : ∃ g, g = Nat.gcd A.natAbs B.natAbs := ⟨_, rfl⟩
  rw [← eg] at hg hgA q1 q2 q3
  obtain ⟨x, ex⟩ : ∃ x, x = A.natAbs / g := ⟨_, rfl⟩
  obtain ⟨y, ey⟩ : ∃ y, y = B.natAbs / g := ⟨_, rfl⟩
  rw [← ex, ← ey] at q3
  rw [← ex] at q1
  rw [← ey] at q2
  have hx : 1 ≤ x := by
    rcases Nat.eq_zero_or_pos x with e | e
    · rw [e, Nat.zero_mul] at q1; omega
    · exact e
  have hy : 1 ≤ y := by
    rcases Nat.eq_zero_or_pos y with e | e
    · rw [e, Nat.zero_mul] at q2; omega
    · exact e
  have hx2 : x ≤ A.natAbs := by rw [ex]; exact Nat.div_le_self _ _
  have hy2 : y ≤ B.natAbs := by rw [ey]; exact Nat.div_le_self _ _
  have ea0 : (a ≤ 0) ↔ A ≤ 0 := by rw [Int32.le_iff_toInt_le, ea, Int32.toInt_zero]
  have ecn : (-c).toInt = -B := by rw [Int32.toInt_neg, ec]; exact Int.bmod_eq_of_le (by omega) (by omega)
  -- the stretched one: w = ± B
  have hw : ∃ w : Int32, w = (if a ≤ 0 then (-c) else c : Int32) ∧ ((A > 0 ∧ w.toInt = B) ∨ (A < 0 ∧ w.toInt = -B)) := by
    refine ⟨_, rfl, ?_⟩
    by_cases h : A ≤ 0
    · rw [if_pos (ea0.mpr h)]; exact Or.inr ⟨by omega, ecn⟩
    · rw [if_neg (fun q => h (ea0.mp q))]; exact Or.inl ⟨by omega, ec⟩
  obtain ⟨w, ew, hw⟩ := hw
  rw [← ew]
  have hP : ∀ w : Int32, w.toInt = (B.natAbs : Int) → (w / nI g).toInt = (y : Int) := fun w h => by
    have : w = nI B.natAbs := Int32.toInt_inj.mp (by rw [h, nI_toInt (by omega)])
    rw [this, dv (by omega) (by omega), nI_toInt (by omega), ey]
  have hN : ∀ w : Int32, w.toInt = -(B.natAbs : Int) → (w / nI g).toInt = -(y : Int) := fun w h => by
    rw [dvn h (by omega), ey]
  have hAa : (A.natAbs : Int) = (x : Int) * (g : Int) := by rw [← q1]; exact Int.natCast_mul _ _
  have hBb : (B.natAbs : Int) = (y : Int) * (g : Int) := by rw [← q2]; exact Int.natCast_mul _ _
  have hcomm : (x : Int) * ((y : Int) * (g : Int)) = (y : Int) * ((x : Int) * (g : Int)) := by rw [Int.mul_left_comm]
  refine ⟨g, x, y, eg, hg, by omega, ex.symm, hx, by omega, hy, by omega, (Nat.gcd_comm y x).trans q3, ?_, ?_⟩
  · rcases hw with ⟨_, h⟩ | ⟨_, h⟩
    · by_cases hb : B > 0
      · exact Or.inl (hP w (by omega))
      · exact Or.inr (hN w (by omega))
    · by_cases hb : B > 0
      · exact Or.inr (hN w (by omega))
      · exact Or.inl (hP w (by omega))
  · rcases hw with ⟨h0, h⟩ | ⟨h0, h⟩
    · by_cases hb : B > 0
      · rw [hP w (by omega), show A = (A.natAbs : Int) by omega, show B = (B.natAbs : Int) by omega]
        rw [hAa, hBb, hcomm]
      · rw [hN w (by omega), show A = (A.natAbs : Int) by omega, show B = -(B.natAbs : Int) by omega]
        rw [hAa, hBb, Int.mul_neg, Int.neg_mul, hcomm]
    · by_cases hb : B > 0
      · rw [hN w (by omega), show A = -(A.natAbs : Int) by omega, show B = (B.natAbs : Int) by omega]
        rw [hAa, hBb, Int.mul_neg, Int.neg_mul, Int.neg_neg, hcomm]
      · rw [hP w (by omega), show A = -(A.natAbs : Int) by omega, show B = -(B.natAbs : Int) by omega]
        rw [hAa, hBb, Int.mul_neg, Int.mul_neg, hcomm]
def PV (m : Nat → Nat → Int32) (c j : Nat) : Int := (m 43 (87 + 29 * c + j)).toInt
def ixB (bk i j : Nat) : Nat := if bk = 1 then i - j else i + j
def dA (m : Nat → Nat → Int32) (p bk i j : Nat) : Int := PV m p (ixB bk i j) - PV m p i
def dB (m : Nat → Nat → Int32) (q j : Nat) : Int := PV m q j - PV m q 0
def sgu (t u : Nat) : Int := if t = 1 then -(u : Int) else (u : Int)
def Val (f t u d : Nat) : Prop := t < 2 ∧ 1 ≤ u ∧ u ≤ f ∧ 1 ≤ d ∧ d ≤ f ∧ Nat.gcd u d = 1
def Fit (X Y bk i : Nat) : Prop := if bk = 1 then Y ≤ i + 1 else i + Y ≤ X
def BdE (m : Nat → Nat → Int32) (p q Y bk t u d i : Nat) : Prop := ∀ j, j < Y → (d : Int) * dB m q j = sgu t u * dA m p bk i j
def Bd (m : Nat → Nat → Int32) (p q X Y bk t u d i : Nat) : Prop := Fit X Y bk i ∧ BdE m p q Y bk t u d i ∧ ∃ j, j < Y ∧ dA m p bk i j ≠ 0
def codB (bk t u d i : Nat) : Nat := (((bk * 2 + t) * 6 + u) * 6 + d) * 24 + i
theorem sgu_abs (t u : Nat) : (sgu t u).natAbs = u := by
  unfold sgu
  by_cases h : t = 1
  · rw [if_pos h]; omega
  · rw [if_neg h]; omega
theorem Bd_uq {m : Nat → Nat → Int32} {p q X Y f bk t u d i t' u' d' : Nat} (h : Bd m p q X Y bk t u d i) (h' : Bd m p q X Y bk t' u' d' i) (v : Val f t u d) (v' : Val f t' u' d') : t = t' ∧ u = u' ∧ d = d' := by
  obtain ⟨-, e, j, hj, hA⟩ := h
  obtain ⟨-, e', -⟩ := h'
  obtain ⟨v1, v2, v3, v4, v5, v6⟩ := v
  obtain ⟨w1, w2, w3, w4, w5, w6⟩ := v'
  have hG : Nat.gcd (sgu t' u').natAbs d' = 1 := by rw [sgu_abs]; exact w6
  obtain ⟨a1, a2⟩ := PV_uq hA v4 w4 (sgu_abs t u) v6 hG (e j hj) (e' j hj)
  unfold sgu at a2
  refine ⟨?_, ?_, a1⟩
  · by_cases q1 : t = 1
    · by_cases q2 : t' = 1
      · omega
      · rw [if_pos q1, if_neg q2] at a2; omega
    · by_cases q2 : t' = 1
      · rw [if_neg q1, if_pos q2] at a2; omega
      · omega
  · by_cases q1 : t = 1
    · by_cases q2 : t' = 1
      · rw [if_pos q1, if_pos q2] at a2; omega
      · rw [if_pos q1, if_neg q2] at a2; omega
    · by_cases q2 : t' = 1
      · rw [if_neg q1, if_pos q2] at a2; omega
      · rw [if_neg q1, if_neg q2] at a2; omega
