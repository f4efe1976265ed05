section ND
variable {m : Nat → Nat → Int32} {kp : Bool} {b : Option Nat} {z : Nat}
/-- class and reference after a new curve with points g -/
def cN (m : Nat → Nat → Int32) (n : Nat) (k p u x s : Int32) (X : Nat) (g : Nat → Int32) : Nat → Nat → Int32 := wrow (cA m n k p u x s) 8 (n * 24) X g
def mN (m : Nat → Nat → Int32) (n : Nat) (k p u x s : Int32) (X : Nat) (g : Nat → Int32) : Nat → Nat → Int32 := wrow (mA m n k p u x s) 43 (87 + 29 * n) X g
theorem RR_new {c : Nat → Nat} {k p u X : Nat} {s : Int32} {g : Nat → Int32} (hR : RR m kp z) (hS : RS m 1 43 c) (hn : c 1 < 24) (hk : k < 8) (hp : p < c 0) (hu : u < 4) (h3 : 3 ≤ X) (h24 : X ≤ 24) (hg : ∀ j, j < X → -99999 ≤ g j ∧ g j ≤ 99999) : RR (mN (cN m (c 1) (nI k) (nI p) (nI u) (nI X) s X g) (c 1) (nI k) (nI p) (nI u) (nI X) s X g) kp (z + 1) := by
  obtain ⟨w1, w2, w3, w4, w5, w6, w6b, w7⟩ := id hS.2.2.2.1
  obtain ⟨M, eM⟩ : ∃ q, q = mN (cN m (c 1) (nI k) (nI p) (nI u) (nI X) s X g) (c 1) (nI k) (nI p) (nI u) (nI X) s X g := ⟨_, rfl⟩
  rw [← eM]
  have hc : ∀ q, q ≠ 6 → q ≠ 7 → q ≠ 8 → q ≠ 43 → M q = m q := fun q q1 q2 q3 q4 => by
    rw [eM]; unfold mN cN; rw [wrow_ne q4, mA_ne q4, wrow_ne q3, cA_ne q1 q2]
  have h43 : ∀ i, M 43 i = if 87 + 29 * c 1 ≤ i ∧ i < 87 + 29 * c 1 + X then g (i - (87 + 29 * c 1)) else if i = 1 then nI (c 1 + 1) else if 82 + 29 * c 1 ≤ i ∧ i < 87 + 29 * c 1 then rowF (nI k) (nI p) (nI u) (nI X) s (i - (82 + 29 * c 1)) else m 43 i := fun i => by
    rw [eM]; unfold mN cN; rw [wrow_at, mA_43, wrow_ne (by decide), cA_ne (by decide) (by decide)]
  have h8 : ∀ i, M 8 i = if c 1 * 24 ≤ i ∧ i < c 1 * 24 + X then g (i - c 1 * 24) else m 8 i := fun i => by
    rw [eM]; unfold mN cN; rw [wrow_ne (by decide), mA_ne (by decide), wrow_at, cA_ne (by decide) (by decide)]
  have h7 : ∀ q f, f < 5 → M 7 (q * 5 + f) = if q = c 1 then rowF (nI k) (nI p) (nI u) (nI X) s f else m 7 (q * 5 + f) := fun q f hf => by
    rw [eM]; unfold mN cN; rw [wrow_ne (by decide), mA_ne (by decide), wrow_ne (by decide), cA_7 hf]
  have h6 : ∀ j, j ≠ 3 → M 6 j = m 6 j := fun j hj => by
    rw [eM]; unfold mN cN; rw [wrow_ne (by decide), mA_ne (by decide), wrow_ne (by decide), cA_6 hj]
  have h63 : M 6 3 = nI (c 1 + 1) := by
    rw [eM]; unfold mN cN; rw [wrow_ne (by decide), mA_ne (by decide), wrow_ne (by decide), cA_63]
  have hrow : ∀ f, f < 5 → M 43 (82 + 29 * c 1 + f) = rowF (nI k) (nI p) (nI u) (nI X) s f := fun f hf => by
    rw [h43, if_neg (by omega), if_neg (by omega), if_pos (by omega), show 82 + 29 * c 1 + f - (82 + 29 * c 1) = f by omega]
  have hold : ∀ q f, q ≠ c 1 → f < 5 → M 43 (82 + 29 * q + f) = m 43 (82 + 29 * q + f) := fun q f hq hf => by
    rw [h43, if_neg (by omega), if_neg (by omega), if_neg (by omega)]
  clear eM
  refine RR_Cur hR hS hc (fun i hi => by rw [h43, if_neg (by omega), if_neg (by omega), if_neg (by omega)]) (c 1 + 1) ⟨?_, ?_, h63, ?_, by omega, fun q f hq hf => ?_, fun q j hq hj => ?_, fun q hq => ?_⟩ (Nat.le_succ _)
  · show M 6 0 = _
    rw [h6 0 (by decide)]; exact w1
  · show M 6 1 = _
    rw [h6 1 (by decide)]; exact w2
  · rw [h43, if_neg (by omega), if_pos rfl]
  · show M 7 _ = _
    rw [h7 q f hf]
    by_cases hqn : q = c 1
    · rw [if_pos hqn, hqn, hrow f hf]
    · rw [if_neg hqn, hold q f hqn hf]
      exact w6 q f hq hf
  · show M 8 _ = _ ∧ _
    by_cases hqn : q = c 1 ∧ j < X
    · have e1 : M 43 (87 + 29 * q + j) = g j := by rw [h43, if_pos (by omega)]; congr 1; omega
      have e2 : M 8 (q * 24 + j) = g j := by rw [h8, if_pos (by omega)]; congr 1; omega
      rw [e1, e2]
      exact ⟨rfl, hg j hqn.2⟩
    · have e1 : M 43 (87 + 29 * q + j) = m 43 (87 + 29 * q + j) := by rw [h43, if_neg (by omega), if_neg (by omega), if_neg (by omega)]
      have e2 : M 8 (q * 24 + j) = m 8 (q * 24 + j) := by rw [h8, if_neg (by omega)]
      rw [e1, e2]
      exact w6b q j hq hj
  · by_cases hqn : q = c 1
    · subst hqn
      have r0 := hrow 0 (by decide)
      have r1 := hrow 1 (by decide)
      have r2 := hrow 2 (by decide)
      have r3 := hrow 3 (by decide)
      rw [Nat.add_zero] at r0
      exact ⟨⟨k, hk, r0⟩, ⟨p, hp, r1⟩, ⟨u, hu, r2⟩, ⟨X, h3, h24, r3⟩⟩
    · have r0 := hold q 0 hqn (by decide)
      rw [Nat.add_zero] at r0
      have := w7 q (by omega)
      rw [r0, hold q 1 hqn (by decide), hold q 2 hqn (by decide), hold q 3 hqn (by decide)]
      exact this
/-- a loop that writes a row: class -/
theorem rowC {L : Nat → Nat → (Nat → Nat → Int32) → Option (Int32 × St)} {X n : Nat} {g : Nat → Int32} {kp : Bool} {b : Option Nat} {m0 : Nat → Nat → Int32} {cell base : Nat}
    (hs : ∀ f i, i < X → L (f + 1) i (wrow m0 cell base i g) = L f (i + 1) (st1 (wrow m0 cell base i g) cell (base + i) (g i)))
    (he : ∀ f, L (f + 1) X (wrow m0 cell base X g) = some (nI X, mkS (wrow m0 cell base X g) kp b)) (hX : X ≤ 24) : L 3000 0 m0 = some (nI X, mkS (wrow m0 cell base X g) kp b) := by
  have key : ∀ k i f, i + k = X → k < f → L f i (wrow m0 cell base i g) = some (nI X, mkS (wrow m0 cell base X g) kp b) := by
    intro k
    induction k with
    | zero =>
      intro i f h1 h2
      obtain ⟨f, rfl⟩ : ∃ q, f = q + 1 := ⟨f - 1, by omega⟩
      have : i = X := by omega
      subst this
      exact he f
    | succ k ih =>
      intro i f h1 h2
      obtain ⟨f, rfl⟩ : ∃ q, f = q + 1 := ⟨f - 1, by omega⟩
      rw [hs f i (by omega), wrow_s]
      exact ih (i + 1) f (by omega) (by omega)
  have := key X 0 3000 (by omega) (by omega)
  rw [wrow_0] at this
  exact this
end ND
