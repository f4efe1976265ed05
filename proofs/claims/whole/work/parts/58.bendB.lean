section BB
variable {m : Nat → Nat → Int32} {kp : Bool} {b : Option Nat}
def PtH (m : Nat → Nat → Int32) : Prop := ∀ c j, c < 24 → j < 24 → m 8 (c * 24 + j) = m 43 (87 + 29 * c + j) ∧ -99999 ≤ m 43 (87 + 29 * c + j) ∧ m 43 (87 + 29 * c + j) ≤ 99999
theorem PV_b {c j : Nat} (h : PtH m) (hc : c < 24) (hj : j < 24) : -99999 ≤ PV m c j ∧ PV m c j ≤ 99999 := by
  have := (h c j hc hj).2
  rw [Int32.le_iff_toInt_le, Int32.le_iff_toInt_le, show (-99999 : Int32).toInt = -99999 by decide, show (99999 : Int32).toInt = 99999 by decide] at this
  exact this
def stI (m : Nat → Nat → Int32) (p q bk i f j D : Nat) (U : Int) : Prop := (D = 0 ∧ U = 0 ∧ ∀ k, k < j → dA m p bk i k = 0 ∧ dB m q k = 0) ∨ (1 ≤ D ∧ D ≤ f ∧ 1 ≤ U.natAbs ∧ U.natAbs ≤ f ∧ Nat.gcd U.natAbs D = 1 ∧ (∀ k, k < j → (D : Int) * dB m q k = U * dA m p bk i k) ∧ ∃ k, k < j ∧ dA m p bk i k ≠ 0)
theorem st_nob {p q Y bk i f j : Nat} (hj : j < Y) (h : ¬ (dA m p bk i j = 0 ↔ dB m q j = 0)) : ∀ t u d, Val f t u d → ¬ BdE m p q Y bk t u d i := by
  intro t u d v e
  obtain ⟨v1, v2, v3, v4, v5, v6⟩ := v
  have e1 := e j hj
  have hs : sgu t u ≠ 0 := fun q => by have := sgu_abs t u; rw [q] at this; simp at this; omega
  apply h
  constructor
  · intro q1
    rw [q1, Int.mul_zero] at e1
    rcases Int.mul_eq_zero.mp e1 with q2 | q2
    · omega
    · exact q2
  · intro q1
    rw [q1, Int.mul_zero] at e1
    rcases Int.mul_eq_zero.mp e1.symm with q2 | q2
    · exact absurd q2 hs
    · exact q2
theorem st57 {p q Y f bk i : Nat} {w : Int32} (h : PtH m) (hp : p < 24) (hq : q < 24) (hY : Y ≤ 24) (hf : f ≤ 5) (hi : i < 24) (hix : ∀ j, j < Y → ixB bk i j < 24 ∧ nI i + w * nI j = nI (ixB bk i j)) : ∀ k j n D U, j + k = Y → k < n → 1 ≤ j → stI m p q bk i f j D U.toInt → ∃ r, f_X0_startingAt_L57 (mkS m kp b) w (nI Y) 1 (nI p) (nI q) (nI f) (nI i) n (nI j) (nI D) U = some r ∧ ((r = .inl (-1) ∧ ∀ t u d, Val f t u d → ¬ BdE m p q Y bk t u d i) ∨ ∃ D' U', r = .inr (nI Y, nI D', U') ∧ stI m p q bk i f Y D' U'.toInt) := by
  intro k
  induction k with
  | zero =>
    intro j n D U h1 h2 h3 hI
    obtain ⟨n, rfl⟩ : ∃ q, n = q + 1 := ⟨n - 1, by omega⟩
    have e : j = Y := by omega
    subst e
    exact ⟨_, by rw [f_X0_startingAt_L57, if_pos (Int32.le_refl _)], Or.inr ⟨D, U, rfl, hI⟩⟩
  | succ k ih =>
    intro j n D U h1 h2 h3 hI
    obtain ⟨n, rfl⟩ : ∃ q, n = q + 1 := ⟨n - 1, by omega⟩
    obtain ⟨x1, x2⟩ := hix j (by omega)
    have z0 : f_X4_pointAt (mkS m kp b) 1 (nI q) 0 = some (m 8 (q * 24 + 0)) := cpt hq (j := 0) (by decide)
    rw [f_X0_startingAt_L57, if_neg (nI_ge (by omega) (by omega)), x2]
    rw [cpt hp x1, Option.bind_some, cpt hp hi, Option.bind_some, cpt hq (show j < 24 by omega), Option.bind_some, z0, Option.bind_some, (h p _ hp x1).1, (h p i hp hi).1, (h q j hq (by omega)).1, (h q 0 hq (by decide)).1]
    have P1 := PV_b h hp x1
    have P2 := PV_b h hp hi
    have P3 := PV_b h hq (show j < 24 by omega)
    have P4 := PV_b h hq (show 0 < 24 by decide)
    obtain ⟨a, ea⟩ : ∃ a, a = m 43 (87 + 29 * p + ixB bk i j) - m 43 (87 + 29 * p + i) := ⟨_, rfl⟩
    obtain ⟨c, ec⟩ : ∃ c, c = m 43 (87 + 29 * q + j) - m 43 (87 + 29 * q + 0) := ⟨_, rfl⟩
    have Ta : a.toInt = dA m p bk i j := by rw [ea]; exact subB P1.1 P1.2 P2.1 P2.2
    have Tc : c.toInt = dB m q j := by rw [ec]; exact subB P3.1 P3.2 P4.1 P4.2
    have Ba : -200000 ≤ dA m p bk i j ∧ dA m p bk i j ≤ 200000 := by unfold dA; omega
    have Bc : -200000 ≤ dB m q j ∧ dB m q j ≤ 200000 := by unfold dB; omega
    rw [← ea, ← ec]
    clear ea ec P1 P2 P3 P4 z0
    have a0I : a = 0 ↔ dA m p bk i j = 0 := by rw [eq0I, Ta]
    have c0I : c = 0 ↔ dB m q j = 0 := by rw [eq0I, Tc]
    -- what is asked of the factors found
    have blk : ∀ (D : Nat) (U : Int32), D ≤ f → U.toInt.natAbs ≤ f → ∀ rr : Option (Int32 ⊕ (Int32 × Int32 × Int32)), ((f_J9_abs_0f7a4 (mkS m kp b) U).bind fun v => if nI f < v then (some (.inl (-1))) else (if nI f < nI D then (some (.inl (-1))) else (if (nI D * c) = (U * a) then rr else (some (.inl (-1)))))) = if (D : Int) * dB m q j = U.toInt * dA m p bk i j then rr else some (.inl (-1)) := by
      intro D U hD hU rr
      rw [absI (by omega) (by omega), Option.bind_some, if_neg (nI_nlt hU (by omega)), if_neg (nI_nlt hD (by omega))]
      have e : (nI D * c = U * a) ↔ ((D : Int) * dB m q j = U.toInt * dA m p bk i j) := by
        rw [← Int32.toInt_inj, mulB (by rw [nI_toInt (by omega)]; omega) (by rw [nI_toInt (by omega)]; omega) (by omega) (by omega), mulB (by omega) (by omega) (by omega) (by omega), nI_toInt (by omega), Ta, Tc]
      by_cases q1 : nI D * c = U * a
      · rw [if_pos q1, if_pos (e.mp q1)]
      · rw [if_neg q1, if_neg (fun q => q1 (e.mpr q))]
    by_cases a0 : a = 0
    · have A0 := a0I.mp a0
      by_cases c0 : c = 0
      · have C0 := c0I.mp c0
        have hnext : stI m p q bk i f (j + 1) D U.toInt := by
          rcases hI with ⟨d0, u0, hz⟩ | ⟨g1, g2, g3, g4, g5, g6, k', g7, g8⟩
          · refine Or.inl ⟨d0, u0, fun k hk => ?_⟩
            by_cases e : k = j
            · subst e; exact ⟨A0, C0⟩
            · exact hz k (by omega)
          · refine Or.inr ⟨g1, g2, g3, g4, g5, fun k hk => ?_, k', by omega, g8⟩
            by_cases e : k = j
            · subst e; rw [A0, C0, Int.mul_zero, Int.mul_zero]
            · exact g6 k (by omega)
        have hD : D ≤ f := by rcases hI with ⟨d0, -⟩ | ⟨-, g2, -⟩ <;> omega
        have hU : U.toInt.natAbs ≤ f := by rcases hI with ⟨-, u0, -⟩ | ⟨-, -, -, g4, -⟩ <;> omega
        have hE : (D : Int) * dB m q j = U.toInt * dA m p bk i j := by rw [A0, C0, Int.mul_zero, Int.mul_zero]
        obtain ⟨r, hr, hres⟩ := ih (j + 1) n D U (by omega) (by omega) (by omega) hnext
        refine ⟨r, ?_, hres⟩
        rw [if_pos a0, if_pos c0, if_pos rfl, nI_a1]
        by_cases d0 : nI D = 0
        · rw [if_pos d0, if_pos a0, blk D U hD hU, if_pos hE]; exact hr
        · rw [if_neg d0, blk D U hD hU, if_pos hE]; exact hr
      · have C0 : ¬ dB m q j = 0 := fun q => c0 (c0I.mpr q)
        exact ⟨_, by rw [if_pos a0, if_neg c0, if_neg (show ¬ (1 : Int32) = 0 by decide)], Or.inl ⟨rfl, st_nob (by omega) (fun q => C0 (q.mp A0))⟩⟩
    · have A0 : ¬ dA m p bk i j = 0 := fun q => a0 (a0I.mpr q)
      by_cases c0 : c = 0
      · have C0 := c0I.mp c0
        exact ⟨_, by rw [if_neg a0, if_pos c0, if_neg (show ¬ (0 : Int32) = 1 by decide)], Or.inl ⟨rfl, st_nob (by omega) (fun q => A0 (q.mpr C0))⟩⟩
      · have C0 : ¬ dB m q j = 0 := fun q => c0 (c0I.mpr q)
        rw [if_neg a0, if_neg c0, if_pos rfl, nI_a1]
        rcases hI with ⟨d0, u0, hz⟩ | ⟨g1, g2, g3, g4, g5, g6, k', g7, g8⟩
        · subst d0
          rw [if_pos nI_0, if_neg a0]
          obtain ⟨g, x, y, eg, hg1, hg2, ex, hx1, hx2, hy1, hy2, hgc, hUy, hEq⟩ := stepI Ta Tc A0 Ba.1 Ba.2 Bc.1 Bc.2 C0
          obtain ⟨U', eU⟩ : ∃ U', U' = (if a ≤ 0 then (-c) else c : Int32) / nI g := ⟨_, rfl⟩
          rw [← eU] at hUy hEq
          have hUn : U'.toInt.natAbs = y := by omega
          have hd : f_X0_divisorOfBoth (mkS m kp b) (nI (dA m p bk i j).natAbs) (nI (dB m q j).natAbs) = some (nI g) := by
            rw [eg]; exact div7 (by omega) (by omega) (by omega)
          have hno : ∀ t u d, Val f t u d → BdE m p q Y bk t u d i → d = x ∧ sgu t u = U'.toInt := fun t u d v e =>
            PV_uq A0 v.2.2.2.1 hx1 (sgu_abs t u) v.2.2.2.2.2 (by rw [hUn]; exact hgc) (e j (by omega)) hEq
          have ha1 := absI (σ := mkS m kp b) (w := a) (by omega) (by omega)
          have hc1 := absI (σ := mkS m kp b) (w := c) (by omega) (by omega)
          rw [Ta] at ha1
          rw [Tc] at hc1
          rw [ha1, Option.bind_some, hc1, Option.bind_some, hd, Option.bind_some, nIe hg1 hg2, Option.bind_some, Option.bind_some, Option.bind_some, dv (show (dA m p bk i j).natAbs < 2 ^ 31 by omega) hg2, ex, ← eU]
          by_cases q1 : f < y
          · refine ⟨.inl (-1), ?_, Or.inl ⟨rfl, fun t u d v e => ?_⟩⟩
            · rw [absI (by omega) (by omega), Option.bind_some, hUn, if_pos (nI_lt q1 (by omega))]
            · have := (hno t u d v e).2
              have h5 := sgu_abs t u
              have h6 := v.2.2.1
              rw [this] at h5
              omega
          · by_cases q2 : f < x
            · refine ⟨.inl (-1), ?_, Or.inl ⟨rfl, fun t u d v e => ?_⟩⟩
              · rw [absI (by omega) (by omega), Option.bind_some, hUn, if_neg (nI_nlt (by omega) (by omega)), if_pos (nI_lt q2 (by omega))]
              · have := (hno t u d v e).1
                have h6 := v.2.2.2.2.1
                omega
            · have hnext : stI m p q bk i f (j + 1) x U'.toInt := by
                refine Or.inr ⟨hx1, by omega, by omega, by omega, by rw [hUn]; exact hgc, fun k hk => ?_, j, by omega, A0⟩
                by_cases e : k = j
                · subst e; exact hEq
                · obtain ⟨z1, z2⟩ := hz k (by omega)
                  rw [z1, z2, Int.mul_zero, Int.mul_zero]
              obtain ⟨r, hr, hres⟩ := ih (j + 1) n x U' (by omega) (by omega) (by omega) hnext
              refine ⟨r, ?_, hres⟩
              rw [blk x U' (by omega) (by omega), if_pos hEq]
              exact hr
        · rw [if_neg (nI_ne0 (by omega) (by omega)), blk D U g2 g4]
          by_cases hE : (D : Int) * dB m q j = U.toInt * dA m p bk i j
          · rw [if_pos hE]
            exact ih (j + 1) n D U (by omega) (by omega) (by omega) (Or.inr ⟨g1, g2, g3, g4, g5, fun k hk => by
              by_cases e : k = j
              · subst e; exact hE
              · exact g6 k (by omega), k', by omega, g8⟩)
          · refine ⟨.inl (-1), by rw [if_neg hE], Or.inl ⟨rfl, fun t u d v e => hE ?_⟩⟩
            obtain ⟨r1, r2⟩ := PV_uq g8 v.2.2.2.1 g1 (sgu_abs t u) v.2.2.2.2.2 g5 (e k' (by omega)) (g6 k' g7)
            have := e j (by omega)
            rw [r1, r2] at this
            exact this
/-- where a bending begins -/
theorem start7 {p q n X Y f bk i : Nat} (h : PtH m) (c1 : m 6 0 = nI 5) (c3 : m 6 3 = nI n) (hn : n ≤ 24) (hp : p < n) (hq : q < n) (eX : m 7 (p * 5 + 3) = nI X) (eY : m 7 (q * 5 + 3) = nI Y) (hX : X ≤ 24) (hY : Y ≤ 24) (hY3 : 3 ≤ Y) (hf : f ≤ 5) (hbk : bk < 2) (hi : i < X) : ∃ r, f_X0_startingAt (mkS m kp b) 1 (nI p) (nI q) (nI f) (nI bk) (nI i) = some r ∧ ((r = -1 ∧ ∀ t u d, Val f t u d → ¬ Bd m p q X Y bk t u d i) ∨ ∃ t u d, Val f t u d ∧ Bd m p q X Y bk t u d i ∧ r = nI (codB bk t u d i)) := by
  unfold f_X0_startingAt
  rw [csz c1 c3 hn hq, eY, Option.bind_some]
  -- the loop's answer told
  have fin : ∀ w : Int32, Fit X Y bk i → (∀ j, j < Y → ixB bk i j < 24 ∧ nI i + w * nI j = nI (ixB bk i j)) → ∃ r, ((f_X0_startingAt_L57 (mkS m kp b) w (nI Y) 1 (nI p) (nI q) (nI f) (nI i) 3000 1 0 0).bind fun p64 => Sum.elim (some) (fun p66 => (f_J9_abs_0f7a4 (mkS m kp b) p66.2.2).bind fun v68 => some (if p66.2.1 = 0 then (-1) else ((((((((nI bk * 2) + (if 0 ≤ p66.2.2 then 0 else 1 : Int32)) * 6) + v68) * 6) + p66.2.1) * 24) + nI i) : Int32)) p64) = some r ∧ ((r = -1 ∧ ∀ t u d, Val f t u d → ¬ Bd m p q X Y bk t u d i) ∨ ∃ t u d, Val f t u d ∧ Bd m p q X Y bk t u d i ∧ r = nI (codB bk t u d i)) := by
    intro w hF hix
    have ix0 : ixB bk i 0 = i := by unfold ixB; split <;> omega
    have I0 : stI m p q bk i f 1 0 (0 : Int32).toInt := Or.inl ⟨rfl, rfl, fun k hk => by
      have : k = 0 := by omega
      subst this
      unfold dA dB
      rw [ix0]
      exact ⟨Int.sub_self _, Int.sub_self _⟩⟩
    obtain ⟨r, hr, hres⟩ := st57 (kp := kp) (b := b) h (show p < 24 by omega) (show q < 24 by omega) hY hf (show i < 24 by omega) hix (Y - 1) 1 3000 0 0 (by omega) (by omega) (Nat.le_refl _) I0
    have hr' : f_X0_startingAt_L57 (mkS m kp b) w (nI Y) 1 (nI p) (nI q) (nI f) (nI i) 3000 1 0 0 = some r := hr
    rw [hr', Option.bind_some]
    rcases hres with ⟨rfl, hno⟩ | ⟨D, U, rfl, hI⟩
    · exact ⟨-1, rfl, Or.inl ⟨rfl, fun t u d v e => hno t u d v e.2.1⟩⟩
    · rcases hI with ⟨d0, u0, hz⟩ | ⟨g1, g2, g3, g4, g5, g6, g7⟩
      · refine ⟨-1, ?_, Or.inl ⟨rfl, fun t u d v e => ?_⟩⟩
        · rw [Sum.elim_inr]
          dsimp only
          rw [absI (by omega) (by omega), Option.bind_some, d0, if_pos nI_0]
        · obtain ⟨-, -, j, hj, hA⟩ := e
          exact hA (hz j hj).1
      · refine ⟨nI (codB bk (if U.toInt < 0 then 1 else 0) U.toInt.natAbs D i), ?_, Or.inr ⟨if U.toInt < 0 then 1 else 0, U.toInt.natAbs, D, ⟨by split <;> omega, g3, g4, g1, g2, g5⟩, ⟨hF, fun j hj => ?_, g7⟩, rfl⟩⟩
        · rw [Sum.elim_inr]
          dsimp only
          rw [absI (by omega) (by omega), Option.bind_some, if_neg (nI_ne0 g1 (by omega))]
          have e0 : (if 0 ≤ U then 0 else 1 : Int32) = nI (if U.toInt < 0 then 1 else 0) := by
            have : (0 ≤ U) ↔ ¬ U.toInt < 0 := by rw [Int32.le_iff_toInt_le, Int32.toInt_zero]; omega
            by_cases q1 : U.toInt < 0
            · rw [if_neg (fun q => this.mp q q1), if_pos q1]; rfl
            · rw [if_pos (this.mpr q1), if_neg q1]; rfl
          unfold codB
          rw [e0, show (2 : Int32) = nI 2 from rfl, show (6 : Int32) = nI 6 from rfl, show (24 : Int32) = nI 24 from rfl, pk_mul, nI_add, pk_mul, nI_add, pk_mul, nI_add, pk_mul, nI_add]
        · rw [g6 j hj]
          congr 1
          unfold sgu
          by_cases q1 : U.toInt < 0
          · rw [if_pos q1, if_pos rfl]; omega
          · rw [if_neg q1, if_neg (by decide)]; omega
  have hbk2 : (nI bk = 1) ↔ bk = 1 := nI_eq (b := 1) (by omega) (by decide)
  by_cases hb : bk = 1
  · rw [if_pos (hbk2.mpr hb), nI_a1]
    by_cases hY2 : Y ≤ i + 1
    · rw [if_pos (nI_le hY2 (by omega))]
      refine fin _ (by unfold Fit; rw [if_pos hb]; exact hY2) (fun j hj => ?_)
      unfold ixB
      rw [if_pos hb, if_pos (hbk2.mpr hb)]
      refine ⟨by omega, ?_⟩
      rw [← nI_sub (show j ≤ i by omega), Int32.sub_eq_add_neg, Int32.neg_mul, Int32.one_mul]
    · rw [if_neg (nI_ge (by omega) (by omega))]
      exact ⟨-1, rfl, Or.inl ⟨rfl, fun t u d v e => by have := e.1; unfold Fit at this; rw [if_pos hb] at this; omega⟩⟩
  · rw [if_neg (fun q => hb (hbk2.mp q)), csz c1 c3 hn hp, eX, Option.bind_some]
    by_cases hY2 : i + Y ≤ X
    · rw [nI_sub (by omega), if_pos (nI_le (by omega) (by omega))]
      refine fin _ (by unfold Fit; rw [if_neg hb]; exact hY2) (fun j hj => ?_)
      unfold ixB
      rw [if_neg hb, if_neg (fun q => hb (hbk2.mp q))]
      exact ⟨by omega, by rw [Int32.one_mul, nI_add]⟩
    · rw [nI_sub (by omega), if_neg (nI_ge (by omega) (by omega))]
      exact ⟨-1, rfl, Or.inl ⟨rfl, fun t u d v e => by have := e.1; unfold Fit at this; rw [if_neg hb] at this; omega⟩⟩
end BB
