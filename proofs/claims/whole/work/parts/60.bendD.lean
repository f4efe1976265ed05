section BD
variable {m : Nat → Nat → Int32} {kp : Bool} {b : Option Nat}
noncomputable def bdB (m : Nat → Nat → Int32) (p q h u d i : Nat) : Bool := @decide (Bd m p q (szN m p) (szN m q) (h / 2) (h % 2) u d i) (Classical.propDecidable _)
theorem bdB_t {p q h u d i : Nat} : bdB m p q h u d i = true ↔ Bd m p q (szN m p) (szN m q) (h / 2) (h % 2) u d i := by
  unfold bdB
  exact @decide_eq_true_iff _ (Classical.propDecidable _)
theorem bdB_fr {M : Nat → Nat → Int32} (h : M 43 = m 43) : bdB M = bdB m := by
  have e1 : PV M = PV m := by funext c j; unfold PV; rw [h]
  have e2 : szN M = szN m := by funext c; unfold szN; rw [h]
  funext p q h u d i
  unfold bdB Bd BdE dA dB
  rw [e1, e2]
/-- the reference's check of one bending -/
theorem is80 {p q Y bk t u d i : Nat} {w : Int32} (h : PtH m) (hp : p < 24) (hq : q < 24) (hY : Y ≤ 24) (eY : m 43 (82 + 29 * q + 3) = nI Y) (hu : u ≤ 5) (hd : d ≤ 5) (hi : i < 24) (hix : ∀ j, j < Y → ixB bk i j < 24 ∧ nI i + w * nI j = nI (ixB bk i j)) : ∀ k j n (al : Bool), j + k = Y → k < n → ∃ r, f_X8_isBending_L80 (mkS m kp b) (if t = 1 then (-(nI u)) else nI u : Int32) w 42 (nI p) (nI q) (nI d) (nI i) n (nI j) (if al = true then 1 else 0) = some r ∧ ((r = .inl 0 ∧ ∃ x, j ≤ x ∧ x < Y ∧ (d : Int) * dB m q x ≠ sgu t u * dA m p bk i x) ∨ ∃ al' : Bool, r = .inr (nI Y, if al' = true then 1 else 0) ∧ (∀ x, j ≤ x → x < Y → (d : Int) * dB m q x = sgu t u * dA m p bk i x) ∧ (al' = true ↔ (al = true ∧ ∀ x, j ≤ x → x < Y → dA m p bk i x = 0))) := by
  have eT : (if t = 1 then (-(nI u)) else nI u : Int32).toInt = sgu t u := by
    unfold sgu
    by_cases ht : t = 1
    · rw [if_pos ht, if_pos ht, Int32.toInt_neg, nI_toInt (by omega), Int.bmod_eq_of_le (by omega) (by omega)]
    · rw [if_neg ht, if_neg ht, nI_toInt (by omega)]
  have hsg := sgu_abs t u
  obtain ⟨T, eTT⟩ : ∃ T, T = (if t = 1 then (-(nI u)) else nI u : Int32) := ⟨_, rfl⟩
  rw [← eTT] at eT ⊢
  intro k
  induction k with
  | zero =>
    intro j n al h1 h2
    obtain ⟨n, rfl⟩ : ∃ q, n = q + 1 := ⟨n - 1, by omega⟩
    have e : j = Y := by omega
    subst e
    refine ⟨.inr (nI j, if al = true then 1 else 0), ?_, Or.inr ⟨al, rfl, fun x h1 h2 => absurd h2 (by omega), ?_⟩⟩
    · rw [f_X8_isBending_L80, mmany hq, eY, Option.bind_some, if_pos (Int32.le_refl _)]
    · exact ⟨fun q => ⟨q, fun x h1 h2 => absurd h2 (by omega)⟩, fun q => q.1⟩
  | succ k ih =>
    intro j n al h1 h2
    obtain ⟨n, rfl⟩ : ∃ q, n = q + 1 := ⟨n - 1, by omega⟩
    obtain ⟨x1, x2⟩ := hix j (by omega)
    have z0 : f_X8_dot (mkS m kp b) 42 (nI q) 0 = some (m 43 (87 + 29 * q + 0)) := mdot hq (j := 0) (by decide)
    rw [f_X8_isBending_L80, mmany hq, eY, Option.bind_some, if_neg (nI_ge (by omega) (by omega)), x2, mdot hp x1, Option.bind_some, mdot hp hi, Option.bind_some, mdot hq (show j < 24 by omega), Option.bind_some, z0, Option.bind_some, nI_a1]
    have P1 := PV_b h hp x1
    have P2 := PV_b h hp hi
    have P3 := PV_b h hq (show j < 24 by omega)
    have P4 := PV_b h hq (show 0 < 24 by decide)
    obtain ⟨a, ea⟩ : ∃ a, a = m 43 (87 + 29 * p + ixB bk i j) - m 43 (87 + 29 * p + i) := ⟨_, rfl⟩
    obtain ⟨c, ec⟩ : ∃ c, c = m 43 (87 + 29 * q + j) - m 43 (87 + 29 * q + 0) := ⟨_, rfl⟩
    have Ta : a.toInt = dA m p bk i j := by rw [ea]; exact subB P1.1 P1.2 P2.1 P2.2
    have Tc : c.toInt = dB m q j := by rw [ec]; exact subB P3.1 P3.2 P4.1 P4.2
    have Ba : -200000 ≤ dA m p bk i j ∧ dA m p bk i j ≤ 200000 := by unfold dA; omega
    have Bc : -200000 ≤ dB m q j ∧ dB m q j ≤ 200000 := by unfold dB; omega
    rw [← ea, ← ec]
    clear ea ec P1 P2 P3 P4 z0
    have a0I : a = 0 ↔ dA m p bk i j = 0 := by rw [eq0I, Ta]
    have e : (nI d * c = T * a) ↔ ((d : Int) * dB m q j = sgu t u * dA m p bk i j) := by
      rw [← Int32.toInt_inj, mulB (by rw [nI_toInt (by omega)]; omega) (by rw [nI_toInt (by omega)]; omega) (by omega) (by omega), mulB (by omega) (by omega) (by omega) (by omega), nI_toInt (by omega), Ta, Tc, eT]
    by_cases hE : nI d * c = T * a
    · rw [if_pos hE]
      have hal : (if (if al = true then 1 else 0 : Int32) = 0 then 0 else (if a = 0 then 1 else 0) : Int32) = if (al && decide (dA m p bk i j = 0)) = true then 1 else 0 := by
        cases al
        · simp
        · by_cases q0 : a = 0
          · simp [q0, a0I.mp q0]
          · have hx : ¬ dA m p bk i j = 0 := fun x => q0 (a0I.mpr x)
            simp [q0, hx]
      rw [hal]
      obtain ⟨r, hr, hres⟩ := ih (j + 1) n (al && decide (dA m p bk i j = 0)) (by omega) (by omega)
      refine ⟨r, hr, ?_⟩
      rcases hres with ⟨r1, x, q1, q2, q3⟩ | ⟨al', r1, r2, r3⟩
      · exact Or.inl ⟨r1, x, by omega, q2, q3⟩
      · refine Or.inr ⟨al', r1, fun x q1 q2 => ?_, ?_⟩
        · by_cases ex : x = j
          · rw [ex]; exact e.mp hE
          · exact r2 x (by omega) q2
        · rw [r3]
          simp only [Bool.and_eq_true, decide_eq_true_eq]
          constructor
          · rintro ⟨⟨q1, q2⟩, q3⟩
            refine ⟨q1, fun x q4 q5 => ?_⟩
            by_cases ex : x = j
            · rw [ex]; exact q2
            · exact q3 x (by omega) q5
          · rintro ⟨q1, q3⟩
            exact ⟨⟨q1, q3 j (Nat.le_refl _) (by omega)⟩, fun x q4 q5 => q3 x (by omega) q5⟩
    · exact ⟨.inl 0, by rw [if_neg hE], Or.inl ⟨rfl, j, Nat.le_refl _, by omega, fun q => hE (e.mpr q)⟩⟩
theorem hs01 {σ : St} {o : Nat} (h : o < 4) : f_X8_has σ (nI o) 1 = some (if o / 2 = 1 then 1 else 0) := by
  rw [hs1 h]
  have : ∀ o, o < 4 → (o.testBit 1 = true ↔ o / 2 = 1) := by decide
  by_cases q : o / 2 = 1
  · rw [if_pos ((this o h).mpr q), if_pos q]
  · rw [if_neg (fun x => q ((this o h).mp x)), if_neg q]
theorem hs00 {σ : St} {o : Nat} (h : o < 4) : f_X8_has σ (nI o) 0 = some (if o % 2 = 1 then 1 else 0) := by
  rw [hs0 h]
  have : ∀ o, o < 4 → (o.testBit 0 = true ↔ o % 2 = 1) := by decide
  by_cases q : o % 2 = 1
  · rw [if_pos ((this o h).mpr q), if_pos q]
  · rw [if_neg (fun x => q ((this o h).mp x)), if_neg q]
theorem isB8 {n p q h u d i : Nat} (hC : CvC m n) (hp : p < n) (hq : q < n) (hh : h < 4) (hu : u ≤ 5) (hd : d ≤ 5) (hi : i < szN m p) : f_X8_isBending (mkS m kp b) 42 (nI p) (nI q) (nI h) (nI u) (nI d) (nI i) = some (if bdB m p q h u d i = true then 1 else 0) := by
  obtain ⟨h1, h2, h3, h4, h5, h6⟩ := hC
  obtain ⟨p1, p2, p3, p4⟩ := h6 p hp
  obtain ⟨q1, q2, q3, q4⟩ := h6 q hq
  unfold f_X8_isBending
  rw [if_pos io_42, hs01 hh, Option.bind_some, Option.bind_some]
  have fin : ∀ w : Int32, Fit (szN m p) (szN m q) (h / 2) i → (∀ j, j < szN m q → ixB (h / 2) i j < 24 ∧ nI i + w * nI j = nI (ixB (h / 2) i j)) → ((f_X8_has (mkS m kp b) (nI h) 0).bind fun v12 => (f_X8_isBending_L80 (mkS m kp b) (if v12 = 0 then nI u else (-nI u) : Int32) w 42 (nI p) (nI q) (nI d) (nI i) 3000 0 1).bind fun p28 => Sum.elim (some) (fun p30 => (zr (if p30.2 = 0 then 1 else 0 : Int32)).bind fun z31 => some (if p30.2 = 0 then 1 else 0 : Int32)) p28) = some (if bdB m p q h u d i = true then 1 else 0) := by
    intro w hF hix
    rw [hs00 hh, Option.bind_some]
    have eT : (if (if h % 2 = 1 then 1 else 0 : Int32) = 0 then nI u else (-nI u) : Int32) = (if h % 2 = 1 then (-(nI u)) else nI u : Int32) := by
      by_cases q : h % 2 = 1
      · rw [if_pos q, if_pos q]; rfl
      · rw [if_neg q, if_neg q]; rfl
    rw [eT]
    obtain ⟨r, hr, hres⟩ := is80 (kp := kp) (b := b) (t := h % 2) h1 (show p < 24 by omega) (show q < 24 by omega) q2 q3 hu hd (show i < 24 by omega) hix (szN m q) 0 3000 true (by omega) (by omega)
    have hr' : f_X8_isBending_L80 (mkS m kp b) (if h % 2 = 1 then (-(nI u)) else nI u : Int32) w 42 (nI p) (nI q) (nI d) (nI i) 3000 0 1 = some r := hr
    rw [hr', Option.bind_some]
    rcases hres with ⟨rfl, x, x1, x2, x3⟩ | ⟨al, rfl, r2, r3⟩
    · rw [if_neg (fun q => x3 ((bdB_t.mp q).2.1 x x2))]
      rfl
    · rw [Sum.elim_inr]
      dsimp only
      rw [z10, Option.bind_some]
      by_cases hal : al = true
      · have hz := (r3.mp hal).2
        have hnb : ¬ bdB m p q h u d i = true := fun y => by
          obtain ⟨j, hj, hj2⟩ := (bdB_t.mp y).2.2
          exact hj2 (hz j (by omega) hj)
        rw [if_neg hnb, if_pos hal]
        rfl
      · have hn : ∃ j, j < szN m q ∧ dA m p (h / 2) i j ≠ 0 := by
          refine Classical.byContradiction (fun hc => hal (r3.mpr ⟨rfl, fun x _ hx => ?_⟩))
          exact Classical.byContradiction (fun hx2 => hc ⟨x, hx, hx2⟩)
        rw [if_pos (bdB_t.mpr ⟨hF, fun j hj => r2 j (by omega) hj, hn⟩), if_neg hal]
        rfl
  by_cases hb : h / 2 = 1
  · rw [if_pos hb, if_neg (show ¬ (1 : Int32) = 0 by decide), mmany (show q < 24 by omega), q3, Option.bind_some, subj (by omega)]
    by_cases hY2 : szN m q - 1 ≤ i
    · rw [if_pos (nI_le hY2 (by omega)), if_neg (show ¬ (1 : Int32) = 0 by decide)]
      refine fin (-1) (by unfold Fit; rw [if_pos hb]; omega) (fun j hj => ?_)
      unfold ixB
      rw [if_pos hb]
      refine ⟨by omega, ?_⟩
      rw [← nI_sub (show j ≤ i by omega), Int32.sub_eq_add_neg, Int32.neg_mul, Int32.one_mul]
    · rw [if_neg (nI_ge (by omega) (by omega)), if_neg (fun q => by have := (bdB_t.mp q).1; unfold Fit at this; rw [if_pos hb] at this; omega)]
  · rw [if_neg hb, if_pos rfl, mmany (show p < 24 by omega), p3, Option.bind_some, mmany (show q < 24 by omega), q3, Option.bind_some]
    by_cases hY2 : i + szN m q ≤ szN m p
    · rw [nI_sub (by omega), if_pos (nI_le (by omega) (by omega)), if_pos rfl]
      refine fin 1 (by unfold Fit; rw [if_neg hb]; exact hY2) (fun j hj => ?_)
      unfold ixB
      rw [if_neg hb]
      exact ⟨by omega, by rw [Int32.one_mul, nI_add]⟩
    · have hno : ¬ nI i ≤ nI (szN m p) - nI (szN m q) := by
        by_cases hle : szN m q ≤ szN m p
        · rw [nI_sub hle]; exact nI_ge (by omega) (by omega)
        · exact fun y => absurd (Int32.lt_of_le_of_lt y (subneg (szN m p) (by omega) (szN m q) (by omega) (by omega))) (nI_pos (by omega))
      rw [if_neg hno, if_neg (fun q => by have := (bdB_t.mp q).1; unfold Fit at this; rw [if_neg hb] at this; omega)]
/-! the first one -/
def fstN {τ : Type} (F : Nat → Option τ) : Nat → Nat → Option τ
  | 0, _ => none
  | k + 1, i => match F i with
    | some t => some t
    | none => fstN F k (i + 1)
theorem fstN_none {τ : Type} {F : Nat → Option τ} : ∀ k i, fstN F k i = none → ∀ j, i ≤ j → j < i + k → F j = none
  | 0, _, _, j, h1, h2 => absurd h2 (by omega)
  | k + 1, i, h, j, h1, h2 => by
    unfold fstN at h
    cases e : F i with
    | some t => rw [e] at h; cases h
    | none =>
      rw [e] at h
      by_cases q : j = i
      · rw [q]; exact e
      · exact fstN_none k (i + 1) h j (by omega) (by omega)
theorem fstN_some {τ : Type} {F : Nat → Option τ} {t : τ} : ∀ k i, fstN F k i = some t → ∃ j, i ≤ j ∧ j < i + k ∧ F j = some t ∧ ∀ x, i ≤ x → x < j → F x = none
  | 0, _, h => by cases h
  | k + 1, i, h => by
    unfold fstN at h
    cases e : F i with
    | some t' => rw [e] at h; exact ⟨i, Nat.le_refl _, by omega, by rw [e]; exact h, fun x h1 h2 => absurd h2 (by omega)⟩
    | none =>
      rw [e] at h
      obtain ⟨j, h1, h2, h3, h4⟩ := fstN_some k (i + 1) h
      refine ⟨j, by omega, by omega, h3, fun x q1 q2 => ?_⟩
      by_cases q : x = i
      · rw [q]; exact e
      · exact h4 x (by omega) q2
def oE {τ : Type} (S : τ → St) (e : Int32 × St) (o : Option τ) : Option (St ⊕ (Int32 × St)) := match o with
  | some t => some (.inl (S t))
  | none => some (.inr e)
theorem loopF {τ : Type} (L : Nat → Nat → Option (St ⊕ (Int32 × St))) (F : Nat → Option τ) (S : τ → St) (S0 : St) (n : Nat) (hs : ∀ f i, i < n → L (f + 1) i = (match F i with | some t => some (.inl (S t)) | none => L f (i + 1))) (he : ∀ f, L (f + 1) n = some (.inr (nI n, S0))) : ∀ k i f, i + k = n → k < f → L f i = oE S (nI n, S0) (fstN F k i) := by
  intro k
  induction k with
  | zero =>
    intro i f h1 h2
    obtain ⟨f, rfl⟩ : ∃ q, f = q + 1 := ⟨f - 1, by omega⟩
    have : i = n := by omega
    subst this
    exact he f
  | succ k ih =>
    intro i f h1 h2
    obtain ⟨f, rfl⟩ : ∃ q, f = q + 1 := ⟨f - 1, by omega⟩
    rw [hs f i (by omega)]
    unfold fstN
    cases F i with
    | some t => rfl
    | none => exact ih (i + 1) f (by omega) (by omega)
abbrev T4 : Type := Nat × Nat × Nat × Nat
noncomputable def bF1 (m : Nat → Nat → Int32) (p q h u d i : Nat) : Option T4 := if bdB m p q h u d i = true then some (h, u, d, i) else none
noncomputable def bF2 (m : Nat → Nat → Int32) (p q h u d : Nat) : Option T4 := if Nat.gcd u d = 1 then fstN (bF1 m p q h u d) (szN m p) 0 else none
noncomputable def bF3 (m : Nat → Nat → Int32) (p q f h u : Nat) : Option T4 := fstN (bF2 m p q h u) f 1
noncomputable def bF4 (m : Nat → Nat → Int32) (p q f h : Nat) : Option T4 := fstN (bF3 m p q f h) f 1
noncomputable def bF5 (m : Nat → Nat → Int32) (p q f : Nat) : Option T4 := fstN (bF4 m p q f) 4 0
def bS0 (m : Nat → Nat → Int32) : Nat → Nat → Int32 := st1 m 42 14 0
def bS1 (m : Nat → Nat → Int32) (t : T4) : Nat → Nat → Int32 := st1 (st1 (st1 (st1 (st1 (st1 (bS0 m) 50 0 (nI (t.1 / 2))) 50 1 (nI (t.1 % 2))) 50 2 (nI t.2.1)) 50 3 (nI t.2.2.1)) 50 4 (nI t.2.2.2)) 42 14 1
def bSR (m : Nat → Nat → Int32) (o : Option T4) : Nat → Nat → Int32 := match o with
  | some t => bS1 m t
  | none => bS0 m
def cdR (o : Option T4) : Int32 := match o with
  | some t => nI (codB (t.1 / 2) (t.1 % 2) t.2.1 t.2.2.1 t.2.2.2)
  | none => -1
theorem wr50 {j : Nat} {M : Nat → Nat → Int32} {v : Int32} (hj : j < 5) : sI (mkS M kp b) 50 (nI j) v = some (mkS (st1 M 50 j v) kp b) := wr_50 hj
theorem wr50_0 {M : Nat → Nat → Int32} {v : Int32} : sI (mkS M kp b) 50 0 v = some (mkS (st1 M 50 0 v) kp b) := wr_50 (i := 0) (by decide)
theorem wr50_1 {M : Nat → Nat → Int32} {v : Int32} : sI (mkS M kp b) 50 1 v = some (mkS (st1 M 50 1 v) kp b) := wr_50 (i := 1) (by decide)
theorem wr50_2 {M : Nat → Nat → Int32} {v : Int32} : sI (mkS M kp b) 50 2 v = some (mkS (st1 M 50 2 v) kp b) := wr_50 (i := 2) (by decide)
theorem wr50_3 {M : Nat → Nat → Int32} {v : Int32} : sI (mkS M kp b) 50 3 v = some (mkS (st1 M 50 3 v) kp b) := wr_50 (i := 3) (by decide)
theorem wr50_4 {M : Nat → Nat → Int32} {v : Int32} : sI (mkS M kp b) 50 4 v = some (mkS (st1 M 50 4 v) kp b) := wr_50 (i := 4) (by decide)
theorem CvC_fr {n : Nat} {M : Nat → Nat → Int32} (h : CvC m n) (h6 : M 6 = m 6) (h7 : M 7 = m 7) (h8 : M 8 = m 8) (h43 : M 43 = m 43) : CvC M n := by
  have e2 : szN M = szN m := by funext c; unfold szN; rw [h43]
  unfold CvC PtH at *
  rw [h6, h7, h8, h43, e2]
  exact h
theorem h2d {h : Nat} (hh : h < 4) : nI h / 2 = nI (h / 2) := dv (k := 2) (by omega) (by decide)
theorem h2r {h : Nat} (hh : h < 4) : irm (nI h) 2 = nI (h % 2) := rmN (k := 2) (by omega) (by decide)
theorem fb35 {n p q h u d : Nat} (hC : CvC m n) (hp : p < n) (hq : q < n) (hh : h < 4) (hu : u ≤ 5) (hd : d ≤ 5) : f_X8_findBendings_L35 (nI d) (nI u) (nI h) 42 (nI p) (nI q) 1 3000 0 (mkS (bS0 m) kp b) = oE (fun t => mkS (bS1 m t) kp b) (if Nat.gcd u d = 1 then nI (szN m p) else 0, mkS (bS0 m) kp b) (bF2 m p q h u d) := by
  have h43 : bS0 m 43 = m 43 := by unfold bS0; exact st1_ne (by decide)
  have hC' : CvC (bS0 m) n := CvC_fr hC (by unfold bS0; exact st1_ne (by decide)) (by unfold bS0; exact st1_ne (by decide)) (by unfold bS0; exact st1_ne (by decide)) h43
  have hsz : szN (bS0 m) = szN m := by funext c; unfold szN; rw [h43]
  obtain ⟨p1, p2, p3, p4⟩ := hC.2.2.2.2.2 p hp
  have hn := hC.2.2.2.1
  have em : f_X8_many (mkS (bS0 m) kp b) 42 (nI p) = some (nI (szN m p)) := by rw [mmany (show p < 24 by omega), h43, p3]
  have e14 : bS0 m 42 14 = 0 := by unfold bS0; exact st1_eq
  have ed := div8 (σ := mkS (bS0 m) kp b) (a := u) (b := d) (by omega) (by omega)
  by_cases hg : Nat.gcd u d = 1
  · have e2 : bF2 m p q h u d = fstN (bF1 m p q h u d) (szN m p) 0 := if_pos hg
    rw [hg] at ed
    rw [e2, if_pos hg]
    have := loopF (fun f i => f_X8_findBendings_L35 (nI d) (nI u) (nI h) 42 (nI p) (nI q) 1 f (nI i) (mkS (bS0 m) kp b)) (bF1 m p q h u d) (fun t => mkS (bS1 m t) kp b) (mkS (bS0 m) kp b) (szN m p) (fun f i hi => by
      show f_X8_findBendings_L35 (nI d) (nI u) (nI h) 42 (nI p) (nI q) 1 (f + 1) (nI i) (mkS (bS0 m) kp b) = _
      rw [f_X8_findBendings_L35, em, Option.bind_some, if_neg (nI_ge hi (by omega)), ed, Option.bind_some, if_pos (show nI 1 = 1 from rfl), isB8 hC' hp hq hh hu hd (by rw [hsz]; exact hi), Option.bind_some, bdB_fr h43, nI_a1]
      unfold bF1
      by_cases hb : bdB m p q h u d i = true
      · rw [if_pos hb, if_pos hb, if_neg (show ¬ (1 : Int32) = 0 by decide)]
        simp only [io_0, gI_0, pI_0, pZ_0, io_1, gI_1, pI_1, pZ_1, io_2, gI_2, pI_2, pZ_2, aL_3, io_4, gI_4, pI_4, pZ_4, aL_5, io_6, gI_6, pI_6, pZ_6, aL_7, aL_8, io_9, gI_9, pI_9, pZ_9, aL_10, io_11, gI_11, pI_11, pZ_11, aL_12, io_13, gI_13, pI_13, pZ_13, aL_14, io_15, gI_15, pI_15, pZ_15, aL_16, io_17, gI_17, pI_17, pZ_17, aL_18, aL_19, io_20, gI_20, pI_20, pZ_20, aL_21, io_22, gI_22, pI_22, pZ_22, aL_23, io_24, gI_24, pI_24, pZ_24, aL_25, io_26, gI_26, pI_26, pZ_26, io_27, gI_27, pI_27, pZ_27, aL_28, aL_29, aL_30, aL_31, aL_32, aL_33, io_34, gI_34, pI_34, pZ_34, aL_35, io_36, gI_36, pI_36, pZ_36, aL_37, io_38, gI_38, pI_38, pZ_38, aL_39, io_40, gI_40, pI_40, pZ_40, aL_41, io_42, gI_42, pI_42, pZ_42, aL_43, aL_44, aL_45, aL_46, aL_47, aL_48, aL_49, aL_50, aL_51, aL_52, aL_53, aL_54, aL_55, aL_56, aL_57, aL_58, gq_0_0, gq_0_1, gq_0_2, gq_0_3, gq_0_4, gq_0_5, gq_0_6, gq_0_7, gq_1_0, gq_1_1, gq_1_2, gq_1_3, gq_1_4, gq_1_5, gq_1_6, gq_1_7, gq_1_8, gq_1_9, gq_2_2, gq_4_2, gq_6_2, gq_9_2, gq_11_2, gq_13_2, gq_15_2, gq_17_0, gq_20_0, gq_22_0, gq_24_0, gq_27_0, gq_34_0, gq_36_0, gq_38_0, gq_40_0, gq_42_0, gq_42_1, gq_42_3, gq_42_4, gq_42_11, gq_42_12, gq_42_13, gq_42_15, gq_42_16, gq_42_17, gq_42_18, gq_42_19, gq_42_23, gq_42_24, gq_42_25, gq_42_26, aQ_29_0, aQ_29_1, aQ_29_2, aQ_29_3, aQ_19_0, aQ_19_1, aQ_19_2, aQ_46_0, aQ_46_1, aQ_46_2, gq_26, gr_26, gr_0_8, pQ_26, Option.bind_some, ↓reduceIte, one_ne0, e14, h2d hh, h2r hh, wr50_0, wr50_1, wr50_2, wr50_3, wr50_4, st1_ne (show (42 : Nat) ≠ 50 by decide)]
        rfl
      · rw [if_neg hb, if_neg hb, if_pos rfl]) (fun f => by
      show f_X8_findBendings_L35 (nI d) (nI u) (nI h) 42 (nI p) (nI q) 1 (f + 1) (nI (szN m p)) (mkS (bS0 m) kp b) = _
      rw [f_X8_findBendings_L35, em, Option.bind_some, if_pos (Int32.le_refl _)]) (szN m p) 0 3000 (by omega) (by omega)
    simp only [nI_0] at this
    exact this
  · have e2 : bF2 m p q h u d = none := if_neg hg
    have hg5 : Nat.gcd u d ≤ 10 := by
      rcases Nat.eq_zero_or_pos u with e | e
      · rw [e, Nat.gcd_zero_left]; omega
      · exact Nat.le_trans (Nat.gcd_le_left d e) (by omega)
    rw [e2, if_neg hg, f_X8_findBendings_L35, em, Option.bind_some, if_neg (nI_nle (by omega) (by omega)), ed, Option.bind_some, if_neg (show ¬ nI (Nat.gcd u d) = (1 : Int32) from fun y => hg ((nI_eq (b := 1) (by omega) (by decide)).mp y))]
    rfl
theorem fb26 {n p q f h u : Nat} (hC : CvC m n) (hp : p < n) (hq : q < n) (hf : f ≤ 5) (hh : h < 4) (hu : u ≤ 5) : f_X8_findBendings_L26 (nI u) (nI h) 42 (nI p) (nI q) (nI f) 1 3000 1 (mkS (bS0 m) kp b) = oE (fun t => mkS (bS1 m t) kp b) (nI (f + 1), mkS (bS0 m) kp b) (bF3 m p q f h u) := by
  have := loopF (fun l d => f_X8_findBendings_L26 (nI u) (nI h) 42 (nI p) (nI q) (nI f) 1 l (nI d) (mkS (bS0 m) kp b)) (bF2 m p q h u) (fun t => mkS (bS1 m t) kp b) (mkS (bS0 m) kp b) (f + 1) (fun l d hd => by
    show f_X8_findBendings_L26 (nI u) (nI h) 42 (nI p) (nI q) (nI f) 1 (l + 1) (nI d) (mkS (bS0 m) kp b) = _
    rw [f_X8_findBendings_L26, if_neg (nI_nlt (by omega) (by omega)), fb35 hC hp hq hh hu (by omega), nI_a1]
    cases bF2 m p q h u d <;> rfl) (fun l => by
    show f_X8_findBendings_L26 (nI u) (nI h) 42 (nI p) (nI q) (nI f) 1 (l + 1) (nI (f + 1)) (mkS (bS0 m) kp b) = _
    rw [f_X8_findBendings_L26, if_pos (nI_lt (by omega) (by omega))]) f 1 3000 (by omega) (by omega)
  exact this
theorem fb17 {n p q f h : Nat} (hC : CvC m n) (hp : p < n) (hq : q < n) (hf : f ≤ 5) (hh : h < 4) : f_X8_findBendings_L17 (nI h) 42 (nI p) (nI q) (nI f) 1 3000 1 (mkS (bS0 m) kp b) = oE (fun t => mkS (bS1 m t) kp b) (nI (f + 1), mkS (bS0 m) kp b) (bF4 m p q f h) := by
  have := loopF (fun l u => f_X8_findBendings_L17 (nI h) 42 (nI p) (nI q) (nI f) 1 l (nI u) (mkS (bS0 m) kp b)) (bF3 m p q f h) (fun t => mkS (bS1 m t) kp b) (mkS (bS0 m) kp b) (f + 1) (fun l u hu => by
    show f_X8_findBendings_L17 (nI h) 42 (nI p) (nI q) (nI f) 1 (l + 1) (nI u) (mkS (bS0 m) kp b) = _
    rw [f_X8_findBendings_L17, if_neg (nI_nlt (by omega) (by omega)), fb26 hC hp hq hf hh (by omega), nI_a1]
    cases bF3 m p q f h u <;> rfl) (fun l => by
    show f_X8_findBendings_L17 (nI h) 42 (nI p) (nI q) (nI f) 1 (l + 1) (nI (f + 1)) (mkS (bS0 m) kp b) = _
    rw [f_X8_findBendings_L17, if_pos (nI_lt (by omega) (by omega))]) f 1 3000 (by omega) (by omega)
  exact this
theorem n4 {k : Nat} (h : k < 4) : ¬ (4 : Int32) ≤ nI k := nI_ge (b := 4) h (by decide)
theorem fb8 {n p q f : Nat} (hC : CvC m n) (hp : p < n) (hq : q < n) (hf : f ≤ 5) : f_X8_findBendings (mkS m kp b) 42 (nI p) (nI q) (nI f) 1 = some (mkS (bSR m (bF5 m p q f)) kp b) := by
  unfold f_X8_findBendings
  rw [if_pos io_42, pI_42, Option.bind_some]
  have := loopF (fun l h => f_X8_findBendings_L8 42 (nI p) (nI q) (nI f) 1 l (nI h) (mkS (bS0 m) kp b)) (bF4 m p q f) (fun t => mkS (bS1 m t) kp b) (mkS (bS0 m) kp b) 4 (fun l h hh => by
    show f_X8_findBendings_L8 42 (nI p) (nI q) (nI f) 1 (l + 1) (nI h) (mkS (bS0 m) kp b) = _
    rw [f_X8_findBendings_L8, if_neg (n4 hh), fb17 hC hp hq hf hh, nI_a1]
    cases bF4 m p q f h <;> rfl) (fun l => by
    show f_X8_findBendings_L8 42 (nI p) (nI q) (nI f) 1 (l + 1) (nI 4) (mkS (bS0 m) kp b) = _
    rw [f_X8_findBendings_L8, if_pos (show (4 : Int32) ≤ nI 4 by decide)]) 4 0 3000 (by omega) (by omega)
  simp only [nI_0] at this
  show (f_X8_findBendings_L8 42 (nI p) (nI q) (nI f) 1 3000 0 (mkS (bS0 m) kp b)).bind _ = _
  rw [this]
  have e5 : bF5 m p q f = fstN (bF4 m p q f) 4 0 := rfl
  rw [e5]
  cases fstN (bF4 m p q f) 4 0 <;> rfl
/-- what the reference finds is the first -/
theorem bF5_spec {p q f : Nat} (hf : f ≤ 5) (hsz : szN m p ≤ 24) : FS m p q (szN m p) (szN m q) f (fun bk i => bk < 2 ∧ i < szN m p) (cdR (bF5 m p q f)) ∧ ∀ t, bF5 m p q f = some t → t.1 < 4 ∧ t.2.2.2 < szN m p ∧ Val f (t.1 % 2) t.2.1 t.2.2.1 := by
  have nB : ∀ h u d i, bF1 m p q h u d i = none → ¬ Bd m p q (szN m p) (szN m q) (h / 2) (h % 2) u d i := fun h u d i e hb => by
    unfold bF1 at e
    rw [if_pos (bdB_t.mpr hb)] at e
    cases e
  have n2 : ∀ h u d i, bF2 m p q h u d = none → Nat.gcd u d = 1 → i < szN m p → ¬ Bd m p q (szN m p) (szN m q) (h / 2) (h % 2) u d i := fun h u d i e hg hi => by
    unfold bF2 at e
    rw [if_pos hg] at e
    exact nB h u d i (fstN_none _ _ e i (by omega) (by omega))
  have n3 : ∀ h u d i, bF3 m p q f h u = none → 1 ≤ d → d ≤ f → Nat.gcd u d = 1 → i < szN m p → ¬ Bd m p q (szN m p) (szN m q) (h / 2) (h % 2) u d i := fun h u d i e h1 h2 hg hi => n2 h u d i (fstN_none _ _ e d h1 (by omega)) hg hi
  have n4' : ∀ h u d i, bF4 m p q f h = none → 1 ≤ u → u ≤ f → 1 ≤ d → d ≤ f → Nat.gcd u d = 1 → i < szN m p → ¬ Bd m p q (szN m p) (szN m q) (h / 2) (h % 2) u d i := fun h u d i e g1 g2 h1 h2 hg hi => n3 h u d i (fstN_none _ _ e u g1 (by omega)) h1 h2 hg hi
  have dec : ∀ bk t, bk < 2 → t < 2 → (bk * 2 + t) / 2 = bk ∧ (bk * 2 + t) % 2 = t ∧ bk * 2 + t < 4 := fun bk t h1 h2 => by omega
  cases e5 : bF5 m p q f with
  | none =>
    refine ⟨Or.inl ⟨rfl, fun bk i t u d hP v hB => ?_⟩, fun t h => by cases h⟩
    obtain ⟨d1, d2, d3⟩ := dec bk t hP.1 v.1
    have := n4' (bk * 2 + t) u d i (fstN_none _ _ e5 (bk * 2 + t) (by omega) (by omega)) v.2.1 v.2.2.1 v.2.2.2.1 v.2.2.2.2.1 v.2.2.2.2.2 hP.2
    rw [d1, d2] at this
    exact this hB
  | some t =>
    obtain ⟨h, -, hh, e4, m4⟩ := fstN_some _ _ e5
    obtain ⟨u, hu1, hu2, e3, m3⟩ := fstN_some _ _ e4
    obtain ⟨d, hd1, hd2, e2, m2⟩ := fstN_some _ _ e3
    have hg : Nat.gcd u d = 1 := Classical.byContradiction (fun hg => by unfold bF2 at e2; rw [if_neg hg] at e2; cases e2)
    have e2' : fstN (bF1 m p q h u d) (szN m p) 0 = some t := by unfold bF2 at e2; rw [if_pos hg] at e2; exact e2
    obtain ⟨i, -, hi, e1, m1⟩ := fstN_some _ _ e2'
    have hb : bdB m p q h u d i = true := Classical.byContradiction (fun hb => by unfold bF1 at e1; rw [if_neg hb] at e1; cases e1)
    have et : t = (h, u, d, i) := by unfold bF1 at e1; rw [if_pos hb] at e1; cases e1; rfl
    subst et
    have v : Val f (h % 2) u d := ⟨by omega, hu1, by omega, hd1, by omega, hg⟩
    refine ⟨Or.inr ⟨h / 2, h % 2, u, d, i, ⟨by omega, by omega⟩, v, bdB_t.mp hb, rfl, fun bk' t' u' d' i' hP v' hB' => ?_⟩, fun t ht => by cases ht; exact ⟨hh, (by omega : i < szN m p), v⟩⟩
    obtain ⟨d1, d2, d3⟩ := dec bk' t' hP.1 v'.1
    obtain ⟨v1, v2, v3, v4, v5, v6⟩ := v'
    obtain ⟨h', eh'⟩ : ∃ h', h' = bk' * 2 + t' := ⟨_, rfl⟩
    rw [← eh'] at d1 d2 d3
    have hB2 : Bd m p q (szN m p) (szN m q) (h' / 2) (h' % 2) u' d' i' := by rw [d1, d2]; exact hB'
    have key : h < h' ∨ (h = h' ∧ (u < u' ∨ (u = u' ∧ (d < d' ∨ (d = d' ∧ i ≤ i'))))) := by
      refine Classical.byContradiction (fun hc => ?_)
      by_cases q1 : h' < h
      · exact n4' h' u' d' i' (m4 h' (by omega) q1) v2 v3 v4 v5 v6 hP.2 hB2
      · have e : h' = h := by omega
        subst e
        by_cases q2 : u' < u
        · exact n3 h' u' d' i' (m3 u' v2 q2) v4 v5 v6 hP.2 hB2
        · have e : u' = u := by omega
          subst e
          by_cases q3 : d' < d
          · exact n2 h' u' d' i' (m2 d' v4 q3) v6 hP.2 hB2
          · have e : d' = d := by omega
            subst e
            exact nB h' u' d' i' (m1 i' (by omega) (by omega)) hB2
    unfold codB
    have q1 : h / 2 * 2 + h % 2 = h := by omega
    have q2 : bk' * 2 + t' = h' := eh'.symm
    rw [q1, q2]
    have hi2 : i < szN m p := by omega
    clear m1 m2 m3 m4 nB n2 n3 n4' e1 e2 e2' e3 e4 e5 hb hB' hB2 v
    rcases key with k1 | ⟨rfl, k1 | ⟨rfl, k1 | ⟨rfl, k1⟩⟩⟩ <;> omega
end BD
