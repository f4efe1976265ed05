/-! knows -/
def insP (D : Nat → Int32) (d : Int32) : Nat → Nat
  | 0 => 0
  | n + 1 => if D n ≤ d then n + 1 else insP D d n
def insV (D : Nat → Int32) (d : Int32) (n : Nat) : Nat → Int32 := fun i => if i < insP D d n then D i else if i = insP D d n then d else D (i - 1)
def trA (m : Nat → Nat → Int32) (k : Nat) : Nat := (m 43 (838 + 4 * k)).toNatClampNeg
def trD (m : Nat → Nat → Int32) (k : Nat) : Nat := (m 43 (838 + 4 * k + 2)).toNatClampNeg
abbrev DN : Type := (Nat → Int32) × Nat
def kwI (a : DN) (d : Int32) : DN := (insV a.1 d a.2, a.2 + 1)
def kwG (m : Nat → Nat → Int32) (h : Nat) (p : Int32) (F : Nat → Int32) (k : Nat) (a : DN) : DN := if m 43 (838 + 4 * k + 3) = 0 ∧ m 43 (838 + 4 * k + 1) = p then (if trA m k = h then kwI a (nI (trD m k)) else if 1000000 ≤ F (trA m k) then a else if wrV m 2 (nI (trA m k)) p (nI (trD m k)) = 0 then a else kwI a (nI (trD m k) + F (trA m k))) else a
def kwR (m : Nat → Nat → Int32) (n2 n3 h : Nat) (p : Int32) : DN := it (kwG m h p (farF m n2 h)) n3 0 (fun _ => 0, 0)
def RN (m : Nat → Nat → Int32) (kp : Bool) (P : Option Nat → Prop) (C E : Nat) (F : Nat → Int32) (k : Nat) (a : DN) (σ : St) : Prop := ∃ M b, σ = mkS M kp b ∧ P b ∧ EqS m M ∧ (∀ i, i < 8 → M C i = F i) ∧ (∀ i, i < a.2 → M E i = a.1 i) ∧ a.2 ≤ k
section KN
variable {m : Nat → Nat → Int32} {kp : Bool} {b : Option Nat} {z : Nat} {c : Nat → Nat} {P : Option Nat → Prop}
theorem insP_le {D : Nat → Int32} {d : Int32} : ∀ n, insP D d n ≤ n := by
  intro n
  induction n with
  | zero => exact Nat.le_refl 0
  | succ n ih =>
    unfold insP
    by_cases h : D n ≤ d
    · rw [if_pos h]; exact Nat.le_refl _
    · rw [if_neg h]; omega
theorem insP_cg {D E : Nat → Int32} {d : Int32} : ∀ n, (∀ i, i < n → D i = E i) → insP D d n = insP E d n := by
  intro n
  induction n with
  | zero => intro _; rfl
  | succ n ih =>
    intro h
    unfold insP
    rw [h n (by omega), ih (fun i hi => h i (by omega))]
theorem dec1 {n : Nat} : nI (n + 1) + (-1) = nI n := by rw [← Int32.sub_eq_add_neg]; exact nI_pred n
theorem ins12 {d : Int32} : ∀ n f M, n < f → n < 30 → ∃ M', f_X7_insertDay_L12 0 d f (nI n) (mkS M kp b) = some (nI (insP (M 33) d n), mkS M' kp b) ∧ (∀ k, k ≠ 33 → M' k = M k) ∧ ∀ i, M' 33 i = if insP (M 33) d n < i ∧ i ≤ n then M 33 (i - 1) else M 33 i := by
  intro n
  induction n with
  | zero =>
    intro f M h1 h2
    obtain ⟨f, rfl⟩ : ∃ q, f = q + 1 := ⟨f - 1, by omega⟩
    refine ⟨M, ?_, fun _ _ => rfl, fun i => by rw [if_neg (by omega)]⟩
    rw [f_X7_insertDay_L12, if_pos (show nI 0 ≤ 0 by decide)]
    rfl
  | succ n ih =>
    intro f M h1 h2
    obtain ⟨f, rfl⟩ : ∃ q, f = q + 1 := ⟨f - 1, by omega⟩
    rw [f_X7_insertDay_L12, if_neg (nI_nle (show 0 < n + 1 by omega) (by omega)), gq_0_7, Option.bind_some, nI_pred, rd_33 (show n < 30 by omega), Option.bind_some]
    by_cases hd : M 33 n ≤ d
    · have e : insP (M 33) d (n + 1) = n + 1 := if_pos hd
      refine ⟨M, ?_, fun _ _ => rfl, fun i => by rw [e, if_neg (by omega)]⟩
      rw [if_pos hd, e]
    · have e : insP (M 33) d (n + 1) = insP (M 33) d n := if_neg hd
      obtain ⟨M', e1, e2, e3⟩ := ih f (st1 M 33 (n + 1) (M 33 n)) (by omega) (by omega)
      have ec : insP (st1 M 33 (n + 1) (M 33 n) 33) d n = insP (M 33) d n := insP_cg n (fun i hi => by rw [st1_nf (by omega)])
      rw [ec] at e1 e3
      refine ⟨M', ?_, fun k hk => by rw [e2 k hk, st1_ne hk], fun i => ?_⟩
      · rw [if_neg hd, Option.bind_some, Option.bind_some, rd_33 (show n < 30 by omega), Option.bind_some, wr_33 (show n + 1 < 30 by omega), Option.bind_some, dec1, e1, e]
      · have hle := insP_le (D := M 33) (d := d) n
        rw [e3 i, e, st1_app, st1_app]
        by_cases c1 : i = n + 1
        · rw [if_neg (by omega), if_pos ⟨rfl, c1⟩, if_pos (by omega), c1]; rfl
        · rw [if_neg (show ¬ (33 = 33 ∧ i = n + 1) from fun y => c1 y.2)]
          by_cases c2 : insP (M 33) d n < i ∧ i ≤ n
          · rw [if_pos c2, if_neg (by omega), if_pos (by omega)]
          · rw [if_neg c2, if_neg (by omega)]
theorem ins171 {d : Int32} : ∀ n f M, n < f → n < 30 → ∃ M', f_X8_knows_L171 d 42 f (nI n) (mkS M kp b) = some (nI (insP (M 53) d n), mkS M' kp b) ∧ (∀ k, k ≠ 53 → M' k = M k) ∧ ∀ i, M' 53 i = if insP (M 53) d n < i ∧ i ≤ n then M 53 (i - 1) else M 53 i := by
  intro n
  induction n with
  | zero =>
    intro f M h1 h2
    obtain ⟨f, rfl⟩ : ∃ q, f = q + 1 := ⟨f - 1, by omega⟩
    refine ⟨M, ?_, fun _ _ => rfl, fun i => by rw [if_neg (by omega)]⟩
    rw [f_X8_knows_L171, if_pos (show nI 0 ≤ 0 by decide)]
    rfl
  | succ n ih =>
    intro f M h1 h2
    obtain ⟨f, rfl⟩ : ∃ q, f = q + 1 := ⟨f - 1, by omega⟩
    rw [f_X8_knows_L171, if_neg (nI_nle (show 0 < n + 1 by omega) (by omega)), gq_42_18, Option.bind_some, nI_pred, rd_53 (show n < 30 by omega), Option.bind_some]
    by_cases hd : M 53 n ≤ d
    · have e : insP (M 53) d (n + 1) = n + 1 := if_pos hd
      refine ⟨M, ?_, fun _ _ => rfl, fun i => by rw [e, if_neg (by omega)]⟩
      rw [if_pos hd, e]
    · have e : insP (M 53) d (n + 1) = insP (M 53) d n := if_neg hd
      obtain ⟨M', e1, e2, e3⟩ := ih f (st1 M 53 (n + 1) (M 53 n)) (by omega) (by omega)
      have ec : insP (st1 M 53 (n + 1) (M 53 n) 53) d n = insP (M 53) d n := insP_cg n (fun i hi => by rw [st1_nf (by omega)])
      rw [ec] at e1 e3
      refine ⟨M', ?_, fun k hk => by rw [e2 k hk, st1_ne hk], fun i => ?_⟩
      · rw [if_neg hd, Option.bind_some, Option.bind_some, rd_53 (show n < 30 by omega), Option.bind_some, wr_53 (show n + 1 < 30 by omega), Option.bind_some, dec1, e1, e]
      · have hle := insP_le (D := M 53) (d := d) n
        rw [e3 i, e, st1_app, st1_app]
        by_cases c1 : i = n + 1
        · rw [if_neg (by omega), if_pos ⟨rfl, c1⟩, if_pos (by omega), c1]; rfl
        · rw [if_neg (show ¬ (53 = 53 ∧ i = n + 1) from fun y => c1 y.2)]
          by_cases c2 : insP (M 53) d n < i ∧ i ≤ n
          · rw [if_pos c2, if_neg (by omega), if_pos (by omega)]
          · rw [if_neg c2, if_neg (by omega)]
theorem ins_fin {C n : Nat} {d : Int32} {M M' : Nat → Nat → Int32} {D : Nat → Int32} (h3 : ∀ i, M' C i = if insP (M C) d n < i ∧ i ≤ n then M C (i - 1) else M C i) (hD : ∀ i, i < n → M C i = D i) : ∀ i, i < n + 1 → st1 M' C (insP (M C) d n) d C i = insV D d n i := by
  intro i hi
  have hle := insP_le (D := M C) (d := d) n
  have ec := insP_cg (d := d) n hD
  unfold insV
  rw [st1_app, ← ec, h3]
  by_cases c1 : i = insP (M C) d n
  · rw [if_pos ⟨rfl, c1⟩, if_neg (by omega), if_pos c1]
  · rw [if_neg (fun y => c1 y.2), if_neg c1]
    by_cases c2 : i < insP (M C) d n
    · rw [if_neg (by omega), if_pos c2, hD i (by omega)]
    · rw [if_pos (by omega), if_neg c2, hD (i - 1) (by omega)]
theorem ins7 {n : Nat} {d : Int32} {M : Nat → Nat → Int32} {D : Nat → Int32} (hn : n < 30) (hD : ∀ i, i < n → M 33 i = D i) : ∃ M', f_X7_insertDay (mkS M kp b) 0 d (nI n) = some (mkS M' kp b) ∧ (∀ k, k ≠ 33 → M' k = M k) ∧ ∀ i, i < n + 1 → M' 33 i = insV D d n i := by
  obtain ⟨M', e1, e2, e3⟩ := ins12 (kp := kp) (b := b) (d := d) n 3000 M (by omega) hn
  have hle := insP_le (D := M 33) (d := d) n
  refine ⟨st1 M' 33 (insP (M 33) d n) d, ?_, fun k hk => by rw [st1_ne hk, e2 k hk], ins_fin e3 hD⟩
  unfold f_X7_insertDay
  rw [if_pos io_0, gq_0_7, Option.bind_some, aL_33, Option.bind_some, if_pos (nI_lt hn (by decide)), e1, Option.bind_some]
  dsimp only
  rw [gq_0_7, Option.bind_some, wr_33 (show insP (M 33) d n < 30 by omega), Option.bind_some]
theorem ins8 {n : Nat} {d : Int32} {M : Nat → Nat → Int32} {D : Nat → Int32} (hn : n < 30) (hD : ∀ i, i < n → M 53 i = D i) : ∃ p M1 M', f_X8_knows_L171 d 42 3000 (nI n) (mkS M kp b) = some (nI p, mkS M1 kp b) ∧ sI (mkS M1 kp b) 53 (nI p) d = some (mkS M' kp b) ∧ (∀ k, k ≠ 53 → M' k = M k) ∧ ∀ i, i < n + 1 → M' 53 i = insV D d n i := by
  obtain ⟨M', e1, e2, e3⟩ := ins171 (kp := kp) (b := b) (d := d) n 3000 M (by omega) hn
  have hle := insP_le (D := M 53) (d := d) n
  exact ⟨_, M', st1 M' 53 (insP (M 53) d n) d, e1, wr_53 (by omega), fun k hk => by rw [st1_ne hk, e2 k hk], ins_fin e3 hD⟩
theorem tr_of {k : Nat} (h : RS m 1 43 c) (hk : k < c 3) : trA m k < 8 ∧ trD m k ≤ 999 ∧ (m 43 (838 + 4 * k) = nI (trA m k) ∧ m 43 (838 + 4 * k + 2) = nI (trD m k)) ∧ m 12 (k * 4 + 0) = nI (trA m k) ∧ m 12 (k * 4 + 1) = m 43 (838 + 4 * k + 1) ∧ m 12 (k * 4 + 2) = nI (trD m k) ∧ ((m 43 (838 + 4 * k + 3) = 0 ∧ m 12 (k * 4 + 3) = 1) ∨ (m 43 (838 + 4 * k + 3) = 1 ∧ m 12 (k * 4 + 3) = 0)) := by
  obtain ⟨w1, w2, w3, w4, w5, w6, w7⟩ := id h.2.2.2.2.2.1
  obtain ⟨v3, ⟨x, hx, ex⟩, -, ⟨d, hd, ed⟩⟩ := w7 k hk
  have e1 : trA m k = x := by unfold trA; rw [ex, nI_clamp (by omega)]
  have e3 : trD m k = d := by unfold trD; rw [ed, nI_clamp (by omega)]
  rw [e1, e3]
  have f0 := w6 k 0 hk (by decide)
  rw [Nat.add_zero (838 + 4 * k)] at f0
  exact ⟨hx, hd, ⟨ex, ed⟩, f0.trans ex, w6 k 1 hk (by decide), (w6 k 2 hk (by decide)).trans ed, v3⟩
def dnW (m : Nat → Nat → Int32) (h k : Nat) (p : Int32) (F : Nat → Int32) : Int32 := if trA m k = h then nI (trD m k) else if wrV m 2 (nI (trA m k)) p (nI (trD m k)) = 0 then 1000000 else nI (trD m k) + F (trA m k)
theorem dn7 {k h : Nat} {p : Int32} {F : Nat → Int32} {M : Nat → Nat → Int32} (hS : RS m 1 43 c) (hk : k < c 3) (hh : h < 8) (hp : m 43 (838 + 4 * k + 1) = p) (hE : EqS m M) (hF : ∀ i, i < 8 → M 32 i = F i) : ∃ M' b', f_X7_dayOfNews (mkS M kp b) 0 (nI k) (nI h) = some (dnW m h k p F, mkS M' kp b') ∧ ∀ q, q ≠ 26 → M' q = M q := by
  obtain ⟨w1, w2, w3, w4, w5, w6, w7⟩ := id hS.2.2.2.2.2.1
  obtain ⟨a1, a2, -, d0, d1, d2, -⟩ := tr_of hS hk
  have e11 : M 11 = m 11 := hE.at 11 (by omega) (by omega)
  have e12 : M 12 = m 12 := hE.at 12 (by omega) (by omega)
  have t1 : M 11 0 = nI 4 := by rw [e11]; exact w1
  have t3 : M 11 3 = nI (c 3) := by rw [e11]; exact w3
  obtain ⟨M', b', ew, hM'⟩ := wor7 (kp := kp) (b := b) (u := 2) (a1 := nI (trA m k)) (a2 := p) (a3 := nI (trD m k)) (RS_S hS hE) (by omega)
  rw [wrV_S (by omega) hE] at ew
  unfold f_X7_dayOfNews dnW
  rw [if_pos io_0, gq_0_0, Option.bind_some, gq_1_5, Option.bind_some, at_11_0 t1 t3 w5 hk, Option.bind_some, Option.bind_some, gq_1_5, Option.bind_some, at_11_2 t1 t3 w5 hk, Option.bind_some, e12, d0, d2]
  by_cases c1 : trA m k = h
  · rw [if_pos c1, if_pos (show nI (trA m k) = nI h by rw [c1])]
    exact ⟨M, b, rfl, fun _ _ => rfl⟩
  · rw [if_neg c1, if_neg (fun y => c1 ((nI_eq (by omega) (by omega)).mp y)), isHouse7_eq, if_pos (hs7 a1), Option.bind_some, if_neg (show ¬ (1 : Int32) = 0 by decide), Option.bind_some, gq_1_5, Option.bind_some, at_11_1 t1 t3 w5 hk, Option.bind_some, e12, d1, hp, show (2 : Int32) = nI 2 from rfl, ew, Option.bind_some]
    dsimp only
    by_cases c2 : wrV m 2 (nI (trA m k)) p (nI (trD m k)) = 0
    · rw [if_pos c2, if_pos c2]
      exact ⟨M', b', rfl, hM'⟩
    · rw [if_neg c2, if_neg c2, gq_0_6, Option.bind_some, rd_32 a1, Option.bind_some, hM' 32 (by decide), hF _ a1]
      exact ⟨M', b', rfl, hM'⟩
theorem dn_big {h k : Nat} {p : Int32} {F : Nat → Int32} (hS : RS m 1 43 c) (hk : k < c 3) (hF : FB h 160 F) : (1000000 ≤ dnW m h k p F) ↔ (¬ trA m k = h ∧ (1000000 ≤ F (trA m k) ∨ wrV m 2 (nI (trA m k)) p (nI (trD m k)) = 0)) := by
  obtain ⟨a1, a2, -⟩ := tr_of hS hk
  obtain ⟨x, ex, hx⟩ := hF.2 (trA m k) a1
  unfold dnW
  have em : (1000000 : Int32) = nI 1000000 := rfl
  by_cases c1 : trA m k = h
  · rw [if_pos c1, em, nI_leI (by decide) (by omega)]
    exact ⟨fun y => by omega, fun y => absurd c1 y.1⟩
  · rw [if_neg c1]
    by_cases c2 : wrV m 2 (nI (trA m k)) p (nI (trD m k)) = 0
    · rw [if_pos c2]
      exact ⟨fun _ => ⟨c1, Or.inr c2⟩, fun _ => Int32.le_refl _⟩
    · rw [if_neg c2, ex, nI_add, em, nI_leI (by decide) (by omega), nI_leI (by decide) (by omega)]
      exact ⟨fun y => ⟨c1, Or.inl (by omega)⟩, fun y => by rcases y.2 with q | q; · omega
                                                           · exact absurd q c2⟩
theorem EqS_33 {M N : Nat → Nat → Int32} {C : Nat} (hC : Sc C) (h : ∀ k, k ≠ C → N k = M k) : EqS M N := ⟨fun q q1 _ => h q (fun e => q1 (e ▸ hC)), by rw [h 42 (fun e => by rw [← e] at hC; unfold Sc at hC; omega)], by rw [h 42 (fun e => by rw [← e] at hC; unfold Sc at hC; omega)]⟩
theorem kn7 {h : Nat} {p : Int32} {F : Nat → Int32} {σ : St} (hS : RS m 1 43 c) (hh : h < 8) (hF : FB h 160 F) (hR : RN m kp P 32 33 F 0 (fun _ => 0, 0) σ) (hP : ∀ b, P b) : ∃ σ', f_X7_knows_L49 0 (nI h) p 3000 0 0 σ = some (nI (c 3), nI (it (kwG m h p F) (c 3) 0 (fun _ => 0, 0)).2, σ') ∧ RN m kp P 32 33 F (c 3) (it (kwG m h p F) (c 3) 0 (fun _ => 0, 0)) σ' := by
  obtain ⟨w1, w2, w3, w4, w5, w6, w7⟩ := id hS.2.2.2.2.2.1
  exact loopY (fun l k (a : DN) σ => f_X7_knows_L49 0 (nI h) p l (nI k) (nI a.2) σ) (fun a σ => (nI (c 3), nI a.2, σ)) (fun k a σ => RN m kp P 32 33 F k a σ) (kwG m h p F) (c 3) (fun l k a σ hk hQ => by
    obtain ⟨M, b, rfl, hb, hE, hM, hD, ha⟩ := hQ
    obtain ⟨a1, a2, -, d0, d1, d2, d3⟩ := tr_of hS hk
    have e11 : M 11 = m 11 := hE.at 11 (by omega) (by omega)
    have e12 : M 12 = m 12 := hE.at 12 (by omega) (by omega)
    have t1 : M 11 0 = nI 4 := by rw [e11]; exact w1
    have t3 : M 11 3 = nI (c 3) := by rw [e11]; exact w3
    have hbig := dn_big (p := p) hS hk hF
    have hstay : RN m kp P 32 33 F (k + 1) a (mkS M kp b) := ⟨M, b, rfl, hb, hE, hM, hD, by omega⟩
    show ∃ σ', f_X7_knows_L49 0 (nI h) p (l + 1) (nI k) (nI a.2) (mkS M kp b) = f_X7_knows_L49 0 (nI h) p l (nI (k + 1)) (nI (kwG m h p F k a).2) σ' ∧ RN m kp P 32 33 F (k + 1) (kwG m h p F k a) σ'
    rw [f_X7_knows_L49, gq_0_0, Option.bind_some, gq_1_5, Option.bind_some, gI_11, Option.bind_some, t3, if_neg (nI_ge hk (by omega)), Option.bind_some, gq_1_5, Option.bind_some, at_11_3 t1 t3 w5 hk, Option.bind_some, e12, nI_a1]
    unfold kwG
    rcases d3 with ⟨d3, d4⟩ | ⟨d3, d4⟩
    · rw [d4, if_pos rfl, Option.bind_some, gq_1_5, Option.bind_some, at_11_1 t1 t3 w5 hk, Option.bind_some, e12, d1]
      by_cases c1 : m 43 (838 + 4 * k + 1) = p
      · obtain ⟨M', b', en, hM'⟩ := dn7 (kp := kp) (b := b) (F := F) hS hk hh c1 hE hM
        have hE' := hE.trans (EqS_26 hM')
        rw [if_pos c1, en, Option.bind_some, if_pos (show m 43 (838 + 4 * k + 3) = 0 ∧ m 43 (838 + 4 * k + 1) = p from ⟨d3, c1⟩)]
        dsimp only
        have hst : RN m kp P 32 33 F (k + 1) a (mkS M' kp b') := ⟨M', b', rfl, hP b', hE', fun i hi => by rw [hM' 32 (by decide)]; exact hM i hi, fun i hi => by rw [hM' 33 (by decide)]; exact hD i hi, by omega⟩
        by_cases c2 : 1000000 ≤ dnW m h k p F
        · obtain ⟨n1, n2⟩ := hbig.mp c2
          rw [if_pos c2, if_neg n1]
          by_cases c3 : 1000000 ≤ F (trA m k)
          · rw [if_pos c3]; exact ⟨_, rfl, hst⟩
          · rw [if_neg c3, if_pos (n2.resolve_left c3)]; exact ⟨_, rfl, hst⟩
        · rw [if_neg c2]
          obtain ⟨M2, ei, j1, j2⟩ := ins7 (kp := kp) (b := b') (M := M') (d := dnW m h k p F) (D := a.1) (show a.2 < 30 by omega) (fun i hi => by rw [hM' 33 (by decide)]; exact hD i hi)
          rw [ei, Option.bind_some, nI_a1]
          have hres : RN m kp P 32 33 F (k + 1) (kwI a (dnW m h k p F)) (mkS M2 kp b') := ⟨M2, b', rfl, hP b', hE'.trans (EqS_33 sc33 j1), fun i hi => by rw [j1 32 (by decide), hM' 32 (by decide)]; exact hM i hi, j2, by show a.2 + 1 ≤ k + 1; omega⟩
          by_cases c3 : trA m k = h
          · rw [if_pos c3]
            rw [show dnW m h k p F = nI (trD m k) from if_pos c3] at hres
            exact ⟨_, rfl, hres⟩
          · have n1 : ¬ 1000000 ≤ F (trA m k) := fun y => c2 (hbig.mpr ⟨c3, Or.inl y⟩)
            have n2 : ¬ wrV m 2 (nI (trA m k)) p (nI (trD m k)) = 0 := fun y => c2 (hbig.mpr ⟨c3, Or.inr y⟩)
            rw [if_neg c3, if_neg n1, if_neg n2]
            rw [show dnW m h k p F = nI (trD m k) + F (trA m k) from (if_neg c3).trans (if_neg n2)] at hres
            exact ⟨_, rfl, hres⟩
      · rw [if_neg c1, if_neg (fun y => c1 y.2)]
        exact ⟨_, rfl, hstay⟩
    · rw [d4, if_neg (show ¬ (0 : Int32) = 1 by decide), if_neg (fun y => by rw [d3] at y; exact absurd y.1 (by decide))]
      exact ⟨_, rfl, hstay⟩) (fun l a σ hQ => by
    obtain ⟨M, b, rfl, hb, hE, hM, hD, ha⟩ := hQ
    have t3 : M 11 3 = nI (c 3) := by rw [hE.at 11 (by omega) (by omega)]; exact w3
    show f_X7_knows_L49 0 (nI h) p (l + 1) (nI (c 3)) (nI a.2) (mkS M kp b) = _
    rw [f_X7_knows_L49, gq_0_0, Option.bind_some, gq_1_5, Option.bind_some, gI_11, Option.bind_some, t3, if_pos (Int32.le_refl _)]) (c 3) 0 3000 (fun _ => 0, 0) σ (by omega) (by omega) hR
theorem ixTk {k : Nat} : (838 : Int32) + ((4 : Int32) * nI k) = nI (838 + 4 * k) := by
  rw [show (838 : Int32) = nI 838 from rfl, show (4 : Int32) = nI 4 from rfl, pk_mul, nI_add]
theorem kn8 {h : Nat} {p : Int32} {F : Nat → Int32} {σ : St} (hS : RS m 1 43 c) (hh : h < 8) (hF : FB h 160 F) (hR : RN m kp P 52 53 F 0 (fun _ => 0, 0) σ) : ∃ σ', f_X8_knows_L46 42 (nI h) p 3000 838 0 σ = some (nI (838 + 4 * c 3), nI (it (kwG m h p F) (c 3) 0 (fun _ => 0, 0)).2, σ') ∧ RN m kp P 52 53 F (c 3) (it (kwG m h p F) (c 3) 0 (fun _ => 0, 0)) σ' := by
  obtain ⟨w1, w2, w3, w4, w5, w6, w7⟩ := id hS.2.2.2.2.2.1
  exact loopY (fun l k (a : DN) σ => f_X8_knows_L46 42 (nI h) p l (nI (838 + 4 * k)) (nI a.2) σ) (fun a σ => (nI (838 + 4 * c 3), nI a.2, σ)) (fun k a σ => RN m kp P 52 53 F k a σ) (kwG m h p F) (c 3) (fun l k a σ hk hQ => by
    obtain ⟨M, b, rfl, hb, hE, hM, hD, ha⟩ := hQ
    obtain ⟨a1, a2, ⟨d0, d2⟩, -, -, -, d3⟩ := tr_of hS hk
    have e43 : M 43 = m 43 := hE.at 43 (by omega) (by omega)
    have t3 : M 43 3 = nI (c 3) := by rw [e43]; exact w4
    have x2 : nI (838 + 4 * k) + 2 = nI (838 + 4 * k + 2) := nI_add _ 2
    have x3 : nI (838 + 4 * k) + 3 = nI (838 + 4 * k + 3) := nI_add _ 3
    have x4 : nI (838 + 4 * k) + 4 = nI (838 + 4 * (k + 1)) := nI_add _ 4
    have hstay : RN m kp P 52 53 F (k + 1) a (mkS M kp b) := ⟨M, b, rfl, hb, hE, hM, hD, by omega⟩
    show ∃ σ', f_X8_knows_L46 42 (nI h) p (l + 1) (nI (838 + 4 * k)) (nI a.2) (mkS M kp b) = f_X8_knows_L46 42 (nI h) p l (nI (838 + 4 * (k + 1))) (nI (kwG m h p F k a).2) σ' ∧ RN m kp P 52 53 F (k + 1) (kwG m h p F k a) σ'
    rw [f_X8_knows_L46, gq_42_0, Option.bind_some, rdl_3, Option.bind_some, t3, ixTk, if_neg (nI_ge (show 838 + 4 * k < 838 + 4 * c 3 by omega) (by omega)), Option.bind_some, rd_43 (show 838 + 4 * k < 1234 by omega), Option.bind_some, e43, d0, Option.bind_some, nI_a1, x2, x3, x4, rd_43 (show 838 + 4 * k + 1 < 1234 by omega), Option.bind_some, e43]
    unfold kwG
    by_cases c1 : m 43 (838 + 4 * k + 1) = p
    · rw [if_pos c1, Option.bind_some, rd_43 (show 838 + 4 * k + 3 < 1234 by omega), Option.bind_some, e43]
      rcases d3 with ⟨d3, -⟩ | ⟨d3, -⟩
      · rw [d3, if_pos rfl, if_pos (show (0 : Int32) = 0 ∧ m 43 (838 + 4 * k + 1) = p from ⟨rfl, c1⟩), gq_42_17, Option.bind_some, rd_52 a1, Option.bind_some, hM _ a1]
        obtain ⟨x, ex, hx⟩ := hF.2 (trA m k) a1
        by_cases c2 : 1000000 ≤ F (trA m k)
        · have c3 : ¬ trA m k = h := fun y => by rw [y, hF.1] at c2; exact absurd c2 (by decide)
          rw [if_pos c2, if_neg c3, if_pos c2]
          exact ⟨_, rfl, hstay⟩
        · rw [if_neg c2]
          by_cases c3 : trA m k = h
          · have eF : F (trA m k) = 0 := by rw [c3]; exact hF.1
            obtain ⟨q, M1, M2, ei, es, j1, j2⟩ := ins8 (kp := kp) (b := b) (d := nI (trD m k)) (D := a.1) (show a.2 < 30 by omega) hD
            rw [if_pos c3, if_pos (show nI (trA m k) = nI h by rw [c3]), Option.bind_some, rd_43 (show 838 + 4 * k + 2 < 1234 by omega), Option.bind_some, Option.bind_some, rd_52 a1, Option.bind_some, e43, d2, hM _ a1, eF, Int32.add_zero, ei, Option.bind_some]
            dsimp only
            rw [gq_42_18, Option.bind_some, es, Option.bind_some, nI_a1]
            exact ⟨_, rfl, M2, b, rfl, hb, hE.trans (EqS_33 sc53 j1), fun i hi => by rw [j1 52 (by decide)]; exact hM i hi, j2, by show a.2 + 1 ≤ k + 1; omega⟩
          · obtain ⟨M', ew, hM'⟩ := giv8 (kp := kp) (b := b) (u := 2) (a1 := nI (trA m k)) (a2 := p) (a3 := nI (trD m k)) (RS_S hS hE) (by omega)
            rw [wrV_S (by omega) hE] at ew
            have e43' : M' 43 = m 43 := (hM' 43 (by decide) (by decide)).trans e43
            have hE' := hE.trans (EqS_48 hM')
            rw [if_neg c3, if_neg (fun y => c3 ((nI_eq (by omega) (by omega)).mp y)), Option.bind_some, rd_43 (show 838 + 4 * k + 2 < 1234 by omega), Option.bind_some, e43, d2, show f_X8_given (mkS M kp b) 42 2 (nI (trA m k)) p (nI (trD m k)) = _ from ew, Option.bind_some]
            dsimp only
            by_cases c4 : wrV m 2 (nI (trA m k)) p (nI (trD m k)) = 0
            · rw [if_pos c4, if_pos c4, if_pos rfl, if_neg c2]
              exact ⟨_, rfl, M', b, rfl, hb, hE', fun i hi => by rw [hM' 52 (by decide) (by decide)]; exact hM i hi, fun i hi => by rw [hM' 53 (by decide) (by decide)]; exact hD i hi, by omega⟩
            · obtain ⟨q, M1, M2, ei, es, j1, j2⟩ := ins8 (kp := kp) (b := b) (M := M') (d := nI (trD m k) + F (trA m k)) (D := a.1) (show a.2 < 30 by omega) (fun i hi => by rw [hM' 53 (by decide) (by decide)]; exact hD i hi)
              rw [if_neg c4, if_neg c4, if_neg (show ¬ (1 : Int32) = 0 by decide), if_neg c2, gq_42_0, Option.bind_some, rd_43 (show 838 + 4 * k + 2 < 1234 by omega), Option.bind_some, e43', d2, gq_42_17, Option.bind_some, rd_52 a1, Option.bind_some, hM' 52 (by decide) (by decide), hM _ a1, ei, Option.bind_some]
              dsimp only
              rw [gq_42_18, Option.bind_some, es, Option.bind_some, nI_a1]
              exact ⟨_, rfl, M2, b, rfl, hb, hE'.trans (EqS_33 sc53 j1), fun i hi => by rw [j1 52 (by decide), hM' 52 (by decide) (by decide)]; exact hM i hi, j2, by show a.2 + 1 ≤ k + 1; omega⟩
      · rw [d3, if_neg (show ¬ (1 : Int32) = 0 by decide), if_neg (fun y => absurd y.1 (by decide))]
        exact ⟨_, rfl, hstay⟩
    · rw [if_neg c1, if_neg (fun y => c1 y.2)]
      exact ⟨_, rfl, hstay⟩) (fun l a σ hQ => by
    obtain ⟨M, b, rfl, hb, hE, hM, hD, ha⟩ := hQ
    have t3 : M 43 3 = nI (c 3) := by rw [hE.at 43 (by omega) (by omega)]; exact w4
    show f_X8_knows_L46 42 (nI h) p (l + 1) (nI (838 + 4 * c 3)) (nI a.2) (mkS M kp b) = _
    rw [f_X8_knows_L46, gq_42_0, Option.bind_some, rdl_3, Option.bind_some, t3, ixTk, if_pos (Int32.le_refl _)]) (c 3) 0 3000 (fun _ => 0, 0) σ (by omega) (by omega) hR
theorem kw7 {h : Nat} {p : Int32} (hS : RS m 1 43 c) (hh : h < 8) : ∃ σ0 M b', f_X7_findBehind (mkS m kp b) 0 (nI h) = some σ0 ∧ f_X7_knows_L49 0 (nI h) p 3000 0 0 σ0 = some (nI (c 3), nI (kwR m (c 2) (c 3) h p).2, mkS M kp b') ∧ EqS m M ∧ (∀ i, i < (kwR m (c 2) (c 3) h p).2 → M 33 i = (kwR m (c 2) (c 3) h p).1 i) ∧ (kwR m (c 2) (c 3) h p).2 ≤ c 3 := by
  obtain ⟨σ0, e0, M0, b0, rfl, -, hE0, hF0⟩ := beh7 (kp := kp) (P := fun _ => True) (σ := mkS m kp b) hS hh ⟨m, b, rfl, trivial, EqS.rfl', fun i hi => by omega⟩
  obtain ⟨σ1, e1, M1, b1, rfl, -, hE1, -, hD, hc⟩ := kn7 (kp := kp) (P := fun _ => True) (p := p) hS hh (FB_far hS hh) ⟨M0, b0, rfl, trivial, hE0, hF0, fun i hi => by exact absurd hi (Nat.not_lt_zero i), Nat.le_refl 0⟩ (fun _ => trivial)
  exact ⟨_, M1, b1, e0, e1, hE1, hD, hc⟩
theorem kw8 {h : Nat} {p : Int32} (hS : RS m 1 43 c) (hh : h < 8) : ∃ σ0 M, f_X8_findFar (mkS m kp b) 42 (nI h) = some σ0 ∧ f_X8_knows_L46 42 (nI h) p 3000 838 0 σ0 = some (nI (838 + 4 * c 3), nI (kwR m (c 2) (c 3) h p).2, mkS M kp b) ∧ EqS m M ∧ (∀ i, i < (kwR m (c 2) (c 3) h p).2 → M 53 i = (kwR m (c 2) (c 3) h p).1 i) := by
  obtain ⟨σ0, e0, M0, b0, rfl, rfl, hE0, hF0⟩ := far8 (kp := kp) (P := fun q => q = b) (σ := mkS m kp b) hS hh ⟨m, b, rfl, rfl, EqS.rfl', fun i hi => by omega⟩
  obtain ⟨σ1, e1, M1, b1, rfl, rfl, hE1, -, hD, hc⟩ := kn8 (kp := kp) (P := fun q => q = b0) (p := p) hS hh (FB_far hS hh) ⟨M0, b0, rfl, rfl, hE0, hF0, fun i hi => by exact absurd hi (Nat.not_lt_zero i), Nat.le_refl 0⟩
  exact ⟨_, M1, e0, e1, hE1, hD⟩
theorem kwR_fr {M : Nat → Nat → Int32} (h : M 43 = m 43) (hw : wrV M 2 = wrV m 2) : kwR M = kwR m := by
  have : kwG M = kwG m := by funext x p F k a; unfold kwG trA trD; rw [h, hw]
  funext n2 n3 x p
  unfold kwR
  rw [this, farF_fr h]
theorem op_knows (a v w : Int32) : OpR (fun σ => f_X7_knows σ 0 a v w) (fun σ => f_X8_knows σ 42 a v w) := by
  intro m kp b z hR
  obtain ⟨⟨c, hS⟩, -⟩ := id hR
  obtain ⟨w1, w2, w3, w4, w5, w6, w7⟩ := id hS.2.2.1
  have hc3 : c 3 ≤ 30 := hS.2.2.2.2.2.1.2.2.2.2.1
  have w4e : ∀ k v, st1 m 30 k v 43 0 = nI (c 0) := fun k v => e43 w4
  by_cases ha : 0 ≤ a ∧ a ≤ 7
  · by_cases hv : 0 ≤ v ∧ v < nI (c 0)
    · by_cases hw : 1 ≤ w ∧ w ≤ 30
      · obtain ⟨h, -, hh, rfl⟩ := ex_rng (lo := 0) (hi := 7) (by decide) ha (by decide)
        obtain ⟨x, hx1, hx, rfl⟩ := ex_rng (lo := 1) (hi := 30) (by decide) hw (by decide)
        have ex : nI x - 1 = nI (x - 1) := subj hx1
        obtain ⟨σ0, M1, b1, e0, e1, hE1, hD1, hn1⟩ := kw7 (kp := kp) (b := b) (p := v) hS (show h < 8 by omega)
        have h43 : M1 43 = m 43 := hE1.at 43 (by omega) (by omega)
        by_cases hle : x ≤ (kwR m (c 2) (c 3) h v).2
        · obtain ⟨σ8, M2, e8, e9, hE2, hD2⟩ := kw8 (kp := kp) (b := b1) (p := v) (RS_S hS hE1) (show h < 8 by omega)
          rw [kwR_fr h43 (wrV_S (by omega) hE1)] at e9 hD2
          refine ⟨(kwR m (c 2) (c 3) h v).1 (x - 1), M1, kp, b1, M2, ?_, ?_, (RR_scr hR (hE1.trans hE2)).up⟩
          · show f_X7_knows (mkS m kp b) 0 (nI h) v (nI x) = _
            unfold f_X7_knows
            rw [if_pos io_0, isHouse7_eq, if_pos ha, Option.bind_some, if_neg (show ¬ (1 : Int32) = 0 by decide), gq_0_0, Option.bind_some, gq_1_1, Option.bind_some, has_4 w3, if_pos hv, Option.bind_some, if_neg (show ¬ (1 : Int32) = 0 by decide), outside_eq, if_pos hw, Option.bind_some, if_pos rfl, e0, Option.bind_some, e1, Option.bind_some]
            dsimp only
            rw [if_pos (nI_le hle (by omega)), gq_0_7, Option.bind_some, ex, rd_33 (show x - 1 < 30 by omega), Option.bind_some, hD1 (x - 1) (by omega)]
          · show f_X8_knows (mkS M1 kp b1) 42 (nI h) v (nI x) = _
            unfold f_X8_knows
            rw [if_pos io_42, isHouse8_eq, if_pos ha, Option.bind_some, if_neg (show ¬ (1 : Int32) = 0 by decide), is_0 (show M1 43 0 = nI (c 0) by rw [h43]; exact w4) (show c 0 ≤ 1000 by omega), if_pos hv, Option.bind_some, if_neg (show ¬ (1 : Int32) = 0 by decide), within_eq, if_pos hw, Option.bind_some, if_neg (show ¬ (1 : Int32) = 0 by decide), e8, Option.bind_some, e9, Option.bind_some]
            dsimp only
            rw [if_neg (nI_nlt hle (by omega)), gq_42_18, Option.bind_some, ex, rd_53 (show x - 1 < 30 by omega), Option.bind_some, hD2 (x - 1) (by omega)]
        · obtain ⟨A, eA⟩ : ∃ A, A = st1 M1 30 2 (M1 30 2 + 1) := ⟨_, rfl⟩
          have hSA : RS A 1 43 c := (RS_S hS hE1).fr (fun k _ _ => by rw [eA, st1_ne (by omega)]) (by rw [eA, st1_ne (by decide)])
          have hA43 : A 43 = m 43 := by rw [eA, st1_ne (by decide)]; exact h43
          have hWA : wrV A 2 = wrV m 2 := (wrV_fr (by rw [eA, st1_ne (by decide)]) (by rw [eA, st1_ne (by decide)])).trans (wrV_S (by omega) hE1)
          obtain ⟨σ8, M2, e8, e9, hE2, hD2⟩ := kw8 (kp := kp) (b := b1) (p := v) hSA (show h < 8 by omega)
          rw [kwR_fr hA43 hWA] at e9 hD2
          refine ⟨-1000002, A, kp, b1, st1 M2 45 2 (M2 45 2 + 1), ?_, ?_, ?_⟩
          · show f_X7_knows (mkS m kp b) 0 (nI h) v (nI x) = _
            unfold f_X7_knows
            rw [if_pos io_0, isHouse7_eq, if_pos ha, Option.bind_some, if_neg (show ¬ (1 : Int32) = 0 by decide), gq_0_0, Option.bind_some, gq_1_1, Option.bind_some, has_4 w3, if_pos hv, Option.bind_some, if_neg (show ¬ (1 : Int32) = 0 by decide), outside_eq, if_pos hw, Option.bind_some, if_pos rfl, e0, Option.bind_some, e1, Option.bind_some]
            dsimp only
            rw [if_neg (nI_ge (by omega) (by omega)), fails_2, Option.bind_some, eA]
          · show f_X8_knows (mkS A kp b1) 42 (nI h) v (nI x) = _
            unfold f_X8_knows
            rw [if_pos io_42, isHouse8_eq, if_pos ha, Option.bind_some, if_neg (show ¬ (1 : Int32) = 0 by decide), is_0 (show A 43 0 = nI (c 0) by rw [hA43]; exact w4) (show c 0 ≤ 1000 by omega), if_pos hv, Option.bind_some, if_neg (show ¬ (1 : Int32) = 0 by decide), within_eq, if_pos hw, Option.bind_some, if_neg (show ¬ (1 : Int32) = 0 by decide), e8, Option.bind_some, e9, Option.bind_some]
            dsimp only
            rw [if_pos (nI_lt (by omega) (by omega)), finds_2, Option.bind_some]
          · have hErr := RR_err (z' := z + 1) (k := 2) (RR_scr hR hE1) (Nat.le_succ z) (by decide)
            rw [← eA] at hErr
            have e45 : M2 45 = A 45 := hE2.at 45 (by omega) (by omega)
            refine RR_scr hErr ⟨fun q q1 q2 => ?_, by rw [st1_ne (by decide), st1_ne (by decide)]; exact hE2.2.1, by rw [st1_ne (by decide), st1_ne (by decide)]; exact hE2.2.2⟩
            by_cases q45 : q = 45
            · subst q45
              funext f
              rw [st1_app, st1_app, e45]
            · rw [st1_ne q45, st1_ne q45]
              exact hE2.1 q q1 q2
      · refine op_err1 (k := 1) (e := -1000001) (by decide) hR ?_ ?_
        · show f_X7_knows (mkS m kp b) 0 a v w = _
          unfold f_X7_knows
          simp only [io_0, gI_0, pI_0, pZ_0, io_1, gI_1, pI_1, pZ_1, io_2, gI_2, pI_2, pZ_2, aL_3, io_4, gI_4, pI_4, pZ_4, aL_5, io_6, gI_6, pI_6, pZ_6, aL_7, aL_8, io_9, gI_9, pI_9, pZ_9, aL_10, io_11, gI_11, pI_11, pZ_11, aL_12, io_13, gI_13, pI_13, pZ_13, aL_14, io_15, gI_15, pI_15, pZ_15, aL_16, io_17, gI_17, pI_17, pZ_17, aL_18, aL_19, io_20, gI_20, pI_20, pZ_20, aL_21, io_22, gI_22, pI_22, pZ_22, aL_23, io_24, gI_24, pI_24, pZ_24, aL_25, io_26, gI_26, pI_26, pZ_26, io_27, gI_27, pI_27, pZ_27, aL_28, aL_29, aL_30, aL_31, aL_32, aL_33, io_34, gI_34, pI_34, pZ_34, aL_35, io_36, gI_36, pI_36, pZ_36, aL_37, io_38, gI_38, pI_38, pZ_38, aL_39, io_40, gI_40, pI_40, pZ_40, aL_41, io_42, gI_42, pI_42, pZ_42, aL_43, aL_44, aL_45, aL_46, aL_47, aL_48, aL_49, aL_50, aL_51, aL_52, aL_53, aL_54, aL_55, aL_56, aL_57, aL_58, gq_0_0, gq_0_1, gq_0_2, gq_0_3, gq_0_4, gq_0_5, gq_0_6, gq_0_7, gq_1_0, gq_1_1, gq_1_2, gq_1_3, gq_1_4, gq_1_5, gq_1_6, gq_1_7, gq_1_8, gq_1_9, gq_2_2, gq_4_2, gq_6_2, gq_9_2, gq_11_2, gq_13_2, gq_15_2, gq_17_0, gq_20_0, gq_22_0, gq_24_0, gq_27_0, gq_34_0, gq_36_0, gq_38_0, gq_40_0, gq_42_0, gq_42_1, gq_42_3, gq_42_4, gq_42_11, gq_42_12, gq_42_13, gq_42_15, gq_42_16, gq_42_17, gq_42_18, gq_42_19, gq_42_23, gq_42_24, gq_42_25, gq_42_26, aQ_29_0, aQ_29_1, aQ_29_2, aQ_29_3, aQ_19_0, aQ_19_1, aQ_19_2, aQ_46_0, aQ_46_1, aQ_46_2, gq_26, gr_26, gr_0_8, pQ_26, Option.bind_some, ↓reduceIte, one_ne0, isHouse7_eq, if_pos ha, has_4 w3, if_pos hv, outside_eq, if_neg hw, fails_1]
          try simp
        · show f_X8_knows (mkS _ kp b) 42 a v w = _
          unfold f_X8_knows
          simp only [io_0, gI_0, pI_0, pZ_0, io_1, gI_1, pI_1, pZ_1, io_2, gI_2, pI_2, pZ_2, aL_3, io_4, gI_4, pI_4, pZ_4, aL_5, io_6, gI_6, pI_6, pZ_6, aL_7, aL_8, io_9, gI_9, pI_9, pZ_9, aL_10, io_11, gI_11, pI_11, pZ_11, aL_12, io_13, gI_13, pI_13, pZ_13, aL_14, io_15, gI_15, pI_15, pZ_15, aL_16, io_17, gI_17, pI_17, pZ_17, aL_18, aL_19, io_20, gI_20, pI_20, pZ_20, aL_21, io_22, gI_22, pI_22, pZ_22, aL_23, io_24, gI_24, pI_24, pZ_24, aL_25, io_26, gI_26, pI_26, pZ_26, io_27, gI_27, pI_27, pZ_27, aL_28, aL_29, aL_30, aL_31, aL_32, aL_33, io_34, gI_34, pI_34, pZ_34, aL_35, io_36, gI_36, pI_36, pZ_36, aL_37, io_38, gI_38, pI_38, pZ_38, aL_39, io_40, gI_40, pI_40, pZ_40, aL_41, io_42, gI_42, pI_42, pZ_42, aL_43, aL_44, aL_45, aL_46, aL_47, aL_48, aL_49, aL_50, aL_51, aL_52, aL_53, aL_54, aL_55, aL_56, aL_57, aL_58, gq_0_0, gq_0_1, gq_0_2, gq_0_3, gq_0_4, gq_0_5, gq_0_6, gq_0_7, gq_1_0, gq_1_1, gq_1_2, gq_1_3, gq_1_4, gq_1_5, gq_1_6, gq_1_7, gq_1_8, gq_1_9, gq_2_2, gq_4_2, gq_6_2, gq_9_2, gq_11_2, gq_13_2, gq_15_2, gq_17_0, gq_20_0, gq_22_0, gq_24_0, gq_27_0, gq_34_0, gq_36_0, gq_38_0, gq_40_0, gq_42_0, gq_42_1, gq_42_3, gq_42_4, gq_42_11, gq_42_12, gq_42_13, gq_42_15, gq_42_16, gq_42_17, gq_42_18, gq_42_19, gq_42_23, gq_42_24, gq_42_25, gq_42_26, aQ_29_0, aQ_29_1, aQ_29_2, aQ_29_3, aQ_19_0, aQ_19_1, aQ_19_2, aQ_46_0, aQ_46_1, aQ_46_2, gq_26, gr_26, gr_0_8, pQ_26, Option.bind_some, ↓reduceIte, one_ne0, isHouse8_eq, if_pos ha, is_0 (w4e _ _) (show c 0 ≤ 1000 by omega), if_pos hv, within_eq, if_neg hw, finds_1]
          try simp
    · refine op_err1 (k := 1) (e := -1000001) (by decide) hR ?_ ?_
      · show f_X7_knows (mkS m kp b) 0 a v w = _
        unfold f_X7_knows
        simp only [io_0, gI_0, pI_0, pZ_0, io_1, gI_1, pI_1, pZ_1, io_2, gI_2, pI_2, pZ_2, aL_3, io_4, gI_4, pI_4, pZ_4, aL_5, io_6, gI_6, pI_6, pZ_6, aL_7, aL_8, io_9, gI_9, pI_9, pZ_9, aL_10, io_11, gI_11, pI_11, pZ_11, aL_12, io_13, gI_13, pI_13, pZ_13, aL_14, io_15, gI_15, pI_15, pZ_15, aL_16, io_17, gI_17, pI_17, pZ_17, aL_18, aL_19, io_20, gI_20, pI_20, pZ_20, aL_21, io_22, gI_22, pI_22, pZ_22, aL_23, io_24, gI_24, pI_24, pZ_24, aL_25, io_26, gI_26, pI_26, pZ_26, io_27, gI_27, pI_27, pZ_27, aL_28, aL_29, aL_30, aL_31, aL_32, aL_33, io_34, gI_34, pI_34, pZ_34, aL_35, io_36, gI_36, pI_36, pZ_36, aL_37, io_38, gI_38, pI_38, pZ_38, aL_39, io_40, gI_40, pI_40, pZ_40, aL_41, io_42, gI_42, pI_42, pZ_42, aL_43, aL_44, aL_45, aL_46, aL_47, aL_48, aL_49, aL_50, aL_51, aL_52, aL_53, aL_54, aL_55, aL_56, aL_57, aL_58, gq_0_0, gq_0_1, gq_0_2, gq_0_3, gq_0_4, gq_0_5, gq_0_6, gq_0_7, gq_1_0, gq_1_1, gq_1_2, gq_1_3, gq_1_4, gq_1_5, gq_1_6, gq_1_7, gq_1_8, gq_1_9, gq_2_2, gq_4_2, gq_6_2, gq_9_2, gq_11_2, gq_13_2, gq_15_2, gq_17_0, gq_20_0, gq_22_0, gq_24_0, gq_27_0, gq_34_0, gq_36_0, gq_38_0, gq_40_0, gq_42_0, gq_42_1, gq_42_3, gq_42_4, gq_42_11, gq_42_12, gq_42_13, gq_42_15, gq_42_16, gq_42_17, gq_42_18, gq_42_19, gq_42_23, gq_42_24, gq_42_25, gq_42_26, aQ_29_0, aQ_29_1, aQ_29_2, aQ_29_3, aQ_19_0, aQ_19_1, aQ_19_2, aQ_46_0, aQ_46_1, aQ_46_2, gq_26, gr_26, gr_0_8, pQ_26, Option.bind_some, ↓reduceIte, one_ne0, isHouse7_eq, if_pos ha, has_4 w3, if_neg hv, fails_1]
        try simp
      · show f_X8_knows (mkS _ kp b) 42 a v w = _
        unfold f_X8_knows
        simp only [io_0, gI_0, pI_0, pZ_0, io_1, gI_1, pI_1, pZ_1, io_2, gI_2, pI_2, pZ_2, aL_3, io_4, gI_4, pI_4, pZ_4, aL_5, io_6, gI_6, pI_6, pZ_6, aL_7, aL_8, io_9, gI_9, pI_9, pZ_9, aL_10, io_11, gI_11, pI_11, pZ_11, aL_12, io_13, gI_13, pI_13, pZ_13, aL_14, io_15, gI_15, pI_15, pZ_15, aL_16, io_17, gI_17, pI_17, pZ_17, aL_18, aL_19, io_20, gI_20, pI_20, pZ_20, aL_21, io_22, gI_22, pI_22, pZ_22, aL_23, io_24, gI_24, pI_24, pZ_24, aL_25, io_26, gI_26, pI_26, pZ_26, io_27, gI_27, pI_27, pZ_27, aL_28, aL_29, aL_30, aL_31, aL_32, aL_33, io_34, gI_34, pI_34, pZ_34, aL_35, io_36, gI_36, pI_36, pZ_36, aL_37, io_38, gI_38, pI_38, pZ_38, aL_39, io_40, gI_40, pI_40, pZ_40, aL_41, io_42, gI_42, pI_42, pZ_42, aL_43, aL_44, aL_45, aL_46, aL_47, aL_48, aL_49, aL_50, aL_51, aL_52, aL_53, aL_54, aL_55, aL_56, aL_57, aL_58, gq_0_0, gq_0_1, gq_0_2, gq_0_3, gq_0_4, gq_0_5, gq_0_6, gq_0_7, gq_1_0, gq_1_1, gq_1_2, gq_1_3, gq_1_4, gq_1_5, gq_1_6, gq_1_7, gq_1_8, gq_1_9, gq_2_2, gq_4_2, gq_6_2, gq_9_2, gq_11_2, gq_13_2, gq_15_2, gq_17_0, gq_20_0, gq_22_0, gq_24_0, gq_27_0, gq_34_0, gq_36_0, gq_38_0, gq_40_0, gq_42_0, gq_42_1, gq_42_3, gq_42_4, gq_42_11, gq_42_12, gq_42_13, gq_42_15, gq_42_16, gq_42_17, gq_42_18, gq_42_19, gq_42_23, gq_42_24, gq_42_25, gq_42_26, aQ_29_0, aQ_29_1, aQ_29_2, aQ_29_3, aQ_19_0, aQ_19_1, aQ_19_2, aQ_46_0, aQ_46_1, aQ_46_2, gq_26, gr_26, gr_0_8, pQ_26, Option.bind_some, ↓reduceIte, one_ne0, isHouse8_eq, if_pos ha, is_0 (w4e _ _) (show c 0 ≤ 1000 by omega), if_neg hv, finds_1]
        try simp
  · refine op_err1 (k := 1) (e := -1000001) (by decide) hR ?_ ?_
    · show f_X7_knows (mkS m kp b) 0 a v w = _
      unfold f_X7_knows
      simp only [io_0, gI_0, pI_0, pZ_0, io_1, gI_1, pI_1, pZ_1, io_2, gI_2, pI_2, pZ_2, aL_3, io_4, gI_4, pI_4, pZ_4, aL_5, io_6, gI_6, pI_6, pZ_6, aL_7, aL_8, io_9, gI_9, pI_9, pZ_9, aL_10, io_11, gI_11, pI_11, pZ_11, aL_12, io_13, gI_13, pI_13, pZ_13, aL_14, io_15, gI_15, pI_15, pZ_15, aL_16, io_17, gI_17, pI_17, pZ_17, aL_18, aL_19, io_20, gI_20, pI_20, pZ_20, aL_21, io_22, gI_22, pI_22, pZ_22, aL_23, io_24, gI_24, pI_24, pZ_24, aL_25, io_26, gI_26, pI_26, pZ_26, io_27, gI_27, pI_27, pZ_27, aL_28, aL_29, aL_30, aL_31, aL_32, aL_33, io_34, gI_34, pI_34, pZ_34, aL_35, io_36, gI_36, pI_36, pZ_36, aL_37, io_38, gI_38, pI_38, pZ_38, aL_39, io_40, gI_40, pI_40, pZ_40, aL_41, io_42, gI_42, pI_42, pZ_42, aL_43, aL_44, aL_45, aL_46, aL_47, aL_48, aL_49, aL_50, aL_51, aL_52, aL_53, aL_54, aL_55, aL_56, aL_57, aL_58, gq_0_0, gq_0_1, gq_0_2, gq_0_3, gq_0_4, gq_0_5, gq_0_6, gq_0_7, gq_1_0, gq_1_1, gq_1_2, gq_1_3, gq_1_4, gq_1_5, gq_1_6, gq_1_7, gq_1_8, gq_1_9, gq_2_2, gq_4_2, gq_6_2, gq_9_2, gq_11_2, gq_13_2, gq_15_2, gq_17_0, gq_20_0, gq_22_0, gq_24_0, gq_27_0, gq_34_0, gq_36_0, gq_38_0, gq_40_0, gq_42_0, gq_42_1, gq_42_3, gq_42_4, gq_42_11, gq_42_12, gq_42_13, gq_42_15, gq_42_16, gq_42_17, gq_42_18, gq_42_19, gq_42_23, gq_42_24, gq_42_25, gq_42_26, aQ_29_0, aQ_29_1, aQ_29_2, aQ_29_3, aQ_19_0, aQ_19_1, aQ_19_2, aQ_46_0, aQ_46_1, aQ_46_2, gq_26, gr_26, gr_0_8, pQ_26, Option.bind_some, ↓reduceIte, one_ne0, isHouse7_eq, if_neg ha, fails_1]
      try simp
    · show f_X8_knows (mkS _ kp b) 42 a v w = _
      unfold f_X8_knows
      simp only [io_0, gI_0, pI_0, pZ_0, io_1, gI_1, pI_1, pZ_1, io_2, gI_2, pI_2, pZ_2, aL_3, io_4, gI_4, pI_4, pZ_4, aL_5, io_6, gI_6, pI_6, pZ_6, aL_7, aL_8, io_9, gI_9, pI_9, pZ_9, aL_10, io_11, gI_11, pI_11, pZ_11, aL_12, io_13, gI_13, pI_13, pZ_13, aL_14, io_15, gI_15, pI_15, pZ_15, aL_16, io_17, gI_17, pI_17, pZ_17, aL_18, aL_19, io_20, gI_20, pI_20, pZ_20, aL_21, io_22, gI_22, pI_22, pZ_22, aL_23, io_24, gI_24, pI_24, pZ_24, aL_25, io_26, gI_26, pI_26, pZ_26, io_27, gI_27, pI_27, pZ_27, aL_28, aL_29, aL_30, aL_31, aL_32, aL_33, io_34, gI_34, pI_34, pZ_34, aL_35, io_36, gI_36, pI_36, pZ_36, aL_37, io_38, gI_38, pI_38, pZ_38, aL_39, io_40, gI_40, pI_40, pZ_40, aL_41, io_42, gI_42, pI_42, pZ_42, aL_43, aL_44, aL_45, aL_46, aL_47, aL_48, aL_49, aL_50, aL_51, aL_52, aL_53, aL_54, aL_55, aL_56, aL_57, aL_58, gq_0_0, gq_0_1, gq_0_2, gq_0_3, gq_0_4, gq_0_5, gq_0_6, gq_0_7, gq_1_0, gq_1_1, gq_1_2, gq_1_3, gq_1_4, gq_1_5, gq_1_6, gq_1_7, gq_1_8, gq_1_9, gq_2_2, gq_4_2, gq_6_2, gq_9_2, gq_11_2, gq_13_2, gq_15_2, gq_17_0, gq_20_0, gq_22_0, gq_24_0, gq_27_0, gq_34_0, gq_36_0, gq_38_0, gq_40_0, gq_42_0, gq_42_1, gq_42_3, gq_42_4, gq_42_11, gq_42_12, gq_42_13, gq_42_15, gq_42_16, gq_42_17, gq_42_18, gq_42_19, gq_42_23, gq_42_24, gq_42_25, gq_42_26, aQ_29_0, aQ_29_1, aQ_29_2, aQ_29_3, aQ_19_0, aQ_19_1, aQ_19_2, aQ_46_0, aQ_46_1, aQ_46_2, gq_26, gr_26, gr_0_8, pQ_26, Option.bind_some, ↓reduceIte, one_ne0, isHouse8_eq, if_neg ha, finds_1]
      try simp
end KN
