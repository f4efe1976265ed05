/-! what a use comes to -/
def szT (m : Nat → Nat → Int32) (u : Nat) : Nat := (m (20 + 2 * u) 1).toNatClampNeg
def bT (m : Nat → Nat → Int32) (c : Nat) : Nat → Int32 := fun k => m c k &&& 255
def eV (a1 a2 a3 : Int32) : Nat → Int32 := fun i => if i = 0 then a1 else if i = 1 then a2 else a3
def wrV (m : Nat → Nat → Int32) (u : Nat) (a1 a2 a3 : Int32) : Int32 := if szT m u = 0 then (if u = 0 then 10 * a1 else if u = 1 then (if irm a2 30 = 7 then 1 else 0) else 1) else (psr (bT m (21 + 2 * u)) (szT m u) u).2.2 (eV a1 a2 a3)
def rdM (m : Nat → Nat → Int32) (u : Nat) (a1 a2 a3 : Int32) : Nat → Nat → Int32 := st1 (st1 (st1 (st1 m 26 1 (nI u)) 26 2 a1) 26 3 a2) 26 4 a3
def rdE (B : Nat → Int32) (s : Nat) (st : PSt) : PSt := if nx B s st = -1 then st else (st.1, true, st.2.2)
section LW
variable {m : Nat → Nat → Int32} {kp : Bool} {b : Option Nat} {z : Nat} {c : Nat → Nat}
theorem bT_x (m : Nat → Nat → Int32) (c s : Nat) : ∀ st : PSt, nx (bT m c) s st ≠ -1 → ∃ x, x < 256 ∧ nx (bT m c) s st = nI x := by
  intro st h
  obtain ⟨n1, n2⟩ := nx_m1 h
  obtain ⟨x, hx, ex⟩ := pk_andE (m c st.1) (m := 255) 8 (by decide)
  refine ⟨x, hx, ?_⟩
  unfold nx
  rw [n1, if_neg (by decide), if_pos n2]
  exact ex
theorem tx_of {u : Nat} (h : RS m 1 43 c) (hu : u < 3) : szT m u ≤ 56 ∧ m (20 + 2 * u) 1 = nI (szT m u) ∧ ∃ q, q ≤ 56 ∧ m 43 (1054 + 60 * u) = nI q ∧ TxRel u (bT m (21 + 2 * u)) (szT m u) (fun k => m 43 (1055 + 60 * u + k)) q := by
  have hT : RTx1 m 1 43 u := by
    match u, hu with
    | 0, _ => exact h.2.2.2.2.2.2.2.2.2.1
    | 1, _ => exact h.2.2.2.2.2.2.2.2.2.2.1
    | 2, _ => exact h.2.2.2.2.2.2.2.2.2.2.2
  obtain ⟨s, q, h1, h2, h3, h4, h5, h6⟩ := hT
  rw [show 1 + 19 + 2 * u = 20 + 2 * u by omega] at h3
  rw [show 1 + 20 + 2 * u = 21 + 2 * u by omega] at h6
  have e : szT m u = s := by unfold szT; rw [h3, nI_clamp (by omega)]
  rw [e]
  exact ⟨h1, h3, q, h2, h4, h6⟩
theorem psr_g {B : Nat → Int32} {s u : Nat} : (psr B s u).2.1.length ≤ (psr B s u).1.1 ∧ (psr B s u).1.1 ≤ s := by
  unfold psr
  have := ch_g (un_g (B := B) (s := s) (u := u) 5) (0, false, 0) (by show 0 ≤ s; omega)
  generalize ch B s (un B s u 5) (0, false, 0) = r at *
  dsimp only at this
  exact ⟨by omega, this.2.1⟩
theorem rS_00 : st1 (st1 (st1 m 26 5 0) 26 6 0) 26 7 0 = rS m (0, false, 0) := by
  unfold rS
  simp only [nI_0]
  rfl
theorem read7 {q s u : Nat} {a1 a2 a3 : Int32} (hq : q = 17 ∨ q = 20 ∨ q = 22 ∨ q = 24) (hs : s ≤ 56) (hm : m q 1 = nI s) (hu : u < 3) : f_X2_read (mkS m kp b) 26 q (nI u) a1 a2 a3 = some ((psr (bT m (q + 1)) s u).2.2 (eV a1 a2 a3), mkS (rS (rdM m u a1 a2 a3) (rdE (bT m (q + 1)) s (psr (bT m (q + 1)) s u).1)) kp (some q)) := by
  have hq26 : q ≠ 26 := by omega
  have hq27 : q + 1 ≠ 26 := by omega
  have hR : RdC (rdM m u a1 a2 a3) q s u (bT m (q + 1)) (eV a1 a2 a3) := by
    refine ⟨hq, hs, ?_, fun k hk => ?_, ?_, hu, ?_, ?_, ?_⟩
    · unfold rdM; rw [st1_ne hq26, st1_ne hq26, st1_ne hq26, st1_ne hq26]; exact hm
    · unfold rdM; rw [st1_ne hq27, st1_ne hq27, st1_ne hq27, st1_ne hq27]; rfl
    · unfold rdM; rw [st1_nf (by decide), st1_nf (by decide), st1_nf (by decide), st1_eq]
    · unfold rdM; rw [st1_nf (by decide), st1_nf (by decide), st1_eq]; rfl
    · unfold rdM; rw [st1_nf (by decide), st1_eq]; rfl
    · unfold rdM; rw [st1_eq]; rfl
  have hle : (psr (bT m (q + 1)) s u).1.1 ≤ s := psr_g.2
  have hw := psr_7 (kp := kp) hR
  unfold f_X2_read
  rw [if_pos io_26, pQ_26, Option.bind_some, pI_26, Option.bind_some, pI_26, Option.bind_some, pI_26, Option.bind_some, pI_26, Option.bind_some, pI_26, Option.bind_some, pI_26, Option.bind_some, pZ_26, if_pos (Or.inl rfl), Option.bind_some]
  have e0 : st1 (st1 (st1 (st1 (st1 (st1 (st1 m 26 1 (nI u)) 26 2 a1) 26 3 a2) 26 4 a3) 26 5 0) 26 6 0) 26 7 0 = rS (rdM m u a1 a2 a3) (0, false, 0) := rS_00
  rw [e0, hw, Option.bind_some]
  generalize psr (bT m (q + 1)) s u = r at *
  dsimp only
  rw [next7 hR hle, Option.bind_some]
  unfold rdE
  by_cases e1 : nx (bT m (q + 1)) s r.1 = -1
  · rw [if_pos e1, if_pos e1]
  · rw [if_neg e1, if_neg e1, pZ_26, if_pos (Or.inr rfl), Option.bind_some, rS_s7]
theorem aQ19 {u : Nat} (h : u < 3) : aQ (mkS m kp b) 2 19 (nI u) = some (20 + 2 * u) := by
  match u, h with
  | 0, _ => exact aQ_19_0
  | 1, _ => exact aQ_19_1
  | 2, _ => exact aQ_19_2
theorem gI20 {u f : Nat} (h : u < 3) : gI (mkS m kp b) 0 (20 + 2 * u) f = some (m (20 + 2 * u) f) := by
  match u, h with
  | 0, _ => exact gI_20
  | 1, _ => exact gI_22
  | 2, _ => exact gI_24
theorem u_eq {u : Nat} (hu : u < 3) : ((nI u = 0) ↔ u = 0) ∧ ((nI u = 1) ↔ u = 1) ∧ ((nI u = 2) ↔ u = 2) := ⟨nI_eq (b := 0) (by omega) (by decide), nI_eq (b := 1) (by omega) (by decide), nI_eq (b := 2) (by omega) (by decide)⟩
def TX (m : Nat → Nat → Int32) (u : Nat) : Prop := szT m u ≤ 56 ∧ m (20 + 2 * u) 1 = nI (szT m u) ∧ ∃ q, q ≤ 56 ∧ m 43 (1054 + 60 * u) = nI q ∧ TxRel u (bT m (21 + 2 * u)) (szT m u) (fun k => m 43 (1055 + 60 * u + k)) q
theorem wor7s {u : Nat} {a1 a2 a3 : Int32} (h : TX m u) (hu : u < 3) : ∃ M b', f_X7_worth (mkS m kp b) 0 (nI u) a1 a2 a3 = some (wrV m u a1 a2 a3, mkS M kp b') ∧ ∀ k, k ≠ 26 → M k = m k := by
  obtain ⟨s1, s2, q, q1, q2, hT⟩ := h
  obtain ⟨u0, u1, u2⟩ := u_eq hu
  unfold f_X7_worth wrV
  rw [if_pos io_0, gq_0_0, Option.bind_some, gq_1_9, Option.bind_some, aQ19 hu, Option.bind_some, gI20 hu, Option.bind_some, s2]
  by_cases h0 : szT m u = 0
  · rw [if_pos h0, h0, if_pos (show nI 0 ≤ 0 by decide)]
    by_cases v0 : u = 0
    · exact ⟨m, b, by rw [if_pos (u0.mpr v0), if_pos v0], fun _ _ => rfl⟩
    · by_cases v1 : u = 1
      · exact ⟨m, b, by rw [if_neg (fun y => v0 (u0.mp y)), if_pos (u1.mpr v1), if_neg v0, if_pos v1], fun _ _ => rfl⟩
      · exact ⟨m, b, by rw [if_neg (fun y => v0 (u0.mp y)), if_neg (fun y => v1 (u1.mp y)), if_neg v0, if_neg v1], fun _ _ => rfl⟩
  · have hr := read7 (kp := kp) (b := b) (a1 := a1) (a2 := a2) (a3 := a3) (show 20 + 2 * u = 17 ∨ 20 + 2 * u = 20 ∨ 20 + 2 * u = 22 ∨ 20 + 2 * u = 24 by omega) s1 s2 hu
    rw [show 20 + 2 * u + 1 = 21 + 2 * u by omega] at hr
    rw [if_neg h0, if_neg (nI_nle (by omega) (by omega)), gq_0_1, Option.bind_some, hr, Option.bind_some]
    generalize rdE (bT m (21 + 2 * u)) (szT m u) (psr (bT m (21 + 2 * u)) (szT m u) u).1 = st
    generalize psr (bT m (21 + 2 * u)) (szT m u) u = r
    refine ⟨_, _, rfl, fun k hk => ?_⟩
    rw [rS_ne hk]
    unfold rdM
    rw [st1_ne hk, st1_ne hk, st1_ne hk, st1_ne hk]
theorem wr48_0 {M : Nat → Nat → Int32} {v : Int32} : sI (mkS M kp b) 48 0 v = some (mkS (st1 M 48 0 v) kp b) := wr_48 (i := 0) (by decide)
theorem wr48_1 {M : Nat → Nat → Int32} {v : Int32} : sI (mkS M kp b) 48 1 v = some (mkS (st1 M 48 1 v) kp b) := wr_48 (i := 1) (by decide)
theorem wr48_2 {M : Nat → Nat → Int32} {v : Int32} : sI (mkS M kp b) 48 2 v = some (mkS (st1 M 48 2 v) kp b) := wr_48 (i := 2) (by decide)
theorem rd49_0 {M : Nat → Nat → Int32} : aI (mkS M kp b) 0 49 0 = some (M 49 0) := rd_49 (i := 0) (by decide)
theorem wor7 {u : Nat} {a1 a2 a3 : Int32} (h : RS m 1 43 c) (hu : u < 3) : ∃ M b', f_X7_worth (mkS m kp b) 0 (nI u) a1 a2 a3 = some (wrV m u a1 a2 a3, mkS M kp b') ∧ ∀ k, k ≠ 26 → M k = m k := wor7s (tx_of h hu) hu
theorem giv8s {u : Nat} {a1 a2 a3 : Int32} (h : TX m u) (hu : u < 3) : ∃ M, f_X8_given (mkS m kp b) 42 (nI u) a1 a2 a3 = some (wrV m u a1 a2 a3, mkS M kp b) ∧ ∀ k, k ≠ 48 → k ≠ 49 → M k = m k := by
  obtain ⟨s1, s2, q, q1, q2, hT⟩ := h
  obtain ⟨u0, u1, u2⟩ := u_eq hu
  have eF : ((1054 : Int32) + ((60 : Int32) * nI u)) + 1 = nI (1054 + 60 * u + 1) := by
    rw [show (1054 : Int32) = nI 1054 from rfl, show (60 : Int32) = nI 60 from rfl, pk_mul, nI_add, nI_a1]
  unfold f_X8_given wrV
  rw [if_pos io_42, gq_42_0, Option.bind_some, eF, nI_pred, rd_43 (show 1054 + 60 * u < 1234 by omega), Option.bind_some, q2]
  rcases hT with ⟨t1, t2⟩ | ⟨t1, t2, t3, t4, t5⟩
  · rw [if_pos t1, t2, if_pos nI_0]
    by_cases v0 : u = 0
    · exact ⟨m, by rw [if_pos (u0.mpr v0), if_pos v0], fun _ _ _ => rfl⟩
    · by_cases v1 : u = 1
      · exact ⟨m, by rw [if_neg (fun y => v0 (u0.mp y)), if_neg (fun y => by have := u2.mp y; omega), if_neg v0, if_pos v1], fun _ _ _ => rfl⟩
      · exact ⟨m, by rw [if_neg (fun y => v0 (u0.mp y)), if_pos (u2.mpr (by omega)), if_neg v0, if_neg v1], fun _ _ _ => rfl⟩
  · rw [if_neg (show ¬ szT m u = 0 by omega), if_neg (nI_ne0 t2 (by omega)), gq_42_12, Option.bind_some, wr48_0, Option.bind_some, gq_42_12, Option.bind_some, wr48_1, Option.bind_some, gq_42_12, Option.bind_some, wr48_2, Option.bind_some]
    obtain ⟨M0, eM0⟩ : ∃ M0, M0 = st1 (st1 (st1 m 48 0 a1) 48 1 a2) 48 2 a3 := ⟨_, rfl⟩
    have hM0 : ∀ k, k ≠ 48 → M0 k = m k := fun k hk => by rw [eM0, st1_ne hk, st1_ne hk, st1_ne hk]
    rw [← eM0]
    have hev := psr_ev (bT_x m (21 + 2 * u) (szT m u)) hu t3.1 (eV a1 a2 a3) []
    obtain ⟨M', y, e1, e2, e3⟩ := giv84 (kp := kp) (b := b) (F := 1055 + 60 * u) (q := q) (e := eV a1 a2 a3) (by omega) (by omega) q1 (psr (bT m (21 + 2 * u)) (szT m u) u).2.1 0 3000 [] _ M0 (by omega) (by omega) (by show 0 + _ ≤ 56; omega) (by rw [hM0 43 (by decide), show 1055 + 60 * u - 1 = 1054 + 60 * u by omega]; exact q2) (fun k hk => by rw [hM0 43 (by decide), Nat.add_zero]; exact t5 k (by omega)) ⟨by rw [eM0, st1_nf (by decide), st1_nf (by decide), st1_eq]; rfl, by rw [eM0, st1_nf (by decide), st1_eq]; rfl, by rw [eM0, st1_eq]; rfl⟩ trivial hev
    have e1' : f_X8_given_L84 (nI (1054 + 60 * u + 1)) 42 3000 (nI (1054 + 60 * u + 1)) 0 (mkS M0 kp b) = some (y, nI 1, mkS M' kp b) := by
      rw [show 1054 + 60 * u + 1 = 1055 + 60 * u by omega]
      exact e1
    rw [e1', Option.bind_some]
    dsimp only
    rw [gq_42_13, Option.bind_some, rd49_0, Option.bind_some, show M' 49 0 = (psr (bT m (21 + 2 * u)) (szT m u) u).2.2 (eV a1 a2 a3) from e2.1]
    exact ⟨M', rfl, fun k h1 h2 => (e3 k h2).trans (hM0 k h1)⟩
theorem giv8 {u : Nat} {a1 a2 a3 : Int32} (h : RS m 1 43 c) (hu : u < 3) : ∃ M, f_X8_given (mkS m kp b) 42 (nI u) a1 a2 a3 = some (wrV m u a1 a2 a3, mkS M kp b) ∧ ∀ k, k ≠ 48 → k ≠ 49 → M k = m k := giv8s (tx_of h hu) hu
theorem EqS_26 {M : Nat → Nat → Int32} (h : ∀ k, k ≠ 26 → M k = m k) : EqS m M := ⟨fun q q1 _ => h q (fun e => q1 (Or.inl e)), by rw [h 42 (by decide)], by rw [h 42 (by decide)]⟩
theorem EqS_48 {M : Nat → Nat → Int32} (h : ∀ k, k ≠ 48 → k ≠ 49 → M k = m k) : EqS m M := ⟨fun q q1 _ => h q (fun e => q1 (by unfold Sc; omega)) (fun e => q1 (by unfold Sc; omega)), by rw [h 42 (by decide) (by decide)], by rw [h 42 (by decide) (by decide)]⟩
theorem wrV_fr {M : Nat → Nat → Int32} {u : Nat} (h0 : M (20 + 2 * u) = m (20 + 2 * u)) (h1 : M (21 + 2 * u) = m (21 + 2 * u)) : wrV M u = wrV m u := by
  funext a1 a2 a3
  unfold wrV szT bT
  rw [h0, h1]
theorem wrV_S {M : Nat → Nat → Int32} {u : Nat} (hu : u < 3) (h : EqS m M) : wrV M u = wrV m u := wrV_fr (h.at _ (by omega) (by omega)) (h.at _ (by omega) (by omega))
theorem op_law (a v w x : Int32) : OpR (fun σ => f_X7_law σ 0 a v w x) (fun σ => f_X8_law σ 42 a v w x) := by
  intro m kp b z hR
  obtain ⟨⟨c, hS⟩, -⟩ := id hR
  by_cases ha : 0 ≤ a ∧ a ≤ 2
  · obtain ⟨u, -, hu, rfl⟩ := ex_rng (lo := 0) (hi := 2) (by decide) ha (by decide)
    obtain ⟨M1, b1, e7, h7⟩ := wor7 (kp := kp) (b := b) (a1 := v) (a2 := w) (a3 := x) hS (show u < 3 by omega)
    have hE1 := EqS_26 h7
    obtain ⟨M2, e8, h8⟩ := giv8 (kp := kp) (b := b1) (a1 := v) (a2 := w) (a3 := x) (RS_S hS hE1) (show u < 3 by omega)
    rw [wrV_S (by omega) hE1] at e8
    refine ⟨wrV m u v w x, M1, kp, b1, M2, ?_, ?_, (RR_scr hR (hE1.trans (EqS_48 h8))).up⟩
    · show f_X7_law (mkS m kp b) 0 (nI u) v w x = _
      unfold f_X7_law
      rw [if_pos io_0, isUse7_eq, if_pos ha, Option.bind_some, if_neg (show ¬ (1 : Int32) = 0 by decide), e7, Option.bind_some]
    · show f_X8_law (mkS M1 kp b1) 42 (nI u) v w x = _
      unfold f_X8_law
      rw [if_pos io_42, within_eq, if_pos ha, Option.bind_some, if_neg (show ¬ (1 : Int32) = 0 by decide), e8, Option.bind_some]
  · refine op_err1 (k := 1) (e := -1000001) (by decide) hR ?_ ?_
    · show f_X7_law (mkS m kp b) 0 a v w x = _
      unfold f_X7_law
      rw [if_pos io_0, isUse7_eq, if_neg ha, Option.bind_some, if_pos rfl, fails_1, Option.bind_some]
    · show f_X8_law (mkS _ kp b) 42 a v w x = _
      unfold f_X8_law
      rw [if_pos io_42, within_eq, if_neg ha, Option.bind_some, if_pos rfl, finds_1, Option.bind_some]
end LW
