/-! voices: both sides, and the act -/
section VP
variable {m : Nat → Nat → Int32} {kp : Bool} {b : Option Nat} {z : Nat} {c : Nat → Nat} {K q : Nat} {cv sz x d : Int32} {s : VS} {σ : St} {rc : Nat → List Int32 → St → Option (Int32 × St)} {E : VE}
theorem b7 {k a : Nat} (hk : k < 8) (ha : a < 4) (H : H7 m kp b K cv sz d rc E (rsv k a) a) (hC : C7 m kp b K cv sz s σ) : ∃ σ', bd7 rc σ (rsv k a) a x d = some ((evB E K cv sz (rsv k a) a x s).1, σ') ∧ C7 m kp b K cv sz (evB E K cv sz (rsv k a) a x s).2 σ' := by
  rcases rs_in hk ha with ⟨e, rfl⟩ | ⟨e, rfl⟩ | ⟨e, rfl⟩ | ⟨e, rfl⟩ | ⟨e, rfl⟩ | ⟨e, rfl⟩ | ⟨e, rfl⟩ | ⟨e, rfl⟩ | ⟨e, rfl⟩ | ⟨e, rfl⟩ | ⟨e, rfl⟩ | ⟨e, rfl⟩ | ⟨e, rfl⟩ | ⟨e, rfl⟩ | ⟨e, rfl⟩
  · rw [e] at H ⊢; exact b7_00 H hC
  · rw [e] at H ⊢; exact b7_01 H hC
  · rw [e] at H ⊢; exact b7_02 H hC
  · rw [e] at H ⊢; exact b7_03 H hC
  · rw [e] at H ⊢; exact b7_11 H hC
  · rw [e] at H ⊢; exact b7_12 H hC
  · rw [e] at H ⊢; exact b7_20 H hC
  · rw [e] at H ⊢; exact b7_21 H hC
  · rw [e] at H ⊢; exact b7_30 H hC
  · rw [e] at H ⊢; exact b7_33 H hC
  · rw [e] at H ⊢; exact b7_42 H hC
  · rw [e] at H ⊢; exact b7_50 H hC
  · rw [e] at H ⊢; exact b7_52 H hC
  · rw [e] at H ⊢; exact b7_62 H hC
  · rw [e] at H ⊢; exact b7_73 H hC
theorem b8 {k a : Nat} (hk : k < 8) (ha : a < 4) (hcv : cv = nI q) (H : H8 m kp b K q sz rc E (rsv k a) a) (hC : C8 m kp b K q sz s σ) : ∃ σ', f_X8_body rc σ 42 (nI (rsv k a)) (nI a) x = some ((evB E K cv sz (rsv k a) a x (vtr s (nI (cdv (rsv k a) a)))).1, σ') ∧ C8 m kp b K q sz (evB E K cv sz (rsv k a) a x (vtr s (nI (cdv (rsv k a) a)))).2 σ' := by
  rcases rs_in hk ha with ⟨e, rfl⟩ | ⟨e, rfl⟩ | ⟨e, rfl⟩ | ⟨e, rfl⟩ | ⟨e, rfl⟩ | ⟨e, rfl⟩ | ⟨e, rfl⟩ | ⟨e, rfl⟩ | ⟨e, rfl⟩ | ⟨e, rfl⟩ | ⟨e, rfl⟩ | ⟨e, rfl⟩ | ⟨e, rfl⟩ | ⟨e, rfl⟩ | ⟨e, rfl⟩
  · rw [e] at H ⊢; rw [show nI (cdv 0 0) = (10 : Int32) from rfl]; exact b8_00 hcv H hC
  · rw [e] at H ⊢; rw [show nI (cdv 0 1) = (11 : Int32) from rfl]; exact b8_01 hcv H hC
  · rw [e] at H ⊢; rw [show nI (cdv 0 2) = (12 : Int32) from rfl]; exact b8_02 hcv H hC
  · rw [e] at H ⊢; rw [show nI (cdv 0 3) = (13 : Int32) from rfl]; exact b8_03 hcv H hC
  · rw [e] at H ⊢; rw [show nI (cdv 1 1) = (20 : Int32) from rfl]; exact b8_11 hcv H hC
  · rw [e] at H ⊢; rw [show nI (cdv 1 2) = (21 : Int32) from rfl]; exact b8_12 hcv H hC
  · rw [e] at H ⊢; rw [show nI (cdv 2 0) = (30 : Int32) from rfl]; exact b8_20 hcv H hC
  · rw [e] at H ⊢; rw [show nI (cdv 2 1) = (31 : Int32) from rfl]; exact b8_21 hcv H hC
  · rw [e] at H ⊢; rw [show nI (cdv 3 0) = (40 : Int32) from rfl]; exact b8_30 hcv H hC
  · rw [e] at H ⊢; rw [show nI (cdv 3 3) = (41 : Int32) from rfl]; exact b8_33 hcv H hC
  · rw [e] at H ⊢; rw [show nI (cdv 4 2) = (50 : Int32) from rfl]; exact b8_42 hcv H hC
  · rw [e] at H ⊢; rw [show nI (cdv 5 0) = (60 : Int32) from rfl]; exact b8_50 hcv H hC
  · rw [e] at H ⊢; rw [show nI (cdv 5 2) = (61 : Int32) from rfl]; exact b8_52 hcv H hC
  · rw [e] at H ⊢; rw [show nI (cdv 6 2) = (70 : Int32) from rfl]; exact b8_62 hcv H hC
  · rw [e] at H ⊢; rw [show nI (cdv 7 3) = (80 : Int32) from rfl]; exact b8_73 hcv H hC
theorem rk_of {k a k2 a2 : Nat} (hK : K < 8) (hk : k < 8) (ha : a < 4) (h : (k2, a2) ∈ clv K (rsv k a) a) : k2 < 8 ∧ a2 < 4 ∧ rkv K k2 a2 < rkv K k a := by
  have := List.all_eq_true.mp (rk_ok K hK k hk a ha) (k2, a2) h
  exact of_decide_eq_true this
theorem vs7 {k a dep : Nat} (hC : C7 m kp b K cv sz s σ) (hk : k < 8) (ha : a < 4) (hs : s.2.2 = true) : f_X6_voiceFrom rc σ 27 (nI k) (nI a) x (nI dep) = some (0, σ) := by
  have hr := l6_dec k hk a ha
  rw [← l6_any rc] at hr
  obtain ⟨p, ep, eq⟩ := Option.map_eq_some_iff.mp hr
  obtain ⟨f0, f3, f4, f5, f2⟩ := C7.f hC
  unfold f_X6_voiceFrom
  rw [if_pos f0, ep, Option.bind_some, f2, Option.bind_some, hs, if_pos rfl, if_neg (by decide)]
theorem cls7 (hK : K < 8) : ∀ r n k a x dep s σ, k < 8 → a < 4 → rkv K k a < r → 2 * r ≤ n → dep + r ≤ 41 → C7 m kp b K cv sz s σ → ∃ σ', rc_X6_ofCurve 27 n 2 [nI k, nI a, x, nI dep] σ = some ((ev K cv sz r k a x s).1, σ') ∧ C7 m kp b K cv sz (ev K cv sz r k a x s).2 σ' := by
  intro r
  induction r with
  | zero => intro n k a x dep s σ _ _ h; omega
  | succ r ih =>
    intro n k a x dep s σ hk ha hr hn hd hC
    obtain ⟨n, rfl⟩ : ∃ q, n = q + 2 := ⟨n - 2, by omega⟩
    show ∃ σ', f_X6_voiceFrom (rc_X6_ofCurve 27 (n + 1)) σ 27 (nI k) (nI a) x (nI dep) = _ ∧ _
    unfold ev
    by_cases hs : s.2.2 = true
    · rw [if_pos hs]
      exact ⟨σ, vs7 hC hk ha hs, hC⟩
    · rw [if_neg hs]
      obtain ⟨σ1, hC1, e1⟩ := vt7 (rc := rc_X6_ofCurve 27 (n + 1)) (x := x) hC hk ha (by cases h : s.2.2 <;> simp_all) (show dep ≤ 40 by omega)
      have e2 : (if rsv k a = 0 then rc_X6_ofCurve 27 (n + 1) 0 [nI a, x, nI (dep + 1)] σ1 else rc_X6_ofCurve 27 (n + 1) 1 [nI (cdv (rsv k a) a), nI (prv (rsv k a)), x, nI (dep + 1)] σ1) = bd7 (rc_X6_ofCurve 27 n) σ1 (rsv k a) a x (nI (dep + 1)) := rfl
      rw [e1, e2]
      exact b7 hk ha (fun k2 a2 y s σ hm hC' => by
        obtain ⟨i1, i2, i3⟩ := rk_of hK hk ha hm
        exact ih n k2 a2 y (dep + 1) s σ i1 i2 (by omega) (by omega) (by omega) hC') hC1
theorem mod8 (hK : K < 8) : ∀ r n k a x s σ, k < 8 → a < 4 → rkv K k a < r → 3 * r ≤ n → C8 m kp b K q sz s σ → ∃ σ', rc_X8_body 42 n 1 [nI k, nI a, x] σ = some ((ev K (nI q) sz r k a x s).1, σ') ∧ C8 m kp b K q sz (ev K (nI q) sz r k a x s).2 σ' := by
  intro r
  induction r with
  | zero => intro n k a x s σ _ _ h; omega
  | succ r ih =>
    intro n k a x s σ hk ha hr hn hC
    obtain ⟨n, rfl⟩ : ∃ q, n = q + 3 := ⟨n - 3, by omega⟩
    obtain ⟨f0, f1, fm, fc, f2⟩ := C8.f hC
    show ∃ σ', f_X8_bodyFrom (rc_X8_body 42 (n + 2)) σ 42 (nI k) (nI a) x = _ ∧ _
    unfold ev f_X8_bodyFrom
    rw [if_pos f0, l3_any, l3_dec k hk a ha, Option.bind_some, f2, Option.bind_some, bind_eta]
    by_cases hs : s.2.2 = true
    · rw [if_pos hs, if_pos hs, if_neg (by decide)]
      exact ⟨σ, rfl, hC⟩
    · rw [if_neg hs, if_neg hs, if_pos rfl]
      show ∃ σ', f_X8_body (rc_X8_body 42 (n + 1)) σ 42 (nI (rsv k a)) (nI a) x = _ ∧ _
      exact b8 hk ha rfl ⟨fun k2 a2 y s σ hm hC' => by
        obtain ⟨i1, i2, i3⟩ := rk_of hK hk ha hm
        exact ih (n + 1) k2 a2 y s σ i1 i2 (by omega) (by omega) hC', fun a2 y s σ hm hC' => by
        obtain ⟨i1, i2, i3⟩ := rk_of hK hk ha hm
        obtain ⟨g0, g1, gm, gc, g2⟩ := C8.f hC'
        show ∃ σ', f_X8_voiced (rc_X8_body 42 n) σ 42 (nI a2) y = _ ∧ _
        unfold f_X8_voiced
        rw [if_pos g0, g1, Option.bind_some, gc, Option.bind_some, bind_eta]
        exact ih n K a2 y s σ hK i2 (by omega) (by omega) hC'⟩ hC
theorem RR_vo {M : Nat → Nat → Int32} (hR : RR m kp z) (hM : ∀ q, q ≠ 27 → q ≠ 28 → q ≠ 42 → q ≠ 54 → M q = m q) (h2 : M 42 2 = m 42 2) (hT : RTrc M) : RR M kp z := by
  obtain ⟨⟨c, hS⟩, hk, r3, r4, r5, r6⟩ := hR
  refine ⟨⟨c, hS.fr (fun k k1 k2 => hM k (by omega) (by omega) (by omega) (by omega)) (hM 43 (by decide) (by decide) (by decide) (by decide))⟩, fun h => ?_, r3.fr (fun k k1 k2 => hM k (by omega) (by omega) (by omega) (by omega)) (fun k k1 k2 => hM k (by omega) (by omega) (by omega) (by omega)), hT, r5.fr (hM 30 (by decide) (by decide) (by decide) (by decide)) (hM 45 (by decide) (by decide) (by decide) (by decide)), r6.fr (Nat.le_refl z) (by rw [hM 0 (by decide) (by decide) (by decide) (by decide)]) h2⟩
  obtain ⟨c', hc'⟩ := hk h
  exact ⟨c', hc'.fr (fun k k1 k2 => hM k (by omega) (by omega) (by omega) (by omega)) (hM 44 (by decide) (by decide) (by decide) (by decide))⟩
def vo0 (m : Nat → Nat → Int32) (k q s : Int32) : Nat → Nat → Int32 := st1 (st1 (st1 (st1 (st1 m 27 3 k) 27 4 q) 27 5 s) 27 1 0) 27 2 0
def vo8 (m : Nat → Nat → Int32) (q : Int32) : Nat → Nat → Int32 := st1 (st1 (st1 m 42 20 0) 42 21 q) 42 22 0
theorem spk7 {a : Nat} (hK : K < 8) (ha : a < 4) (h28 : ∀ i, i < 30 → m 28 i = s.1 i) (h0 : s.2 = (0, false)) : ∃ M, f_X6_speak (mkS m kp b) 27 (nI K) cv sz (nI a) x = some ((ev K cv sz 9 K a x s).1, mkS M kp b) ∧ C7 m kp b K cv sz (ev K cv sz 9 K a x s).2 (mkS M kp b) := by
  have hC : C7 m kp b K cv sz s (mkS (vo0 m (nI K) cv sz) kp b) := by
    refine ⟨_, rfl, fun q q1 q2 => ?_, fun i hi => ?_, ⟨?_, ?_⟩, ?_, ?_, ?_, ?_⟩
    · unfold vo0; rw [st1_ne q1, st1_ne q1, st1_ne q1, st1_ne q1, st1_ne q1]
    · unfold vo0; rw [st1_ne (by decide), st1_ne (by decide), st1_ne (by decide), st1_ne (by decide), st1_ne (by decide)]; exact h28 i hi
    · unfold vo0; rw [st1_nf (by decide), st1_eq, h0]; rfl
    · rw [h0]; exact Nat.zero_le 30
    · unfold vo0; rw [st1_eq, h0]; rfl
    · unfold vo0; rw [st1_nf (by decide), st1_nf (by decide), st1_nf (by decide), st1_nf (by decide), st1_eq]
    · unfold vo0; rw [st1_nf (by decide), st1_nf (by decide), st1_nf (by decide), st1_eq]
    · unfold vo0; rw [st1_nf (by decide), st1_nf (by decide), st1_eq]
  obtain ⟨σ', e, hC'⟩ := cls7 hK 9 60 K a x 0 s _ hK ha (by have := rk_le K hK K hK a ha; omega) (by omega) (by omega) hC
  obtain ⟨M, rfl, -⟩ := id hC'
  refine ⟨M, ?_, hC'⟩
  unfold f_X6_speak g_X6_voiceFrom
  rw [if_pos io_27, pI_27, Option.bind_some, pI_27, Option.bind_some, pI_27, Option.bind_some, pI_27, Option.bind_some, pZ_27, if_pos (Or.inl rfl), Option.bind_some, gI_27, Option.bind_some, show st1 (st1 (st1 (st1 (st1 m 27 3 (nI K)) 27 4 cv) 27 5 sz) 27 1 0) 27 2 0 = vo0 m (nI K) cv sz from rfl, show vo0 m (nI K) cv sz 27 3 = nI K by unfold vo0; rw [st1_nf (by decide), st1_nf (by decide), st1_nf (by decide), st1_nf (by decide), st1_eq], show rc_X6_ofCurve 27 60 2 [nI K, nI a, x, 0] (mkS (vo0 m (nI K) cv sz) kp b) = _ from e, Option.bind_some]
theorem spk8 {a : Nat} (hK : K < 8) (ha : a < 4) (h28 : ∀ i, i < 30 → m 54 i = s.1 i) (h0 : s.2 = (0, false)) (hq : q < 24) (e1 : m 43 (82 + 29 * q) = nI K) (e2 : m 43 (82 + 29 * q + 3) = sz) : ∃ M, g_X8_voiced (mkS (vo8 m (nI q)) kp b) 42 (nI a) x = some ((ev K (nI q) sz 9 K a x s).1, mkS M kp b) ∧ C8 m kp b K q sz (ev K (nI q) sz 9 K a x s).2 (mkS M kp b) := by
  have hC : C8 m kp b K q sz s (mkS (vo8 m (nI q)) kp b) := by
    refine ⟨_, rfl, fun k q1 q2 => ?_, ?_, fun i hi => ?_, ⟨?_, ?_⟩, ?_, ?_, hq, e1, e2⟩
    · unfold vo8; rw [st1_ne q1, st1_ne q1, st1_ne q1]
    · unfold vo8; rw [st1_nf (by decide), st1_nf (by decide), st1_nf (by decide)]
    · unfold vo8; rw [st1_ne (by decide), st1_ne (by decide), st1_ne (by decide)]; exact h28 i hi
    · unfold vo8; rw [st1_nf (by decide), st1_nf (by decide), st1_eq, h0]; rfl
    · rw [h0]; exact Nat.zero_le 30
    · unfold vo8; rw [st1_eq, h0]; rfl
    · unfold vo8; rw [st1_nf (by decide), st1_eq]
  obtain ⟨g0, g1, gm, gc, g2⟩ := C8.f hC
  obtain ⟨σ', e, hC'⟩ := mod8 hK 9 59 K a x s _ hK ha (by have := rk_le K hK K hK a ha; omega) (by omega) hC
  obtain ⟨M, rfl, -⟩ := id hC'
  refine ⟨M, ?_, hC'⟩
  show f_X8_voiced (rc_X8_body 42 59) (mkS (vo8 m (nI q)) kp b) 42 (nI a) x = _
  unfold f_X8_voiced
  rw [if_pos g0, g1, Option.bind_some, gc, Option.bind_some, e, Option.bind_some]
theorem op_voice (a v w : Int32) : OpR (fun σ => f_X7_voice σ 0 a v w) (fun σ => f_X8_voice σ 42 a v w) := by
  intro m kp b z hR
  obtain ⟨⟨c, hS⟩, -, -, hTr, -⟩ := id hR
  obtain ⟨w1, w2, w3, w4, w5, w6, w6b, w7⟩ := id hS.2.2.2.1
  obtain ⟨nt, nt1, nt2, nt3, hT⟩ := hTr
  by_cases ha : 0 ≤ a ∧ a < nI (c 1)
  · by_cases hv : 0 ≤ v ∧ v ≤ 3
    · obtain ⟨q, hq, rfl⟩ := ex_nI (n := c 1) (by omega) ha
      obtain ⟨u, -, hu, rfl⟩ := ex_rng (lo := 0) (hi := 3) (by decide) hv (by decide)
      obtain ⟨X, hX3, hX24, eX⟩ := (w7 q hq).2.2.2
      obtain ⟨K, hK, eK⟩ := (w7 q hq).1
      have e70 : m 7 (q * 5 + 0) = nI K := by rw [← eK]; exact w6 q 0 (by omega) (by decide)
      have e73 : m 7 (q * 5 + 3) = nI X := by rw [← eX]; exact w6 q 3 (by omega) (by decide)
      obtain ⟨M1, e7, N1, eN1, k1, k2, ⟨k3, k3b⟩, k4, k5, k6, k7⟩ := spk7 (m := m) (kp := kp) (b := b) (K := K) (cv := nI q) (sz := nI X) (x := w) (s := (m 28, 0, false)) hK (show u < 4 by omega) (fun _ _ => rfl) rfl
      have eMN : N1 = M1 := (congrArg Prod.fst eN1).symm
      subst eMN
      obtain ⟨R, eR⟩ : ∃ R, R = ev K (nI q) (nI X) 9 K u w (m 28, 0, false) := ⟨_, rfl⟩
      rw [← eR] at e7 k2 k3 k3b k4
      have h7 : f_X7_voice (mkS m kp b) 0 (nI q) (nI u) w = if (if R.2.2.2 = true then (1 : Int32) else 0) = 0 then some (R.1, mkS N1 kp b) else (f_X7_fails (mkS N1 kp b) 0 (-1000006)).bind fun p => some (p.1, p.2) := by
        unfold f_X7_voice
        rw [if_pos io_0, gq_0_0, Option.bind_some, gq_1_2, Option.bind_some, has_6 w3, if_pos ha, Option.bind_some, if_neg (show ¬ (1 : Int32) = 0 by decide), outside_eq, if_pos hv, Option.bind_some, if_pos rfl, gq_0_2, Option.bind_some, Option.bind_some, gq_1_2, Option.bind_some, at_6_0 w1 w3 w5 hq, Option.bind_some, e70, Option.bind_some, csz w1 w3 w5 hq, Option.bind_some, e73, e7, Option.bind_some]
        dsimp only
        rw [gq_0_2, Option.bind_some, gI_27, Option.bind_some, k4]
      have h8 : ∀ A : Nat → Nat → Int32, (∀ k, k ≠ 27 → k ≠ 28 → k ≠ 30 → A k = m k) → ∃ M2, f_X8_voice (mkS A kp b) 42 (nI q) (nI u) w = (if (if R.2.2.2 = true then (1 : Int32) else 0) = 0 then some (R.1, mkS M2 kp b) else (f_X8_finding (mkS M2 kp b) 42 (-1000006)).bind fun p => some (p.1, p.2)) ∧ (∀ k, k ≠ 42 → k ≠ 54 → M2 k = A k) ∧ M2 42 2 = A 42 2 ∧ (∀ i, i < 30 → M2 54 i = R.2.1 i) ∧ M2 42 20 = nI R.2.2.1 := fun A hA => by
        have a43 : A 43 = m 43 := hA 43 (by decide) (by decide) (by decide)
        obtain ⟨M2, e8, N2, eN2, j1, j1b, j2, ⟨j3, j3b⟩, j4, -⟩ := spk8 (m := A) (kp := kp) (b := b) (K := K) (q := q) (sz := nI X) (x := w) (s := (m 28, 0, false)) hK (show u < 4 by omega) (fun i hi => by rw [hA 54 (by decide) (by decide) (by decide)]; exact (hT i hi).symm) rfl (show q < 24 by omega) (by rw [a43]; exact eK) (by rw [a43]; exact eX)
        have eMN2 : N2 = M2 := (congrArg Prod.fst eN2).symm
        subst eMN2
        rw [← eR] at e8 j2 j3 j4
        refine ⟨N2, ?_, j1, j1b, j2, j3⟩
        unfold f_X8_voice
        rw [if_pos io_42, is_1 (show A 43 1 = nI (c 1) by rw [a43]; exact w4) (show c 1 ≤ 1000 by omega), if_pos ha, Option.bind_some, if_neg (show ¬ (1 : Int32) = 0 by decide), within_eq, if_pos hv, Option.bind_some, if_neg (show ¬ (1 : Int32) = 0 by decide), pI_42, Option.bind_some, pI_42, Option.bind_some, pZ_42, if_pos (Or.inl rfl), Option.bind_some, show st1 (st1 (st1 A 42 20 0) 42 21 (nI q)) 42 22 0 = vo8 A (nI q) from rfl, e8, Option.bind_some]
        dsimp only
        rw [gI_42, Option.bind_some, j4]
      by_cases hfl : R.2.2.2 = true
      · obtain ⟨A, eA⟩ : ∃ A, A = st1 N1 30 6 (N1 30 6 + 1) := ⟨_, rfl⟩
        obtain ⟨M2, e8, j1, j1b, j2, j3⟩ := h8 A (fun k k1' k2' k3' => by rw [eA, st1_ne k3']; exact k1 k k1' k2')
        refine ⟨-1000006, A, kp, b, st1 M2 45 6 (M2 45 6 + 1), ?_, ?_, ?_⟩
        · show f_X7_voice (mkS m kp b) 0 (nI q) (nI u) w = _
          rw [h7, if_pos hfl, if_neg (by decide), fails_6, Option.bind_some, eA]
        · show f_X8_voice (mkS A kp b) 42 (nI q) (nI u) w = _
          rw [e8, if_pos hfl, if_neg (by decide), finds_6, Option.bind_some]
        · obtain ⟨N, eN⟩ : ∃ N : Nat → Nat → Int32, N = fun k => if k = 30 then m 30 else M2 k := ⟨_, rfl⟩
          have n30 : N 30 = m 30 := by rw [eN]; exact if_pos rfl
          have nne : ∀ k, k ≠ 30 → N k = M2 k := fun k hk => by rw [eN]; exact if_neg hk
          have a30 : ∀ k, k ≠ 30 → A k = N1 k := fun k hk => by rw [eA, st1_ne hk]
          have hRN : RR N kp z := RR_vo hR (fun k q1 q2 q3 q4 => by
            by_cases e30 : k = 30
            · rw [e30]; exact n30
            · rw [nne k e30, j1 k q3 q4, a30 k e30, k1 k q1 q2]) (by rw [nne 42 (by decide), j1b, a30 42 (by decide), k1 42 (by decide) (by decide)]) ⟨R.2.2.1, k3b, by rw [nne 27 (by decide), j1 27 (by decide) (by decide), a30 27 (by decide)]; exact k3, by rw [nne 42 (by decide)]; exact j3, fun j hj => by rw [nne 28 (by decide), nne 54 (by decide), j1 28 (by decide) (by decide), a30 28 (by decide), k2 j hj, j2 j hj]⟩
          have hErr := RR_err (z' := z + 1) (k := 6) hRN (Nat.le_succ z) (by decide)
          have : st1 (st1 N 30 6 (N 30 6 + 1)) 45 6 (st1 N 30 6 (N 30 6 + 1) 45 6 + 1) = st1 M2 45 6 (M2 45 6 + 1) := by
            funext k f
            have e45 : st1 N 30 6 (N 30 6 + 1) 45 = M2 45 := by rw [st1_ne (by decide), nne 45 (by decide)]
            rw [e45, st1_app (m := M2), st1_app (m := st1 N 30 6 (N 30 6 + 1))]
            by_cases c1 : k = 45 ∧ f = 6
            · rw [if_pos c1, if_pos c1]
            · rw [if_neg c1, if_neg c1]
              by_cases e30 : k = 30
              · subst e30
                rw [j1 30 (by decide) (by decide), eA, st1_app, st1_app, n30, k1 30 (by decide) (by decide)]
              · rw [st1_ne e30, nne k e30]
          rw [this] at hErr
          exact hErr
      · obtain ⟨M2, e8, j1, j1b, j2, j3⟩ := h8 N1 (fun k k1' k2' _ => k1 k k1' k2')
        refine ⟨R.1, N1, kp, b, M2, ?_, ?_, (RR_vo hR (fun k q1 q2 q3 q4 => by rw [j1 k q3 q4, k1 k q1 q2]) (by rw [j1b, k1 42 (by decide) (by decide)]) ⟨R.2.2.1, k3b, by rw [j1 27 (by decide) (by decide)]; exact k3, j3, fun j hj => by rw [j1 28 (by decide) (by decide), k2 j hj, j2 j hj]⟩).up⟩
        · show f_X7_voice (mkS m kp b) 0 (nI q) (nI u) w = _
          rw [h7, if_neg hfl, if_pos rfl]
        · show f_X8_voice (mkS N1 kp b) 42 (nI q) (nI u) w = _
          rw [e8, if_neg hfl, if_pos rfl]
    · refine op_err1 (k := 1) (e := -1000001) (by decide) hR ?_ ?_
      · show f_X7_voice (mkS m kp b) 0 a v w = _
        unfold f_X7_voice
        simp only [io_0, gI_0, pI_0, pZ_0, io_1, gI_1, pI_1, pZ_1, io_2, gI_2, pI_2, pZ_2, aL_3, io_4, gI_4, pI_4, pZ_4, aL_5, io_6, gI_6, pI_6, pZ_6, aL_7, aL_8, io_9, gI_9, pI_9, pZ_9, aL_10, io_11, gI_11, pI_11, pZ_11, aL_12, io_13, gI_13, pI_13, pZ_13, aL_14, io_15, gI_15, pI_15, pZ_15, aL_16, io_17, gI_17, pI_17, pZ_17, aL_18, aL_19, io_20, gI_20, pI_20, pZ_20, aL_21, io_22, gI_22, pI_22, pZ_22, aL_23, io_24, gI_24, pI_24, pZ_24, aL_25, io_26, gI_26, pI_26, pZ_26, io_27, gI_27, pI_27, pZ_27, aL_28, aL_29, aL_30, aL_31, aL_32, aL_33, io_34, gI_34, pI_34, pZ_34, aL_35, io_36, gI_36, pI_36, pZ_36, aL_37, io_38, gI_38, pI_38, pZ_38, aL_39, io_40, gI_40, pI_40, pZ_40, aL_41, io_42, gI_42, pI_42, pZ_42, aL_43, aL_44, aL_45, aL_46, aL_47, aL_48, aL_49, aL_50, aL_51, aL_52, aL_53, aL_54, aL_55, aL_56, aL_57, aL_58, gq_0_0, gq_0_1, gq_0_2, gq_0_3, gq_0_4, gq_0_5, gq_0_6, gq_0_7, gq_1_0, gq_1_1, gq_1_2, gq_1_3, gq_1_4, gq_1_5, gq_1_6, gq_1_7, gq_1_8, gq_1_9, gq_2_2, gq_4_2, gq_6_2, gq_9_2, gq_11_2, gq_13_2, gq_15_2, gq_17_0, gq_20_0, gq_22_0, gq_24_0, gq_27_0, gq_34_0, gq_36_0, gq_38_0, gq_40_0, gq_42_0, gq_42_1, gq_42_3, gq_42_4, gq_42_11, gq_42_12, gq_42_13, gq_42_15, gq_42_16, gq_42_17, gq_42_18, gq_42_19, gq_42_23, gq_42_24, gq_42_25, gq_42_26, aQ_29_0, aQ_29_1, aQ_29_2, aQ_29_3, aQ_19_0, aQ_19_1, aQ_19_2, aQ_46_0, aQ_46_1, aQ_46_2, gq_26, gr_26, gr_0_8, pQ_26, Option.bind_some, ↓reduceIte, one_ne0, has_6 w3, if_pos ha, outside_eq, if_neg hv, fails_1]
        try simp
      · show f_X8_voice (mkS _ kp b) 42 a v w = _
        unfold f_X8_voice
        simp only [io_0, gI_0, pI_0, pZ_0, io_1, gI_1, pI_1, pZ_1, io_2, gI_2, pI_2, pZ_2, aL_3, io_4, gI_4, pI_4, pZ_4, aL_5, io_6, gI_6, pI_6, pZ_6, aL_7, aL_8, io_9, gI_9, pI_9, pZ_9, aL_10, io_11, gI_11, pI_11, pZ_11, aL_12, io_13, gI_13, pI_13, pZ_13, aL_14, io_15, gI_15, pI_15, pZ_15, aL_16, io_17, gI_17, pI_17, pZ_17, aL_18, aL_19, io_20, gI_20, pI_20, pZ_20, aL_21, io_22, gI_22, pI_22, pZ_22, aL_23, io_24, gI_24, pI_24, pZ_24, aL_25, io_26, gI_26, pI_26, pZ_26, io_27, gI_27, pI_27, pZ_27, aL_28, aL_29, aL_30, aL_31, aL_32, aL_33, io_34, gI_34, pI_34, pZ_34, aL_35, io_36, gI_36, pI_36, pZ_36, aL_37, io_38, gI_38, pI_38, pZ_38, aL_39, io_40, gI_40, pI_40, pZ_40, aL_41, io_42, gI_42, pI_42, pZ_42, aL_43, aL_44, aL_45, aL_46, aL_47, aL_48, aL_49, aL_50, aL_51, aL_52, aL_53, aL_54, aL_55, aL_56, aL_57, aL_58, gq_0_0, gq_0_1, gq_0_2, gq_0_3, gq_0_4, gq_0_5, gq_0_6, gq_0_7, gq_1_0, gq_1_1, gq_1_2, gq_1_3, gq_1_4, gq_1_5, gq_1_6, gq_1_7, gq_1_8, gq_1_9, gq_2_2, gq_4_2, gq_6_2, gq_9_2, gq_11_2, gq_13_2, gq_15_2, gq_17_0, gq_20_0, gq_22_0, gq_24_0, gq_27_0, gq_34_0, gq_36_0, gq_38_0, gq_40_0, gq_42_0, gq_42_1, gq_42_3, gq_42_4, gq_42_11, gq_42_12, gq_42_13, gq_42_15, gq_42_16, gq_42_17, gq_42_18, gq_42_19, gq_42_23, gq_42_24, gq_42_25, gq_42_26, aQ_29_0, aQ_29_1, aQ_29_2, aQ_29_3, aQ_19_0, aQ_19_1, aQ_19_2, aQ_46_0, aQ_46_1, aQ_46_2, gq_26, gr_26, gr_0_8, pQ_26, Option.bind_some, ↓reduceIte, one_ne0, is_1 (e43 w4) (show c 1 ≤ 1000 by omega), if_pos ha, within_eq, if_neg hv, finds_1]
        try simp
  · refine op_err1 (k := 1) (e := -1000001) (by decide) hR ?_ ?_
    · show f_X7_voice (mkS m kp b) 0 a v w = _
      unfold f_X7_voice
      simp only [io_0, gI_0, pI_0, pZ_0, io_1, gI_1, pI_1, pZ_1, io_2, gI_2, pI_2, pZ_2, aL_3, io_4, gI_4, pI_4, pZ_4, aL_5, io_6, gI_6, pI_6, pZ_6, aL_7, aL_8, io_9, gI_9, pI_9, pZ_9, aL_10, io_11, gI_11, pI_11, pZ_11, aL_12, io_13, gI_13, pI_13, pZ_13, aL_14, io_15, gI_15, pI_15, pZ_15, aL_16, io_17, gI_17, pI_17, pZ_17, aL_18, aL_19, io_20, gI_20, pI_20, pZ_20, aL_21, io_22, gI_22, pI_22, pZ_22, aL_23, io_24, gI_24, pI_24, pZ_24, aL_25, io_26, gI_26, pI_26, pZ_26, io_27, gI_27, pI_27, pZ_27, aL_28, aL_29, aL_30, aL_31, aL_32, aL_33, io_34, gI_34, pI_34, pZ_34, aL_35, io_36, gI_36, pI_36, pZ_36, aL_37, io_38, gI_38, pI_38, pZ_38, aL_39, io_40, gI_40, pI_40, pZ_40, aL_41, io_42, gI_42, pI_42, pZ_42, aL_43, aL_44, aL_45, aL_46, aL_47, aL_48, aL_49, aL_50, aL_51, aL_52, aL_53, aL_54, aL_55, aL_56, aL_57, aL_58, gq_0_0, gq_0_1, gq_0_2, gq_0_3, gq_0_4, gq_0_5, gq_0_6, gq_0_7, gq_1_0, gq_1_1, gq_1_2, gq_1_3, gq_1_4, gq_1_5, gq_1_6, gq_1_7, gq_1_8, gq_1_9, gq_2_2, gq_4_2, gq_6_2, gq_9_2, gq_11_2, gq_13_2, gq_15_2, gq_17_0, gq_20_0, gq_22_0, gq_24_0, gq_27_0, gq_34_0, gq_36_0, gq_38_0, gq_40_0, gq_42_0, gq_42_1, gq_42_3, gq_42_4, gq_42_11, gq_42_12, gq_42_13, gq_42_15, gq_42_16, gq_42_17, gq_42_18, gq_42_19, gq_42_23, gq_42_24, gq_42_25, gq_42_26, aQ_29_0, aQ_29_1, aQ_29_2, aQ_29_3, aQ_19_0, aQ_19_1, aQ_19_2, aQ_46_0, aQ_46_1, aQ_46_2, gq_26, gr_26, gr_0_8, pQ_26, Option.bind_some, ↓reduceIte, one_ne0, has_6 w3, if_neg ha, fails_1]
      try simp
    · show f_X8_voice (mkS _ kp b) 42 a v w = _
      unfold f_X8_voice
      simp only [io_0, gI_0, pI_0, pZ_0, io_1, gI_1, pI_1, pZ_1, io_2, gI_2, pI_2, pZ_2, aL_3, io_4, gI_4, pI_4, pZ_4, aL_5, io_6, gI_6, pI_6, pZ_6, aL_7, aL_8, io_9, gI_9, pI_9, pZ_9, aL_10, io_11, gI_11, pI_11, pZ_11, aL_12, io_13, gI_13, pI_13, pZ_13, aL_14, io_15, gI_15, pI_15, pZ_15, aL_16, io_17, gI_17, pI_17, pZ_17, aL_18, aL_19, io_20, gI_20, pI_20, pZ_20, aL_21, io_22, gI_22, pI_22, pZ_22, aL_23, io_24, gI_24, pI_24, pZ_24, aL_25, io_26, gI_26, pI_26, pZ_26, io_27, gI_27, pI_27, pZ_27, aL_28, aL_29, aL_30, aL_31, aL_32, aL_33, io_34, gI_34, pI_34, pZ_34, aL_35, io_36, gI_36, pI_36, pZ_36, aL_37, io_38, gI_38, pI_38, pZ_38, aL_39, io_40, gI_40, pI_40, pZ_40, aL_41, io_42, gI_42, pI_42, pZ_42, aL_43, aL_44, aL_45, aL_46, aL_47, aL_48, aL_49, aL_50, aL_51, aL_52, aL_53, aL_54, aL_55, aL_56, aL_57, aL_58, gq_0_0, gq_0_1, gq_0_2, gq_0_3, gq_0_4, gq_0_5, gq_0_6, gq_0_7, gq_1_0, gq_1_1, gq_1_2, gq_1_3, gq_1_4, gq_1_5, gq_1_6, gq_1_7, gq_1_8, gq_1_9, gq_2_2, gq_4_2, gq_6_2, gq_9_2, gq_11_2, gq_13_2, gq_15_2, gq_17_0, gq_20_0, gq_22_0, gq_24_0, gq_27_0, gq_34_0, gq_36_0, gq_38_0, gq_40_0, gq_42_0, gq_42_1, gq_42_3, gq_42_4, gq_42_11, gq_42_12, gq_42_13, gq_42_15, gq_42_16, gq_42_17, gq_42_18, gq_42_19, gq_42_23, gq_42_24, gq_42_25, gq_42_26, aQ_29_0, aQ_29_1, aQ_29_2, aQ_29_3, aQ_19_0, aQ_19_1, aQ_19_2, aQ_46_0, aQ_46_1, aQ_46_2, gq_26, gr_26, gr_0_8, pQ_26, Option.bind_some, ↓reduceIte, one_ne0, is_1 (e43 w4) (show c 1 ≤ 1000 by omega), if_neg ha, finds_1]
      try simp
end VP
