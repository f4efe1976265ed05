/-! voices -/
abbrev VS : Type := (Nat → Int32) × Nat × Bool
abbrev VE : Type := Nat → Nat → Int32 → VS → Int32 × VS
def vtr (s : VS) (cd : Int32) : VS := if s.2.1 < 30 then (fun i => if i = s.2.1 then cd else s.1 i, s.2.1 + 1, s.2.2) else s
def rsT : List Nat := [0, 0, 0, 0, 0, 1, 1, 0, 2, 2, 1, 0, 3, 0, 0, 3, 0, 0, 4, 0, 5, 0, 5, 3, 0, 1, 6, 0, 0, 0, 4, 7]
def rsv (k a : Nat) : Nat := rsT.getD (4 * k + a) 0
def prv (k : Nat) : Nat := [0, 0, 1, 0, 0, 3, 1, 4].getD k 0
def cdv (k a : Nat) : Nat := [10, 11, 12, 13, 0, 20, 21, 0, 30, 31, 0, 0, 40, 0, 0, 41, 0, 0, 50, 0, 60, 0, 61, 0, 0, 0, 70, 0, 0, 0, 0, 80].getD (4 * k + a) 0
def clv (K k a : Nat) : List (Nat × Nat) := match k, a with
  | 0, 1 => [(K, 0)]
  | 0, 2 => [(K, 1)]
  | 1, 1 => [(0, 1)]
  | 1, 2 => [(0, 2)]
  | 2, 0 => [(1, 0)]
  | 2, 1 => [(1, 1)]
  | 3, 0 => [(0, 0)]
  | 3, 3 => [(0, 3), (K, 2)]
  | 4, 2 => [(0, 2)]
  | 5, 0 => [(3, 0)]
  | 5, 2 => [(3, 2), (K, 0)]
  | 6, 2 => [(1, 2), (K, 1)]
  | 7, 3 => [(K, 2), (4, 3)]
  | _, _ => []
def evB (E : VE) (K : Nat) (cv sz : Int32) (k a : Nat) (x : Int32) (s : VS) : Int32 × VS := match k, a with
  | 0, 0 => (x + sz, s)
  | 0, 3 => (if sz = cv then 0 else x / (sz - cv), (s.1, s.2.1, decide (sz = cv)))
  | 0, 1 => ((E K 0 (x) s).1 * 2, (E K 0 (x) s).2)
  | 0, 2 => ((E K 1 (x) s).1 - cv, (E K 1 (x) s).2)
  | 1, 1 => ((E 0 1 (x) s).1 + 3, (E 0 1 (x) s).2)
  | 1, 2 => ((E 0 2 (x) s).1 ^^^ sz, (E 0 2 (x) s).2)
  | 2, 0 => ((E 1 0 (x) s).1 / 2, (E 1 0 (x) s).2)
  | 2, 1 => ((E 1 1 (x - 1) s).1, (E 1 1 (x - 1) s).2)
  | 3, 0 => (-(E 0 0 (x) s).1, (E 0 0 (x) s).2)
  | 3, 3 => ((E 0 3 (x) s).1 + (E K 2 (1) (E 0 3 (x) s).2).1, (E K 2 (1) (E 0 3 (x) s).2).2)
  | 4, 2 => ((E 0 2 (x) s).1 * 3, (E 0 2 (x) s).2)
  | 5, 0 => ((E 3 0 (x + cv) s).1, (E 3 0 (x + cv) s).2)
  | 5, 2 => ((E 3 2 (x) s).1 - (E K 0 (2) (E 3 2 (x) s).2).1, (E K 0 (2) (E 3 2 (x) s).2).2)
  | 6, 2 => ((E 1 2 (x) s).1 + (E K 1 (cv) (E 1 2 (x) s).2).1, (E K 1 (cv) (E 1 2 (x) s).2).2)
  | 7, 3 => ((E K 2 (x) s).1 - (E 4 3 (x) (E K 2 (x) s).2).1, (E 4 3 (x) (E K 2 (x) s).2).2)
  | _, _ => (0, s)
def ev (K : Nat) (cv sz : Int32) : Nat → VE
  | 0, _, _, _, s => (0, s)
  | n + 1, k, a, x, s => if s.2.2 = true then (0, s) else evB (ev K cv sz n) K cv sz (rsv k a) a x (vtr s (nI (cdv (rsv k a) a)))
def rkF (K : Nat) : Nat → Nat → Nat → Nat
  | 0, _, _ => 0
  | n + 1, k, a => 1 + (clv K (rsv k a) a).foldl (fun y c => max y (rkF K n c.1 c.2)) 0
def rkv (K k a : Nat) : Nat := rkF K 9 k a
theorem rk_ok : ∀ K, K < 8 → ∀ k, k < 8 → ∀ a, a < 4 → (clv K (rsv k a) a).all (fun c => decide (c.1 < 8 ∧ c.2 < 4 ∧ rkv K c.1 c.2 < rkv K k a)) = true := by decide +kernel
theorem rk_le : ∀ K, K < 8 → ∀ k, k < 8 → ∀ a, a < 4 → rkv K k a ≤ 8 := by decide +kernel
theorem rs_lt : ∀ k, k < 8 → ∀ a, a < 4 → rsv k a < 8 := by decide +kernel
theorem rs_in0 : ∀ k, k < 8 → ∀ a, a < 4 → (((rsv k a == 0) && (a == 0)) || (((rsv k a == 0) && (a == 1)) || (((rsv k a == 0) && (a == 2)) || (((rsv k a == 0) && (a == 3)) || (((rsv k a == 1) && (a == 1)) || (((rsv k a == 1) && (a == 2)) || (((rsv k a == 2) && (a == 0)) || (((rsv k a == 2) && (a == 1)) || (((rsv k a == 3) && (a == 0)) || (((rsv k a == 3) && (a == 3)) || (((rsv k a == 4) && (a == 2)) || (((rsv k a == 5) && (a == 0)) || (((rsv k a == 5) && (a == 2)) || (((rsv k a == 6) && (a == 2)) || (((rsv k a == 7) && (a == 3))))))))))))))))) = true := by decide +kernel
theorem rs_in {k a : Nat} (hk : k < 8) (ha : a < 4) : (rsv k a = 0 ∧ a = 0) ∨ (rsv k a = 0 ∧ a = 1) ∨ (rsv k a = 0 ∧ a = 2) ∨ (rsv k a = 0 ∧ a = 3) ∨ (rsv k a = 1 ∧ a = 1) ∨ (rsv k a = 1 ∧ a = 2) ∨ (rsv k a = 2 ∧ a = 0) ∨ (rsv k a = 2 ∧ a = 1) ∨ (rsv k a = 3 ∧ a = 0) ∨ (rsv k a = 3 ∧ a = 3) ∨ (rsv k a = 4 ∧ a = 2) ∨ (rsv k a = 5 ∧ a = 0) ∨ (rsv k a = 5 ∧ a = 2) ∨ (rsv k a = 6 ∧ a = 2) ∨ (rsv k a = 7 ∧ a = 3) := by
  have := rs_in0 k hk a ha
  simp only [Bool.or_eq_true, Bool.and_eq_true, beq_iff_eq] at this
  exact this
def rc0 : Nat → List Int32 → St → Option (Int32 × St) := fun _ _ _ => none
theorem l6_any (rc : Nat → List Int32 → St → Option (Int32 × St)) (x2 : Int32) : ∀ n x6 x5, f_X6_voiceFrom_L6 rc x2 n x6 x5 = f_X6_voiceFrom_L6 rc0 x2 n x6 x5
  | 0, _, _ => rfl
  | n + 1, x6, x5 => by
    rw [f_X6_voiceFrom_L6, f_X6_voiceFrom_L6]
    simp only [l6_any rc x2 n]
theorem l6_dec : ∀ k, k < 8 → ∀ a, a < 4 → (f_X6_voiceFrom_L6 rc0 (nI a) 3000 0 (nI k)).map (fun p => p.2) = some (nI (rsv k a)) := by decide +kernel
theorem l3_any (rc : Nat → List Int32 → St → Option (Int32 × St)) (σ : St) (x2 : Int32) : ∀ n x4, f_X8_bodyFrom_L3 rc σ x2 n x4 = f_X8_bodyFrom_L3 rc0 sg0 x2 n x4
  | 0, _ => rfl
  | n + 1, x4 => by
    rw [f_X8_bodyFrom_L3, f_X8_bodyFrom_L3]
    simp only [f_X8_above, f_X8_hasOwn, Option.bind_some, l3_any rc σ x2 n]
theorem l3_dec : ∀ k, k < 8 → ∀ a, a < 4 → f_X8_bodyFrom_L3 rc0 sg0 (nI a) 3000 (nI k) = some (nI (rsv k a)) := by decide +kernel
theorem o3_dec : ∀ k, k < 8 → ∀ a, a < 4 → oI 3 32 ((nI (rsv k a) * 4) + nI a) = some (nI (cdv (rsv k a) a)) := by decide +kernel
theorem o2_dec : ∀ k, k < 8 → k ≠ 0 → oI 2 8 (nI k) = some (nI (prv k)) := by decide +kernel
theorem bind_eta {o : Option (Int32 × St)} : (o.bind fun p => some (p.1, p.2)) = o := by cases o <;> rfl
def C7 (m : Nat → Nat → Int32) (kp : Bool) (b : Option Nat) (K : Nat) (cv sz : Int32) (s : VS) (σ : St) : Prop := ∃ M, σ = mkS M kp b ∧ (∀ q, q ≠ 27 → q ≠ 28 → M q = m q) ∧ (∀ i, i < 30 → M 28 i = s.1 i) ∧ (M 27 1 = nI s.2.1 ∧ s.2.1 ≤ 30) ∧ M 27 2 = (if s.2.2 = true then 1 else 0) ∧ M 27 3 = nI K ∧ M 27 4 = cv ∧ M 27 5 = sz
def C8 (m : Nat → Nat → Int32) (kp : Bool) (b : Option Nat) (K : Nat) (q : Nat) (sz : Int32) (s : VS) (σ : St) : Prop := ∃ M, σ = mkS M kp b ∧ (∀ k, k ≠ 42 → k ≠ 54 → M k = m k) ∧ M 42 2 = m 42 2 ∧ (∀ i, i < 30 → M 54 i = s.1 i) ∧ (M 42 20 = nI s.2.1 ∧ s.2.1 ≤ 30) ∧ M 42 22 = (if s.2.2 = true then 1 else 0) ∧ M 42 21 = nI q ∧ q < 24 ∧ m 43 (82 + 29 * q) = nI K ∧ m 43 (82 + 29 * q + 3) = sz
section VO
variable {m : Nat → Nat → Int32} {kp : Bool} {b : Option Nat} {z : Nat} {c : Nat → Nat} {K q : Nat} {cv sz x d : Int32} {s : VS} {σ : St} {rc : Nat → List Int32 → St → Option (Int32 × St)} {E : VE}
theorem C7.f (h : C7 m kp b K cv sz s σ) : isO σ 5 27 = true ∧ gI σ 5 27 3 = some (nI K) ∧ gI σ 5 27 4 = some cv ∧ gI σ 5 27 5 = some sz ∧ gI σ 5 27 2 = some (if s.2.2 = true then 1 else 0) := by
  obtain ⟨M, rfl, h1, h2, h3, h4, h5, h6, h7⟩ := h
  exact ⟨io_27, by rw [gI_27, h5], by rw [gI_27, h6], by rw [gI_27, h7], by rw [gI_27, h4]⟩
theorem C8.f (h : C8 m kp b K q sz s σ) : isO σ 7 42 = true ∧ gI σ 7 42 21 = some (nI q) ∧ f_X8_many σ 42 (nI q) = some sz ∧ f_X8_curve σ 42 (nI q) 0 = some (nI K) ∧ gI σ 7 42 22 = some (if s.2.2 = true then 1 else 0) := by
  obtain ⟨M, rfl, h1, h1b, h2, h3, h4, h5, h6, h7, h8⟩ := h
  have e43 : M 43 = m 43 := h1 43 (by decide) (by decide)
  exact ⟨io_42, by rw [gI_42, h5], by rw [mmany h6, e43, h8], by rw [mcur0 h6, e43, h7], by rw [gI_42, h4]⟩
def H7 (m : Nat → Nat → Int32) (kp : Bool) (b : Option Nat) (K : Nat) (cv sz d : Int32) (rc : Nat → List Int32 → St → Option (Int32 × St)) (E : VE) (kk a : Nat) : Prop := ∀ k2 a2 y s σ, (k2, a2) ∈ clv K kk a → C7 m kp b K cv sz s σ → ∃ σ', rc 2 [nI k2, nI a2, y, d] σ = some ((E k2 a2 y s).1, σ') ∧ C7 m kp b K cv sz (E k2 a2 y s).2 σ'
def H8 (m : Nat → Nat → Int32) (kp : Bool) (b : Option Nat) (K q : Nat) (sz : Int32) (rc : Nat → List Int32 → St → Option (Int32 × St)) (E : VE) (kk a : Nat) : Prop := (∀ k2 a2 y s σ, (k2, a2) ∈ clv K kk a → C8 m kp b K q sz s σ → ∃ σ', rc 1 [nI k2, nI a2, y] σ = some ((E k2 a2 y s).1, σ') ∧ C8 m kp b K q sz (E k2 a2 y s).2 σ') ∧ ∀ a2 y s σ, (K, a2) ∈ clv K kk a → C8 m kp b K q sz s σ → ∃ σ', rc 2 [nI a2, y] σ = some ((E K a2 y s).1, σ') ∧ C8 m kp b K q sz (E K a2 y s).2 σ'
theorem sub_ne {x y : Int32} (h : ¬ x = y) : ¬ x - y = 0 := fun e => h (by rw [← Int32.sub_add_cancel x y, e, Int32.zero_add])
theorem vt7 {k a dep : Nat} (hC : C7 m kp b K cv sz s σ) (hk : k < 8) (ha : a < 4) (hs : s.2.2 = false) (hd : dep ≤ 40) : ∃ σ1, C7 m kp b K cv sz (vtr s (nI (cdv (rsv k a) a))) σ1 ∧ f_X6_voiceFrom rc σ 27 (nI k) (nI a) x (nI dep) = if rsv k a = 0 then rc 0 [nI a, x, nI (dep + 1)] σ1 else rc 1 [nI (cdv (rsv k a) a), nI (prv (rsv k a)), x, nI (dep + 1)] σ1 := by
  have hr := l6_dec k hk a ha
  rw [← l6_any rc] at hr
  have hrl := rs_lt k hk a ha
  have ho := o3_dec k hk a ha
  have hp := o2_dec (rsv k a) hrl
  generalize hkk : rsv k a = kk at *
  obtain ⟨p, ep, eq⟩ := Option.map_eq_some_iff.mp hr
  obtain ⟨M, rfl, h1, h2, ⟨h3, h3b⟩, h4, h5, h6, h7⟩ := hC
  have h4' : M 27 2 = 0 := by rw [h4, hs]; rfl
  unfold f_X6_voiceFrom vtr
  rw [if_pos io_27, ep, Option.bind_some, eq, gI_27, Option.bind_some, h4', if_pos rfl, if_neg (show ¬ (40 : Int32) < nI dep from nI_nlt (a := 40) hd (by decide)), if_neg (nI_pos (by omega)), if_pos (nI_lt hrl (by decide)), ho, Option.bind_some, gI_27, Option.bind_some, h3, nI_a1]
  by_cases hn : s.2.1 < 30
  · rw [if_neg (show ¬ (30 : Int32) ≤ nI s.2.1 from nI_ge (b := 30) hn (by decide)), gq_27_0, Option.bind_some, Option.bind_some, wr_28 hn, Option.bind_some, gI_27, Option.bind_some, pI_27, Option.bind_some, st1_ne (show (27 : Nat) ≠ 28 by decide), h3, nI_a1, if_pos hn]
    refine ⟨mkS (st1 (st1 M 28 s.2.1 (nI (cdv kk a))) 27 1 (nI (s.2.1 + 1))) kp b, ⟨_, rfl, fun q q1 q2 => by rw [st1_ne q1, st1_ne q2, h1 q q1 q2], fun i hi => ?_, ⟨by rw [st1_eq], hn⟩, ?_, ?_, ?_, ?_⟩, ?_⟩
    · rw [st1_ne (show (28 : Nat) ≠ 27 by decide), st1_app]
      dsimp only
      by_cases e : i = s.2.1
      · rw [if_pos ⟨rfl, e⟩, if_pos e]
      · rw [if_neg (fun y => e y.2), if_neg e, h2 i hi]
    · rw [st1_nf (by decide), st1_ne (by decide), h4]
    · rw [st1_nf (by decide), st1_ne (by decide), h5]
    · rw [st1_nf (by decide), st1_ne (by decide), h6]
    · rw [st1_nf (by decide), st1_ne (by decide), h7]
    · by_cases h0 : kk = 0
      · rw [if_pos (show nI kk = 0 by rw [h0]; rfl), if_pos h0, bind_eta]
      · rw [if_neg (nI_ne0 (by omega) (by omega)), if_neg h0, hp h0, Option.bind_some, bind_eta]
  · rw [if_pos (show (30 : Int32) ≤ nI s.2.1 from nI_le (a := 30) (by omega) (by omega)), if_neg hn]
    refine ⟨mkS M kp b, ⟨M, rfl, h1, h2, ⟨h3, h3b⟩, h4, h5, h6, h7⟩, ?_⟩
    by_cases h0 : kk = 0
    · rw [if_pos (show nI kk = 0 by rw [h0]; rfl), if_pos h0, bind_eta]
    · rw [if_neg (nI_ne0 (by omega) (by omega)), if_neg h0, hp h0, Option.bind_some, bind_eta]
theorem vt8 {cd : Int32} (hC : C8 m kp b K q sz s σ) : ∃ σ1, f_X8_began σ 42 cd = some σ1 ∧ C8 m kp b K q sz (vtr s cd) σ1 := by
  obtain ⟨M, rfl, h1, h1b, h2, ⟨h3, h3b⟩, h4, h5, h6, h7, h8⟩ := hC
  unfold f_X8_began vtr
  rw [if_pos io_42, gI_42, Option.bind_some, h3]
  by_cases hn : s.2.1 < 30
  · rw [if_neg (show ¬ (30 : Int32) ≤ nI s.2.1 from nI_ge (b := 30) hn (by decide)), gq_42_19, Option.bind_some, Option.bind_some, wr_54 hn, Option.bind_some, gI_42, Option.bind_some, pI_42, Option.bind_some, st1_ne (show (42 : Nat) ≠ 54 by decide), h3, nI_a1, if_pos hn]
    refine ⟨_, rfl, _, rfl, fun k q1 q2 => by rw [st1_ne q1, st1_ne q2, h1 k q1 q2], by rw [st1_nf (by decide), st1_ne (by decide), h1b], fun i hi => ?_, ⟨by rw [st1_eq], hn⟩, ?_, ?_, h6, h7, h8⟩
    · rw [st1_ne (show (54 : Nat) ≠ 42 by decide), st1_app]
      dsimp only
      by_cases e : i = s.2.1
      · rw [if_pos ⟨rfl, e⟩, if_pos e]
      · rw [if_neg (fun y => e y.2), if_neg e, h2 i hi]
    · rw [st1_nf (by decide), st1_ne (by decide), h4]
    · rw [st1_nf (by decide), st1_ne (by decide), h5]
  · rw [if_pos (show (30 : Int32) ≤ nI s.2.1 from nI_le (a := 30) (by omega) (by omega)), if_neg hn]
    exact ⟨_, rfl, M, rfl, h1, h1b, h2, ⟨h3, h3b⟩, h4, h5, h6, h7, h8⟩
def bd7 (rc : Nat → List Int32 → St → Option (Int32 × St)) (σ : St) (kk a : Nat) (x d : Int32) : Option (Int32 × St) := if kk = 0 then f_X6_ofCurve rc σ 27 (nI a) x d else f_X6_ofKindUnder rc σ 27 (nI (cdv kk a)) (nI (prv kk)) x d
theorem b7_00 (H : H7 m kp b K cv sz d rc E 0 0) (hC : C7 m kp b K cv sz s σ) : ∃ σ', bd7 rc σ 0 0 x d = some ((evB E K cv sz 0 0 x s).1, σ') ∧ C7 m kp b K cv sz (evB E K cv sz 0 0 x s).2 σ' := by
  obtain ⟨f0, f3, f4, f5, f2⟩ := C7.f hC
  refine ⟨σ, ?_, hC⟩
  show f_X6_ofCurve rc σ 27 0 x d = _
  unfold f_X6_ofCurve
  rw [if_pos f0, if_pos rfl, f5, Option.bind_some]
  rfl
theorem b7_01 (H : H7 m kp b K cv sz d rc E 0 1) (hC : C7 m kp b K cv sz s σ) : ∃ σ', bd7 rc σ 0 1 x d = some ((evB E K cv sz 0 1 x s).1, σ') ∧ C7 m kp b K cv sz (evB E K cv sz 0 1 x s).2 σ' := by
  obtain ⟨f0, f3, f4, f5, f2⟩ := C7.f hC
  obtain ⟨σ1, e1, h1⟩ := H K 0 (x) s σ (by simp [clv]) hC
  obtain ⟨g0, g3, g4, g5, g2⟩ := C7.f h1
  refine ⟨σ1, ?_, h1⟩
  show f_X6_ofCurve rc σ 27 1 x d = _
  unfold f_X6_ofCurve
  rw [if_pos f0, if_neg (by decide), if_pos rfl, f3, Option.bind_some, show rc 2 [nI K, 0, x, d] σ = _ from e1, Option.bind_some]
  rfl
theorem b7_02 (H : H7 m kp b K cv sz d rc E 0 2) (hC : C7 m kp b K cv sz s σ) : ∃ σ', bd7 rc σ 0 2 x d = some ((evB E K cv sz 0 2 x s).1, σ') ∧ C7 m kp b K cv sz (evB E K cv sz 0 2 x s).2 σ' := by
  obtain ⟨f0, f3, f4, f5, f2⟩ := C7.f hC
  obtain ⟨σ1, e1, h1⟩ := H K 1 (x) s σ (by simp [clv]) hC
  obtain ⟨g0, g3, g4, g5, g2⟩ := C7.f h1
  refine ⟨σ1, ?_, h1⟩
  show f_X6_ofCurve rc σ 27 2 x d = _
  unfold f_X6_ofCurve
  rw [if_pos f0, if_neg (by decide), if_neg (by decide), if_pos rfl, f3, Option.bind_some, show rc 2 [nI K, 1, x, d] σ = _ from e1, Option.bind_some, g4, Option.bind_some]
  rfl
theorem b7_03 (H : H7 m kp b K cv sz d rc E 0 3) (hC : C7 m kp b K cv sz s σ) : ∃ σ', bd7 rc σ 0 3 x d = some ((evB E K cv sz 0 3 x s).1, σ') ∧ C7 m kp b K cv sz (evB E K cv sz 0 3 x s).2 σ' := by
  obtain ⟨f0, f3, f4, f5, f2⟩ := C7.f hC
  obtain ⟨M, rfl, h1, h2, h3, h4, h5, h6, h7⟩ := hC
  refine ⟨mkS (st1 M 27 2 (if sz = cv then 1 else 0)) kp b, ?_, _, rfl, fun q q1 q2 => by rw [st1_ne q1, h1 q q1 q2], fun i hi => by rw [st1_ne (by decide)]; exact h2 i hi, ⟨by rw [st1_nf (by decide)]; exact h3.1, h3.2⟩, ?_, by rw [st1_nf (by decide)]; exact h5, by rw [st1_nf (by decide)]; exact h6, by rw [st1_nf (by decide)]; exact h7⟩
  · show f_X6_ofCurve rc (mkS M kp b) 27 3 x d = _
    unfold f_X6_ofCurve ne0
    rw [if_pos f0, if_neg (by decide), if_neg (by decide), if_neg (by decide), f5, Option.bind_some, f4, Option.bind_some]
    by_cases e : sz = cv
    · rw [if_pos e, pZ_27, if_pos (Or.inr rfl), Option.bind_some, gI_27, Option.bind_some, st1_eq, if_neg (by decide)]
      show _ = some ((if sz = cv then 0 else x / (sz - cv)), _)
      rw [if_pos e]
    · rw [if_neg e, pZ_27, if_pos (Or.inl rfl), Option.bind_some, gI_27, Option.bind_some, st1_eq, if_pos rfl, gI_27, Option.bind_some, gI_27, Option.bind_some, st1_nf (by decide), st1_nf (by decide), h6, h7, if_neg (sub_ne e), Option.bind_some]
      show _ = some ((if sz = cv then 0 else x / (sz - cv)), _)
      rw [if_neg e]
  · rw [st1_eq]
    show _ = if decide (sz = cv) = true then (1 : Int32) else 0
    by_cases e : sz = cv
    · rw [if_pos e, if_pos (decide_eq_true e)]
    · rw [if_neg e, if_neg (fun y => e (of_decide_eq_true y))]
theorem b7_11 (H : H7 m kp b K cv sz d rc E 1 1) (hC : C7 m kp b K cv sz s σ) : ∃ σ', bd7 rc σ 1 1 x d = some ((evB E K cv sz 1 1 x s).1, σ') ∧ C7 m kp b K cv sz (evB E K cv sz 1 1 x s).2 σ' := by
  obtain ⟨f0, f3, f4, f5, f2⟩ := C7.f hC
  obtain ⟨σ1, e1, h1⟩ := H 0 1 (x) s σ (by simp [clv]) hC
  obtain ⟨g0, g3, g4, g5, g2⟩ := C7.f h1
  refine ⟨σ1, ?_, h1⟩
  show f_X6_ofKindUnder rc σ 27 20 (nI 0) x d = _
  unfold f_X6_ofKindUnder
  rw [if_pos f0, if_pos rfl, show rc 2 [nI 0, 1, x, d] σ = _ from e1, Option.bind_some]
  rfl
theorem b7_12 (H : H7 m kp b K cv sz d rc E 1 2) (hC : C7 m kp b K cv sz s σ) : ∃ σ', bd7 rc σ 1 2 x d = some ((evB E K cv sz 1 2 x s).1, σ') ∧ C7 m kp b K cv sz (evB E K cv sz 1 2 x s).2 σ' := by
  obtain ⟨f0, f3, f4, f5, f2⟩ := C7.f hC
  obtain ⟨σ1, e1, h1⟩ := H 0 2 (x) s σ (by simp [clv]) hC
  obtain ⟨g0, g3, g4, g5, g2⟩ := C7.f h1
  refine ⟨σ1, ?_, h1⟩
  show f_X6_ofKindUnder rc σ 27 21 (nI 0) x d = _
  unfold f_X6_ofKindUnder
  rw [if_pos f0, if_neg (by decide), if_pos rfl, show rc 2 [nI 0, 2, x, d] σ = _ from e1, Option.bind_some, g5, Option.bind_some]
  rfl
theorem b7_20 (H : H7 m kp b K cv sz d rc E 2 0) (hC : C7 m kp b K cv sz s σ) : ∃ σ', bd7 rc σ 2 0 x d = some ((evB E K cv sz 2 0 x s).1, σ') ∧ C7 m kp b K cv sz (evB E K cv sz 2 0 x s).2 σ' := by
  obtain ⟨f0, f3, f4, f5, f2⟩ := C7.f hC
  obtain ⟨σ1, e1, h1⟩ := H 1 0 (x) s σ (by simp [clv]) hC
  obtain ⟨g0, g3, g4, g5, g2⟩ := C7.f h1
  refine ⟨σ1, ?_, h1⟩
  show f_X6_ofKindUnder rc σ 27 30 (nI 1) x d = _
  unfold f_X6_ofKindUnder
  rw [if_pos f0, if_neg (by decide), if_neg (by decide), if_pos rfl, show rc 2 [nI 1, 0, x, d] σ = _ from e1, Option.bind_some]
  rfl
theorem b7_21 (H : H7 m kp b K cv sz d rc E 2 1) (hC : C7 m kp b K cv sz s σ) : ∃ σ', bd7 rc σ 2 1 x d = some ((evB E K cv sz 2 1 x s).1, σ') ∧ C7 m kp b K cv sz (evB E K cv sz 2 1 x s).2 σ' := by
  obtain ⟨f0, f3, f4, f5, f2⟩ := C7.f hC
  obtain ⟨σ1, e1, h1⟩ := H 1 1 (x - 1) s σ (by simp [clv]) hC
  obtain ⟨g0, g3, g4, g5, g2⟩ := C7.f h1
  refine ⟨σ1, ?_, h1⟩
  show f_X6_ofKindUnder rc σ 27 31 (nI 1) x d = _
  unfold f_X6_ofKindUnder
  rw [if_pos f0, if_neg (by decide), if_neg (by decide), if_neg (by decide), if_pos rfl, show rc 2 [nI 1, 1, x - 1, d] σ = _ from e1, Option.bind_some]
  rfl
theorem b7_30 (H : H7 m kp b K cv sz d rc E 3 0) (hC : C7 m kp b K cv sz s σ) : ∃ σ', bd7 rc σ 3 0 x d = some ((evB E K cv sz 3 0 x s).1, σ') ∧ C7 m kp b K cv sz (evB E K cv sz 3 0 x s).2 σ' := by
  obtain ⟨f0, f3, f4, f5, f2⟩ := C7.f hC
  obtain ⟨σ1, e1, h1⟩ := H 0 0 (x) s σ (by simp [clv]) hC
  obtain ⟨g0, g3, g4, g5, g2⟩ := C7.f h1
  refine ⟨σ1, ?_, h1⟩
  show f_X6_ofKindUnder rc σ 27 40 (nI 0) x d = _
  unfold f_X6_ofKindUnder
  rw [if_pos f0, if_neg (by decide), if_neg (by decide), if_neg (by decide), if_neg (by decide), if_pos rfl, show rc 2 [nI 0, 0, x, d] σ = _ from e1, Option.bind_some, Int32.zero_sub]
  rfl
theorem b7_33 (H : H7 m kp b K cv sz d rc E 3 3) (hC : C7 m kp b K cv sz s σ) : ∃ σ', bd7 rc σ 3 3 x d = some ((evB E K cv sz 3 3 x s).1, σ') ∧ C7 m kp b K cv sz (evB E K cv sz 3 3 x s).2 σ' := by
  obtain ⟨f0, f3, f4, f5, f2⟩ := C7.f hC
  obtain ⟨σ1, e1, h1⟩ := H 0 3 (x) s σ (by simp [clv]) hC
  obtain ⟨g0, g3, g4, g5, g2⟩ := C7.f h1
  obtain ⟨σ2, e2, h2⟩ := H K 2 (1) _ σ1 (by simp [clv]) h1
  refine ⟨σ2, ?_, h2⟩
  show f_X6_ofKindUnder rc σ 27 41 (nI 0) x d = _
  unfold f_X6_ofKindUnder
  rw [if_pos f0, if_neg (by decide), if_neg (by decide), if_neg (by decide), if_neg (by decide), if_neg (by decide), if_pos rfl, show rc 2 [nI 0, 3, x, d] σ = _ from e1, Option.bind_some, g3, Option.bind_some, show rc 2 [nI K, 2, 1, d] σ1 = _ from e2, Option.bind_some]
  rfl
theorem b7_42 (H : H7 m kp b K cv sz d rc E 4 2) (hC : C7 m kp b K cv sz s σ) : ∃ σ', bd7 rc σ 4 2 x d = some ((evB E K cv sz 4 2 x s).1, σ') ∧ C7 m kp b K cv sz (evB E K cv sz 4 2 x s).2 σ' := by
  obtain ⟨f0, f3, f4, f5, f2⟩ := C7.f hC
  obtain ⟨σ1, e1, h1⟩ := H 0 2 (x) s σ (by simp [clv]) hC
  obtain ⟨g0, g3, g4, g5, g2⟩ := C7.f h1
  refine ⟨σ1, ?_, h1⟩
  show f_X6_ofKindUnder rc σ 27 50 (nI 0) x d = _
  unfold f_X6_ofKindUnder
  rw [if_pos f0, if_neg (by decide), if_neg (by decide), if_neg (by decide), if_neg (by decide), if_neg (by decide), if_neg (by decide), if_pos rfl, show rc 2 [nI 0, 2, x, d] σ = _ from e1, Option.bind_some]
  rfl
theorem b7_50 (H : H7 m kp b K cv sz d rc E 5 0) (hC : C7 m kp b K cv sz s σ) : ∃ σ', bd7 rc σ 5 0 x d = some ((evB E K cv sz 5 0 x s).1, σ') ∧ C7 m kp b K cv sz (evB E K cv sz 5 0 x s).2 σ' := by
  obtain ⟨f0, f3, f4, f5, f2⟩ := C7.f hC
  obtain ⟨σ1, e1, h1⟩ := H 3 0 (x + cv) s σ (by simp [clv]) hC
  obtain ⟨g0, g3, g4, g5, g2⟩ := C7.f h1
  refine ⟨σ1, ?_, h1⟩
  show f_X6_ofKindUnder rc σ 27 60 (nI 3) x d = _
  unfold f_X6_ofKindUnder
  rw [if_pos f0, if_neg (by decide), if_neg (by decide), if_neg (by decide), if_neg (by decide), if_neg (by decide), if_neg (by decide), if_neg (by decide), if_pos rfl, f4, Option.bind_some, show rc 2 [nI 3, 0, x + cv, d] σ = _ from e1, Option.bind_some]
  rfl
theorem b7_52 (H : H7 m kp b K cv sz d rc E 5 2) (hC : C7 m kp b K cv sz s σ) : ∃ σ', bd7 rc σ 5 2 x d = some ((evB E K cv sz 5 2 x s).1, σ') ∧ C7 m kp b K cv sz (evB E K cv sz 5 2 x s).2 σ' := by
  obtain ⟨f0, f3, f4, f5, f2⟩ := C7.f hC
  obtain ⟨σ1, e1, h1⟩ := H 3 2 (x) s σ (by simp [clv]) hC
  obtain ⟨g0, g3, g4, g5, g2⟩ := C7.f h1
  obtain ⟨σ2, e2, h2⟩ := H K 0 (2) _ σ1 (by simp [clv]) h1
  refine ⟨σ2, ?_, h2⟩
  show f_X6_ofKindUnder rc σ 27 61 (nI 3) x d = _
  unfold f_X6_ofKindUnder
  rw [if_pos f0, if_neg (by decide), if_neg (by decide), if_neg (by decide), if_neg (by decide), if_neg (by decide), if_neg (by decide), if_neg (by decide), if_neg (by decide), if_pos rfl, show rc 2 [nI 3, 2, x, d] σ = _ from e1, Option.bind_some, g3, Option.bind_some, show rc 2 [nI K, 0, 2, d] σ1 = _ from e2, Option.bind_some]
  rfl
theorem b7_62 (H : H7 m kp b K cv sz d rc E 6 2) (hC : C7 m kp b K cv sz s σ) : ∃ σ', bd7 rc σ 6 2 x d = some ((evB E K cv sz 6 2 x s).1, σ') ∧ C7 m kp b K cv sz (evB E K cv sz 6 2 x s).2 σ' := by
  obtain ⟨f0, f3, f4, f5, f2⟩ := C7.f hC
  obtain ⟨σ1, e1, h1⟩ := H 1 2 (x) s σ (by simp [clv]) hC
  obtain ⟨g0, g3, g4, g5, g2⟩ := C7.f h1
  obtain ⟨σ2, e2, h2⟩ := H K 1 (cv) _ σ1 (by simp [clv]) h1
  refine ⟨σ2, ?_, h2⟩
  show f_X6_ofKindUnder rc σ 27 70 (nI 1) x d = _
  unfold f_X6_ofKindUnder
  rw [if_pos f0, if_neg (by decide), if_neg (by decide), if_neg (by decide), if_neg (by decide), if_neg (by decide), if_neg (by decide), if_neg (by decide), if_neg (by decide), if_neg (by decide), if_pos rfl, show rc 2 [nI 1, 2, x, d] σ = _ from e1, Option.bind_some, g3, Option.bind_some, g4, Option.bind_some, show rc 2 [nI K, 1, cv, d] σ1 = _ from e2, Option.bind_some]
  rfl
theorem b7_73 (H : H7 m kp b K cv sz d rc E 7 3) (hC : C7 m kp b K cv sz s σ) : ∃ σ', bd7 rc σ 7 3 x d = some ((evB E K cv sz 7 3 x s).1, σ') ∧ C7 m kp b K cv sz (evB E K cv sz 7 3 x s).2 σ' := by
  obtain ⟨f0, f3, f4, f5, f2⟩ := C7.f hC
  obtain ⟨σ1, e1, h1⟩ := H K 2 (x) s σ (by simp [clv]) hC
  obtain ⟨g0, g3, g4, g5, g2⟩ := C7.f h1
  obtain ⟨σ2, e2, h2⟩ := H 4 3 (x) _ σ1 (by simp [clv]) h1
  refine ⟨σ2, ?_, h2⟩
  show f_X6_ofKindUnder rc σ 27 80 (nI 4) x d = _
  unfold f_X6_ofKindUnder
  rw [if_pos f0, if_neg (by decide), if_neg (by decide), if_neg (by decide), if_neg (by decide), if_neg (by decide), if_neg (by decide), if_neg (by decide), if_neg (by decide), if_neg (by decide), if_neg (by decide), if_pos rfl, f3, Option.bind_some, show rc 2 [nI K, 2, x, d] σ = _ from e1, Option.bind_some, show rc 2 [nI 4, 3, x, d] σ1 = _ from e2, Option.bind_some]
  rfl
theorem b8_00 (hcv : cv = nI q) (H : H8 m kp b K q sz rc E 0 0) (hC : C8 m kp b K q sz s σ) : ∃ σ', f_X8_body rc σ 42 (nI 0) (nI 0) x = some ((evB E K cv sz 0 0 x (vtr s 10)).1, σ') ∧ C8 m kp b K q sz (evB E K cv sz 0 0 x (vtr s 10)).2 σ' := by
  obtain ⟨f0, f1, fm, fc, f2⟩ := C8.f hC
  obtain ⟨σ0, e0, h0⟩ := vt8 (cd := 10) hC
  obtain ⟨q0, q1, qm, qc, q2⟩ := C8.f h0
  generalize vtr s 10 = s1 at *
  refine ⟨σ0, ?_, h0⟩
  unfold f_X8_body
  rw [if_pos f0, f1, Option.bind_some, fm, Option.bind_some, if_pos (by decide), e0, Option.bind_some]
  rfl
theorem b8_01 (hcv : cv = nI q) (H : H8 m kp b K q sz rc E 0 1) (hC : C8 m kp b K q sz s σ) : ∃ σ', f_X8_body rc σ 42 (nI 0) (nI 1) x = some ((evB E K cv sz 0 1 x (vtr s 11)).1, σ') ∧ C8 m kp b K q sz (evB E K cv sz 0 1 x (vtr s 11)).2 σ' := by
  obtain ⟨f0, f1, fm, fc, f2⟩ := C8.f hC
  obtain ⟨σ0, e0, h0⟩ := vt8 (cd := 11) hC
  obtain ⟨q0, q1, qm, qc, q2⟩ := C8.f h0
  generalize vtr s 11 = s1 at *
  obtain ⟨σ1, e1, h1⟩ := H.2 0 (x) s1 σ0 (by simp [clv]) h0
  obtain ⟨g0, g1, gm, gc, g2⟩ := C8.f h1
  refine ⟨σ1, ?_, h1⟩
  unfold f_X8_body
  rw [if_pos f0, f1, Option.bind_some, fm, Option.bind_some, if_neg (by decide), if_pos (by decide), e0, Option.bind_some, show rc 2 [0, x] σ0 = _ from e1, Option.bind_some]
  rfl
theorem b8_02 (hcv : cv = nI q) (H : H8 m kp b K q sz rc E 0 2) (hC : C8 m kp b K q sz s σ) : ∃ σ', f_X8_body rc σ 42 (nI 0) (nI 2) x = some ((evB E K cv sz 0 2 x (vtr s 12)).1, σ') ∧ C8 m kp b K q sz (evB E K cv sz 0 2 x (vtr s 12)).2 σ' := by
  obtain ⟨f0, f1, fm, fc, f2⟩ := C8.f hC
  obtain ⟨σ0, e0, h0⟩ := vt8 (cd := 12) hC
  obtain ⟨q0, q1, qm, qc, q2⟩ := C8.f h0
  generalize vtr s 12 = s1 at *
  obtain ⟨σ1, e1, h1⟩ := H.2 1 (x) s1 σ0 (by simp [clv]) h0
  obtain ⟨g0, g1, gm, gc, g2⟩ := C8.f h1
  refine ⟨σ1, ?_, h1⟩
  unfold f_X8_body
  rw [if_pos f0, f1, Option.bind_some, fm, Option.bind_some, if_neg (by decide), if_neg (by decide), if_pos (by decide), e0, Option.bind_some, show rc 2 [1, x] σ0 = _ from e1, Option.bind_some, g1, Option.bind_some, ← hcv]
  rfl
theorem b8_03 (hcv : cv = nI q) (H : H8 m kp b K q sz rc E 0 3) (hC : C8 m kp b K q sz s σ) : ∃ σ', f_X8_body rc σ 42 (nI 0) (nI 3) x = some ((evB E K cv sz 0 3 x (vtr s 13)).1, σ') ∧ C8 m kp b K q sz (evB E K cv sz 0 3 x (vtr s 13)).2 σ' := by
  obtain ⟨f0, f1, fm, fc, f2⟩ := C8.f hC
  obtain ⟨σ0, e0, h0⟩ := vt8 (cd := 13) hC
  obtain ⟨q0, q1, qm, qc, q2⟩ := C8.f h0
  generalize vtr s 13 = s1 at *
  unfold f_X8_body ne0
  rw [if_pos f0, f1, Option.bind_some, fm, Option.bind_some, if_neg (by decide), if_neg (by decide), if_neg (by decide), if_pos (by decide), e0, Option.bind_some, q1, Option.bind_some]
  obtain ⟨M, rfl, h1, h1b, h2, h3, h4, h5, h6, h7, h8⟩ := h0
  refine ⟨mkS (st1 M 42 22 (if sz = cv then 1 else 0)) kp b, ?_, _, rfl, fun k q1 q2 => by rw [st1_ne q1, h1 k q1 q2], by rw [st1_nf (by decide)]; exact h1b, fun i hi => by rw [st1_ne (by decide)]; exact h2 i hi, ⟨by rw [st1_nf (by decide)]; exact h3.1, h3.2⟩, ?_, by rw [st1_nf (by decide)]; exact h5, h6, h7, h8⟩
  · rw [← hcv]
    by_cases e : sz = cv
    · rw [if_pos e, pZ_42, if_pos (Or.inr rfl), Option.bind_some, gI_42, Option.bind_some, st1_eq, if_neg (by decide)]
      show _ = some ((if sz = cv then 0 else x / (sz - cv)), _)
      rw [if_pos e]
    · rw [if_neg e, pZ_42, if_pos (Or.inl rfl), Option.bind_some, gI_42, Option.bind_some, st1_eq, if_pos rfl, gI_42, Option.bind_some, st1_nf (by decide), h5, ← hcv, if_neg (sub_ne e), Option.bind_some]
      show _ = some ((if sz = cv then 0 else x / (sz - cv)), _)
      rw [if_neg e]
  · rw [st1_eq]
    show _ = if decide (sz = cv) = true then (1 : Int32) else 0
    by_cases e : sz = cv
    · rw [if_pos e, if_pos (decide_eq_true e)]
    · rw [if_neg e, if_neg (fun y => e (of_decide_eq_true y))]
theorem b8_11 (hcv : cv = nI q) (H : H8 m kp b K q sz rc E 1 1) (hC : C8 m kp b K q sz s σ) : ∃ σ', f_X8_body rc σ 42 (nI 1) (nI 1) x = some ((evB E K cv sz 1 1 x (vtr s 20)).1, σ') ∧ C8 m kp b K q sz (evB E K cv sz 1 1 x (vtr s 20)).2 σ' := by
  obtain ⟨f0, f1, fm, fc, f2⟩ := C8.f hC
  obtain ⟨σ0, e0, h0⟩ := vt8 (cd := 20) hC
  obtain ⟨q0, q1, qm, qc, q2⟩ := C8.f h0
  generalize vtr s 20 = s1 at *
  obtain ⟨σ1, e1, h1⟩ := H.1 0 1 (x) s1 σ0 (by simp [clv]) h0
  obtain ⟨g0, g1, gm, gc, g2⟩ := C8.f h1
  refine ⟨σ1, ?_, h1⟩
  unfold f_X8_body
  rw [if_pos f0, f1, Option.bind_some, fm, Option.bind_some, if_neg (by decide), if_neg (by decide), if_neg (by decide), if_neg (by decide), if_pos (by decide), e0, Option.bind_some, show rc 1 [0, 1, x] σ0 = _ from e1, Option.bind_some]
  rfl
theorem b8_12 (hcv : cv = nI q) (H : H8 m kp b K q sz rc E 1 2) (hC : C8 m kp b K q sz s σ) : ∃ σ', f_X8_body rc σ 42 (nI 1) (nI 2) x = some ((evB E K cv sz 1 2 x (vtr s 21)).1, σ') ∧ C8 m kp b K q sz (evB E K cv sz 1 2 x (vtr s 21)).2 σ' := by
  obtain ⟨f0, f1, fm, fc, f2⟩ := C8.f hC
  obtain ⟨σ0, e0, h0⟩ := vt8 (cd := 21) hC
  obtain ⟨q0, q1, qm, qc, q2⟩ := C8.f h0
  generalize vtr s 21 = s1 at *
  obtain ⟨σ1, e1, h1⟩ := H.1 0 2 (x) s1 σ0 (by simp [clv]) h0
  obtain ⟨g0, g1, gm, gc, g2⟩ := C8.f h1
  refine ⟨σ1, ?_, h1⟩
  unfold f_X8_body
  rw [if_pos f0, f1, Option.bind_some, fm, Option.bind_some, if_neg (by decide), if_neg (by decide), if_neg (by decide), if_neg (by decide), if_neg (by decide), if_pos (by decide), e0, Option.bind_some, show rc 1 [0, 2, x] σ0 = _ from e1, Option.bind_some]
  rfl
theorem b8_20 (hcv : cv = nI q) (H : H8 m kp b K q sz rc E 2 0) (hC : C8 m kp b K q sz s σ) : ∃ σ', f_X8_body rc σ 42 (nI 2) (nI 0) x = some ((evB E K cv sz 2 0 x (vtr s 30)).1, σ') ∧ C8 m kp b K q sz (evB E K cv sz 2 0 x (vtr s 30)).2 σ' := by
  obtain ⟨f0, f1, fm, fc, f2⟩ := C8.f hC
  obtain ⟨σ0, e0, h0⟩ := vt8 (cd := 30) hC
  obtain ⟨q0, q1, qm, qc, q2⟩ := C8.f h0
  generalize vtr s 30 = s1 at *
  obtain ⟨σ1, e1, h1⟩ := H.1 1 0 (x) s1 σ0 (by simp [clv]) h0
  obtain ⟨g0, g1, gm, gc, g2⟩ := C8.f h1
  refine ⟨σ1, ?_, h1⟩
  unfold f_X8_body
  rw [if_pos f0, f1, Option.bind_some, fm, Option.bind_some, if_neg (by decide), if_neg (by decide), if_neg (by decide), if_neg (by decide), if_neg (by decide), if_neg (by decide), if_pos (by decide), e0, Option.bind_some, show rc 1 [1, 0, x] σ0 = _ from e1, Option.bind_some]
  rfl
theorem b8_21 (hcv : cv = nI q) (H : H8 m kp b K q sz rc E 2 1) (hC : C8 m kp b K q sz s σ) : ∃ σ', f_X8_body rc σ 42 (nI 2) (nI 1) x = some ((evB E K cv sz 2 1 x (vtr s 31)).1, σ') ∧ C8 m kp b K q sz (evB E K cv sz 2 1 x (vtr s 31)).2 σ' := by
  obtain ⟨f0, f1, fm, fc, f2⟩ := C8.f hC
  obtain ⟨σ0, e0, h0⟩ := vt8 (cd := 31) hC
  obtain ⟨q0, q1, qm, qc, q2⟩ := C8.f h0
  generalize vtr s 31 = s1 at *
  obtain ⟨σ1, e1, h1⟩ := H.1 1 1 (x - 1) s1 σ0 (by simp [clv]) h0
  obtain ⟨g0, g1, gm, gc, g2⟩ := C8.f h1
  refine ⟨σ1, ?_, h1⟩
  unfold f_X8_body
  rw [if_pos f0, f1, Option.bind_some, fm, Option.bind_some, if_neg (by decide), if_neg (by decide), if_neg (by decide), if_neg (by decide), if_neg (by decide), if_neg (by decide), if_neg (by decide), if_pos (by decide), e0, Option.bind_some, show rc 1 [1, 1, x - 1] σ0 = _ from e1, Option.bind_some]
  rfl
theorem b8_30 (hcv : cv = nI q) (H : H8 m kp b K q sz rc E 3 0) (hC : C8 m kp b K q sz s σ) : ∃ σ', f_X8_body rc σ 42 (nI 3) (nI 0) x = some ((evB E K cv sz 3 0 x (vtr s 40)).1, σ') ∧ C8 m kp b K q sz (evB E K cv sz 3 0 x (vtr s 40)).2 σ' := by
  obtain ⟨f0, f1, fm, fc, f2⟩ := C8.f hC
  obtain ⟨σ0, e0, h0⟩ := vt8 (cd := 40) hC
  obtain ⟨q0, q1, qm, qc, q2⟩ := C8.f h0
  generalize vtr s 40 = s1 at *
  obtain ⟨σ1, e1, h1⟩ := H.1 0 0 (x) s1 σ0 (by simp [clv]) h0
  obtain ⟨g0, g1, gm, gc, g2⟩ := C8.f h1
  refine ⟨σ1, ?_, h1⟩
  unfold f_X8_body
  rw [if_pos f0, f1, Option.bind_some, fm, Option.bind_some, if_neg (by decide), if_neg (by decide), if_neg (by decide), if_neg (by decide), if_neg (by decide), if_neg (by decide), if_neg (by decide), if_neg (by decide), if_pos (by decide), e0, Option.bind_some, show rc 1 [0, 0, x] σ0 = _ from e1, Option.bind_some]
  rfl
theorem b8_33 (hcv : cv = nI q) (H : H8 m kp b K q sz rc E 3 3) (hC : C8 m kp b K q sz s σ) : ∃ σ', f_X8_body rc σ 42 (nI 3) (nI 3) x = some ((evB E K cv sz 3 3 x (vtr s 41)).1, σ') ∧ C8 m kp b K q sz (evB E K cv sz 3 3 x (vtr s 41)).2 σ' := by
  obtain ⟨f0, f1, fm, fc, f2⟩ := C8.f hC
  obtain ⟨σ0, e0, h0⟩ := vt8 (cd := 41) hC
  obtain ⟨q0, q1, qm, qc, q2⟩ := C8.f h0
  generalize vtr s 41 = s1 at *
  obtain ⟨σ1, e1, h1⟩ := H.1 0 3 (x) s1 σ0 (by simp [clv]) h0
  obtain ⟨g0, g1, gm, gc, g2⟩ := C8.f h1
  obtain ⟨σ2, e2, h2⟩ := H.2 2 (1) _ σ1 (by simp [clv]) h1
  refine ⟨σ2, ?_, h2⟩
  unfold f_X8_body
  rw [if_pos f0, f1, Option.bind_some, fm, Option.bind_some, if_neg (by decide), if_neg (by decide), if_neg (by decide), if_neg (by decide), if_neg (by decide), if_neg (by decide), if_neg (by decide), if_neg (by decide), if_neg (by decide), if_pos (by decide), e0, Option.bind_some, show rc 1 [0, 3, x] σ0 = _ from e1, Option.bind_some, show rc 2 [2, 1] σ1 = _ from e2, Option.bind_some]
  rfl
theorem b8_42 (hcv : cv = nI q) (H : H8 m kp b K q sz rc E 4 2) (hC : C8 m kp b K q sz s σ) : ∃ σ', f_X8_body rc σ 42 (nI 4) (nI 2) x = some ((evB E K cv sz 4 2 x (vtr s 50)).1, σ') ∧ C8 m kp b K q sz (evB E K cv sz 4 2 x (vtr s 50)).2 σ' := by
  obtain ⟨f0, f1, fm, fc, f2⟩ := C8.f hC
  obtain ⟨σ0, e0, h0⟩ := vt8 (cd := 50) hC
  obtain ⟨q0, q1, qm, qc, q2⟩ := C8.f h0
  generalize vtr s 50 = s1 at *
  obtain ⟨σ1, e1, h1⟩ := H.1 0 2 (x) s1 σ0 (by simp [clv]) h0
  obtain ⟨g0, g1, gm, gc, g2⟩ := C8.f h1
  refine ⟨σ1, ?_, h1⟩
  unfold f_X8_body
  rw [if_pos f0, f1, Option.bind_some, fm, Option.bind_some, if_neg (by decide), if_neg (by decide), if_neg (by decide), if_neg (by decide), if_neg (by decide), if_neg (by decide), if_neg (by decide), if_neg (by decide), if_neg (by decide), if_neg (by decide), if_pos (by decide), e0, Option.bind_some, show rc 1 [0, 2, x] σ0 = _ from e1, Option.bind_some]
  rfl
theorem b8_50 (hcv : cv = nI q) (H : H8 m kp b K q sz rc E 5 0) (hC : C8 m kp b K q sz s σ) : ∃ σ', f_X8_body rc σ 42 (nI 5) (nI 0) x = some ((evB E K cv sz 5 0 x (vtr s 60)).1, σ') ∧ C8 m kp b K q sz (evB E K cv sz 5 0 x (vtr s 60)).2 σ' := by
  obtain ⟨f0, f1, fm, fc, f2⟩ := C8.f hC
  obtain ⟨σ0, e0, h0⟩ := vt8 (cd := 60) hC
  obtain ⟨q0, q1, qm, qc, q2⟩ := C8.f h0
  generalize vtr s 60 = s1 at *
  obtain ⟨σ1, e1, h1⟩ := H.1 3 0 (x + cv) s1 σ0 (by simp [clv]) h0
  obtain ⟨g0, g1, gm, gc, g2⟩ := C8.f h1
  refine ⟨σ1, ?_, h1⟩
  unfold f_X8_body
  rw [if_pos f0, f1, Option.bind_some, fm, Option.bind_some, if_neg (by decide), if_neg (by decide), if_neg (by decide), if_neg (by decide), if_neg (by decide), if_neg (by decide), if_neg (by decide), if_neg (by decide), if_neg (by decide), if_neg (by decide), if_neg (by decide), if_pos (by decide), e0, Option.bind_some, q1, Option.bind_some, ← hcv, show rc 1 [3, 0, x + cv] σ0 = _ from e1, Option.bind_some]
  rfl
theorem b8_52 (hcv : cv = nI q) (H : H8 m kp b K q sz rc E 5 2) (hC : C8 m kp b K q sz s σ) : ∃ σ', f_X8_body rc σ 42 (nI 5) (nI 2) x = some ((evB E K cv sz 5 2 x (vtr s 61)).1, σ') ∧ C8 m kp b K q sz (evB E K cv sz 5 2 x (vtr s 61)).2 σ' := by
  obtain ⟨f0, f1, fm, fc, f2⟩ := C8.f hC
  obtain ⟨σ0, e0, h0⟩ := vt8 (cd := 61) hC
  obtain ⟨q0, q1, qm, qc, q2⟩ := C8.f h0
  generalize vtr s 61 = s1 at *
  obtain ⟨σ1, e1, h1⟩ := H.1 3 2 (x) s1 σ0 (by simp [clv]) h0
  obtain ⟨g0, g1, gm, gc, g2⟩ := C8.f h1
  obtain ⟨σ2, e2, h2⟩ := H.2 0 (2) _ σ1 (by simp [clv]) h1
  refine ⟨σ2, ?_, h2⟩
  unfold f_X8_body
  rw [if_pos f0, f1, Option.bind_some, fm, Option.bind_some, if_neg (by decide), if_neg (by decide), if_neg (by decide), if_neg (by decide), if_neg (by decide), if_neg (by decide), if_neg (by decide), if_neg (by decide), if_neg (by decide), if_neg (by decide), if_neg (by decide), if_neg (by decide), if_pos (by decide), e0, Option.bind_some, show rc 1 [3, 2, x] σ0 = _ from e1, Option.bind_some, show rc 2 [0, 2] σ1 = _ from e2, Option.bind_some]
  rfl
theorem b8_62 (hcv : cv = nI q) (H : H8 m kp b K q sz rc E 6 2) (hC : C8 m kp b K q sz s σ) : ∃ σ', f_X8_body rc σ 42 (nI 6) (nI 2) x = some ((evB E K cv sz 6 2 x (vtr s 70)).1, σ') ∧ C8 m kp b K q sz (evB E K cv sz 6 2 x (vtr s 70)).2 σ' := by
  obtain ⟨f0, f1, fm, fc, f2⟩ := C8.f hC
  obtain ⟨σ0, e0, h0⟩ := vt8 (cd := 70) hC
  obtain ⟨q0, q1, qm, qc, q2⟩ := C8.f h0
  generalize vtr s 70 = s1 at *
  obtain ⟨σ1, e1, h1⟩ := H.1 1 2 (x) s1 σ0 (by simp [clv]) h0
  obtain ⟨g0, g1, gm, gc, g2⟩ := C8.f h1
  obtain ⟨σ2, e2, h2⟩ := H.2 1 (cv) _ σ1 (by simp [clv]) h1
  refine ⟨σ2, ?_, h2⟩
  unfold f_X8_body
  rw [if_pos f0, f1, Option.bind_some, fm, Option.bind_some, if_neg (by decide), if_neg (by decide), if_neg (by decide), if_neg (by decide), if_neg (by decide), if_neg (by decide), if_neg (by decide), if_neg (by decide), if_neg (by decide), if_neg (by decide), if_neg (by decide), if_neg (by decide), if_neg (by decide), if_pos (by decide), e0, Option.bind_some, show rc 1 [1, 2, x] σ0 = _ from e1, Option.bind_some, g1, Option.bind_some, ← hcv, show rc 2 [1, cv] σ1 = _ from e2, Option.bind_some]
  rfl
theorem b8_73 (hcv : cv = nI q) (H : H8 m kp b K q sz rc E 7 3) (hC : C8 m kp b K q sz s σ) : ∃ σ', f_X8_body rc σ 42 (nI 7) (nI 3) x = some ((evB E K cv sz 7 3 x (vtr s 80)).1, σ') ∧ C8 m kp b K q sz (evB E K cv sz 7 3 x (vtr s 80)).2 σ' := by
  obtain ⟨f0, f1, fm, fc, f2⟩ := C8.f hC
  obtain ⟨σ0, e0, h0⟩ := vt8 (cd := 80) hC
  obtain ⟨q0, q1, qm, qc, q2⟩ := C8.f h0
  generalize vtr s 80 = s1 at *
  obtain ⟨σ1, e1, h1⟩ := H.2 2 (x) s1 σ0 (by simp [clv]) h0
  obtain ⟨g0, g1, gm, gc, g2⟩ := C8.f h1
  obtain ⟨σ2, e2, h2⟩ := H.1 4 3 (x) _ σ1 (by simp [clv]) h1
  refine ⟨σ2, ?_, h2⟩
  unfold f_X8_body
  rw [if_pos f0, f1, Option.bind_some, fm, Option.bind_some, if_neg (by decide), if_neg (by decide), if_neg (by decide), if_neg (by decide), if_neg (by decide), if_neg (by decide), if_neg (by decide), if_neg (by decide), if_neg (by decide), if_neg (by decide), if_neg (by decide), if_neg (by decide), if_neg (by decide), if_neg (by decide), e0, Option.bind_some, show rc 2 [2, x] σ0 = _ from e1, Option.bind_some, show rc 1 [4, 3, x] σ1 = _ from e2, Option.bind_some]
  rfl
end VO
