theorem st1_st1 {m : Nat → Nat → Int32} {k f : Nat} {v w : Int32} : st1 (st1 m k f v) k f w = st1 m k f w := by
  funext q j
  rw [st1_app, st1_app, st1_app]
  by_cases h : q = k ∧ j = f
  · rw [if_pos h, if_pos h]
  · rw [if_neg h, if_neg h, if_neg h]
theorem st1_id {m : Nat → Nat → Int32} {k f : Nat} : st1 m k f (m k f) = m := by
  funext q j
  rw [st1_app]
  by_cases h : q = k ∧ j = f
  · rw [if_pos h, h.1, h.2]
  · rw [if_neg h]
def exA (P : Nat → Bool) : Nat → Nat → Bool
  | 0, _ => true
  | k + 1, i => P i && exA P k (i + 1)
theorem exA_congr {P Q : Nat → Bool} : ∀ k i, (∀ j, i ≤ j → j < i + k → P j = Q j) → exA P k i = exA Q k i
  | 0, _, _ => rfl
  | k + 1, i, h => by
    unfold exA
    rw [h i (Nat.le_refl _) (by omega), exA_congr k (i + 1) (fun j h1 h2 => h j (by omega) (by omega))]
theorem exA_add {P : Nat → Bool} : ∀ k l i, exA P (k + l) i = (exA P k i && exA P l (i + k))
  | 0, l, i => by rw [Nat.zero_add]; rfl
  | k + 1, l, i => by
    rw [show k + 1 + l = (k + l) + 1 by omega]
    show (P i && exA P (k + l) (i + 1)) = (P i && exA P k (i + 1) && exA P l (i + (k + 1)))
    rw [exA_add k l (i + 1), Bool.and_assoc, show i + 1 + k = i + (k + 1) by omega]
theorem exA_true {P : Nat → Bool} : ∀ k i, (∀ j, i ≤ j → j < i + k → P j = true) → exA P k i = true
  | 0, _, _ => rfl
  | k + 1, i, h => by
    unfold exA
    rw [h i (Nat.le_refl _) (by omega), exA_true k (i + 1) (fun j h1 h2 => h j (by omega) (by omega))]
    rfl
section WB
variable {m : Nat → Nat → Int32} {kp : Bool} {b : Option Nat} {z : Nat} {c : Nat → Nat}
/-! hands -/
noncomputable def shG (m : Nat → Nat → Int32) (f n q : Nat) (a : Nat) (s : Int32) : Int32 := if (orN m f n q).testBit a = true then s ||| (nmv m a &&& nmv m q) else s
noncomputable def shV (m : Nat → Nat → Int32) (f n q : Nat) : Int32 := it (shG m f n q) n 0 0
noncomputable def nsG (m : Nat → Nat → Int32) (f n : Nat) (q s : Nat) : Nat := if orN m f n q = 0 then s else s ||| 2 ^ q
noncomputable def nsN (m : Nat → Nat → Int32) (f n : Nat) : Nat := it (nsG m f n) n 0 0
theorem ns_bit {f n : Nat} : ∀ i k, (it (nsG m f n) i 0 0).testBit k = (decide (k < i) && !decide (orN m f n k = 0)) ∧ it (nsG m f n) i 0 0 < 2 ^ i
  | 0, k => by
    refine ⟨?_, by show (0 : Nat) < 1; decide⟩
    show (0 : Nat).testBit k = _
    rw [Nat.zero_testBit]
    simp
  | i + 1, k => by
    obtain ⟨h1, h2⟩ := ns_bit (f := f) (n := n) i k
    have p1 : 2 ^ i < 2 ^ (i + 1) := Nat.pow_lt_pow_right (by decide) (by omega)
    rw [it_succ, Nat.zero_add]
    unfold nsG at h1 h2 ⊢
    by_cases q1 : orN m f n i = 0
    · rw [if_pos q1]
      refine ⟨?_, by omega⟩
      rw [h1]
      by_cases e : k = i
      · subst e; simp [q1]
      · by_cases e2 : k < i
        · simp [e2, show k < i + 1 by omega]
        · simp [e2, show ¬ k < i + 1 by omega]
    · rw [if_neg q1]
      refine ⟨?_, Nat.or_lt_two_pow (by omega) p1⟩
      rw [Nat.testBit_or, h1, Nat.testBit_two_pow]
      by_cases e : k = i
      · subst e; simp [q1]
      · by_cases e2 : k < i
        · simp [e2, show k < i + 1 by omega, show ¬ i = k by omega]
        · simp [e2, show ¬ k < i + 1 by omega, show ¬ i = k by omega]
theorem sh48 {q f : Nat} {M : Nat → Nat → Int32} (h : RS m 1 43 c) (hE : EqS m M) (hq : q < c 1) : f_X7_findShared_L48 (nI (orN m f (c 1) q)) (nI q) 0 3000 0 (mkS (st1 M 31 q 0) kp b) = some (nI (c 1), mkS (st1 M 31 q (shV m f (c 1) q)) kp b) := by
  have hC := CvC_of h.2.2.2.1
  have hn := hC.2.2.2.1
  have hor := lt31 (orN_lt (m := m) (f := f) (n := c 1) (q := q)) (by omega)
  have := loopS (fun l a σ => f_X7_findShared_L48 (nI (orN m f (c 1) q)) (nI q) 0 l (nI a) σ) (fun a => mkS (st1 M 31 q (it (shG m f (c 1) q) a 0 0)) kp b) (nI (c 1), mkS (st1 M 31 q (shV m f (c 1) q)) kp b) (c 1) (fun l a ha => by
    show f_X7_findShared_L48 (nI (orN m f (c 1) q)) (nI q) 0 (l + 1) (nI a) _ = f_X7_findShared_L48 (nI (orN m f (c 1) q)) (nI q) 0 l (nI (a + 1)) _
    rw [f_X7_findShared_L48]
    obtain ⟨s, es⟩ : ∃ s, s = it (shG m f (c 1) q) a 0 0 := ⟨_, rfl⟩
    have hE2 : EqS m (st1 M 31 q s) := hE.trans (EqS.st (by unfold Sc; omega))
    have hS := RS_S h hE2
    have e3 : (st1 M 31 q s) 6 3 = nI (c 1) := (CvC_S hC hE2).2.2.1
    rw [it_succ, Nat.zero_add, ← es]
    rw [gq_0_0, Option.bind_some, gq_1_2, Option.bind_some, gI_6, Option.bind_some, e3, if_neg (nI_ge ha (by omega)), nI_a1]
    unfold shG
    simp only [bit1 hor (show a < 32 by omega)]
    by_cases hb : (orN m f (c 1) q).testBit a = true
    · rw [if_pos hb, if_pos hb, gq_0_5, Option.bind_some, rd_31 (show q < 24 by omega), Option.bind_some, Option.bind_some, nam7 hS ha, Option.bind_some, Option.bind_some, nam7 hS hq, Option.bind_some, wr_31 (show q < 24 by omega), Option.bind_some, st1_st1, st1_eq, nmv_fr (hE2.at 43 (by omega) (by omega))]
    · rw [if_neg hb, if_neg hb]) (fun l => by
    have hE2 : EqS m (st1 M 31 q (shV m f (c 1) q)) := hE.trans (EqS.st (by unfold Sc; omega))
    have e3 : (st1 M 31 q (shV m f (c 1) q)) 6 3 = nI (c 1) := (CvC_S hC hE2).2.2.1
    show f_X7_findShared_L48 (nI (orN m f (c 1) q)) (nI q) 0 (l + 1) (nI (c 1)) (mkS (st1 M 31 q (shV m f (c 1) q)) kp b) = _
    rw [f_X7_findShared_L48, gq_0_0, Option.bind_some, gq_1_2, Option.bind_some, gI_6, Option.bind_some, e3, if_pos (Int32.le_refl _)]) (c 1) 0 3000 (by omega) (by omega)
  simp only [nI_0] at this
  exact this
theorem fsh7 {f : Nat} (h : RS m 1 43 c) (hf : f ≤ 5) : ∃ M, f_X7_findShared (mkS m kp b) 0 (nI f) = some (nI (nsN m f (c 1)), mkS M kp b) ∧ EqS m M ∧ ∀ k, k < c 1 → M 31 k = shV m f (c 1) k := by
  have hC := CvC_of h.2.2.2.1
  have hn := hC.2.2.2.1
  unfold f_X7_findShared
  rw [if_pos io_0]
  obtain ⟨σ', e, M, rfl, hE, hv⟩ := loopZ (fun l q (s : Nat) σ => f_X7_findShared_L4 0 (nI f) l (nI q) (nI s) σ) (fun s σ => (nI (c 1), nI s, σ)) (fun i σ => ∃ M, σ = mkS M kp b ∧ EqS m M ∧ ∀ k, k < i → M 31 k = shV m f (c 1) k) (nsG m f (c 1)) (c 1) (fun l q s σ hq hR => by
    obtain ⟨M, rfl, hE, hv⟩ := hR
    have hS := RS_S h hE
    have h43 : M 43 = m 43 := hE.at 43 (by omega) (by omega)
    have e3 : M 6 3 = nI (c 1) := (CvC_S hC hE).2.2.1
    have e24 : ¬ nI 24 ≤ nI q := nI_ge (by omega) (by decide)
    refine ⟨mkS (st1 M 31 q (shV m f (c 1) q)) kp b, ?_, _, rfl, hE.trans (EqS.st (by unfold Sc; omega)), fun k hk => ?_⟩
    · show f_X7_findShared_L4 0 (nI f) (l + 1) (nI q) (nI s) (mkS M kp b) = f_X7_findShared_L4 0 (nI f) l (nI (q + 1)) (nI (nsG m f (c 1) q s)) _
      rw [f_X7_findShared_L4, gq_0_0, Option.bind_some, gq_1_2, Option.bind_some, gI_6, Option.bind_some, e3, if_neg (nI_ge hq (by omega)), gq_0_5, Option.bind_some, aL_31, Option.bind_some, if_neg e24, Option.bind_some, ori7 hS hq hf, Option.bind_some, Option.bind_some, orN_fr h43, show (0 : Int32) = 0 from rfl, wr_31 (show q < 24 by omega), Option.bind_some, sh48 h hE hq, Option.bind_some, nI_a1, shl1 q (by omega), nI_or]
      unfold nsG
      by_cases q1 : orN m f (c 1) q = 0
      · rw [if_pos ((or_0 hn).mpr q1), if_pos q1]
      · rw [if_neg (fun y => q1 ((or_0 hn).mp y)), if_neg q1]
    · by_cases e : k = q
      · rw [e, st1_eq]
      · rw [st1_nf e]; exact hv k (by omega)) (fun l s σ hR => by
    obtain ⟨M, rfl, hE, hv⟩ := hR
    have e3 : M 6 3 = nI (c 1) := (CvC_S hC hE).2.2.1
    show f_X7_findShared_L4 0 (nI f) (l + 1) (nI (c 1)) (nI s) (mkS M kp b) = _
    rw [f_X7_findShared_L4, gq_0_0, Option.bind_some, gq_1_2, Option.bind_some, gI_6, Option.bind_some, e3, if_pos (Int32.le_refl _)]) (c 1) 0 3000 0 (mkS m kp b) (by omega) (by omega) ⟨m, rfl, EqS.rfl', fun k hk => absurd hk (by omega)⟩
  have e' : f_X7_findShared_L4 0 (nI f) 3000 0 0 (mkS m kp b) = _ := e
  refine ⟨M, ?_, hE, hv⟩
  rw [e']
  rfl
noncomputable def exP (m : Nat → Nat → Int32) (f n s : Nat) (k : Nat) : Bool := decide (orN m f n k = 0) || !decide (shV m f n k &&& nI s = 0)
theorem exp7 {f s n : Nat} {M : Nat → Nat → Int32} (hn : n ≤ 24) (hv : ∀ k, k < n → M 31 k = shV m f n k) : f_X7_explainsAll (mkS M kp b) 0 (nI s) (nI (nsN m f n)) = some (if exA (exP m f n s) n 0 = true then 1 else 0) := by
  have hns := fun k => (ns_bit (m := m) (f := f) (n := n) n k)
  have hns31 : nsN m f n < 2 ^ 31 := lt31 (hns 0).2 (by omega)
  have key : ∀ k i l, i + k = 24 → k < l → f_X7_explainsAll_L2 (mkS M kp b) 0 (nI s) (nI (nsN m f n)) l (nI i) = some (if exA (fun k => !(nsN m f n).testBit k || !decide (M 31 k &&& nI s = 0)) k i = true then .inr (nI 24) else .inl 0) := by
    intro k
    induction k with
    | zero =>
      intro i l h1 h2
      obtain ⟨l, rfl⟩ : ∃ q, l = q + 1 := ⟨l - 1, by omega⟩
      have e : i = 24 := by omega
      subst e
      rw [f_X7_explainsAll_L2, gq_0_5, Option.bind_some, aL_31, Option.bind_some, if_pos (Int32.le_refl _)]
      rfl
    | succ k ih =>
      intro i l h1 h2
      obtain ⟨l, rfl⟩ : ∃ q, l = q + 1 := ⟨l - 1, by omega⟩
      have e24 : ¬ nI 24 ≤ nI i := nI_ge (by omega) (by decide)
      rw [f_X7_explainsAll_L2, gq_0_5, Option.bind_some, aL_31, Option.bind_some, if_neg e24, Option.bind_some, rd_31 (show i < 24 by omega), Option.bind_some, nI_a1, ih (i + 1) l (by omega) (by omega)]
      have ex : exA (fun k => !(nsN m f n).testBit k || !decide (M 31 k &&& nI s = 0)) (k + 1) i = ((!(nsN m f n).testBit i || !decide (M 31 i &&& nI s = 0)) && exA (fun k => !(nsN m f n).testBit k || !decide (M 31 k &&& nI s = 0)) k (i + 1)) := rfl
      rw [ex]
      simp only [bit1 hns31 (show i < 32 by omega)]
      cases hb : (nsN m f n).testBit i
      · simp
      · by_cases q1 : M 31 i &&& nI s = 0
        · simp [q1]
        · simp [q1]
  unfold f_X7_explainsAll
  have := key 24 0 3000 (by omega) (by omega)
  rw [nI_0] at this
  rw [if_pos io_0, this, Option.bind_some]
  have e : exA (fun k => !(nsN m f n).testBit k || !decide (M 31 k &&& nI s = 0)) 24 0 = exA (exP m f n s) n 0 := by
    rw [show (24 : Nat) = n + (24 - n) by omega, exA_add, exA_true (24 - n) (0 + n) (fun j h1 h2 => by
      have := (hns j).1
      unfold nsN
      rw [this]
      simp [show ¬ j < n by omega]), Bool.and_true]
    refine exA_congr _ _ (fun j h1 h2 => ?_)
    have := (hns j).1
    unfold nsN exP
    rw [this, hv j (by omega)]
    simp [show j < n by omega]
  rw [e]
  cases exA (exP m f n s) n 0 <;> rfl
theorem both8 {f q : Nat} {M : Nat → Nat → Int32} (h : RS m 1 43 c) (hE : EqS m M) (hq : q < c 1) (hv : ∀ k, k < c 1 → M 51 k = nI (orN m f (c 1) k)) : f_X8_both (mkS M kp b) 42 (nI q) = some (shV m f (c 1) q) := by
  have hC := CvC_of h.2.2.2.1
  have hn := hC.2.2.2.1
  have hS := RS_S h hE
  have h43 : M 43 = m 43 := hE.at 43 (by omega) (by omega)
  have e1 : M 43 1 = nI (c 1) := by rw [h43]; exact hC.2.2.2.2.1
  have hor := lt31 (orN_lt (m := m) (f := f) (n := c 1) (q := q)) (by omega)
  unfold f_X8_both shV
  have := loopU (fun l a s => f_X8_both_L4 (mkS M kp b) 42 (nI q) l (nI a) s) (fun s => (nI (c 1), s)) (shG m f (c 1) q) (c 1) (fun l a s ha => by
    show f_X8_both_L4 (mkS M kp b) 42 (nI q) (l + 1) (nI a) s = _
    rw [f_X8_both_L4, gq_42_0, Option.bind_some, rdl_1, e1, Option.bind_some, if_neg (nI_ge ha (by omega)), gq_42_16, Option.bind_some, rd_51 (show q < 24 by omega), Option.bind_some, hv q hq, has_eq hor (by omega), Option.bind_some, nam8 hS ha, Option.bind_some, nam8 hS hq, Option.bind_some, nmv_fr h43, Int32.or_zero, nI_a1]
    unfold shG
    cases hb : (orN m f (c 1) q).testBit a <;> simp) (fun l s => by
    show f_X8_both_L4 (mkS M kp b) 42 (nI q) (l + 1) (nI (c 1)) s = _
    rw [f_X8_both_L4, gq_42_0, Option.bind_some, rdl_1, e1, Option.bind_some, if_pos (Int32.le_refl _)]) (c 1) 0 0 3000 (by omega) (by omega)
  simp only [nI_0] at this
  rw [if_pos io_42, this]
  rfl
theorem ha69 {f s : Nat} {M : Nat → Nat → Int32} (h : RS m 1 43 c) (hE : EqS m M) (hv : ∀ k, k < c 1 → M 51 k = nI (orN m f (c 1) k)) : ∀ k i l, i + k = c 1 → k < l → ∃ y, f_X8_hands_L69 (mkS M kp b) (nI s) 42 l (nI i) 1 = some (y, if exA (exP m f (c 1) s) k i = true then 1 else 0) := by
  have hC := CvC_of h.2.2.2.1
  have hn := hC.2.2.2.1
  have h43 : M 43 = m 43 := hE.at 43 (by omega) (by omega)
  have e1 : M 43 1 = nI (c 1) := by rw [h43]; exact hC.2.2.2.2.1
  intro k
  induction k with
  | zero =>
    intro i l h1 h2
    obtain ⟨l, rfl⟩ : ∃ q, l = q + 1 := ⟨l - 1, by omega⟩
    have e : i = c 1 := by omega
    subst e
    exact ⟨_, by rw [f_X8_hands_L69, gq_42_0, Option.bind_some, rdl_1, e1, Option.bind_some, if_pos (Int32.le_refl _)]; rfl⟩
  | succ k ih =>
    intro i l h1 h2
    obtain ⟨l, rfl⟩ : ∃ q, l = q + 2 := ⟨l - 2, by omega⟩
    rw [f_X8_hands_L69, gq_42_0, Option.bind_some, rdl_1, e1, Option.bind_some, if_neg (nI_ge (by omega) (by omega)), if_neg (show ¬ (1 : Int32) = 0 by decide), gq_42_16, Option.bind_some, rd_51 (show i < 24 by omega), Option.bind_some, hv i (by omega), both8 h hE (by omega) hv, Option.bind_some, nI_a1]
    have ex : exA (exP m f (c 1) s) (k + 1) i = (exP m f (c 1) s i && exA (exP m f (c 1) s) k (i + 1)) := rfl
    rw [ex]
    unfold exP
    by_cases q1 : orN m f (c 1) i = 0
    · rw [if_pos ((or_0 hn).mpr q1)]
      obtain ⟨y, hy⟩ := ih (i + 1) (l + 1) (by omega) (by omega)
      refine ⟨y, hy.trans ?_⟩
      rw [decide_eq_true q1, Bool.true_or, Bool.true_and]
      rfl
    · rw [if_neg (fun y => q1 ((or_0 hn).mp y))]
      by_cases q2 : shV m f (c 1) i &&& nI s = 0
      · rw [if_pos q2, f_X8_hands_L69, gq_42_0, Option.bind_some, rdl_1, e1, Option.bind_some]
        rw [decide_eq_false q1, decide_eq_true q2]
        by_cases q3 : nI (c 1) ≤ nI (i + 1)
        · exact ⟨_, by rw [if_pos q3]; rfl⟩
        · exact ⟨_, by rw [if_neg q3, if_pos rfl]; rfl⟩
      · rw [if_neg q2]
        obtain ⟨y, hy⟩ := ih (i + 1) (l + 1) (by omega) (by omega)
        refine ⟨y, hy.trans ?_⟩
        rw [decide_eq_false q2, Bool.not_false, Bool.or_true, Bool.true_and]
        rfl
theorem ha69_0 {s : Nat} {M : Nat → Nat → Int32} {n : Nat} (e1 : M 43 1 = nI n) : ∃ y, f_X8_hands_L69 (mkS M kp b) (nI s) 42 3000 0 0 = some (y, 0) := by
  rw [f_X8_hands_L69, gq_42_0, Option.bind_some, rdl_1, e1, Option.bind_some]
  by_cases q3 : nI n ≤ 0
  · exact ⟨_, by rw [if_pos q3]⟩
  · exact ⟨_, by rw [if_neg q3, if_pos rfl]⟩
noncomputable def haG (m : Nat → Nat → Int32) (f n : Nat) (s t : Nat) : Nat := if pcN t ≤ pcN s then t else if exA (exP m f n s) n 0 = true then s else t
theorem haG_lt {f n s t : Nat} (hs : s < 256) (ht : t < 256) : haG m f n s t < 256 := by
  unfold haG
  repeat' split
  all_goals assumption
theorem pc8 : ∀ s, s < 256 → pcN s = 8 → s = 255 := by decide +kernel
theorem pc255 : pcN 255 = 8 := by decide +kernel
theorem n256 {k : Nat} (h : k < 256) : ¬ (256 : Int32) ≤ nI k := nI_ge (b := 256) h (by decide)
theorem han7 {f n : Nat} {M : Nat → Nat → Int32} (hn : n ≤ 24) (hv : ∀ k, k < n → M 31 k = shV m f n k) : f_X7_hands_L27 (mkS M kp b) (nI (nsN m f n)) 0 3000 0 255 = some (nI 256, nI (it (haG m f n) 256 0 255)) := by
  have := (loopT (fun l s (t : Nat) => f_X7_hands_L27 (mkS M kp b) (nI (nsN m f n)) 0 l (nI s) (nI t)) (fun t => (nI 256, nI t)) (haG m f n) (fun _ t => t < 256) 256 (fun l s t hs ht => by
    refine ⟨?_, haG_lt hs ht⟩
    show f_X7_hands_L27 (mkS M kp b) (nI (nsN m f n)) 0 (l + 1) (nI s) (nI t) = f_X7_hands_L27 (mkS M kp b) (nI (nsN m f n)) 0 l (nI (s + 1)) (nI (haG m f n s t))
    rw [f_X7_hands_L27, if_neg (n256 hs), bitc_eq (show s < 2 ^ 24 by omega), Option.bind_some, bitc_eq (show t < 2 ^ 24 by omega), Option.bind_some, nI_a1, exp7 hn hv, Option.bind_some]
    unfold haG
    by_cases q1 : pcN t ≤ pcN s
    · rw [if_pos (nI_le q1 (pcN31 s)), if_pos q1]
    · rw [if_neg (nI_ge (by omega) (pcN31 t)), if_neg q1]
      cases exA (exP m f n s) n 0 <;> simp) (fun l t ht => by
    show f_X7_hands_L27 (mkS M kp b) (nI (nsN m f n)) 0 (l + 1) (nI 256) (nI t) = _
    rw [f_X7_hands_L27, if_pos (show (256 : Int32) ≤ nI 256 by decide)]) 256 0 255 3000 (by omega) (by omega) (by decide)).1
  simp only [nI_0] at this
  exact this
theorem han8 {f : Nat} {M : Nat → Nat → Int32} (h : RS m 1 43 c) (hE : EqS m M) (hv : ∀ k, k < c 1 → M 51 k = nI (orN m f (c 1) k)) : f_X8_hands_L25 (mkS M kp b) 42 3000 0 255 = some (nI 256, nI (it (haG m f (c 1)) 256 0 255)) := by
  have hC := CvC_of h.2.2.2.1
  have e1 : M 43 1 = nI (c 1) := by rw [hE.at 43 (by omega) (by omega)]; exact hC.2.2.2.2.1
  have hn := hC.2.2.2.1
  have := (loopT (fun l s (t : Nat) => f_X8_hands_L25 (mkS M kp b) 42 l (nI s) (nI t)) (fun t => (nI 256, nI t)) (haG m f (c 1)) (fun s t => t = 255 ∨ t < s) 256 (fun l s t hs hI => by
    have ht : t < 256 := by omega
    refine ⟨?_, ?_⟩
    · show f_X8_hands_L25 (mkS M kp b) 42 (l + 1) (nI s) (nI t) = f_X8_hands_L25 (mkS M kp b) 42 l (nI (s + 1)) (nI (haG m f (c 1) s t))
      rw [f_X8_hands_L25, if_neg (n256 hs), bits_eq (show s < 2 ^ 24 by omega), Option.bind_some, bits_eq (show t < 2 ^ 24 by omega), Option.bind_some, nI_a1]
      unfold haG
      by_cases q1 : pcN t ≤ pcN s
      · rw [if_neg (nI_nlt q1 (pcN31 s)), if_pos q1, Option.bind_some, Option.bind_some]
        have hfl : (if nI (pcN s) = nI (pcN t) then (if nI t ≤ nI s then 0 else 1) else 0 : Int32) = 0 := by
          by_cases q2 : pcN s = pcN t
          · rw [if_pos (show nI (pcN s) = nI (pcN t) by rw [q2])]
            have : t ≤ s := by
              rcases hI with q3 | q3
              · subst q3
                rw [pc255] at q2
                have := pc8 s hs q2
                omega
              · omega
            rw [if_pos (nI_le this (by omega))]
          · rw [if_neg (fun y => q2 ((nI_eq (pcN31 s) (pcN31 t)).mp y))]
        obtain ⟨y, hy⟩ := ha69_0 (kp := kp) (b := b) (s := s) e1
        rw [hfl, hy, Option.bind_some]
        rfl
      · rw [if_pos (nI_lt (by omega) (pcN31 t)), if_neg q1]
        obtain ⟨y, hy⟩ := ha69 (kp := kp) (b := b) (f := f) (s := s) h hE hv (c 1) 0 3000 (by omega) (by omega)
        have hy' : f_X8_hands_L69 (mkS M kp b) (nI s) 42 3000 0 1 = _ := hy
        rw [hy', Option.bind_some]
        cases exA (exP m f (c 1) s) (c 1) 0 <;> simp
    · unfold haG
      by_cases q1 : pcN t ≤ pcN s
      · rw [if_pos q1]; omega
      · rw [if_neg q1]
        by_cases q2 : exA (exP m f (c 1) s) (c 1) 0 = true
        · rw [if_pos q2]; omega
        · rw [if_neg q2]; omega) (fun l t ht => by
    show f_X8_hands_L25 (mkS M kp b) 42 (l + 1) (nI 256) (nI t) = _
    rw [f_X8_hands_L25, if_pos (show (256 : Int32) ≤ nI 256 by decide)]) 256 0 255 3000 (by omega) (by omega) (Or.inl rfl)).1
  simp only [nI_0] at this
  exact this
theorem op_hands (w : Int32) : OpR (fun σ => f_X7_hands σ 0 w) (fun σ => f_X8_hands σ 42 w) := by
  intro m kp b z hR
  obtain ⟨⟨c, hS⟩, -⟩ := id hR
  have hC := CvC_of hS.2.2.2.1
  have hn := hC.2.2.2.1
  by_cases hw : 1 ≤ w ∧ w ≤ 5
  · obtain ⟨f, hf1, hf, rfl⟩ := ex_rng (lo := 1) (hi := 5) (by decide) hw (by decide)
    obtain ⟨M1, e7, hE1, hv1⟩ := fsh7 (kp := kp) (b := b) hS hf
    have hS1 := RS_S hS hE1
    have h43 : M1 43 = m 43 := hE1.at 43 (by omega) (by omega)
    obtain ⟨M2, e8, hE2, hv2⟩ := fco8 (kp := kp) (b := b) hS1 hf
    rw [orN_fr h43] at hv2
    refine ⟨nI (it (haG m f (c 1)) 256 0 255), M1, kp, b, M2, ?_, ?_, (RR_scr hR (hE1.trans hE2)).up⟩
    · show f_X7_hands (mkS m kp b) 0 (nI f) = _
      unfold f_X7_hands
      rw [if_pos io_0, isFactor7_eq, if_pos hw, Option.bind_some, if_neg (show ¬ (1 : Int32) = 0 by decide), e7, Option.bind_some, han7 hn hv1]
      rfl
    · show f_X8_hands (mkS M1 kp b) 42 (nI f) = _
      unfold f_X8_hands
      rw [if_pos io_42, isFactor8_eq (t := 0), if_pos hw, Option.bind_some, if_neg (show ¬ (1 : Int32) = 0 by decide), e8, Option.bind_some, han8 hS (hE1.trans hE2) hv2]
      rfl
  · refine op_err1 (k := 1) (e := -1000001) (by decide) hR ?_ ?_
    · show f_X7_hands (mkS m kp b) 0 w = _
      unfold f_X7_hands
      simp only [io_0, gI_0, pI_0, pZ_0, io_1, gI_1, pI_1, pZ_1, io_2, gI_2, pI_2, pZ_2, aL_3, io_4, gI_4, pI_4, pZ_4, aL_5, io_6, gI_6, pI_6, pZ_6, aL_7, aL_8, io_9, gI_9, pI_9, pZ_9, aL_10, io_11, gI_11, pI_11, pZ_11, aL_12, io_13, gI_13, pI_13, pZ_13, aL_14, io_15, gI_15, pI_15, pZ_15, aL_16, io_17, gI_17, pI_17, pZ_17, aL_18, aL_19, io_20, gI_20, pI_20, pZ_20, aL_21, io_22, gI_22, pI_22, pZ_22, aL_23, io_24, gI_24, pI_24, pZ_24, aL_25, io_26, gI_26, pI_26, pZ_26, io_27, gI_27, pI_27, pZ_27, aL_28, aL_29, aL_30, aL_31, aL_32, aL_33, io_34, gI_34, pI_34, pZ_34, aL_35, io_36, gI_36, pI_36, pZ_36, aL_37, io_38, gI_38, pI_38, pZ_38, aL_39, io_40, gI_40, pI_40, pZ_40, aL_41, io_42, gI_42, pI_42, pZ_42, aL_43, aL_44, aL_45, aL_46, aL_47, aL_48, aL_49, aL_50, aL_51, aL_52, aL_53, aL_54, aL_55, aL_56, aL_57, aL_58, gq_0_0, gq_0_1, gq_0_2, gq_0_3, gq_0_4, gq_0_5, gq_0_6, gq_0_7, gq_1_0, gq_1_1, gq_1_2, gq_1_3, gq_1_4, gq_1_5, gq_1_6, gq_1_7, gq_1_8, gq_1_9, gq_2_2, gq_4_2, gq_6_2, gq_9_2, gq_11_2, gq_13_2, gq_15_2, gq_17_0, gq_20_0, gq_22_0, gq_24_0, gq_27_0, gq_34_0, gq_36_0, gq_38_0, gq_40_0, gq_42_0, gq_42_1, gq_42_3, gq_42_4, gq_42_11, gq_42_12, gq_42_13, gq_42_15, gq_42_16, gq_42_17, gq_42_18, gq_42_19, gq_42_23, gq_42_24, gq_42_25, gq_42_26, aQ_29_0, aQ_29_1, aQ_29_2, aQ_29_3, aQ_19_0, aQ_19_1, aQ_19_2, aQ_46_0, aQ_46_1, aQ_46_2, gq_26, gr_26, gr_0_8, pQ_26, Option.bind_some, ↓reduceIte, one_ne0, isFactor7_eq, if_neg hw, fails_1]
      try simp
    · show f_X8_hands (mkS _ kp b) 42 w = _
      unfold f_X8_hands
      simp only [io_0, gI_0, pI_0, pZ_0, io_1, gI_1, pI_1, pZ_1, io_2, gI_2, pI_2, pZ_2, aL_3, io_4, gI_4, pI_4, pZ_4, aL_5, io_6, gI_6, pI_6, pZ_6, aL_7, aL_8, io_9, gI_9, pI_9, pZ_9, aL_10, io_11, gI_11, pI_11, pZ_11, aL_12, io_13, gI_13, pI_13, pZ_13, aL_14, io_15, gI_15, pI_15, pZ_15, aL_16, io_17, gI_17, pI_17, pZ_17, aL_18, aL_19, io_20, gI_20, pI_20, pZ_20, aL_21, io_22, gI_22, pI_22, pZ_22, aL_23, io_24, gI_24, pI_24, pZ_24, aL_25, io_26, gI_26, pI_26, pZ_26, io_27, gI_27, pI_27, pZ_27, aL_28, aL_29, aL_30, aL_31, aL_32, aL_33, io_34, gI_34, pI_34, pZ_34, aL_35, io_36, gI_36, pI_36, pZ_36, aL_37, io_38, gI_38, pI_38, pZ_38, aL_39, io_40, gI_40, pI_40, pZ_40, aL_41, io_42, gI_42, pI_42, pZ_42, aL_43, aL_44, aL_45, aL_46, aL_47, aL_48, aL_49, aL_50, aL_51, aL_52, aL_53, aL_54, aL_55, aL_56, aL_57, aL_58, gq_0_0, gq_0_1, gq_0_2, gq_0_3, gq_0_4, gq_0_5, gq_0_6, gq_0_7, gq_1_0, gq_1_1, gq_1_2, gq_1_3, gq_1_4, gq_1_5, gq_1_6, gq_1_7, gq_1_8, gq_1_9, gq_2_2, gq_4_2, gq_6_2, gq_9_2, gq_11_2, gq_13_2, gq_15_2, gq_17_0, gq_20_0, gq_22_0, gq_24_0, gq_27_0, gq_34_0, gq_36_0, gq_38_0, gq_40_0, gq_42_0, gq_42_1, gq_42_3, gq_42_4, gq_42_11, gq_42_12, gq_42_13, gq_42_15, gq_42_16, gq_42_17, gq_42_18, gq_42_19, gq_42_23, gq_42_24, gq_42_25, gq_42_26, aQ_29_0, aQ_29_1, aQ_29_2, aQ_29_3, aQ_19_0, aQ_19_1, aQ_19_2, aQ_46_0, aQ_46_1, aQ_46_2, gq_26, gr_26, gr_0_8, pQ_26, Option.bind_some, ↓reduceIte, one_ne0, isFactor8_eq (t := 0), if_neg hw, finds_1]
      try simp
end WB
