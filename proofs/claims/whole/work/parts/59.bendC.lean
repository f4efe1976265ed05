/-! sums -/
def sm (g : Nat → Nat) : Nat → Nat → Nat
  | 0, _ => 0
  | k + 1, i => g i + sm g k (i + 1)
theorem sm_congr {g g' : Nat → Nat} : ∀ k i, (∀ j, i ≤ j → j < i + k → g j = g' j) → sm g k i = sm g' k i
  | 0, _, _ => rfl
  | k + 1, i, h => by
    unfold sm
    rw [h i (Nat.le_refl _) (by omega), sm_congr k (i + 1) (fun j h1 h2 => h j (by omega) (by omega))]
theorem sm_zero : ∀ k i, sm (fun _ => 0) k i = 0
  | 0, _ => rfl
  | k + 1, i => by unfold sm; rw [sm_zero k (i + 1)]
theorem sm_add {g g' : Nat → Nat} : ∀ k i, sm (fun j => g j + g' j) k i = sm g k i + sm g' k i
  | 0, _ => rfl
  | k + 1, i => by unfold sm; rw [sm_add k (i + 1)]; omega
theorem sm_comm {g : Nat → Nat → Nat} {k j : Nat} : ∀ n i, sm (fun a => sm (g a) k j) n i = sm (fun c => sm (fun a => g a c) n i) k j
  | 0, i => by
    show 0 = sm (fun _ => 0) k j
    rw [sm_zero]
  | n + 1, i => by
    show sm (g i) k j + sm (fun a => sm (g a) k j) n (i + 1) = sm (fun c => g i c + sm (fun a => g a c) n (i + 1)) k j
    rw [sm_add, sm_comm n (i + 1)]
theorem sm_none {g : Nat → Nat} {k i : Nat} (h : ∀ j, i ≤ j → j < i + k → g j = 0) : sm g k i = 0 := by
  rw [sm_congr (g' := fun _ => 0) k i h, sm_zero]
theorem sm_one {g : Nat → Nat} {j0 : Nat} : ∀ k i, i ≤ j0 → j0 < i + k → (∀ j, i ≤ j → j < i + k → j ≠ j0 → g j = 0) → sm g k i = g j0
  | 0, i, h1, h2, _ => absurd h2 (by omega)
  | k + 1, i, h1, h2, h => by
    unfold sm
    by_cases e : i = j0
    · subst e
      rw [sm_none (fun j q1 q2 => h j (by omega) (by omega) (by omega))]
      rfl
    · rw [h i (Nat.le_refl _) (by omega) e, sm_one k (i + 1) (by omega) (by omega) (fun j q1 q2 q3 => h j (by omega) (by omega) q3)]
      omega
theorem sm_le {g : Nat → Nat} {K : Nat} : ∀ k i, (∀ j, g j ≤ K) → sm g k i ≤ k * K
  | 0, _, _ => by unfold sm; omega
  | k + 1, i, h => by
    unfold sm
    have h1 := h i
    have h2 := sm_le k (i + 1) h
    rw [Nat.succ_mul]
    omega
/-! cells that no later call reads -/
def Sc (q : Nat) : Prop := q = 26 ∨ (31 ≤ q ∧ q ≤ 33) ∨ (47 ≤ q ∧ q ≤ 53) ∨ q = 58
def EqS (m M : Nat → Nat → Int32) : Prop := (∀ q, ¬ Sc q → q ≠ 42 → M q = m q) ∧ M 42 2 = m 42 2 ∧ M 42 20 = m 42 20
theorem EqS.rfl' {m : Nat → Nat → Int32} : EqS m m := ⟨fun _ _ _ => rfl, rfl, rfl⟩
theorem EqS.trans {m M N : Nat → Nat → Int32} (h : EqS m M) (h' : EqS M N) : EqS m N := ⟨fun q q1 q2 => (h'.1 q q1 q2).trans (h.1 q q1 q2), h'.2.1.trans h.2.1, h'.2.2.trans h.2.2⟩
theorem EqS.at {m M : Nat → Nat → Int32} (h : EqS m M) (q : Nat) (h1 : ¬ (q = 26 ∨ (31 ≤ q ∧ q ≤ 33) ∨ (47 ≤ q ∧ q ≤ 53) ∨ q = 58)) (h2 : q ≠ 42) : M q = m q := h.1 q h1 h2
theorem EqS.st {m : Nat → Nat → Int32} {k f : Nat} {v : Int32} (hk : Sc k) : EqS m (st1 m k f v) := by
  refine ⟨fun q q1 q2 => st1_ne (fun e => q1 (by rw [e]; exact hk)), ?_, ?_⟩
  · rw [st1_ne (fun e => by unfold Sc at hk; omega)]
  · rw [st1_ne (fun e => by unfold Sc at hk; omega)]
theorem EqS.s42 {m : Nat → Nat → Int32} {f : Nat} {v : Int32} (h1 : f ≠ 2) (h2 : f ≠ 20) : EqS m (st1 m 42 f v) :=
  ⟨fun q q1 q2 => st1_ne q2, st1_nf (Ne.symm h1), st1_nf (Ne.symm h2)⟩
theorem RR_scr {m M : Nat → Nat → Int32} {kp : Bool} {z : Nat} (hR : RR m kp z) (h : EqS m M) : RR M kp z := by
  obtain ⟨r1, r2, r3, r4, r5, r6⟩ := id hR
  exact hR.fr (Nat.le_refl z) (fun q _ _ => h.at q (by omega) (by omega)) (h.at _ (by omega) (by omega)) (fun _ q _ _ => h.at q (by omega) (by omega)) (h.at _ (by omega) (by omega)) (r3.fr (fun q _ _ => h.at q (by omega) (by omega)) (fun q _ _ => h.at q (by omega) (by omega))) (r4.fr (by rw [h.at 27 (by omega) (by omega)]) (h.at _ (by omega) (by omega)) h.2.2 (h.at _ (by omega) (by omega))) (r5.fr (h.at _ (by omega) (by omega)) (h.at _ (by omega) (by omega))) (r6.fr (Nat.le_refl z) (by rw [h.at 0 (by omega) (by omega)]) h.2.1)
/-! curves -/
def szN (m : Nat → Nat → Int32) (c : Nat) : Nat := (m 43 (82 + 29 * c + 3)).toNatClampNeg
def CvC (m : Nat → Nat → Int32) (n : Nat) : Prop := PtH m ∧ m 6 0 = nI 5 ∧ m 6 3 = nI n ∧ n ≤ 24 ∧ m 43 1 = nI n ∧ ∀ c, c < n → 3 ≤ szN m c ∧ szN m c ≤ 24 ∧ m 43 (82 + 29 * c + 3) = nI (szN m c) ∧ m 7 (c * 5 + 3) = nI (szN m c)
theorem CvC_of {m : Nat → Nat → Int32} {nP n : Nat} (h : RCur m 1 43 nP n) : CvC m n := by
  obtain ⟨w1, w2, w3, w4, w5, w6, w6b, w7⟩ := h
  refine ⟨w6b, w1, w3, w5, w4, fun c hc => ?_⟩
  obtain ⟨X, hX3, hX24, eX⟩ := (w7 c hc).2.2.2
  have e : szN m c = X := by unfold szN; rw [eX, nI_clamp (by omega)]
  rw [e]
  exact ⟨hX3, hX24, eX, (w6 c 3 (by omega) (by decide)).trans eX⟩
section BC
variable {m : Nat → Nat → Int32} {kp : Bool} {b : Option Nat}
def rB (m : Nat → Nat → Int32) (kp : Bool) (b : Option Nat) (p q f bk i : Nat) : Int32 := (f_X0_startingAt (mkS m kp b) 1 (nI p) (nI q) (nI f) (nI bk) (nI i)).getD 0
theorem rB_eq {n p q f bk i : Nat} (h : CvC m n) (hp : p < n) (hq : q < n) (hf : f ≤ 5) (hbk : bk < 2) (hi : i < szN m p) : f_X0_startingAt (mkS m kp b) 1 (nI p) (nI q) (nI f) (nI bk) (nI i) = some (rB m kp b p q f bk i) ∧ ((rB m kp b p q f bk i = -1 ∧ ∀ t u d, Val f t u d → ¬ Bd m p q (szN m p) (szN m q) bk t u d i) ∨ ∃ t u d, Val f t u d ∧ Bd m p q (szN m p) (szN m q) bk t u d i ∧ rB m kp b p q f bk i = nI (codB bk t u d i)) := by
  obtain ⟨h1, h2, h3, h4, h5, h6⟩ := h
  obtain ⟨p1, p2, p3, p4⟩ := h6 p hp
  obtain ⟨q1, q2, q3, q4⟩ := h6 q hq
  obtain ⟨r, hr, hres⟩ := start7 (kp := kp) (b := b) h1 h2 h3 h4 hp hq p4 q4 p2 q2 q1 hf hbk hi
  have e : rB m kp b p q f bk i = r := by unfold rB; rw [hr]; rfl
  rw [e]
  exact ⟨hr, hres⟩
/-! the first bending -/
def fsG (r a : Int32) : Int32 := if r < 0 then a else if a < 0 then r else if a ≤ r then a else r
def FS (m : Nat → Nat → Int32) (p q X Y f : Nat) (P : Nat → Nat → Prop) (a : Int32) : Prop := (a = -1 ∧ ∀ bk i t u d, P bk i → Val f t u d → ¬ Bd m p q X Y bk t u d i) ∨ ∃ bk t u d i, P bk i ∧ Val f t u d ∧ Bd m p q X Y bk t u d i ∧ a = nI (codB bk t u d i) ∧ ∀ bk' t' u' d' i', P bk' i' → Val f t' u' d' → Bd m p q X Y bk' t' u' d' i' → codB bk t u d i ≤ codB bk' t' u' d' i'
theorem codB_lt {f bk t u d i : Nat} (hf : f ≤ 5) (hbk : bk < 2) (v : Val f t u d) (hi : i < 24) : codB bk t u d i < 10000 := by
  obtain ⟨v1, v2, v3, v4, v5, v6⟩ := v
  unfold codB
  omega
theorem FS_step {p q X Y f bk i : Nat} {P : Nat → Nat → Prop} {a r : Int32} (hX : X ≤ 24) (hf : f ≤ 5) (hP : ∀ bk i, P bk i → bk < 2 ∧ i < X) (hbk : bk < 2) (hi : i < X) (h : FS m p q X Y f P a) (hr : (r = -1 ∧ ∀ t u d, Val f t u d → ¬ Bd m p q X Y bk t u d i) ∨ ∃ t u d, Val f t u d ∧ Bd m p q X Y bk t u d i ∧ r = nI (codB bk t u d i)) : FS m p q X Y f (fun bk' i' => P bk' i' ∨ (bk' = bk ∧ i' = i)) (fsG r a) := by
  rcases hr with ⟨r1, r2⟩ | ⟨t, u, d, v, hB, er⟩
  · have e : fsG r a = a := by unfold fsG; rw [r1, if_pos (by decide)]
    rw [e]
    rcases h with ⟨a1, a2⟩ | ⟨bk0, t0, u0, d0, i0, b1, b2, b3, b4, b5⟩
    · refine Or.inl ⟨a1, fun bk' i' t u d hp v => ?_⟩
      rcases hp with hp | ⟨rfl, rfl⟩
      · exact a2 bk' i' t u d hp v
      · exact r2 t u d v
    · refine Or.inr ⟨bk0, t0, u0, d0, i0, Or.inl b1, b2, b3, b4, fun bk' t' u' d' i' hp v' hB' => ?_⟩
      rcases hp with hp | ⟨rfl, rfl⟩
      · exact b5 bk' t' u' d' i' hp v' hB'
      · exact absurd hB' (r2 t' u' d' v')
  · have hc := codB_lt hf hbk v (show i < 24 by omega)
    have hr0 : ¬ r < 0 := by rw [er]; exact nI_pos (by omega)
    have huq : ∀ t' u' d', Val f t' u' d' → Bd m p q X Y bk t' u' d' i → codB bk t' u' d' i = codB bk t u d i := fun t' u' d' v' hB' => by
      obtain ⟨e1, e2, e3⟩ := Bd_uq hB hB' v v'
      rw [e1, e2, e3]
    rcases h with ⟨a1, a2⟩ | ⟨bk0, t0, u0, d0, i0, b1, b2, b3, b4, b5⟩
    · have e : fsG r a = r := by unfold fsG; rw [if_neg hr0, a1, if_pos (by decide)]
      rw [e]
      refine Or.inr ⟨bk, t, u, d, i, Or.inr ⟨rfl, rfl⟩, v, hB, er, fun bk' t' u' d' i' hp v' hB' => ?_⟩
      rcases hp with hp | ⟨rfl, rfl⟩
      · exact absurd hB' (a2 bk' i' t' u' d' hp v')
      · rw [huq t' u' d' v' hB']; exact Nat.le_refl _
    · have hc0 := codB_lt hf (hP _ _ b1).1 b2 (show i0 < 24 by have := (hP _ _ b1).2; omega)
      by_cases hle : codB bk0 t0 u0 d0 i0 ≤ codB bk t u d i
      · have e : fsG r a = a := by unfold fsG; rw [if_neg hr0, if_neg (by rw [b4]; exact nI_pos (by omega)), if_pos (by rw [b4, er]; exact nI_le hle (by omega))]
        rw [e]
        refine Or.inr ⟨bk0, t0, u0, d0, i0, Or.inl b1, b2, b3, b4, fun bk' t' u' d' i' hp v' hB' => ?_⟩
        rcases hp with hp | ⟨rfl, rfl⟩
        · exact b5 bk' t' u' d' i' hp v' hB'
        · rw [huq t' u' d' v' hB']; exact hle
      · have e : fsG r a = r := by unfold fsG; rw [if_neg hr0, if_neg (by rw [b4]; exact nI_pos (by omega)), if_neg (by rw [b4, er]; exact nI_ge (by omega) (by omega))]
        rw [e]
        refine Or.inr ⟨bk, t, u, d, i, Or.inr ⟨rfl, rfl⟩, v, hB, er, fun bk' t' u' d' i' hp v' hB' => ?_⟩
        rcases hp with hp | ⟨rfl, rfl⟩
        · have := b5 bk' t' u' d' i' hp v' hB'; omega
        · rw [huq t' u' d' v' hB']; exact Nat.le_refl _
theorem FS_P {p q X Y f : Nat} {P P' : Nat → Nat → Prop} {a : Int32} (hPP : ∀ bk i, P bk i ↔ P' bk i) (h : FS m p q X Y f P a) : FS m p q X Y f P' a := by
  have : P = P' := by funext bk i; exact propext (hPP bk i)
  rw [← this]; exact h
theorem first7 {n p q f : Nat} (h : CvC m n) (hp : p < n) (hq : q < n) (hf : f ≤ 5) : ∃ a, f_X0_first (mkS m kp b) 1 (nI p) (nI q) (nI f) = some a ∧ FS m p q (szN m p) (szN m q) f (fun bk i => bk < 2 ∧ i < szN m p) a := by
  obtain ⟨h1, h2, h3, h4, h5, h6⟩ := id h
  obtain ⟨p1, p2, p3, p4⟩ := h6 p hp
  unfold f_X0_first
  have inner : ∀ bk, bk < 2 → ∀ a0, FS m p q (szN m p) (szN m q) f (fun b i => b < bk ∧ i < szN m p) a0 → f_X0_first_L15 (mkS m kp b) (nI bk) 1 (nI p) (nI q) (nI f) 3000 0 a0 = some (nI (szN m p), it (fun i a => fsG (rB m kp b p q f bk i) a) (szN m p) 0 a0) ∧ FS m p q (szN m p) (szN m q) f (fun b i => b < bk + 1 ∧ i < szN m p) (it (fun i a => fsG (rB m kp b p q f bk i) a) (szN m p) 0 a0) := by
    intro bk hbk a0 hF0
    have := loopT (fun l i (a : Int32) => f_X0_first_L15 (mkS m kp b) (nI bk) 1 (nI p) (nI q) (nI f) l (nI i) a) (fun a => (nI (szN m p), a)) (fun i a => fsG (rB m kp b p q f bk i) a) (fun k a => FS m p q (szN m p) (szN m q) f (fun b i => (b < bk ∧ i < szN m p) ∨ (b = bk ∧ i < k)) a) (szN m p) (fun l i a hi hI => by
      obtain ⟨e1, e2⟩ := rB_eq (kp := kp) (b := b) h hp hq hf hbk hi
      refine ⟨?_, FS_P (fun b' i' => ?_) (FS_step p2 hf (fun b' i' hh => by omega) hbk hi hI e2)⟩
      · show f_X0_first_L15 (mkS m kp b) (nI bk) 1 (nI p) (nI q) (nI f) (l + 1) (nI i) a = f_X0_first_L15 (mkS m kp b) (nI bk) 1 (nI p) (nI q) (nI f) l (nI (i + 1)) (fsG (rB m kp b p q f bk i) a)
        rw [f_X0_first_L15, csz h2 h3 h4 hp, p4, Option.bind_some, if_neg (nI_ge hi (by omega)), e1, Option.bind_some, nI_a1]
        rfl
      · constructor
        · intro hh; omega
        · intro hh; omega) (fun l a hI => by
      show f_X0_first_L15 (mkS m kp b) (nI bk) 1 (nI p) (nI q) (nI f) (l + 1) (nI (szN m p)) a = _
      rw [f_X0_first_L15, csz h2 h3 h4 hp, p4, Option.bind_some, if_pos (Int32.le_refl _)]) (szN m p) 0 a0 3000 (by omega) (by omega) (FS_P (fun b' i' => by constructor <;> intro hh <;> omega) hF0)
    simp only [nI_0] at this
    exact ⟨this.1, FS_P (fun b' i' => by constructor <;> intro hh <;> omega) this.2⟩
  have F0 : FS m p q (szN m p) (szN m q) f (fun b i => b < 0 ∧ i < szN m p) (-1) := Or.inl ⟨rfl, fun bk i t u d hh => absurd hh.1 (by omega)⟩
  obtain ⟨i0, F1⟩ := inner 0 (by decide) (-1) F0
  obtain ⟨i1, F2⟩ := inner 1 (by decide) _ F1
  refine ⟨it (fun i a => fsG (rB m kp b p q f 1 i) a) (szN m p) 0 (it (fun i a => fsG (rB m kp b p q f 0 i) a) (szN m p) 0 (-1)), ?_, F2⟩
  have i0' : f_X0_first_L15 (mkS m kp b) 0 1 (nI p) (nI q) (nI f) 3000 0 (-1) = _ := i0
  have i1' : f_X0_first_L15 (mkS m kp b) 1 1 (nI p) (nI q) (nI f) 3000 0 _ = _ := i1
  rw [f_X0_first_L6, if_neg (show ¬ (2 : Int32) ≤ 0 by decide), i0', Option.bind_some, f_X0_first_L6, show (0 : Int32) + 1 = 1 by decide, if_neg (show ¬ (2 : Int32) ≤ 1 by decide)]
  dsimp only
  rw [i1', Option.bind_some, f_X0_first_L6, show (1 : Int32) + 1 = 2 by decide, if_pos (Int32.le_refl _)]
  rfl
/-! how many -/
def eB (m : Nat → Nat → Int32) (kp : Bool) (b : Option Nat) (p q f bk i : Nat) : Nat := if rB m kp b p q f bk i < 0 then 0 else 1
theorem it_sm {g : Nat → Nat} : ∀ k i a, it (fun j a => a + g j) k i a = a + sm g k i
  | 0, _, _ => rfl
  | k + 1, i, a => by
    show it (fun j a => a + g j) k (i + 1) (a + g i) = a + (g i + sm g k (i + 1))
    rw [it_sm k (i + 1), Nat.add_assoc]
theorem many7 {n p q f : Nat} (h : CvC m n) (hp : p < n) (hq : q < n) (hf : f ≤ 5) : f_X0_howMany (mkS m kp b) 1 (nI p) (nI q) (nI f) = some (nI (sm (eB m kp b p q f 0) (szN m p) 0 + sm (eB m kp b p q f 1) (szN m p) 0)) := by
  obtain ⟨h1, h2, h3, h4, h5, h6⟩ := id h
  obtain ⟨p1, p2, p3, p4⟩ := h6 p hp
  unfold f_X0_howMany
  have inner : ∀ bk, bk < 2 → ∀ a0 : Nat, f_X0_howMany_L15 (mkS m kp b) (nI bk) 1 (nI p) (nI q) (nI f) 3000 0 (nI a0) = some (nI (szN m p), nI (a0 + sm (eB m kp b p q f bk) (szN m p) 0)) := by
    intro bk hbk a0
    have := loopU (fun l i (a : Nat) => f_X0_howMany_L15 (mkS m kp b) (nI bk) 1 (nI p) (nI q) (nI f) l (nI i) (nI a)) (fun a => (nI (szN m p), nI a)) (fun i a => a + eB m kp b p q f bk i) (szN m p) (fun l i a hi => by
      obtain ⟨e1, e2⟩ := rB_eq (kp := kp) (b := b) h hp hq hf hbk hi
      show f_X0_howMany_L15 (mkS m kp b) (nI bk) 1 (nI p) (nI q) (nI f) (l + 1) (nI i) (nI a) = f_X0_howMany_L15 (mkS m kp b) (nI bk) 1 (nI p) (nI q) (nI f) l (nI (i + 1)) (nI (a + eB m kp b p q f bk i))
      rw [f_X0_howMany_L15, csz h2 h3 h4 hp, p4, Option.bind_some, if_neg (nI_ge hi (by omega)), e1, Option.bind_some, nI_a1]
      unfold eB
      by_cases hr : rB m kp b p q f bk i < 0
      · rw [if_pos hr, if_pos hr, Int32.add_zero]; rfl
      · rw [if_neg hr, if_neg hr, nI_a1]) (fun l a => by
      show f_X0_howMany_L15 (mkS m kp b) (nI bk) 1 (nI p) (nI q) (nI f) (l + 1) (nI (szN m p)) (nI a) = _
      rw [f_X0_howMany_L15, csz h2 h3 h4 hp, p4, Option.bind_some, if_pos (Int32.le_refl _)]) (szN m p) 0 a0 3000 (by omega) (by omega)
    simp only [nI_0] at this
    rw [this, it_sm]
  have i0 := inner 0 (by decide) 0
  have i1 := inner 1 (by decide) (sm (eB m kp b p q f 0) (szN m p) 0)
  rw [nI_0, Nat.zero_add] at i0
  have i1' : f_X0_howMany_L15 (mkS m kp b) 1 1 (nI p) (nI q) (nI f) 3000 0 _ = _ := i1
  rw [f_X0_howMany_L6, if_neg (show ¬ (2 : Int32) ≤ 0 by decide), i0, Option.bind_some, f_X0_howMany_L6, show (0 : Int32) + 1 = 1 by decide, if_neg (show ¬ (2 : Int32) ≤ 1 by decide)]
  dsimp only
  rw [i1', Option.bind_some, f_X0_howMany_L6, show (1 : Int32) + 1 = 2 by decide, if_pos (Int32.le_refl _)]
  rfl
end BC
