/-! the tables of the class: rows of w numbers, n of them -/
section TB
variable {m : Nat → Nat → Int32} {kp : Bool} {b : Option Nat} {t c len w n : Nat}
theorem row_lt {r f : Nat} (hr : r < n) (hf : f < w) : r * w + f < n * w := by
  have h := Nat.mul_le_mul_right w (show r + 1 ≤ n from hr)
  rw [Nat.succ_mul] at h
  omega
theorem at_gen {σ : St} (h1 : isO σ 4 t = true) (h2 : gQ σ 4 t 2 = some c) (h3 : arL σ 0 c = some len) (hw : σ.1 t 0 = nI w) (hn : σ.1 t 3 = nI n) (hl : n * w ≤ len) (hb : len < 100000) (hb2 : w < 100000) (hb3 : n < 100000) {r f : Nat} (hr : r < n) (hf : f < w) : f_X5_at σ t (nI r) (nI f) = some (σ.1 c (r * w + f)) := by
  have hlt := row_lt hr hf
  unfold f_X5_at
  rw [if_pos h1, if_neg (nI_pos (by omega))]
  simp only [gI_of h1, Option.bind_some, hn, hw, h2, aI_of h3]
  rw [if_neg (nI_ge hr (by omega)), if_neg (nI_pos (by omega)), if_neg (nI_ge hf (by omega)), pk_mul, nI_add, if_pos (inB_nI (by omega) (by omega)), nI_clamp (by omega)]
  rfl
theorem set_gen (h1 : isO (mkS m kp b) 4 t = true) (h2 : gQ (mkS m kp b) 4 t 2 = some c) (h3 : arL (mkS m kp b) 0 c = some len) (hw : m t 0 = nI w) (hn : m t 3 = nI n) (hl : n * w ≤ len) (hb : len < 100000) (hb2 : w < 100000) (hb3 : n < 100000) {r f : Nat} {v : Int32} (hr : r < n) (hf : f < w) : f_X5_set (mkS m kp b) t (nI r) (nI f) v = some (mkS (st1 m c (r * w + f) v) kp b) := by
  have hlt := row_lt hr hf
  unfold f_X5_set
  rw [if_pos h1, if_neg (nI_pos (by omega))]
  simp only [gI_of h1, Option.bind_some, mk_1, hn, hw, h2, sI_of h3]
  rw [if_neg (nI_ge hr (by omega)), if_neg (nI_pos (by omega)), if_neg (nI_ge hf (by omega)), pk_mul, nI_add, if_pos (inB_nI (by omega) (by omega)), nI_clamp (by omega)]
  rfl
theorem has_gen {σ : St} (h1 : isO σ 4 t = true) (hn : σ.1 t 3 = nI n) {a : Int32} : f_X5_has σ t a = some (if 0 ≤ a ∧ a < nI n then 1 else 0) := by
  unfold f_X5_has
  rw [if_pos h1]
  simp only [gI_of h1, Option.bind_some, hn, z01]
  by_cases h : a < 0
  · have : ¬ (0 ≤ a ∧ a < nI n) := fun q => Int32.not_le.mpr h q.1
    rw [if_pos h, if_neg this]
  · rw [if_neg h]
    by_cases h2 : nI n ≤ a
    · have : ¬ (0 ≤ a ∧ a < nI n) := fun q => Int32.not_le.mpr q.2 h2
      rw [if_pos h2, if_neg this]
    · have : 0 ≤ a ∧ a < nI n := ⟨Int32.not_lt.mp h, Int32.not_le.mp h2⟩
      rw [if_neg h2, if_pos this]
theorem full_gen {σ : St} {lim : Nat} (h1 : isO σ 4 t = true) (hn : σ.1 t 3 = nI n) (hm : σ.1 t 1 = nI lim) (hb : n < 100000) (hb2 : lim < 100000) : f_X5_isFull σ t = some (if n < lim then 0 else 1) := by
  unfold f_X5_isFull
  rw [if_pos h1]
  simp only [gI_of h1, Option.bind_some, hn, hm, z01, nI_ltI (show n < 2 ^ 31 by omega) (show lim < 2 ^ 31 by omega)]
/-- a stretch of zeros -/
def zrow (m : Nat → Nat → Int32) (c i k : Nat) : Nat → Nat → Int32 := upI m c (fun j => if i ≤ j ∧ j < i + k then 0 else m c j)
theorem zrow_0 {m : Nat → Nat → Int32} {c i : Nat} : zrow m c i 0 = m := by
  funext k j
  unfold zrow upI
  by_cases h : k = c
  · rw [if_pos h, if_neg (by omega), h]
  · rw [if_neg h]
theorem zrow_ne {m : Nat → Nat → Int32} {c i k q : Nat} (h : q ≠ c) : zrow m c i k q = m q := upI_ne h
theorem zrow_at {m : Nat → Nat → Int32} {c i k j : Nat} : zrow m c i k c j = if i ≤ j ∧ j < i + k then 0 else m c j := by unfold zrow; rw [upI_at]
theorem zrow_s {m : Nat → Nat → Int32} {c i k : Nat} : st1 (zrow m c i k) c (i + k) 0 = zrow m c i (k + 1) := by
  funext q j
  by_cases h : q = c
  · subst h
    rw [st1_at, zrow_at, zrow_at]
    by_cases hj : j = i + k
    · rw [if_pos hj, if_pos (by omega)]
    · rw [if_neg hj]
      by_cases hq : i ≤ j ∧ j < i + k
      · rw [if_pos hq, if_pos (by omega)]
      · rw [if_neg hq, if_neg (by omega)]
  · rw [st1_ne h, zrow_ne h, zrow_ne h]
theorem add_gen {lim : Nat} (h1 : ∀ m : Nat → Nat → Int32, isO (mkS m kp b) 4 t = true) (h2 : ∀ m : Nat → Nat → Int32, gQ (mkS m kp b) 4 t 2 = some c) (h3 : ∀ m : Nat → Nat → Int32, arL (mkS m kp b) 0 c = some len) (htc : t ≠ c) (hw : m t 0 = nI w) (hm : m t 1 = nI lim) (hn : m t 3 = nI n) (hlt : n < lim) (hl : lim * w ≤ len) (hb : len < 2000) (hb2 : w < 2000) (hb3 : lim < 2000) : f_X5_add (mkS m kp b) t = some (nI n, mkS (st1 (zrow m c (n * w) w) t 3 (nI (n + 1))) kp b) := by
  have hrow : ∀ i, i < w → n * w + i < len := fun i hi => by
    have := row_lt (n := lim) hlt hi
    omega
  have hloop := loopU (α := St) (fun f i (s : St) => f_X5_add_L15 t f (nI i) s) (fun s => (nI w, s)) (fun i s => (st1 s.1 c (n * w + i) 0, s.2)) w
  unfold f_X5_add
  rw [if_pos (h1 m)]
  simp only [gI_of (h1 _), Option.bind_some, mk_1, hn, hm]
  rw [if_pos (nI_lt hlt (by omega))]
  -- the loop, with the state kept as mkS
  have key : ∀ k i, i + k = w → ∀ f, k < f → f_X5_add_L15 t f (nI i) (mkS (zrow m c (n * w) i) kp b) = some (nI w, mkS (zrow m c (n * w) w) kp b) := by
    intro k
    induction k with
    | zero =>
      intro i hi f hf
      obtain ⟨f, rfl⟩ : ∃ q, f = q + 1 := ⟨f - 1, by omega⟩
      have : i = w := by omega
      subst this
      rw [f_X5_add_L15]
      simp only [gI_of (h1 _), Option.bind_some, mk_1, zrow_ne htc, hw]
      rw [if_pos (nI_le (Nat.le_refl _) (by omega))]
    | succ k ih =>
      intro i hi f hf
      obtain ⟨f, rfl⟩ : ∃ q, f = q + 1 := ⟨f - 1, by omega⟩
      rw [f_X5_add_L15]
      simp only [gI_of (h1 _), Option.bind_some, mk_1, zrow_ne htc, hw, hn, h2, sI_of (h3 _)]
      rw [if_neg (nI_ge (by omega) (by omega)), pk_mul, nI_add, if_pos (inB_nI (hrow i (by omega)) (by omega)), nI_clamp (by have := hrow i (by omega); omega), Option.bind_some, zrow_s, nI_1]
      exact ih (i + 1) (by omega) f (by omega)
  have e := key w 0 (by omega) 3000 (by omega)
  rw [zrow_0, nI_0] at e
  rw [e]
  simp only [Option.bind_some, gI_of (h1 _), mk_1, zrow_ne htc, hn, pI_of (h1 _), st1_eq, nI_1, nI_pred]
end TB
section TBI
variable {m : Nat → Nat → Int32} {kp : Bool} {b : Option Nat} {n : Nat}
theorem at_2 (hw : m 2 0 = nI 3) (hn : m 2 3 = nI n) (hl : n ≤ 4) {r f : Nat} (hr : r < n) (hf : f < 3) : f_X5_at (mkS m kp b) 2 (nI r) (nI f) = some (m 3 (r * 3 + f)) := at_gen (σ := mkS m kp b) io_2 gq_2_2 al_3 hw hn (by omega) (by decide) (by decide) (by omega) hr hf
theorem set_2 (hw : m 2 0 = nI 3) (hn : m 2 3 = nI n) (hl : n ≤ 4) {r f : Nat} {v : Int32} (hr : r < n) (hf : f < 3) : f_X5_set (mkS m kp b) 2 (nI r) (nI f) v = some (mkS (st1 m 3 (r * 3 + f) v) kp b) := set_gen io_2 gq_2_2 al_3 hw hn (by omega) (by decide) (by decide) (by omega) hr hf
theorem at_2_0 (hw : m 2 0 = nI 3) (hn : m 2 3 = nI n) (hl : n ≤ 4) {r : Nat} (hr : r < n) : f_X5_at (mkS m kp b) 2 (nI r) 0 = some (m 3 (r * 3 + 0)) := at_2 hw hn hl hr (f := 0) (by decide)
theorem set_2_0 (hw : m 2 0 = nI 3) (hn : m 2 3 = nI n) (hl : n ≤ 4) {r : Nat} {v : Int32} (hr : r < n) : f_X5_set (mkS m kp b) 2 (nI r) 0 v = some (mkS (st1 m 3 (r * 3 + 0) v) kp b) := set_2 hw hn hl hr (f := 0) (by decide)
theorem at_2_1 (hw : m 2 0 = nI 3) (hn : m 2 3 = nI n) (hl : n ≤ 4) {r : Nat} (hr : r < n) : f_X5_at (mkS m kp b) 2 (nI r) 1 = some (m 3 (r * 3 + 1)) := at_2 hw hn hl hr (f := 1) (by decide)
theorem set_2_1 (hw : m 2 0 = nI 3) (hn : m 2 3 = nI n) (hl : n ≤ 4) {r : Nat} {v : Int32} (hr : r < n) : f_X5_set (mkS m kp b) 2 (nI r) 1 v = some (mkS (st1 m 3 (r * 3 + 1) v) kp b) := set_2 hw hn hl hr (f := 1) (by decide)
theorem at_2_2 (hw : m 2 0 = nI 3) (hn : m 2 3 = nI n) (hl : n ≤ 4) {r : Nat} (hr : r < n) : f_X5_at (mkS m kp b) 2 (nI r) 2 = some (m 3 (r * 3 + 2)) := at_2 hw hn hl hr (f := 2) (by decide)
theorem set_2_2 (hw : m 2 0 = nI 3) (hn : m 2 3 = nI n) (hl : n ≤ 4) {r : Nat} {v : Int32} (hr : r < n) : f_X5_set (mkS m kp b) 2 (nI r) 2 v = some (mkS (st1 m 3 (r * 3 + 2) v) kp b) := set_2 hw hn hl hr (f := 2) (by decide)
theorem has_2 (hn : m 2 3 = nI n) {a : Int32} : f_X5_has (mkS m kp b) 2 a = some (if 0 ≤ a ∧ a < nI n then 1 else 0) := has_gen (σ := mkS m kp b) io_2 hn
theorem full_2 (hm : m 2 1 = nI 4) (hn : m 2 3 = nI n) (hl : n ≤ 4) : f_X5_isFull (mkS m kp b) 2 = some (if n < 4 then 0 else 1) := full_gen (σ := mkS m kp b) io_2 hn hm (by omega) (by decide)
theorem add_2 (hw : m 2 0 = nI 3) (hm : m 2 1 = nI 4) (hn : m 2 3 = nI n) (hl : n < 4) : f_X5_add (mkS m kp b) 2 = some (nI n, mkS (st1 (zrow m 3 (n * 3) 3) 2 3 (nI (n + 1))) kp b) := add_gen (fun _ => io_2) (fun _ => gq_2_2) (fun _ => al_3) (by decide) hw hm hn hl (by decide) (by decide) (by decide) (by decide)
theorem clear_2 : f_X5_clear (mkS m kp b) 2 = some (mkS (st1 m 2 3 0) kp b) := by
  unfold f_X5_clear
  rw [if_pos io_2, pI_2]
  rfl
theorem at_4 (hw : m 4 0 = nI 5) (hn : m 4 3 = nI n) (hl : n ≤ 12) {r f : Nat} (hr : r < n) (hf : f < 5) : f_X5_at (mkS m kp b) 4 (nI r) (nI f) = some (m 5 (r * 5 + f)) := at_gen (σ := mkS m kp b) io_4 gq_4_2 al_5 hw hn (by omega) (by decide) (by decide) (by omega) hr hf
theorem set_4 (hw : m 4 0 = nI 5) (hn : m 4 3 = nI n) (hl : n ≤ 12) {r f : Nat} {v : Int32} (hr : r < n) (hf : f < 5) : f_X5_set (mkS m kp b) 4 (nI r) (nI f) v = some (mkS (st1 m 5 (r * 5 + f) v) kp b) := set_gen io_4 gq_4_2 al_5 hw hn (by omega) (by decide) (by decide) (by omega) hr hf
theorem at_4_0 (hw : m 4 0 = nI 5) (hn : m 4 3 = nI n) (hl : n ≤ 12) {r : Nat} (hr : r < n) : f_X5_at (mkS m kp b) 4 (nI r) 0 = some (m 5 (r * 5 + 0)) := at_4 hw hn hl hr (f := 0) (by decide)
theorem set_4_0 (hw : m 4 0 = nI 5) (hn : m 4 3 = nI n) (hl : n ≤ 12) {r : Nat} {v : Int32} (hr : r < n) : f_X5_set (mkS m kp b) 4 (nI r) 0 v = some (mkS (st1 m 5 (r * 5 + 0) v) kp b) := set_4 hw hn hl hr (f := 0) (by decide)
theorem at_4_1 (hw : m 4 0 = nI 5) (hn : m 4 3 = nI n) (hl : n ≤ 12) {r : Nat} (hr : r < n) : f_X5_at (mkS m kp b) 4 (nI r) 1 = some (m 5 (r * 5 + 1)) := at_4 hw hn hl hr (f := 1) (by decide)
theorem set_4_1 (hw : m 4 0 = nI 5) (hn : m 4 3 = nI n) (hl : n ≤ 12) {r : Nat} {v : Int32} (hr : r < n) : f_X5_set (mkS m kp b) 4 (nI r) 1 v = some (mkS (st1 m 5 (r * 5 + 1) v) kp b) := set_4 hw hn hl hr (f := 1) (by decide)
theorem at_4_2 (hw : m 4 0 = nI 5) (hn : m 4 3 = nI n) (hl : n ≤ 12) {r : Nat} (hr : r < n) : f_X5_at (mkS m kp b) 4 (nI r) 2 = some (m 5 (r * 5 + 2)) := at_4 hw hn hl hr (f := 2) (by decide)
theorem set_4_2 (hw : m 4 0 = nI 5) (hn : m 4 3 = nI n) (hl : n ≤ 12) {r : Nat} {v : Int32} (hr : r < n) : f_X5_set (mkS m kp b) 4 (nI r) 2 v = some (mkS (st1 m 5 (r * 5 + 2) v) kp b) := set_4 hw hn hl hr (f := 2) (by decide)
theorem at_4_3 (hw : m 4 0 = nI 5) (hn : m 4 3 = nI n) (hl : n ≤ 12) {r : Nat} (hr : r < n) : f_X5_at (mkS m kp b) 4 (nI r) 3 = some (m 5 (r * 5 + 3)) := at_4 hw hn hl hr (f := 3) (by decide)
theorem set_4_3 (hw : m 4 0 = nI 5) (hn : m 4 3 = nI n) (hl : n ≤ 12) {r : Nat} {v : Int32} (hr : r < n) : f_X5_set (mkS m kp b) 4 (nI r) 3 v = some (mkS (st1 m 5 (r * 5 + 3) v) kp b) := set_4 hw hn hl hr (f := 3) (by decide)
theorem at_4_4 (hw : m 4 0 = nI 5) (hn : m 4 3 = nI n) (hl : n ≤ 12) {r : Nat} (hr : r < n) : f_X5_at (mkS m kp b) 4 (nI r) 4 = some (m 5 (r * 5 + 4)) := at_4 hw hn hl hr (f := 4) (by decide)
theorem set_4_4 (hw : m 4 0 = nI 5) (hn : m 4 3 = nI n) (hl : n ≤ 12) {r : Nat} {v : Int32} (hr : r < n) : f_X5_set (mkS m kp b) 4 (nI r) 4 v = some (mkS (st1 m 5 (r * 5 + 4) v) kp b) := set_4 hw hn hl hr (f := 4) (by decide)
theorem has_4 (hn : m 4 3 = nI n) {a : Int32} : f_X5_has (mkS m kp b) 4 a = some (if 0 ≤ a ∧ a < nI n then 1 else 0) := has_gen (σ := mkS m kp b) io_4 hn
theorem full_4 (hm : m 4 1 = nI 12) (hn : m 4 3 = nI n) (hl : n ≤ 12) : f_X5_isFull (mkS m kp b) 4 = some (if n < 12 then 0 else 1) := full_gen (σ := mkS m kp b) io_4 hn hm (by omega) (by decide)
theorem add_4 (hw : m 4 0 = nI 5) (hm : m 4 1 = nI 12) (hn : m 4 3 = nI n) (hl : n < 12) : f_X5_add (mkS m kp b) 4 = some (nI n, mkS (st1 (zrow m 5 (n * 5) 5) 4 3 (nI (n + 1))) kp b) := add_gen (fun _ => io_4) (fun _ => gq_4_2) (fun _ => al_5) (by decide) hw hm hn hl (by decide) (by decide) (by decide) (by decide)
theorem clear_4 : f_X5_clear (mkS m kp b) 4 = some (mkS (st1 m 4 3 0) kp b) := by
  unfold f_X5_clear
  rw [if_pos io_4, pI_4]
  rfl
theorem at_6 (hw : m 6 0 = nI 5) (hn : m 6 3 = nI n) (hl : n ≤ 24) {r f : Nat} (hr : r < n) (hf : f < 5) : f_X5_at (mkS m kp b) 6 (nI r) (nI f) = some (m 7 (r * 5 + f)) := at_gen (σ := mkS m kp b) io_6 gq_6_2 al_7 hw hn (by omega) (by decide) (by decide) (by omega) hr hf
theorem set_6 (hw : m 6 0 = nI 5) (hn : m 6 3 = nI n) (hl : n ≤ 24) {r f : Nat} {v : Int32} (hr : r < n) (hf : f < 5) : f_X5_set (mkS m kp b) 6 (nI r) (nI f) v = some (mkS (st1 m 7 (r * 5 + f) v) kp b) := set_gen io_6 gq_6_2 al_7 hw hn (by omega) (by decide) (by decide) (by omega) hr hf
theorem at_6_0 (hw : m 6 0 = nI 5) (hn : m 6 3 = nI n) (hl : n ≤ 24) {r : Nat} (hr : r < n) : f_X5_at (mkS m kp b) 6 (nI r) 0 = some (m 7 (r * 5 + 0)) := at_6 hw hn hl hr (f := 0) (by decide)
theorem set_6_0 (hw : m 6 0 = nI 5) (hn : m 6 3 = nI n) (hl : n ≤ 24) {r : Nat} {v : Int32} (hr : r < n) : f_X5_set (mkS m kp b) 6 (nI r) 0 v = some (mkS (st1 m 7 (r * 5 + 0) v) kp b) := set_6 hw hn hl hr (f := 0) (by decide)
theorem at_6_1 (hw : m 6 0 = nI 5) (hn : m 6 3 = nI n) (hl : n ≤ 24) {r : Nat} (hr : r < n) : f_X5_at (mkS m kp b) 6 (nI r) 1 = some (m 7 (r * 5 + 1)) := at_6 hw hn hl hr (f := 1) (by decide)
theorem set_6_1 (hw : m 6 0 = nI 5) (hn : m 6 3 = nI n) (hl : n ≤ 24) {r : Nat} {v : Int32} (hr : r < n) : f_X5_set (mkS m kp b) 6 (nI r) 1 v = some (mkS (st1 m 7 (r * 5 + 1) v) kp b) := set_6 hw hn hl hr (f := 1) (by decide)
theorem at_6_2 (hw : m 6 0 = nI 5) (hn : m 6 3 = nI n) (hl : n ≤ 24) {r : Nat} (hr : r < n) : f_X5_at (mkS m kp b) 6 (nI r) 2 = some (m 7 (r * 5 + 2)) := at_6 hw hn hl hr (f := 2) (by decide)
theorem set_6_2 (hw : m 6 0 = nI 5) (hn : m 6 3 = nI n) (hl : n ≤ 24) {r : Nat} {v : Int32} (hr : r < n) : f_X5_set (mkS m kp b) 6 (nI r) 2 v = some (mkS (st1 m 7 (r * 5 + 2) v) kp b) := set_6 hw hn hl hr (f := 2) (by decide)
theorem at_6_3 (hw : m 6 0 = nI 5) (hn : m 6 3 = nI n) (hl : n ≤ 24) {r : Nat} (hr : r < n) : f_X5_at (mkS m kp b) 6 (nI r) 3 = some (m 7 (r * 5 + 3)) := at_6 hw hn hl hr (f := 3) (by decide)
theorem set_6_3 (hw : m 6 0 = nI 5) (hn : m 6 3 = nI n) (hl : n ≤ 24) {r : Nat} {v : Int32} (hr : r < n) : f_X5_set (mkS m kp b) 6 (nI r) 3 v = some (mkS (st1 m 7 (r * 5 + 3) v) kp b) := set_6 hw hn hl hr (f := 3) (by decide)
theorem at_6_4 (hw : m 6 0 = nI 5) (hn : m 6 3 = nI n) (hl : n ≤ 24) {r : Nat} (hr : r < n) : f_X5_at (mkS m kp b) 6 (nI r) 4 = some (m 7 (r * 5 + 4)) := at_6 hw hn hl hr (f := 4) (by decide)
theorem set_6_4 (hw : m 6 0 = nI 5) (hn : m 6 3 = nI n) (hl : n ≤ 24) {r : Nat} {v : Int32} (hr : r < n) : f_X5_set (mkS m kp b) 6 (nI r) 4 v = some (mkS (st1 m 7 (r * 5 + 4) v) kp b) := set_6 hw hn hl hr (f := 4) (by decide)
theorem has_6 (hn : m 6 3 = nI n) {a : Int32} : f_X5_has (mkS m kp b) 6 a = some (if 0 ≤ a ∧ a < nI n then 1 else 0) := has_gen (σ := mkS m kp b) io_6 hn
theorem full_6 (hm : m 6 1 = nI 24) (hn : m 6 3 = nI n) (hl : n ≤ 24) : f_X5_isFull (mkS m kp b) 6 = some (if n < 24 then 0 else 1) := full_gen (σ := mkS m kp b) io_6 hn hm (by omega) (by decide)
theorem add_6 (hw : m 6 0 = nI 5) (hm : m 6 1 = nI 24) (hn : m 6 3 = nI n) (hl : n < 24) : f_X5_add (mkS m kp b) 6 = some (nI n, mkS (st1 (zrow m 7 (n * 5) 5) 6 3 (nI (n + 1))) kp b) := add_gen (fun _ => io_6) (fun _ => gq_6_2) (fun _ => al_7) (by decide) hw hm hn hl (by decide) (by decide) (by decide) (by decide)
theorem clear_6 : f_X5_clear (mkS m kp b) 6 = some (mkS (st1 m 6 3 0) kp b) := by
  unfold f_X5_clear
  rw [if_pos io_6, pI_6]
  rfl
theorem at_9 (hw : m 9 0 = nI 3) (hn : m 9 3 = nI n) (hl : n ≤ 20) {r f : Nat} (hr : r < n) (hf : f < 3) : f_X5_at (mkS m kp b) 9 (nI r) (nI f) = some (m 10 (r * 3 + f)) := at_gen (σ := mkS m kp b) io_9 gq_9_2 al_10 hw hn (by omega) (by decide) (by decide) (by omega) hr hf
theorem set_9 (hw : m 9 0 = nI 3) (hn : m 9 3 = nI n) (hl : n ≤ 20) {r f : Nat} {v : Int32} (hr : r < n) (hf : f < 3) : f_X5_set (mkS m kp b) 9 (nI r) (nI f) v = some (mkS (st1 m 10 (r * 3 + f) v) kp b) := set_gen io_9 gq_9_2 al_10 hw hn (by omega) (by decide) (by decide) (by omega) hr hf
theorem at_9_0 (hw : m 9 0 = nI 3) (hn : m 9 3 = nI n) (hl : n ≤ 20) {r : Nat} (hr : r < n) : f_X5_at (mkS m kp b) 9 (nI r) 0 = some (m 10 (r * 3 + 0)) := at_9 hw hn hl hr (f := 0) (by decide)
theorem set_9_0 (hw : m 9 0 = nI 3) (hn : m 9 3 = nI n) (hl : n ≤ 20) {r : Nat} {v : Int32} (hr : r < n) : f_X5_set (mkS m kp b) 9 (nI r) 0 v = some (mkS (st1 m 10 (r * 3 + 0) v) kp b) := set_9 hw hn hl hr (f := 0) (by decide)
theorem at_9_1 (hw : m 9 0 = nI 3) (hn : m 9 3 = nI n) (hl : n ≤ 20) {r : Nat} (hr : r < n) : f_X5_at (mkS m kp b) 9 (nI r) 1 = some (m 10 (r * 3 + 1)) := at_9 hw hn hl hr (f := 1) (by decide)
theorem set_9_1 (hw : m 9 0 = nI 3) (hn : m 9 3 = nI n) (hl : n ≤ 20) {r : Nat} {v : Int32} (hr : r < n) : f_X5_set (mkS m kp b) 9 (nI r) 1 v = some (mkS (st1 m 10 (r * 3 + 1) v) kp b) := set_9 hw hn hl hr (f := 1) (by decide)
theorem at_9_2 (hw : m 9 0 = nI 3) (hn : m 9 3 = nI n) (hl : n ≤ 20) {r : Nat} (hr : r < n) : f_X5_at (mkS m kp b) 9 (nI r) 2 = some (m 10 (r * 3 + 2)) := at_9 hw hn hl hr (f := 2) (by decide)
theorem set_9_2 (hw : m 9 0 = nI 3) (hn : m 9 3 = nI n) (hl : n ≤ 20) {r : Nat} {v : Int32} (hr : r < n) : f_X5_set (mkS m kp b) 9 (nI r) 2 v = some (mkS (st1 m 10 (r * 3 + 2) v) kp b) := set_9 hw hn hl hr (f := 2) (by decide)
theorem has_9 (hn : m 9 3 = nI n) {a : Int32} : f_X5_has (mkS m kp b) 9 a = some (if 0 ≤ a ∧ a < nI n then 1 else 0) := has_gen (σ := mkS m kp b) io_9 hn
theorem full_9 (hm : m 9 1 = nI 20) (hn : m 9 3 = nI n) (hl : n ≤ 20) : f_X5_isFull (mkS m kp b) 9 = some (if n < 20 then 0 else 1) := full_gen (σ := mkS m kp b) io_9 hn hm (by omega) (by decide)
theorem add_9 (hw : m 9 0 = nI 3) (hm : m 9 1 = nI 20) (hn : m 9 3 = nI n) (hl : n < 20) : f_X5_add (mkS m kp b) 9 = some (nI n, mkS (st1 (zrow m 10 (n * 3) 3) 9 3 (nI (n + 1))) kp b) := add_gen (fun _ => io_9) (fun _ => gq_9_2) (fun _ => al_10) (by decide) hw hm hn hl (by decide) (by decide) (by decide) (by decide)
theorem clear_9 : f_X5_clear (mkS m kp b) 9 = some (mkS (st1 m 9 3 0) kp b) := by
  unfold f_X5_clear
  rw [if_pos io_9, pI_9]
  rfl
theorem at_11 (hw : m 11 0 = nI 4) (hn : m 11 3 = nI n) (hl : n ≤ 30) {r f : Nat} (hr : r < n) (hf : f < 4) : f_X5_at (mkS m kp b) 11 (nI r) (nI f) = some (m 12 (r * 4 + f)) := at_gen (σ := mkS m kp b) io_11 gq_11_2 al_12 hw hn (by omega) (by decide) (by decide) (by omega) hr hf
theorem set_11 (hw : m 11 0 = nI 4) (hn : m 11 3 = nI n) (hl : n ≤ 30) {r f : Nat} {v : Int32} (hr : r < n) (hf : f < 4) : f_X5_set (mkS m kp b) 11 (nI r) (nI f) v = some (mkS (st1 m 12 (r * 4 + f) v) kp b) := set_gen io_11 gq_11_2 al_12 hw hn (by omega) (by decide) (by decide) (by omega) hr hf
theorem at_11_0 (hw : m 11 0 = nI 4) (hn : m 11 3 = nI n) (hl : n ≤ 30) {r : Nat} (hr : r < n) : f_X5_at (mkS m kp b) 11 (nI r) 0 = some (m 12 (r * 4 + 0)) := at_11 hw hn hl hr (f := 0) (by decide)
theorem set_11_0 (hw : m 11 0 = nI 4) (hn : m 11 3 = nI n) (hl : n ≤ 30) {r : Nat} {v : Int32} (hr : r < n) : f_X5_set (mkS m kp b) 11 (nI r) 0 v = some (mkS (st1 m 12 (r * 4 + 0) v) kp b) := set_11 hw hn hl hr (f := 0) (by decide)
theorem at_11_1 (hw : m 11 0 = nI 4) (hn : m 11 3 = nI n) (hl : n ≤ 30) {r : Nat} (hr : r < n) : f_X5_at (mkS m kp b) 11 (nI r) 1 = some (m 12 (r * 4 + 1)) := at_11 hw hn hl hr (f := 1) (by decide)
theorem set_11_1 (hw : m 11 0 = nI 4) (hn : m 11 3 = nI n) (hl : n ≤ 30) {r : Nat} {v : Int32} (hr : r < n) : f_X5_set (mkS m kp b) 11 (nI r) 1 v = some (mkS (st1 m 12 (r * 4 + 1) v) kp b) := set_11 hw hn hl hr (f := 1) (by decide)
theorem at_11_2 (hw : m 11 0 = nI 4) (hn : m 11 3 = nI n) (hl : n ≤ 30) {r : Nat} (hr : r < n) : f_X5_at (mkS m kp b) 11 (nI r) 2 = some (m 12 (r * 4 + 2)) := at_11 hw hn hl hr (f := 2) (by decide)
theorem set_11_2 (hw : m 11 0 = nI 4) (hn : m 11 3 = nI n) (hl : n ≤ 30) {r : Nat} {v : Int32} (hr : r < n) : f_X5_set (mkS m kp b) 11 (nI r) 2 v = some (mkS (st1 m 12 (r * 4 + 2) v) kp b) := set_11 hw hn hl hr (f := 2) (by decide)
theorem at_11_3 (hw : m 11 0 = nI 4) (hn : m 11 3 = nI n) (hl : n ≤ 30) {r : Nat} (hr : r < n) : f_X5_at (mkS m kp b) 11 (nI r) 3 = some (m 12 (r * 4 + 3)) := at_11 hw hn hl hr (f := 3) (by decide)
theorem set_11_3 (hw : m 11 0 = nI 4) (hn : m 11 3 = nI n) (hl : n ≤ 30) {r : Nat} {v : Int32} (hr : r < n) : f_X5_set (mkS m kp b) 11 (nI r) 3 v = some (mkS (st1 m 12 (r * 4 + 3) v) kp b) := set_11 hw hn hl hr (f := 3) (by decide)
theorem has_11 (hn : m 11 3 = nI n) {a : Int32} : f_X5_has (mkS m kp b) 11 a = some (if 0 ≤ a ∧ a < nI n then 1 else 0) := has_gen (σ := mkS m kp b) io_11 hn
theorem full_11 (hm : m 11 1 = nI 30) (hn : m 11 3 = nI n) (hl : n ≤ 30) : f_X5_isFull (mkS m kp b) 11 = some (if n < 30 then 0 else 1) := full_gen (σ := mkS m kp b) io_11 hn hm (by omega) (by decide)
theorem add_11 (hw : m 11 0 = nI 4) (hm : m 11 1 = nI 30) (hn : m 11 3 = nI n) (hl : n < 30) : f_X5_add (mkS m kp b) 11 = some (nI n, mkS (st1 (zrow m 12 (n * 4) 4) 11 3 (nI (n + 1))) kp b) := add_gen (fun _ => io_11) (fun _ => gq_11_2) (fun _ => al_12) (by decide) hw hm hn hl (by decide) (by decide) (by decide) (by decide)
theorem clear_11 : f_X5_clear (mkS m kp b) 11 = some (mkS (st1 m 11 3 0) kp b) := by
  unfold f_X5_clear
  rw [if_pos io_11, pI_11]
  rfl
theorem at_13 (hw : m 13 0 = nI 2) (hn : m 13 3 = nI n) (hl : n ≤ 8) {r f : Nat} (hr : r < n) (hf : f < 2) : f_X5_at (mkS m kp b) 13 (nI r) (nI f) = some (m 14 (r * 2 + f)) := at_gen (σ := mkS m kp b) io_13 gq_13_2 al_14 hw hn (by omega) (by decide) (by decide) (by omega) hr hf
theorem set_13 (hw : m 13 0 = nI 2) (hn : m 13 3 = nI n) (hl : n ≤ 8) {r f : Nat} {v : Int32} (hr : r < n) (hf : f < 2) : f_X5_set (mkS m kp b) 13 (nI r) (nI f) v = some (mkS (st1 m 14 (r * 2 + f) v) kp b) := set_gen io_13 gq_13_2 al_14 hw hn (by omega) (by decide) (by decide) (by omega) hr hf
theorem at_13_0 (hw : m 13 0 = nI 2) (hn : m 13 3 = nI n) (hl : n ≤ 8) {r : Nat} (hr : r < n) : f_X5_at (mkS m kp b) 13 (nI r) 0 = some (m 14 (r * 2 + 0)) := at_13 hw hn hl hr (f := 0) (by decide)
theorem set_13_0 (hw : m 13 0 = nI 2) (hn : m 13 3 = nI n) (hl : n ≤ 8) {r : Nat} {v : Int32} (hr : r < n) : f_X5_set (mkS m kp b) 13 (nI r) 0 v = some (mkS (st1 m 14 (r * 2 + 0) v) kp b) := set_13 hw hn hl hr (f := 0) (by decide)
theorem at_13_1 (hw : m 13 0 = nI 2) (hn : m 13 3 = nI n) (hl : n ≤ 8) {r : Nat} (hr : r < n) : f_X5_at (mkS m kp b) 13 (nI r) 1 = some (m 14 (r * 2 + 1)) := at_13 hw hn hl hr (f := 1) (by decide)
theorem set_13_1 (hw : m 13 0 = nI 2) (hn : m 13 3 = nI n) (hl : n ≤ 8) {r : Nat} {v : Int32} (hr : r < n) : f_X5_set (mkS m kp b) 13 (nI r) 1 v = some (mkS (st1 m 14 (r * 2 + 1) v) kp b) := set_13 hw hn hl hr (f := 1) (by decide)
theorem has_13 (hn : m 13 3 = nI n) {a : Int32} : f_X5_has (mkS m kp b) 13 a = some (if 0 ≤ a ∧ a < nI n then 1 else 0) := has_gen (σ := mkS m kp b) io_13 hn
theorem full_13 (hm : m 13 1 = nI 8) (hn : m 13 3 = nI n) (hl : n ≤ 8) : f_X5_isFull (mkS m kp b) 13 = some (if n < 8 then 0 else 1) := full_gen (σ := mkS m kp b) io_13 hn hm (by omega) (by decide)
theorem add_13 (hw : m 13 0 = nI 2) (hm : m 13 1 = nI 8) (hn : m 13 3 = nI n) (hl : n < 8) : f_X5_add (mkS m kp b) 13 = some (nI n, mkS (st1 (zrow m 14 (n * 2) 2) 13 3 (nI (n + 1))) kp b) := add_gen (fun _ => io_13) (fun _ => gq_13_2) (fun _ => al_14) (by decide) hw hm hn hl (by decide) (by decide) (by decide) (by decide)
theorem clear_13 : f_X5_clear (mkS m kp b) 13 = some (mkS (st1 m 13 3 0) kp b) := by
  unfold f_X5_clear
  rw [if_pos io_13, pI_13]
  rfl
theorem at_15 (hw : m 15 0 = nI 1) (hn : m 15 3 = nI n) (hl : n ≤ 24) {r f : Nat} (hr : r < n) (hf : f < 1) : f_X5_at (mkS m kp b) 15 (nI r) (nI f) = some (m 16 (r * 1 + f)) := at_gen (σ := mkS m kp b) io_15 gq_15_2 al_16 hw hn (by omega) (by decide) (by decide) (by omega) hr hf
theorem set_15 (hw : m 15 0 = nI 1) (hn : m 15 3 = nI n) (hl : n ≤ 24) {r f : Nat} {v : Int32} (hr : r < n) (hf : f < 1) : f_X5_set (mkS m kp b) 15 (nI r) (nI f) v = some (mkS (st1 m 16 (r * 1 + f) v) kp b) := set_gen io_15 gq_15_2 al_16 hw hn (by omega) (by decide) (by decide) (by omega) hr hf
theorem at_15_0 (hw : m 15 0 = nI 1) (hn : m 15 3 = nI n) (hl : n ≤ 24) {r : Nat} (hr : r < n) : f_X5_at (mkS m kp b) 15 (nI r) 0 = some (m 16 (r * 1 + 0)) := at_15 hw hn hl hr (f := 0) (by decide)
theorem set_15_0 (hw : m 15 0 = nI 1) (hn : m 15 3 = nI n) (hl : n ≤ 24) {r : Nat} {v : Int32} (hr : r < n) : f_X5_set (mkS m kp b) 15 (nI r) 0 v = some (mkS (st1 m 16 (r * 1 + 0) v) kp b) := set_15 hw hn hl hr (f := 0) (by decide)
theorem has_15 (hn : m 15 3 = nI n) {a : Int32} : f_X5_has (mkS m kp b) 15 a = some (if 0 ≤ a ∧ a < nI n then 1 else 0) := has_gen (σ := mkS m kp b) io_15 hn
theorem full_15 (hm : m 15 1 = nI 24) (hn : m 15 3 = nI n) (hl : n ≤ 24) : f_X5_isFull (mkS m kp b) 15 = some (if n < 24 then 0 else 1) := full_gen (σ := mkS m kp b) io_15 hn hm (by omega) (by decide)
theorem add_15 (hw : m 15 0 = nI 1) (hm : m 15 1 = nI 24) (hn : m 15 3 = nI n) (hl : n < 24) : f_X5_add (mkS m kp b) 15 = some (nI n, mkS (st1 (zrow m 16 (n * 1) 1) 15 3 (nI (n + 1))) kp b) := add_gen (fun _ => io_15) (fun _ => gq_15_2) (fun _ => al_16) (by decide) hw hm hn hl (by decide) (by decide) (by decide) (by decide)
theorem clear_15 : f_X5_clear (mkS m kp b) 15 = some (mkS (st1 m 15 3 0) kp b) := by
  unfold f_X5_clear
  rw [if_pos io_15, pI_15]
  rfl
end TBI
