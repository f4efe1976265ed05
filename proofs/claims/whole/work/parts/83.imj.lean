/-! a State copied into the other: cells t .. t + 24 out of u .. u + 24; what of each cell is copied: places lo .. hi - 1 -/
def cpT : List (Nat × Nat) := [(0, 0), (3, 4), (0, 12), (3, 4), (0, 60), (3, 4), (0, 120), (0, 576), (3, 4), (0, 60), (3, 4), (0, 120), (3, 4), (0, 16), (3, 4), (0, 24), (1, 2), (0, 56), (0, 0), (1, 2), (0, 56), (1, 2), (0, 56), (1, 2), (0, 56)]
def cpL (x : Nat) : Nat × Nat := cpT.getD x (0, 0)
def cpM (s : Nat) (m : Nat → Nat → Int32) (t u : Nat) : Nat → Nat → Int32 := fun k j => if t + 1 ≤ k ∧ k < t + s ∧ (cpL (k - t)).1 ≤ j ∧ j < (cpL (k - t)).2 then m (u + (k - t)) j else m k j
def Two (t u : Nat) : Prop := (t = 1 ∧ u = 59) ∨ (t = 59 ∧ u = 1)
section CQ
variable {m : Nat → Nat → Int32} {b : Option Nat} {t u s x n f : Nat}
theorem Two.l (h : Two t u) : t = 1 ∨ t = 59 := by rcases h with ⟨h, -⟩ | ⟨h, -⟩ <;> omega
theorem Two.r (h : Two t u) : u = 1 ∨ u = 59 := by rcases h with ⟨-, h⟩ | ⟨-, h⟩ <;> omega
theorem Two.d (h : Two t u) : u + 24 < t ∨ t + 24 < u := by rcases h with ⟨h1, h2⟩ | ⟨h1, h2⟩ <;> omega
theorem cpM_1 : cpM 1 m t u = m := by
  funext k j
  unfold cpM
  exact if_neg (fun q => by omega)
theorem cpM_u (h : Two t u) (hs : s ≤ 25) (hx : x ≤ 24) : cpM s m t u (u + x) = m (u + x) := by
  have hd := h.d
  funext j
  unfold cpM
  exact if_neg (fun q => by omega)
theorem cpM_t (hx : s ≤ x) : cpM s m t u (t + x) = m (t + x) := by
  funext j
  unfold cpM
  exact if_neg (fun q => by omega)
theorem cpM_in (h1 : 1 ≤ x) (hx : x < s) {j : Nat} : cpM s m t u (t + x) j = if (cpL x).1 ≤ j ∧ j < (cpL x).2 then m (u + x) j else m (t + x) j := by
  unfold cpM
  rw [show t + x - t = x by omega]
  by_cases h : (cpL x).1 ≤ j ∧ j < (cpL x).2
  · rw [if_pos h, if_pos ⟨by omega, by omega, h.1, h.2⟩]
  · rw [if_neg h, if_neg (fun q => h q.2.2)]
theorem cpM_out {k : Nat} (hk : k ≤ t ∨ t + s ≤ k) : cpM s m t u k = m k := by
  funext j
  unfold cpM
  exact if_neg (fun q => by omega)
theorem cpM_mid {k s' j : Nat} (hk : k < t + s ∨ t + s' ≤ k) (hs : s ≤ s') : cpM s m t u k j = cpM s' m t u k j := by
  unfold cpM
  by_cases h : t + 1 ≤ k ∧ k < t + s ∧ (cpL (k - t)).1 ≤ j ∧ j < (cpL (k - t)).2
  · rw [if_pos h, if_pos ⟨h.1, by omega, h.2.2⟩]
  · rw [if_neg h, if_neg (fun q => h ⟨q.1, by omega, q.2.2⟩)]
theorem cp_arr (h : Two t u) (hx1 : 1 ≤ x) (hx : x ≤ 24) (h2 : cpL x = (0, n)) : upI (cpM x m t u) (t + x) (va_cpy (m (u + x)) (m (t + x)) 0 0 n) = cpM (x + 1) m t u := by
  funext k j
  by_cases e : k = t + x
  · subst e
    rw [upI_at, cpM_in hx1 (by omega), h2]
    unfold va_cpy
    by_cases hj : j < n
    · rw [if_pos ⟨by omega, by omega⟩, if_pos ⟨Nat.zero_le j, hj⟩, show 0 + (j - 0) = j by omega]
    · rw [if_neg (fun q => by omega), if_neg (fun q => hj q.2)]
  · rw [upI_ne e, cpM_mid (s := x) (s' := x + 1) (by omega) (by omega)]
theorem cp_fld (h : Two t u) (hx1 : 1 ≤ x) (hx : x + 1 ≤ 24) (h1 : cpL x = (f, f + 1)) (h2 : cpL (x + 1) = (0, n)) : st1 (upI (cpM x m t u) (t + (x + 1)) (va_cpy (m (u + (x + 1))) (m (t + (x + 1))) 0 0 n)) (t + x) f (m (u + x) f) = cpM (x + 2) m t u := by
  funext k j
  rw [st1_app]
  by_cases e : k = t + (x + 1)
  · subst e
    rw [if_neg (fun q => by omega), upI_at, cpM_in (by omega) (by omega), h2]
    unfold va_cpy
    by_cases hj : j < n
    · rw [if_pos ⟨by omega, by omega⟩, if_pos ⟨Nat.zero_le j, hj⟩, show 0 + (j - 0) = j by omega]
    · rw [if_neg (fun q => by omega), if_neg (fun q => hj q.2)]
  · rw [upI_ne e]
    by_cases e2 : k = t + x
    · subst e2
      rw [cpM_in (s := x + 2) hx1 (by omega), cpM_t (s := x) (Nat.le_refl x), h1]
      by_cases hj : j = f
      · subst hj
        rw [if_pos ⟨rfl, rfl⟩, if_pos ⟨Nat.le_refl _, Nat.lt_succ_self _⟩]
      · rw [if_neg (fun q => hj q.2), if_neg (fun q => hj (by have q1 : f ≤ j := q.1; have q2 : j < f + 1 := q.2; omega))]
    · rw [if_neg (fun q => e2 q.1), cpM_mid (s := x) (s' := x + 2) (by omega) (by omega)]
/-! the cells of a State, now or kept -/
theorem oT {c : Nat} {T : Nat} (hT : T = 1 ∨ T = 59) (hx : x ≤ 24) (h1 : lay (1 + x) = .inl c) (h2 : lay (59 + x) = .inl c) : isO (mkS m true b) c (T + x) = true := by
  rcases hT with rfl | rfl
  · exact isO_mk1 (by omega) h1
  · exact isO_mk1 (by omega) h2
theorem aT {ty : Nat} {T : Nat} (hT : T = 1 ∨ T = 59) (hx : x ≤ 24) (h1 : lay (1 + x) = .inr (ty, n)) (h2 : lay (59 + x) = .inr (ty, n)) : arL (mkS m true b) ty (T + x) = some n := by
  rcases hT with rfl | rfl
  · exact arL_mk1 (by omega) h1
  · exact arL_mk1 (by omega) h2
def stT : List (Nat × Nat × Nat) := [(0, 0, 1), (0, 1, 3), (0, 2, 5), (0, 3, 7), (0, 4, 8), (0, 5, 10), (0, 6, 12), (0, 7, 14), (0, 8, 16), (0, 9, 18), (1, 2, 2), (3, 2, 4), (5, 2, 6), (8, 2, 9), (10, 2, 11), (12, 2, 13), (14, 2, 15), (16, 0, 17), (18, 0, 19), (18, 1, 21), (18, 2, 23), (19, 0, 20), (21, 0, 22), (23, 0, 24)]
set_option maxRecDepth 100000 in
theorem st_tab : ∀ q ∈ stT, RF1 (1 + q.1) q.2.1 = some (1 + q.2.2) ∧ RF1 (59 + q.1) q.2.1 = some (59 + q.2.2) := by decide +kernel
theorem rT {T y : Nat} (hT : T = 1 ∨ T = 59) (hx : x ≤ 24) (h : RF1 (1 + x) f = some (1 + y) ∧ RF1 (59 + x) f = some (59 + y)) : (mkS m true b).2.1 (T + x) f = some (T + y) := by
  rw [mk_rf]
  unfold rfF
  rw [if_neg (fun q => by omega), if_pos rfl]
  rcases hT with rfl | rfl
  · exact h.1
  · exact h.2
theorem gT {T y c : Nat} (hT : T = 1 ∨ T = 59) (hx : x ≤ 24) (h1 : lay (1 + x) = .inl c) (h2 : lay (59 + x) = .inl c) (h : RF1 (1 + x) f = some (1 + y) ∧ RF1 (59 + x) f = some (59 + y)) : gQ (mkS m true b) c (T + x) f = some (T + y) := (gQ_of (oT hT hx h1 h2)).trans (rT hT hx h)
theorem tq {i : Nat} {q : Nat × Nat × Nat} (h : stT[i]? = some q) : RF1 (1 + q.1) q.2.1 = some (1 + q.2.2) ∧ RF1 (59 + q.1) q.2.1 = some (59 + q.2.2) := st_tab q (List.mem_of_getElem? h)
theorem cp_gen {ty k k2 : Nat} (h0 : arL (mkS m true b) ty k = some n) (h1 : arL (mkS m true b) ty k2 = some n) (hn : n < 2 ^ 31) (hf : ty = 0 ∨ ∀ i, i < n → fits .byte (.int (m k i)) = true) : cp (mkS m true b) ty k 0 k2 0 (nI n) = some (mkS (upI m k2 (va_cpy (m k) (m k2) 0 0 n)) true b) := by
  unfold cp
  have c0 : (0 : Int32).toNatClampNeg = 0 := by decide
  rw [h0, Option.bind_some, h1, Option.bind_some, c0, nI_clamp hn, if_pos ⟨by decide, by decide, nI_pos' hn, by omega, by omega, hf.imp id (fun h i hi => by
    show fits .byte (.int (m k (0 + i))) = true
    rw [Nat.zero_add]
    exact h i hi)⟩]
  rfl
/-- a Table copied -/
theorem c5_at (h : Two t u) (hx1 : 1 ≤ x) (hx : x + 1 ≤ 24) (hn : n < 2 ^ 31) (h1 : cpL x = (3, 4)) (h2 : cpL (x + 1) = (0, n)) (l1 : lay (1 + x) = .inl 4) (l2 : lay (59 + x) = .inl 4) (a1 : lay (1 + (x + 1)) = .inr (0, n)) (a2 : lay (59 + (x + 1)) = .inr (0, n)) (r : RF1 (1 + x) 2 = some (1 + (x + 1)) ∧ RF1 (59 + x) 2 = some (59 + (x + 1))) : f_X5_copyFrom (mkS (cpM x m t u) true b) (t + x) (u + x) = some (mkS (cpM (x + 2) m t u) true b) := by
  have e1 : gQ (mkS (cpM x m t u) true b) 4 (u + x) 2 = some (u + (x + 1)) := gT h.r (by omega) l1 l2 r
  have e2 : gQ (mkS (cpM x m t u) true b) 4 (t + x) 2 = some (t + (x + 1)) := gT h.l (by omega) l1 l2 r
  have e3 : aL (mkS (cpM x m t u) true b) 0 (t + (x + 1)) = some (nI n) := aL_of (aT h.l (by omega) a1 a2)
  have e4 : aL (mkS (cpM x m t u) true b) 0 (u + (x + 1)) = some (nI n) := aL_of (aT h.r (by omega) a1 a2)
  have e5 := cp_gen (m := cpM x m t u) (b := b) (k := u + (x + 1)) (k2 := t + (x + 1)) (aT h.r (by omega) a1 a2) (aT h.l (by omega) a1 a2) hn (Or.inl rfl)
  rw [cpM_u h (by omega) (by omega), cpM_t (by omega)] at e5
  have e6 : gI (mkS (upI (cpM x m t u) (t + (x + 1)) (va_cpy (m (u + (x + 1))) (m (t + (x + 1))) 0 0 n)) true b) 4 (u + x) 3 = some (m (u + x) 3) := by
    have hd := h.d
    rw [gI_of (oT h.r (by omega) l1 l2)]
    show some (upI (cpM x m t u) (t + (x + 1)) _ (u + x) 3) = _
    rw [upI_ne (by omega), cpM_u h (by omega) (by omega)]
  unfold f_X5_copyFrom f_J9_min_7cf53
  rw [if_pos (oT h.l (by omega) l1 l2), e1, Option.bind_some, e2, Option.bind_some, Option.bind_some, e3, Option.bind_some, Option.bind_some, e4, Option.bind_some, ite_self, Option.bind_some, e5, Option.bind_some, e6, Option.bind_some, pI_of (oT h.l (by omega) l1 l2), Option.bind_some, cp_fld (f := 3) h hx1 hx h1 h2]
/-- Bytes copied -/
theorem c1_at (h : Two t u) (hx1 : 1 ≤ x) (hx : x + 1 ≤ 24) (hf : ∀ i, i < 56 → fits .byte (.int (m (u + (x + 1)) i)) = true) (h1 : cpL x = (1, 2)) (h2 : cpL (x + 1) = (0, 56)) (l1 : lay (1 + x) = .inl 0) (l2 : lay (59 + x) = .inl 0) (a1 : lay (1 + (x + 1)) = .inr (1, 56)) (a2 : lay (59 + (x + 1)) = .inr (1, 56)) (r : RF1 (1 + x) 0 = some (1 + (x + 1)) ∧ RF1 (59 + x) 0 = some (59 + (x + 1))) : f_X1_copyFrom (mkS (cpM x m t u) true b) (t + x) (u + x) = some (mkS (cpM (x + 2) m t u) true b) := by
  have e1 : gQ (mkS (cpM x m t u) true b) 0 (u + x) 0 = some (u + (x + 1)) := gT h.r (by omega) l1 l2 r
  have e2 : gQ (mkS (cpM x m t u) true b) 0 (t + x) 0 = some (t + (x + 1)) := gT h.l (by omega) l1 l2 r
  have e5 := cp_gen (m := cpM x m t u) (b := b) (n := 56) (k := u + (x + 1)) (k2 := t + (x + 1)) (aT h.r (by omega) a1 a2) (aT h.l (by omega) a1 a2) (by decide) (Or.inr (fun i hi => by rw [cpM_u h (by omega) (by omega)]; exact hf i hi))
  rw [cpM_u h (by omega) (by omega), cpM_t (by omega), show nI 56 = (56 : Int32) from rfl] at e5
  have e6 : gI (mkS (upI (cpM x m t u) (t + (x + 1)) (va_cpy (m (u + (x + 1))) (m (t + (x + 1))) 0 0 56)) true b) 0 (u + x) 1 = some (m (u + x) 1) := by
    have hd := h.d
    rw [gI_of (oT h.r (by omega) l1 l2)]
    show some (upI (cpM x m t u) (t + (x + 1)) _ (u + x) 1) = _
    rw [upI_ne (by omega), cpM_u h (by omega) (by omega)]
  unfold f_X1_copyFrom
  rw [if_pos (oT h.l (by omega) l1 l2), e1, Option.bind_some, e2, Option.bind_some, e5, Option.bind_some, e6, Option.bind_some, pI_of (oT h.l (by omega) l1 l2), Option.bind_some, cp_fld (f := 1) h hx1 hx h1 h2]
end CQ
