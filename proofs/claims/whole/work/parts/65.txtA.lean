/-! texts: the spec's own properties -/
section TA
variable {B : Nat → Int32} {s : Nat}
theorem nx_m1 {st : PSt} (h : nx B s st ≠ -1) : st.2.1 = false ∧ st.1 < s := by
  unfold nx at h
  by_cases h1 : st.2.1 = true
  · rw [if_pos h1] at h; exact absurd rfl h
  · rw [if_neg h1] at h
    by_cases h2 : st.1 < s
    · exact ⟨Bool.eq_false_iff.mpr h1, h2⟩
    · rw [if_neg h2] at h; exact absurd rfl h
theorem nx_f {st : PSt} (h : st.2.1 = true) : nx B s st = -1 := by unfold nx; rw [if_pos h]
theorem nx_e {st : PSt} (h : s ≤ st.1) : nx B s st = -1 := by
  unfold nx
  by_cases h1 : st.2.1 = true
  · rw [if_pos h1]
  · rw [if_neg h1, if_neg (by omega)]
theorem lvl_m1 : lvl (-1) = -1 := by decide
/-- a reader goes on, not back; it stays where it failed; its code is no longer than what it read -/
def Gd1 (B : Nat → Int32) (s : Nat) (p : PSt → PR) : Prop := ∀ st, st.1 ≤ s → st.1 + (p st).2.1.length ≤ (p st).1.1 ∧ (p st).1.1 ≤ s ∧ (st.2.1 = true → (p st).1 = st ∧ (p st).2.1 = [])
theorem em_len {fl : Bool} {c : Int32} : (em fl c).length ≤ 1 := by unfold em; cases fl <;> simp
theorem lp_g {p : PSt → PR} {l : Int32} (hl : l ≠ -1) (hp : Gd1 B s p) : ∀ k (r : PR), r.1.1 ≤ s → r.1.1 + (lp B s p l k r).2.1.length ≤ (lp B s p l k r).1.1 + r.2.1.length ∧ r.1.1 ≤ (lp B s p l k r).1.1 ∧ (lp B s p l k r).1.1 ≤ s ∧ (r.1.2.1 = true → lp B s p l k r = r)
  | 0, r, h => ⟨by unfold lp; omega, by unfold lp; omega, by unfold lp; exact h, fun _ => rfl⟩
  | k + 1, r, h => by
    unfold lp
    by_cases hc : lvl (nx B s r.1) = l
    · rw [if_pos hc]
      have hn : nx B s r.1 ≠ -1 := fun q => hl (by rw [← hc, q, lvl_m1])
      obtain ⟨n1, n2⟩ := nx_m1 hn
      obtain ⟨g1, g2, g3⟩ := hp (r.1.1 + 1, r.1.2.1, r.1.2.2 + 1) (by show r.1.1 + 1 ≤ s; omega)
      have e1 := em_len (fl := (p (r.1.1 + 1, r.1.2.1, r.1.2.2 + 1)).1.2.1) (c := opc (nx B s r.1))
      obtain ⟨q1, q2, q3, q4⟩ := lp_g hl hp k ((p (r.1.1 + 1, r.1.2.1, r.1.2.2 + 1)).1, r.2.1 ++ (p (r.1.1 + 1, r.1.2.1, r.1.2.2 + 1)).2.1 ++ em (p (r.1.1 + 1, r.1.2.1, r.1.2.2 + 1)).1.2.1 (opc (nx B s r.1)), fun e => jnv (nx B s r.1) (r.2.2 e) ((p (r.1.1 + 1, r.1.2.1, r.1.2.2 + 1)).2.2 e)) g2
      simp only [List.length_append] at q1
      dsimp only at q1 q2 g1
      exact ⟨by omega, by omega, q3, fun q => by rw [n1] at q; cases q⟩
    · rw [if_neg hc]
      exact ⟨Nat.le_refl _, Nat.le_refl _, h, fun _ => rfl⟩
theorem lev_g {p : PSt → PR} {l : Int32} (hl : l ≠ -1) (hp : Gd1 B s p) : Gd1 B s (lev B s l p) := by
  intro st h
  obtain ⟨g1, g2, g3⟩ := hp st h
  obtain ⟨q1, q2, q3, q4⟩ := lp_g hl hp (if l = 1 then 1 else 56) (p st) g2
  unfold lev
  refine ⟨by omega, q3, fun q => ?_⟩
  obtain ⟨e1, e2⟩ := g3 q
  rw [q4 (by rw [e1]; exact q)]
  exact ⟨e1, e2⟩
theorem j0_g {p : PSt → PR} (hp : Gd1 B s p) : Gd1 B s (j0 B s p) := lev_g (by decide) (lev_g (by decide) (lev_g (by decide) (lev_g (by decide) hp)))
theorem wnt_g {st : PSt} {c : Int32} (hc : c ≠ -1) (h : st.1 ≤ s) : st.1 ≤ (wnt B s c st).1 ∧ (wnt B s c st).1 ≤ s ∧ (st.2.1 = true → wnt B s c st = st) ∧ ((wnt B s c st).2.1 = false → st.1 + 1 ≤ (wnt B s c st).1) := by
  unfold wnt
  by_cases e : nx B s st = c
  · rw [if_pos e]
    obtain ⟨n1, n2⟩ := nx_m1 (B := B) (s := s) (st := st) (by rw [e]; exact hc)
    exact ⟨by show st.1 ≤ st.1 + 1; omega, by show st.1 + 1 ≤ s; omega, fun q => (by rw [n1] at q; cases q), fun _ => Nat.le_refl _⟩
  · rw [if_neg e]
    refine ⟨Nat.le_refl _, h, fun q => ?_, fun q => (by cases q)⟩
    obtain ⟨a, f, g⟩ := st
    show (a, true, g) = (a, f, g)
    rw [show f = true from q]
theorem ch_g {p : PSt → PR} (hp : Gd1 B s p) : Gd1 B s (ch B s p) := by
  intro st h
  have hj := j0_g hp
  obtain ⟨g1, g2, g3⟩ := hj st h
  unfold ch ch2
  by_cases e : nx B s (j0 B s p st).1 = 63
  · rw [if_pos e]
    obtain ⟨n1, n2⟩ := nx_m1 (B := B) (s := s) (st := (j0 B s p st).1) (by rw [e]; decide)
    obtain ⟨a1, a2, a3⟩ := hj ((j0 B s p st).1.1 + 1, (j0 B s p st).1.2.1, (j0 B s p st).1.2.2 + 1) (by show _ + 1 ≤ s; omega)
    generalize j0 B s p ((j0 B s p st).1.1 + 1, (j0 B s p st).1.2.1, (j0 B s p st).1.2.2 + 1) = r2 at *
    generalize j0 B s p st = r at *
    dsimp only at a1
    obtain ⟨w1, w2, w3, w4⟩ := wnt_g (B := B) (s := s) (st := r2.1) (c := 58) (by decide) a2
    generalize wnt B s 58 r2.1 = st3 at *
    unfold ch3
    have nof : st.2.1 = true → False := fun q => by
      have := (g3 q).1
      rw [this] at n1
      rw [n1] at q
      cases q
    by_cases f3 : st3.2.1 = true
    · rw [if_pos f3]
      refine ⟨?_, w2, fun q => (nof q).elim⟩
      simp only [List.length_append]
      omega
    · rw [if_neg f3]
      obtain ⟨b1, b2, b3⟩ := hj st3 w2
      generalize j0 B s p st3 = r3 at *
      have e1 := em_len (fl := r3.1.2.1) (c := 20011)
      refine ⟨?_, b2, fun q => (nof q).elim⟩
      simp only [List.length_append]
      omega
  · rw [if_neg e]
    exact ⟨g1, g2, g3⟩
theorem num_g : ∀ k (st : PSt) (v : Int32), st.1 ≤ s → st.1 ≤ (num B s k st v).1.1 ∧ (num B s k st v).1.1 ≤ s ∧ (st.2.1 = false → (num B s k st v).1.2.1 = false)
  | 0, st, v, h => ⟨Nat.le_refl _, h, fun q => q⟩
  | k + 1, st, v, h => by
    unfold num
    by_cases hd : 48 ≤ nx B s st ∧ nx B s st ≤ 57
    · rw [if_pos hd]
      obtain ⟨n1, n2⟩ := nx_m1 (B := B) (s := s) (st := st) (fun q => by rw [q] at hd; exact absurd hd.1 (by decide))
      obtain ⟨q1, q2, q3⟩ := num_g k (st.1 + 1, st.2.1, st.2.2) (v * 10 + nx B s st - 48) (by show st.1 + 1 ≤ s; omega)
      dsimp only at q1
      exact ⟨by omega, q2, q3⟩
    · rw [if_neg hd]
      exact ⟨Nat.le_refl _, h, fun q => q⟩
theorem num_1 {st : PSt} {v : Int32} (h : st.1 ≤ s) (hd : 48 ≤ nx B s st ∧ nx B s st ≤ 57) : st.1 + 1 ≤ (num B s 4 st v).1.1 := by
  unfold num
  rw [if_pos hd]
  obtain ⟨n1, n2⟩ := nx_m1 (B := B) (s := s) (st := st) (fun q => by rw [q] at hd; exact absurd hd.1 (by decide))
  exact (num_g 3 (st.1 + 1, st.2.1, st.2.2) _ (by show st.1 + 1 ≤ s; omega)).1
theorem nmi_m1 (u : Nat) : nmi u (-1) = none := by
  unfold nmi
  match u with
  | 0 => decide
  | 1 => decide
  | _ + 2 =>
    show (if (-1 : Int32) = 104 then some 0 else if (-1 : Int32) = 112 then some 1 else if (-1 : Int32) = 100 then some 2 else none) = (none : Option Nat)
    decide
theorem unA_g {u : Nat} {st : PSt} {z : PR} (h : st.1 ≤ s) (hz : st.1 + z.2.1.length ≤ z.1.1 ∧ z.1.1 ≤ s ∧ (st.2.1 = true → z.1 = st ∧ z.2.1 = [])) : st.1 + (unA B s u st z).2.1.length ≤ (unA B s u st z).1.1 ∧ (unA B s u st z).1.1 ≤ s ∧ (st.2.1 = true → (unA B s u st z).1 = st ∧ (unA B s u st z).2.1 = []) := by
  unfold unA
  by_cases hd : 48 ≤ nx B s st ∧ nx B s st ≤ 57
  · rw [if_pos hd]
    obtain ⟨n1, n2⟩ := nx_m1 (B := B) (s := s) (st := st) (fun q => by rw [q] at hd; exact absurd hd.1 (by decide))
    obtain ⟨q1, q2, q3⟩ := num_g (B := B) (s := s) 4 st 0 h
    have := num_1 (v := 0) h hd
    unfold unN
    exact ⟨this, q2, fun q => by rw [n1] at q; cases q⟩
  · rw [if_neg hd]
    cases e : nmi u (nx B s st) with
    | none => exact hz
    | some i =>
      have hn : nx B s st ≠ -1 := fun q => by rw [q, nmi_m1] at e; cases e
      obtain ⟨n1, n2⟩ := nx_m1 hn
      unfold unM
      exact ⟨Nat.le_refl _, by show st.1 + 1 ≤ s; omega, fun q => by rw [n1] at q; cases q⟩
theorem unF_g {st : PSt} (h : st.1 ≤ s) : st.1 + (unF st).2.1.length ≤ (unF st).1.1 ∧ (unF st).1.1 ≤ s ∧ (st.2.1 = true → (unF st).1 = st ∧ (unF st).2.1 = []) := by
  unfold unF
  refine ⟨Nat.le_refl _, h, fun q => ⟨?_, rfl⟩⟩
  obtain ⟨a, f, g⟩ := st
  show (a, true, g) = (a, f, g)
  rw [show f = true from q]
theorem un_g {u : Nat} : ∀ d, Gd1 B s (un B s u d)
  | 0 => fun st h => by
    unfold un
    exact unA_g h (unF_g h)
  | d + 1 => fun st h => by
    unfold un
    refine unA_g h ?_
    have ih := un_g (u := u) d
    by_cases e : nx B s st = 45
    · rw [if_pos e]
      obtain ⟨n1, n2⟩ := nx_m1 (B := B) (s := s) (st := st) (by rw [e]; decide)
      obtain ⟨g1, g2, g3⟩ := ih (st.1 + 1, st.2.1, st.2.2 + 1) (by show st.1 + 1 ≤ s; omega)
      have e1 := em_len (fl := (un B s u d (st.1 + 1, st.2.1, st.2.2 + 1)).1.2.1) (c := 20010)
      dsimp only at g1
      refine ⟨?_, g2, fun q => by rw [n1] at q; cases q⟩
      simp only [List.length_append]
      omega
    · rw [if_neg e]
      by_cases e2 : nx B s st = 40
      · rw [if_pos e2]
        obtain ⟨n1, n2⟩ := nx_m1 (B := B) (s := s) (st := st) (by rw [e2]; decide)
        obtain ⟨g1, g2, g3⟩ := ch_g ih (st.1 + 1, st.2.1, st.2.2) (by show st.1 + 1 ≤ s; omega)
        obtain ⟨w1, w2, w3, w4⟩ := wnt_g (B := B) (s := s) (st := (ch B s (un B s u d) (st.1 + 1, st.2.1, st.2.2)).1) (c := 41) (by decide) g2
        dsimp only at g1 ⊢
        exact ⟨by omega, w2, fun q => by rw [n1] at q; cases q⟩
      · rw [if_neg e2]
        exact unF_g h
end TA
/-! texts: the class's reader -/
def rS (m : Nat → Nat → Int32) (st : PSt) : Nat → Nat → Int32 := st1 (st1 (st1 m 26 5 (nI st.1)) 26 6 (nI st.2.2)) 26 7 (if st.2.1 = true then 1 else 0)
def RdC (m : Nat → Nat → Int32) (q s u : Nat) (B : Nat → Int32) (e : Nat → Int32) : Prop := (q = 17 ∨ q = 20 ∨ q = 22 ∨ q = 24) ∧ s ≤ 56 ∧ m q 1 = nI s ∧ (∀ k, k < 56 → m (q + 1) k &&& 255 = B k) ∧ m 26 1 = nI u ∧ u < 3 ∧ m 26 2 = e 0 ∧ m 26 3 = e 1 ∧ m 26 4 = e 2
section TB2
variable {m : Nat → Nat → Int32} {kp : Bool} {q s u : Nat} {B e : Nat → Int32}
theorem rS_5 {st : PSt} : rS m st 26 5 = nI st.1 := by unfold rS; rw [st1_nf (by decide), st1_nf (by decide), st1_eq]
theorem rS_6 {st : PSt} : rS m st 26 6 = nI st.2.2 := by unfold rS; rw [st1_nf (by decide), st1_eq]
theorem rS_7 {st : PSt} : rS m st 26 7 = if st.2.1 = true then 1 else 0 := by unfold rS; rw [st1_eq]
theorem rS_o {st : PSt} {f : Nat} (h : f < 5) : rS m st 26 f = m 26 f := by unfold rS; rw [st1_nf (by omega), st1_nf (by omega), st1_nf (by omega)]
theorem rS_ne {st : PSt} {k : Nat} (h : k ≠ 26) : rS m st k = m k := by unfold rS; rw [st1_ne h, st1_ne h, st1_ne h]
theorem rS_s5 {st : PSt} : st1 (rS m st) 26 5 (nI (st.1 + 1)) = rS m (st.1 + 1, st.2.1, st.2.2) := by
  unfold rS
  funext q j
  simp only [st1_app]
  repeat' split
  all_goals first | rfl | (exfalso; omega)
theorem rS_s6 {st : PSt} : st1 (rS m st) 26 6 (nI (st.2.2 + 1)) = rS m (st.1, st.2.1, st.2.2 + 1) := by
  unfold rS
  funext q j
  simp only [st1_app]
  repeat' split
  all_goals first | rfl | (exfalso; omega)
theorem rS_s7 {st : PSt} : st1 (rS m st) 26 7 1 = rS m (st.1, true, st.2.2) := by
  unfold rS
  funext q j
  simp only [st1_app]
  repeat' split
  all_goals first | rfl | (exfalso; omega) | contradiction
theorem gIq (h : RdC m q s u B e) {M : Nat → Nat → Int32} {f : Nat} : gI (mkS M kp (some q)) 0 q f = some (M q f) := by
  rcases h.1 with rfl | rfl | rfl | rfl
  · exact gI_17
  · exact gI_20
  · exact gI_22
  · exact gI_24
theorem gQq (h : RdC m q s u B e) {M : Nat → Nat → Int32} : gQ (mkS M kp (some q)) 0 q 0 = some (q + 1) := by
  rcases h.1 with rfl | rfl | rfl | rfl
  · exact gq_17_0
  · exact gq_20_0
  · exact gq_22_0
  · exact gq_24_0
theorem aIq (h : RdC m q s u B e) {M : Nat → Nat → Int32} {k : Nat} (hk : k < 56) : aI (mkS M kp (some q)) 1 (q + 1) (nI k) = some (M (q + 1) k) := by
  rcases h.1 with rfl | rfl | rfl | rfl
  · exact rd_18 hk
  · exact rd_21 hk
  · exact rd_23 hk
  · exact rd_25 hk
theorem next7 (h : RdC m q s u B e) {st : PSt} (hst : st.1 ≤ s) : f_X2_next (mkS (rS m st) kp (some q)) 26 = some (nx B s st) := by
  have hs := h.2.1
  have hq26 : q ≠ 26 := by have := h.1; omega
  have hq27 : q + 1 ≠ 26 := by have := h.1; omega
  unfold f_X2_next nx
  rw [if_pos io_26, gI_26, Option.bind_some, rS_7]
  by_cases hf : st.2.1 = true
  · rw [if_pos hf, if_neg (show ¬ (1 : Int32) = 0 by decide), if_pos hf]
  · rw [if_neg hf, if_pos rfl, if_neg hf, gr_26, Option.bind_some, if_neg (by simp), gI_26, Option.bind_some, gq_26, Option.bind_some, gIq h, Option.bind_some, rS_5, rS_ne hq26, h.2.2.1]
    by_cases hl : st.1 < s
    · rw [if_neg (nI_ge hl (by omega)), if_pos hl, Option.bind_some, if_pos (show nI st.1 < 56 from nI_lt (b := 56) (by omega) (by decide)), Option.bind_some, gQq h, Option.bind_some, Option.bind_some, aIq h (show st.1 < 56 by omega), Option.bind_some, rS_ne hq27, h.2.2.2.1 _ (by omega)]
    · rw [if_pos (nI_le (by omega) (by omega)), if_neg hl]
theorem takes7 (h : RdC m q s u B e) {st : PSt} {c : Int32} (hst : st.1 ≤ s) : f_X2_takes (mkS (rS m st) kp (some q)) 26 c = if nx B s st = c then some (1, mkS (rS m (st.1 + 1, st.2.1, st.2.2)) kp (some q)) else some (0, mkS (rS m st) kp (some q)) := by
  unfold f_X2_takes
  rw [if_pos io_26, next7 h hst, Option.bind_some, gI_26, Option.bind_some, pI_26, Option.bind_some, rS_5, nI_a1, rS_s5]
theorem wants7 (h : RdC m q s u B e) {st : PSt} {c : Int32} (hst : st.1 ≤ s) : f_X2_wants (mkS (rS m st) kp (some q)) 26 c = some (mkS (rS m (wnt B s c st)) kp (some q)) := by
  unfold f_X2_wants wnt
  rw [if_pos io_26, takes7 h hst]
  by_cases hc : nx B s st = c
  · rw [if_pos hc, if_pos hc, Option.bind_some, if_neg (show ¬ (1 : Int32) = 0 by decide)]
  · rw [if_neg hc, if_neg hc, Option.bind_some, if_pos rfl, pZ_26, if_pos (Or.inr rfl), Option.bind_some, rS_s7]
theorem level7 {σ : St} {c : Int32} : f_X2_levelOf σ c = some (lvl c) := by
  unfold f_X2_levelOf lvl
  repeat' split
  all_goals rfl
theorem join7 {σ : St} {c x y : Int32} : f_X2_join σ c x y = some (jnv c x y) := by
  unfold f_X2_join jnv ne0
  repeat' split
  all_goals first | rfl | contradiction
/-- a reader of the class does what the spec says -/
def Cmp7 (m : Nat → Nat → Int32) (kp : Bool) (q s : Nat) (e : Nat → Int32) (F : St → Option (Int32 × St)) (p : PSt → PR) : Prop := ∀ st, st.1 ≤ s → F (mkS (rS m st) kp (some q)) = some ((p st).2.2 e, mkS (rS m (p st).1) kp (some q))
theorem join_l {n : Nat} {l : Int32} {o : Int32} {p : PSt → PR} (h : RdC m q s u B e) (hl : l ≠ -1) (h4 : l < 4) (hp : Gd1 B s p) (hC : Cmp7 m kp q s e (rc_X2_choice 26 n 1 [l + 1, o]) p) : Cmp7 m kp q s e (rc_X2_choice 26 (n + 1) 1 [l, o]) (lev B s l p) := by
  have loop : ∀ k i f (r : PR), i + k = (if l = 1 then 1 else 56) → k < f → r.1.1 ≤ s → f_X2_joined_L36 (rc_X2_choice 26 n) (if l = 1 then 1 else 56 : Int32) 26 l o f (nI i) (r.2.2 e) (mkS (rS m r.1) kp (some q)) = some (nI (i + k), (lp B s p l k r).2.2 e, mkS (rS m (lp B s p l k r).1) kp (some q)) ∨ ∃ y, f_X2_joined_L36 (rc_X2_choice 26 n) (if l = 1 then 1 else 56 : Int32) 26 l o f (nI i) (r.2.2 e) (mkS (rS m r.1) kp (some q)) = some (y, (lp B s p l k r).2.2 e, mkS (rS m (lp B s p l k r).1) kp (some q)) := by
    intro k
    have hK : (if l = 1 then 1 else 56 : Int32) = nI (if l = 1 then 1 else 56) := by split <;> rfl
    have hK2 : (if l = 1 then 1 else 56 : Nat) ≤ 56 := by split <;> omega
    induction k with
    | zero =>
      intro i f r h1 h2 h3
      obtain ⟨f, rfl⟩ : ∃ q, f = q + 1 := ⟨f - 1, by omega⟩
      refine Or.inl ?_
      rw [f_X2_joined_L36, hK, if_pos (nI_le (by omega) (by omega))]
      rfl
    | succ k ih =>
      intro i f r h1 h2 h3
      obtain ⟨f, rfl⟩ : ∃ q, f = q + 1 := ⟨f - 1, by omega⟩
      refine Or.inr ?_
      rw [f_X2_joined_L36, hK, if_neg (nI_ge (by omega) (by omega)), next7 h h3, Option.bind_some, level7, Option.bind_some]
      have el : lp B s p l (k + 1) r = if lvl (nx B s r.1) = l then lp B s p l k ((p (r.1.1 + 1, r.1.2.1, r.1.2.2 + 1)).1, r.2.1 ++ (p (r.1.1 + 1, r.1.2.1, r.1.2.2 + 1)).2.1 ++ em (p (r.1.1 + 1, r.1.2.1, r.1.2.2 + 1)).1.2.1 (opc (nx B s r.1)), fun e => jnv (nx B s r.1) (r.2.2 e) ((p (r.1.1 + 1, r.1.2.1, r.1.2.2 + 1)).2.2 e)) else r := rfl
      rw [el]
      by_cases hc : lvl (nx B s r.1) = l
      · rw [if_pos hc, if_pos hc, Option.bind_some]
        have hn : nx B s r.1 ≠ -1 := fun y => hl (by rw [← hc, y, lvl_m1])
        obtain ⟨n1, n2⟩ := nx_m1 hn
        have hle : (r.1.1 + 1, r.1.2.1, r.1.2.2 + 1).1 ≤ s := by show r.1.1 + 1 ≤ s; omega
        have s6 : st1 (rS m (r.1.1 + 1, r.1.2.1, r.1.2.2)) 26 6 (nI (r.1.2.2 + 1)) = rS m (r.1.1 + 1, r.1.2.1, r.1.2.2 + 1) := rS_s6 (st := (r.1.1 + 1, r.1.2.1, r.1.2.2))
        have v6 : rS m (r.1.1 + 1, r.1.2.1, r.1.2.2) 26 6 = nI r.1.2.2 := rS_6
        rw [gI_26, Option.bind_some, rS_5, nI_a1, pI_26, Option.bind_some, rS_s5, gI_26, Option.bind_some, v6, nI_a1, pI_26, Option.bind_some, s6, hC _ hle, Option.bind_some, join7, Option.bind_some, nI_a1]
        dsimp only
        have hg := hp _ hle
        rcases ih (i + 1) f ((p (r.1.1 + 1, r.1.2.1, r.1.2.2 + 1)).1, r.2.1 ++ (p (r.1.1 + 1, r.1.2.1, r.1.2.2 + 1)).2.1 ++ em (p (r.1.1 + 1, r.1.2.1, r.1.2.2 + 1)).1.2.1 (opc (nx B s r.1)), fun e => jnv (nx B s r.1) (r.2.2 e) ((p (r.1.1 + 1, r.1.2.1, r.1.2.2 + 1)).2.2 e)) (by omega) (by omega) hg.2.1 with hh | ⟨y, hh⟩
        · rw [hK] at hh
          exact ⟨_, hh⟩
        · rw [hK] at hh
          exact ⟨y, hh⟩
      · rw [if_neg hc, if_neg hc]
        exact ⟨_, rfl⟩
  intro st hst
  show f_X2_joined (rc_X2_choice 26 n) (mkS (rS m st) kp (some q)) 26 l o = _
  unfold f_X2_joined
  rw [if_pos io_26, if_pos h4, hC st hst, Option.bind_some]
  have hg := hp st hst
  dsimp only
  rcases loop (if l = 1 then 1 else 56) 0 3000 (p st) (by omega) (by split <;> omega) hg.2.1 with hh | ⟨y, hh⟩
  · rw [nI_0] at hh
    rw [hh]
    rfl
  · rw [nI_0] at hh
    rw [hh]
    rfl
theorem join_4 {n : Nat} {o : Int32} {p : PSt → PR} (hC : Cmp7 m kp q s e (rc_X2_choice 26 n 2 [o]) p) : Cmp7 m kp q s e (rc_X2_choice 26 (n + 1) 1 [4, o]) p := by
  intro st hst
  show f_X2_joined (rc_X2_choice 26 n) (mkS (rS m st) kp (some q)) 26 4 o = _
  unfold f_X2_joined
  rw [if_pos io_26, if_neg (show ¬ (4 : Int32) < 4 by decide), hC st hst]
  rfl
theorem join_0 {n : Nat} {o : Int32} {p : PSt → PR} (h : RdC m q s u B e) (hp : Gd1 B s p) (hC : Cmp7 m kp q s e (rc_X2_choice 26 n 2 [o]) p) : Cmp7 m kp q s e (rc_X2_choice 26 (n + 5) 1 [0, o]) (j0 B s p) := by
  have c4 := join_4 hC
  have g3 := lev_g (B := B) (s := s) (l := 3) (by decide) hp
  have g2 := lev_g (B := B) (s := s) (l := 2) (by decide) g3
  have g1 := lev_g (B := B) (s := s) (l := 1) (by decide) g2
  have c3 := join_l (l := 3) h (by decide) (by decide) hp (show Cmp7 m kp q s e (rc_X2_choice 26 (n + 1) 1 [3 + 1, o]) p from c4)
  have c2 := join_l (l := 2) h (by decide) (by decide) g3 (show Cmp7 m kp q s e (rc_X2_choice 26 (n + 2) 1 [2 + 1, o]) _ from c3)
  have c1 := join_l (l := 1) h (by decide) (by decide) g2 (show Cmp7 m kp q s e (rc_X2_choice 26 (n + 3) 1 [1 + 1, o]) _ from c2)
  exact join_l (l := 0) h (by decide) (by decide) g1 (show Cmp7 m kp q s e (rc_X2_choice 26 (n + 4) 1 [0 + 1, o]) _ from c1)
theorem choice_7 {n : Nat} {o : Int32} {p : PSt → PR} (h : RdC m q s u B e) (hp : Gd1 B s p) (hC : Cmp7 m kp q s e (rc_X2_choice 26 n 2 [o]) p) : Cmp7 m kp q s e (rc_X2_choice 26 (n + 6) 0 [o]) (ch B s p) := by
  have cj := join_0 h hp hC
  have gj := j0_g hp
  intro st hst
  show f_X2_choice (rc_X2_choice 26 (n + 5)) (mkS (rS m st) kp (some q)) 26 o = _
  unfold f_X2_choice ch ch2
  rw [if_pos io_26, cj st hst, Option.bind_some]
  obtain ⟨g1, g2, g3⟩ := gj st hst
  generalize j0 B s p st = r at *
  dsimp only
  rw [takes7 h g2]
  by_cases e1 : nx B s r.1 = 63
  · rw [if_pos e1, if_pos e1, Option.bind_some, if_neg (show ¬ (1 : Int32) = 0 by decide)]
    obtain ⟨n1, n2⟩ := nx_m1 (B := B) (s := s) (st := r.1) (by rw [e1]; decide)
    have hle : (r.1.1 + 1, r.1.2.1, r.1.2.2 + 1).1 ≤ s := by show r.1.1 + 1 ≤ s; omega
    have s6 : st1 (rS m (r.1.1 + 1, r.1.2.1, r.1.2.2)) 26 6 (nI (r.1.2.2 + 1)) = rS m (r.1.1 + 1, r.1.2.1, r.1.2.2 + 1) := rS_s6 (st := (r.1.1 + 1, r.1.2.1, r.1.2.2))
    have v6 : rS m (r.1.1 + 1, r.1.2.1, r.1.2.2) 26 6 = nI r.1.2.2 := rS_6
    dsimp only
    rw [gI_26, Option.bind_some, v6, nI_a1, pI_26, Option.bind_some, s6, cj _ hle, Option.bind_some]
    obtain ⟨a1, a2, a3⟩ := gj _ hle
    generalize j0 B s p (r.1.1 + 1, r.1.2.1, r.1.2.2 + 1) = r2 at *
    dsimp only
    rw [wants7 h a2, Option.bind_some, gI_26, Option.bind_some, rS_7]
    obtain ⟨w1, w2, w3, w4⟩ := wnt_g (B := B) (s := s) (st := r2.1) (c := 58) (by decide) a2
    generalize wnt B s 58 r2.1 = st3 at *
    unfold ch3
    by_cases f3 : st3.2.1 = true
    · rw [if_pos f3, if_pos f3, if_neg (show ¬ (1 : Int32) = 0 by decide)]
    · rw [if_neg f3, if_neg f3, if_pos rfl, cj st3 w2, Option.bind_some]
  · rw [if_neg e1, if_neg e1, Option.bind_some, if_pos rfl]
theorem num_7 (h : RdC m q s u B e) : ∀ k i f (st : PSt) (v : Int32), i + k = 4 → k < f → st.1 ≤ s → ∃ y, f_X2_number_L4 26 f (nI i) v (mkS (rS m st) kp (some q)) = some (y, (num B s k st v).2, mkS (rS m (num B s k st v).1) kp (some q)) := by
  intro k
  induction k with
  | zero =>
    intro i f st v h1 h2 h3
    obtain ⟨f, rfl⟩ : ∃ q, f = q + 1 := ⟨f - 1, by omega⟩
    have e : i = 4 := by omega
    subst e
    exact ⟨_, by rw [f_X2_number_L4, if_pos (show (4 : Int32) ≤ nI 4 by decide)]; rfl⟩
  | succ k ih =>
    intro i f st v h1 h2 h3
    obtain ⟨f, rfl⟩ : ∃ q, f = q + 1 := ⟨f - 1, by omega⟩
    have en : num B s (k + 1) st v = if 48 ≤ nx B s st ∧ nx B s st ≤ 57 then num B s k (st.1 + 1, st.2.1, st.2.2) (v * 10 + nx B s st - 48) else (st, v) := rfl
    rw [f_X2_number_L4, if_neg (n4 (by omega)), next7 h h3, Option.bind_some, en]
    have hdg : f_X2_isDigit (mkS (rS m st) kp (some q)) (nx B s st) = some (if 48 ≤ nx B s st ∧ nx B s st ≤ 57 then 1 else 0) := within_eq (σ := mkS (rS m st) kp (some q))
    rw [hdg, Option.bind_some]
    by_cases hd : 48 ≤ nx B s st ∧ nx B s st ≤ 57
    · rw [if_pos hd, if_pos hd, if_neg (show ¬ (1 : Int32) = 0 by decide), Option.bind_some, gI_26, Option.bind_some, rS_5, nI_a1, nI_a1, pI_26, Option.bind_some, rS_s5]
      obtain ⟨n1, n2⟩ := nx_m1 (B := B) (s := s) (st := st) (fun y => by rw [y] at hd; exact absurd hd.1 (by decide))
      exact ih (i + 1) f (st.1 + 1, st.2.1, st.2.2) (v * 10 + nx B s st - 48) (by omega) (by omega) (by show st.1 + 1 ≤ s; omega)
    · rw [if_neg hd, if_neg hd, if_pos rfl]
      exact ⟨_, rfl⟩
def nmV (o : Option Nat) : Int32 := match o with
  | some i => nI i
  | none => -1
theorem ix_any {σ : St} {t : Nat} {a : Int32} : f_J0_indexOf_0f7a4 σ t a = f_J0_indexOf_0f7a4 sg0 t a := rfl
theorem ix_dec : ∀ u, u < 3 → ∀ x, x < 256 → f_J0_indexOf_0f7a4 sg0 (1004 + u) (((nI x).toUInt32 % 65536).toInt32) = some (nmV (nmi u (nI x))) := by decide +kernel
theorem names7 (h : RdC m q s u B e) {st : PSt} : f_X2_names (mkS (rS m st) kp (some q)) 26 = some (1004 + u) := by
  unfold f_X2_names
  rw [if_pos io_26, gI_26, Option.bind_some, rS_o (by decide), h.2.2.2.2.1]
  have hu := h.2.2.2.2.2.1
  have : u = 0 ∨ u = 1 ∨ u = 2 := by omega
  rcases this with rfl | rfl | rfl
  · rfl
  · rfl
  · rfl
theorem B_x (h : RdC m q s u B e) {k : Nat} (hk : k < 56) : ∃ x, x < 256 ∧ B k = nI x := by
  obtain ⟨x, hx, e⟩ := pk_andE (m (q + 1) k) (m := 255) 8 (by decide)
  exact ⟨x, hx, (h.2.2.2.1 k hk).symm.trans e⟩
theorem nmi_lt : ∀ u, u < 3 → ∀ x, x < 256 → ∀ i, nmi u (nI x) = some i → i < 3 := by
  intro u hu x hx i hi
  have : ∀ u, u < 3 → ∀ x, x < 256 → (nmi u (nI x)).all (fun i => decide (i < 3)) = true := by decide +kernel
  have := this u hu x hx
  rw [hi] at this
  simpa using this
theorem unit_7 {n d o : Nat} (h : RdC m q s u B e) (hod : o + d = 5) (hU : ∀ d', d = d' + 1 → Cmp7 m kp q s e (rc_X2_choice 26 n 2 [nI (o + 1)]) (un B s u d') ∧ Cmp7 m kp q s e (rc_X2_choice 26 n 0 [nI (o + 1)]) (ch B s (un B s u d'))) : Cmp7 m kp q s e (rc_X2_choice 26 (n + 1) 2 [nI o]) (un B s u d) := by
  intro st hst
  show f_X2_unit (rc_X2_choice 26 n) (mkS (rS m st) kp (some q)) 26 (nI o) = _
  unfold f_X2_unit
  have hdg : f_X2_isDigit (mkS (rS m st) kp (some q)) (nx B s st) = some (if 48 ≤ nx B s st ∧ nx B s st ≤ 57 then 1 else 0) := within_eq (σ := mkS (rS m st) kp (some q))
  rw [if_pos io_26, next7 h hst, Option.bind_some, hdg, Option.bind_some]
  -- where neither number nor name stands
  have fin : ∀ z : PR, un B s u d st = unA B s u st z → ¬ (48 ≤ nx B s st ∧ nx B s st ≤ 57) → nmi u (nx B s st) = none → un B s u d st = z := fun z ez hd hm => by
    rw [ez]; unfold unA; rw [if_neg hd, hm]
  have fail : (((pZ (mkS (rS m st) kp (some q)) 1 26 7 1).bind fun s97 => some ((0 : Int32), s97)) : Option (Int32 × St)) = some ((unF st).2.2 e, mkS (rS m (unF st).1) kp (some q)) := by
    rw [pZ_26, if_pos (Or.inr rfl), Option.bind_some, rS_s7]
    rfl
  have tail : ¬ (48 ≤ nx B s st ∧ nx B s st ≤ 57) → nmi u (nx B s st) = none → (if 5 ≤ nI o then ((pZ (mkS (rS m st) kp (some q)) 1 26 7 1).bind fun s14 => some ((0 : Int32), s14)) else (if nx B s st = 45 then ((gI (mkS (rS m st) kp (some q)) 1 26 5).bind fun v17 => (pI (mkS (rS m st) kp (some q)) 1 26 5 (v17 + 1)).bind fun s19 => if nx B s st = 45 then ((gI s19 1 26 6).bind fun v26 => (pI s19 1 26 6 (v26 + 1)).bind fun s28 => (rc_X2_choice 26 n 2 [nI o + 1] s28).bind fun p30 => some (-p30.1, p30.2)) else ((rc_X2_choice 26 n 0 [nI o + 1] s19).bind fun p22 => (f_X2_wants p22.2 26 41).bind fun s24 => some (p22.1, s24))) else (if nx B s st = 40 then ((gI (mkS (rS m st) kp (some q)) 1 26 5).bind fun v33 => (pI (mkS (rS m st) kp (some q)) 1 26 5 (v33 + 1)).bind fun s35 => if nx B s st = 45 then ((gI s35 1 26 6).bind fun v42 => (pI s35 1 26 6 (v42 + 1)).bind fun s44 => (rc_X2_choice 26 n 2 [nI o + 1] s44).bind fun p46 => some (-p46.1, p46.2)) else ((rc_X2_choice 26 n 0 [nI o + 1] s35).bind fun p38 => (f_X2_wants p38.2 26 41).bind fun s40 => some (p38.1, s40))) else ((pZ (mkS (rS m st) kp (some q)) 1 26 7 1).bind fun s48 => some ((0 : Int32), s48))))) = some ((un B s u d st).2.2 e, mkS (rS m (un B s u d st).1) kp (some q)) := by
    intro hd hm
    cases d with
    | zero =>
      have ho : o = 5 := by omega
      rw [fin (unF st) rfl hd hm, if_pos (show (5 : Int32) ≤ nI o by rw [ho]; decide)]
      exact fail
    | succ d' =>
      obtain ⟨hU1, hU2⟩ := hU d' rfl
      have e0 := fin _ rfl hd hm
      rw [e0, if_neg (show ¬ (5 : Int32) ≤ nI o from nI_ge (b := 5) (by omega) (by decide)), gI_26, Option.bind_some, pI_26, Option.bind_some, rS_5, nI_a1, nI_a1, rS_s5]
      by_cases e1 : nx B s st = 45
      · rw [if_pos e1, if_pos e1, if_pos e1]
        obtain ⟨n1, n2⟩ := nx_m1 (B := B) (s := s) (st := st) (by rw [e1]; decide)
        have hle : (st.1 + 1, st.2.1, st.2.2 + 1).1 ≤ s := by show st.1 + 1 ≤ s; omega
        have s6 : st1 (rS m (st.1 + 1, st.2.1, st.2.2)) 26 6 (nI (st.2.2 + 1)) = rS m (st.1 + 1, st.2.1, st.2.2 + 1) := rS_s6 (st := (st.1 + 1, st.2.1, st.2.2))
        have v6 : rS m (st.1 + 1, st.2.1, st.2.2) 26 6 = nI st.2.2 := rS_6
        rw [gI_26, Option.bind_some, v6, nI_a1, pI_26, Option.bind_some, s6, hU1 _ hle, Option.bind_some]
      · rw [if_neg e1, if_neg e1]
        by_cases e2 : nx B s st = 40
        · rw [if_pos e2, if_pos e2, if_neg e1]
          obtain ⟨n1, n2⟩ := nx_m1 (B := B) (s := s) (st := st) (by rw [e2]; decide)
          have hle : (st.1 + 1, st.2.1, st.2.2).1 ≤ s := by show st.1 + 1 ≤ s; omega
          have hg := ch_g (un_g (B := B) (s := s) (u := u) d') _ hle
          rw [hU2 _ hle, Option.bind_some]
          dsimp only
          rw [wants7 h hg.2.1, Option.bind_some]
        · rw [if_neg e2, if_neg e2, if_neg e1]
          exact fail
  by_cases hd : 48 ≤ nx B s st ∧ nx B s st ≤ 57
  · rw [if_pos hd, if_neg (show ¬ (1 : Int32) = 0 by decide)]
    unfold f_X2_number
    obtain ⟨y, hy⟩ := num_7 (kp := kp) h 4 0 3000 st 0 (by omega) (by omega) hst
    rw [nI_0] at hy
    rw [if_pos io_26, hy, Option.bind_some]
    have e0 : un B s u d st = unN B s st := by
      cases d with
      | zero => show unA B s u st (unF st) = _; unfold unA; rw [if_pos hd]
      | succ d' => unfold un unA; rw [if_pos hd]
    rw [e0]
    rfl
  · rw [if_neg hd, if_pos rfl]
    by_cases hm1 : nx B s st = -1
    · have hm : nmi u (nx B s st) = none := by rw [hm1, nmi_m1]
      rw [if_pos hm1]
      exact tail hd hm
    · rw [if_neg hm1, names7 h, Option.bind_some, ix_any]
      obtain ⟨n1, n2⟩ := nx_m1 hm1
      have hs := h.2.1
      have hx : ∃ x, x < 256 ∧ nx B s st = nI x := by
        obtain ⟨x, hx, ex⟩ := B_x h (show st.1 < 56 by omega)
        refine ⟨x, hx, ?_⟩
        unfold nx
        rw [n1, if_neg (by decide), if_pos n2]
        exact ex
      obtain ⟨x, hx, ex⟩ := hx
      have hix := ix_dec u h.2.2.2.2.2.1 x hx
      rw [← ex] at hix
      rw [hix, Option.bind_some]
      cases hm : nmi u (nx B s st) with
      | none =>
        show (if (-1 : Int32) < 0 then _ else _) = _
        rw [if_pos (by decide)]
        exact tail hd hm
      | some i =>
        have hi3 : i < 3 := by rw [ex] at hm; exact nmi_lt u h.2.2.2.2.2.1 x hx i hm
        have e0 : un B s u d st = unM st i := by
          cases d with
          | zero => show unA B s u st (unF st) = _; unfold unA; rw [if_neg hd, hm]
          | succ d' => unfold un unA; rw [if_neg hd, hm]
        rw [e0]
        show (if nI i < 0 then _ else _) = _
        rw [if_neg (nI_pos (by omega)), gI_26, Option.bind_some, rS_5, nI_a1, pI_26, Option.bind_some, rS_s5, gI_26, gI_26, gI_26, Option.bind_some, Option.bind_some, Option.bind_some, rS_o (by decide), rS_o (by decide), rS_o (by decide), h.2.2.2.2.2.2.1, h.2.2.2.2.2.2.2.1, h.2.2.2.2.2.2.2.2]
        have : i = 0 ∨ i = 1 ∨ i = 2 := by omega
        rcases this with rfl | rfl | rfl
        · rfl
        · rfl
        · rfl
theorem un_7 (h : RdC m q s u B e) : ∀ d o n, o + d = 5 → 7 * d + 1 ≤ n → Cmp7 m kp q s e (rc_X2_choice 26 n 2 [nI o]) (un B s u d) := by
  intro d
  induction d with
  | zero =>
    intro o n ho hn
    obtain ⟨n, rfl⟩ : ∃ k, n = k + 1 := ⟨n - 1, by omega⟩
    exact unit_7 h ho (fun d' hd => absurd hd (by omega))
  | succ d ih =>
    intro o n ho hn
    obtain ⟨n, rfl⟩ : ∃ k, n = (k + 6) + 1 := ⟨n - 7, by omega⟩
    refine unit_7 h ho (fun d' hd => ?_)
    have e : d' = d := by omega
    subst e
    exact ⟨ih (o + 1) (n + 6) (by omega) (by omega), choice_7 h (un_g d') (ih (o + 1) n (by omega) (by omega))⟩
theorem psr_7 (h : RdC m q s u B e) : g_X2_choice (mkS (rS m (0, false, 0)) kp (some q)) 26 0 = some ((psr B s u).2.2 e, mkS (rS m (psr B s u).1) kp (some q)) := by
  have := choice_7 h (un_g 5) (un_7 (kp := kp) h 5 0 54 (by omega) (by omega)) (0, false, 0) (by show 0 ≤ s; omega)
  unfold g_X2_choice psr
  rw [nI_0, show (54 + 6 : Nat) = 60 from rfl] at this
  exact this
end TB2
