section TD
variable {m : Nat → Nat → Int32} {kp : Bool} {b : Option Nat} {s u o : Nat} {B : Nat → Int32}
/-! names -/
def chs (u k : Nat) : Int32 := (sbyt.getD u []).getD k 0
def lnu (u : Nat) : Nat := slen u
theorem ln_any {σ : St} {t : Nat} : f_J0_length_8abf5 σ t = f_J0_length_8abf5 sg0 t := rfl
theorem ca_any {σ : St} {t : Nat} {a : Int32} : f_J0_charAt_5068e σ t a = f_J0_charAt_5068e sg0 t a := rfl
theorem ln_dec : ∀ u, u < 3 → f_J0_length_8abf5 sg0 (1004 + u) = some (nI (lnu u)) := by decide +kernel
theorem ca_dec : ∀ u, u < 3 → ∀ k, k < lnu u → f_J0_charAt_5068e sg0 (1004 + u) (nI k) = some (chs u k) := by decide +kernel
theorem ln_le : ∀ u, u < 3 → lnu u ≤ 3 := by decide
theorem aQ46 {M : Nat → Nat → Int32} (hu : u < 3) : aQ (mkS M kp b) 4 46 (nI u) = some (1004 + u) := by
  match u, hu with
  | 0, _ => exact aQ_46_0
  | 1, _ => exact aQ_46_1
  | 2, _ => exact aQ_46_2
theorem nmo_L {M : Nat → Nat → Int32} {c : Int32} (hu : u < 3) (h6 : M 42 6 = nI u) : ∀ k i f a, i + k = lnu u → k < f → f_X8_nameOf_L4 (mkS M kp b) 42 c f (nI i) a = some (nI (lnu u), it (fun j a => if chs u j = c then nI j else a) k i a) := by
  intro k
  have hl := ln_le u hu
  induction k with
  | zero =>
    intro i f a h1 h2
    obtain ⟨f, rfl⟩ : ∃ q, f = q + 1 := ⟨f - 1, by omega⟩
    have e : i = lnu u := by omega
    subst e
    rw [f_X8_nameOf_L4, gq_42_4, Option.bind_some, gI_42, Option.bind_some, h6, aQ46 hu, Option.bind_some, ln_any, ln_dec u hu, Option.bind_some, if_pos (Int32.le_refl _)]
    rfl
  | succ k ih =>
    intro i f a h1 h2
    obtain ⟨f, rfl⟩ : ∃ q, f = q + 1 := ⟨f - 1, by omega⟩
    rw [f_X8_nameOf_L4, gq_42_4, Option.bind_some, gI_42, Option.bind_some, h6, aQ46 hu, Option.bind_some, ln_any, ln_dec u hu, Option.bind_some, if_neg (nI_ge (by omega) (by omega)), Option.bind_some, Option.bind_some, aQ46 hu, Option.bind_some, ca_any, ca_dec u hu i (by omega), Option.bind_some, nI_a1, ih (i + 1) f _ (by omega) (by omega)]
    rfl
theorem nmo_dec : ∀ u, u < 3 → ∀ x, x < 256 → it (fun j a => if chs u j = nI x then nI j else a) (lnu u) 0 (-1) = nmV (nmi u (nI x)) := by decide +kernel
theorem nameOf8 {M : Nat → Nat → Int32} {x : Nat} (hu : u < 3) (h6 : M 42 6 = nI u) (hx : x < 256) : f_X8_nameOf (mkS M kp b) 42 (nI x) = some (nmV (nmi u (nI x))) := by
  unfold f_X8_nameOf
  have hl := ln_le u hu
  have := nmo_L (kp := kp) (b := b) (c := nI x) hu h6 (lnu u) 0 3000 (-1) (by omega) (by omega)
  rw [nI_0] at this
  rw [if_pos io_42, this, Option.bind_some, nmo_dec u hu x hx]
theorem one_8 {n d : Nat} (h : MdC m s u B) (hod : o + d = 5) (hU : ∀ d', d = d' + 1 → Cmp8 m kp b s (o + 1) (rc_X8_compared 42 n 2 []) (un B s u d') ∧ Cmp8 m kp b s (o + 1) (rc_X8_compared 42 n 5 []) (ch B s (un B s u d'))) : Cmp8 m kp b s o (rc_X8_compared 42 (n + 1) 2 []) (un B s u d) := by
  intro st cs hc hst
  have hs := h.1
  have hu := h.2.2.2.2
  have hw : rc_X8_compared 42 (n + 1) 2 [] (mkS (mS m st cs o) kp b) = (f_X8_one (rc_X8_compared 42 n) (mkS (mS m st cs o) kp b) 42).map (fun s => (0, s)) := rfl
  have fin : ∀ z : PR, un B s u d st = unA B s u st z → ¬ (48 ≤ nx B s st ∧ nx B s st ≤ 57) → nmi u (nx B s st) = none → un B s u d st = z := fun z ez hd hm => by
    rw [ez]; unfold unA; rw [if_neg hd, hm]
  have nm45 : ∀ u, u < 3 → nmi u 45 = none ∧ nmi u 40 = none := by decide
  have unz : d = 0 → un B s u d st = unA B s u st (unF st) := fun e => by subst e; rfl
  rw [hw]
  unfold f_X8_one
  rw [if_pos io_42, here8 h hst, Option.bind_some]
  by_cases e45 : nx B s st = 45
  · have hd : ¬ (48 ≤ nx B s st ∧ nx B s st ≤ 57) := by rw [e45]; decide
    have hm : nmi u (nx B s st) = none := by rw [e45]; exact (nm45 u hu).1
    obtain ⟨n1, n2⟩ := nx_m1 (B := B) (s := s) (st := st) (by rw [e45]; decide)
    rw [if_pos e45, gI_42, Option.bind_some, mS_7]
    cases d with
    | zero =>
      have ho : o = 5 := by omega
      rw [if_pos (show nI o = 5 by rw [ho]; rfl), pZ_42, if_pos (Or.inr rfl), Option.bind_some, mS_s91, gI_42, Option.bind_some, mS_9, if_pos rfl, if_neg (show ¬ (1 : Int32) = 0 by decide), fin (unF st) rfl hd hm]
      unfold unF
      rw [List.append_nil]
      rfl
    | succ d' =>
      obtain ⟨hU1, hU2⟩ := hU d' rfl
      have e0 := fin _ rfl hd hm
      rw [if_pos e45] at e0
      have ho : ¬ nI o = 5 := fun y => by have := (nI_eq (b := 5) (by omega) (by decide)).mp y; omega
      have hle : (st.1 + 1, st.2.1, st.2.2 + 1).1 ≤ s := by show st.1 + 1 ≤ s; omega
      have hF1 := hU1 (st.1 + 1, st.2.1, st.2.2 + 1) cs (by show _ ≤ st.1 + 1; omega) hle
      have hms : mS m (st.1 + 1, st.2.1, st.2.2) cs (o + 1) = mS m (st.1 + 1, st.2.1, st.2.2 + 1) cs (o + 1) := rfl
      have hg := un_g (B := B) (s := s) (u := u) d' _ hle
      rw [if_neg ho, pZ_42, if_pos (Or.inl rfl), Option.bind_some, mS_s90 n1, gI_42, Option.bind_some, mS_9, n1, if_neg (show ¬ false = true by decide), if_pos rfl, gI_42, Option.bind_some, mS_7, nI_a1, pI_42, Option.bind_some, mS_s7, gI_42, Option.bind_some, mS_5, nI_a1, pI_42, Option.bind_some, mS_s5, if_pos e45, hms, hF1, Option.bind_some, e0]
      generalize un B s u d' (st.1 + 1, st.2.1, st.2.2 + 1) = r2 at *
      obtain ⟨g1, g2, g3⟩ := hg
      dsimp only at g1 ⊢
      rw [codes8 (by simp only [List.length_append]; omega), Option.bind_some, gI_42, Option.bind_some, mS_7, nI_pred, pI_42, Option.bind_some, mS_s7, List.append_assoc]
      rfl
  · rw [if_neg e45]
    by_cases e40 : nx B s st = 40
    · have hd : ¬ (48 ≤ nx B s st ∧ nx B s st ≤ 57) := by rw [e40]; decide
      have hm : nmi u (nx B s st) = none := by rw [e40]; exact (nm45 u hu).2
      obtain ⟨n1, n2⟩ := nx_m1 (B := B) (s := s) (st := st) (by rw [e40]; decide)
      rw [if_pos e40, gI_42, Option.bind_some, mS_7]
      cases d with
      | zero =>
        have ho : o = 5 := by omega
        rw [if_pos (show nI o = 5 by rw [ho]; rfl), pZ_42, if_pos (Or.inr rfl), Option.bind_some, mS_s91, gI_42, Option.bind_some, mS_9, if_pos rfl, if_neg (show ¬ (1 : Int32) = 0 by decide), fin (unF st) rfl hd hm]
        unfold unF
        rw [List.append_nil]
        rfl
      | succ d' =>
        obtain ⟨hU1, hU2⟩ := hU d' rfl
        have e0 := fin _ rfl hd hm
        rw [if_neg e45, if_pos e40] at e0
        have ho : ¬ nI o = 5 := fun y => by have := (nI_eq (b := 5) (by omega) (by decide)).mp y; omega
        have hle : (st.1 + 1, st.2.1, st.2.2).1 ≤ s := by show st.1 + 1 ≤ s; omega
        have hF1 := hU2 (st.1 + 1, st.2.1, st.2.2) cs (by show _ ≤ st.1 + 1; omega) hle
        have hg := ch_g (un_g (B := B) (s := s) (u := u) d') _ hle
        rw [if_neg ho, pZ_42, if_pos (Or.inl rfl), Option.bind_some, mS_s90 n1, gI_42, Option.bind_some, mS_9, n1, if_neg (show ¬ false = true by decide), if_pos rfl, gI_42, Option.bind_some, mS_7, nI_a1, pI_42, Option.bind_some, mS_s7, gI_42, Option.bind_some, mS_5, nI_a1, pI_42, Option.bind_some, mS_s5, if_neg e45]
        rw [hF1, Option.bind_some, e0]
        generalize ch B s (un B s u d') (st.1 + 1, st.2.1, st.2.2) = r2 at *
        obtain ⟨g1, g2, g3⟩ := hg
        dsimp only at g1 ⊢
        rw [must8 h g2 (by decide), Option.bind_some, gI_42, Option.bind_some, mS_7, nI_pred, pI_42, Option.bind_some, mS_s7]
        rfl
    · rw [if_neg e40, within_eq, Option.bind_some]
      by_cases hd : 48 ≤ nx B s st ∧ nx B s st ≤ 57
      · obtain ⟨n1, n2⟩ := nx_m1 (B := B) (s := s) (st := st) (fun y => by rw [y] at hd; exact absurd hd.1 (by decide))
        have e0 : un B s u d st = unN B s st := by
          cases d with
          | zero => show unA B s u st (unF st) = _; unfold unA; rw [if_pos hd]
          | succ d' => unfold un unA; rw [if_pos hd]
        obtain ⟨y, hy⟩ := num_8 (kp := kp) (b := b) (o := o) h (rc := rc_X8_compared 42 n) 4 0 3000 st cs 0 (by omega) (by omega) hst
        rw [nI_0] at hy
        obtain ⟨q1, q2, q3⟩ := num_g (B := B) (s := s) 4 st 0 hst
        have hem : em (num B s 4 st 0).1.2.1 (num B s 4 st 0).2 = [(num B s 4 st 0).2] := by unfold em; rw [q3 n1, if_neg (by decide)]
        rw [if_pos hd, if_neg (show ¬ (1 : Int32) = 0 by decide), hy, Option.bind_some]
        dsimp only
        rw [codes8 (by omega), Option.bind_some, hem, e0]
        rfl
      · rw [if_neg hd, if_pos rfl]
        have zF : ∀ z, (d = 0 → z = unF st) → (∀ d', d = d' + 1 → z = if nx B s st = 45 then ((un B s u d' (st.1 + 1, st.2.1, st.2.2 + 1)).1, (un B s u d' (st.1 + 1, st.2.1, st.2.2 + 1)).2.1 ++ em (un B s u d' (st.1 + 1, st.2.1, st.2.2 + 1)).1.2.1 20010, fun e => -((un B s u d' (st.1 + 1, st.2.1, st.2.2 + 1)).2.2 e)) else if nx B s st = 40 then (wnt B s 41 (ch B s (un B s u d') (st.1 + 1, st.2.1, st.2.2)).1, (ch B s (un B s u d') (st.1 + 1, st.2.1, st.2.2)).2) else unF st) → z = unF st := fun z h0 h1 => by
          cases d with
          | zero => exact h0 rfl
          | succ d' => rw [h1 d' rfl, if_neg e45, if_neg e40]
        have eF : nmi u (nx B s st) = none → un B s u d st = unF st := fun hm => by
          cases d with
          | zero => exact fin (unF st) rfl hd hm
          | succ d' =>
            have e0 := fin _ rfl hd hm
            rw [if_neg e45, if_neg e40] at e0
            exact e0
        by_cases hm1 : nx B s st = -1
        · have hm : nmi u (nx B s st) = none := by rw [hm1, nmi_m1]
          rw [if_neg (show ¬ 0 ≤ nx B s st by rw [hm1]; decide), gI_42, Option.bind_some, pZ_42, if_pos (Or.inr rfl), Option.bind_some, mS_s91, gI_42, Option.bind_some, mS_9, if_pos rfl, if_neg (show ¬ (1 : Int32) = 0 by decide), eF hm]
          unfold unF
          rw [List.append_nil]
          rfl
        · obtain ⟨n1, n2⟩ := nx_m1 hm1
          have hx : ∃ x, x < 256 ∧ nx B s st = nI x := by
            obtain ⟨x, hx, ex⟩ := (h.2.2.1 st.1 (by omega)).2
            refine ⟨x, hx, ?_⟩
            unfold nx
            rw [n1, if_neg (by decide), if_pos n2]
            exact ex
          obtain ⟨x, hx, ex⟩ := hx
          have hnm := nameOf8 (kp := kp) (b := b) (M := mS m st cs o) (x := x) hu (by rw [mS_6]; exact h.2.2.2.1) hx
          rw [← ex] at hnm
          rw [if_pos (show 0 ≤ nx B s st by rw [ex]; exact nI_pos' (by omega)), hnm, Option.bind_some, gI_42, Option.bind_some, mS_9, n1, if_neg (show ¬ false = true by decide), if_pos rfl]
          cases hm : nmi u (nx B s st) with
          | none =>
            rw [if_neg (show ¬ 0 ≤ nmV none by decide), pZ_42, if_pos (Or.inr rfl), Option.bind_some, mS_s91, gI_42, Option.bind_some, mS_9, if_pos rfl, if_neg (show ¬ (1 : Int32) = 0 by decide), eF hm]
            unfold unF
            rw [List.append_nil]
            rfl
          | some i =>
            have hi3 : i < 3 := by rw [ex] at hm; exact nmi_lt u hu x hx i hm
            have e0 : un B s u d st = unM st i := by
              cases d with
              | zero => show unA B s u st (unF st) = _; unfold unA; rw [if_neg hd, hm]
              | succ d' => unfold un unA; rw [if_neg hd, hm]
            have hem : em st.2.1 ((10000 : Int32) + nmV (some i)) = [10000 + nI i] := by unfold em; rw [n1, if_neg (by decide)]; rfl
            rw [if_pos (show 0 ≤ nmV (some i) from nI_pos' (by omega)), pZ_42, if_pos (Or.inl rfl), Option.bind_some, mS_s90 n1, gI_42, Option.bind_some, mS_9, n1, if_neg (show ¬ false = true by decide), if_pos rfl, codes8 (by omega), Option.bind_some, hem, gI_42, Option.bind_some, mS_5, nI_a1, pI_42, Option.bind_some, mS_s5, e0]
            rfl
theorem un_8 (h : MdC m s u B) : ∀ d o n, o + d = 5 → 6 * d + 1 ≤ n → Cmp8 m kp b s o (rc_X8_compared 42 n 2 []) (un B s u d) := by
  intro d
  induction d with
  | zero =>
    intro o n ho hn
    obtain ⟨n, rfl⟩ : ∃ k, n = k + 1 := ⟨n - 1, by omega⟩
    exact one_8 h ho (fun d' hd => absurd hd (by omega))
  | succ d ih =>
    intro o n ho hn
    obtain ⟨n, rfl⟩ : ∃ k, n = (k + 5) + 1 := ⟨n - 6, by omega⟩
    refine one_8 h ho (fun d' hd => ?_)
    have e : d' = d := by omega
    subst e
    exact ⟨ih (o + 1) (n + 5) (by omega) (by omega), text8 h (un_g d') (ih (o + 1) n (by omega) (by omega))⟩
theorem psr_8 (h : MdC m s u B) : g_X8_text (mkS (mS m (0, false, 0) [] 0) kp b) 42 = some (mkS (mS m (psr B s u).1 (psr B s u).2.1 0) kp b) := by
  have := text8 h (un_g 5) (un_8 (kp := kp) (b := b) h 5 0 55 (by omega) (by omega)) (0, false, 0) [] (by decide) (by show 0 ≤ s; omega)
  unfold g_X8_text psr
  rw [show (55 + 5 : Nat) = 60 from rfl] at this
  rw [this, Option.map_some, List.nil_append]
/-! signs -/
def SgP (B : Nat → Int32) (s : Nat) (p : PSt → PR) : Prop := ∀ st, st.1 ≤ s → (p st).1.2.1 = false → st.2.1 = false ∧ (p st).1.2.2 = st.2.2 + sgc (p st).2.1
theorem sgc_1 {fl : Bool} {c : Int32} (hf : fl = false) (hc : ¬ c < 20000) : sgc (em fl c) = 1 := by
  unfold em
  rw [hf, if_neg (by decide)]
  show (if c < 20000 then 0 else 1) + 0 = 1
  rw [if_neg hc]
theorem opc_s (c : Int32) : ¬ opc c < 20000 := by
  unfold opc
  repeat' split
  all_goals decide
theorem lp_sg {p : PSt → PR} {l : Int32} (hl : l ≠ -1) (hg : Gd1 B s p) (hp : SgP B s p) : ∀ k (r : PR), r.1.1 ≤ s → (lp B s p l k r).1.2.1 = false → r.1.2.1 = false ∧ (lp B s p l k r).1.2.2 + sgc r.2.1 = r.1.2.2 + sgc (lp B s p l k r).2.1
  | 0, r, h, hf => ⟨hf, rfl⟩
  | k + 1, r, h, hf => by
    unfold lp at hf ⊢
    by_cases hc : lvl (nx B s r.1) = l
    · rw [if_pos hc] at hf ⊢
      have hn : nx B s r.1 ≠ -1 := fun q => hl (by rw [← hc, q, lvl_m1])
      obtain ⟨n1, n2⟩ := nx_m1 hn
      have hle : (r.1.1 + 1, r.1.2.1, r.1.2.2 + 1).1 ≤ s := by show r.1.1 + 1 ≤ s; omega
      have hg1 := hg _ hle
      have hp1 := hp _ hle
      generalize p (r.1.1 + 1, r.1.2.1, r.1.2.2 + 1) = r2 at *
      obtain ⟨q1, q2⟩ := lp_sg hl hg hp k (r2.1, r.2.1 ++ r2.2.1 ++ em r2.1.2.1 (opc (nx B s r.1)), fun e => jnv (nx B s r.1) (r.2.2 e) (r2.2.2 e)) hg1.2.1 hf
      dsimp only at q1 q2
      obtain ⟨p1, p2⟩ := hp1 q1
      dsimp only at p2
      rw [sgc_app, sgc_app, sgc_1 q1 (opc_s _)] at q2
      exact ⟨n1, by omega⟩
    · rw [if_neg hc] at hf ⊢
      exact ⟨hf, rfl⟩
theorem lev_sg {p : PSt → PR} {l : Int32} (hl : l ≠ -1) (hg : Gd1 B s p) (hp : SgP B s p) : SgP B s (lev B s l p) := by
  intro st h hf
  unfold lev at hf ⊢
  obtain ⟨q1, q2⟩ := lp_sg hl hg hp (if l = 1 then 1 else 56) (p st) (hg st h).2.1 hf
  obtain ⟨p1, p2⟩ := hp st h q1
  exact ⟨p1, by omega⟩
theorem j0_sg {p : PSt → PR} (hg : Gd1 B s p) (hp : SgP B s p) : SgP B s (j0 B s p) := by
  have g3 := lev_g (B := B) (s := s) (l := 3) (by decide) hg
  have g2 := lev_g (B := B) (s := s) (l := 2) (by decide) g3
  have g1 := lev_g (B := B) (s := s) (l := 1) (by decide) g2
  exact lev_sg (by decide) g1 (lev_sg (by decide) g2 (lev_sg (by decide) g3 (lev_sg (by decide) hg hp)))
theorem wnt_f {st : PSt} {c : Int32} (hc : c ≠ -1) (hf : (wnt B s c st).2.1 = false) : st.2.1 = false ∧ (wnt B s c st).2.2 = st.2.2 := by
  unfold wnt at hf ⊢
  by_cases e : nx B s st = c
  · rw [if_pos e] at hf ⊢
    exact ⟨hf, rfl⟩
  · rw [if_neg e] at hf
    cases hf
theorem ch_sg {p : PSt → PR} (hg : Gd1 B s p) (hp : SgP B s p) : SgP B s (ch B s p) := by
  have gj := j0_g hg
  have sj := j0_sg hg hp
  intro st h hf
  unfold ch ch2 at hf ⊢
  have s1 := sj st h
  obtain ⟨g1, g2, g3⟩ := gj st h
  generalize j0 B s p st = r at *
  by_cases e : nx B s r.1 = 63
  · rw [if_pos e] at hf ⊢
    obtain ⟨n1, n2⟩ := nx_m1 (B := B) (s := s) (st := r.1) (by rw [e]; decide)
    have hle : (r.1.1 + 1, r.1.2.1, r.1.2.2 + 1).1 ≤ s := by show r.1.1 + 1 ≤ s; omega
    have s2 := sj _ hle
    obtain ⟨a1, a2, a3⟩ := gj _ hle
    generalize j0 B s p (r.1.1 + 1, r.1.2.1, r.1.2.2 + 1) = r2 at *
    have w := wnt_f (B := B) (s := s) (st := r2.1) (c := 58) (by decide)
    obtain ⟨w1, w2, w3, w4⟩ := wnt_g (B := B) (s := s) (st := r2.1) (c := 58) (by decide) a2
    generalize wnt B s 58 r2.1 = st3 at *
    unfold ch3 at hf ⊢
    by_cases f3 : st3.2.1 = true
    · rw [if_pos f3] at hf
      rw [f3] at hf
      cases hf
    · rw [if_neg f3] at hf ⊢
      have hf3 : st3.2.1 = false := Bool.eq_false_iff.mpr f3
      obtain ⟨x1, x2⟩ := w hf3
      obtain ⟨y1, y2⟩ := s2 x1
      obtain ⟨z1, z2⟩ := s1 n1
      have s3 := sj st3 w2
      generalize j0 B s p st3 = r3 at *
      dsimp only at hf y2 ⊢
      obtain ⟨u1, u2⟩ := s3 hf
      rw [sgc_app, sgc_app, sgc_app, sgc_1 hf (by decide)]
      exact ⟨z1, by omega⟩
  · rw [if_neg e] at hf ⊢
    exact s1 hf
theorem num_v : ∀ k (st : PSt) (w : Nat), ∃ w', (num B s k st (nI w)).2 = nI w' ∧ w' + 1 ≤ (w + 1) * 10 ^ k ∧ (num B s k st (nI w)).1.2.2 = st.2.2
  | 0, st, w => ⟨w, rfl, by omega, rfl⟩
  | k + 1, st, w => by
    unfold num
    by_cases hd : 48 ≤ nx B s st ∧ nx B s st ≤ 57
    · rw [if_pos hd]
      obtain ⟨x, hx1, hx2, ex⟩ := ex_rng (lo := 48) (hi := 57) (by decide) hd (by decide)
      have e : nI w * 10 + nx B s st - 48 = nI (w * 10 + (x - 48)) := by
        rw [ex, show (10 : Int32) = nI 10 from rfl, pk_mul, nI_add, show (48 : Int32) = nI 48 from rfl, nI_sub (by omega)]
        congr 1; omega
      rw [e]
      obtain ⟨w', e1, e2, e3⟩ := num_v k (st.1 + 1, st.2.1, st.2.2) (w * 10 + (x - 48))
      refine ⟨w', e1, ?_, e3⟩
      have : (w * 10 + (x - 48) + 1) * 10 ^ k ≤ (w + 1) * 10 * 10 ^ k := Nat.mul_le_mul_right _ (by omega)
      rw [Nat.pow_succ, Nat.mul_comm (10 ^ k), ← Nat.mul_assoc]
      omega
    · rw [if_neg hd]
      refine ⟨w, rfl, ?_, rfl⟩
      have h10 : 1 ≤ 10 ^ (k + 1) := Nat.pow_pos (by decide)
      have := Nat.mul_le_mul_left (w + 1) h10
      omega
theorem num_4 {st : PSt} : ∃ w, (num B s 4 st 0).2 = nI w ∧ w ≤ 9999 ∧ (num B s 4 st 0).1.2.2 = st.2.2 := by
  obtain ⟨w, e1, e2, e3⟩ := num_v (B := B) (s := s) 4 st 0
  exact ⟨w, e1, by omega, e3⟩
theorem lt20 {w : Nat} (h : w ≤ 19999) : nI w < 20000 := nI_lt (b := 20000) (by omega) (by decide)
theorem un_sg (hB : ∀ st : PSt, nx B s st ≠ -1 → ∃ x, x < 256 ∧ nx B s st = nI x) (hu : u < 3) : ∀ d, SgP B s (un B s u d) := by
  have A : ∀ (st : PSt) (z : PR), st.1 ≤ s → (z.1.2.1 = false → st.2.1 = false ∧ z.1.2.2 = st.2.2 + sgc z.2.1) → (unA B s u st z).1.2.1 = false → st.2.1 = false ∧ (unA B s u st z).1.2.2 = st.2.2 + sgc (unA B s u st z).2.1 := by
    intro st z h hz hf
    unfold unA at hf ⊢
    by_cases hd : 48 ≤ nx B s st ∧ nx B s st ≤ 57
    · rw [if_pos hd] at hf ⊢
      obtain ⟨n1, n2⟩ := nx_m1 (B := B) (s := s) (st := st) (fun q => by rw [q] at hd; exact absurd hd.1 (by decide))
      obtain ⟨w, e1, e2, e3⟩ := num_4 (B := B) (s := s) (st := st)
      refine ⟨n1, ?_⟩
      unfold unN
      dsimp only
      rw [e3, e1]
      show _ = st.2.2 + ((if nI w < 20000 then 0 else 1) + 0)
      rw [if_pos (lt20 (by omega))]
      rfl
    · rw [if_neg hd] at hf ⊢
      cases hm : nmi u (nx B s st) with
      | none =>
        rw [hm] at hf
        exact hz hf
      | some i =>
        have hn : nx B s st ≠ -1 := fun q => by rw [q, nmi_m1] at hm; cases hm
        obtain ⟨n1, n2⟩ := nx_m1 hn
        obtain ⟨x, hx, ex⟩ := hB st hn
        have hi3 : i < 3 := by rw [ex] at hm; exact nmi_lt u hu x hx i hm
        refine ⟨n1, ?_⟩
        show st.2.2 = st.2.2 + ((if (10000 : Int32) + nI i < 20000 then 0 else 1) + 0)
        have e : (10000 : Int32) + nI i = nI (10000 + i) := nI_add 10000 i
        rw [e, if_pos (lt20 (by omega))]
        rfl
  intro d
  induction d with
  | zero =>
    intro st h hf
    unfold un at hf ⊢
    exact A st (unF st) h (fun q => by cases q) hf
  | succ d ih =>
    intro st h hf
    unfold un at hf ⊢
    refine A st _ h (fun q => ?_) hf
    by_cases e : nx B s st = 45
    · rw [if_pos e] at q ⊢
      obtain ⟨n1, n2⟩ := nx_m1 (B := B) (s := s) (st := st) (by rw [e]; decide)
      have s1 := ih (st.1 + 1, st.2.1, st.2.2 + 1) (by show st.1 + 1 ≤ s; omega)
      generalize un B s u d (st.1 + 1, st.2.1, st.2.2 + 1) = r at *
      dsimp only at q s1 ⊢
      obtain ⟨x1, x2⟩ := s1 q
      rw [sgc_app, sgc_1 q (by decide)]
      exact ⟨n1, by omega⟩
    · rw [if_neg e] at q ⊢
      by_cases e2 : nx B s st = 40
      · rw [if_pos e2] at q ⊢
        obtain ⟨n1, n2⟩ := nx_m1 (B := B) (s := s) (st := st) (by rw [e2]; decide)
        have s1 := ch_sg (un_g d) ih (st.1 + 1, st.2.1, st.2.2) (by show st.1 + 1 ≤ s; omega)
        generalize ch B s (un B s u d) (st.1 + 1, st.2.1, st.2.2) = r at *
        dsimp only at q s1 ⊢
        obtain ⟨w1, w2⟩ := wnt_f (by decide) q
        obtain ⟨x1, x2⟩ := s1 w1
        exact ⟨n1, by omega⟩
      · rw [if_neg e2] at q
        cases q
theorem psr_sg (hB : ∀ st : PSt, nx B s st ≠ -1 → ∃ x, x < 256 ∧ nx B s st = nI x) (hu : u < 3) (hf : (psr B s u).1.2.1 = false) : (psr B s u).1.2.2 = sgc (psr B s u).2.1 := by
  unfold psr at hf ⊢
  have := (ch_sg (un_g 5) (un_sg hB hu 5) (0, false, 0) (by show 0 ≤ s; omega) hf).2
  generalize ch B s (un B s u 5) (0, false, 0) = r at *
  dsimp only at this
  rw [this, Nat.zero_add]
end TD
