/-! texts: what a code comes to -/
def dnv (op a c : Int32) : Int32 := if op = 20000 then (if a = 0 then 0 else (if c = 0 then 0 else 1)) else (if op = 20001 then (if a = 0 then (if c = 0 then 0 else 1) else 1) else (if op = 20002 then (if c ≤ a then 0 else 1) else (if op = 20003 then (if a = c then 1 else 0) else (if op = 20004 then (if a ≤ c then 0 else 1) else (if op = 20005 then a + c else (if op = 20006 then a - c else (if op = 20007 then a * c else (if op = 20008 then (if c = 0 then 0 else a / c) else (if c = 0 then 0 else irm a c)))))))))
theorem done8 {σ : St} {op a c : Int32} : f_X8_done σ op a c = some (dnv op a c) := by
  unfold f_X8_done dnv ne0
  repeat' split
  all_goals first | rfl | contradiction
theorem lvl_all {c : Int32} (h : lvl c ≠ -1) : c = 37 ∨ c = 38 ∨ c = 42 ∨ c = 43 ∨ c = 45 ∨ c = 47 ∨ c = 60 ∨ c = 61 ∨ c = 62 ∨ c = 124 := by
  refine Classical.byContradiction (fun hn => h ?_)
  have h37 : ¬ c = 37 := fun y => hn (Or.inl y)
  have h38 : ¬ c = 38 := fun y => hn (Or.inr (Or.inl y))
  have h42 : ¬ c = 42 := fun y => hn (Or.inr (Or.inr (Or.inl y)))
  have h43 : ¬ c = 43 := fun y => hn (Or.inr (Or.inr (Or.inr (Or.inl y))))
  have h45 : ¬ c = 45 := fun y => hn (Or.inr (Or.inr (Or.inr (Or.inr (Or.inl y)))))
  have h47 : ¬ c = 47 := fun y => hn (Or.inr (Or.inr (Or.inr (Or.inr (Or.inr (Or.inl y))))))
  have h60 : ¬ c = 60 := fun y => hn (Or.inr (Or.inr (Or.inr (Or.inr (Or.inr (Or.inr (Or.inl y)))))))
  have h61 : ¬ c = 61 := fun y => hn (Or.inr (Or.inr (Or.inr (Or.inr (Or.inr (Or.inr (Or.inr (Or.inl y))))))))
  have h62 : ¬ c = 62 := fun y => hn (Or.inr (Or.inr (Or.inr (Or.inr (Or.inr (Or.inr (Or.inr (Or.inr (Or.inl y)))))))))
  have h124 : ¬ c = 124 := fun y => hn (Or.inr (Or.inr (Or.inr (Or.inr (Or.inr (Or.inr (Or.inr (Or.inr (Or.inr (y))))))))))
  unfold lvl
  rw [if_neg h37, if_neg h38, if_neg h42, if_neg h43, if_neg h45, if_neg h47, if_neg h60, if_neg h61, if_neg h62, if_neg h124]
theorem dnv_opc {c x y : Int32} (h : lvl c ≠ -1) : dnv (opc c) x y = jnv c x y := by
  rcases lvl_all h with rfl | rfl | rfl | rfl | rfl | rfl | rfl | rfl | rfl | rfl
  · rw [show opc 37 = 20009 by decide]
    unfold dnv jnv
    rw [if_neg (show ¬ (20009 : Int32) = 20000 by decide), if_neg (show ¬ (20009 : Int32) = 20001 by decide), if_neg (show ¬ (20009 : Int32) = 20002 by decide), if_neg (show ¬ (20009 : Int32) = 20003 by decide), if_neg (show ¬ (20009 : Int32) = 20004 by decide), if_neg (show ¬ (20009 : Int32) = 20005 by decide), if_neg (show ¬ (20009 : Int32) = 20006 by decide), if_neg (show ¬ (20009 : Int32) = 20007 by decide), if_neg (show ¬ (20009 : Int32) = 20008 by decide), if_neg (show ¬ (37 : Int32) = 38 by decide), if_neg (show ¬ (37 : Int32) = 42 by decide), if_neg (show ¬ (37 : Int32) = 43 by decide), if_neg (show ¬ (37 : Int32) = 45 by decide), if_neg (show ¬ (37 : Int32) = 47 by decide), if_neg (show ¬ (37 : Int32) = 60 by decide), if_neg (show ¬ (37 : Int32) = 61 by decide), if_neg (show ¬ (37 : Int32) = 62 by decide), if_neg (show ¬ (37 : Int32) = 124 by decide)]
  · rw [show opc 38 = 20000 by decide]
    unfold dnv jnv
    rw [if_pos (show (20000 : Int32) = 20000 from rfl), if_pos (show (38 : Int32) = 38 from rfl)]
  · rw [show opc 42 = 20007 by decide]
    unfold dnv jnv
    rw [if_neg (show ¬ (20007 : Int32) = 20000 by decide), if_neg (show ¬ (20007 : Int32) = 20001 by decide), if_neg (show ¬ (20007 : Int32) = 20002 by decide), if_neg (show ¬ (20007 : Int32) = 20003 by decide), if_neg (show ¬ (20007 : Int32) = 20004 by decide), if_neg (show ¬ (20007 : Int32) = 20005 by decide), if_neg (show ¬ (20007 : Int32) = 20006 by decide), if_pos (show (20007 : Int32) = 20007 from rfl), if_neg (show ¬ (42 : Int32) = 38 by decide), if_pos (show (42 : Int32) = 42 from rfl)]
  · rw [show opc 43 = 20005 by decide]
    unfold dnv jnv
    rw [if_neg (show ¬ (20005 : Int32) = 20000 by decide), if_neg (show ¬ (20005 : Int32) = 20001 by decide), if_neg (show ¬ (20005 : Int32) = 20002 by decide), if_neg (show ¬ (20005 : Int32) = 20003 by decide), if_neg (show ¬ (20005 : Int32) = 20004 by decide), if_pos (show (20005 : Int32) = 20005 from rfl), if_neg (show ¬ (43 : Int32) = 38 by decide), if_neg (show ¬ (43 : Int32) = 42 by decide), if_pos (show (43 : Int32) = 43 from rfl)]
  · rw [show opc 45 = 20006 by decide]
    unfold dnv jnv
    rw [if_neg (show ¬ (20006 : Int32) = 20000 by decide), if_neg (show ¬ (20006 : Int32) = 20001 by decide), if_neg (show ¬ (20006 : Int32) = 20002 by decide), if_neg (show ¬ (20006 : Int32) = 20003 by decide), if_neg (show ¬ (20006 : Int32) = 20004 by decide), if_neg (show ¬ (20006 : Int32) = 20005 by decide), if_pos (show (20006 : Int32) = 20006 from rfl), if_neg (show ¬ (45 : Int32) = 38 by decide), if_neg (show ¬ (45 : Int32) = 42 by decide), if_neg (show ¬ (45 : Int32) = 43 by decide), if_pos (show (45 : Int32) = 45 from rfl)]
  · rw [show opc 47 = 20008 by decide]
    unfold dnv jnv
    rw [if_neg (show ¬ (20008 : Int32) = 20000 by decide), if_neg (show ¬ (20008 : Int32) = 20001 by decide), if_neg (show ¬ (20008 : Int32) = 20002 by decide), if_neg (show ¬ (20008 : Int32) = 20003 by decide), if_neg (show ¬ (20008 : Int32) = 20004 by decide), if_neg (show ¬ (20008 : Int32) = 20005 by decide), if_neg (show ¬ (20008 : Int32) = 20006 by decide), if_neg (show ¬ (20008 : Int32) = 20007 by decide), if_pos (show (20008 : Int32) = 20008 from rfl), if_neg (show ¬ (47 : Int32) = 38 by decide), if_neg (show ¬ (47 : Int32) = 42 by decide), if_neg (show ¬ (47 : Int32) = 43 by decide), if_neg (show ¬ (47 : Int32) = 45 by decide), if_pos (show (47 : Int32) = 47 from rfl)]
  · rw [show opc 60 = 20002 by decide]
    unfold dnv jnv
    rw [if_neg (show ¬ (20002 : Int32) = 20000 by decide), if_neg (show ¬ (20002 : Int32) = 20001 by decide), if_pos (show (20002 : Int32) = 20002 from rfl), if_neg (show ¬ (60 : Int32) = 38 by decide), if_neg (show ¬ (60 : Int32) = 42 by decide), if_neg (show ¬ (60 : Int32) = 43 by decide), if_neg (show ¬ (60 : Int32) = 45 by decide), if_neg (show ¬ (60 : Int32) = 47 by decide), if_pos (show (60 : Int32) = 60 from rfl)]
  · rw [show opc 61 = 20003 by decide]
    unfold dnv jnv
    rw [if_neg (show ¬ (20003 : Int32) = 20000 by decide), if_neg (show ¬ (20003 : Int32) = 20001 by decide), if_neg (show ¬ (20003 : Int32) = 20002 by decide), if_pos (show (20003 : Int32) = 20003 from rfl), if_neg (show ¬ (61 : Int32) = 38 by decide), if_neg (show ¬ (61 : Int32) = 42 by decide), if_neg (show ¬ (61 : Int32) = 43 by decide), if_neg (show ¬ (61 : Int32) = 45 by decide), if_neg (show ¬ (61 : Int32) = 47 by decide), if_neg (show ¬ (61 : Int32) = 60 by decide), if_pos (show (61 : Int32) = 61 from rfl)]
  · rw [show opc 62 = 20004 by decide]
    unfold dnv jnv
    rw [if_neg (show ¬ (20004 : Int32) = 20000 by decide), if_neg (show ¬ (20004 : Int32) = 20001 by decide), if_neg (show ¬ (20004 : Int32) = 20002 by decide), if_neg (show ¬ (20004 : Int32) = 20003 by decide), if_pos (show (20004 : Int32) = 20004 from rfl), if_neg (show ¬ (62 : Int32) = 38 by decide), if_neg (show ¬ (62 : Int32) = 42 by decide), if_neg (show ¬ (62 : Int32) = 43 by decide), if_neg (show ¬ (62 : Int32) = 45 by decide), if_neg (show ¬ (62 : Int32) = 47 by decide), if_neg (show ¬ (62 : Int32) = 60 by decide), if_neg (show ¬ (62 : Int32) = 61 by decide), if_pos (show (62 : Int32) = 62 from rfl)]
  · rw [show opc 124 = 20001 by decide]
    unfold dnv jnv
    rw [if_neg (show ¬ (20001 : Int32) = 20000 by decide), if_pos (show (20001 : Int32) = 20001 from rfl), if_neg (show ¬ (124 : Int32) = 38 by decide), if_neg (show ¬ (124 : Int32) = 42 by decide), if_neg (show ¬ (124 : Int32) = 43 by decide), if_neg (show ¬ (124 : Int32) = 45 by decide), if_neg (show ¬ (124 : Int32) = 47 by decide), if_neg (show ¬ (124 : Int32) = 60 by decide), if_neg (show ¬ (124 : Int32) = 61 by decide), if_neg (show ¬ (124 : Int32) = 62 by decide), if_pos (show (124 : Int32) = 124 from rfl)]
def ev1 (e : Nat → Int32) (c : Int32) (S : List Int32) : Option (List Int32) := if 20000 ≤ c then (if c = 20010 then (match S with | x :: T => some ((-x) :: T) | _ => none) else (if c = 20011 then (match S with | z :: y :: x :: T => some ((if x = 0 then z else y) :: T) | _ => none) else (match S with | y :: x :: T => some (dnv c x y :: T) | _ => none))) else (if 10000 ≤ c then (if c = 10000 then some (e 0 :: S) else if c = 10001 then some (e 1 :: S) else if c = 10002 then some (e 2 :: S) else none) else some (c :: S))
def evl (e : Nat → Int32) : List Int32 → List Int32 → Option (List Int32)
  | [], S => some S
  | c :: r, S => (ev1 e c S).bind (evl e r)
theorem evl_app {e : Nat → Int32} : ∀ (a c S : List Int32), evl e (a ++ c) S = (evl e a S).bind (evl e c)
  | [], c, S => rfl
  | x :: a, c, S => by
    show (ev1 e x S).bind (evl e (a ++ c)) = ((ev1 e x S).bind (evl e a)).bind (evl e c)
    cases ev1 e x S with
    | none => rfl
    | some T => exact evl_app a c T
theorem evl_1 {e : Nat → Int32} {c : Int32} {S : List Int32} : evl e [c] S = ev1 e c S := by
  show (ev1 e c S).bind (fun T => some T) = _
  cases ev1 e c S <;> rfl
theorem ev_op {e : Nat → Int32} {c x y : Int32} {S : List Int32} (h : lvl c ≠ -1) : ev1 e (opc c) (y :: x :: S) = some (jnv c x y :: S) := by
  have hA : ∀ c : Int32, 20000 ≤ opc c ∧ ¬ opc c = 20010 ∧ ¬ opc c = 20011 := fun c => by
    unfold opc
    repeat' split
    all_goals decide
  obtain ⟨a1, a2, a3⟩ := hA c
  unfold ev1
  rw [if_pos a1, if_neg a2, if_neg a3]
  show some (dnv (opc c) x y :: S) = _
  rw [dnv_opc h]
section TE
variable {B : Nat → Int32} {s u : Nat}
def EvP (B : Nat → Int32) (s : Nat) (p : PSt → PR) : Prop := ∀ st, st.1 ≤ s → (p st).1.2.1 = false → ∀ e S, evl e (p st).2.1 S = some ((p st).2.2 e :: S)
theorem em_f {fl : Bool} {c : Int32} (h : fl = false) : em fl c = [c] := by unfold em; rw [h, if_neg (by decide)]
theorem lp_ev {p : PSt → PR} {l : Int32} (hl : l ≠ -1) (hg : Gd1 B s p) (hsg : SgP B s p) (hp : EvP B s p) : ∀ k (r : PR), r.1.1 ≤ s → (lp B s p l k r).1.2.1 = false → (∀ e S, evl e r.2.1 S = some (r.2.2 e :: S)) → ∀ e S, evl e (lp B s p l k r).2.1 S = some ((lp B s p l k r).2.2 e :: S)
  | 0, r, h, hf, hr => hr
  | k + 1, r, h, hf, hr => by
    unfold lp at hf ⊢
    by_cases hc : lvl (nx B s r.1) = l
    · rw [if_pos hc] at hf ⊢
      have hn : nx B s r.1 ≠ -1 := fun q => hl (by rw [← hc, q, lvl_m1])
      obtain ⟨n1, n2⟩ := nx_m1 hn
      have hle : (r.1.1 + 1, r.1.2.1, r.1.2.2 + 1).1 ≤ s := by show r.1.1 + 1 ≤ s; omega
      have hg1 := hg _ hle
      have hp1 := hp _ hle
      have hs1 := lp_sg hl hg hsg k ((p (r.1.1 + 1, r.1.2.1, r.1.2.2 + 1)).1, r.2.1 ++ (p (r.1.1 + 1, r.1.2.1, r.1.2.2 + 1)).2.1 ++ em (p (r.1.1 + 1, r.1.2.1, r.1.2.2 + 1)).1.2.1 (opc (nx B s r.1)), fun e => jnv (nx B s r.1) (r.2.2 e) ((p (r.1.1 + 1, r.1.2.1, r.1.2.2 + 1)).2.2 e)) hg1.2.1 hf
      have hf2 : (p (r.1.1 + 1, r.1.2.1, r.1.2.2 + 1)).1.2.1 = false := hs1.1
      generalize p (r.1.1 + 1, r.1.2.1, r.1.2.2 + 1) = r2 at *
      refine lp_ev hl hg hsg hp k (r2.1, r.2.1 ++ r2.2.1 ++ em r2.1.2.1 (opc (nx B s r.1)), fun e => jnv (nx B s r.1) (r.2.2 e) (r2.2.2 e)) hg1.2.1 hf (fun e S => ?_)
      dsimp only
      rw [evl_app, evl_app, hr, Option.bind_some, hp1 hf2, Option.bind_some, em_f hf2, evl_1, ev_op (by rw [hc]; exact hl)]
    · rw [if_neg hc] at hf ⊢
      exact hr
theorem lev_ev {p : PSt → PR} {l : Int32} (hl : l ≠ -1) (hg : Gd1 B s p) (hsg : SgP B s p) (hp : EvP B s p) : EvP B s (lev B s l p) := by
  intro st h hf
  unfold lev at hf ⊢
  have h1 := (lp_sg hl hg hsg (if l = 1 then 1 else 56) (p st) (hg st h).2.1 hf).1
  exact lp_ev hl hg hsg hp (if l = 1 then 1 else 56) (p st) (hg st h).2.1 hf (hp st h h1)
theorem j0_ev {p : PSt → PR} (hg : Gd1 B s p) (hsg : SgP B s p) (hp : EvP B s p) : EvP B s (j0 B s p) := by
  have g3 := lev_g (B := B) (s := s) (l := 3) (by decide) hg
  have g2 := lev_g (B := B) (s := s) (l := 2) (by decide) g3
  have g1 := lev_g (B := B) (s := s) (l := 1) (by decide) g2
  have s3 := lev_sg (B := B) (s := s) (l := 3) (by decide) hg hsg
  have s2 := lev_sg (B := B) (s := s) (l := 2) (by decide) g3 s3
  have s1 := lev_sg (B := B) (s := s) (l := 1) (by decide) g2 s2
  exact lev_ev (by decide) g1 s1 (lev_ev (by decide) g2 s2 (lev_ev (by decide) g3 s3 (lev_ev (by decide) hg hsg hp)))
theorem ch_ev {p : PSt → PR} (hg : Gd1 B s p) (hsg : SgP B s p) (hp : EvP B s p) : EvP B s (ch B s p) := by
  have gj := j0_g hg
  have sj := j0_sg hg hsg
  have ej := j0_ev hg hsg hp
  intro st h hf
  unfold ch ch2 at hf ⊢
  have e1 := ej st h
  obtain ⟨g1, g2, g3⟩ := gj st h
  generalize j0 B s p st = r at *
  by_cases e : nx B s r.1 = 63
  · rw [if_pos e] at hf ⊢
    obtain ⟨n1, n2⟩ := nx_m1 (B := B) (s := s) (st := r.1) (by rw [e]; decide)
    have hle : (r.1.1 + 1, r.1.2.1, r.1.2.2 + 1).1 ≤ s := by show r.1.1 + 1 ≤ s; omega
    have e2 := ej _ hle
    obtain ⟨a1, a2, a3⟩ := gj _ hle
    generalize j0 B s p (r.1.1 + 1, r.1.2.1, r.1.2.2 + 1) = r2 at *
    have w := wnt_f (B := B) (s := s) (st := r2.1) (c := 58) (by decide)
    obtain ⟨w1, w2, w3, w4⟩ := wnt_g (B := B) (s := s) (st := r2.1) (c := 58) (by decide) a2
    generalize wnt B s 58 r2.1 = st3 at *
    unfold ch3 at hf ⊢
    by_cases f3 : st3.2.1 = true
    · rw [if_pos f3] at hf
      rw [f3] at hf
      cases hf
    · rw [if_neg f3] at hf ⊢
      have hf3 : st3.2.1 = false := Bool.eq_false_iff.mpr f3
      obtain ⟨x1, x2⟩ := w hf3
      have e3 := ej st3 w2
      generalize j0 B s p st3 = r3 at *
      dsimp only at hf ⊢
      intro en S
      rw [evl_app, evl_app, evl_app, e1 n1, Option.bind_some, e2 x1, Option.bind_some, e3 hf, Option.bind_some, em_f hf, evl_1]
      rfl
  · rw [if_neg e] at hf ⊢
    exact e1 hf
theorem un_ev (hB : ∀ st : PSt, nx B s st ≠ -1 → ∃ x, x < 256 ∧ nx B s st = nI x) (hu : u < 3) : ∀ d, EvP B s (un B s u d) := by
  have A : ∀ (st : PSt) (z : PR), st.1 ≤ s → (z.1.2.1 = false → ∀ e S, evl e z.2.1 S = some (z.2.2 e :: S)) → (unA B s u st z).1.2.1 = false → ∀ e S, evl e (unA B s u st z).2.1 S = some ((unA B s u st z).2.2 e :: S) := by
    intro st z h hz hf e S
    unfold unA at hf ⊢
    by_cases hd : 48 ≤ nx B s st ∧ nx B s st ≤ 57
    · rw [if_pos hd] at hf ⊢
      obtain ⟨w, e1, e2, e3⟩ := num_4 (B := B) (s := s) (st := st)
      unfold unN
      dsimp only
      rw [e1, evl_1]
      unfold ev1
      rw [if_neg (show ¬ (20000 : Int32) ≤ nI w from nI_ge (b := 20000) (by omega) (by decide)), if_neg (show ¬ (10000 : Int32) ≤ nI w from nI_ge (b := 10000) (by omega) (by decide))]
    · rw [if_neg hd] at hf ⊢
      cases hm : nmi u (nx B s st) with
      | none =>
        rw [hm] at hf
        exact hz hf e S
      | some i =>
        have hn : nx B s st ≠ -1 := fun q => by rw [q, nmi_m1] at hm; cases hm
        obtain ⟨x, hx, ex⟩ := hB st hn
        have hi3 : i < 3 := by rw [ex] at hm; exact nmi_lt u hu x hx i hm
        have : i = 0 ∨ i = 1 ∨ i = 2 := by omega
        show evl e [10000 + nI i] S = some (e i :: S)
        rw [evl_1]
        rcases this with rfl | rfl | rfl
        · rfl
        · rfl
        · rfl
  intro d
  induction d with
  | zero =>
    intro st h hf
    unfold un at hf ⊢
    exact A st (unF st) h (fun q => by cases q) hf
  | succ d ih =>
    intro st h hf
    unfold un at hf ⊢
    refine A st _ h (fun q => ?_) hf
    by_cases e : nx B s st = 45
    · rw [if_pos e] at q ⊢
      obtain ⟨n1, n2⟩ := nx_m1 (B := B) (s := s) (st := st) (by rw [e]; decide)
      have s1 := ih (st.1 + 1, st.2.1, st.2.2 + 1) (by show st.1 + 1 ≤ s; omega)
      generalize un B s u d (st.1 + 1, st.2.1, st.2.2 + 1) = r at *
      dsimp only at q s1 ⊢
      intro en S
      rw [evl_app, s1 q, Option.bind_some, em_f q, evl_1]
      rfl
    · rw [if_neg e] at q ⊢
      by_cases e2 : nx B s st = 40
      · rw [if_pos e2] at q ⊢
        obtain ⟨n1, n2⟩ := nx_m1 (B := B) (s := s) (st := st) (by rw [e2]; decide)
        have s1 := ch_ev (un_g d) (un_sg hB hu d) ih (st.1 + 1, st.2.1, st.2.2) (by show st.1 + 1 ≤ s; omega)
        generalize ch B s (un B s u d) (st.1 + 1, st.2.1, st.2.2) = r at *
        dsimp only at q s1 ⊢
        exact s1 (wnt_f (by decide) q).1
      · rw [if_neg e2] at q
        cases q
theorem psr_ev (hB : ∀ st : PSt, nx B s st ≠ -1 → ∃ x, x < 256 ∧ nx B s st = nI x) (hu : u < 3) (hf : (psr B s u).1.2.1 = false) (e : Nat → Int32) (S : List Int32) : evl e (psr B s u).2.1 S = some ((psr B s u).2.2 e :: S) := by
  unfold psr at hf ⊢
  exact ch_ev (un_g 5) (un_sg hB hu 5) (un_ev hB hu 5) (0, false, 0) (by show 0 ≤ s; omega) hf e S
end TE
def PlR (M : Nat → Nat → Int32) : List Int32 → Prop
  | [] => True
  | x :: T => M 49 T.length = x ∧ PlR M T
theorem PlR_st {M : Nat → Nat → Int32} {v : Int32} {j : Nat} : ∀ T : List Int32, T.length ≤ j → PlR M T → PlR (st1 M 49 j v) T
  | [], _, _ => trivial
  | x :: T, h, hP => by
    have hl : T.length + 1 ≤ j := h
    exact ⟨by rw [st1_nf (show T.length ≠ j by omega)]; exact hP.1, PlR_st T (by omega) hP.2⟩
section TF
variable {m : Nat → Nat → Int32} {kp : Bool} {b : Option Nat}
theorem rd48_0 {M : Nat → Nat → Int32} : aI (mkS M kp b) 0 48 0 = some (M 48 0) := rd_48 (i := 0) (by decide)
theorem rd48_1 {M : Nat → Nat → Int32} : aI (mkS M kp b) 0 48 1 = some (M 48 1) := rd_48 (i := 1) (by decide)
theorem rd48_2 {M : Nat → Nat → Int32} : aI (mkS M kp b) 0 48 2 = some (M 48 2) := rd_48 (i := 2) (by decide)
theorem giv84 {F q : Nat} {e : Nat → Int32} (hF : 1 ≤ F) (hFq : F + q ≤ 1234) (hq : q ≤ 56) : ∀ (cs : List Int32) i f (S S' : List Int32) (M : Nat → Nat → Int32), i + cs.length = q → cs.length < f → S.length + cs.length ≤ 56 → M 43 (F - 1) = nI q → (∀ k, k < cs.length → cs[k]? = some (M 43 (F + i + k))) → (M 48 0 = e 0 ∧ M 48 1 = e 1 ∧ M 48 2 = e 2) → PlR M S → evl e cs S = some S' → ∃ M' y, f_X8_given_L84 (nI F) 42 f (nI (F + i)) (nI S.length) (mkS M kp b) = some (y, nI S'.length, mkS M' kp b) ∧ PlR M' S' ∧ ∀ k, k ≠ 49 → M' k = M k := by
  intro cs
  induction cs with
  | nil =>
    intro i f S S' M h1 h2 h3 h4 h5 h6 h7 h8
    obtain ⟨f, rfl⟩ : ∃ k, f = k + 1 := ⟨f - 1, by omega⟩
    have hi : i = q := h1
    have e0 : S = S' := by have : some S = some S' := h8; cases this; rfl
    subst e0
    refine ⟨M, nI (F + i), ?_, h7, fun k _ => rfl⟩
    rw [f_X8_given_L84, gq_42_0, Option.bind_some, subj hF, rd_43 (by omega), Option.bind_some, h4, nI_add, if_pos (nI_le (by omega) (by omega))]
  | cons c r ih =>
    intro i f S S' M h1 h2 h3 h4 h5 h6 h7 h8
    obtain ⟨f, rfl⟩ : ∃ k, f = k + 1 := ⟨f - 1, by omega⟩
    have hlen : (c :: r).length = r.length + 1 := rfl
    rw [hlen] at h1 h2 h3
    have hc : M 43 (F + i) = c := by
      have := h5 0 (by rw [hlen]; omega)
      rw [Nat.add_zero] at this
      cases this
      rfl
    have hi : (ev1 e c S).bind (evl e r) = some S' := h8
    -- one code, then the rest
    have next : ∀ (S1 : List Int32) (M1 : Nat → Nat → Int32), S1.length + r.length ≤ 56 → (∀ k, k ≠ 49 → M1 k = M k) → PlR M1 S1 → evl e r S1 = some S' → ∃ M' y, f_X8_given_L84 (nI F) 42 f (nI (F + i) + 1) (nI S1.length) (mkS M1 kp b) = some (y, nI S'.length, mkS M' kp b) ∧ PlR M' S' ∧ ∀ k, k ≠ 49 → M' k = M k := by
      intro S1 M1 hl hM hP hev
      obtain ⟨M', y, e1, e2, e3⟩ := ih (i + 1) f S1 S' M1 (by omega) (by omega) hl (by rw [hM 43 (by decide)]; exact h4) (fun k hk => by
        have := h5 (k + 1) (by rw [hlen]; omega)
        rw [hM 43 (by decide), show F + (i + 1) + k = F + i + (k + 1) by omega]
        exact this) (by rw [hM 48 (by decide)]; exact h6) hP hev
      rw [nI_a1]
      exact ⟨M', y, e1, e2, fun k hk => (e3 k hk).trans (hM k hk)⟩
    rw [f_X8_given_L84, gq_42_0, Option.bind_some, subj hF, rd_43 (by omega), Option.bind_some, h4, nI_add, if_neg (nI_ge (by omega) (by omega)), Option.bind_some, rd_43 (by omega), Option.bind_some, hc]
    unfold ev1 at hi
    by_cases c2 : 20000 ≤ c
    · rw [if_pos c2] at hi ⊢
      by_cases c10 : c = 20010
      · rw [if_pos c10] at hi ⊢
        cases S with
        | nil => cases hi
        | cons x T =>
          have hi' : evl e r ((-x) :: T) = some S' := hi
          have hl : (x :: T).length = T.length + 1 := rfl
          rw [hl] at h3 ⊢
          rw [gq_42_13, Option.bind_some, Option.bind_some, nI_pred, rd_49 (show T.length < 57 by omega), Option.bind_some, h7.1, wr_49 (show T.length < 57 by omega), Option.bind_some]
          exact next ((-x) :: T) (st1 M 49 T.length (-x)) (by show T.length + 1 + r.length ≤ 56; omega) (fun k hk => st1_ne hk) ⟨st1_eq, PlR_st T (Nat.le_refl _) h7.2⟩ hi'
      · rw [if_neg c10] at hi ⊢
        by_cases c11 : c = 20011
        · rw [if_pos c11] at hi ⊢
          match S, hi, h3, h7 with
          | [], hi, _, _ => cases hi
          | [_], hi, _, _ => cases hi
          | [_, _], hi, _, _ => cases hi
          | z :: y :: x :: T, hi, h3, h7 =>
            have hi' : evl e r ((if x = 0 then z else y) :: T) = some S' := hi
            have hl : (z :: y :: x :: T).length = T.length + 3 := rfl
            rw [hl] at h3 ⊢
            have e2 : nI (T.length + 3) + (-2) = nI (T.length + 1) := by
              rw [show (-2 : Int32) = (-1) + (-1) by decide, ← Int32.add_assoc, pk_m1, pk_m1]
            obtain ⟨p1, p2, p3, p4⟩ := h7
            have p2' : M 49 (T.length + 1) = y := p2
            have p1' : M 49 (T.length + 2) = z := p1
            rw [gq_42_13, Option.bind_some, Option.bind_some, e2, nI_pred, rd_49 (show T.length < 57 by omega), Option.bind_some, p3, nI_a1]
            by_cases x0 : x = 0
            · rw [if_pos x0] at hi' ⊢
              rw [Option.bind_some, rd_49 (show T.length + 1 + 1 < 57 by omega), Option.bind_some, p1', wr_49 (show T.length < 57 by omega), Option.bind_some]
              exact next (z :: T) (st1 M 49 T.length z) (by show T.length + 1 + r.length ≤ 56; omega) (fun k hk => st1_ne hk) ⟨st1_eq, PlR_st T (Nat.le_refl _) p4⟩ hi'
            · rw [if_neg x0] at hi' ⊢
              rw [Option.bind_some, rd_49 (show T.length + 1 < 57 by omega), Option.bind_some, p2', wr_49 (show T.length < 57 by omega), Option.bind_some]
              exact next (y :: T) (st1 M 49 T.length y) (by show T.length + 1 + r.length ≤ 56; omega) (fun k hk => st1_ne hk) ⟨st1_eq, PlR_st T (Nat.le_refl _) p4⟩ hi'
        · rw [if_neg c11] at hi ⊢
          match S, hi, h3, h7 with
          | [], hi, _, _ => cases hi
          | [_], hi, _, _ => cases hi
          | y :: x :: T, hi, h3, h7 =>
            have hi' : evl e r (dnv c x y :: T) = some S' := hi
            have hl : (y :: x :: T).length = T.length + 2 := rfl
            rw [hl] at h3 ⊢
            obtain ⟨p1, p2, p4⟩ := h7
            have p1' : M 49 (T.length + 1) = y := p1
            rw [gq_42_13, Option.bind_some, Option.bind_some, pk_m1, nI_pred, rd_49 (show T.length < 57 by omega), Option.bind_some, p2, Option.bind_some, rd_49 (show T.length + 1 < 57 by omega), Option.bind_some, p1', done8, Option.bind_some, wr_49 (show T.length < 57 by omega), Option.bind_some]
            exact next (dnv c x y :: T) (st1 M 49 T.length (dnv c x y)) (by show T.length + 1 + r.length ≤ 56; omega) (fun k hk => st1_ne hk) ⟨st1_eq, PlR_st T (Nat.le_refl _) p4⟩ hi'
    · rw [if_neg c2] at hi ⊢
      have psh : ∀ v, evl e r (v :: S) = some S' → ∃ M' y, f_X8_given_L84 (nI F) 42 f (nI (F + i) + 1) (nI S.length + 1) (mkS (st1 M 49 S.length v) kp b) = some (y, nI S'.length, mkS M' kp b) ∧ PlR M' S' ∧ ∀ k, k ≠ 49 → M' k = M k := fun v hv => by
        rw [nI_a1 (k := S.length)]
        exact next (v :: S) (st1 M 49 S.length v) (by show S.length + 1 + r.length ≤ 56; omega) (fun k hk => st1_ne hk) ⟨st1_eq, PlR_st S (Nat.le_refl _) h7⟩ hv
      rw [gq_42_13, Option.bind_some]
      by_cases c1 : 10000 ≤ c
      · rw [if_pos c1] at hi ⊢
        rw [gq_42_12, Option.bind_some]
        by_cases q0 : c = 10000
        · rw [if_pos q0] at hi
          rw [q0, show (10000 : Int32) - 10000 = 0 by decide, rd48_0, Option.bind_some, h6.1, wr_49 (show S.length < 57 by omega), Option.bind_some]
          exact psh _ hi
        · rw [if_neg q0] at hi
          by_cases q1 : c = 10001
          · rw [if_pos q1] at hi
            rw [q1, show (10001 : Int32) - 10000 = 1 by decide, rd48_1, Option.bind_some, h6.2.1, wr_49 (show S.length < 57 by omega), Option.bind_some]
            exact psh _ hi
          · rw [if_neg q1] at hi
            by_cases q2 : c = 10002
            · rw [if_pos q2] at hi
              rw [q2, show (10002 : Int32) - 10000 = 2 by decide, rd48_2, Option.bind_some, h6.2.2, wr_49 (show S.length < 57 by omega), Option.bind_some]
              exact psh _ hi
            · rw [if_neg q2] at hi
              cases hi
      · rw [if_neg c1] at hi ⊢
        rw [wr_49 (show S.length < 57 by omega), Option.bind_some]
        exact psh _ hi
end TF
