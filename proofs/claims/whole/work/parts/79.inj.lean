section IJ
variable {m : Nat → Nat → Int32} {r : Nat → Nat → Option Nat} {τ σ : St}
theorem sI_rl {k : Nat} {i v : Int32} (h : RT m r τ σ) (hk : 59 ≤ k) : Rl (RT m r) (sI τ k i v) (sI σ k i v) := by
  obtain ⟨hW, rfl⟩ := h
  unfold sI
  rw [arL_ov]
  refine Rl.bind (R := fun a b => b = a ∧ k < τ.2.2) (fun a ha => ⟨a, ha, rfl, arL_lt ha⟩) fun a b e => ?_
  obtain ⟨rfl, hl⟩ := e
  refine Rl.ite Iff.rfl (fun _ => Rl.some ⟨hW, ?_⟩) (fun _ => Rl.none)
  rw [ov_hi1 hk hl, ov_up1 hk hl]
theorem sQ_rl {t c k q : Nat} {i : Int32} (h : RT m r τ σ) (hk : 59 ≤ k) (hq : 59 ≤ q) : Rl (RT m r) (sQ τ t c k i q) (sQ σ t c k i q) := by
  obtain ⟨hW, rfl⟩ := h
  unfold sQ
  refine Rl.ite (by rw [isO_ov]) (fun _ => ?_) (fun _ => Rl.none)
  rw [arL_ov]
  refine Rl.bind (R := fun a b => b = a ∧ k < τ.2.2) (fun a ha => ⟨a, ha, rfl, arL_lt ha⟩) fun a b e => ?_
  obtain ⟨rfl, hl⟩ := e
  refine Rl.ite Iff.rfl (fun _ => Rl.some ⟨⟨hW.1, fun k2 f2 q2 h1 h1b h2 => ?_⟩, ?_⟩) (fun _ => Rl.none)
  · dsimp only at h2
    unfold upR at h2
    by_cases e : k2 = k
    · rw [if_pos e] at h2
      unfold up1 at h2
      by_cases e2 : f2 = i.toNatClampNeg
      · rw [if_pos e2] at h2; cases h2; exact hq
      · rw [if_neg e2] at h2; exact hW.2 k f2 q2 hk hl h2
    · rw [if_neg e] at h2; exact hW.2 k2 f2 q2 h1 h1b h2
  · rw [ov_hi2 hk hl, ov_up2 hk hl]
theorem al_rl {k : Nat} (hk : 59 ≤ k) : ∀ n x τ σ, RT m r τ σ → Rl (RP m r) (f_X5_add_L15 k n x τ) (f_X5_add_L15 k n x σ) := by
  intro n
  induction n with
  | zero => intro x τ σ _; exact Rl.none
  | succ n ih =>
    intro x τ σ h
    rw [f_X5_add_L15, f_X5_add_L15]
    refine (gI_rl h hk).bind fun a b e => ?_
    subst e
    refine Rl.ite Iff.rfl (fun _ => Rl.some ⟨rfl, h⟩) (fun _ => ?_)
    refine (gQ_rl h hk).bind fun q q' hq => ?_
    obtain ⟨rfl, hq⟩ := hq
    refine (gI_rl h hk).bind fun a1 b1 e1 => ?_
    subst e1
    refine (gI_rl h hk).bind fun a2 b2 e2 => ?_
    subst e2
    exact (sI_rl h hq).bind fun s t hs => ih _ s t hs
theorem a5_rl {k : Nat} (h : RT m r τ σ) (hk : 59 ≤ k) : Rl (RP m r) (f_X5_add τ k) (f_X5_add σ k) := by
  unfold f_X5_add
  refine Rl.ite h.o (fun _ => ?_) (fun _ => Rl.none)
  refine (gI_rl h hk).bind fun a b e => ?_
  subst e
  refine (gI_rl h hk).bind fun a1 b1 e1 => ?_
  subst e1
  refine Rl.ite Iff.rfl (fun _ => ?_) (fun _ => Rl.some ⟨rfl, h⟩)
  refine (al_rl hk _ _ _ _ h).bind fun p q hp => ?_
  refine (gI_rl hp.2 hk).bind fun a2 b2 e2 => ?_
  subst e2
  refine (pI_rl hp.2 hk).bind fun s t hs => ?_
  refine (gI_rl hs hk).bind fun a3 b3 e3 => ?_
  subst e3
  exact Rl.some ⟨rfl, hs⟩
theorem s5_rl {k : Nat} {a0 a1 a2 : Int32} (h : RT m r τ σ) (hk : 59 ≤ k) : Rl (RT m r) (f_X5_set τ k a0 a1 a2) (f_X5_set σ k a0 a1 a2) := by
  unfold f_X5_set
  refine Rl.ite h.o (fun _ => ?_) (fun _ => Rl.none)
  refine Rl.ite Iff.rfl (fun _ => Rl.some h) (fun _ => ?_)
  refine (gI_rl h hk).bind fun a b e => ?_
  subst e
  refine Rl.ite Iff.rfl (fun _ => Rl.some h) (fun _ => ?_)
  refine Rl.ite Iff.rfl (fun _ => Rl.some h) (fun _ => ?_)
  refine (gI_rl h hk).bind fun a3 b3 e3 => ?_
  subst e3
  refine Rl.ite Iff.rfl (fun _ => Rl.some h) (fun _ => ?_)
  refine (gQ_rl h hk).bind fun q q' hq => ?_
  obtain ⟨rfl, hq⟩ := hq
  refine (gI_rl h hk).bind fun a4 b4 e4 => ?_
  subst e4
  exact (sI_rl h hq).bind fun s t hs => Rl.some hs
theorem l136_rl {k : Nat} (hk : 59 ≤ k) : ∀ n x τ σ, RT m r τ σ → Rl (RP m r) (f_X4_init_L136 k n x τ) (f_X4_init_L136 k n x σ) := by
  intro n
  induction n with
  | zero => intro x τ σ _; exact Rl.none
  | succ n ih =>
    intro x τ σ h
    rw [f_X4_init_L136, f_X4_init_L136]
    refine Rl.ite Iff.rfl (fun _ => Rl.some ⟨rfl, h⟩) (fun _ => ?_)
    refine (gQ_rl h hk).bind fun q q' hq => ?_
    obtain ⟨rfl, hq⟩ := hq
    refine (gQ_rl h hk).bind fun q2 q2' hq2 => ?_
    obtain ⟨rfl, hq2⟩ := hq2
    refine (a5_rl h hq2).bind fun p p' hp => ?_
    obtain ⟨p1, p2⟩ := p
    obtain ⟨p3, p4⟩ := p'
    obtain ⟨hp1, hp2⟩ := hp
    dsimp only at hp1 hp2 ⊢
    subst hp1
    exact (s5_rl hp2 hq).bind fun s t hs => ih _ s t hs
theorem l165_rl {k : Nat} (hk : 59 ≤ k) : ∀ n x τ σ, RT m r τ σ → Rl (RP m r) (f_X4_init_L165 k n x τ) (f_X4_init_L165 k n x σ) := by
  intro n
  induction n with
  | zero => intro x τ σ _; exact Rl.none
  | succ n ih =>
    intro x τ σ h
    rw [f_X4_init_L165, f_X4_init_L165]
    refine (gQ_rl h hk).bind fun q q' hq => ?_
    obtain ⟨rfl, hq⟩ := hq
    rw [aL_rl h]
    refine Rl.bind (R := fun a b => b = a) (fun a ha => ⟨a, ha, rfl⟩) fun a b e => ?_
    subst e
    refine Rl.ite Iff.rfl (fun _ => Rl.some ⟨rfl, h⟩) (fun _ => ?_)
    refine (gQ_rl h hk).bind fun q2 q2' hq2 => ?_
    obtain ⟨rfl, hq2⟩ := hq2
    rw [h.n]
    exact (nwO_rl h).bind fun s t hs => (i1_rl hs h.1.1).bind fun s2 t2 hs2 => (sQ_rl hs2 hq2 h.1.1).bind fun s3 t3 hs3 => ih _ s3 t3 hs3
/-- one table made and laid into the State -/
theorem tb_rl {k f : Nat} {a0 a1 : Int32} {T : St → St → Prop} {F G : St → Option St} (h : RT m r τ σ) (hk : 59 ≤ k) (hF : ∀ s t, RT m r s t → Rl T (F s) (G t)) : Rl T ((nwO τ 4).bind fun s2 => (f_X5_init s2 τ.2.2 a0 a1).bind fun s4 => (pQ s4 3 k f τ.2.2).bind F) ((nwO σ 4).bind fun s2 => (f_X5_init s2 σ.2.2 a0 a1).bind fun s4 => (pQ s4 3 k f σ.2.2).bind G) := by
  rw [h.n]
  exact (nwO_rl h).bind fun s t hs => (i5_rl hs h.1.1).bind fun s2 t2 hs2 => (pQ_rl hs2 hk h.1.1).bind fun s3 t3 hs3 => hF s3 t3 hs3
theorem i4_rl {k : Nat} (h : RT m r τ σ) (hk : 59 ≤ k) : Rl (RT m r) (f_X4_init τ k) (f_X4_init σ k) := by
  unfold f_X4_init
  refine Rl.ite h.o (fun _ => ?_) (fun _ => Rl.none)
  refine tb_rl h hk fun s1 t1 h1 => tb_rl h1 hk fun s2 t2 h2 => tb_rl h2 hk fun s3 t3 h3 => ?_
  rw [h3.n]
  refine (nwA_rl h3).bind fun s4 t4 h4 => (pQ_rl h4 hk h3.1.1).bind fun s5 t5 h5 => ?_
  refine tb_rl h5 hk fun s6 t6 h6 => tb_rl h6 hk fun s7 t7 h7 => tb_rl h7 hk fun s8 t8 h8 => tb_rl h8 hk fun s9 t9 h9 => ?_
  rw [h9.n]
  refine (nwO_rl h9).bind fun u1 v1 k1 => (i1_rl k1 h9.1.1).bind fun u2 v2 k2 => (pQ_rl k2 hk h9.1.1).bind fun u3 v3 k3 => ?_
  rw [k3.n]
  refine (nwA_rl k3).bind fun u4 v4 k4 => (pQ_rl k4 hk k3.1.1).bind fun u5 v5 k5 => (pI_rl k5 hk).bind fun u6 v6 k6 => ?_
  refine (l136_rl hk _ _ _ _ k6).bind fun p q hp => ?_
  refine (l165_rl hk _ _ _ _ hp.2).bind fun p2 q2 hp2 => ?_
  exact Rl.some hp2.2
def INI (σ : St) : Option St := (nwO σ 3).bind fun s => f_X4_init s σ.2.2
theorem INI_rl (h : RT m r τ σ) : Rl (RT m r) (INI τ) (INI σ) := by
  unfold INI
  rw [h.n]
  exact (nwO_rl h).bind fun s t hs => i4_rl hs h.1.1
end IJ
