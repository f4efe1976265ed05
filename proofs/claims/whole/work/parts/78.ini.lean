/-! a State made anew: what lies below does not matter -/
def ov (m : Nat → Nat → Int32) (r : Nat → Nat → Option Nat) (τ : St) : St := (fun k => if k < 59 ∨ τ.2.2 ≤ k then m k else τ.1 k, fun k => if k < 59 ∨ τ.2.2 ≤ k then r k else τ.2.1 k, τ.2.2)
def WH (τ : St) : Prop := 59 ≤ τ.2.2 ∧ ∀ k f q, 59 ≤ k → k < τ.2.2 → τ.2.1 k f = some q → 59 ≤ q
def Rl {α β : Type} (R : α → β → Prop) (o : Option α) (p : Option β) : Prop := ∀ a, o = some a → ∃ b, p = some b ∧ R a b
def RT (m : Nat → Nat → Int32) (r : Nat → Nat → Option Nat) (τ σ : St) : Prop := WH τ ∧ σ = ov m r τ
def RQ (a b : Nat) : Prop := b = a ∧ 59 ≤ a
def RP (m : Nat → Nat → Int32) (r : Nat → Nat → Option Nat) (a b : Int32 × St) : Prop := b.1 = a.1 ∧ RT m r a.2 b.2
section IN
variable {m : Nat → Nat → Int32} {r : Nat → Nat → Option Nat} {τ σ : St}
theorem Rl.bind {α β γ δ : Type} {R : α → β → Prop} {T : γ → δ → Prop} {o : Option α} {p : Option β} {f : α → Option γ} {g : β → Option δ} (h : Rl R o p) (hf : ∀ a b, R a b → Rl T (f a) (g b)) : Rl T (o.bind f) (p.bind g) := by
  intro c hc
  obtain ⟨a, ha, hfa⟩ := Option.bind_eq_some_iff.mp hc
  obtain ⟨b, hb, hR⟩ := h a ha
  obtain ⟨d, hd, hT⟩ := hf a b hR c hfa
  exact ⟨d, by rw [hb]; exact hd, hT⟩
theorem Rl.some {α β : Type} {R : α → β → Prop} {a : α} {b : β} (h : R a b) : Rl R (some a) (some b) := fun c hc => ⟨b, rfl, by cases hc; exact h⟩
theorem Rl.ite {α β : Type} {R : α → β → Prop} {c c' : Prop} [Decidable c] [Decidable c'] {o o2 : Option α} {p p2 : Option β} (hc : c ↔ c') (h1 : c → Rl R o p) (h2 : ¬ c → Rl R o2 p2) : Rl R (if c then o else o2) (if c' then p else p2) := by
  by_cases h : c
  · rw [if_pos h, if_pos (hc.mp h)]; exact h1 h
  · rw [if_neg h, if_neg (fun y => h (hc.mpr y))]; exact h2 h
theorem Rl.none {α β : Type} {R : α → β → Prop} {p : Option β} : Rl R (none : Option α) p := fun a ha => by cases ha
theorem isO_ov {c k : Nat} : isO (ov m r τ) c k = isO τ c k := rfl
theorem arL_ov {t k : Nat} : arL (ov m r τ) t k = arL τ t k := rfl
theorem ov_hi1 {k : Nat} (h : 59 ≤ k) (h2 : k < τ.2.2) : (ov m r τ).1 k = τ.1 k := if_neg (by omega)
theorem ov_hi2 {k : Nat} (h : 59 ≤ k) (h2 : k < τ.2.2) : (ov m r τ).2.1 k = τ.2.1 k := if_neg (by omega)
theorem isO_lt {c k : Nat} (h : isO τ c k = true) : k < τ.2.2 := by
  unfold isO at h
  simp only [Bool.and_eq_true, decide_eq_true_eq] at h
  exact h.1.1
theorem arL_lt {t k n : Nat} (h : arL τ t k = some n) : k < τ.2.2 := by
  unfold arL at h
  by_cases hk : k < τ.2.2 ∧ k < 1000
  · exact hk.1
  · rw [if_neg hk] at h; cases h
theorem ov_up1 {k : Nat} {f : Nat → Int32} (h : 59 ≤ k) (h2 : k < τ.2.2) : (upI (ov m r τ).1 k f, (ov m r τ).2) = ov m r (upI τ.1 k f, τ.2) := by
  unfold ov
  congr 1
  funext j
  unfold upI
  dsimp only
  by_cases e : j = k
  · rw [if_pos e, if_neg (by omega), if_pos e]
  · rw [if_neg e, if_neg e]
theorem ov_up2 {k : Nat} {f : Nat → Option Nat} (h : 59 ≤ k) (h2 : k < τ.2.2) : ((ov m r τ).1, upR (ov m r τ).2.1 k f, (ov m r τ).2.2) = ov m r (τ.1, upR τ.2.1 k f, τ.2.2) := by
  unfold ov
  dsimp only
  congr 2
  funext j
  unfold upR
  by_cases e : j = k
  · rw [if_pos e, if_neg (by omega), if_pos e]
  · rw [if_neg e, if_neg e]
theorem pI_rl {c k f : Nat} {v : Int32} (h : RT m r τ σ) (hk : 59 ≤ k) : Rl (RT m r) (pI τ c k f v) (pI σ c k f v) := by
  obtain ⟨hW, rfl⟩ := h
  unfold pI
  refine Rl.ite (by rw [isO_ov]) (fun hO => Rl.some ⟨hW, ?_⟩) (fun _ => Rl.none)
  rw [ov_hi1 hk (isO_lt hO), ov_up1 hk (isO_lt hO)]
theorem pQ_rl {c k f q : Nat} (h : RT m r τ σ) (hk : 59 ≤ k) (hq : 59 ≤ q) : Rl (RT m r) (pQ τ c k f q) (pQ σ c k f q) := by
  obtain ⟨hW, rfl⟩ := h
  unfold pQ
  refine Rl.ite (by rw [isO_ov]) (fun hO => Rl.some ⟨⟨hW.1, fun k2 f2 q2 h1 h1b h2 => ?_⟩, ?_⟩) (fun _ => Rl.none)
  · dsimp only at h2
    unfold upR at h2
    by_cases e : k2 = k
    · rw [if_pos e] at h2
      unfold up1 at h2
      by_cases e2 : f2 = f
      · rw [if_pos e2] at h2; cases h2; exact hq
      · rw [if_neg e2] at h2; exact hW.2 k f2 q2 hk (isO_lt hO) h2
    · rw [if_neg e] at h2; exact hW.2 k2 f2 q2 h1 h1b h2
  · rw [ov_hi2 hk (isO_lt hO), ov_up2 hk (isO_lt hO)]
theorem gQ_rl {c k f : Nat} (h : RT m r τ σ) (hk : 59 ≤ k) : Rl RQ (gQ τ c k f) (gQ σ c k f) := by
  obtain ⟨hW, rfl⟩ := h
  unfold gQ
  refine Rl.ite (by rw [isO_ov]) (fun hO => ?_) (fun _ => Rl.none)
  rw [ov_hi2 hk (isO_lt hO)]
  exact fun a ha => ⟨a, ha, rfl, hW.2 k f a hk (isO_lt hO) ha⟩
theorem gI_rl {c k f : Nat} (h : RT m r τ σ) (hk : 59 ≤ k) : Rl (fun a b => b = a) (gI τ c k f) (gI σ c k f) := by
  obtain ⟨hW, rfl⟩ := h
  unfold gI
  refine Rl.ite (by rw [isO_ov]) (fun hO => Rl.some ?_) (fun _ => Rl.none)
  rw [ov_hi1 hk (isO_lt hO)]
theorem nw_rl {τ : St} (hW : WH τ) : RT m r (upI τ.1 τ.2.2 (fun _ => 0), upR τ.2.1 τ.2.2 (fun _ => none), τ.2.2 + 1) (upI (ov m r τ).1 τ.2.2 (fun _ => 0), upR (ov m r τ).2.1 τ.2.2 (fun _ => none), τ.2.2 + 1) := by
  have h59 := hW.1
  refine ⟨⟨by show 59 ≤ τ.2.2 + 1; omega, fun k2 f2 q2 h1 h1b h2 => ?_⟩, ?_⟩
  · dsimp only at h2 h1b
    unfold upR at h2
    by_cases e : k2 = τ.2.2
    · rw [if_pos e] at h2; cases h2
    · rw [if_neg e] at h2; exact hW.2 k2 f2 q2 h1 (by omega) h2
  · unfold ov
    dsimp only
    congr 1
    · funext j
      unfold upI
      by_cases e : j = τ.2.2
      · rw [if_pos e, if_neg (by omega), if_pos e]
      · rw [if_neg e, if_neg e]
        dsimp only
        by_cases e2 : j < 59 ∨ τ.2.2 ≤ j
        · rw [if_pos e2, if_pos (by omega)]
        · rw [if_neg e2, if_neg (by omega)]
    · congr 1
      funext j
      unfold upR
      by_cases e : j = τ.2.2
      · rw [if_pos e, if_neg (by omega), if_pos e]
      · rw [if_neg e, if_neg e]
        dsimp only
        by_cases e2 : j < 59 ∨ τ.2.2 ≤ j
        · rw [if_pos e2, if_pos (by omega)]
        · rw [if_neg e2, if_neg (by omega)]
theorem nwO_rl {c : Nat} (h : RT m r τ σ) : Rl (RT m r) (nwO τ c) (nwO σ c) := by
  obtain ⟨hW, rfl⟩ := h
  unfold nwO
  exact Rl.ite Iff.rfl (fun _ => Rl.some (nw_rl hW)) (fun _ => Rl.none)
theorem nwA_rl {t : Nat} {n : Int32} (h : RT m r τ σ) : Rl (RT m r) (nwA τ t n) (nwA σ t n) := by
  obtain ⟨hW, rfl⟩ := h
  unfold nwA
  exact Rl.ite Iff.rfl (fun _ => Rl.some (nw_rl hW)) (fun _ => Rl.none)
theorem RT.n (h : RT m r τ σ) : σ.2.2 = τ.2.2 := by rw [h.2]; rfl
theorem aL_rl {t k : Nat} (h : RT m r τ σ) : aL σ t k = aL τ t k := by rw [h.2]; rfl
theorem RT.o {c k : Nat} (h : RT m r τ σ) : isO τ c k = true ↔ isO σ c k = true := by rw [h.2, isO_ov]
theorem i5_rl {k : Nat} {a0 a1 : Int32} (h : RT m r τ σ) (hk : 59 ≤ k) : Rl (RT m r) (f_X5_init τ k a0 a1) (f_X5_init σ k a0 a1) := by
  unfold f_X5_init
  refine Rl.ite h.o (fun _ => ?_) (fun _ => Rl.none)
  refine (pI_rl h hk).bind fun s2 t2 h2 => (pI_rl h2 hk).bind fun s4 t4 h4 => (pI_rl h4 hk).bind fun s6 t6 h6 => ?_
  unfold f_J9_max_7cf53
  rw [Option.bind_some, Option.bind_some, h6.n]
  exact (nwA_rl h6).bind fun s10 t10 h10 => (pQ_rl h10 hk h6.1.1).bind fun s12 t12 h12 => Rl.some h12
theorem i1_rl {k : Nat} (h : RT m r τ σ) (hk : 59 ≤ k) : Rl (RT m r) (f_X1_init τ k) (f_X1_init σ k) := by
  unfold f_X1_init
  refine Rl.ite h.o (fun _ => ?_) (fun _ => Rl.none)
  rw [h.n]
  exact (nwA_rl h).bind fun s2 t2 h2 => (pQ_rl h2 hk h.1.1).bind fun s4 t4 h4 => (pI_rl h4 hk).bind fun s6 t6 h6 => Rl.some h6
end IN
