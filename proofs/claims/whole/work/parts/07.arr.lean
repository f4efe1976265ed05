section VA
variable {M N : MI} {l : Launch} {G : Gd} {d mc ms : Nat} {X : Cx} {ce sl pc : Nat} {ls : List (Nat × Value)} {st : List Value} {σ σ1 : St}
theorem tys_0 : (tysOf G)[0]? = some (G.2.2.1 0, .int) := rfl
theorem tys_1 : (tysOf G)[1]? = some (G.2.2.1 1, .byte) := rfl
/-- the class of an array of references -/
def refC (t : Nat) : String := match t with
  | 2 => "TwiceNoise$Bytes"
  | 3 => "TwiceNoise$Sheet"
  | _ => "java/lang/String"
theorem tys_q {t : Nat} (h : t = 2 ∨ t = 3 ∨ t = 4) : (tysOf G)[t]? = some (G.2.2.1 t, .object (refC t)) := by
  rcases h with rfl | rfl | rfl <;> rfl
theorem aI_spec {t k : Nat} {i v : Int32} (h : aI σ t k i = some v) : ∃ n, arL σ t k = some n ∧ vp_in i n ∧ v = σ.1 k i.toNatClampNeg := by
  unfold aI at h
  obtain ⟨n, hn, h⟩ := ob h
  split at h
  · next hi =>
    cases h
    exact ⟨n, hn, inB_in hi, rfl⟩
  · cases h
theorem V_iald {k : Nat} {i v : Int32} (pc1 : Nat) (h : aI σ 0 k i = some v) (dg : decode M.2.1 pc = .ok (.iaload, 1)) (hp : pc + 1 = pc1) (kk : V M l G d mc ms X ce sl pc1 ls (.int v :: st) σ) : V M l G d mc ms X ce sl pc ls (.int i :: .ref k :: st) σ := by
  subst hp
  obtain ⟨p, e, R, s, m, args, below, meth, c, Q⟩ := X
  intro hO h1 h2 H locs arr z hP hS hl
  obtain ⟨n, hn, hi, rfl⟩ := aI_spec h
  obtain ⟨hk, hk1, hla⟩ := arL_spec hn
  show W _ _ _ _ _ _ _ _ _ _ _ _ _ _ _ (F0 _ _ _ (.int i :: .ref (adr G k) :: _))
  rw [adr_lt hk1]
  exact va_iald hO.1 hO.2.1 hO.2.2.2.2.2.2.2.2.1 hP k 0 (by rw [wsOf_at hk, pic_i hla (by decide)]) tys_0 hi dg (kk hO h1 h2 H locs arr z hP hS hl)
theorem V_bald {k : Nat} {i v : Int32} (pc1 : Nat) (h : aI σ 1 k i = some v) (dg : decode M.2.1 pc = .ok (.baload, 1)) (hp : pc + 1 = pc1) (kk : V M l G d mc ms X ce sl pc1 ls (.int v :: st) σ) : V M l G d mc ms X ce sl pc ls (.int i :: .ref k :: st) σ := by
  subst hp
  obtain ⟨p, e, R, s, m, args, below, meth, c, Q⟩ := X
  intro hO h1 h2 H locs arr z hP hS hl
  obtain ⟨n, hn, hi, rfl⟩ := aI_spec h
  obtain ⟨hk, hk1, hla⟩ := arL_spec hn
  show W _ _ _ _ _ _ _ _ _ _ _ _ _ _ _ (F0 _ _ _ (.int i :: .ref (adr G k) :: _))
  rw [adr_lt hk1]
  exact va_bald hO.1 hO.2.1 hO.2.2.2.2.2.2.2.2.1 hP k 1 (by rw [wsOf_at hk, pic_i hla (by decide)]) tys_1 hi dg (kk hO h1 h2 H locs arr z hP hS hl)
theorem V_aald {t k q : Nat} {i : Int32} (pc1 : Nat) (h : aQ σ t k i = some q) (ht : t = 2 ∨ t = 3 ∨ t = 4) (dg : decode M.2.1 pc = .ok (.aaload, 1)) (hp : pc + 1 = pc1) (kk : V M l G d mc ms X ce sl pc1 ls (.ref q :: st) σ) : V M l G d mc ms X ce sl pc ls (.int i :: .ref k :: st) σ := by
  subst hp
  obtain ⟨p, e, R, s, m, args, below, meth, c, Q⟩ := X
  intro hO h1 h2 H locs arr z hP hS hl
  unfold aQ at h
  obtain ⟨n, hn, h⟩ := ob h
  split at h
  · next hi =>
    obtain ⟨hk, hk1, hla⟩ := arL_spec hn
    show W _ _ _ _ _ _ _ _ _ _ _ _ _ _ _ (F0 _ _ _ (.int i :: .ref (adr G k) :: _))
    rw [adr_lt hk1]
    refine va_aldq hO.1 hO.2.1 hO.2.2.2.2.2.2.2.2.1 hP k t (by rw [wsOf_at hk, pic_q hla (by omega)]) (tys_q ht) (inB_in hi) dg ?_
    rw [h]
    exact kk hO h1 h2 H locs arr z hP hS hl
  · cases h
theorem V_alen {t k : Nat} {v : Int32} (pc1 : Nat) (h : aL σ t k = some v) (ht : t < 5) (dg : decode M.2.1 pc = .ok (.arraylength, 1)) (hp : pc + 1 = pc1) (kk : V M l G d mc ms X ce sl pc1 ls (.int v :: st) σ) : V M l G d mc ms X ce sl pc ls (.ref k :: st) σ := by
  subst hp
  obtain ⟨p, e, R, s, m, args, below, meth, c, Q⟩ := X
  intro hO h1 h2 H locs arr z hP hS hl
  unfold aL at h
  cases hn : arL σ t k with
  | none => rw [hn] at h; cases h
  | some n =>
    rw [hn] at h
    cases h
    obtain ⟨hk, hk1, hla⟩ := arL_spec hn
    show W _ _ _ _ _ _ _ _ _ _ _ _ _ _ _ (F0 _ _ _ (.ref (adr G k) :: _))
    rw [adr_lt hk1]
    have hty : ∃ ty, (tysOf G)[t]? = some (G.2.2.1 t, ty) := by
      match t, ht with
      | 0, _ => exact ⟨_, rfl⟩
      | 1, _ => exact ⟨_, rfl⟩
      | 2, _ => exact ⟨_, rfl⟩
      | 3, _ => exact ⟨_, rfl⟩
      | 4, _ => exact ⟨_, rfl⟩
    obtain ⟨ty, hty⟩ := hty
    by_cases h2' : t < 2
    · exact va_alen (x := (n, .inl (σ.1 k))) hO.1 hO.2.1 hO.2.2.2.2.2.2.2.2.1 hP k t (by rw [wsOf_at hk, pic_i hla h2']) hty rfl dg (kk hO h1 h2 H locs arr z hP hS hl)
    · exact va_alen (x := (n, .inr (.inr (.inr (.inr fun i => (σ.2.1 k i).map (adr G)))))) hO.1 hO.2.1 hO.2.2.2.2.2.2.2.2.1 hP k t (by rw [wsOf_at hk, pic_q hla h2']) hty rfl dg (kk hO h1 h2 H locs arr z hP hS hl)
/-- an array's cell is new, the others stay -/
theorem zarr_set {k t n : Nat} {f : Nat → Int32} {H H1 : Heap} (hk : k < σ.2.2) (hla : lay k = .inr (t, n)) (ht : t < 2) (hP : va_P G.2.2.2 vwCl (wsOf G σ) H) (e1 : H1[G.1 + k]? = some (vp_cell (G.2.2.1 t) (n, .inl f))) (oq : ∀ q : Nat, q ≠ G.1 + k → H1[q]? = H[q]?) : va_P G.2.2.2 vwCl (wsOf G (upI σ.1 k f, σ.2)) H1 := by
  have he0 := wsOf_at (G := G) hk
  have hw := wsOf_set (G := G) (σ := σ) (σ' := (upI σ.1 k f, σ.2)) (k := k) (e := .inl (G.2.2.1 t, n, .inl f)) rfl (by rw [pic_i hla ht]; show Sum.inl (_, _, Sum.inl (upI σ.1 k f k)) = _; rw [upI_at]) (fun j hj => pic_n (upI_ne hj) rfl)
  rw [← hw]
  exact hP.set (wsOf_D G σ) he0 e1 oq
theorem V_iast {k : Nat} {i v : Int32} (pc1 : Nat) (h : sI σ k i v = some σ1) (dg : decode M.2.1 pc = .ok (.iastore, 1)) (hp : pc + 1 = pc1) (kk : V M l G d mc ms X ce sl pc1 ls st σ1) : V M l G d mc ms X ce sl pc ls (.int v :: .int i :: .ref k :: st) σ := by
  subst hp
  obtain ⟨p, e, R, s, m, args, below, meth, c, Q⟩ := X
  intro hO h1 h2 H locs arr z hP hS hl
  unfold sI at h
  obtain ⟨n, hn, h⟩ := ob h
  split at h
  · next hi =>
    cases h
    obtain ⟨hk, hk1, hla⟩ := arL_spec hn
    have hK := hO.2.2.2.2.2.2.2.2.1
    show W _ _ _ _ _ _ _ _ _ _ _ _ _ _ _ (F0 _ _ _ (.int v :: .int i :: .ref (adr G k) :: _))
    rw [adr_lt hk1]
    have hc : H[G.1 + k]? = some (vp_cell (G.2.2.1 0) (n, .inl (σ.1 k))) := hP k (G.1 + k, .inl (G.2.2.1 0, n, .inl (σ.1 k))) (by rw [wsOf_at hk, pic_i hla (by decide)])
    refine W.iast hO.1 hO.2.1 hc ((hK.2 0 _ tys_0).1 n (fun j => .int (σ.1 k j))) (fun q => by cases q) (by show ¬ (i < 0 ∨ (arrV _ _ _).slots.size ≤ _); rw [arrV_size]; exact inB_in hi) rfl rfl dg fun H1 e1 z1 oq => ?_
    refine kk hO h1 h2 H1 _ arr (by rw [z1]; exact z) (zarr_set hk hla (by decide) hP ?_ oq) (hS.put z1 oq (by show G.1 ≤ G.1 + k; omega)) hl
    rw [e1, vp_cell_i, vp_cell_i, arrV_store]
    congr 2
    funext q
    by_cases hq : q = i.toNatClampNeg
    · subst hq
      simp [updV, up1]
    · simp [updV, up1, hq]
  · cases h
theorem V_bast {k : Nat} {i v : Int32} (pc1 : Nat) (h : sB σ k i v = some σ1) (dg : decode M.2.1 pc = .ok (.bastore, 1)) (hp : pc + 1 = pc1) (kk : V M l G d mc ms X ce sl pc1 ls st σ1) : V M l G d mc ms X ce sl pc ls (.int v :: .int i :: .ref k :: st) σ := by
  subst hp
  obtain ⟨p, e, R, s, m, args, below, meth, c, Q⟩ := X
  intro hO h1 h2 H locs arr z hP hS hl
  unfold sB at h
  obtain ⟨n, hn, h⟩ := ob h
  split at h
  · next hi =>
    cases h
    obtain ⟨hk, hk1, hla⟩ := arL_spec hn
    have hK := hO.2.2.2.2.2.2.2.2.1
    show W _ _ _ _ _ _ _ _ _ _ _ _ _ _ _ (F0 _ _ _ (.int v :: .int i :: .ref (adr G k) :: _))
    rw [adr_lt hk1]
    have hc : H[G.1 + k]? = some (vp_cell (G.2.2.1 1) (n, .inl (σ.1 k))) := hP k (G.1 + k, .inl (G.2.2.1 1, n, .inl (σ.1 k))) (by rw [wsOf_at hk, pic_i hla (by decide)])
    refine W.bast hO.1 hO.2.1 hc ((hK.2 1 _ tys_1).1 n (fun j => .int (σ.1 k j))) (fun q => by cases q) (by show ¬ (i < 0 ∨ (arrV _ _ _).slots.size ≤ _); rw [arrV_size]; exact inB_in hi) rfl rfl dg fun H1 e1 z1 oq => ?_
    refine kk hO h1 h2 H1 _ arr (by rw [z1]; exact z) (zarr_set hk hla (by decide) hP ?_ oq) (hS.put z1 oq (by show G.1 ≤ G.1 + k; omega)) hl
    rw [e1, vp_cell_i, vp_cell_i, arrV_store]
    congr 2
    funext q
    by_cases hq : q = i.toNatClampNeg
    · subst hq
      simp [updV, up1, narrow]
    · simp [updV, up1, hq]
  · cases h
/-- an array of references: a cell is new, the others stay -/
theorem zarq_set {k t n : Nat} {f : Nat → Option Nat} {H H1 : Heap} (hk : k < σ.2.2) (hla : lay k = .inr (t, n)) (ht : ¬ t < 2) (hP : va_P G.2.2.2 vwCl (wsOf G σ) H) (e1 : H1[G.1 + k]? = some (vp_cell (G.2.2.1 t) (n, .inr (.inr (.inr (.inr fun i => (f i).map (adr G))))))) (oq : ∀ q : Nat, q ≠ G.1 + k → H1[q]? = H[q]?) : va_P G.2.2.2 vwCl (wsOf G (σ.1, upR σ.2.1 k f, σ.2.2)) H1 := by
  have he0 := wsOf_at (G := G) hk
  have hw := wsOf_set (G := G) (σ := σ) (σ' := (σ.1, upR σ.2.1 k f, σ.2.2)) (k := k) (e := .inl (G.2.2.1 t, n, .inr (.inr (.inr (.inr fun i => (f i).map (adr G)))))) rfl (by rw [pic_q hla ht]; show Sum.inl (_, _, Sum.inr (Sum.inr (Sum.inr (Sum.inr fun i => (upR σ.2.1 k f k i).map (adr G))))) = _; rw [upR_at]) (fun j hj => pic_n rfl (upR_ne hj))
  rw [← hw]
  exact hP.set (wsOf_D G σ) he0 e1 oq
theorem V_aast {t ci k q : Nat} {i : Int32} {C : String} {T : u_T} {n0 : Nat} {ty : Nat → FieldType} (pc1 : Nat) (h : sQ σ t ci k i q = some σ1) (cf : CF ci C T n0 ty) (ht : t = 2 ∨ t = 3) (hC : refC t = C) (dg : decode M.2.1 pc = .ok (.aastore, 1)) (hp : pc + 1 = pc1) (kk : V M l G d mc ms X ce sl pc1 ls st σ1) : V M l G d mc ms X ce sl pc ls (.ref q :: .int i :: .ref k :: st) σ := by
  subst hp
  subst hC
  obtain ⟨p, e, R, s, m, args, below, meth, c, Q⟩ := X
  intro hO h1 h2 H locs arr z hP hS hl
  unfold sQ at h
  split at h
  · next ho =>
    obtain ⟨n, hn, h⟩ := ob h
    split at h
    · next hi =>
      cases h
      obtain ⟨hk, hk1, hla⟩ := arL_spec hn
      obtain ⟨hq, hq1, hlq⟩ := isO_spec ho
      have hK := hO.2.2.2.2.2.2.2.2.1
      have ht2 : ¬ t < 2 := by omega
      show W _ _ _ _ _ _ _ _ _ _ _ _ _ _ _ (F0 _ _ _ (.ref (adr G q) :: .int i :: .ref (adr G k) :: _))
      rw [adr_lt hk1, adr_lt hq1]
      have hc : H[G.1 + k]? = some (vp_cell (G.2.2.1 t) (n, .inr (.inr (.inr (.inr fun j => (σ.2.1 k j).map (adr G)))))) := hP k (G.1 + k, .inl (G.2.2.1 t, n, .inr (.inr (.inr (.inr fun j => (σ.2.1 k j).map (adr G)))))) (by rw [wsOf_at hk, pic_q hla ht2])
      obtain ⟨r', hr', cellV, g1, g2, g3, -⟩ := hP q (G.1 + q, .inr (ci, flds G ci (σ.1 q) (σ.2.1 q))) (by rw [wsOf_at hq, pic_o hlq])
      have hcls := (hK.1 ci _ cf.1).2
      have hra : va_RA s (G.2.2.1 t) (.object (refC t)) := (hK.2 t _ (tys_q (by omega))).2
      obtain ⟨kA, comp, k1, k2, k3, -⟩ := hra
      have hcomp : comp = G.2.2.2.1 ci := Option.some.inj (k3.symm.trans hcls.1)
      subst hcomp
      obtain ⟨kC, hkC, -⟩ := hcls.2
      have hin := inB_in hi
      have hlt : i.toNatClampNeg < n := Nat.not_le.mp fun x => hin (Or.inr x)
      have h0 : ¬ i < 0 := fun x => hin (Or.inl x)
      refine W.aast hO.1 hO.2.1 hc (fun q h => by cases h) (fun h => by cases h) k1 k2 rfl hkC ⟨h0, by show _ < (arrV _ _ _).slots.size; rw [arrV_size]; exact hlt⟩ g1 (fun q h => by rw [g3] at h; cases h) (by rw [g2]; exact hkC) (by rw [g2]; exact va_assign hcls) rfl rfl dg fun H1 e1 z1 oq => ?_
      refine kk hO h1 h2 H1 _ arr (by rw [z1]; exact z) (zarq_set hk hla ht2 hP ?_ oq) (hS.put z1 oq (by show G.1 ≤ G.1 + k; omega)) hl
      rw [e1, vp_cell_q, vp_cell_q, arrV_store]
      congr 2
      funext j
      by_cases hj : j = i.toNatClampNeg
      · subst hj
        simp [updV, up1, va_rf, adr_lt hq1]
      · simp [updV, up1, hj]
    · cases h
  · cases h
/-! static tables -/
theorem V_gets {ix j n : Nat} {C nm : String} (pc1 : Nat) (ho : ∀ s : State, Old G s s.heap → Old1 G C nm j n s s.heap) (hj : j < 4) (hw : Cond.fieldLink M.1.cls ix C nm "[I" ∈ tb) (dg : decode M.2.1 pc = .ok (.getstatic ix, 3)) (hp : pc + 3 = pc1) (kk : V M l G d mc ms X ce sl pc1 ls (.ref (1000 + j) :: st) σ) : V M l G d mc ms X ce sl pc ls st σ := by
  subst hp
  obtain ⟨p, e, R, s, m, args, below, meth, c, Q⟩ := X
  intro hO h1 h2 H locs arr z hP hS hl
  refine va_gets hO.1 hO.2.1 (ho s hO.2.2.2.2.2.2.2.2.2.1).1 hS hO.2.2.2.2.1 (hO.2.2.2.2.2.1 _ hw) (fun _ q => q) dg ?_
  have ha : adr G (1000 + j) = G.2.1 j := by
    unfold adr
    rw [if_neg (by omega)]
    rw [Nat.add_sub_cancel_left]
  have := kk hO h1 h2 H locs arr z hP hS hl
  rw [List.map_cons] at this
  show W _ _ _ _ _ _ _ _ _ _ _ _ _ _ _ (F0 _ _ _ (.ref (G.2.1 j) :: _))
  rw [← ha]
  exact this
theorem V_oald {j n : Nat} {i v : Int32} {C nm : String} (pc1 : Nat) (h : oI j n i = some v) (ho : ∀ s : State, Old G s s.heap → Old1 G C nm j n s s.heap) (dg : decode M.2.1 pc = .ok (.iaload, 1)) (hp : pc + 1 = pc1) (kk : V M l G d mc ms X ce sl pc1 ls (.int v :: st) σ) : V M l G d mc ms X ce sl pc ls (.int i :: .ref (1000 + j) :: st) σ := by
  subst hp
  obtain ⟨p, e, R, s, m, args, below, meth, c, Q⟩ := X
  intro hO h1 h2 H locs arr z hP hS hl
  unfold oI at h
  split at h
  · next hi =>
    cases h
    obtain ⟨cell, g1, g2, g3, g4, g5, g6, g7⟩ := (ho s hO.2.2.2.2.2.2.2.2.2.1).2
    have ha : adr G (1000 + j) = G.2.1 j := by
      unfold adr
      rw [if_neg (by omega)]
      rw [Nat.add_sub_cancel_left]
    have hin := inB_in hi
    have hlt : i.toNatClampNeg < n := Nat.not_le.mp fun x => hin (Or.inr x)
    show W _ _ _ _ _ _ _ _ _ _ _ _ _ _ _ (F0 _ _ _ (.int i :: .ref (adr G (1000 + j)) :: _))
    rw [ha]
    exact W.iald hO.1 hO.2.1 (by rw [hS.2.1 _ (Array.getElem?_eq_some_iff.mp g1).1 g7]; exact g1) g2 g3 (fun x => by
      rcases x with x | x
      · exact hin (Or.inl x)
      · omega) (g6 _ hlt) rfl rfl dg (kk hO h1 h2 H locs arr z hP hS hl)
  · cases h
theorem V_olen {j n : Nat} {C nm : String} (pc1 : Nat) (ho : ∀ s : State, Old G s s.heap → Old1 G C nm j n s s.heap) (dg : decode M.2.1 pc = .ok (.arraylength, 1)) (hp : pc + 1 = pc1) (kk : V M l G d mc ms X ce sl pc1 ls (.int (nI n) :: st) σ) : V M l G d mc ms X ce sl pc ls (.ref (1000 + j) :: st) σ := by
  subst hp
  obtain ⟨p, e, R, s, m, args, below, meth, c, Q⟩ := X
  intro hO h1 h2 H locs arr z hP hS hl
  obtain ⟨cell, g1, g2, g3, g4, g5, g6, g7⟩ := (ho s hO.2.2.2.2.2.2.2.2.2.1).2
  have ha : adr G (1000 + j) = G.2.1 j := by
    unfold adr
    rw [if_neg (by omega)]
    rw [Nat.add_sub_cancel_left]
  show W _ _ _ _ _ _ _ _ _ _ _ _ _ _ _ (F0 _ _ _ (.ref (adr G (1000 + j)) :: _))
  rw [ha]
  exact W.alen hO.1 hO.2.1 (by rw [hS.2.1 _ (Array.getElem?_eq_some_iff.mp g1).1 g7]; exact g1) g2 g5 rfl rfl dg (kk hO h1 h2 H locs arr z hP hS hl)
end VA
