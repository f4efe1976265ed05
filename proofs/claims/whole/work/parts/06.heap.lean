section VH
variable {M N : MI} {l : Launch} {G : Gd} {d mc ms : Nat} {X : Cx} {ce sl pc : Nat} {ls : List (Nat × Value)} {st : List Value} {σ σ1 : St}
theorem isO_spec {ci k : Nat} (h : isO σ ci k = true) : k < σ.2.2 ∧ k < 1000 ∧ lay k = .inl ci := by
  simp only [isO, Bool.and_eq_true, decide_eq_true_eq] at h
  exact ⟨h.1.1, h.1.2, h.2⟩
theorem arL_spec {t k n : Nat} (h : arL σ t k = some n) : k < σ.2.2 ∧ k < 1000 ∧ lay k = .inr (t, n) := by
  unfold arL at h
  split at h
  · next hk =>
    split at h
    · next t' n' he =>
      split at h
      · next e =>
        subst e
        cases h
        exact ⟨hk.1, hk.2, he⟩
      · cases h
    · cases h
  · cases h
theorem pic_o {ci k : Nat} (h : lay k = .inl ci) : pic G σ k = .inr (ci, flds G ci (σ.1 k) (σ.2.1 k)) := by
  unfold pic
  rw [h]
theorem pic_i {t k n : Nat} (h : lay k = .inr (t, n)) (ht : t < 2) : pic G σ k = .inl (G.2.2.1 t, n, .inl (σ.1 k)) := by
  unfold pic
  rw [h]
  show Sum.inl (_, _, if t < 2 then _ else _) = _
  rw [if_pos ht]
theorem pic_q {t k n : Nat} (h : lay k = .inr (t, n)) (ht : ¬ t < 2) : pic G σ k = .inl (G.2.2.1 t, n, .inr (.inr (.inr (.inr fun i => (σ.2.1 k i).map (adr G))))) := by
  unfold pic
  rw [h]
  show Sum.inl (_, _, if t < 2 then _ else _) = _
  rw [if_neg ht]
theorem flds_at {ci j : Nat} {b : Bool} (f : Nat → Int32) (r : Nat → Option Nat) (h : (rfT ci)[j]? = some b) : (flds G ci f r)[j]? = some (if b = true then va_rf ((r j).map (adr G)) else .int (f j)) := by
  unfold flds
  rw [List.getElem?_mapIdx, h]
  rfl
theorem flds_len {ci : Nat} (f : Nat → Int32) (r : Nat → Option Nat) : (flds G ci f r).length = (rfT ci).length := by
  unfold flds
  rw [List.length_mapIdx]
theorem flds_setI {ci j : Nat} {v : Int32} (f : Nat → Int32) (r : Nat → Option Nat) (h : (rfT ci)[j]? = some false) : (flds G ci f r).set j (.int v) = flds G ci (up1 f j v) r := by
  apply List.ext_getElem?
  intro i
  by_cases hi : i = j
  · subst hi
    rw [List.getElem?_set_self (by rw [flds_len]; exact (List.getElem?_eq_some_iff.mp h).1), flds_at _ _ h, if_neg Bool.false_ne_true]
    simp [up1]
  · rw [List.getElem?_set_ne (Ne.symm hi)]
    unfold flds
    rw [List.getElem?_mapIdx, List.getElem?_mapIdx]
    simp [up1, hi]
theorem flds_setR {ci j : Nat} {o : Option Nat} (f : Nat → Int32) (r : Nat → Option Nat) (h : (rfT ci)[j]? = some true) : (flds G ci f r).set j (va_rf (o.map (adr G))) = flds G ci f (up1 r j o) := by
  apply List.ext_getElem?
  intro i
  by_cases hi : i = j
  · subst hi
    rw [List.getElem?_set_self (by rw [flds_len]; exact (List.getElem?_eq_some_iff.mp h).1), flds_at _ _ h, if_pos rfl]
    simp [up1]
  · rw [List.getElem?_set_ne (Ne.symm hi)]
    unfold flds
    rw [List.getElem?_mapIdx, List.getElem?_mapIdx]
    simp [up1, hi]
theorem pic_n {m1 m2 : Nat → Nat → Int32} {r1 r2 : Nat → Nat → Option Nat} {n1 n2 k : Nat} (hm : m1 k = m2 k) (hr : r1 k = r2 k) : pic G (m1, r1, n1) k = pic G (m2, r2, n2) k := by
  unfold pic
  simp only [hm, hr]
/-- a class of the worlds: its place, name, fields, and their types -/
def CF (ci : Nat) (C : String) (T : u_T) (n : Nat) (ty : Nat → FieldType) : Prop := vwCl[ci]? = some (C, T, n) ∧ (∀ w ∈ u_ws C T n, w ∈ tb) ∧ (∀ k, k < n → parseFieldDescriptor (T k).2.2.1 = some (ty k)) ∧ (∀ a, a < n → ∀ b, b < n → a ≠ b → (T a).2.1 ≠ (T b).2.1) ∧ (rfT ci).length = n
theorem V_getI {ci k f ix n : Nat} {v : Int32} {C : String} {T : u_T} {ty : Nat → FieldType} (pc1 : Nat) (h : gI σ ci k f = some v) (cf : CF ci C T n ty) (hf : (rfT ci)[f]? = some false) (hw : Cond.fieldLink M.1.cls ix (T f).1 (T f).2.1 (T f).2.2.1 ∈ tb) (dg : decode M.2.1 pc = .ok (.getfield ix, 3)) (hp : pc + 3 = pc1) (kk : V M l G d mc ms X ce sl pc1 ls (.int v :: st) σ) : V M l G d mc ms X ce sl pc ls (.ref k :: st) σ := by
  subst hp
  obtain ⟨p, e, R, s, m, args, below, meth, c, Q⟩ := X
  intro hO h1 h2 H locs arr z hP hS hl
  unfold gI at h
  split at h
  · next ho =>
    cases h
    obtain ⟨hk, hk1, hla⟩ := isO_spec ho
    obtain ⟨c1, c2, c3, c4, c5⟩ := cf
    have hfn : f < n := by rw [← c5]; exact (List.getElem?_eq_some_iff.mp hf).1
    show W _ _ _ _ _ _ _ _ _ _ _ _ _ _ _ (F0 _ _ _ (.ref (adr G k) :: _))
    rw [adr_lt hk1]
    refine va_get (D := G.2.2.2) (ci := ci) (v := .int (σ.1 k f)) (C := C) (T := T) (N := n) hO.1 hO.2.1 hO.2.2.2.2.2.1 c2 hO.2.2.2.2.1 hO.2.2.2.2.2.2.2.2.1 hP k (by rw [wsOf_at hk, pic_o hla]) c1 f hfn (hO.2.2.2.2.2.1 _ hw) (fun _ q => q) (by rw [flds_at _ _ hf]; rfl) dg ?_
    exact kk hO h1 h2 H locs arr z hP hS hl
  · cases h
theorem V_getR {ci k f ix n : Nat} {o : Option Nat} {C : String} {T : u_T} {ty : Nat → FieldType} (pc1 : Nat) (h : gR σ ci k f = some o) (cf : CF ci C T n ty) (hf : (rfT ci)[f]? = some true) (hw : Cond.fieldLink M.1.cls ix (T f).1 (T f).2.1 (T f).2.2.1 ∈ tb) (dg : decode M.2.1 pc = .ok (.getfield ix, 3)) (hp : pc + 3 = pc1) (kk : V M l G d mc ms X ce sl pc1 ls (va_rf o :: st) σ) : V M l G d mc ms X ce sl pc ls (.ref k :: st) σ := by
  subst hp
  obtain ⟨p, e, R, s, m, args, below, meth, c, Q⟩ := X
  intro hO h1 h2 H locs arr z hP hS hl
  unfold gR at h
  split at h
  · next ho =>
    cases h
    obtain ⟨hk, hk1, hla⟩ := isO_spec ho
    obtain ⟨c1, c2, c3, c4, c5⟩ := cf
    have hfn : f < n := by rw [← c5]; exact (List.getElem?_eq_some_iff.mp hf).1
    show W _ _ _ _ _ _ _ _ _ _ _ _ _ _ _ (F0 _ _ _ (.ref (adr G k) :: _))
    rw [adr_lt hk1]
    refine va_get (D := G.2.2.2) (ci := ci) (v := va_rf ((σ.2.1 k f).map (adr G))) (C := C) (T := T) (N := n) hO.1 hO.2.1 hO.2.2.2.2.2.1 c2 hO.2.2.2.2.1 hO.2.2.2.2.2.2.2.2.1 hP k (by rw [wsOf_at hk, pic_o hla]) c1 f hfn (hO.2.2.2.2.2.1 _ hw) (fun _ q => q) (by rw [flds_at _ _ hf, if_pos rfl]) dg ?_
    rw [← vv_rf]
    exact kk hO h1 h2 H locs arr z hP hS hl
  · cases h
theorem V_getQ {ci k f ix n q : Nat} {C : String} {T : u_T} {ty : Nat → FieldType} (pc1 : Nat) (h : gQ σ ci k f = some q) (cf : CF ci C T n ty) (hf : (rfT ci)[f]? = some true) (hw : Cond.fieldLink M.1.cls ix (T f).1 (T f).2.1 (T f).2.2.1 ∈ tb) (dg : decode M.2.1 pc = .ok (.getfield ix, 3)) (hp : pc + 3 = pc1) (kk : V M l G d mc ms X ce sl pc1 ls (.ref q :: st) σ) : V M l G d mc ms X ce sl pc ls (.ref k :: st) σ := by
  refine V_getR pc1 (o := some q) ?_ cf hf hw dg hp kk
  unfold gQ at h
  unfold gR
  split at h
  · next ho => rw [if_pos ho, h]
  · cases h
/-- a store into a field: the heap behind it -/
theorem W_put {p : Program} {e : Env} {R : Room} {s : State} {m : MethodId} {args : Array Value} {below : List Frame} {meth : Method} {c : Code} {Q : State → Prop} {H : Heap} {locs : List Loc} {arr : Array Slot} {rest : List Value} {ci k f ix n : Nat} {v : Value} {C : String} {T : u_T} {ty : Nat → FieldType}
    (hO : Ok M G d mc ms (p, e, R, s, m, args, below, meth, c, Q)) (cf : CF ci C T n ty) (ho : isO σ ci k = true) (hfn : f < n) (hfin : (T f).2.2.2 = false ∨ ((T f).2.2.2 = true ∧ M.1.name = "<init>" ∧ (T f).1 = M.1.cls)) (hw : Cond.fieldLink M.1.cls ix (T f).1 (T f).2.1 (T f).2.2.1 ∈ tb) (hn : narrow (ty f) v = v) (hfit : fits (ty f) v = true)
    (z : H.size = G.1 + σ.2.2) (hP : va_P G.2.2.2 vwCl (wsOf G σ) H) (hS : va_S (ar G) s.heap H locs) (hn1 : σ1.2.2 = σ.2.2) (he : pic G σ1 k = .inr (ci, (flds G ci (σ.1 k) (σ.2.1 k)).set f v)) (hot : ∀ j, j ≠ k → pic G σ1 j = pic G σ j) (dg : decode M.2.1 pc = .ok (.putfield ix, 3))
    (kk : ∀ (H1 : Heap) (locs1 : List Loc), H1.size = G.1 + σ1.2.2 → va_P G.2.2.2 vwCl (wsOf G σ1) H1 → va_S (ar G) s.heap H1 locs1 → W p l e R s m args below meth c H1 locs1 ce sl Q (F0 m (pc + 3) arr rest)) : W p l e R s m args below meth c H locs ce sl Q (F0 m pc arr (v :: .ref (G.1 + k) :: rest)) := by
  obtain ⟨hk, hk1, hla⟩ := isO_spec ho
  obtain ⟨c1, c2, c3, c4, c5⟩ := cf
  have hts := hO.2.2.2.2.2.1
  have hK := hO.2.2.2.2.2.2.2.2.1
  have hD := wsOf_D G σ
  have he0 : (wsOf G σ)[k]? = some (G.1 + k, .inr (ci, flds G ci (σ.1 k) (σ.2.1 k))) := by rw [wsOf_at hk, pic_o hla]
  have hap := va_apart (own := M.1.cls) hts c2 ty c3 c4 hK c1
  obtain ⟨r, g1, cell, q1, q2, q3, q4⟩ := hP k _ he0
  have hr : r = (C, T, n) := Option.some.inj (g1.symm.trans c1)
  subst hr
  obtain ⟨hSl, hfc, kC, hkC, hkind⟩ := hK.1 ci _ c1
  obtain ⟨cf', kf, fi, fd, hi, hsl⟩ := hSl f hfn
  have hst := (u_facts hfc hkC (u_lays hts c2 hfn) hi).1
  have hfits := u_fits hfc hkC hkind (u_lays hts c2 hfn) hi (c3 f hfn) hn hfit
  have hflag : hasFlag fd.accessFlags Acc.final = false ∨ (m.cls = cf' ∧ meth.name = "<init>") := by
    have hlay := hts _ (c2 _ (u_in_lay hfn))
    unfold u_lay at hlay
    rcases hfin with hf0 | ⟨hf1, hf2, hf3⟩
    · rw [if_neg (by rw [hf0]; decide)] at hlay
      exact Or.inl (u_store hfc hkC hkind hlay hi (c3 f hfn) hn hfit).1
    · rw [if_pos hf1] at hlay
      obtain ⟨_, _, c', _, _, _, -, -, hf', -, -, -, hown2, -⟩ := Cond.laysFinal_spec hlay
      have e1 : c' = cf' := by have := hi.symm.trans hf'; simp at this; exact this.1.symm
      rw [hf3] at hown2
      refine Or.inr ⟨?_, by rw [hO.2.2.2.2.2.2.2.1]; exact hf2⟩
      rw [← e1]
      exact Option.some.inj (hO.2.2.2.2.1.symm.trans hown2)
  have hlt : fd.slot < cell.slots.size := by rw [hsl]; exact k2_hasslot (q4 f hfn)
  have hal : G.1 + k < H.size := (Array.getElem?_eq_some_iff.mp q1).1
  refine W.putf hO.1 hO.2.1 hO.2.2.2.2.1 (hts _ hw) hi hst hflag q1 (by rw [q3]; exact fun q => by cases q) hlt hfits.1 (by rw [q2, q3]; exact hfits.2) rfl rfl dg ?_
  have oq : ∀ q : Nat, q ≠ G.1 + k → (H.setIfInBounds (G.1 + k) (cell.setSlot fd.slot v))[q]? = H[q]? := fun q hq => by simp [Array.getElem?_setIfInBounds, Ne.symm hq]
  have hz : (H.setIfInBounds (G.1 + k) (cell.setSlot fd.slot v)).size = H.size := by simp
  have e1 : (H.setIfInBounds (G.1 + k) (cell.setSlot fd.slot v))[G.1 + k]? = some (cell.setSlot fd.slot v) := by simp [Array.getElem?_setIfInBounds, hal]
  rw [hsl] at e1
  rw [hsl] at oq hz ⊢
  refine kk _ _ (by rw [hz, z, hn1]) ?_ (hS.put hz oq (by show G.1 ≤ G.1 + k; omega))
  rw [← wsOf_set hn1 he hot]
  exact hP.set hD he0 ⟨_, c1, t_OB.to (V := updV (vp_V (flds G ci (σ.1 k) (σ.2.1 k))) f v) ⟨_, e1, q2, q3, t_set q4 hap hfn v⟩ (fun j _ => vp_updV_set (by rw [flds_len, c5]; exact hfn) v j)⟩ oq
theorem V_putI {ci k f ix n : Nat} {v : Int32} {C : String} {T : u_T} {ty : Nat → FieldType} (pc1 : Nat) (h : pI σ ci k f v = some σ1) (cf : CF ci C T n ty) (hf : (rfT ci)[f]? = some false) (hty : ty f = .int) (hfin : (T f).2.2.2 = false ∨ ((T f).2.2.2 = true ∧ M.1.name = "<init>" ∧ (T f).1 = M.1.cls)) (hw : Cond.fieldLink M.1.cls ix (T f).1 (T f).2.1 (T f).2.2.1 ∈ tb) (dg : decode M.2.1 pc = .ok (.putfield ix, 3)) (hp : pc + 3 = pc1) (kk : V M l G d mc ms X ce sl pc1 ls st σ1) : V M l G d mc ms X ce sl pc ls (.int v :: .ref k :: st) σ := by
  subst hp
  obtain ⟨p, e, R, s, m, args, below, meth, c, Q⟩ := X
  intro hO h1 h2 H locs arr z hP hS hl
  unfold pI at h
  split at h
  · next ho =>
    cases h
    obtain ⟨hk, hk1, hla⟩ := isO_spec ho
    show W _ _ _ _ _ _ _ _ _ _ _ _ _ _ _ (F0 _ _ _ (.int v :: .ref (adr G k) :: _))
    rw [adr_lt hk1]
    have hfn : f < n := by rw [← cf.2.2.2.2]; exact (List.getElem?_eq_some_iff.mp hf).1
    refine W_put (σ1 := (upI σ.1 k (up1 (σ.1 k) f v), σ.2)) hO cf ho hfn hfin hw (by rw [hty]; rfl) (by rw [hty]; rfl) z hP hS rfl (by rw [pic_o hla, flds_setI _ _ hf]; show Sum.inr (ci, flds G ci (upI σ.1 k _ k) _) = _; rw [upI_at]) (fun j hj => pic_n (upI_ne hj) rfl) dg ?_
    intro H1 locs1 z1 hP1 hS1
    exact kk hO h1 h2 H1 locs1 arr z1 hP1 hS1 hl
  · cases h
theorem V_putZ {ci k f ix n : Nat} {v : Int32} {C : String} {T : u_T} {ty : Nat → FieldType} (pc1 : Nat) (h : pZ σ ci k f v = some σ1) (cf : CF ci C T n ty) (hf : (rfT ci)[f]? = some false) (hty : ty f = .boolean) (hfin : (T f).2.2.2 = false ∨ ((T f).2.2.2 = true ∧ M.1.name = "<init>" ∧ (T f).1 = M.1.cls)) (hw : Cond.fieldLink M.1.cls ix (T f).1 (T f).2.1 (T f).2.2.1 ∈ tb) (dg : decode M.2.1 pc = .ok (.putfield ix, 3)) (hp : pc + 3 = pc1) (kk : V M l G d mc ms X ce sl pc1 ls st σ1) : V M l G d mc ms X ce sl pc ls (.int v :: .ref k :: st) σ := by
  subst hp
  obtain ⟨p, e, R, s, m, args, below, meth, c, Q⟩ := X
  intro hO h1 h2 H locs arr z hP hS hl
  unfold pZ at h
  split at h
  · next ho =>
    cases h
    obtain ⟨ho, hv⟩ := ho
    obtain ⟨hk, hk1, hla⟩ := isO_spec ho
    show W _ _ _ _ _ _ _ _ _ _ _ _ _ _ _ (F0 _ _ _ (.int v :: .ref (adr G k) :: _))
    rw [adr_lt hk1]
    have hfn : f < n := by rw [← cf.2.2.2.2]; exact (List.getElem?_eq_some_iff.mp hf).1
    refine W_put (σ1 := (upI σ.1 k (up1 (σ.1 k) f v), σ.2)) hO cf ho hfn hfin hw (by rw [hty]; rcases hv with rfl | rfl <;> rfl) (by rw [hty]; rcases hv with rfl | rfl <;> rfl) z hP hS rfl (by rw [pic_o hla, flds_setI _ _ hf]; show Sum.inr (ci, flds G ci (upI σ.1 k _ k) _) = _; rw [upI_at]) (fun j hj => pic_n (upI_ne hj) rfl) dg ?_
    intro H1 locs1 z1 hP1 hS1
    exact kk hO h1 h2 H1 locs1 arr z1 hP1 hS1 hl
  · cases h
theorem V_putQ {ci k f ix n q : Nat} {C : String} {T : u_T} {ty : Nat → FieldType} (pc1 : Nat) (h : pQ σ ci k f q = some σ1) (cf : CF ci C T n ty) (hf : (rfT ci)[f]? = some true) (hty : (∃ x, ty f = .object x) ∨ ∃ x, ty f = .array x) (hfin : (T f).2.2.2 = false ∨ ((T f).2.2.2 = true ∧ M.1.name = "<init>" ∧ (T f).1 = M.1.cls)) (hw : Cond.fieldLink M.1.cls ix (T f).1 (T f).2.1 (T f).2.2.1 ∈ tb) (dg : decode M.2.1 pc = .ok (.putfield ix, 3)) (hp : pc + 3 = pc1) (kk : V M l G d mc ms X ce sl pc1 ls st σ1) : V M l G d mc ms X ce sl pc ls (.ref q :: .ref k :: st) σ := by
  subst hp
  obtain ⟨p, e, R, s, m, args, below, meth, c, Q⟩ := X
  intro hO h1 h2 H locs arr z hP hS hl
  unfold pQ at h
  split at h
  · next ho =>
    cases h
    obtain ⟨hk, hk1, hla⟩ := isO_spec ho
    show W _ _ _ _ _ _ _ _ _ _ _ _ _ _ _ (F0 _ _ _ (.ref (adr G q) :: .ref (adr G k) :: _))
    rw [adr_lt hk1]
    have hfn : f < n := by rw [← cf.2.2.2.2]; exact (List.getElem?_eq_some_iff.mp hf).1
    refine W_put (σ1 := (σ.1, upR σ.2.1 k (up1 (σ.2.1 k) f (some q)), σ.2.2)) hO cf ho hfn hfin hw (by rcases hty with ⟨x, hx⟩ | ⟨x, hx⟩ <;> rw [hx] <;> rfl) (by rcases hty with ⟨x, hx⟩ | ⟨x, hx⟩ <;> rw [hx] <;> rfl) z hP hS rfl (by rw [pic_o hla]; show Sum.inr (ci, flds G ci _ (upR σ.2.1 k _ k)) = _; rw [upR_at, ← flds_setR _ _ hf]; rfl) (fun j hj => pic_n rfl (upR_ne hj)) dg ?_
    intro H1 locs1 z1 hP1 hS1
    exact kk hO h1 h2 H1 locs1 arr z1 hP1 hS1 hl
  · cases h
theorem V_putN {ci k f ix n : Nat} {C : String} {T : u_T} {ty : Nat → FieldType} (pc1 : Nat) (h : pN σ ci k f = some σ1) (cf : CF ci C T n ty) (hf : (rfT ci)[f]? = some true) (hty : (∃ x, ty f = .object x) ∨ ∃ x, ty f = .array x) (hfin : (T f).2.2.2 = false ∨ ((T f).2.2.2 = true ∧ M.1.name = "<init>" ∧ (T f).1 = M.1.cls)) (hw : Cond.fieldLink M.1.cls ix (T f).1 (T f).2.1 (T f).2.2.1 ∈ tb) (dg : decode M.2.1 pc = .ok (.putfield ix, 3)) (hp : pc + 3 = pc1) (kk : V M l G d mc ms X ce sl pc1 ls st σ1) : V M l G d mc ms X ce sl pc ls (.null :: .ref k :: st) σ := by
  subst hp
  obtain ⟨p, e, R, s, m, args, below, meth, c, Q⟩ := X
  intro hO h1 h2 H locs arr z hP hS hl
  unfold pN at h
  split at h
  · next ho =>
    cases h
    obtain ⟨hk, hk1, hla⟩ := isO_spec ho
    show W _ _ _ _ _ _ _ _ _ _ _ _ _ _ _ (F0 _ _ _ (.null :: .ref (adr G k) :: _))
    rw [adr_lt hk1]
    have hfn : f < n := by rw [← cf.2.2.2.2]; exact (List.getElem?_eq_some_iff.mp hf).1
    refine W_put (σ1 := (σ.1, upR σ.2.1 k (up1 (σ.2.1 k) f none), σ.2.2)) hO cf ho hfn hfin hw (by rcases hty with ⟨x, hx⟩ | ⟨x, hx⟩ <;> rw [hx] <;> rfl) (by rcases hty with ⟨x, hx⟩ | ⟨x, hx⟩ <;> rw [hx] <;> rfl) z hP hS rfl (by rw [pic_o hla]; show Sum.inr (ci, flds G ci _ (upR σ.2.1 k _ k)) = _; rw [upR_at, ← flds_setR _ _ hf]; rfl) (fun j hj => pic_n rfl (upR_ne hj)) dg ?_
    intro H1 locs1 z1 hP1 hS1
    exact kk hO h1 h2 H1 locs1 arr z1 hP1 hS1 hl
  · cases h
end VH
