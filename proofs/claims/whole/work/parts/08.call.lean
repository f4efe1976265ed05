section VC
variable {M N : MI} {l : Launch} {G : Gd} {d mc ms : Nat} {X : Cx} {ce sl pc : Nat} {ls : List (Nat × Value)} {st : List Value} {σ σ1 : St}
/-! new objects and arrays -/
theorem wsOf_push {σ σ' : St} {e : va_E} (hn : σ'.2.2 = σ.2.2 + 1) (he : pic G σ' σ.2.2 = e) (ho : ∀ j, j ≠ σ.2.2 → pic G σ' j = pic G σ j) : wsOf G σ ++ [(G.1 + σ.2.2, e)] = wsOf G σ' := by
  unfold wsOf
  rw [hn, List.range_succ, List.map_append, List.map_cons, List.map_nil, he]
  congr 1
  apply List.map_congr_left
  intro j hj
  rw [ho j (Nat.ne_of_lt (List.mem_range.mp hj))]
theorem V_new {ci ix n : Nat} {C : String} {T : u_T} {ty : Nat → FieldType} (pc1 : Nat) (h : nwO σ ci = some σ1) (cf : CF ci C T n ty) (hdef : ∀ j, j < n → defaultValue (ty j) = (if (rfT ci)[j]? = some true then .null else .int 0)) (hcl : Cond.classLink M.1.cls ix C ∈ tb) (hin : Cond.instantiable C n ∈ tb) (hini : Cond.initialized C ∈ tb) (hce : ce + 1 ≤ mc) (hsl : sl + n ≤ ms) (dg : decode M.2.1 pc = .ok (.new ix, 3)) (hp : pc + 3 = pc1) (kk : V M l G d mc ms X (ce + 1) (sl + n) pc1 ls (.ref σ.2.2 :: st) σ1) : V M l G d mc ms X ce sl pc ls st σ := by
  subst hp
  obtain ⟨p, e, R, s, m, args, below, meth, c, Q⟩ := X
  intro hO h1 h2 H locs arr z hP hS hl
  have hS : va_S (ar G) s.heap H locs := hS
  unfold nwO at h
  split at h
  · next ho =>
    cases h
    obtain ⟨hla, hk1⟩ := ho
    obtain ⟨c1, c2, c3, c4, c5⟩ := cf
    have hts := hO.2.2.2.2.2.1
    have hK := hO.2.2.2.2.2.2.2.2.1
    have hR := hO.2.2.2.2.2.2.2.2.2.2.2.2.2
    have hKn := hK.1 ci _ c1
    refine W.newcK hO.1 hO.2.1 hO.2.2.2.2.1 (hts _ hcl) (hts _ hin) (hts _ hini) rfl dg (Nat.le_trans hce hR.1) (Nat.le_trans hsl hR.2) hKn.2.1 z fun H1 kC hkC e1 z1 o1 => ?_
    have hk' : ∀ (k : Nat) (x : Nat × va_E), (wsOf G σ)[k]? = some x → H1[x.1]? = H[x.1]? := fun k x hx => o1 x.1 (by rw [← z]; exact (hP k x hx).lt)
    have hA : s.heap.size ≤ H1.size := by have := hS.1; omega
    refine (?_ : W _ _ _ _ _ _ _ _ _ _ _ _ _ _ _ (F0 m (pc + 3) arr (.ref (G.1 + σ.2.2) :: st.map (vv G))))
    rw [← adr_lt (G := G) hk1]
    refine kk hO hce hsl H1 locs arr z1 ?_ ⟨hA, fun q g1 g2 => (o1 q (by have := hS.1; omega)).trans (hS.2.1 q g1 g2), hS.2.2⟩ hl
    rw [← wsOf_push (σ := σ) (e := .inr (ci, flds G ci (fun _ => 0) (fun _ => none))) rfl (by rw [pic_o hla]; show Sum.inr (ci, flds G ci (upI _ _ _ _) (upR _ _ _ _)) = _; rw [upI_at, upR_at]) (fun j hj => pic_n (upI_ne hj) (upR_ne hj))]
    refine (hP.kept hk').app (fun k x hx => ?_)
    have hz : k < 1 := (List.getElem?_eq_some_iff.mp hx).1
    rw [show k = 0 by omega] at hx
    cases hx
    refine ⟨_, c1, (u_born ty hts c2 hKn hkC e1 c3).to fun j hj => ?_⟩
    rw [hdef j hj]
    have hjr : j < (rfT ci).length := by rw [c5]; exact hj
    have hb : (rfT ci)[j]? = some ((rfT ci)[j]) := List.getElem?_eq_getElem hjr
    show _ = (flds G ci (fun _ => 0) (fun _ => none)).getD j .null
    rw [List.getD_eq_getElem?_getD, flds_at _ _ hb, hb]
    cases (rfT ci)[j] <;> rfl
  · cases h
theorem V_newa {t : Nat} {n : Int32} {at0 : ArrayType} {fty : FieldType} (pc1 : Nat) (h : nwA σ t n = some σ1) (ht : (t = 0 ∧ at0 = .int ∧ fty = .int) ∨ (t = 1 ∧ at0 = .byte ∧ fty = .byte)) (hw : Cond.arrayClass fty ∈ tb) (hce : ce + 1 ≤ mc) (hsl : sl + n.toNatClampNeg ≤ ms) (dg : decode M.2.1 pc = .ok (.newarray at0, 2)) (hp : pc + 2 = pc1) (kk : V M l G d mc ms X (ce + 1) (sl + n.toNatClampNeg) pc1 ls (.ref σ.2.2 :: st) σ1) : V M l G d mc ms X ce sl pc ls (.int n :: st) σ := by
  subst hp
  obtain ⟨p, e, R, s, m, args, below, meth, c, Q⟩ := X
  intro hO h1 h2 H locs arr z hP hS hl
  have hS : va_S (ar G) s.heap H locs := hS
  unfold nwA at h
  split at h
  · next ho =>
    cases h
    obtain ⟨hla, hk1, hn0, hnb⟩ := ho
    have hts := hO.2.2.2.2.2.1
    have hK := hO.2.2.2.2.2.2.2.2.1
    have hR := hO.2.2.2.2.2.2.2.2.2.2.2.2.2
    have hn0' : ¬ n < 0 := Int32.not_lt.mpr hn0
    have key : ∀ (H1 : Heap) (cA : ClassId), cA = G.2.2.1 t → H1[G.1 + σ.2.2]? = some (arrV cA n.toNatClampNeg (fun _ => .int 0)) → H1.size = G.1 + σ.2.2 + 1 → (∀ q, q < G.1 + σ.2.2 → H1[q]? = H[q]?) → xW l (p, e, R, s, m, args, below, meth, c, Q) H1 locs (ce + 1) (sl + n.toNatClampNeg) (F0 m (pc + 2) arr (.ref (G.1 + σ.2.2) :: st.map (vv G))) := by
      intro H1 cA hcA e1 z1 o1
      subst hcA
      have hk' : ∀ (k : Nat) (x : Nat × va_E), (wsOf G σ)[k]? = some x → H1[x.1]? = H[x.1]? := fun k x hx => o1 x.1 (by rw [← z]; exact (hP k x hx).lt)
      have hA : s.heap.size ≤ H1.size := by have := hS.1; omega
      rw [← adr_lt (G := G) hk1]
      refine kk hO hce hsl H1 locs arr z1 ?_ ⟨hA, fun q g1 g2 => (o1 q (by have := hS.1; omega)).trans (hS.2.1 q g1 g2), hS.2.2⟩ hl
      rw [← wsOf_push (σ := σ) (e := .inl (G.2.2.1 t, n.toNatClampNeg, .inl (fun _ => 0))) rfl (by rw [pic_i hla (by omega)]; show Sum.inl (_, _, Sum.inl (upI _ _ _ _)) = _; rw [upI_at]) (fun j hj => pic_n (upI_ne hj) (upR_ne hj))]
      refine (hP.kept hk').app (fun k x hx => ?_)
      have hz : k < 1 := (List.getElem?_eq_some_iff.mp hx).1
      rw [show k = 0 by omega] at hx
      cases hx
      exact e1
    rcases ht with ⟨rfl, rfl, rfl⟩ | ⟨rfl, rfl, rfl⟩
    · refine va_newaK (atype := .int) hO.1 hO.2.1 (hts _ hw) rfl dg rfl hn0' rfl (by show _ * 4 ≤ _; omega) (Nat.le_trans hce hR.1) (Nat.le_trans hsl hR.2) z fun H1 cA e1 z1 o1 hAr hNm => ?_
      exact key H1 cA (Option.some.inj (hNm.symm.trans (hK.2 0 _ tys_0).2)) e1 z1 o1
    · refine va_newaK (atype := .byte) hO.1 hO.2.1 (hts _ hw) rfl dg rfl hn0' rfl (by show _ * 1 ≤ _; omega) (Nat.le_trans hce hR.1) (Nat.le_trans hsl hR.2) z fun H1 cA e1 z1 o1 hAr hNm => ?_
      exact key H1 cA (Option.some.inj (hNm.symm.trans (hK.2 1 _ tys_1).2)) e1 z1 o1
  · cases h
theorem V_anew {t ix : Nat} {n : Int32} (pc1 : Nat) (h : nwA σ t n = some σ1) (ht : t = 2 ∨ t = 3 ∨ t = 4) (hcl : Cond.classLink M.1.cls ix (refC t) ∈ tb) (hce : ce + 1 ≤ mc) (hsl : sl + n.toNatClampNeg ≤ ms) (dg : decode M.2.1 pc = .ok (.anewarray ix, 3)) (hp : pc + 3 = pc1) (kk : V M l G d mc ms X (ce + 1) (sl + n.toNatClampNeg) pc1 ls (.ref σ.2.2 :: st) σ1) : V M l G d mc ms X ce sl pc ls (.int n :: st) σ := by
  subst hp
  obtain ⟨p, e, R, s, m, args, below, meth, c, Q⟩ := X
  intro hO h1 h2 H locs arr z hP hS hl
  have hS : va_S (ar G) s.heap H locs := hS
  unfold nwA at h
  split at h
  · next ho =>
    cases h
    obtain ⟨hla, hk1, hn0, hnb⟩ := ho
    have hts := hO.2.2.2.2.2.1
    have hK := hO.2.2.2.2.2.2.2.2.1
    have hOl := hO.2.2.2.2.2.2.2.2.2.1
    have hR := hO.2.2.2.2.2.2.2.2.2.2.2.2.2
    have hn0' : ¬ n < 0 := Int32.not_lt.mpr hn0
    have hov : va_AO (refC t) s := by
      obtain ⟨-, -, -, -, -, -, -, -, -, ⟨a1, a2, a3⟩, -⟩ := hOl
      rcases ht with rfl | rfl | rfl
      · exact a1
      · exact a2
      · exact a3
    refine W.anew hO.1 hO.2.1 hO.2.2.2.2.1 (hts _ hcl) (va_AO.use hov) rfl dg rfl hn0' (by omega) (Nat.le_trans hce hR.1) (Nat.le_trans hsl hR.2) fun cA kA comp f1 f2 f3 f4 => ?_
    have hra : va_RA s (G.2.2.1 t) (.object (refC t)) := (hK.2 t _ (tys_q ht)).2
    obtain ⟨kA', comp', k1, k2, k3, k4⟩ := hra
    have hcA : cA = G.2.2.1 t := Option.some.inj (f1.symm.trans k4)
    subst hcA
    generalize hH1 : H.push ({ cls := G.2.2.1 t, slots := Array.replicate n.toNatClampNeg .null, vm := .none } : Cell) = H1
    have z1 : H1.size = G.1 + σ.2.2 + 1 := by rw [← hH1, Array.size_push, z]
    have e1 : H1[G.1 + σ.2.2]? = some (arrV (G.2.2.1 t) n.toNatClampNeg (fun _ => .null)) := by rw [← hH1, ← z, Array.getElem?_push_size, ← arrV_new]
    have o1 : ∀ q : Nat, q < G.1 + σ.2.2 → H1[q]? = H[q]? := fun q hq => by rw [← hH1, Array.getElem?_push, if_neg (Nat.ne_of_lt (by rw [z]; exact hq))]
    have hk' : ∀ (k : Nat) (x : Nat × va_E), (wsOf G σ)[k]? = some x → H1[x.1]? = H[x.1]? := fun k x hx => o1 x.1 (by rw [← z]; exact (hP k x hx).lt)
    have hA : s.heap.size ≤ H1.size := by have := hS.1; omega
    refine (?_ : W _ _ _ _ _ _ _ _ _ _ _ _ _ _ _ (F0 m (pc + 3) arr (.ref H.size :: st.map (vv G))))
    rw [z, ← adr_lt (G := G) hk1]
    refine kk hO hce hsl H1 locs arr z1 ?_ ⟨hA, fun q g1 g2 => (o1 q (by have := hS.1; omega)).trans (hS.2.1 q g1 g2), hS.2.2⟩ hl
    rw [← wsOf_push (σ := σ) (e := .inl (G.2.2.1 t, n.toNatClampNeg, .inr (.inr (.inr (.inr fun _ => none))))) rfl (by rw [pic_q hla (by omega)]; show Sum.inl (_, _, Sum.inr (Sum.inr (Sum.inr (Sum.inr fun i => (upR _ _ _ _ i).map (adr G))))) = _; rw [upR_at]; rfl) (fun j hj => pic_n (upI_ne hj) (upR_ne hj))]
    refine (hP.kept hk').app (fun k x hx => ?_)
    have hz : k < 1 := (List.getElem?_eq_some_iff.mp hx).1
    rw [show k = 0 by omega] at hx
    cases hx
    exact e1
  · cases h
/-! returns -/
def FinQ (G : Gd) (mc ms : Nat) (rv : Option Value) (σ' : St) (X : Cx) : Prop := match X with
  | (p, e, R, s, m, args, below, meth, c, Q) => Q = MQ below (QcV G rv σ') args s mc ms (ar G)
theorem world_at {p : Program} {e : Env} {R : Room} {s : State} {m : MethodId} {args : Array Value} {below : List Frame} {meth : Method} {c : Code} {Q : State → Prop} {H : Heap} {locs : List Loc} (hO : Ok M G d mc ms (p, e, R, s, m, args, below, meth, c, Q)) (z : H.size = G.1 + σ.2.2) (hP : va_P G.2.2.2 vwCl (wsOf G σ) H) (hS : va_S (ar G) s.heap H locs) {t : State} (ht : t.heap = H) (hW : s.WarmedH t.vm) : World G σ t := by
  refine ⟨by rw [ht]; exact z, by rw [ht]; exact hP, va_K.moved hW.alike hO.2.2.2.2.2.2.2.2.1, ?_⟩
  rw [ht]
  exact (Old.warm hW hO.2.2.2.2.2.2.2.2.2.1).kept hS.2.1
theorem V_iret {v : Int32} (hQ : FinQ G mc ms (some (.int v)) σ X) (hr : M.2.2.2 = some .int) (dg : decode M.2.1 pc = .ok (.ireturn, 1)) : V M l G d mc ms X ce sl pc ls [.int v] σ := by
  obtain ⟨p, e, R, s, m, args, below, meth, c, Q⟩ := X
  intro hO h1 h2 H locs arr z hP hS hl
  have hQ : Q = _ := hQ
  subst hQ
  refine W.widen (k := mc) (n := ms) h1 h2 ?_
  exact W.iret hO.1 hO.2.1 (by rw [hO.2.2.1]; exact hr) (fun t ht hW => ⟨⟨rfl, world_at hO z hP hS ht hW⟩, hS.F ht⟩) hS.2.2 dg hO.2.2.2.2.2.2.1
theorem V_zret {v : Int32} (hv : v = 0 ∨ v = 1) (hQ : FinQ G mc ms (some (.int v)) σ X) (hr : M.2.2.2 = some .boolean) (dg : decode M.2.1 pc = .ok (.ireturn, 1)) : V M l G d mc ms X ce sl pc ls [.int v] σ := by
  obtain ⟨p, e, R, s, m, args, below, meth, c, Q⟩ := X
  intro hO h1 h2 H locs arr z hP hS hl
  have hQ : Q = _ := hQ
  subst hQ
  refine W.widen (k := mc) (n := ms) h1 h2 ?_
  exact W.zret hO.1 hO.2.1 (by rw [hO.2.2.1]; exact hr) (by rcases hv with rfl | rfl <;> rfl) (fun t ht hW => ⟨⟨rfl, world_at hO z hP hS ht hW⟩, hS.F ht⟩) hS.2.2 dg hO.2.2.2.2.2.2.1
theorem V_cret {v : Int32} {ty : FieldType} (hv : narrow ty (.int v) = .int v) (hQ : FinQ G mc ms (some (.int v)) σ X) (hr : M.2.2.2 = some ty) (dg : decode M.2.1 pc = .ok (.ireturn, 1)) : V M l G d mc ms X ce sl pc ls [.int v] σ := by
  obtain ⟨p, e, R, s, m, args, below, meth, c, Q⟩ := X
  intro hO h1 h2 H locs arr z hP hS hl
  have hQ : Q = _ := hQ
  subst hQ
  refine W.widen (k := mc) (n := ms) h1 h2 ?_
  exact W.zret hO.1 hO.2.1 (by rw [hO.2.2.1]; exact hr) hv (fun t ht hW => ⟨⟨rfl, world_at hO z hP hS ht hW⟩, hS.F ht⟩) hS.2.2 dg hO.2.2.2.2.2.2.1
theorem V_lret {v : Int64} (hQ : FinQ G mc ms (some (.long v)) σ X) (hr : M.2.2.2 = some .long) (dg : decode M.2.1 pc = .ok (.lreturn, 1)) : V M l G d mc ms X ce sl pc ls [.long v] σ := by
  obtain ⟨p, e, R, s, m, args, below, meth, c, Q⟩ := X
  intro hO h1 h2 H locs arr z hP hS hl
  have hQ : Q = _ := hQ
  subst hQ
  refine W.widen (k := mc) (n := ms) h1 h2 ?_
  exact W.lret hO.1 hO.2.1 (by rw [hO.2.2.1]; exact hr) (fun t ht hW => ⟨⟨rfl, world_at hO z hP hS ht hW⟩, hS.F ht⟩) hS.2.2 dg hO.2.2.2.2.2.2.1
theorem V_aret {q : Nat} {nm : String} (hQ : FinQ G mc ms (some (.ref q)) σ X) (hr : M.2.2.2 = some (.object nm)) (dg : decode M.2.1 pc = .ok (.areturn, 1)) : V M l G d mc ms X ce sl pc ls [.ref q] σ := by
  obtain ⟨p, e, R, s, m, args, below, meth, c, Q⟩ := X
  intro hO h1 h2 H locs arr z hP hS hl
  have hQ : Q = _ := hQ
  subst hQ
  refine W.widen (k := mc) (n := ms) h1 h2 ?_
  exact W.aret hO.1 hO.2.1 (by rw [hO.2.2.1]; exact hr) (Or.inl ⟨_, rfl⟩) (Or.inr ⟨_, rfl⟩) (fun t ht hW => ⟨⟨rfl, world_at hO z hP hS ht hW⟩, hS.F ht⟩) hS.2.2 dg hO.2.2.2.2.2.2.1
theorem V_vret (hQ : FinQ G mc ms none σ X) (hr : M.2.2.2 = none) (dg : decode M.2.1 pc = .ok (.return_, 1)) : V M l G d mc ms X ce sl pc ls [] σ := by
  obtain ⟨p, e, R, s, m, args, below, meth, c, Q⟩ := X
  intro hO h1 h2 H locs arr z hP hS hl
  have hQ : Q = _ := hQ
  subst hQ
  refine W.widen (k := mc) (n := ms) h1 h2 ?_
  exact W.vret hO.1 hO.2.1 (by rw [hO.2.2.1]; exact hr) (fun t ht hW => ⟨⟨rfl, world_at hO z hP hS ht hW⟩, hS.F ht⟩) hS.2.2 dg hO.2.2.2.2.2.2.1
/-! a method's contract by its walk -/
theorem lv_args_G (vs : List Value) : ∀ i, lv_args i (vs.map (vv G)) = lsG G (lv_args i vs) := by
  induction vs with
  | nil => intro i; rfl
  | cons v vs ih =>
    intro i
    show (i, vv G v) :: lv_args (if (vv G v).category = 2 then i + 2 else i + 1) (vs.map (vv G)) = (i, vv G v) :: lsG G (lv_args _ vs)
    rw [vv_cat, ih]
theorem lg_sl_G (vs : List Value) : (lg_sl (vs.map (vv G))).length = (lg_sl vs).length := by
  induction vs with
  | nil => rfl
  | cons v vs ih =>
    simp only [lg_sl, List.map_cons, List.flatMap_cons, List.length_append] at ih ⊢
    rw [ih, vv_cat]
    congr 1
    by_cases h : v.category = 2
    · rw [if_pos h, if_pos h]; rfl
    · rw [if_neg h, if_neg h]; rfl
theorem MetV.of {as : List Value} {rv : Option Value} {σ' : St} (ls0 : List (Nat × Value)) (hy : plainName M.1.cls = true) (hls : lv_args 0 as = ls0) (hlen : (lg_sl as).length ≤ M.2.2.1) (hG : ∀ X : Cx, FinQ G mc ms rv σ' X → V M l G d mc ms X 0 0 0 ls0 [] σ) : MetV l G d M as σ rv σ' mc ms := by
  subst hls
  refine Met.ofW (cc := M.2.1) (maxL := M.2.2.1) (ret := M.2.2.2) hy rfl ?_
  intro p e s m args below meth c s₁ B hml hv
  obtain ⟨rfl, hz, hP, hK, hOl⟩ := hv
  have hts := atoms_spec (ws := wsM M) B.pre
  have hown : s.vm.findClass M.1.cls = some m.cls := findClass_of_methodNamed B.named
  have hname : meth.name = M.1.name := (name_of_methodNamed B.named B.method).1
  have hl := lv_entry (as.map (vv G)) (n := M.2.2.1) (by rw [lg_sl_G]; exact hlen)
  rw [lg_entry_eq]
  generalize (lg_sl (as.map (vv G)) ++ List.replicate (M.2.2.1 - (lg_sl (as.map (vv G))).length) Slot.unset).toArray = arr at hl ⊢
  rw [lv_args_G] at hl
  exact hG (p, e, rmV d mc ms, s, m, (as.map (vv G)).toArray, below, meth, c, MQ below (QcV G rv σ') (as.map (vv G)).toArray s mc ms (ar G)) rfl ⟨B.exec, B.bytes, B.returns, hml, hown, fun w h => hts w (List.mem_cons_of_mem _ h), B.notSynchronized, hname, hK, hOl, by rw [hz]; omega, Nat.le_refl _, Nat.le_refl _, Nat.le_refl _, Nat.le_refl _⟩ (Nat.zero_le _) (Nat.zero_le _) s.heap [] arr hz hP va_S.rf hl
end VC
