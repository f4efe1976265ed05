section VX
variable {M N : MI} {l : Launch} {G : Gd} {d mc ms : Nat} {X : Cx} {ce sl pc : Nat} {ls : List (Nat × Value)} {st : List Value} {σ σ1 : St}
theorem ne0_ne {x z : Int32} (h : ne0 x = some z) : ¬ x = 0 := by
  unfold ne0 at h
  split at h
  · cases h
  · next h0 => exact h0
theorem neL_ne {x z : Int64} (h : neL x = some z) : ¬ x = 0 := by
  unfold neL at h
  split at h
  · cases h
  · next h0 => exact h0
theorem zr_ok {x z : Int32} (h : zr x = some z) : x = 0 ∨ x = 1 := by
  unfold zr at h
  split at h
  · next h0 => exact h0
  · cases h
theorem cr_ok {ty : FieldType} {x z : Int32} (h : cr ty x = some z) : narrow ty (.int x) = .int x := by
  unfold cr at h
  split at h
  · next h0 => exact h0
  · cases h
theorem nwA_le {t : Nat} {n : Int32} (h : nwA σ t n = some σ1) : n.toNatClampNeg ≤ 1300 := by
  unfold nwA at h
  split at h
  · next h0 => exact h0.2.2.2
  · cases h
theorem tbm {w : Cond} (i : Nat) (h : lw_tbl[i]? = some w) (hg : goodWord w = true) : w ∈ tb := List.mem_filter.mpr ⟨List.mem_of_getElem? h, hg⟩
theorem V_cnt {ce1 sl1 : Nat} (h1 : ce ≤ ce1 ∧ ce1 ≤ mc) (h2 : sl ≤ sl1 ∧ sl1 ≤ ms) (kk : V M l G d mc ms X ce1 sl1 pc ls st σ) : V M l G d mc ms X ce sl pc ls st σ := by
  obtain ⟨p, e, R, s, m, args, below, meth, c, Q⟩ := X
  intro hO _ _ H locs arr z hP hS hl
  exact W.widen h1.1 h2.1 (kk hO h1.2 h2.2 H locs arr z hP hS hl)
/-! the machine's own copy -/
theorem V_acopy {t k k2 ix : Nat} {sp dp n : Int32} {rest : List Value} (pc1 : Nat) (h : cp σ t k sp k2 dp n = some σ1) (ht : t = 0 ∨ t = 1) (hw : Cond.methodLink M.1.cls ix arraycopyName ∈ tb) (hwn : Cond.native arraycopyName ∈ tb) (hws : Cond.static arraycopyName ∈ tb) (hwi : Cond.initialized "java/lang/System" ∈ tb) (hd : 1 ≤ d) (hroom : (rest.map fun v => v.category).sum ≤ 8) (dg : decode M.2.1 pc = .ok (.invokestatic ix, 3)) (hp : pc + 3 = pc1) (kk : V M l G d mc ms X ce sl pc1 ls rest σ1) : V M l G d mc ms X ce sl pc ls (.int n :: .int dp :: .ref k2 :: .int sp :: .ref k :: rest) σ := by
  subst hp
  obtain ⟨p, e, R, s, m, args, below, meth, c, Q⟩ := X
  intro hO g1 g2 H locs arr z hP hS hl
  have hS : va_S (ar G) s.heap H locs := hS
  obtain ⟨hx, hb, hret, hml, hown, hts, hlocks, hname, hK, hOl, hG, hRf, hRl, hRc, hRs⟩ := id hO
  unfold cp at h
  obtain ⟨n0, e0, h⟩ := ob h
  obtain ⟨n1, e1, h⟩ := ob h
  split at h
  · next hc =>
    cases h
    obtain ⟨i1, i2, i3, i4, i5, i6⟩ := hc
    obtain ⟨hk, hk1, hla⟩ := arL_spec e0
    obtain ⟨hk2, hk3, hla2⟩ := arL_spec e1
    have ht2 : t < 2 := by omega
    have h1 : ¬ sp < 0 := Int32.not_lt.mpr i1
    have h2 : ¬ dp < 0 := Int32.not_lt.mpr i2
    have h3 : ¬ n < 0 := Int32.not_lt.mpr i3
    have nn : ∀ x : Int32, 0 ≤ x → x.toInt = (x.toNatClampNeg : Int) := by
      intro x hx0
      have q := Int32.le_iff_toInt_le.mp hx0
      have q0 : (0 : Int32).toInt = 0 := rfl
      rw [q0] at q
      show x.toInt = ((x.toInt.toNat : Nat) : Int)
      omega
    have hty : ∃ ty : FieldType, (tysOf G)[t]? = some (G.2.2.1 t, ty) ∧ refKind ty = false ∧ ∀ i, i < n.toNatClampNeg → fits ty (.int (σ.1 k (sp.toNatClampNeg + i))) = true := by
      rcases ht with rfl | rfl
      · exact ⟨.int, rfl, rfl, fun i _ => rfl⟩
      · exact ⟨.byte, rfl, rfl, fun i hi => (i6.resolve_left (by decide)) i hi⟩
    obtain ⟨ty, hty, hprim, hfit⟩ := hty
    show W _ _ _ _ _ _ _ _ _ _ _ _ _ _ _ (F0 _ _ _ (.int n :: .int dp :: .ref (adr G k2) :: .int sp :: .ref (adr G k) :: rest.map (vv G)))
    rw [adr_lt hk1, adr_lt hk3]
    have hc0 : H[G.1 + k]? = some (vp_cell (G.2.2.1 t) (n0, .inl (σ.1 k))) := hP k (G.1 + k, .inl (G.2.2.1 t, n0, .inl (σ.1 k))) (by rw [wsOf_at hk, pic_i hla ht2])
    have hc1 : H[G.1 + k2]? = some (vp_cell (G.2.2.1 t) (n1, .inl (σ.1 k2))) := hP k2 (G.1 + k2, .inl (G.2.2.1 t, n1, .inl (σ.1 k2))) (by rw [wsOf_at hk2, pic_i hla2 ht2])
    intro T hT Y
    obtain ⟨-, kc0, hk0, cm0, hkk0⟩ := (hK.2 t _ hty).1 n0 (fun j => .int (σ.1 k j))
    obtain ⟨-, kc1, hk1', cm1, hkk1⟩ := (hK.2 t _ hty).1 n1 (fun j => .int (σ.1 k2 j))
    have hrm : ((rest.map (vv G)).map fun v => v.category).sum ≤ 8 := by rw [vv_cats]; exact hroom
    have hnw : nativeFrameWords "java/lang/System" "arraycopy" 5 = 7 := by decide
    obtain ⟨vm', X', step⟩ := Y.arraycopy hx hown (hts _ hw) (hts _ hwn) (hts _ hws) (hts _ hwi) (src := G.1 + k) (dst := G.1 + k2) (cs := vp_cell (G.2.2.1 t) (n0, .inl (σ.1 k))) (cd := vp_cell (G.2.2.1 t) (n1, .inl (σ.1 k2))) (srcPos := sp) (destPos := dp) (n := n) (by rw [hT]; exact hc0) (by rw [hT]; exact hc1)
      (fun _ h => by cases h) (fun _ h => by cases h) (fun h => by cases h) (fun h => by cases h) hk0 hk1' hkk0 hkk1 (by simp [hprim]) h1 h2 h3
      (by rw [nn sp i1, nn n i3]; show ¬ _ > ((arrV (G.2.2.1 t) n0 (fun j => .int (σ.1 k j))).slots.size : Int); rw [arrV_size]; omega)
      (by rw [nn dp i2, nn n i3]; show ¬ _ > ((arrV (G.2.2.1 t) n1 (fun j => .int (σ.1 k2 j))).slots.size : Int); rw [arrV_size]; omega)
      (fun vm₁ _ i hi => by
        have e : (vp_cell (G.2.2.1 t) (n0, .inl (σ.1 k))).slots.getD (sp.toNatClampNeg + i) .null = .int (σ.1 k (sp.toNatClampNeg + i)) := by
          show (arrV (G.2.2.1 t) n0 (fun j => .int (σ.1 k j))).slots.getD _ _ = _
          rw [Array.getD_eq_getD_getElem?, arrV_read _ _ (by omega)]
          rfl
        refine ⟨?_, ?_⟩
        · rw [e]
          exact hfit i hi
        · rw [e]
          exact trivial)
      (g := F0 m pc arr (.int n :: .int dp :: .ref (G.1 + k2) :: .int sp :: .ref (G.1 + k) :: rest.map (vv G))) rfl (by show arr.size = _; rw [hml]; exact hl.1) (rest := rest.map (vv G)) rfl (by rw [hb]; exact dg) (by show 1 ≤ R.frames; omega) (by show 2 * 0 + _ + (nativeFrameWords "java/lang/System" "arraycopy" 5 + 11) ≤ R.locals; rw [hnw]; omega)
    have e1' : copied (vp_cell (G.2.2.1 t) (n0, .inl (σ.1 k))) (vp_cell (G.2.2.1 t) (n1, .inl (σ.1 k2))) sp dp n = vp_cell (G.2.2.1 t) (n1, .inl (va_cpy (σ.1 k) (σ.1 k2) sp.toNatClampNeg dp.toNatClampNeg n.toNatClampNeg)) := va_copied (fun z => .int z) _ _ _ _ i4
    rw [e1'] at X' step
    have hl2 : G.1 + k2 < H.size := (Array.getElem?_eq_some_iff.mp hc1).1
    have hheap : ((T.setVm vm').setCell (G.1 + k2) (vp_cell (G.2.2.1 t) (n1, .inl (va_cpy (σ.1 k) (σ.1 k2) sp.toNatClampNeg dp.toNatClampNeg n.toNatClampNeg)))).heap = H.setIfInBounds (G.1 + k2) (vp_cell (G.2.2.1 t) (n1, .inl (va_cpy (σ.1 k) (σ.1 k2) sp.toNatClampNeg dp.toNatClampNeg n.toNatClampNeg))) := by rw [← hT]; rfl
    have oq : ∀ q : Nat, q ≠ G.1 + k2 → (H.setIfInBounds (G.1 + k2) (vp_cell (G.2.2.1 t) (n1, .inl (va_cpy (σ.1 k) (σ.1 k2) sp.toNatClampNeg dp.toNatClampNeg n.toNatClampNeg))))[q]? = H[q]? := fun q hq => by simp [Array.getElem?_setIfInBounds, Ne.symm hq]
    have hz : (H.setIfInBounds (G.1 + k2) (vp_cell (G.2.2.1 t) (n1, .inl (va_cpy (σ.1 k) (σ.1 k2) sp.toNatClampNeg dp.toNatClampNeg n.toNatClampNeg)))).size = H.size := by simp
    obtain ⟨t2, a1, b1⟩ := kk hO g1 g2 (H.setIfInBounds (G.1 + k2) (vp_cell (G.2.2.1 t) (n1, .inl (va_cpy (σ.1 k) (σ.1 k2) sp.toNatClampNeg dp.toNatClampNeg n.toNatClampNeg)))) _ arr (by rw [hz]; exact z) (zarr_set hk2 hla2 ht2 hP (by simp [Array.getElem?_setIfInBounds, hl2]) oq) ⟨by rw [hz]; exact hS.1, fun q j1 j2 => by
        rw [oq q (fun e => j2 (by rw [e]; show G.1 ≤ G.1 + k2; omega))]
        exact hS.2.1 q j1 j2, fun q hq => by
        rcases List.mem_append.mp hq with h | h
        · exact hS.2.2 q h
        · obtain ⟨x, -, hx'⟩ := List.mem_map.mp h
          rw [← hx']
          show G.1 ≤ G.1 + k2
          omega⟩ hl _ hheap X'
    exact ⟨t2, step t2 a1, b1⟩
  · cases h
/-! texts: three constant strings, cells 1004 .. 1006, their bytes 1007 .. 1009 -/
theorem adr_old {j : Nat} : adr G (1000 + j) = G.2.1 j := by
  unfold adr
  rw [if_neg (by omega), Nat.add_sub_cancel_left]
theorem isS_spec {q : Nat} (h : isS q = true) : ∃ i, i < 3 ∧ q = 1000 + (4 + i) := by
  simp only [isS, Bool.and_eq_true, decide_eq_true_eq] at h
  exact ⟨q - 1004, by omega, by omega⟩
theorem sOk_spec {q z : Nat} (h : sOk q = some z) : isS q = true := by
  unfold sOk at h
  split at h
  · next h0 => exact h0
  · cases h
theorem V_ldcS {ix j : Nat} {tx : String} (pc1 : Nat) (ho : ∀ s : State, Old G s s.heap → vk_R M.1.cls ix tx (G.2.1 j) s) (_hj : j < 10) (dg : decode M.2.1 pc = .ok (.ldc ix, 2)) (hp : pc + 2 = pc1) (kk : V M l G d mc ms X ce sl pc1 ls (.ref (1000 + j) :: st) σ) : V M l G d mc ms X ce sl pc ls st σ := by
  subst hp
  obtain ⟨p, e, R, s, m, args, below, meth, c, Q⟩ := X
  intro hO h1 h2 H locs arr z hP hS hl
  refine va_ldcS hO.1 hO.2.1 hO.2.2.2.2.1 (ho s hO.2.2.2.2.2.2.2.2.2.1) dg ?_
  have := kk hO h1 h2 H locs arr z hP hS hl
  rw [← adr_old (G := G)]
  exact this
theorem V_strvalue {ix q z : Nat} (pc1 : Nat) (h : sOk q = some z) (hw : Cond.fieldLink M.1.cls ix "java/lang/String" "value" "[B" ∈ tb) (dg : decode M.2.1 pc = .ok (.getfield ix, 3)) (hp : pc + 3 = pc1) (kk : V M l G d mc ms X ce sl pc1 ls (.ref (q + 3) :: st) σ) : V M l G d mc ms X ce sl pc ls (.ref q :: st) σ := by
  subst hp
  obtain ⟨p, e, R, s, m, args, below, meth, c, Q⟩ := X
  intro hO h1 h2 H locs arr z hP hS hl
  obtain ⟨i, hi, rfl⟩ := isS_spec (sOk_spec h)
  have hK := hO.2.2.2.2.2.2.2.2.2.1.2.2.2.2.2.2.1
  show W _ _ _ _ _ _ _ _ _ _ _ _ _ _ _ (F0 _ _ _ (.ref (adr G (1000 + (4 + i))) :: _))
  rw [adr_old]
  refine vk_getf hO.1 hO.2.1 (hK.1 i hi).2.2.1 hS hO.2.2.2.2.1 (hO.2.2.2.2.2.1 _ hw) (fun _ q => q) dg ?_
  have := kk hO h1 h2 H locs arr z hP hS hl
  rw [show 1000 + (4 + i) + 3 = 1000 + (7 + i) by omega] at this
  show W _ _ _ _ _ _ _ _ _ _ _ _ _ _ _ (F0 _ _ _ (.ref (G.2.1 (7 + i)) :: _))
  rw [← adr_old (G := G) (j := 7 + i)]
  exact this
theorem V_strcoder {ix q z : Nat} (pc1 : Nat) (h : sOk q = some z) (hw : Cond.fieldLink M.1.cls ix "java/lang/String" "coder" "B" ∈ tb) (dg : decode M.2.1 pc = .ok (.getfield ix, 3)) (hp : pc + 3 = pc1) (kk : V M l G d mc ms X ce sl pc1 ls (.int 0 :: st) σ) : V M l G d mc ms X ce sl pc ls (.ref q :: st) σ := by
  subst hp
  obtain ⟨p, e, R, s, m, args, below, meth, c, Q⟩ := X
  intro hO h1 h2 H locs arr z hP hS hl
  obtain ⟨i, hi, rfl⟩ := isS_spec (sOk_spec h)
  have hK := hO.2.2.2.2.2.2.2.2.2.1.2.2.2.2.2.2.1
  show W _ _ _ _ _ _ _ _ _ _ _ _ _ _ _ (F0 _ _ _ (.ref (adr G (1000 + (4 + i))) :: _))
  rw [adr_old]
  exact vk_getf hO.1 hO.2.1 (hK.1 i hi).2.1 hS hO.2.2.2.2.1 (hO.2.2.2.2.2.1 _ hw) (fun _ q => q) dg (kk hO h1 h2 H locs arr z hP hS hl)
theorem V_getsC {ix : Nat} (pc1 : Nat) (hw : Cond.fieldLink M.1.cls ix "java/lang/String" "COMPACT_STRINGS" "Z" ∈ tb) (dg : decode M.2.1 pc = .ok (.getstatic ix, 3)) (hp : pc + 3 = pc1) (kk : V M l G d mc ms X ce sl pc1 ls (.int 1 :: st) σ) : V M l G d mc ms X ce sl pc ls st σ := by
  subst hp
  obtain ⟨p, e, R, s, m, args, below, meth, c, Q⟩ := X
  intro hO h1 h2 H locs arr z hP hS hl
  exact va_gets hO.1 hO.2.1 hO.2.2.2.2.2.2.2.2.2.1.2.2.2.2.2.2.2.1 hS hO.2.2.2.2.1 (hO.2.2.2.2.2.1 _ hw) (fun _ q => q) dg (kk hO h1 h2 H locs arr z hP hS hl)
theorem zsb_at {s : State} (hOl : Old G s s.heap) {q : Nat} (h1 : 1007 ≤ q) (h2 : q < 1010) : va_T .byte (adr G q) (slen (q - 1007)) (fun j => .int ((sbyt.getD (q - 1007) []).getD j 0)) (ar G) s s.heap := by
  have hK := hOl.2.2.2.2.2.2.1
  have h := (hK.1 (q - 1007) (by omega)).2.2.2
  have e : adr G q = G.2.1 (7 + (q - 1007)) := by
    rw [← adr_old (G := G), show 1000 + (7 + (q - 1007)) = q by omega]
  rw [e]
  exact h
theorem V_obald {q : Nat} {i v : Int32} (pc1 : Nat) (h : oB q i = some v) (dg : decode M.2.1 pc = .ok (.baload, 1)) (hp : pc + 1 = pc1) (kk : V M l G d mc ms X ce sl pc1 ls (.int v :: st) σ) : V M l G d mc ms X ce sl pc ls (.int i :: .ref q :: st) σ := by
  subst hp
  obtain ⟨p, e, R, s, m, args, below, meth, c, Q⟩ := X
  intro hO h1 h2 H locs arr z hP hS hl
  unfold oB at h
  split at h
  · next hc =>
    obtain rfl := Option.some.inj h
    obtain ⟨cell, g1, g2, g3, g4, g5, g6, g7⟩ := zsb_at hO.2.2.2.2.2.2.2.2.2.1 hc.1 hc.2.1
    have hin := inB_in hc.2.2
    have hlt : i.toNatClampNeg < slen (q - 1007) := Nat.not_le.mp fun x => hin (Or.inr x)
    exact W.bald hO.1 hO.2.1 (by rw [hS.2.1 _ (Array.getElem?_eq_some_iff.mp g1).1 g7]; exact g1) g2 g3 (fun x => by
      rcases x with x | x
      · exact hin (Or.inl x)
      · omega) (g6 _ hlt) rfl rfl dg (kk hO h1 h2 H locs arr z hP hS hl)
  · cases h
theorem V_oblen {q : Nat} {v : Int32} (pc1 : Nat) (h : oBL q = some v) (dg : decode M.2.1 pc = .ok (.arraylength, 1)) (hp : pc + 1 = pc1) (kk : V M l G d mc ms X ce sl pc1 ls (.int v :: st) σ) : V M l G d mc ms X ce sl pc ls (.ref q :: st) σ := by
  subst hp
  obtain ⟨p, e, R, s, m, args, below, meth, c, Q⟩ := X
  intro hO h1 h2 H locs arr z hP hS hl
  unfold oBL at h
  split at h
  · next hc =>
    obtain rfl := Option.some.inj h
    obtain ⟨cell, g1, g2, g3, g4, g5, g6, g7⟩ := zsb_at hO.2.2.2.2.2.2.2.2.2.1 hc.1 hc.2
    exact W.alen hO.1 hO.2.1 (by rw [hS.2.1 _ (Array.getElem?_eq_some_iff.mp g1).1 g7]; exact g1) g2 g5 rfl rfl dg (kk hO h1 h2 H locs arr z hP hS hl)
  · cases h
theorem V_callStr {k ix np d1 : Nat} {as rest : List Value} {rv : Option Value} (ce1 sl1 pc1 : Nat) (st1 : List Value) (hM : MetV l G d1 N (.ref k :: as) σ rv σ1 0 0) (hd : d1 + 1 ≤ d) (ok : OkN N np) (okv : Cond.instanceMethod N.1 ∈ tb ∧ Cond.selects N.1.cls N.1 N.1 ∈ tb) (ho : isS k = true) (hcl : N.1.cls = "java/lang/String") (hw : Cond.methodLink M.1.cls ix N.1 ∈ tb) (hnp : as.length = np) (hst : as.reverse ++ .ref k :: rest = st) (hroom : (rest.map fun v => v.category).sum ≤ 8) (hce : ce + 0 = ce1) (hsl : sl + 0 = sl1) (_hle : ((0 : Nat) = 0 ∧ (0 : Nat) = 0) ∨ (ce1 ≤ mc ∧ sl1 ≤ ms)) (dg : decode M.2.1 pc = .ok (.invokevirtual ix, 3)) (hp : pc + 3 = pc1) (hst1 : rv.toList ++ rest = st1) (kk : V M l G d mc ms X ce1 sl1 pc1 ls st1 σ1) : V M l G d mc ms X ce sl pc ls st σ := by
  subst hp hst hst1 hnp hce hsl
  obtain ⟨p, e, R, s, m, args, below, meth, c, Q⟩ := X
  intro hO h1 h2 H locs arr z hP hS hl
  have hS : va_S (ar G) s.heap H locs := hS
  obtain ⟨i, hi, rfl⟩ := isS_spec ho
  obtain ⟨hx, hb, hret, hml, hown, hts, hlocks, hname, hK, hOl, hG, hRf, hRl, hRc, hRs⟩ := id hO
  obtain ⟨w1, w2, w3, w4⟩ := ok
  have hcw : CallW R s args M.1.cls N.1.cls ix N.1 N.2.1 N.2.2.1 N.2.2.2 (wsM N) (rmV d1 0 0) 0 0 as.length := ⟨callB_of as.length hts (goodN w1) rfl rfl rfl (hts _ w2) (hts _ hw) w3 ⟨Nat.le_trans hd hRf, by show 8 + (N.2.2.1 + 11) + 40 * d1 ≤ R.locals; omega⟩, hts _ okv.1, hts _ okv.2⟩
  have hpc : ∀ U : State, U.heap = H → s.WarmedH U.vm → PcV G (.ref (1000 + (4 + i)) :: as) σ (Value.ref (G.2.1 (4 + i)) :: as.map (vv G)).toArray U := by
    intro U hU hW
    refine ⟨?_, world_at hO z hP hS hU hW⟩
    show _ = (Value.ref (adr G (1000 + (4 + i))) :: as.map (vv G)).toArray
    rw [adr_old]
  have hrc : ∃ cell : Cell, H[G.2.1 (4 + i)]? = some cell ∧ cell.vm.isStatics = false ∧ s.vm.findClass N.1.cls = some cell.cls := by
    rw [hcl]
    exact vk_recv (adK := fun i => G.2.1 (4 + i)) (i := i) hOl.2.2.2.2.2.2.1 hi hS
  show W _ _ _ _ _ _ _ _ _ _ _ _ _ _ _ (F0 _ _ _ ((as.reverse ++ .ref (1000 + (4 + i)) :: rest).map (vv G)))
  rw [vv_stack]
  show W _ _ _ _ _ _ _ _ _ _ _ _ _ _ _ (F0 _ _ _ (_ ++ .ref (adr G (1000 + (4 + i))) :: rest.map (vv G)))
  rw [adr_old]
  refine run_go (σ1 := σ1) (rest := rest.map (vv G)) (rv := rv) (va_runV (As := as.map (vv G)) (rest := rest.map (vv G)) ⟨hx, hb, hml, hown, hts⟩ hM hcw ⟨blindV, hrc, hpc⟩ rfl (by rw [List.length_map]) hl.1 rfl (lv_room (by rw [vv_cats]; exact hroom)) dg ⟨Nat.le_trans h1 hRc, Nat.le_trans h2 hRs⟩) hS ?_
  intro H1 locs1 z1 hP1 hS1
  rw [← vv_rv]
  exact kk hO h1 h2 H1 locs1 arr z1 hP1 hS1 hl
theorem V_aastS {k q : Nat} {i : Int32} (pc1 : Nat) (h : sS σ k i q = some σ1) (dg : decode M.2.1 pc = .ok (.aastore, 1)) (hp : pc + 1 = pc1) (kk : V M l G d mc ms X ce sl pc1 ls st σ1) : V M l G d mc ms X ce sl pc ls (.ref q :: .int i :: .ref k :: st) σ := by
  subst hp
  obtain ⟨p, e, R, s, m, args, below, meth, c, Q⟩ := X
  intro hO h1 h2 H locs arr z hP hS hl
  have hS : va_S (ar G) s.heap H locs := hS
  unfold sS at h
  split at h
  · next ho =>
    obtain ⟨n, hn, h⟩ := ob h
    split at h
    · next hi =>
      cases h
      obtain ⟨hk, hk1, hla⟩ := arL_spec hn
      have hK := hO.2.2.2.2.2.2.2.2.1
      have hOl := hO.2.2.2.2.2.2.2.2.2.1
      obtain ⟨j, hj, rfl⟩ : ∃ j, j < 3 ∧ q = 1000 + (4 + j) := ⟨q - 1004, by omega, by omega⟩
      show W _ _ _ _ _ _ _ _ _ _ _ _ _ _ _ (F0 _ _ _ (.ref (adr G (1000 + (4 + j))) :: .int i :: .ref (adr G k) :: _))
      rw [adr_lt hk1, adr_old]
      have hc : H[G.1 + k]? = some (vp_cell (G.2.2.1 4) (n, .inr (.inr (.inr (.inr fun j => (σ.2.1 k j).map (adr G)))))) := hP k (G.1 + k, .inl (G.2.2.1 4, n, .inr (.inr (.inr (.inr fun j => (σ.2.1 k j).map (adr G)))))) (by rw [wsOf_at hk, pic_q hla (by decide)])
      obtain ⟨cellV, g1, g2, g3⟩ := vk_recv (adK := fun i => G.2.1 (4 + i)) (i := j) hOl.2.2.2.2.2.2.1 hj hS
      have hra : va_RA s (G.2.2.1 4) (.object "java/lang/String") := (hK.2 4 _ rfl).2
      obtain ⟨kA, comp, k1, k2, k3, -⟩ := hra
      obtain ⟨kE, hkE, -⟩ := Vm.findClass_spec k3
      have hcc : cellV.cls = comp := Option.some.inj (g3.symm.trans k3)
      have hin := inB_in hi
      have hlt : i.toNatClampNeg < n := Nat.not_le.mp fun x => hin (Or.inr x)
      have h0 : ¬ i < 0 := fun x => hin (Or.inl x)
      refine W.aast hO.1 hO.2.1 hc (fun q h => by cases h) (fun h => by cases h) k1 k2 rfl hkE ⟨h0, by show _ < (arrV _ _ _).slots.size; rw [arrV_size]; exact hlt⟩ g1 (fun q h => by rw [h] at g2; cases g2) (by rw [hcc]; exact hkE) (by rw [hcc]; exact va_asg _ _) rfl rfl dg fun H1 e1 z1 oq => ?_
      refine kk hO h1 h2 H1 _ arr (by rw [z1]; exact z) (zarq_set hk hla (by decide) hP ?_ oq) (hS.put z1 oq (by show G.1 ≤ G.1 + k; omega)) hl
      rw [e1, vp_cell_q, vp_cell_q, arrV_store]
      congr 2
      funext x
      by_cases hx : x = i.toNatClampNeg
      · subst hx
        simp [updV, up1, va_rf, adr_old]
      · simp [updV, up1, hx]
    · cases h
  · cases h
end VX
