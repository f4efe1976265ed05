section VK
variable {M N : MI} {l : Launch} {G : Gd} {d mc ms : Nat} {X : Cx} {ce sl pc : Nat} {ls : List (Nat × Value)} {st : List Value} {σ σ1 : St}
theorem World.vm {u U : State} (hh : U.heap = u.heap) (hv : U.vm = u.vm) (h : World G σ u) : World G σ U := by
  obtain ⟨h1, h2, h3, h4⟩ := h
  refine ⟨by rw [hh]; exact h1, by rw [hh]; exact h2, va_K.moved (by rw [hv]; exact Vm.Alike.refl _) h3, ?_⟩
  rw [hh]
  exact Old.same hv h4
theorem blindV {as : List Value} : FrameBlind (PcV G as σ) := fun a U g mk h => ⟨h.1, World.vm (u := U) rfl rfl h.2⟩
theorem goodN (hc : Cond.code N.1 N.2.1 N.2.2.1 N.2.2.2 ∈ tb) : GoodIn tb (wsM N) := by
  intro w hw
  have hm : w ∈ tb := by
    rcases List.mem_cons.mp hw with e | h
    · rw [e]; exact hc
    · exact h
  exact ⟨hm, good_of_word (List.mem_filter.mp hm).2⟩
/-- what a call needs of the method that it calls -/
def OkN (N : MI) (np : Nat) : Prop := Cond.code N.1 N.2.1 N.2.2.1 N.2.2.2 ∈ tb ∧ Cond.initialized N.1.cls ∈ tb ∧ (N.1.cls ≠ "java/lang/invoke/MethodHandle" ∧ N.1.cls ≠ "java/lang/invoke/VarHandle" ∧ (parseMethodDescriptor N.1.desc).map (fun d => d.parameters.length) = some np) ∧ N.2.2.1 ≤ 21
theorem run_go {p : Program} {e : Env} {R : Room} {s : State} {m : MethodId} {args : Array Value} {below : List Frame} {meth : Method} {c : Code} {Q : State → Prop} {H : Heap} {locs : List Loc} {arr : Array Slot} {st0 rest a : List Value} {rv : Option Value} {mc1 ms1 : Nat}
    (hr : va_Run p l e R s m args below meth c H locs ce sl mc1 ms1 (F0 m pc arr st0) rest (QcV G rv σ1 a.toArray) (ar G)) (hS : va_S (ar G) s.heap H locs)
    (kk : ∀ (H1 : Heap) (locs1 : List Loc), H1.size = G.1 + σ1.2.2 → va_P G.2.2.2 vwCl (wsOf G σ1) H1 → va_S (ar G) s.heap H1 locs1 → W p l e R s m args below meth c H1 locs1 (ce + mc1) (sl + ms1) Q (F0 m (pc + 3) arr ((rv.map (vv G)).toList ++ rest))) : W p l e R s m args below meth c H locs ce sl Q (F0 m pc arr st0) := by
  intro T hT X
  obtain ⟨v, st₀, t, T', L, h0, X', hL, e1, e2, ⟨⟨hv, hw1, hw2, -, -⟩, hz, hk⟩, st⟩ := hr T hT X
  cases hv
  rw [h0] at hz hk
  obtain ⟨t2, a1, b1⟩ := kk T'.heap (locs ++ L) (by rw [e1]; exact hw1) (by rw [e1]; exact hw2)
    ⟨Nat.le_trans hS.1 (by rw [e1]; exact hz), fun q h1 h2 => by rw [e1, hk q (Nat.lt_of_lt_of_le h1 hS.1) h2]; exact hS.2.1 q h1 h2, fun q hq => by
      rcases List.mem_append.mp hq with h | h
      · exact hS.2.2 q h
      · exact hL q h⟩ T' rfl X'
  exact ⟨t2, st t2 a1, b1⟩
theorem vv_stack (G : Gd) (as rest : List Value) : (as.reverse ++ rest).map (vv G) = (as.map (vv G)).reverse ++ rest.map (vv G) := by
  rw [List.map_append, List.map_reverse]
theorem vv_rv (G : Gd) (rv : Option Value) (rest : List Value) : (rv.toList ++ rest).map (vv G) = (rv.map (vv G)).toList ++ rest.map (vv G) := by
  cases rv <;> rfl
theorem vv_cats (G : Gd) (rest : List Value) : ((rest.map (vv G)).map fun v => v.category) = rest.map fun v => v.category := by
  rw [List.map_map]
  exact List.map_congr_left fun v _ => vv_cat G v
theorem V_callV {k ci ix np d1 mc1 ms1 n : Nat} {as rest : List Value} {T : u_T} {rv : Option Value} (ce1 sl1 pc1 : Nat) (st1 : List Value) (hM : MetV l G d1 N (.ref k :: as) σ rv σ1 mc1 ms1) (hd : d1 + 1 ≤ d) (ok : OkN N np) (okv : Cond.instanceMethod N.1 ∈ tb ∧ Cond.selects N.1.cls N.1 N.1 ∈ tb) (ho : isO σ ci k = true) (cf : vwCl[ci]? = some (N.1.cls, T, n)) (hw : Cond.methodLink M.1.cls ix N.1 ∈ tb) (hnp : as.length = np) (hst : as.reverse ++ .ref k :: rest = st) (hroom : (rest.map fun v => v.category).sum ≤ 8) (hce : ce + mc1 = ce1) (hsl : sl + ms1 = sl1) (hle : (mc1 = 0 ∧ ms1 = 0) ∨ (ce1 ≤ mc ∧ sl1 ≤ ms)) (dg : decode M.2.1 pc = .ok (.invokevirtual ix, 3)) (hp : pc + 3 = pc1) (hst1 : rv.toList ++ rest = st1) (kk : V M l G d mc ms X ce1 sl1 pc1 ls st1 σ1) : V M l G d mc ms X ce sl pc ls st σ := by
  subst hp hst hst1 hnp hce hsl
  obtain ⟨p, e, R, s, m, args, below, meth, c, Q⟩ := X
  intro hO h1 h2 H locs arr z hP hS hl
  have hS : va_S (ar G) s.heap H locs := hS
  obtain ⟨hk, hk1, hla⟩ := isO_spec ho
  obtain ⟨hx, hb, hret, hml, hown, hts, hlocks, hname, hK, hOl, hG, hRf, hRl, hRc, hRs⟩ := id hO
  obtain ⟨w1, w2, w3, w4⟩ := ok
  have hle2 : ce + mc1 ≤ mc ∧ sl + ms1 ≤ ms := by rcases hle with ⟨rfl, rfl⟩ | h <;> omega
  have hcw : CallW R s args M.1.cls N.1.cls ix N.1 N.2.1 N.2.2.1 N.2.2.2 (wsM N) (rmV d1 mc1 ms1) mc1 ms1 as.length := ⟨callB_of as.length hts (goodN w1) rfl rfl rfl (hts _ w2) (hts _ hw) w3 ⟨Nat.le_trans hd hRf, by show 8 + (N.2.2.1 + 11) + 40 * d1 ≤ R.locals; omega⟩, hts _ okv.1, hts _ okv.2⟩
  have hpc : ∀ U : State, U.heap = H → s.WarmedH U.vm → PcV G (.ref k :: as) σ (Value.ref (G.1 + k) :: as.map (vv G)).toArray U := by
    intro U hU hW
    refine ⟨?_, world_at hO z hP hS hU hW⟩
    show _ = (Value.ref (adr G k) :: as.map (vv G)).toArray
    rw [adr_lt hk1]
  show W _ _ _ _ _ _ _ _ _ _ _ _ _ _ _ (F0 _ _ _ ((as.reverse ++ .ref k :: rest).map (vv G)))
  rw [vv_stack]
  show W _ _ _ _ _ _ _ _ _ _ _ _ _ _ _ (F0 _ _ _ (_ ++ .ref (adr G k) :: rest.map (vv G)))
  rw [adr_lt hk1]
  refine run_go (σ1 := σ1) (rest := rest.map (vv G)) (rv := rv) (va_runV (As := as.map (vv G)) (rest := rest.map (vv G)) ⟨hx, hb, hml, hown, hts⟩ hM hcw ⟨blindV, va_recv hK hP (ci := ci) (q0 := k) cf (by rw [wsOf_at hk, pic_o hla]), hpc⟩ rfl (by rw [List.length_map]) hl.1 rfl (lv_room (by rw [vv_cats]; exact hroom)) dg ⟨Nat.le_trans hle2.1 hRc, Nat.le_trans hle2.2 hRs⟩) hS ?_
  intro H1 locs1 z1 hP1 hS1
  rw [← vv_rv]
  exact kk hO hle2.1 hle2.2 H1 locs1 arr z1 hP1 hS1 hl
theorem V_callS {ix np d1 mc1 ms1 : Nat} {as rest : List Value} {rv : Option Value} (ce1 sl1 pc1 : Nat) (st1 : List Value) (hM : MetV l G d1 N as σ rv σ1 mc1 ms1) (hd : d1 + 1 ≤ d) (ok : OkN N np) (oks : Cond.static N.1 ∈ tb) (hw : Cond.methodLink M.1.cls ix N.1 ∈ tb) (hnp : as.length = np) (hst : as.reverse ++ rest = st) (hroom : (rest.map fun v => v.category).sum ≤ 8) (hce : ce + mc1 = ce1) (hsl : sl + ms1 = sl1) (hle : (mc1 = 0 ∧ ms1 = 0) ∨ (ce1 ≤ mc ∧ sl1 ≤ ms)) (dg : decode M.2.1 pc = .ok (.invokestatic ix, 3)) (hp : pc + 3 = pc1) (hst1 : rv.toList ++ rest = st1) (kk : V M l G d mc ms X ce1 sl1 pc1 ls st1 σ1) : V M l G d mc ms X ce sl pc ls st σ := by
  subst hp hst hst1 hnp hce hsl
  obtain ⟨p, e, R, s, m, args, below, meth, c, Q⟩ := X
  intro hO h1 h2 H locs arr z hP hS hl
  have hS : va_S (ar G) s.heap H locs := hS
  obtain ⟨hx, hb, hret, hml, hown, hts, hlocks, hname, hK, hOl, hG, hRf, hRl, hRc, hRs⟩ := id hO
  obtain ⟨w1, w2, w3, w4⟩ := ok
  have hle2 : ce + mc1 ≤ mc ∧ sl + ms1 ≤ ms := by rcases hle with ⟨rfl, rfl⟩ | h <;> omega
  have hcw : CallB R s args M.1.cls ix N.1 N.2.1 N.2.2.1 N.2.2.2 (wsM N) (rmV d1 mc1 ms1) mc1 ms1 as.length ∧ (Cond.static N.1).before args s = true := ⟨callB_of as.length hts (goodN w1) rfl rfl rfl (hts _ w2) (hts _ hw) w3 ⟨Nat.le_trans hd hRf, by show 8 + (N.2.2.1 + 11) + 40 * d1 ≤ R.locals; omega⟩, hts _ oks⟩
  have hpc : ∀ U : State, U.heap = H → s.WarmedH U.vm → PcV G as σ (as.map (vv G)).toArray U := fun U hU hW => ⟨rfl, world_at hO z hP hS hU hW⟩
  show W _ _ _ _ _ _ _ _ _ _ _ _ _ _ _ (F0 _ _ _ ((as.reverse ++ rest).map (vv G)))
  rw [vv_stack]
  refine run_go (σ1 := σ1) (rest := rest.map (vv G)) (rv := rv) (va_runS (As := as.map (vv G)) (rest := rest.map (vv G)) ⟨hx, hb, hml, hown, hts⟩ hM hcw ⟨blindV, hpc⟩ rfl (by rw [List.length_map]) hl.1 rfl (lv_room (by rw [vv_cats]; exact hroom)) dg ⟨Nat.le_trans hle2.1 hRc, Nat.le_trans hle2.2 hRs⟩) hS ?_
  intro H1 locs1 z1 hP1 hS1
  rw [← vv_rv]
  exact kk hO hle2.1 hle2.2 H1 locs1 arr z1 hP1 hS1 hl
theorem V_callI {k ix np d1 mc1 ms1 : Nat} {as rest : List Value} (ce1 sl1 pc1 : Nat) (hM : MetV l G d1 N (.ref k :: as) σ none σ1 mc1 ms1) (hd : d1 + 1 ≤ d) (ok : OkN N np) (oki : N.1.name = "<init>" ∧ Cond.instanceMethod N.1 ∈ tb ∧ N.2.2.2 = none) (hw : Cond.methodLink M.1.cls ix N.1 ∈ tb) (hnp : as.length = np) (hst : as.reverse ++ .ref k :: rest = st) (hroom : (rest.map fun v => v.category).sum ≤ 8) (hce : ce + mc1 = ce1) (hsl : sl + ms1 = sl1) (hle : (mc1 = 0 ∧ ms1 = 0) ∨ (ce1 ≤ mc ∧ sl1 ≤ ms)) (dg : decode M.2.1 pc = .ok (.invokespecial ix, 3)) (hp : pc + 3 = pc1) (kk : V M l G d mc ms X ce1 sl1 pc1 ls rest σ1) : V M l G d mc ms X ce sl pc ls st σ := by
  subst hp hst hnp hce hsl
  obtain ⟨p, e, R, s, m, args, below, meth, c, Q⟩ := X
  intro hO h1 h2 H locs arr z hP hS hl
  have hS : va_S (ar G) s.heap H locs := hS
  obtain ⟨hx, hb, hret, hml, hown, hts, hlocks, hname, hK, hOl, hG, hRf, hRl, hRc, hRs⟩ := id hO
  obtain ⟨w1, w2, w3, w4⟩ := ok
  obtain ⟨i1, i2, i3⟩ := oki
  have hle2 : ce + mc1 ≤ mc ∧ sl + ms1 ≤ ms := by rcases hle with ⟨rfl, rfl⟩ | h <;> omega
  have hwN : wsM N = Cond.code N.1 N.2.1 N.2.2.1 none :: tb := by rw [← i3]
  have hcw : CallB R s args M.1.cls ix N.1 N.2.1 N.2.2.1 none (wsM N) (rmV d1 mc1 ms1) mc1 ms1 as.length ∧ N.1.name = "<init>" ∧ (Cond.instanceMethod N.1).before args s = true := ⟨callB_of as.length hts (goodN w1) hwN rfl rfl (hts _ w2) (hts _ hw) w3 ⟨Nat.le_trans hd hRf, by show 8 + (N.2.2.1 + 11) + 40 * d1 ≤ R.locals; omega⟩, i1, hts _ i2⟩
  have hpc : ∀ U : State, U.heap = H → s.WarmedH U.vm → PcV G (.ref k :: as) σ (Value.ref (adr G k) :: as.map (vv G)).toArray U := fun U hU hW => ⟨rfl, world_at hO z hP hS hU hW⟩
  show W _ _ _ _ _ _ _ _ _ _ _ _ _ _ _ (F0 _ _ _ ((as.reverse ++ .ref k :: rest).map (vv G)))
  rw [vv_stack]
  refine run_go (σ1 := σ1) (rest := rest.map (vv G)) (rv := none) (va_runI (b := adr G k) (As := as.map (vv G)) (rest := rest.map (vv G)) ⟨hx, hb, hml, hown, hts⟩ hM hcw ⟨blindV, hpc⟩ rfl (by rw [List.length_map]) hl.1 rfl (lv_room (by rw [vv_cats]; exact hroom)) dg ⟨Nat.le_trans hle2.1 hRc, Nat.le_trans hle2.2 hRs⟩) hS ?_
  intro H1 locs1 z1 hP1 hS1
  exact kk hO hle2.1 hle2.2 H1 locs1 arr z1 hP1 hS1 hl
theorem V_callIN {k ix np d1 mc1 ms1 : Nat} {as rest : List Value} {host : String} (ce1 sl1 pc1 : Nat) (hM : MetV l G d1 N (.ref k :: as) σ none σ1 mc1 ms1) (hd : d1 + 1 ≤ d) (ok : OkN N np) (oki : N.1.name = "<init>" ∧ Cond.instanceMethod N.1 ∈ tb ∧ N.2.2.2 = none) (hw : ∀ s : State, Old G s s.heap → va_Nw (.methodLinkNest M.1.cls ix N.1 host) s) (hnp : as.length = np) (hst : as.reverse ++ .ref k :: rest = st) (hroom : (rest.map fun v => v.category).sum ≤ 8) (hce : ce + mc1 = ce1) (hsl : sl + ms1 = sl1) (hle : (mc1 = 0 ∧ ms1 = 0) ∨ (ce1 ≤ mc ∧ sl1 ≤ ms)) (dg : decode M.2.1 pc = .ok (.invokespecial ix, 3)) (hp : pc + 3 = pc1) (kk : V M l G d mc ms X ce1 sl1 pc1 ls rest σ1) : V M l G d mc ms X ce sl pc ls st σ := by
  subst hp hst hnp hce hsl
  obtain ⟨p, e, R, s, m, args, below, meth, c, Q⟩ := X
  intro hO h1 h2 H locs arr z hP hS hl
  have hS : va_S (ar G) s.heap H locs := hS
  obtain ⟨hx, hb, hret, hml, hown, hts, hlocks, hname, hK, hOl, hG, hRf, hRl, hRc, hRs⟩ := id hO
  obtain ⟨w1, w2, w3, w4⟩ := ok
  obtain ⟨i1, i2, i3⟩ := oki
  have hle2 : ce + mc1 ≤ mc ∧ sl + ms1 ≤ ms := by rcases hle with ⟨rfl, rfl⟩ | h <;> omega
  have hwN : wsM N = Cond.code N.1 N.2.1 N.2.2.1 none :: tb := by rw [← i3]
  have hcw : va_CN R s args M.1.cls ix N.1 host N.2.1 N.2.2.1 none (wsM N) (rmV d1 mc1 ms1) mc1 ms1 as.length ∧ N.1.name = "<init>" ∧ (Cond.instanceMethod N.1).before args s = true := ⟨va_cnB as.length hts (goodN w1) hwN rfl rfl (hw s hOl) (hts _ w2) w3 ⟨Nat.le_trans hd hRf, by show 8 + (N.2.2.1 + 11) + 40 * d1 ≤ R.locals; omega⟩, i1, hts _ i2⟩
  have hpc : ∀ U : State, U.heap = H → s.WarmedH U.vm → PcV G (.ref k :: as) σ (Value.ref (adr G k) :: as.map (vv G)).toArray U := fun U hU hW => ⟨rfl, world_at hO z hP hS hU hW⟩
  show W _ _ _ _ _ _ _ _ _ _ _ _ _ _ _ (F0 _ _ _ ((as.reverse ++ .ref k :: rest).map (vv G)))
  rw [vv_stack]
  refine run_go (σ1 := σ1) (rest := rest.map (vv G)) (rv := none) (va_runIN (b := adr G k) (As := as.map (vv G)) (rest := rest.map (vv G)) ⟨hx, hb, hml, hown, hts⟩ hM hcw ⟨blindV, hpc⟩ rfl (by rw [List.length_map]) hl.1 rfl (lv_room (by rw [vv_cats]; exact hroom)) dg ⟨Nat.le_trans hle2.1 hRc, Nat.le_trans hle2.2 hRs⟩) hS ?_
  intro H1 locs1 z1 hP1 hS1
  exact kk hO hle2.1 hle2.2 H1 locs1 arr z1 hP1 hS1 hl
theorem V_objInit {k ix : Nat} {rest : List Value} (pc1 : Nat) (hw : Cond.methodLink M.1.cls ix Lib.objectInit ∈ tb) (hi : Cond.instanceMethod Lib.objectInit ∈ tb) (hc : Cond.code Lib.objectInit ⟨#[0xb1]⟩ 1 none ∈ tb) (hd : 1 ≤ d) (hroom : (rest.map fun v => v.category).sum ≤ 8) (dg : decode M.2.1 pc = .ok (.invokespecial ix, 3)) (hp : pc + 3 = pc1) (kk : V M l G d mc ms X ce sl pc1 ls rest σ) : V M l G d mc ms X ce sl pc ls (.ref k :: rest) σ := by
  subst hp
  obtain ⟨p, e, R, s, m, args, below, meth, c, Q⟩ := X
  intro hO h1 h2 H locs arr z hP hS hl
  obtain ⟨hx, hb, hret, hml, hown, hts, hlocks, hname, hK, hOl, hG, hRf, hRl, hRc, hRs⟩ := id hO
  refine W.objInit hx hb hown (hts _ hw) (hts _ hi) (hts _ hc) rfl (hl.1.trans hml.symm) (a := adr G k) (rest := rest.map (vv G)) rfl dg (by show 1 ≤ R.frames; omega) ?_ (kk hO h1 h2 H locs arr z hP hS hl)
  have := lv_room (m := m) (pc := pc) (ls := arr) (rest := []) (st := rest.map (vv G)) (by rw [vv_cats]; exact hroom)
  show 2 * 0 + ((rest.map (vv G)).map fun v => v.category).sum + 12 ≤ R.locals
  have h0 : 2 * 0 + ((rest.map (vv G)).map fun v => v.category).sum ≤ 8 := this
  omega
end VK
