/-! THE LAYER V: a method's walk over a pure state. A state: numbers by cell and place, references by cell and place, how many cells there are. -/
abbrev St : Type := (Nat → Nat → Int32) × (Nat → Nat → Option Nat) × Nat
/-- the ground of a run: the first new address, the old cells' addresses, the array classes, the classes -/
abbrev Gd : Type := Nat × (Nat → Nat) × (Nat → ClassId) × va_G
def adr (G : Gd) (q : Nat) : Nat := if q < 1000 then G.1 + q else G.2.1 (q - 1000)
def vv (G : Gd) (v : Value) : Value := match v with
  | .ref q => .ref (adr G q)
  | .int x => .int x
  | .long x => .long x
  | .float x => .float x
  | .double x => .double x
  | .null => .null
  | .retAddr x => .retAddr x
def layL : List (Nat ⊕ (Nat × Nat)) := [.inl 6, .inl 3, .inl 4, .inr (0, 12), .inl 4, .inr (0, 60), .inl 4, .inr (0, 120), .inr (0, 576), .inl 4, .inr (0, 60), .inl 4, .inr (0, 120), .inl 4, .inr (0, 16), .inl 4, .inr (0, 24), .inl 0, .inr (1, 56), .inr (2, 3), .inl 0, .inr (1, 56), .inl 0, .inr (1, 56), .inl 0, .inr (1, 56), .inl 1, .inl 5, .inr (0, 30), .inr (3, 4), .inr (0, 7), .inr (0, 24), .inr (0, 8), .inr (0, 30), .inl 2, .inr (0, 24), .inl 2, .inr (0, 24), .inl 2, .inr (0, 24), .inl 2, .inr (0, 24), .inl 7, .inr (0, 1234), .inr (0, 1234), .inr (0, 7), .inr (4, 3), .inr (0, 57), .inr (0, 3), .inr (0, 57), .inr (0, 5), .inr (0, 24), .inr (0, 8), .inr (0, 30), .inr (0, 30), .inr (0, 4), .inr (0, 4), .inr (0, 96), .inr (0, 24), .inl 3, .inl 4, .inr (0, 12), .inl 4, .inr (0, 60), .inl 4, .inr (0, 120), .inr (0, 576), .inl 4, .inr (0, 60), .inl 4, .inr (0, 120), .inl 4, .inr (0, 16), .inl 4, .inr (0, 24), .inl 0, .inr (1, 56), .inr (2, 3), .inl 0, .inr (1, 56), .inl 0, .inr (1, 56), .inl 0, .inr (1, 56)]
def lay (k : Nat) : Nat ⊕ (Nat × Nat) := layL.getD k (.inr (9, 0))
def rfL : List (List Bool) := [[true, false], [true, false, false, false, false, false, false, false], [true, false, false], [true, true, true, true, true, true, true, true, true, true, false], [false, false, true, false], [true, false, false, false, false, false], [true, true, true, true, true, true, true, true, true, false], [true, true, false, true, true, false, false, false, false, false, false, true, true, true, false, true, true, true, true, true, false, false, false, true, true, true, true]]
def rfT (ci : Nat) : List Bool := rfL.getD ci []
def flds (G : Gd) (ci : Nat) (f : Nat → Int32) (r : Nat → Option Nat) : List Value := (rfT ci).mapIdx fun j b => if b = true then va_rf ((r j).map (adr G)) else .int (f j)
def pic (G : Gd) (σ : St) (k : Nat) : va_E := match lay k with
  | .inl ci => .inr (ci, flds G ci (σ.1 k) (σ.2.1 k))
  | .inr (t, n) => .inl (G.2.2.1 t, n, if t < 2 then .inl (σ.1 k) else .inr (.inr (.inr (.inr fun i => (σ.2.1 k i).map (adr G)))))
def wsOf (G : Gd) (σ : St) : va_W := (List.range σ.2.2).map fun k => (G.1 + k, pic G σ k)
def tysOf (G : Gd) : List (ClassId × FieldType) := [(G.2.2.1 0, .int), (G.2.2.1 1, .byte), (G.2.2.1 2, .object "TwiceNoise$Bytes"), (G.2.2.1 3, .object "TwiceNoise$Sheet"), (G.2.2.1 4, .object "java/lang/String")]
def tb : List Cond := lw_tbl.filter goodWord
abbrev ar (G : Gd) : Nat → Prop := fun q => G.1 ≤ q
/-- the old tables: static arrays 0 .. 3, strings 4 .. 6, their bytes 7 .. 9 -/
def stab (j : Nat) : List Int32 := match j with
  | 0 => [1, 0, 0]
  | 1 => [99, 50, 9999]
  | 2 => [-1, 0, 1, 0, 0, 3, 1, 4]
  | _ => [10, 11, 12, 13, 0, 20, 21, 0, 30, 31, 0, 0, 40, 0, 0, 41, 0, 0, 50, 0, 60, 0, 61, 0, 0, 0, 70, 0, 0, 0, 0, 80]
def sbyt : List (List Int32) := [[120, 109, 100], [109, 100], [104, 112, 100]]
def Old1 (G : Gd) (C n : String) (j N : Nat) (U : State) (H : Heap) : Prop := va_Z C n "[I" (.ref (G.2.1 j)) (ar G) U H ∧ va_T .int (G.2.1 j) N (fun i => .int ((stab j).getD i 0)) (ar G) U H
def OldF (G : Gd) (U : State) (H : Heap) : Prop := va_Z "jdk/internal/util/Preconditions" "SIOOBE_FORMATTER" "Ljava/util/function/BiFunction;" .null (ar G) U H ∨ va_Z "jdk/internal/util/Preconditions" "SIOOBE_FORMATTER" "Ljava/util/function/BiFunction;" (.ref (G.2.1 10)) (ar G) U H
theorem OldF.kept {G : Gd} {U : State} {H H1 : Heap} (h : OldF G U H) (hq : ∀ a : Nat, a < H.size → ¬ (ar G) a → H1[a]? = H[a]?) : OldF G U H1 := by
  rcases h with h | h
  · exact Or.inl (h.kept hq)
  · exact Or.inr (h.kept hq)
theorem OldF.moved {G : Gd} {u U : State} {H : Heap} (hvm : u.vm.Alike U.vm) (h : OldF G u H) : OldF G U H := by
  rcases h with h | h
  · exact Or.inl (va_Z.moved hvm h)
  · exact Or.inr (va_Z.moved hvm h)
def Old (G : Gd) (U : State) (H : Heap) : Prop :=
  Old1 G "TwiceNoise" "LEAST_SETTING" 0 3 U H ∧ Old1 G "TwiceNoise" "MOST_SETTING" 1 3 U H ∧ Old1 G "TwiceNoise$Voices" "ABOVE" 2 8 U H ∧ Old1 G "TwiceNoise$Voices" "BODIES" 3 32 U H ∧
  (vk_R "TwiceNoise$Reader" 92 "xmd" (G.2.1 4) U ∧ vk_R "TwiceNoise$Reader" 94 "md" (G.2.1 5) U ∧ vk_R "TwiceNoise$Reader" 96 "hpd" (G.2.1 6) U) ∧
  (vk_R "TwiceNoiseModel" 21 "xmd" (G.2.1 4) U ∧ vk_R "TwiceNoiseModel" 23 "md" (G.2.1 5) U ∧ vk_R "TwiceNoiseModel" 25 "hpd" (G.2.1 6) U) ∧
  vk_S 3 [3, 2, 3] sbyt (fun i => G.2.1 (4 + i)) (fun i => G.2.1 (7 + i)) (ar G) U H ∧
  va_Z "java/lang/String" "COMPACT_STRINGS" "Z" (.int 1) (ar G) U H ∧ OldF G U H ∧
  (va_AO "TwiceNoise$Bytes" U ∧ va_AO "TwiceNoise$Sheet" U ∧ va_AO "java/lang/String" U) ∧
  (va_Nw (.methodLinkNest "TwiceNoise$State" 44 ⟨"TwiceNoise$Bytes", "<init>", "()V"⟩ "TwiceNoise") U ∧ va_Nw (.methodLinkNest "TwiceNoise" 18 ⟨"TwiceNoise$Reader", "<init>", "()V"⟩ "TwiceNoise") U ∧ va_Nw (.methodLinkNest "TwiceNoise" 25 ⟨"TwiceNoise$Voices", "<init>", "()V"⟩ "TwiceNoise") U ∧ va_Nw (.methodLinkNest "TwiceNoise" 56 ⟨"TwiceNoise$Sheet", "<init>", "()V"⟩ "TwiceNoise") U)
theorem Old1.kept {G : Gd} {C n : String} {j N : Nat} {U : State} {H H1 : Heap} (h : Old1 G C n j N U H) (hq : ∀ a : Nat, a < H.size → ¬ (ar G) a → H1[a]? = H[a]?) : Old1 G C n j N U H1 := ⟨h.1.kept hq, h.2.kept hq⟩
theorem Old1.moved {G : Gd} {C n : String} {j N : Nat} {u U : State} {H : Heap} (hvm : u.vm.Alike U.vm) (h : Old1 G C n j N u H) : Old1 G C n j N U H := ⟨va_Z.moved hvm h.1, va_T.moved hvm h.2⟩
theorem Old.kept {G : Gd} {U : State} {H H1 : Heap} (h : Old G U H) (hq : ∀ a : Nat, a < H.size → ¬ (ar G) a → H1[a]? = H[a]?) : Old G U H1 := by
  obtain ⟨h1, h2, h3, h4, h5, h6, h7, h8, h9, h10, h11⟩ := h
  exact ⟨h1.kept hq, h2.kept hq, h3.kept hq, h4.kept hq, h5, h6, h7.kept hq, h8.kept hq, h9.kept hq, h10, h11⟩
theorem Old.warm {G : Gd} {s U : State} {H : Heap} (hW : s.WarmedH U.vm) (h : Old G s H) : Old G U H := by
  have hvm : s.vm.Alike U.vm := hW.alike
  obtain ⟨h1, h2, h3, h4, ⟨r1, r2, r3⟩, ⟨r4, r5, r6⟩, h7, h8, h9, ⟨a1, a2, a3⟩, n1, n2, n3, n4⟩ := h
  exact ⟨h1.moved hvm, h2.moved hvm, h3.moved hvm, h4.moved hvm, ⟨vk_R.warm hW r1, vk_R.warm hW r2, vk_R.warm hW r3⟩, ⟨vk_R.warm hW r4, vk_R.warm hW r5, vk_R.warm hW r6⟩, vk_S.moved hvm h7, va_Z.moved hvm h8, h9.moved hvm, ⟨va_AO.moved hvm a1, va_AO.moved hvm a2, va_AO.moved hvm a3⟩, va_Nw.warmM hW n1, va_Nw.warmM hW n2, va_Nw.warmM hW n3, va_Nw.warmM hW n4⟩
theorem Old.same {G : Gd} {u U : State} {H : Heap} (hv : U.vm = u.vm) (h : Old G u H) : Old G U H := by
  have hvm : u.vm.Alike U.vm := by rw [hv]; exact Vm.Alike.refl _
  obtain ⟨h1, h2, h3, h4, ⟨r1, r2, r3⟩, ⟨r4, r5, r6⟩, h7, h8, h9, ⟨a1, a2, a3⟩, n1, n2, n3, n4⟩ := h
  exact ⟨h1.moved hvm, h2.moved hvm, h3.moved hvm, h4.moved hvm, ⟨vk_R.same hv r1, vk_R.same hv r2, vk_R.same hv r3⟩, ⟨vk_R.same hv r4, vk_R.same hv r5, vk_R.same hv r6⟩, vk_S.moved hvm h7, va_Z.moved hvm h8, h9.moved hvm, ⟨va_AO.moved hvm a1, va_AO.moved hvm a2, va_AO.moved hvm a3⟩, va_Nw.same rfl hv.symm n1, va_Nw.same rfl hv.symm n2, va_Nw.same rfl hv.symm n3, va_Nw.same rfl hv.symm n4⟩
def World (G : Gd) (σ : St) (U : State) : Prop := U.heap.size = G.1 + σ.2.2 ∧ va_P G.2.2.2 vwCl (wsOf G σ) U.heap ∧ va_K G.2.2.2 vwCl (tysOf G) U ∧ Old G U U.heap
/-- a method: its name, its bytes, how many locals, what it returns -/
abbrev MI : Type := MethodName × ByteArray × Nat × Option FieldType
abbrev wsM (M : MI) : List Cond := .code M.1 M.2.1 M.2.2.1 M.2.2.2 :: tb
abbrev rmV (d mc ms : Nat) : Room := { frames := d, cells := mc, slots := ms, locals := 40 * d }
def QcV (G : Gd) (rv : Option Value) (σ' : St) : Array Value → State → Outcome → State → Prop := fun _ st o t => (o = .returned (rv.map (vv G)) ∧ World G σ' t) ∧ va_F (ar G) st t
def PcV (G : Gd) (as : List Value) (σ : St) : Array Value → State → Prop := fun v U => v = (as.map (vv G)).toArray ∧ World G σ U
/-- a method's contract: from the state σ with these arguments it answers rv, and the state is σ' -/
def MetV (l : Launch) (G : Gd) (d : Nat) (M : MI) (as : List Value) (σ : St) (rv : Option Value) (σ' : St) (mc ms : Nat) : Prop := Met l M.1 (wsM M) (rmV d mc ms) (PcV G as σ) (QcV G rv σ') mc ms (ar G)
abbrev Cx : Type := Program × Env × Room × State × MethodId × Array Value × List Frame × Method × Code × (State → Prop)
def xW (l : Launch) (X : Cx) (H : Heap) (locs : List Loc) (ce sl : Nat) (g : JFrame) : Prop := W X.1 l X.2.1 X.2.2.1 X.2.2.2.1 X.2.2.2.2.1 X.2.2.2.2.2.1 X.2.2.2.2.2.2.1 X.2.2.2.2.2.2.2.1 X.2.2.2.2.2.2.2.2.1 H locs ce sl X.2.2.2.2.2.2.2.2.2 g
def Ok (M : MI) (G : Gd) (d mc ms : Nat) (X : Cx) : Prop := match X with
  | (p, e, R, s, m, args, below, meth, c, Q) => p.tables.exec = Jvm.exec ∧ c.code = M.2.1 ∧ meth.sig.returnType = M.2.2.2 ∧ c.maxLocals = M.2.2.1 ∧ s.vm.findClass M.1.cls = some m.cls ∧ (∀ w ∈ tb, w.before args s = true) ∧ meth.locks = false ∧ meth.name = M.1.name ∧ va_K G.2.2.2 vwCl (tysOf G) s ∧ Old G s s.heap ∧ G.1 ≤ s.heap.size ∧ d ≤ R.frames ∧ 40 * d ≤ R.locals ∧ mc ≤ R.cells ∧ ms ≤ R.slots
abbrev lsG (G : Gd) (ls : List (Nat × Value)) : List (Nat × Value) := ls.map fun q => (q.1, vv G q.2)
def V (M : MI) (l : Launch) (G : Gd) (d mc ms : Nat) (X : Cx) (ce sl pc : Nat) (ls : List (Nat × Value)) (st : List Value) (σ : St) : Prop :=
  Ok M G d mc ms X → ce ≤ mc → sl ≤ ms → ∀ (H : Heap) (locs : List Loc) (arr : Array Slot), H.size = G.1 + σ.2.2 → va_P G.2.2.2 vwCl (wsOf G σ) H → va_S (ar G) X.2.2.2.1.heap H locs → lv_has arr M.2.2.1 (lsG G ls) → xW l X H locs ce sl (F0 X.2.2.2.2.1 pc arr (st.map (vv G)))
theorem vv_cat (G : Gd) (v : Value) : (vv G v).category = v.category := by cases v <;> rfl
theorem vv_rf (G : Gd) (o : Option Nat) : vv G (va_rf o) = va_rf (o.map (adr G)) := by cases o <;> rfl
theorem wsOf_at {G : Gd} {σ : St} {k : Nat} (h : k < σ.2.2) : (wsOf G σ)[k]? = some (G.1 + k, pic G σ k) := by
  unfold wsOf
  rw [List.getElem?_map, List.getElem?_range h]
  rfl
theorem wsOf_D (G : Gd) (σ : St) : va_D (ar G) (wsOf G σ) := by
  have key : ∀ (k : Nat) (q : Nat × va_E), (wsOf G σ)[k]? = some q → q.1 = G.1 + k := by
    intro k q h
    unfold wsOf at h
    rw [List.getElem?_map] at h
    by_cases hk : k < σ.2.2
    · rw [List.getElem?_range hk] at h
      cases h
      rfl
    · rw [List.getElem?_eq_none (by simpa using Nat.le_of_not_lt hk)] at h
      cases h
  refine ⟨fun i j p q hi hj hpq => ?_, fun k q hk => ?_⟩
  · rw [key i p hi, key j q hj] at hpq
    omega
  · show G.1 ≤ q.1
    rw [key k q hk]
    omega
theorem adr_lt {G : Gd} {k : Nat} (h : k < 1000) : adr G k = G.1 + k := if_pos h
/-- one cell's picture is new, the others' stay -/
theorem wsOf_set {G : Gd} {σ σ' : St} {k : Nat} {e : va_E} (hn : σ'.2.2 = σ.2.2) (he : pic G σ' k = e) (ho : ∀ j, j ≠ k → pic G σ' j = pic G σ j) : (wsOf G σ).set k (G.1 + k, e) = wsOf G σ' := by
  apply List.ext_getElem?
  intro j
  by_cases hjk : j = k
  · subst hjk
    by_cases hj : j < σ.2.2
    · rw [List.getElem?_set_self (by simpa [wsOf] using hj), wsOf_at (by rw [hn]; exact hj), he]
    · rw [List.getElem?_eq_none (by simpa [wsOf] using Nat.le_of_not_lt hj), List.getElem?_eq_none (by simpa [wsOf, hn] using Nat.le_of_not_lt hj)]
  · rw [List.getElem?_set_ne (Ne.symm hjk)]
    by_cases hj : j < σ.2.2
    · rw [wsOf_at hj, wsOf_at (by rw [hn]; exact hj), ho j hjk]
    · rw [List.getElem?_eq_none (by simpa [wsOf] using Nat.le_of_not_lt hj), List.getElem?_eq_none (by simpa [wsOf, hn] using Nat.le_of_not_lt hj)]
def upI (m : Nat → Nat → Int32) (k : Nat) (f : Nat → Int32) : Nat → Nat → Int32 := fun j => if j = k then f else m j
def upR (r : Nat → Nat → Option Nat) (k : Nat) (f : Nat → Option Nat) : Nat → Nat → Option Nat := fun j => if j = k then f else r j
def up1 {α : Type} (f : Nat → α) (i : Nat) (v : α) : Nat → α := fun j => if j = i then v else f j
theorem upI_at {m : Nat → Nat → Int32} {k : Nat} {f : Nat → Int32} : upI m k f k = f := if_pos rfl
theorem upI_ne {m : Nat → Nat → Int32} {k j : Nat} {f : Nat → Int32} (h : j ≠ k) : upI m k f j = m j := if_neg h
theorem upR_at {m : Nat → Nat → Option Nat} {k : Nat} {f : Nat → Option Nat} : upR m k f k = f := if_pos rfl
theorem upR_ne {m : Nat → Nat → Option Nat} {k j : Nat} {f : Nat → Option Nat} (h : j ≠ k) : upR m k f j = m j := if_neg h
theorem up1_upd (f : Nat → Int32) (i : Nat) (v : Int32) : upd f i v = up1 f i v := rfl
/-! what a pure method does at each instruction that can fail -/
def inB (i : Int32) (n : Nat) : Bool := decide (0 ≤ i) && decide (i.toNatClampNeg < n)
theorem inB_in {i : Int32} {n : Nat} (h : inB i n = true) : vp_in i n := by
  simp only [inB, Bool.and_eq_true, decide_eq_true_eq] at h
  intro q
  rcases q with q | q
  · rw [Int32.lt_iff_toInt_lt] at q
    have h1 := h.1
    rw [Int32.le_iff_toInt_le] at h1
    omega
  · omega
def isO (σ : St) (ci k : Nat) : Bool := decide (k < σ.2.2) && decide (k < 1000) && decide (lay k = .inl ci)
def arL (σ : St) (t k : Nat) : Option Nat := if k < σ.2.2 ∧ k < 1000 then (match lay k with | .inr (t', n) => if t' = t then some n else none | _ => none) else none
def gI (σ : St) (ci k f : Nat) : Option Int32 := if isO σ ci k = true then some (σ.1 k f) else none
def gR (σ : St) (ci k f : Nat) : Option (Option Nat) := if isO σ ci k = true then some (σ.2.1 k f) else none
def gQ (σ : St) (ci k f : Nat) : Option Nat := if isO σ ci k = true then σ.2.1 k f else none
def pI (σ : St) (ci k f : Nat) (v : Int32) : Option St := if isO σ ci k = true then some (upI σ.1 k (up1 (σ.1 k) f v), σ.2) else none
def pZ (σ : St) (ci k f : Nat) (v : Int32) : Option St := if isO σ ci k = true ∧ (v = 0 ∨ v = 1) then some (upI σ.1 k (up1 (σ.1 k) f v), σ.2) else none
def pQ (σ : St) (ci k f q : Nat) : Option St := if isO σ ci k = true then some (σ.1, upR σ.2.1 k (up1 (σ.2.1 k) f (some q)), σ.2.2) else none
def pN (σ : St) (ci k f : Nat) : Option St := if isO σ ci k = true then some (σ.1, upR σ.2.1 k (up1 (σ.2.1 k) f none), σ.2.2) else none
def aI (σ : St) (t k : Nat) (i : Int32) : Option Int32 := (arL σ t k).bind fun n => if inB i n = true then some (σ.1 k i.toNatClampNeg) else none
def aQ (σ : St) (t k : Nat) (i : Int32) : Option Nat := (arL σ t k).bind fun n => if inB i n = true then σ.2.1 k i.toNatClampNeg else none
def aL (σ : St) (t k : Nat) : Option Int32 := (arL σ t k).map nI
def sI (σ : St) (k : Nat) (i v : Int32) : Option St := (arL σ 0 k).bind fun n => if inB i n = true then some (upI σ.1 k (up1 (σ.1 k) i.toNatClampNeg v), σ.2) else none
def sB (σ : St) (k : Nat) (i v : Int32) : Option St := (arL σ 1 k).bind fun n => if inB i n = true then some (upI σ.1 k (up1 (σ.1 k) i.toNatClampNeg v.toInt8.toInt32), σ.2) else none
def sQ (σ : St) (t ci k : Nat) (i : Int32) (q : Nat) : Option St := if isO σ ci q = true then (arL σ t k).bind fun n => if inB i n = true then some (σ.1, upR σ.2.1 k (up1 (σ.2.1 k) i.toNatClampNeg (some q)), σ.2.2) else none else none
def sS (σ : St) (k : Nat) (i : Int32) (q : Nat) : Option St := if 1004 ≤ q ∧ q < 1007 then (arL σ 4 k).bind fun n => if inB i n = true then some (σ.1, upR σ.2.1 k (up1 (σ.2.1 k) i.toNatClampNeg (some q)), σ.2.2) else none else none
def oI (j N : Nat) (i : Int32) : Option Int32 := if inB i N = true then some ((stab j).getD i.toNatClampNeg 0) else none
def ne0 (x : Int32) : Option Int32 := if x = 0 then none else some x
def neL (x : Int64) : Option Int64 := if x = 0 then none else some x
def zr (x : Int32) : Option Int32 := if x = 0 ∨ x = 1 then some x else none
def irm (x y : Int32) : Int32 := x - x / y * y
def lrm (x y : Int64) : Int64 := x - x / y * y
def ush (x y : Int32) : Int32 := (x.toUInt32 >>> (y.toUInt32 &&& Int32.toUInt32 31)).toInt32
/-- a new object of class ci, a new array: where, and the state -/
def nwO (σ : St) (ci : Nat) : Option St := if lay σ.2.2 = .inl ci ∧ σ.2.2 < 1000 then some (upI σ.1 σ.2.2 (fun _ => 0), upR σ.2.1 σ.2.2 (fun _ => none), σ.2.2 + 1) else none
def nwA (σ : St) (t : Nat) (n : Int32) : Option St := if lay σ.2.2 = .inr (t, n.toNatClampNeg) ∧ σ.2.2 < 1000 ∧ 0 ≤ n ∧ n.toNatClampNeg ≤ 1300 then some (upI σ.1 σ.2.2 (fun _ => 0), upR σ.2.1 σ.2.2 (fun _ => none), σ.2.2 + 1) else none
/-- copies: the place, as many numbers of one array into another of the same kind (bytes must be bytes) -/
def cp (σ : St) (t k : Nat) (sp : Int32) (k2 : Nat) (dp n : Int32) : Option St := (arL σ t k).bind fun n0 => (arL σ t k2).bind fun n1 => if 0 ≤ sp ∧ 0 ≤ dp ∧ 0 ≤ n ∧ sp.toNatClampNeg + n.toNatClampNeg ≤ n0 ∧ dp.toNatClampNeg + n.toNatClampNeg ≤ n1 ∧ (t = 0 ∨ ∀ i, i < n.toNatClampNeg → fits .byte (.int (σ.1 k (sp.toNatClampNeg + i))) = true) then some (upI σ.1 k2 (va_cpy (σ.1 k) (σ.1 k2) sp.toNatClampNeg dp.toNatClampNeg n.toNatClampNeg), σ.2) else none
def isS (q : Nat) : Bool := decide (1004 ≤ q) && decide (q < 1007)
def sOk (q : Nat) : Option Nat := if isS q = true then some q else none
def slen (j : Nat) : Nat := [3, 2, 3].getD j 0
def oB (q : Nat) (i : Int32) : Option Int32 := if 1007 ≤ q ∧ q < 1010 ∧ inB i (slen (q - 1007)) = true then some ((sbyt.getD (q - 1007) []).getD i.toNatClampNeg 0) else none
def oBL (q : Nat) : Option Int32 := if 1007 ≤ q ∧ q < 1010 then some (nI (slen (q - 1007))) else none
def cr (ty : FieldType) (x : Int32) : Option Int32 := if narrow ty (.int x) = .int x then some x else none
theorem ob {α β : Type} {x : Option α} {f : α → Option β} {r : β} (h : x.bind f = some r) : ∃ a, x = some a ∧ f a = some r := Option.bind_eq_some_iff.mp h
