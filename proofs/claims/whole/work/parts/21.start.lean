theorem eqR {args : Array Value} {s : State} {t u : Term} {a : Nat} (h : (Cond.eq t u).before args s = true) (ht : t.eval args s none [] s = some (.ref a)) : u.eval args s none [] s = some (.ref a) := by
  cases hu : u.eval args s none [] s with
  | none => simp [Cond.before, Cond.holds, Cond.value, ht, hu] at h
  | some w =>
    simp only [Cond.before, Cond.holds, Cond.value, ht, hu] at h
    cases w <;> simp_all
def σ00 : St := (fun _ _ => 0, fun _ _ => none, 0)
theorem arrT {s : State} {cA : ClassId} {kA : Class} {comp : ClassId} {ty : FieldType} (h2 : s.vm.classes[cA]? = some kA) (h3 : kA.kind = .array comp ty) : ArrOfT s cA ty := fun n z => ⟨fun k h => (by cases h), kA, h2, comp, h3⟩
set_option maxRecDepth 100000 in
set_option maxHeartbeats 4000000 in
/-- one static table out of the premises -/
theorem old1_of {args : Array Value} {s : State} {C nm : String} {N : Nat} {j : Nat} (hN : N < 2 ^ 31) (hl : (Cond.laysStatic C nm "[I").before args s = true) (hini : (Cond.initialized C).before args s = true) (harr : (Cond.arrayOf (.static C nm "[I") .int).before args s = true) (hlen : (Cond.eq (.length (.static C nm "[I")) (.int (Int32.ofNat N))).before args s = true) (hel : ∀ i : Nat, i < N → (Cond.eq (.elem (.static C nm "[I") (.int (Int32.ofNat i))) (.int ((stab j).getD i 0))).before args s = true) :
    ∃ t : Nat, va_Z C nm "[I" (.ref t) (fun q => s.heap.size ≤ q) s s.heap ∧ va_T .int t N (fun i => .int ((stab j).getD i 0)) (fun q => s.heap.size ≤ q) s s.heap := by
  have hA : ∀ a : Nat, a < s.heap.size → ¬ (fun q : Nat => s.heap.size ≤ q) a := fun a h => Nat.not_le.mpr h
  obtain ⟨t, ht, hT⟩ := va_Tof (f := fun i => .int ((stab j).getD i 0)) hN harr (va_eqt hlen) (fun i hi => va_eqt (hel i hi)) hA
  exact ⟨t, va_Zof hl hini ht hA, hT⟩
set_option maxRecDepth 100000 in
set_option maxHeartbeats 40000000 in
/-- THE LAW from its entry, if its pure function answers 1 -/
theorem whole_open {p : Program} {e : Env} {s : State} {m : MethodId} {below : List Frame} {meth : Method} {c : Code} (l : Launch) {b L : Nat} {xs : Nat → Int32} (C0 : lw_At p s m meth c b L xs) (hf : f_L_law xs L σ00 = some 1) : W p l e room_1 s m #[Value.ref b] below meth c s.heap [] 0 0 (lw_Z below #[Value.ref b] s) (entryFrame m ([Value.ref b] : List Value).toArray 4) := by
  obtain ⟨hx, hb, hr, hml, hown, hts, hX, hbl, hlocks, hgv⟩ := id C0
  have hs := flat_of_before _ hgv
  have hA : ∀ a : Nat, a < s.heap.size → ¬ (fun q : Nat => s.heap.size ≤ q) a := fun a h => Nat.not_le.mpr h
  obtain ⟨t0, z0, T0⟩ := old1_of (s := s) (args := #[Value.ref b]) (C := "TwiceNoise") (nm := "LEAST_SETTING") (N := 3) (j := 0) (by decide) (hts (.laysStatic "TwiceNoise" "LEAST_SETTING" "[I") (List.mem_of_getElem? (i := 317) (by decide +kernel))) (hts (.initialized "TwiceNoise") (List.mem_of_getElem? (i := 69) (by decide +kernel))) (hs _ (by decide +kernel)) (hs _ (by decide +kernel)) (fun i hi => match i, hi with | 0, _ => hs _ (by decide +kernel) | 1, _ => hs _ (by decide +kernel) | 2, _ => hs _ (by decide +kernel))
  obtain ⟨t1, z1, T1⟩ := old1_of (s := s) (args := #[Value.ref b]) (C := "TwiceNoise") (nm := "MOST_SETTING") (N := 3) (j := 1) (by decide) (hts (.laysStatic "TwiceNoise" "MOST_SETTING" "[I") (List.mem_of_getElem? (i := 319) (by decide +kernel))) (hts (.initialized "TwiceNoise") (List.mem_of_getElem? (i := 69) (by decide +kernel))) (hs _ (by decide +kernel)) (hs _ (by decide +kernel)) (fun i hi => match i, hi with | 0, _ => hs _ (by decide +kernel) | 1, _ => hs _ (by decide +kernel) | 2, _ => hs _ (by decide +kernel))
  obtain ⟨t2, z2, T2⟩ := old1_of (s := s) (args := #[Value.ref b]) (C := "TwiceNoise$Voices") (nm := "ABOVE") (N := 8) (j := 2) (by decide) (hts (.laysStatic "TwiceNoise$Voices" "ABOVE" "[I") (List.mem_of_getElem? (i := 591) (by decide +kernel))) (hts (.initialized "TwiceNoise$Voices") (List.mem_of_getElem? (i := 75) (by decide +kernel))) (hs _ (by decide +kernel)) (hs _ (by decide +kernel)) (fun i hi => match i, hi with | 0, _ => hs _ (by decide +kernel) | 1, _ => hs _ (by decide +kernel) | 2, _ => hs _ (by decide +kernel) | 3, _ => hs _ (by decide +kernel) | 4, _ => hs _ (by decide +kernel) | 5, _ => hs _ (by decide +kernel) | 6, _ => hs _ (by decide +kernel) | 7, _ => hs _ (by decide +kernel))
  obtain ⟨t3, z3, T3⟩ := old1_of (s := s) (args := #[Value.ref b]) (C := "TwiceNoise$Voices") (nm := "BODIES") (N := 32) (j := 3) (by decide) (hts (.laysStatic "TwiceNoise$Voices" "BODIES" "[I") (List.mem_of_getElem? (i := 830) (by decide +kernel))) (hts (.initialized "TwiceNoise$Voices") (List.mem_of_getElem? (i := 75) (by decide +kernel))) (hs _ (by decide +kernel)) (hs _ (by decide +kernel)) (fun i hi => match i, hi with | 0, _ => hs _ (by decide +kernel) | 1, _ => hs _ (by decide +kernel) | 2, _ => hs _ (by decide +kernel) | 3, _ => hs _ (by decide +kernel) | 4, _ => hs _ (by decide +kernel) | 5, _ => hs _ (by decide +kernel) | 6, _ => hs _ (by decide +kernel) | 7, _ => hs _ (by decide +kernel) | 8, _ => hs _ (by decide +kernel) | 9, _ => hs _ (by decide +kernel) | 10, _ => hs _ (by decide +kernel) | 11, _ => hs _ (by decide +kernel) | 12, _ => hs _ (by decide +kernel) | 13, _ => hs _ (by decide +kernel) | 14, _ => hs _ (by decide +kernel) | 15, _ => hs _ (by decide +kernel) | 16, _ => hs _ (by decide +kernel) | 17, _ => hs _ (by decide +kernel) | 18, _ => hs _ (by decide +kernel) | 19, _ => hs _ (by decide +kernel) | 20, _ => hs _ (by decide +kernel) | 21, _ => hs _ (by decide +kernel) | 22, _ => hs _ (by decide +kernel) | 23, _ => hs _ (by decide +kernel) | 24, _ => hs _ (by decide +kernel) | 25, _ => hs _ (by decide +kernel) | 26, _ => hs _ (by decide +kernel) | 27, _ => hs _ (by decide +kernel) | 28, _ => hs _ (by decide +kernel) | 29, _ => hs _ (by decide +kernel) | 30, _ => hs _ (by decide +kernel) | 31, _ => hs _ (by decide +kernel) | k + 32, h => absurd h (by omega))
  obtain ⟨adK, adV, hStr, hEv⟩ := vk_Sof (s := s) (args := #[Value.ref b]) (N := 3) (tm := fun i => .string "TwiceNoise$Reader" ([92, 94, 96].getD i 0)) (len := [3, 2, 3]) (byt := sbyt) (A := fun q : Nat => s.heap.size ≤ q)
    (fun i hi => match i, hi with | 0, _ => by decide | 1, _ => by decide | 2, _ => by decide) (fun i hi => match i, hi with | 0, _ => hs _ (by decide +kernel) | 1, _ => hs _ (by decide +kernel) | 2, _ => hs _ (by decide +kernel))
    (fun i hi => match i, hi with | 0, _ => hs _ (by decide +kernel) | 1, _ => hs _ (by decide +kernel) | 2, _ => hs _ (by decide +kernel)) (fun i hi => match i, hi with | 0, _ => hs _ (by decide +kernel) | 1, _ => hs _ (by decide +kernel) | 2, _ => hs _ (by decide +kernel)) (fun i hi => match i, hi with | 0, _ => hs _ (by decide +kernel) | 1, _ => hs _ (by decide +kernel) | 2, _ => hs _ (by decide +kernel))
    (fun i hi j hj => match i, hi, j, hj with | 0, _, 0, _ => hs _ (by decide +kernel) | 0, _, 1, _ => hs _ (by decide +kernel) | 0, _, 2, _ => hs _ (by decide +kernel) | 1, _, 0, _ => hs _ (by decide +kernel) | 1, _, 1, _ => hs _ (by decide +kernel) | 2, _, 0, _ => hs _ (by decide +kernel) | 2, _, 1, _ => hs _ (by decide +kernel) | 2, _, 2, _ => hs _ (by decide +kernel))
    (fun i j hi hj h => match i, j, hi, hj, h with | 0, 0, _, _, h => absurd rfl h | 0, 1, _, _, _ => Or.inl (hs _ (by decide +kernel)) | 0, 2, _, _, _ => Or.inl (hs _ (by decide +kernel)) | 1, 0, _, _, _ => Or.inr (hs _ (by decide +kernel)) | 1, 1, _, _, h => absurd rfl h | 1, 2, _, _, _ => Or.inl (hs _ (by decide +kernel)) | 2, 0, _, _, _ => Or.inr (hs _ (by decide +kernel)) | 2, 1, _, _, _ => Or.inr (hs _ (by decide +kernel)) | 2, 2, _, _, h => absurd rfl h) hA
  have ev0 : (Term.string "TwiceNoise$Reader" 92).eval #[Value.ref b] s none [] s = some (.ref (adK 0)) := hEv 0 (by decide)
  have em0 : (Term.string "TwiceNoiseModel" 21).eval #[Value.ref b] s none [] s = some (.ref (adK 0)) := eqR (hs (Cond.eq (.string "TwiceNoise$Reader" 92) (.string "TwiceNoiseModel" 21)) (by decide +kernel)) ev0
  have ev1 : (Term.string "TwiceNoise$Reader" 94).eval #[Value.ref b] s none [] s = some (.ref (adK 1)) := hEv 1 (by decide)
  have em1 : (Term.string "TwiceNoiseModel" 23).eval #[Value.ref b] s none [] s = some (.ref (adK 1)) := eqR (hs (Cond.eq (.string "TwiceNoise$Reader" 94) (.string "TwiceNoiseModel" 23)) (by decide +kernel)) ev1
  have ev2 : (Term.string "TwiceNoise$Reader" 96).eval #[Value.ref b] s none [] s = some (.ref (adK 2)) := hEv 2 (by decide)
  have em2 : (Term.string "TwiceNoiseModel" 25).eval #[Value.ref b] s none [] s = some (.ref (adK 2)) := eqR (hs (Cond.eq (.string "TwiceNoise$Reader" 96) (.string "TwiceNoiseModel" 25)) (by decide +kernel)) ev2
  have hCS := va_Zof (s := s) (C := "java/lang/String") (n := "COMPACT_STRINGS") (d := "Z") (v := .int 1) (A := fun q : Nat => s.heap.size ≤ q) (hts (.laysStatic "java/lang/String" "COMPACT_STRINGS" "Z") (List.mem_of_getElem? (i := 464) (by decide +kernel))) (hts (.initialized "java/lang/String") (List.mem_of_getElem? (i := 78) (by decide +kernel))) (va_eqi (hs _ (by decide +kernel))) hA
  have hFm := va_Zqof (s := s) (C := "jdk/internal/util/Preconditions") (n := "SIOOBE_FORMATTER") (d := "Ljava/util/function/BiFunction;") (A := fun q : Nat => s.heap.size ≤ q) (hts (.laysStatic "jdk/internal/util/Preconditions" "SIOOBE_FORMATTER" "Ljava/util/function/BiFunction;") (List.mem_of_getElem? (i := 505) (by decide +kernel))) (hts (.initialized "jdk/internal/util/Preconditions") (List.mem_of_getElem? (i := 81) (by decide +kernel))) (hs _ (by decide +kernel)) hA
  obtain ⟨tF, hFm⟩ : ∃ tF : Nat, va_Z "jdk/internal/util/Preconditions" "SIOOBE_FORMATTER" "Ljava/util/function/BiFunction;" .null (fun q : Nat => s.heap.size ≤ q) s s.heap ∨ va_Z "jdk/internal/util/Preconditions" "SIOOBE_FORMATTER" "Ljava/util/function/BiFunction;" (.ref tF) (fun q : Nat => s.heap.size ≤ q) s s.heap := by
    rcases hFm with h | ⟨t, h⟩
    · exact ⟨0, Or.inl h⟩
    · exact ⟨t, Or.inr h⟩
  obtain ⟨c0, iS0, hKn0⟩ := u_known (C := RX1) (T := TX1) (N := 2) (n := 2) hts (fun w hw => (List.mem_filter.mp (cf_0.2.1 w hw)).1) (hts (.instantiable "TwiceNoise$Bytes" 2) (List.mem_of_getElem? (i := 127) (by decide +kernel)))
  obtain ⟨c1, iS1, hKn1⟩ := u_known (C := RX2) (T := TX2) (N := 8) (n := 8) hts (fun w hw => (List.mem_filter.mp (cf_1.2.1 w hw)).1) (hts (.instantiable "TwiceNoise$Reader" 8) (List.mem_of_getElem? (i := 198) (by decide +kernel)))
  obtain ⟨c2, iS2, hKn2⟩ := u_known (C := RX3) (T := TX3) (N := 3) (n := 3) hts (fun w hw => (List.mem_filter.mp (cf_2.2.1 w hw)).1) (hts (.instantiable "TwiceNoise$Sheet" 3) (List.mem_of_getElem? (i := 261) (by decide +kernel)))
  obtain ⟨c3, iS3, hKn3⟩ := u_known (C := RX4) (T := TX4) (N := 11) (n := 11) hts (fun w hw => (List.mem_filter.mp (cf_3.2.1 w hw)).1) (hts (.instantiable "TwiceNoise$State" 11) (List.mem_of_getElem? (i := 95) (by decide +kernel)))
  obtain ⟨c4, iS4, hKn4⟩ := u_known (C := RX5) (T := TX5) (N := 4) (n := 4) hts (fun w hw => (List.mem_filter.mp (cf_4.2.1 w hw)).1) (hts (.instantiable "TwiceNoise$Table" 4) (List.mem_of_getElem? (i := 101) (by decide +kernel)))
  obtain ⟨c5, iS5, hKn5⟩ := u_known (C := RX6) (T := TX6) (N := 6) (n := 6) hts (fun w hw => (List.mem_filter.mp (cf_5.2.1 w hw)).1) (hts (.instantiable "TwiceNoise$Voices" 6) (List.mem_of_getElem? (i := 232) (by decide +kernel)))
  obtain ⟨c6, iS6, hKn6⟩ := u_known (C := RX7) (T := TX7) (N := 10) (n := 10) hts (fun w hw => (List.mem_filter.mp (cf_6.2.1 w hw)).1) (hts (.instantiable "TwiceNoise" 10) (List.mem_of_getElem? (i := 87) (by decide +kernel)))
  obtain ⟨c7, iS7, hKn7⟩ := u_known (C := RX8) (T := TX8) (N := 27) (n := 27) hts (fun w hw => (List.mem_filter.mp (cf_7.2.1 w hw)).1) (hts (.instantiable "TwiceNoiseModel" 27) (List.mem_of_getElem? (i := 923) (by decide +kernel)))
  obtain ⟨dC, dI, hKc⟩ : ∃ (dC : Nat → ClassId) (dI : Nat → Nat → Nat), ∀ (k : Nat) (q : vw_C), vwCl[k]? = some q → u_Kn s q.1 q.2.1 q.2.2 (dC k) (dI k) := by
    refine ⟨fun k => [c0, c1, c2, c3, c4, c5, c6, c7].getD k 0, fun k => [iS0, iS1, iS2, iS3, iS4, iS5, iS6, iS7].getD k (fun _ => 0), ?_⟩
    intro k q hq
    match k, hq with
    | 0, hq => cases hq; exact hKn0
    | 1, hq => cases hq; exact hKn1
    | 2, hq => cases hq; exact hKn2
    | 3, hq => cases hq; exact hKn3
    | 4, hq => cases hq; exact hKn4
    | 5, hq => cases hq; exact hKn5
    | 6, hq => cases hq; exact hKn6
    | 7, hq => cases hq; exact hKn7
    | k + 8, hq => simp [vwCl] at hq
  obtain ⟨cI, kI, mI, i1, i2, i3⟩ := Cond.arrayClass_spec (args := #[Value.ref b]) (first := s) (o := none) (s := s) (idx := []) (type := .int) (hts (.arrayClass .int) (List.mem_of_getElem? (i := 125) (by decide +kernel)))
  obtain ⟨cB, kB, mB, b1, b2, b3⟩ := Cond.arrayClass_spec (args := #[Value.ref b]) (first := s) (o := none) (s := s) (idx := []) (type := .byte) (hts (.arrayClass .byte) (List.mem_of_getElem? (i := 142) (by decide +kernel)))
  have aoP : (Cond.arrayOver (.object "TwiceNoise$Bytes")).before #[Value.ref b] s = true := hts _ (List.mem_of_getElem? (i := 143) (by decide +kernel))
  obtain ⟨mP, cP, kP, xP1, xP2, xP3, xP4, xP5⟩ := Cond.arrayOver_spec (args := #[Value.ref b]) (first := s) (o := none) (s := s) (idx := []) aoP
  have aoQ : (Cond.arrayOver (.object "TwiceNoise$Sheet")).before #[Value.ref b] s = true := hts _ (List.mem_of_getElem? (i := 260) (by decide +kernel))
  obtain ⟨mQ, cQ, kQ, xQ1, xQ2, xQ3, xQ4, xQ5⟩ := Cond.arrayOver_spec (args := #[Value.ref b]) (first := s) (o := none) (s := s) (idx := []) aoQ
  have aoR : (Cond.arrayOver (.object "java/lang/String")).before #[Value.ref b] s = true := hts _ (List.mem_of_getElem? (i := 929) (by decide +kernel))
  obtain ⟨mR, cR, kR, xR1, xR2, xR3, xR4, xR5⟩ := Cond.arrayOver_spec (args := #[Value.ref b]) (first := s) (o := none) (s := s) (idx := []) aoR
  obtain ⟨G, hG1, hG2, hG3, hG4⟩ : ∃ G : Gd, G.1 = s.heap.size ∧ G.2.1 = (fun j => [t0, t1, t2, t3, adK 0, adK 1, adK 2, adV 0, adV 1, adV 2, tF, b].getD j 0) ∧ G.2.2.1 = (fun j => [cI, cB, cP, cQ, cR].getD j 0) ∧ G.2.2.2 = (dC, dI) := ⟨(s.heap.size, (fun j => [t0, t1, t2, t3, adK 0, adK 1, adK 2, adV 0, adV 1, adV 2, tF, b].getD j 0), (fun j => [cI, cB, cP, cQ, cR].getD j 0), (dC, dI)), rfl, rfl, rfl, rfl⟩
  have har : ar G = fun q : Nat => s.heap.size ≤ q := by unfold ar; rw [hG1]
  have hK : va_K G.2.2.2 vwCl (tysOf G) s := by
    rw [hG4]
    refine ⟨hKc, ?_⟩
    intro k q hk
    unfold tysOf at hk
    rw [hG3] at hk
    match k, hk with
    | 0, hk => cases hk; exact ⟨arrT i2 i3, i1⟩
    | 1, hk => cases hk; exact ⟨arrT b2 b3, b1⟩
    | 2, hk => cases hk; exact ⟨arrT xP3 xP4, kP, mP, xP3, xP4, xP1, xP5⟩
    | 3, hk => cases hk; exact ⟨arrT xQ3 xQ4, kQ, mQ, xQ3, xQ4, xQ1, xQ5⟩
    | 4, hk => cases hk; exact ⟨arrT xR3 xR4, kR, mR, xR3, xR4, xR1, xR5⟩
    | k + 5, hk => simp at hk
  have hOl : Old G s s.heap := by
    unfold Old Old1 OldF
    rw [har, hG2]
    refine ⟨⟨z0, T0⟩, ⟨z1, T1⟩, ⟨z2, T2⟩, ⟨z3, T3⟩, ⟨vk_R.of (hts _ (List.mem_of_getElem? (i := 448) (by decide +kernel))) ev0, vk_R.of (hts _ (List.mem_of_getElem? (i := 449) (by decide +kernel))) ev1, vk_R.of (hts _ (List.mem_of_getElem? (i := 450) (by decide +kernel))) ev2⟩, ⟨vk_R.of (hts _ (List.mem_of_getElem? (i := 930) (by decide +kernel))) em0, vk_R.of (hts _ (List.mem_of_getElem? (i := 931) (by decide +kernel))) em1, vk_R.of (hts _ (List.mem_of_getElem? (i := 932) (by decide +kernel))) em2⟩, ?_, hCS, hFm, ⟨va_AO.of aoP, va_AO.of aoQ, va_AO.of aoR⟩, va_Nw.of rfl (hts _ (List.mem_of_getElem? (i := 128) (by decide +kernel))), va_Nw.of rfl (hts _ (List.mem_of_getElem? (i := 199) (by decide +kernel))), va_Nw.of rfl (hts _ (List.mem_of_getElem? (i := 233) (by decide +kernel))), va_Nw.of rfl (hts _ (List.mem_of_getElem? (i := 262) (by decide +kernel)))⟩
    refine ⟨fun i hi => ?_, fun i j hi hj he => ?_⟩
    · match i, hi with
      | 0, _ => exact hStr.1 0 (by decide)
      | 1, _ => exact hStr.1 1 (by decide)
      | 2, _ => exact hStr.1 2 (by decide)
    · refine hStr.2 i j hi hj ?_
      match i, hi, j, hj, he with
      | 0, _, 0, _, he => exact he
      | 0, _, 1, _, he => exact he
      | 0, _, 2, _, he => exact he
      | 1, _, 0, _, he => exact he
      | 1, _, 1, _, he => exact he
      | 1, _, 2, _, he => exact he
      | 2, _, 0, _, he => exact he
      | 2, _, 1, _, he => exact he
      | 2, _, 2, _, he => exact he
  have hl := lv_entry ([Value.ref b]) (n := 4) (Nat.le_of_ble_eq_true rfl)
  rw [lg_entry_eq]
  generalize (lg_sl ([Value.ref b]) ++ List.replicate (4 - (lg_sl ([Value.ref b])).length) Slot.unset).toArray = arr at hl ⊢
  have hb11 : G.2.1 11 = b := by rw [hG2]; rfl
  have hl : lv_has arr 4 (lsG G [(0, .ref (1000 + 11))]) := by
    show lv_has arr 4 [(0, .ref (adr G (1000 + 11)))]
    rw [adr_old, hb11]
    exact hl
  have hP : va_P G.2.2.2 vwCl (wsOf G σ00) s.heap := fun k q h => by simp [wsOf, σ00] at h
  refine c_L_law meth.name l G 0 xs L (p, e, room_1, s, m, #[Value.ref b], below, meth, c, lw_Z below #[Value.ref b] s) ?_ ?_ σ00 hf ?_ (Nat.zero_le _) (Nat.zero_le _) s.heap [] arr ?_ hP va_S.rf hl
  · refine ⟨by rw [hb11]; exact hX, by rw [hb11]; exact hbl, ?_⟩
    show ¬ G.1 ≤ G.2.1 11
    rw [hb11, hG1]
    exact Nat.not_le.mpr hbl
  · exact ⟨rfl, by rw [hb11], by rw [hb11], hG1⟩
  · exact ⟨hx, hb, hr, hml, hown, fun w hw => hts w (List.mem_filter.mp hw).1, hlocks, rfl, hK, hOl, Nat.le_of_eq hG1, Nat.le_of_ble_eq_true rfl, Nat.le_of_ble_eq_true rfl, Nat.le_of_ble_eq_true rfl, Nat.le_of_ble_eq_true rfl⟩
  · rw [hG1]; rfl
