abbrev mi_X7_honest : MI := (yX7_honest, cX7_honest, 11, some .long)
theorem ok_X7_honest : OkN mi_X7_honest 4 := ⟨wd_cd_X7_honest, wd_in_X7, ⟨by decide +kernel, by decide +kernel, by decide +kernel⟩, by decide⟩
theorem okv_X7_honest : Cond.instanceMethod (mi_X7_honest).1 ∈ tb ∧ Cond.selects (mi_X7_honest).1.cls (mi_X7_honest).1 (mi_X7_honest).1 ∈ tb := ⟨wd_im_X7_honest, wd_se_X7_honest⟩
def f_X7_honest_L89 (x7 : Int32) (x1 : Int32) : Nat → Int32 → Int64 → Option (Int32 × Int64)
  | 0, _, _ => none
  | n + 1, x10, x8 => if x1 ≤ x10 then (some (x10, x8)) else (f_X7_honest_L89 x7 x1 n (x10 + 1) (x8 * x7.toInt64))
def f_X7_honest (σ : St) (t : Nat) (a0 : Int32) (a1 : Int32) (a2 : Int32) (a3 : Int32) : Option (Int64 × St) := if isO σ 6 t = true then ((f_X7_outside σ a0 1 8).bind fun v2 => if v2 = 0 then ((f_X7_outside σ a1 1 50).bind fun v7 => if v7 = 0 then ((f_X7_outside σ a2 0 a1).bind fun v12 => if v12 = 0 then ((f_X7_outside σ a3 0 1).bind fun v17 => if v17 = 0 then ((f_X0_divisorOfBoth σ (((2 : Int32) * a2) + 1) (((2 : Int32) * a1) + 1)).bind fun v20 => (ne0 v20).bind fun z21 => (f_X7_honest_L89 ((if a3 = 0 then (((2 : Int32) * a2) + 1) else (((2 : Int32) * a1) + 1) : Int32) / v20) a0 3000 0 1).bind fun p24 => some (p24.2, σ)) else ((f_X7_fails σ t (-1000001)).bind fun p29 => some (p29.1.toInt64, p29.2))) else ((f_X7_fails σ t (-1000001)).bind fun p15 => some (p15.1.toInt64, p15.2))) else ((f_X7_fails σ t (-1000001)).bind fun p10 => some (p10.1.toInt64, p10.2))) else ((f_X7_fails σ t (-1000001)).bind fun p5 => some (p5.1.toInt64, p5.2))) else none
theorem gd_X7_honest {σ : St} {t : Nat} {a0 : Int32} {a1 : Int32} {a2 : Int32} {a3 : Int32} {r : Int64 × St} (h : f_X7_honest σ t a0 a1 a2 a3 = some r) : isO σ 6 t = true := by
  unfold f_X7_honest at h
  by_cases hg : isO σ 6 t = true
  · exact hg
  · rw [if_neg hg] at h
    cases h
set_option maxRecDepth 100000 in
set_option maxHeartbeats 4000000 in
theorem c_X7_honest (l : Launch) (G : Gd) (d : Nat) (σ : St) (t : Nat) (a0 : Int32) (a1 : Int32) (a2 : Int32) (a3 : Int32) (r0 : Int64) (σ' : St) (hf : f_X7_honest σ t a0 a1 a2 a3 = some (r0, σ')) : MetV l G (d + 3) mi_X7_honest [.ref t, .int a0, .int a1, .int a2, .int a3] σ (some (.long r0)) σ' 0 0 := by
  unfold f_X7_honest at hf
  refine MetV.of [(0, .ref t), (1, .int a0), (2, .int a1), (3, .int a2), (4, .int a3)] (by decide +kernel) rfl (Nat.le_of_ble_eq_true rfl) ?_
  intro X hQ
  have L89 : ∀ (σ : St) (x7 : Int32) (x1 : Int32) (n : Nat) (x10 : Int32) (x8 : Int64) (p : Int32 × Int64), f_X7_honest_L89 x7 x1 n x10 x8 = some p → V mi_X7_honest l G (d + 3) 0 0 X 0 0 109 [(10, .int p.1), (8, .long p.2), (7, .int x7), (1, .int x1)] [] σ → V mi_X7_honest l G (d + 3) 0 0 X 0 0 89 [(10, .int x10), (8, .long x8), (7, .int x7), (1, .int x1)] [] σ := by
    intro σ x7 x1 n
    induction n with
    | zero =>
      intro x10 x8 p hf
      exact absurd (show (none : Option _) = some p from hf) (by simp)
    | succ n ih =>
      intro x10 x8 p hf hk
      rw [f_X7_honest_L89] at hf
      refine V_iload 0 91 rfl dX7_honest_89 rfl ?_
      refine V_iload_n 3 92 rfl dX7_honest_91 rfl rfl ?_
      refine V_icmp_ge 109 95 dX7_honest_92 (by decide) rfl (fun c23 => ?_) (fun c23 => ?_)
      · rw [if_pos c23] at hf
        have ep := Option.some.inj hf
        subst ep
        refine V_ls [(10, .int x10), (8, .long x8), (7, .int x7), (1, .int x1)] [0, 1, 2, 3] rfl ?_
        exact hk
      · rw [if_neg c23] at hf
        refine V_lload 1 97 rfl dX7_honest_95 rfl ?_
        refine V_iload 2 99 rfl dX7_honest_97 rfl ?_
        refine V_i2l 100 dX7_honest_99 rfl ?_
        refine V_lmul 101 dX7_honest_100 rfl ?_
        refine V_lstore [(8, .long (x8 * x7.toInt64)), (10, .int x10), (7, .int x7), (1, .int x1)] 103 dX7_honest_101 (by decide) rfl rfl ?_
        refine V_iinc (x10 + 1) 1 [(10, .int (x10 + 1)), (8, .long (x8 * x7.toInt64)), (7, .int x7), (1, .int x1)] 106 dX7_honest_103 rfl (by rw [kiconst_1]) (by decide) rfl rfl ?_
        refine V_goto 89 dX7_honest_106 (by decide) ?_
        refine V_ls [(10, .int (x10 + 1)), (8, .long (x8 * x7.toInt64)), (7, .int x7), (1, .int x1)] [0, 1, 2, 3] rfl ?_
        exact ih _ _ _ hf hk
  by_cases hg : isO σ 6 t = true
  · rw [if_pos hg] at hf
    refine V_iload_n 1 1 rfl dX7_honest_0 rfl rfl ?_
    refine V_iconst 1 2 dX7_honest_1 rfl kiconst_1 ?_
    refine V_bipush 8 4 dX7_honest_2 rfl kbipush_8 ?_
    obtain ⟨v2, h1, hf⟩ := ob hf
    refine V_callS (rest := []) 0 0 7 [.int v2] (c_X7_outside l G (d + 1) _ _ _ _ _ h1) (by omega) ok_X7_outside oks_X7_outside wd_ml_X7_57 rfl rfl (Nat.le_of_ble_eq_true rfl) rfl rfl (Or.inl ⟨rfl, rfl⟩) dX7_honest_4 rfl rfl ?_
    refine V_if_ne 39 10 dX7_honest_7 (by decide) rfl (fun c3 => ?_) (fun c3 => ?_)
    · rw [if_neg c3] at hf
      refine V_aload_n 0 40 rfl dX7_honest_39 rfl rfl ?_
      refine V_ldc (-1000001) 42 dX7_honest_40 rfl wd_kk_X7_67 ?_
      obtain ⟨p5, h4, hf⟩ := ob hf
      refine V_callV (rest := []) (T := TX7) (n := 10) (ci := 6) 0 0 45 [.int p5.1] (c_X7_fails l G (d + 0) _ _ _ _ _ h4) (by omega) ok_X7_fails okv_X7_fails (gd_X7_fails h4) rfl wd_ml_X7_68 rfl rfl (Nat.le_of_ble_eq_true rfl) rfl rfl (Or.inl ⟨rfl, rfl⟩) dX7_honest_42 rfl rfl ?_
      refine V_i2l 46 dX7_honest_45 rfl ?_
      have er := Option.some.inj hf
      obtain ⟨e1, e2⟩ := Prod.mk.inj er
      subst e1
      subst e2
      exact V_lret hQ rfl dX7_honest_46
    · rw [if_pos c3] at hf
      refine V_iload_n 2 11 rfl dX7_honest_10 rfl rfl ?_
      refine V_iconst 1 12 dX7_honest_11 rfl kiconst_1 ?_
      refine V_bipush 50 14 dX7_honest_12 rfl kbipush_50 ?_
      obtain ⟨v7, h6, hf⟩ := ob hf
      refine V_callS (rest := []) 0 0 17 [.int v7] (c_X7_outside l G (d + 1) _ _ _ _ _ h6) (by omega) ok_X7_outside oks_X7_outside wd_ml_X7_57 rfl rfl (Nat.le_of_ble_eq_true rfl) rfl rfl (Or.inl ⟨rfl, rfl⟩) dX7_honest_14 rfl rfl ?_
      refine V_if_ne 39 20 dX7_honest_17 (by decide) rfl (fun c8 => ?_) (fun c8 => ?_)
      · rw [if_neg c8] at hf
        refine V_aload_n 0 40 rfl dX7_honest_39 rfl rfl ?_
        refine V_ldc (-1000001) 42 dX7_honest_40 rfl wd_kk_X7_67 ?_
        obtain ⟨p10, h9, hf⟩ := ob hf
        refine V_callV (rest := []) (T := TX7) (n := 10) (ci := 6) 0 0 45 [.int p10.1] (c_X7_fails l G (d + 0) _ _ _ _ _ h9) (by omega) ok_X7_fails okv_X7_fails (gd_X7_fails h9) rfl wd_ml_X7_68 rfl rfl (Nat.le_of_ble_eq_true rfl) rfl rfl (Or.inl ⟨rfl, rfl⟩) dX7_honest_42 rfl rfl ?_
        refine V_i2l 46 dX7_honest_45 rfl ?_
        have er := Option.some.inj hf
        obtain ⟨e1, e2⟩ := Prod.mk.inj er
        subst e1
        subst e2
        exact V_lret hQ rfl dX7_honest_46
      · rw [if_pos c8] at hf
        refine V_iload_n 3 21 rfl dX7_honest_20 rfl rfl ?_
        refine V_iconst 0 22 dX7_honest_21 rfl kiconst_0 ?_
        refine V_iload_n 2 23 rfl dX7_honest_22 rfl rfl ?_
        obtain ⟨v12, h11, hf⟩ := ob hf
        refine V_callS (rest := []) 0 0 26 [.int v12] (c_X7_outside l G (d + 1) _ _ _ _ _ h11) (by omega) ok_X7_outside oks_X7_outside wd_ml_X7_57 rfl rfl (Nat.le_of_ble_eq_true rfl) rfl rfl (Or.inl ⟨rfl, rfl⟩) dX7_honest_23 rfl rfl ?_
        refine V_if_ne 39 29 dX7_honest_26 (by decide) rfl (fun c13 => ?_) (fun c13 => ?_)
        · rw [if_neg c13] at hf
          refine V_aload_n 0 40 rfl dX7_honest_39 rfl rfl ?_
          refine V_ldc (-1000001) 42 dX7_honest_40 rfl wd_kk_X7_67 ?_
          obtain ⟨p15, h14, hf⟩ := ob hf
          refine V_callV (rest := []) (T := TX7) (n := 10) (ci := 6) 0 0 45 [.int p15.1] (c_X7_fails l G (d + 0) _ _ _ _ _ h14) (by omega) ok_X7_fails okv_X7_fails (gd_X7_fails h14) rfl wd_ml_X7_68 rfl rfl (Nat.le_of_ble_eq_true rfl) rfl rfl (Or.inl ⟨rfl, rfl⟩) dX7_honest_42 rfl rfl ?_
          refine V_i2l 46 dX7_honest_45 rfl ?_
          have er := Option.some.inj hf
          obtain ⟨e1, e2⟩ := Prod.mk.inj er
          subst e1
          subst e2
          exact V_lret hQ rfl dX7_honest_46
        · rw [if_pos c13] at hf
          refine V_iload 4 31 rfl dX7_honest_29 rfl ?_
          refine V_iconst 0 32 dX7_honest_31 rfl kiconst_0 ?_
          refine V_iconst 1 33 dX7_honest_32 rfl kiconst_1 ?_
          obtain ⟨v17, h16, hf⟩ := ob hf
          refine V_callS (rest := []) 0 0 36 [.int v17] (c_X7_outside l G (d + 1) _ _ _ _ _ h16) (by omega) ok_X7_outside oks_X7_outside wd_ml_X7_57 rfl rfl (Nat.le_of_ble_eq_true rfl) rfl rfl (Or.inl ⟨rfl, rfl⟩) dX7_honest_33 rfl rfl ?_
          refine V_if_eq 47 39 dX7_honest_36 (by decide) rfl (fun c18 => ?_) (fun c18 => ?_)
          · rw [if_pos c18] at hf
            refine V_iconst 2 48 dX7_honest_47 rfl kiconst_2 ?_
            refine V_iload_n 3 49 rfl dX7_honest_48 rfl rfl ?_
            refine V_imul 50 dX7_honest_49 rfl ?_
            refine V_iconst 1 51 dX7_honest_50 rfl kiconst_1 ?_
            refine V_iadd 52 dX7_honest_51 rfl ?_
            refine V_istore [(5, .int (((2 : Int32) * a2) + 1)), (0, .ref t), (1, .int a0), (2, .int a1), (3, .int a2), (4, .int a3)] 54 dX7_honest_52 (by decide) rfl rfl ?_
            refine V_iconst 2 55 dX7_honest_54 rfl kiconst_2 ?_
            refine V_iload_n 3 56 rfl dX7_honest_55 rfl rfl ?_
            refine V_imul 57 dX7_honest_56 rfl ?_
            refine V_iconst 1 58 dX7_honest_57 rfl kiconst_1 ?_
            refine V_iadd 59 dX7_honest_58 rfl ?_
            refine V_istore [(6, .int (((2 : Int32) * a1) + 1)), (5, .int (((2 : Int32) * a2) + 1)), (0, .ref t), (1, .int a0), (2, .int a1), (3, .int a2), (4, .int a3)] 61 dX7_honest_59 (by decide) rfl rfl ?_
            refine V_iload 6 63 rfl dX7_honest_61 rfl ?_
            have kj26 : V mi_X7_honest l G (d + 3) 0 0 X 0 0 73 [(6, .int (((2 : Int32) * a1) + 1)), (5, .int (((2 : Int32) * a2) + 1)), (0, .ref t), (1, .int a0), (2, .int a1), (3, .int a2), (4, .int a3)] [.int (if a3 = 0 then (((2 : Int32) * a2) + 1) else (((2 : Int32) * a1) + 1) : Int32)] σ := by
              refine V_iload 1 75 rfl dX7_honest_73 rfl ?_
              refine V_iload 0 77 rfl dX7_honest_75 rfl ?_
              obtain ⟨v20, h19, hf⟩ := ob hf
              refine V_callS (rest := [.int (if a3 = 0 then (((2 : Int32) * a2) + 1) else (((2 : Int32) * a1) + 1) : Int32)]) 0 0 80 [.int v20, .int (if a3 = 0 then (((2 : Int32) * a2) + 1) else (((2 : Int32) * a1) + 1) : Int32)] (c_X0_divisorOfBoth l G (d + 0) _ _ _ _ h19) (by omega) ok_X0_divisorOfBoth oks_X0_divisorOfBoth wd_ml_X7_258 rfl rfl (Nat.le_of_ble_eq_true rfl) rfl rfl (Or.inl ⟨rfl, rfl⟩) dX7_honest_77 rfl rfl ?_
              obtain ⟨z21, h22, hf⟩ := ob hf
              refine V_idiv 81 dX7_honest_80 rfl (ne0_ne h22) ?_
              refine V_istore [(7, .int ((if a3 = 0 then (((2 : Int32) * a2) + 1) else (((2 : Int32) * a1) + 1) : Int32) / v20)), (6, .int (((2 : Int32) * a1) + 1)), (5, .int (((2 : Int32) * a2) + 1)), (0, .ref t), (1, .int a0), (2, .int a1), (3, .int a2), (4, .int a3)] 83 dX7_honest_81 (by decide) rfl rfl ?_
              refine V_lconst 1 84 dX7_honest_83 rfl klconst_1 ?_
              refine V_lstore [(8, .long 1), (7, .int ((if a3 = 0 then (((2 : Int32) * a2) + 1) else (((2 : Int32) * a1) + 1) : Int32) / v20)), (6, .int (((2 : Int32) * a1) + 1)), (5, .int (((2 : Int32) * a2) + 1)), (0, .ref t), (1, .int a0), (2, .int a1), (3, .int a2), (4, .int a3)] 86 dX7_honest_84 (by decide) rfl rfl ?_
              refine V_iconst 0 87 dX7_honest_86 rfl kiconst_0 ?_
              refine V_istore [(10, .int 0), (8, .long 1), (7, .int ((if a3 = 0 then (((2 : Int32) * a2) + 1) else (((2 : Int32) * a1) + 1) : Int32) / v20)), (6, .int (((2 : Int32) * a1) + 1)), (5, .int (((2 : Int32) * a2) + 1)), (0, .ref t), (1, .int a0), (2, .int a1), (3, .int a2), (4, .int a3)] 89 dX7_honest_87 (by decide) rfl rfl ?_
              obtain ⟨p24, h25, hf⟩ := ob hf
              refine V_ls [(10, .int 0), (8, .long 1), (7, .int ((if a3 = 0 then (((2 : Int32) * a2) + 1) else (((2 : Int32) * a1) + 1) : Int32) / v20)), (1, .int a0)] [0, 1, 2, 6] rfl ?_
              refine L89 σ ((if a3 = 0 then (((2 : Int32) * a2) + 1) else (((2 : Int32) * a1) + 1) : Int32) / v20) a0 3000 0 1 p24 h25 ?_
              refine V_lload 1 111 rfl dX7_honest_109 rfl ?_
              have er := Option.some.inj hf
              obtain ⟨e1, e2⟩ := Prod.mk.inj er
              subst e1
              subst e2
              exact V_lret hQ rfl dX7_honest_111
            refine V_if_ne 71 66 dX7_honest_63 (by decide) rfl (fun c27 => ?_) (fun c27 => ?_)
            · refine V_iload 0 73 rfl dX7_honest_71 rfl ?_
              refine V_ls [(6, .int (((2 : Int32) * a1) + 1)), (5, .int (((2 : Int32) * a2) + 1)), (0, .ref t), (1, .int a0), (2, .int a1), (3, .int a2), (4, .int a3)] [0, 1, 2, 3, 4, 5, 6] rfl ?_
              simp only [if_neg c27] at kj26
              exact kj26
            · refine V_iload 1 68 rfl dX7_honest_66 rfl ?_
              refine V_goto 73 dX7_honest_68 (by decide) ?_
              refine V_ls [(6, .int (((2 : Int32) * a1) + 1)), (5, .int (((2 : Int32) * a2) + 1)), (0, .ref t), (1, .int a0), (2, .int a1), (3, .int a2), (4, .int a3)] [0, 1, 2, 3, 4, 5, 6] rfl ?_
              simp only [if_pos c27] at kj26
              exact kj26
          · rw [if_neg c18] at hf
            refine V_aload_n 0 40 rfl dX7_honest_39 rfl rfl ?_
            refine V_ldc (-1000001) 42 dX7_honest_40 rfl wd_kk_X7_67 ?_
            obtain ⟨p29, h28, hf⟩ := ob hf
            refine V_callV (rest := []) (T := TX7) (n := 10) (ci := 6) 0 0 45 [.int p29.1] (c_X7_fails l G (d + 0) _ _ _ _ _ h28) (by omega) ok_X7_fails okv_X7_fails (gd_X7_fails h28) rfl wd_ml_X7_68 rfl rfl (Nat.le_of_ble_eq_true rfl) rfl rfl (Or.inl ⟨rfl, rfl⟩) dX7_honest_42 rfl rfl ?_
            refine V_i2l 46 dX7_honest_45 rfl ?_
            have er := Option.some.inj hf
            obtain ⟨e1, e2⟩ := Prod.mk.inj er
            subst e1
            subst e2
            exact V_lret hQ rfl dX7_honest_46
  · rw [if_neg hg] at hf
    cases hf
abbrev mi_X7_could : MI := (yX7_could, cX7_could, 3, some .int)
theorem ok_X7_could : OkN mi_X7_could 2 := ⟨wd_cd_X7_could, wd_in_X7, ⟨by decide +kernel, by decide +kernel, by decide +kernel⟩, by decide⟩
theorem okv_X7_could : Cond.instanceMethod (mi_X7_could).1 ∈ tb ∧ Cond.selects (mi_X7_could).1.cls (mi_X7_could).1 (mi_X7_could).1 ∈ tb := ⟨wd_im_X7_could, wd_se_X7_could⟩
def f_X7_could (σ : St) (t : Nat) (a0 : Int32) (a1 : Int32) : Option (Int32 × St) := if isO σ 6 t = true then ((gQ σ 6 t 0).bind fun q2 => (gQ σ 3 q2 2).bind fun q4 => (f_X5_has σ q4 a0).bind fun v6 => if v6 = 0 then ((f_X7_fails σ t (-1000001)).bind fun p9 => some (p9.1, p9.2)) else ((f_X7_isFactor σ a1).bind fun v11 => if v11 = 0 then ((f_X7_fails σ t (-1000001)).bind fun p18 => some (p18.1, p18.2)) else ((gQ σ 6 t 0).bind fun q14 => (f_X0_origins σ q14 a0 a1).bind fun v16 => some (v16, σ)))) else none
theorem gd_X7_could {σ : St} {t : Nat} {a0 : Int32} {a1 : Int32} {r : Int32 × St} (h : f_X7_could σ t a0 a1 = some r) : isO σ 6 t = true := by
  unfold f_X7_could at h
  by_cases hg : isO σ 6 t = true
  · exact hg
  · rw [if_neg hg] at h
    cases h
set_option maxRecDepth 100000 in
set_option maxHeartbeats 4000000 in
theorem c_X7_could (l : Launch) (G : Gd) (d : Nat) (σ : St) (t : Nat) (a0 : Int32) (a1 : Int32) (r0 : Int32) (σ' : St) (hf : f_X7_could σ t a0 a1 = some (r0, σ')) : MetV l G (d + 6) mi_X7_could [.ref t, .int a0, .int a1] σ (some (.int r0)) σ' 0 0 := by
  unfold f_X7_could at hf
  refine MetV.of [(0, .ref t), (1, .int a0), (2, .int a1)] (by decide +kernel) rfl (Nat.le_of_ble_eq_true rfl) ?_
  intro X hQ
  by_cases hg : isO σ 6 t = true
  · rw [if_pos hg] at hf
    refine V_aload_n 0 1 rfl dX7_could_0 rfl rfl ?_
    obtain ⟨q2, h1, hf⟩ := ob hf
    refine V_getQ (n := 10) (ty := tyX7) 4 h1 cf_6 rfl wd_fl_X7_12 dX7_could_1 rfl ?_
    obtain ⟨q4, h3, hf⟩ := ob hf
    refine V_getQ (n := 11) (ty := tyX4) 7 h3 cf_3 rfl wd_fl_X7_126 dX7_could_4 rfl ?_
    refine V_iload_n 1 8 rfl dX7_could_7 rfl rfl ?_
    obtain ⟨v6, h5, hf⟩ := ob hf
    refine V_callV (rest := []) (T := TX5) (n := 4) (ci := 4) 0 0 11 [.int v6] (c_X5_has l G (d + 4) _ _ _ _ h5) (by omega) ok_X5_has okv_X5_has (gd_X5_has h5) rfl wd_ml_X7_101 rfl rfl (Nat.le_of_ble_eq_true rfl) rfl rfl (Or.inl ⟨rfl, rfl⟩) dX7_could_8 rfl rfl ?_
    refine V_if_eq 21 14 dX7_could_11 (by decide) rfl (fun c7 => ?_) (fun c7 => ?_)
    · rw [if_pos c7] at hf
      refine V_aload_n 0 22 rfl dX7_could_21 rfl rfl ?_
      refine V_ldc (-1000001) 24 dX7_could_22 rfl wd_kk_X7_67 ?_
      obtain ⟨p9, h8, hf⟩ := ob hf
      refine V_callV (rest := []) (T := TX7) (n := 10) (ci := 6) 0 0 27 [.int p9.1] (c_X7_fails l G (d + 3) _ _ _ _ _ h8) (by omega) ok_X7_fails okv_X7_fails (gd_X7_fails h8) rfl wd_ml_X7_68 rfl rfl (Nat.le_of_ble_eq_true rfl) rfl rfl (Or.inl ⟨rfl, rfl⟩) dX7_could_24 rfl rfl ?_
      have er := Option.some.inj hf
      obtain ⟨e1, e2⟩ := Prod.mk.inj er
      subst e1
      subst e2
      exact V_iret hQ rfl dX7_could_27
    · rw [if_neg c7] at hf
      refine V_iload_n 2 15 rfl dX7_could_14 rfl rfl ?_
      obtain ⟨v11, h10, hf⟩ := ob hf
      refine V_callS (rest := []) 0 0 18 [.int v11] (c_X7_isFactor l G (d + 3) _ _ _ h10) (by omega) ok_X7_isFactor oks_X7_isFactor wd_ml_X7_149 rfl rfl (Nat.le_of_ble_eq_true rfl) rfl rfl (Or.inl ⟨rfl, rfl⟩) dX7_could_15 rfl rfl ?_
      refine V_if_ne 28 21 dX7_could_18 (by decide) rfl (fun c12 => ?_) (fun c12 => ?_)
      · rw [if_neg c12] at hf
        refine V_aload_n 0 29 rfl dX7_could_28 rfl rfl ?_
        obtain ⟨q14, h13, hf⟩ := ob hf
        refine V_getQ (n := 10) (ty := tyX7) 32 h13 cf_6 rfl wd_fl_X7_12 dX7_could_29 rfl ?_
        refine V_iload_n 1 33 rfl dX7_could_32 rfl rfl ?_
        refine V_iload_n 2 34 rfl dX7_could_33 rfl rfl ?_
        obtain ⟨v16, h15, hf⟩ := ob hf
        refine V_callS (rest := []) 0 0 37 [.int v16] (c_X0_origins l G (d + 0) _ _ _ _ _ h15) (by omega) ok_X0_origins oks_X0_origins wd_ml_X7_261 rfl rfl (Nat.le_of_ble_eq_true rfl) rfl rfl (Or.inl ⟨rfl, rfl⟩) dX7_could_34 rfl rfl ?_
        have er := Option.some.inj hf
        obtain ⟨e1, e2⟩ := Prod.mk.inj er
        subst e1
        subst e2
        exact V_iret hQ rfl dX7_could_37
      · rw [if_pos c12] at hf
        refine V_aload_n 0 22 rfl dX7_could_21 rfl rfl ?_
        refine V_ldc (-1000001) 24 dX7_could_22 rfl wd_kk_X7_67 ?_
        obtain ⟨p18, h17, hf⟩ := ob hf
        refine V_callV (rest := []) (T := TX7) (n := 10) (ci := 6) 0 0 27 [.int p18.1] (c_X7_fails l G (d + 3) _ _ _ _ _ h17) (by omega) ok_X7_fails okv_X7_fails (gd_X7_fails h17) rfl wd_ml_X7_68 rfl rfl (Nat.le_of_ble_eq_true rfl) rfl rfl (Or.inl ⟨rfl, rfl⟩) dX7_could_24 rfl rfl ?_
        have er := Option.some.inj hf
        obtain ⟨e1, e2⟩ := Prod.mk.inj er
        subst e1
        subst e2
        exact V_iret hQ rfl dX7_could_27
  · rw [if_neg hg] at hf
    cases hf
abbrev mi_X7_sources : MI := (yX7_sources, cX7_sources, 4, some .int)
theorem ok_X7_sources : OkN mi_X7_sources 1 := ⟨wd_cd_X7_sources, wd_in_X7, ⟨by decide +kernel, by decide +kernel, by decide +kernel⟩, by decide⟩
theorem okv_X7_sources : Cond.instanceMethod (mi_X7_sources).1 ∈ tb ∧ Cond.selects (mi_X7_sources).1.cls (mi_X7_sources).1 (mi_X7_sources).1 ∈ tb := ⟨wd_im_X7_sources, wd_se_X7_sources⟩
def f_X7_sources_L18 (σ : St) (t : Nat) (x1 : Int32) : Nat → Int32 → Int32 → Option (Int32 × Int32)
  | 0, _, _ => none
  | n + 1, x3, x2 => (gQ σ 6 t 0).bind fun q5 => (gQ σ 3 q5 2).bind fun q7 => (gI σ 4 q7 3).bind fun v9 => if v9 ≤ x3 then (some (x3, x2)) else ((gQ σ 6 t 0).bind fun q12 => (f_X0_origins σ q12 x3 x1).bind fun v14 => f_X7_sources_L18 σ t x1 n (x3 + 1) (if v14 = 0 then (x2 ||| ((1 : Int32) <<< (x3 &&& 31))) else x2 : Int32))
def f_X7_sources (σ : St) (t : Nat) (a0 : Int32) : Option (Int32 × St) := if isO σ 6 t = true then ((f_X7_isFactor σ a0).bind fun v2 => if v2 = 0 then ((f_X7_fails σ t (-1000001)).bind fun p20 => some (p20.1, p20.2)) else ((f_X7_sources_L18 σ t a0 3000 0 0).bind fun p17 => some (p17.2, σ))) else none
theorem gd_X7_sources {σ : St} {t : Nat} {a0 : Int32} {r : Int32 × St} (h : f_X7_sources σ t a0 = some r) : isO σ 6 t = true := by
  unfold f_X7_sources at h
  by_cases hg : isO σ 6 t = true
  · exact hg
  · rw [if_neg hg] at h
    cases h
set_option maxRecDepth 100000 in
set_option maxHeartbeats 4000000 in
theorem c_X7_sources (l : Launch) (G : Gd) (d : Nat) (σ : St) (t : Nat) (a0 : Int32) (r0 : Int32) (σ' : St) (hf : f_X7_sources σ t a0 = some (r0, σ')) : MetV l G (d + 6) mi_X7_sources [.ref t, .int a0] σ (some (.int r0)) σ' 0 0 := by
  unfold f_X7_sources at hf
  refine MetV.of [(0, .ref t), (1, .int a0)] (by decide +kernel) rfl (Nat.le_of_ble_eq_true rfl) ?_
  intro X hQ
  have L18 : ∀ (σ : St) (x1 : Int32) (n : Nat) (x3 : Int32) (x2 : Int32) (p : Int32 × Int32), f_X7_sources_L18 σ t x1 n x3 x2 = some p → V mi_X7_sources l G (d + 6) 0 0 X 0 0 56 [(3, .int p.1), (2, .int p.2), (0, .ref t), (1, .int x1)] [] σ → V mi_X7_sources l G (d + 6) 0 0 X 0 0 18 [(3, .int x3), (2, .int x2), (0, .ref t), (1, .int x1)] [] σ := by
    intro σ x1 n
    induction n with
    | zero =>
      intro x3 x2 p hf
      exact absurd (show (none : Option _) = some p from hf) (by simp)
    | succ n ih =>
      intro x3 x2 p hf hk
      rw [f_X7_sources_L18] at hf
      refine V_iload_n 0 19 rfl dX7_sources_18 rfl rfl ?_
      refine V_aload_n 2 20 rfl dX7_sources_19 rfl rfl ?_
      obtain ⟨q5, h4, hf⟩ := ob hf
      refine V_getQ (n := 10) (ty := tyX7) 23 h4 cf_6 rfl wd_fl_X7_12 dX7_sources_20 rfl ?_
      obtain ⟨q7, h6, hf⟩ := ob hf
      refine V_getQ (n := 11) (ty := tyX4) 26 h6 cf_3 rfl wd_fl_X7_126 dX7_sources_23 rfl ?_
      obtain ⟨v9, h8, hf⟩ := ob hf
      refine V_getI (n := 4) (ty := tyX5) 29 h8 cf_4 rfl wd_fl_X7_229 dX7_sources_26 rfl ?_
      refine V_icmp_ge 56 32 dX7_sources_29 (by decide) rfl (fun c10 => ?_) (fun c10 => ?_)
      · rw [if_pos c10] at hf
        have ep := Option.some.inj hf
        subst ep
        refine V_ls [(3, .int x3), (2, .int x2), (0, .ref t), (1, .int x1)] [0, 1, 2, 3] rfl ?_
        exact hk
      · rw [if_neg c10] at hf
        refine V_aload_n 2 33 rfl dX7_sources_32 rfl rfl ?_
        obtain ⟨q12, h11, hf⟩ := ob hf
        refine V_getQ (n := 10) (ty := tyX7) 36 h11 cf_6 rfl wd_fl_X7_12 dX7_sources_33 rfl ?_
        refine V_iload_n 0 37 rfl dX7_sources_36 rfl rfl ?_
        refine V_iload_n 3 38 rfl dX7_sources_37 rfl rfl ?_
        obtain ⟨v14, h13, hf⟩ := ob hf
        refine V_callS (rest := []) 0 0 41 [.int v14] (c_X0_origins l G (d + 0) _ _ _ _ _ h13) (by omega) ok_X0_origins oks_X0_origins wd_ml_X7_261 rfl rfl (Nat.le_of_ble_eq_true rfl) rfl rfl (Or.inl ⟨rfl, rfl⟩) dX7_sources_38 rfl rfl ?_
        have kj15 : V mi_X7_sources l G (d + 6) 0 0 X 0 0 50 [(3, .int x3), (2, .int (if v14 = 0 then (x2 ||| ((1 : Int32) <<< (x3 &&& 31))) else x2 : Int32)), (0, .ref t), (1, .int x1)] [] σ := by
          refine V_iinc (x3 + 1) 0 [(3, .int (x3 + 1)), (2, .int (if v14 = 0 then (x2 ||| ((1 : Int32) <<< (x3 &&& 31))) else x2 : Int32)), (0, .ref t), (1, .int x1)] 53 dX7_sources_50 rfl (by rw [kiconst_1]) (by decide) rfl rfl ?_
          refine V_goto 18 dX7_sources_53 (by decide) ?_
          refine V_ls [(3, .int (x3 + 1)), (2, .int (if v14 = 0 then (x2 ||| ((1 : Int32) <<< (x3 &&& 31))) else x2 : Int32)), (0, .ref t), (1, .int x1)] [0, 1, 2, 3] rfl ?_
          exact ih _ _ _ hf hk
        refine V_if_ne 50 44 dX7_sources_41 (by decide) rfl (fun c16 => ?_) (fun c16 => ?_)
        · refine V_ls [(3, .int x3), (2, .int x2), (0, .ref t), (1, .int x1)] [0, 1, 2, 3] rfl ?_
          simp only [if_neg c16] at kj15
          exact kj15
        · refine V_iload_n 1 45 rfl dX7_sources_44 rfl rfl ?_
          refine V_iconst 1 46 dX7_sources_45 rfl kiconst_1 ?_
          refine V_iload_n 0 47 rfl dX7_sources_46 rfl rfl ?_
          refine V_ishl 48 dX7_sources_47 rfl ?_
          refine V_ior 49 dX7_sources_48 rfl ?_
          refine V_istore_n [(2, .int (x2 ||| ((1 : Int32) <<< (x3 &&& 31)))), (3, .int x3), (0, .ref t), (1, .int x1)] 50 dX7_sources_49 rfl (by decide) rfl rfl ?_
          refine V_ls [(3, .int x3), (2, .int (x2 ||| ((1 : Int32) <<< (x3 &&& 31)))), (0, .ref t), (1, .int x1)] [1, 0, 2, 3] rfl ?_
          simp only [if_pos c16] at kj15
          exact kj15
  by_cases hg : isO σ 6 t = true
  · rw [if_pos hg] at hf
    refine V_iload_n 1 1 rfl dX7_sources_0 rfl rfl ?_
    obtain ⟨v2, h1, hf⟩ := ob hf
    refine V_callS (rest := []) 0 0 4 [.int v2] (c_X7_isFactor l G (d + 3) _ _ _ h1) (by omega) ok_X7_isFactor oks_X7_isFactor wd_ml_X7_149 rfl rfl (Nat.le_of_ble_eq_true rfl) rfl rfl (Or.inl ⟨rfl, rfl⟩) dX7_sources_1 rfl rfl ?_
    refine V_if_ne 14 7 dX7_sources_4 (by decide) rfl (fun c3 => ?_) (fun c3 => ?_)
    · rw [if_neg c3] at hf
      refine V_iconst 0 15 dX7_sources_14 rfl kiconst_0 ?_
      refine V_istore_n [(2, .int 0), (0, .ref t), (1, .int a0)] 16 dX7_sources_15 rfl (by decide) rfl rfl ?_
      refine V_iconst 0 17 dX7_sources_16 rfl kiconst_0 ?_
      refine V_istore_n [(3, .int 0), (2, .int 0), (0, .ref t), (1, .int a0)] 18 dX7_sources_17 rfl (by decide) rfl rfl ?_
      obtain ⟨p17, h18, hf⟩ := ob hf
      refine V_ls [(3, .int 0), (2, .int 0), (0, .ref t), (1, .int a0)] [0, 1, 2, 3] rfl ?_
      refine L18 σ a0 3000 0 0 p17 h18 ?_
      refine V_iload_n 1 57 rfl dX7_sources_56 rfl rfl ?_
      have er := Option.some.inj hf
      obtain ⟨e1, e2⟩ := Prod.mk.inj er
      subst e1
      subst e2
      exact V_iret hQ rfl dX7_sources_57
    · rw [if_pos c3] at hf
      refine V_aload_n 0 8 rfl dX7_sources_7 rfl rfl ?_
      refine V_ldc (-1000001) 10 dX7_sources_8 rfl wd_kk_X7_67 ?_
      obtain ⟨p20, h19, hf⟩ := ob hf
      refine V_callV (rest := []) (T := TX7) (n := 10) (ci := 6) 0 0 13 [.int p20.1] (c_X7_fails l G (d + 3) _ _ _ _ _ h19) (by omega) ok_X7_fails okv_X7_fails (gd_X7_fails h19) rfl wd_ml_X7_68 rfl rfl (Nat.le_of_ble_eq_true rfl) rfl rfl (Or.inl ⟨rfl, rfl⟩) dX7_sources_10 rfl rfl ?_
      have er := Option.some.inj hf
      obtain ⟨e1, e2⟩ := Prod.mk.inj er
      subst e1
      subst e2
      exact V_iret hQ rfl dX7_sources_13
  · rw [if_neg hg] at hf
    cases hf
abbrev mi_X7_findShared : MI := (yX7_findShared, cX7_findShared, 6, some .int)
theorem ok_X7_findShared : OkN mi_X7_findShared 1 := ⟨wd_cd_X7_findShared, wd_in_X7, ⟨by decide +kernel, by decide +kernel, by decide +kernel⟩, by decide⟩
theorem okv_X7_findShared : Cond.instanceMethod (mi_X7_findShared).1 ∈ tb ∧ Cond.selects (mi_X7_findShared).1.cls (mi_X7_findShared).1 (mi_X7_findShared).1 ∈ tb := ⟨wd_im_X7_findShared, wd_se_X7_findShared⟩
def f_X7_findShared_L48 (x4 : Int32) (x3 : Int32) (t : Nat) : Nat → Int32 → St → Option (Int32 × St)
  | 0, _, _ => none
  | n + 1, x5, σ => (gQ σ 6 t 0).bind fun q22 => (gQ σ 3 q22 2).bind fun q24 => (gI σ 4 q24 3).bind fun v26 => if v26 ≤ x5 then (some (x5, σ)) else (if ((x4 >>> (x5 &&& 31)) &&& 1) = 1 then ((gQ σ 6 t 5).bind fun q30 => (aI σ 0 q30 x3).bind fun v32 => (gQ σ 6 t 0).bind fun q34 => (f_X4_namesOf σ q34 x5).bind fun v36 => (gQ σ 6 t 0).bind fun q38 => (f_X4_namesOf σ q38 x3).bind fun v40 => (sI σ q30 x3 (v32 ||| (v36 &&& v40))).bind fun s42 => f_X7_findShared_L48 x4 x3 t n (x5 + 1) s42) else (f_X7_findShared_L48 x4 x3 t n (x5 + 1) σ))
def f_X7_findShared_L4 (t : Nat) (x1 : Int32) : Nat → Int32 → Int32 → St → Option (Int32 × Int32 × St)
  | 0, _, _, _ => none
  | n + 1, x3, x2, σ => (gQ σ 6 t 0).bind fun q2 => (gQ σ 3 q2 2).bind fun q4 => (gI σ 4 q4 3).bind fun v6 => if v6 ≤ x3 then (some (x3, x2, σ)) else ((gQ σ 6 t 5).bind fun q9 => (aL σ 0 q9).bind fun v10 => if v10 ≤ x3 then (some (x3, x2, σ)) else ((gQ σ 6 t 0).bind fun q14 => (f_X0_origins σ q14 x3 x1).bind fun v16 => (gQ σ 6 t 5).bind fun q18 => (sI σ q18 x3 0).bind fun s20 => (f_X7_findShared_L48 v16 x3 t 3000 0 s20).bind fun p43 => f_X7_findShared_L4 t x1 n (x3 + 1) (if v16 = 0 then x2 else (x2 ||| ((1 : Int32) <<< (x3 &&& 31))) : Int32) p43.2))
def f_X7_findShared (σ : St) (t : Nat) (a0 : Int32) : Option (Int32 × St) := if isO σ 6 t = true then ((f_X7_findShared_L4 t a0 3000 0 0 σ).bind fun p47 => some (p47.2.1, p47.2.2)) else none
theorem gd_X7_findShared {σ : St} {t : Nat} {a0 : Int32} {r : Int32 × St} (h : f_X7_findShared σ t a0 = some r) : isO σ 6 t = true := by
  unfold f_X7_findShared at h
  by_cases hg : isO σ 6 t = true
  · exact hg
  · rw [if_neg hg] at h
    cases h
set_option maxRecDepth 100000 in
set_option maxHeartbeats 4000000 in
theorem c_X7_findShared (l : Launch) (G : Gd) (d : Nat) (σ : St) (t : Nat) (a0 : Int32) (r0 : Int32) (σ' : St) (hf : f_X7_findShared σ t a0 = some (r0, σ')) : MetV l G (d + 6) mi_X7_findShared [.ref t, .int a0] σ (some (.int r0)) σ' 0 0 := by
  unfold f_X7_findShared at hf
  refine MetV.of [(0, .ref t), (1, .int a0)] (by decide +kernel) rfl (Nat.le_of_ble_eq_true rfl) ?_
  intro X hQ
  have L48 : ∀ (x4 : Int32) (x3 : Int32) (x2 : Int32) (x1 : Int32) (n : Nat) (x5 : Int32) (σ : St) (p : Int32 × St), f_X7_findShared_L48 x4 x3 t n x5 σ = some p → V mi_X7_findShared l G (d + 6) 0 0 X 0 0 107 [(5, .int p.1), (4, .int x4), (3, .int x3), (2, .int x2), (0, .ref t), (1, .int x1)] [] p.2 → V mi_X7_findShared l G (d + 6) 0 0 X 0 0 48 [(5, .int x5), (4, .int x4), (3, .int x3), (2, .int x2), (0, .ref t), (1, .int x1)] [] σ := by
    intro x4 x3 x2 x1 n
    induction n with
    | zero =>
      intro x5 σ p hf
      exact absurd (show (none : Option _) = some p from hf) (by simp)
    | succ n ih =>
      intro x5 σ p hf hk
      rw [f_X7_findShared_L48] at hf
      refine V_iload 0 50 rfl dX7_findShared_48 rfl ?_
      refine V_aload_n 4 51 rfl dX7_findShared_50 rfl rfl ?_
      obtain ⟨q22, h21, hf⟩ := ob hf
      refine V_getQ (n := 10) (ty := tyX7) 54 h21 cf_6 rfl wd_fl_X7_12 dX7_findShared_51 rfl ?_
      obtain ⟨q24, h23, hf⟩ := ob hf
      refine V_getQ (n := 11) (ty := tyX4) 57 h23 cf_3 rfl wd_fl_X7_126 dX7_findShared_54 rfl ?_
      obtain ⟨v26, h25, hf⟩ := ob hf
      refine V_getI (n := 4) (ty := tyX5) 60 h25 cf_4 rfl wd_fl_X7_229 dX7_findShared_57 rfl ?_
      refine V_icmp_ge 107 63 dX7_findShared_60 (by decide) rfl (fun c27 => ?_) (fun c27 => ?_)
      · rw [if_pos c27] at hf
        have ep := Option.some.inj hf
        subst ep
        refine V_ls [(5, .int x5), (4, .int x4), (3, .int x3), (2, .int x2), (0, .ref t), (1, .int x1)] [0, 1, 2, 3, 4, 5] rfl ?_
        exact hk
      · rw [if_neg c27] at hf
        refine V_iload 1 65 rfl dX7_findShared_63 rfl ?_
        refine V_iload 0 67 rfl dX7_findShared_65 rfl ?_
        refine V_ishr 68 dX7_findShared_67 rfl ?_
        refine V_iconst 1 69 dX7_findShared_68 rfl kiconst_1 ?_
        refine V_iand 70 dX7_findShared_69 rfl ?_
        refine V_iconst 1 71 dX7_findShared_70 rfl kiconst_1 ?_
        refine V_icmp_ne 101 74 dX7_findShared_71 (by decide) rfl (fun c28 => ?_) (fun c28 => ?_)
        · rw [if_neg c28] at hf
          refine V_iinc (x5 + 1) 0 [(5, .int (x5 + 1)), (4, .int x4), (3, .int x3), (2, .int x2), (0, .ref t), (1, .int x1)] 104 dX7_findShared_101 rfl (by rw [kiconst_1]) (by decide) rfl rfl ?_
          refine V_goto 48 dX7_findShared_104 (by decide) ?_
          refine V_ls [(5, .int (x5 + 1)), (4, .int x4), (3, .int x3), (2, .int x2), (0, .ref t), (1, .int x1)] [0, 1, 2, 3, 4, 5] rfl ?_
          exact ih _ _ _ hf hk
        · rw [if_pos c28] at hf
          refine V_aload_n 4 75 rfl dX7_findShared_74 rfl rfl ?_
          obtain ⟨q30, h29, hf⟩ := ob hf
          refine V_getQ (n := 10) (ty := tyX7) 78 h29 cf_6 rfl wd_fl_X7_40 dX7_findShared_75 rfl ?_
          refine V_iload_n 2 79 rfl dX7_findShared_78 rfl rfl ?_
          refine V_dup2 80 dX7_findShared_79 rfl rfl rfl ?_
          obtain ⟨v32, h31, hf⟩ := ob hf
          refine V_iald 81 h31 dX7_findShared_80 rfl ?_
          refine V_aload_n 4 82 rfl dX7_findShared_81 rfl rfl ?_
          obtain ⟨q34, h33, hf⟩ := ob hf
          refine V_getQ (n := 10) (ty := tyX7) 85 h33 cf_6 rfl wd_fl_X7_12 dX7_findShared_82 rfl ?_
          refine V_iload 0 87 rfl dX7_findShared_85 rfl ?_
          obtain ⟨v36, h35, hf⟩ := ob hf
          refine V_callV (rest := [.int v32, .int x3, .ref q30]) (T := TX4) (n := 11) (ci := 3) 0 0 90 [.int v36, .int v32, .int x3, .ref q30] (c_X4_namesOf l G (d + 3) _ _ _ _ h35) (by omega) ok_X4_namesOf okv_X4_namesOf (gd_X4_namesOf h35) rfl wd_ml_X7_373 rfl rfl (Nat.le_of_ble_eq_true rfl) rfl rfl (Or.inl ⟨rfl, rfl⟩) dX7_findShared_87 rfl rfl ?_
          refine V_aload_n 4 91 rfl dX7_findShared_90 rfl rfl ?_
          obtain ⟨q38, h37, hf⟩ := ob hf
          refine V_getQ (n := 10) (ty := tyX7) 94 h37 cf_6 rfl wd_fl_X7_12 dX7_findShared_91 rfl ?_
          refine V_iload_n 2 95 rfl dX7_findShared_94 rfl rfl ?_
          obtain ⟨v40, h39, hf⟩ := ob hf
          refine V_callV (rest := [.int v36, .int v32, .int x3, .ref q30]) (T := TX4) (n := 11) (ci := 3) 0 0 98 [.int v40, .int v36, .int v32, .int x3, .ref q30] (c_X4_namesOf l G (d + 3) _ _ _ _ h39) (by omega) ok_X4_namesOf okv_X4_namesOf (gd_X4_namesOf h39) rfl wd_ml_X7_373 rfl rfl (Nat.le_of_ble_eq_true rfl) rfl rfl (Or.inl ⟨rfl, rfl⟩) dX7_findShared_95 rfl rfl ?_
          refine V_iand 99 dX7_findShared_98 rfl ?_
          refine V_ior 100 dX7_findShared_99 rfl ?_
          obtain ⟨s42, h41, hf⟩ := ob hf
          refine V_iast 101 h41 dX7_findShared_100 rfl ?_
          refine V_iinc (x5 + 1) 0 [(5, .int (x5 + 1)), (4, .int x4), (3, .int x3), (2, .int x2), (0, .ref t), (1, .int x1)] 104 dX7_findShared_101 rfl (by rw [kiconst_1]) (by decide) rfl rfl ?_
          refine V_goto 48 dX7_findShared_104 (by decide) ?_
          refine V_ls [(5, .int (x5 + 1)), (4, .int x4), (3, .int x3), (2, .int x2), (0, .ref t), (1, .int x1)] [0, 1, 2, 3, 4, 5] rfl ?_
          exact ih _ _ _ hf hk
  have L4 : ∀ (x1 : Int32) (n : Nat) (x3 : Int32) (x2 : Int32) (σ : St) (p : Int32 × Int32 × St), f_X7_findShared_L4 t x1 n x3 x2 σ = some p → V mi_X7_findShared l G (d + 6) 0 0 X 0 0 124 [(3, .int p.1), (2, .int p.2.1), (0, .ref t), (1, .int x1)] [] p.2.2 → V mi_X7_findShared l G (d + 6) 0 0 X 0 0 4 [(3, .int x3), (2, .int x2), (0, .ref t), (1, .int x1)] [] σ := by
    intro x1 n
    induction n with
    | zero =>
      intro x3 x2 σ p hf
      exact absurd (show (none : Option _) = some p from hf) (by simp)
    | succ n ih =>
      intro x3 x2 σ p hf hk
      rw [f_X7_findShared_L4] at hf
      refine V_iload_n 0 5 rfl dX7_findShared_4 rfl rfl ?_
      refine V_aload_n 2 6 rfl dX7_findShared_5 rfl rfl ?_
      obtain ⟨q2, h1, hf⟩ := ob hf
      refine V_getQ (n := 10) (ty := tyX7) 9 h1 cf_6 rfl wd_fl_X7_12 dX7_findShared_6 rfl ?_
      obtain ⟨q4, h3, hf⟩ := ob hf
      refine V_getQ (n := 11) (ty := tyX4) 12 h3 cf_3 rfl wd_fl_X7_126 dX7_findShared_9 rfl ?_
      obtain ⟨v6, h5, hf⟩ := ob hf
      refine V_getI (n := 4) (ty := tyX5) 15 h5 cf_4 rfl wd_fl_X7_229 dX7_findShared_12 rfl ?_
      refine V_icmp_ge 124 18 dX7_findShared_15 (by decide) rfl (fun c7 => ?_) (fun c7 => ?_)
      · rw [if_pos c7] at hf
        have ep := Option.some.inj hf
        subst ep
        refine V_ls [(3, .int x3), (2, .int x2), (0, .ref t), (1, .int x1)] [0, 1, 2, 3] rfl ?_
        exact hk
      · rw [if_neg c7] at hf
        refine V_iload_n 0 19 rfl dX7_findShared_18 rfl rfl ?_
        refine V_aload_n 2 20 rfl dX7_findShared_19 rfl rfl ?_
        obtain ⟨q9, h8, hf⟩ := ob hf
        refine V_getQ (n := 10) (ty := tyX7) 23 h8 cf_6 rfl wd_fl_X7_40 dX7_findShared_20 rfl ?_
        obtain ⟨v10, h11, hf⟩ := ob hf
        refine V_alen (t := 0) 24 h11 (by decide) dX7_findShared_23 rfl ?_
        refine V_icmp_ge 124 27 dX7_findShared_24 (by decide) rfl (fun c12 => ?_) (fun c12 => ?_)
        · rw [if_pos c12] at hf
          have ep := Option.some.inj hf
          subst ep
          refine V_ls [(3, .int x3), (2, .int x2), (0, .ref t), (1, .int x1)] [0, 1, 2, 3] rfl ?_
          exact hk
        · rw [if_neg c12] at hf
          refine V_aload_n 2 28 rfl dX7_findShared_27 rfl rfl ?_
          obtain ⟨q14, h13, hf⟩ := ob hf
          refine V_getQ (n := 10) (ty := tyX7) 31 h13 cf_6 rfl wd_fl_X7_12 dX7_findShared_28 rfl ?_
          refine V_iload_n 0 32 rfl dX7_findShared_31 rfl rfl ?_
          refine V_iload_n 3 33 rfl dX7_findShared_32 rfl rfl ?_
          obtain ⟨v16, h15, hf⟩ := ob hf
          refine V_callS (rest := []) 0 0 36 [.int v16] (c_X0_origins l G (d + 0) _ _ _ _ _ h15) (by omega) ok_X0_origins oks_X0_origins wd_ml_X7_261 rfl rfl (Nat.le_of_ble_eq_true rfl) rfl rfl (Or.inl ⟨rfl, rfl⟩) dX7_findShared_33 rfl rfl ?_
          refine V_istore [(4, .int v16), (3, .int x3), (2, .int x2), (0, .ref t), (1, .int x1)] 38 dX7_findShared_36 (by decide) rfl rfl ?_
          refine V_aload_n 3 39 rfl dX7_findShared_38 rfl rfl ?_
          obtain ⟨q18, h17, hf⟩ := ob hf
          refine V_getQ (n := 10) (ty := tyX7) 42 h17 cf_6 rfl wd_fl_X7_40 dX7_findShared_39 rfl ?_
          refine V_iload_n 1 43 rfl dX7_findShared_42 rfl rfl ?_
          refine V_iconst 0 44 dX7_findShared_43 rfl kiconst_0 ?_
          obtain ⟨s20, h19, hf⟩ := ob hf
          refine V_iast 45 h19 dX7_findShared_44 rfl ?_
          refine V_iconst 0 46 dX7_findShared_45 rfl kiconst_0 ?_
          refine V_istore [(5, .int 0), (4, .int v16), (3, .int x3), (2, .int x2), (0, .ref t), (1, .int x1)] 48 dX7_findShared_46 (by decide) rfl rfl ?_
          obtain ⟨p43, h44, hf⟩ := ob hf
          refine V_ls [(5, .int 0), (4, .int v16), (3, .int x3), (2, .int x2), (0, .ref t), (1, .int x1)] [0, 1, 2, 3, 4, 5] rfl ?_
          refine L48 v16 x3 x2 x1 3000 0 s20 p43 h44 ?_
          refine V_iload 1 109 rfl dX7_findShared_107 rfl ?_
          have kj45 : V mi_X7_findShared l G (d + 6) 0 0 X 0 0 118 [(5, .int p43.1), (4, .int v16), (3, .int x3), (2, .int (if v16 = 0 then x2 else (x2 ||| ((1 : Int32) <<< (x3 &&& 31))) : Int32)), (0, .ref t), (1, .int x1)] [] p43.2 := by
            refine V_iinc (x3 + 1) 2 [(3, .int (x3 + 1)), (5, .int p43.1), (4, .int v16), (2, .int (if v16 = 0 then x2 else (x2 ||| ((1 : Int32) <<< (x3 &&& 31))) : Int32)), (0, .ref t), (1, .int x1)] 121 dX7_findShared_118 rfl (by rw [kiconst_1]) (by decide) rfl rfl ?_
            refine V_goto 4 dX7_findShared_121 (by decide) ?_
            refine V_ls [(3, .int (x3 + 1)), (2, .int (if v16 = 0 then x2 else (x2 ||| ((1 : Int32) <<< (x3 &&& 31))) : Int32)), (0, .ref t), (1, .int x1)] [0, 3, 4, 5] rfl ?_
            exact ih _ _ _ _ hf hk
          refine V_if_eq 118 112 dX7_findShared_109 (by decide) rfl (fun c46 => ?_) (fun c46 => ?_)
          · refine V_ls [(5, .int p43.1), (4, .int v16), (3, .int x3), (2, .int x2), (0, .ref t), (1, .int x1)] [0, 1, 2, 3, 4, 5] rfl ?_
            simp only [if_pos c46] at kj45
            exact kj45
          · refine V_iload_n 3 113 rfl dX7_findShared_112 rfl rfl ?_
            refine V_iconst 1 114 dX7_findShared_113 rfl kiconst_1 ?_
            refine V_iload_n 2 115 rfl dX7_findShared_114 rfl rfl ?_
            refine V_ishl 116 dX7_findShared_115 rfl ?_
            refine V_ior 117 dX7_findShared_116 rfl ?_
            refine V_istore_n [(2, .int (x2 ||| ((1 : Int32) <<< (x3 &&& 31)))), (5, .int p43.1), (4, .int v16), (3, .int x3), (0, .ref t), (1, .int x1)] 118 dX7_findShared_117 rfl (by decide) rfl rfl ?_
            refine V_ls [(5, .int p43.1), (4, .int v16), (3, .int x3), (2, .int (x2 ||| ((1 : Int32) <<< (x3 &&& 31)))), (0, .ref t), (1, .int x1)] [1, 2, 3, 0, 4, 5] rfl ?_
            simp only [if_neg c46] at kj45
            exact kj45
  by_cases hg : isO σ 6 t = true
  · rw [if_pos hg] at hf
    refine V_iconst 0 1 dX7_findShared_0 rfl kiconst_0 ?_
    refine V_istore_n [(2, .int 0), (0, .ref t), (1, .int a0)] 2 dX7_findShared_1 rfl (by decide) rfl rfl ?_
    refine V_iconst 0 3 dX7_findShared_2 rfl kiconst_0 ?_
    refine V_istore_n [(3, .int 0), (2, .int 0), (0, .ref t), (1, .int a0)] 4 dX7_findShared_3 rfl (by decide) rfl rfl ?_
    obtain ⟨p47, h48, hf⟩ := ob hf
    refine V_ls [(3, .int 0), (2, .int 0), (0, .ref t), (1, .int a0)] [0, 1, 2, 3] rfl ?_
    refine L4 a0 3000 0 0 σ p47 h48 ?_
    refine V_iload_n 1 125 rfl dX7_findShared_124 rfl rfl ?_
    have er := Option.some.inj hf
    obtain ⟨e1, e2⟩ := Prod.mk.inj er
    subst e1
    subst e2
    exact V_iret hQ rfl dX7_findShared_125
  · rw [if_neg hg] at hf
    cases hf
abbrev mi_X7_explainsAll : MI := (yX7_explainsAll, cX7_explainsAll, 4, some .boolean)
theorem ok_X7_explainsAll : OkN mi_X7_explainsAll 2 := ⟨wd_cd_X7_explainsAll, wd_in_X7, ⟨by decide +kernel, by decide +kernel, by decide +kernel⟩, by decide⟩
theorem okv_X7_explainsAll : Cond.instanceMethod (mi_X7_explainsAll).1 ∈ tb ∧ Cond.selects (mi_X7_explainsAll).1.cls (mi_X7_explainsAll).1 (mi_X7_explainsAll).1 ∈ tb := ⟨wd_im_X7_explainsAll, wd_se_X7_explainsAll⟩
def f_X7_explainsAll_L2 (σ : St) (t : Nat) (x1 : Int32) (x2 : Int32) : Nat → Int32 → Option ((Int32) ⊕ (Int32))
  | 0, _ => none
  | n + 1, x3 => (gQ σ 6 t 5).bind fun q2 => (aL σ 0 q2).bind fun v3 => if v3 ≤ x3 then (some (.inr x3)) else (if ((x2 >>> (x3 &&& 31)) &&& 1) = 1 then ((gQ σ 6 t 5).bind fun q8 => (aI σ 0 q8 x3).bind fun v10 => if (v10 &&& x1) = 0 then (some (.inl 0)) else (f_X7_explainsAll_L2 σ t x1 x2 n (x3 + 1))) else (f_X7_explainsAll_L2 σ t x1 x2 n (x3 + 1)))
def f_X7_explainsAll (σ : St) (t : Nat) (a0 : Int32) (a1 : Int32) : Option Int32 := if isO σ 6 t = true then ((f_X7_explainsAll_L2 σ t a0 a1 3000 0).bind fun p12 => Sum.elim (some) (fun p14 => some 1) p12) else none
theorem gd_X7_explainsAll {σ : St} {t : Nat} {a0 : Int32} {a1 : Int32} {r : Int32} (h : f_X7_explainsAll σ t a0 a1 = some r) : isO σ 6 t = true := by
  unfold f_X7_explainsAll at h
  by_cases hg : isO σ 6 t = true
  · exact hg
  · rw [if_neg hg] at h
    cases h
set_option maxRecDepth 100000 in
set_option maxHeartbeats 4000000 in
theorem c_X7_explainsAll (l : Launch) (G : Gd) (d : Nat) (σ : St) (t : Nat) (a0 : Int32) (a1 : Int32) (r0 : Int32) (hf : f_X7_explainsAll σ t a0 a1 = some r0) : MetV l G (d + 1) mi_X7_explainsAll [.ref t, .int a0, .int a1] σ (some (.int r0)) σ 0 0 := by
  unfold f_X7_explainsAll at hf
  refine MetV.of [(0, .ref t), (1, .int a0), (2, .int a1)] (by decide +kernel) rfl (Nat.le_of_ble_eq_true rfl) ?_
  intro X hQ
  have L2 : ∀ (x1 : Int32) (x2 : Int32) (n : Nat) (x3 : Int32) (p : (Int32) ⊕ (Int32)), f_X7_explainsAll_L2 σ t x1 x2 n x3 = some p → (∀ v, p = .inl v → v = r0) → (∀ q, p = .inr q → V mi_X7_explainsAll l G (d + 1) 0 0 X 0 0 39 [(3, .int q), (0, .ref t), (1, .int x1), (2, .int x2)] [] σ) → V mi_X7_explainsAll l G (d + 1) 0 0 X 0 0 2 [(3, .int x3), (0, .ref t), (1, .int x1), (2, .int x2)] [] σ := by
    intro x1 x2 n
    induction n with
    | zero =>
      intro x3 p hf
      exact absurd (show (none : Option _) = some p from hf) (by simp)
    | succ n ih =>
      intro x3 p hf hk1 hk
      rw [f_X7_explainsAll_L2] at hf
      refine V_iload_n 0 3 rfl dX7_explainsAll_2 rfl rfl ?_
      refine V_aload_n 1 4 rfl dX7_explainsAll_3 rfl rfl ?_
      obtain ⟨q2, h1, hf⟩ := ob hf
      refine V_getQ (n := 10) (ty := tyX7) 7 h1 cf_6 rfl wd_fl_X7_40 dX7_explainsAll_4 rfl ?_
      obtain ⟨v3, h4, hf⟩ := ob hf
      refine V_alen (t := 0) 8 h4 (by decide) dX7_explainsAll_7 rfl ?_
      refine V_icmp_ge 39 11 dX7_explainsAll_8 (by decide) rfl (fun c5 => ?_) (fun c5 => ?_)
      · rw [if_pos c5] at hf
        have ep := Option.some.inj hf
        subst ep
        refine V_ls [(3, .int x3), (0, .ref t), (1, .int x1), (2, .int x2)] [0, 1, 2, 3] rfl ?_
        exact hk _ rfl
      · rw [if_neg c5] at hf
        refine V_iload_n 3 12 rfl dX7_explainsAll_11 rfl rfl ?_
        refine V_iload_n 0 13 rfl dX7_explainsAll_12 rfl rfl ?_
        refine V_ishr 14 dX7_explainsAll_13 rfl ?_
        refine V_iconst 1 15 dX7_explainsAll_14 rfl kiconst_1 ?_
        refine V_iand 16 dX7_explainsAll_15 rfl ?_
        refine V_iconst 1 17 dX7_explainsAll_16 rfl kiconst_1 ?_
        refine V_icmp_ne 33 20 dX7_explainsAll_17 (by decide) rfl (fun c6 => ?_) (fun c6 => ?_)
        · rw [if_neg c6] at hf
          refine V_iinc (x3 + 1) 0 [(3, .int (x3 + 1)), (0, .ref t), (1, .int x1), (2, .int x2)] 36 dX7_explainsAll_33 rfl (by rw [kiconst_1]) (by decide) rfl rfl ?_
          refine V_goto 2 dX7_explainsAll_36 (by decide) ?_
          refine V_ls [(3, .int (x3 + 1)), (0, .ref t), (1, .int x1), (2, .int x2)] [0, 1, 2, 3] rfl ?_
          exact ih _ _ hf hk1 hk
        · rw [if_pos c6] at hf
          refine V_aload_n 1 21 rfl dX7_explainsAll_20 rfl rfl ?_
          obtain ⟨q8, h7, hf⟩ := ob hf
          refine V_getQ (n := 10) (ty := tyX7) 24 h7 cf_6 rfl wd_fl_X7_40 dX7_explainsAll_21 rfl ?_
          refine V_iload_n 0 25 rfl dX7_explainsAll_24 rfl rfl ?_
          obtain ⟨v10, h9, hf⟩ := ob hf
          refine V_iald 26 h9 dX7_explainsAll_25 rfl ?_
          refine V_iload_n 2 27 rfl dX7_explainsAll_26 rfl rfl ?_
          refine V_iand 28 dX7_explainsAll_27 rfl ?_
          refine V_if_ne 33 31 dX7_explainsAll_28 (by decide) rfl (fun c11 => ?_) (fun c11 => ?_)
          · rw [if_neg c11] at hf
            refine V_iinc (x3 + 1) 0 [(3, .int (x3 + 1)), (0, .ref t), (1, .int x1), (2, .int x2)] 36 dX7_explainsAll_33 rfl (by rw [kiconst_1]) (by decide) rfl rfl ?_
            refine V_goto 2 dX7_explainsAll_36 (by decide) ?_
            refine V_ls [(3, .int (x3 + 1)), (0, .ref t), (1, .int x1), (2, .int x2)] [0, 1, 2, 3] rfl ?_
            exact ih _ _ hf hk1 hk
          · rw [if_pos c11] at hf
            refine V_iconst 0 32 dX7_explainsAll_31 rfl kiconst_0 ?_
            have ep := Option.some.inj hf
            subst ep
            have er := hk1 _ rfl
            subst er
            exact V_zret (by decide) hQ rfl dX7_explainsAll_32
  by_cases hg : isO σ 6 t = true
  · rw [if_pos hg] at hf
    refine V_iconst 0 1 dX7_explainsAll_0 rfl kiconst_0 ?_
    refine V_istore_n [(3, .int 0), (0, .ref t), (1, .int a0), (2, .int a1)] 2 dX7_explainsAll_1 rfl (by decide) rfl rfl ?_
    obtain ⟨p12, h13, hf⟩ := ob hf
    refine V_ls [(3, .int 0), (0, .ref t), (1, .int a0), (2, .int a1)] [0, 1, 2, 3] rfl ?_
    refine L2 a0 a1 3000 0 p12 h13 (fun v hv => ?_) (fun p14 hq => ?_)
    · subst hv
      cases hf
      rfl
    subst hq
    simp only [Sum.elim_inr] at hf
    refine V_iconst 1 40 dX7_explainsAll_39 rfl kiconst_1 ?_
    have er := Option.some.inj hf
    subst er
    exact V_zret (by decide) hQ rfl dX7_explainsAll_40
  · rw [if_neg hg] at hf
    cases hf
abbrev mi_X7_hands : MI := (yX7_hands, cX7_hands, 5, some .int)
theorem ok_X7_hands : OkN mi_X7_hands 1 := ⟨wd_cd_X7_hands, wd_in_X7, ⟨by decide +kernel, by decide +kernel, by decide +kernel⟩, by decide⟩
theorem okv_X7_hands : Cond.instanceMethod (mi_X7_hands).1 ∈ tb ∧ Cond.selects (mi_X7_hands).1.cls (mi_X7_hands).1 (mi_X7_hands).1 ∈ tb := ⟨wd_im_X7_hands, wd_se_X7_hands⟩
def f_X7_hands_L27 (σ : St) (x2 : Int32) (t : Nat) : Nat → Int32 → Int32 → Option (Int32 × Int32)
  | 0, _, _ => none
  | n + 1, x4, x3 => if 256 ≤ x4 then (some (x4, x3)) else ((f_J6_bitCount_0f7a4 σ x4).bind fun v8 => (f_J6_bitCount_0f7a4 σ x3).bind fun v10 => if v10 ≤ v8 then (f_X7_hands_L27 σ x2 t n (x4 + 1) x3) else ((f_X7_explainsAll σ t x4 x2).bind fun v13 => f_X7_hands_L27 σ x2 t n (x4 + 1) (if v13 = 0 then x3 else x4 : Int32)))
def f_X7_hands (σ : St) (t : Nat) (a0 : Int32) : Option (Int32 × St) := if isO σ 6 t = true then ((f_X7_isFactor σ a0).bind fun v2 => if v2 = 0 then ((f_X7_fails σ t (-1000001)).bind fun p19 => some (p19.1, p19.2)) else ((f_X7_findShared σ t a0).bind fun p5 => (f_X7_hands_L27 p5.2 p5.1 t 3000 0 255).bind fun p16 => some (p16.2, p5.2))) else none
theorem gd_X7_hands {σ : St} {t : Nat} {a0 : Int32} {r : Int32 × St} (h : f_X7_hands σ t a0 = some r) : isO σ 6 t = true := by
  unfold f_X7_hands at h
  by_cases hg : isO σ 6 t = true
  · exact hg
  · rw [if_neg hg] at h
    cases h
set_option maxRecDepth 100000 in
set_option maxHeartbeats 4000000 in
theorem c_X7_hands (l : Launch) (G : Gd) (d : Nat) (σ : St) (t : Nat) (a0 : Int32) (r0 : Int32) (σ' : St) (hf : f_X7_hands σ t a0 = some (r0, σ')) : MetV l G (d + 7) mi_X7_hands [.ref t, .int a0] σ (some (.int r0)) σ' 0 0 := by
  unfold f_X7_hands at hf
  refine MetV.of [(0, .ref t), (1, .int a0)] (by decide +kernel) rfl (Nat.le_of_ble_eq_true rfl) ?_
  intro X hQ
  have L27 : ∀ (σ : St) (x2 : Int32) (n : Nat) (x4 : Int32) (x3 : Int32) (p : Int32 × Int32), f_X7_hands_L27 σ x2 t n x4 x3 = some p → V mi_X7_hands l G (d + 7) 0 0 X 0 0 66 [(4, .int p.1), (3, .int p.2), (2, .int x2), (0, .ref t)] [] σ → V mi_X7_hands l G (d + 7) 0 0 X 0 0 27 [(4, .int x4), (3, .int x3), (2, .int x2), (0, .ref t)] [] σ := by
    intro σ x2 n
    induction n with
    | zero =>
      intro x4 x3 p hf
      exact absurd (show (none : Option _) = some p from hf) (by simp)
    | succ n ih =>
      intro x4 x3 p hf hk
      rw [f_X7_hands_L27] at hf
      refine V_iload 0 29 rfl dX7_hands_27 rfl ?_
      refine V_sipush 256 32 dX7_hands_29 rfl ksipush_256 ?_
      refine V_icmp_ge 66 35 dX7_hands_32 (by decide) rfl (fun c6 => ?_) (fun c6 => ?_)
      · rw [if_pos c6] at hf
        have ep := Option.some.inj hf
        subst ep
        refine V_ls [(4, .int x4), (3, .int x3), (2, .int x2), (0, .ref t)] [0, 1, 2, 3] rfl ?_
        exact hk
      · rw [if_neg c6] at hf
        refine V_iload 0 37 rfl dX7_hands_35 rfl ?_
        obtain ⟨v8, h7, hf⟩ := ob hf
        refine V_callS (rest := []) 0 0 40 [.int v8] (c_J6_bitCount_0f7a4 l G (d + 5) _ _ _ h7) (by omega) ok_J6_bitCount_0f7a4 oks_J6_bitCount_0f7a4 wd_ml_X7_268 rfl rfl (Nat.le_of_ble_eq_true rfl) rfl rfl (Or.inl ⟨rfl, rfl⟩) dX7_hands_37 rfl rfl ?_
        refine V_iload_n 1 41 rfl dX7_hands_40 rfl rfl ?_
        obtain ⟨v10, h9, hf⟩ := ob hf
        refine V_callS (rest := [.int v8]) 0 0 44 [.int v10, .int v8] (c_J6_bitCount_0f7a4 l G (d + 5) _ _ _ h9) (by omega) ok_J6_bitCount_0f7a4 oks_J6_bitCount_0f7a4 wd_ml_X7_268 rfl rfl (Nat.le_of_ble_eq_true rfl) rfl rfl (Or.inl ⟨rfl, rfl⟩) dX7_hands_41 rfl rfl ?_
        refine V_icmp_ge 60 47 dX7_hands_44 (by decide) rfl (fun c11 => ?_) (fun c11 => ?_)
        · rw [if_pos c11] at hf
          refine V_iinc (x4 + 1) 0 [(4, .int (x4 + 1)), (3, .int x3), (2, .int x2), (0, .ref t)] 63 dX7_hands_60 rfl (by rw [kiconst_1]) (by decide) rfl rfl ?_
          refine V_goto 27 dX7_hands_63 (by decide) ?_
          refine V_ls [(4, .int (x4 + 1)), (3, .int x3), (2, .int x2), (0, .ref t)] [0, 1, 2, 3] rfl ?_
          exact ih _ _ _ hf hk
        · rw [if_neg c11] at hf
          refine V_aload_n 3 48 rfl dX7_hands_47 rfl rfl ?_
          refine V_iload 0 50 rfl dX7_hands_48 rfl ?_
          refine V_iload_n 2 51 rfl dX7_hands_50 rfl rfl ?_
          obtain ⟨v13, h12, hf⟩ := ob hf
          refine V_callV (rest := []) (T := TX7) (n := 10) (ci := 6) 0 0 54 [.int v13] (c_X7_explainsAll l G (d + 5) _ _ _ _ _ h12) (by omega) ok_X7_explainsAll okv_X7_explainsAll (gd_X7_explainsAll h12) rfl wd_ml_X7_273 rfl rfl (Nat.le_of_ble_eq_true rfl) rfl rfl (Or.inl ⟨rfl, rfl⟩) dX7_hands_51 rfl rfl ?_
          have kj14 : V mi_X7_hands l G (d + 7) 0 0 X 0 0 60 [(4, .int x4), (3, .int (if v13 = 0 then x3 else x4 : Int32)), (2, .int x2), (0, .ref t)] [] σ := by
            refine V_iinc (x4 + 1) 0 [(4, .int (x4 + 1)), (3, .int (if v13 = 0 then x3 else x4 : Int32)), (2, .int x2), (0, .ref t)] 63 dX7_hands_60 rfl (by rw [kiconst_1]) (by decide) rfl rfl ?_
            refine V_goto 27 dX7_hands_63 (by decide) ?_
            refine V_ls [(4, .int (x4 + 1)), (3, .int (if v13 = 0 then x3 else x4 : Int32)), (2, .int x2), (0, .ref t)] [0, 1, 2, 3] rfl ?_
            exact ih _ _ _ hf hk
          refine V_if_eq 60 57 dX7_hands_54 (by decide) rfl (fun c15 => ?_) (fun c15 => ?_)
          · refine V_ls [(4, .int x4), (3, .int x3), (2, .int x2), (0, .ref t)] [0, 1, 2, 3] rfl ?_
            simp only [if_pos c15] at kj14
            exact kj14
          · refine V_iload 0 59 rfl dX7_hands_57 rfl ?_
            refine V_istore_n [(3, .int x4), (4, .int x4), (2, .int x2), (0, .ref t)] 60 dX7_hands_59 rfl (by decide) rfl rfl ?_
            refine V_ls [(4, .int x4), (3, .int x4), (2, .int x2), (0, .ref t)] [1, 0, 2, 3] rfl ?_
            simp only [if_neg c15] at kj14
            exact kj14
  by_cases hg : isO σ 6 t = true
  · rw [if_pos hg] at hf
    refine V_iload_n 1 1 rfl dX7_hands_0 rfl rfl ?_
    obtain ⟨v2, h1, hf⟩ := ob hf
    refine V_callS (rest := []) 0 0 4 [.int v2] (c_X7_isFactor l G (d + 4) _ _ _ h1) (by omega) ok_X7_isFactor oks_X7_isFactor wd_ml_X7_149 rfl rfl (Nat.le_of_ble_eq_true rfl) rfl rfl (Or.inl ⟨rfl, rfl⟩) dX7_hands_1 rfl rfl ?_
    refine V_if_ne 14 7 dX7_hands_4 (by decide) rfl (fun c3 => ?_) (fun c3 => ?_)
    · rw [if_neg c3] at hf
      refine V_aload_n 0 15 rfl dX7_hands_14 rfl rfl ?_
      refine V_iload_n 1 16 rfl dX7_hands_15 rfl rfl ?_
      obtain ⟨p5, h4, hf⟩ := ob hf
      refine V_callV (rest := []) (T := TX7) (n := 10) (ci := 6) 0 0 19 [.int p5.1] (c_X7_findShared l G (d + 0) _ _ _ _ _ h4) (by omega) ok_X7_findShared okv_X7_findShared (gd_X7_findShared h4) rfl wd_ml_X7_265 rfl rfl (Nat.le_of_ble_eq_true rfl) rfl rfl (Or.inl ⟨rfl, rfl⟩) dX7_hands_16 rfl rfl ?_
      refine V_istore_n [(2, .int p5.1), (0, .ref t), (1, .int a0)] 20 dX7_hands_19 rfl (by decide) rfl rfl ?_
      refine V_sipush 255 23 dX7_hands_20 rfl ksipush_255 ?_
      refine V_istore_n [(3, .int 255), (2, .int p5.1), (0, .ref t), (1, .int a0)] 24 dX7_hands_23 rfl (by decide) rfl rfl ?_
      refine V_iconst 0 25 dX7_hands_24 rfl kiconst_0 ?_
      refine V_istore [(4, .int 0), (3, .int 255), (2, .int p5.1), (0, .ref t), (1, .int a0)] 27 dX7_hands_25 (by decide) rfl rfl ?_
      obtain ⟨p16, h17, hf⟩ := ob hf
      refine V_ls [(4, .int 0), (3, .int 255), (2, .int p5.1), (0, .ref t)] [0, 1, 2, 3] rfl ?_
      refine L27 p5.2 p5.1 3000 0 255 p16 h17 ?_
      refine V_iload_n 1 67 rfl dX7_hands_66 rfl rfl ?_
      have er := Option.some.inj hf
      obtain ⟨e1, e2⟩ := Prod.mk.inj er
      subst e1
      subst e2
      exact V_iret hQ rfl dX7_hands_67
    · rw [if_pos c3] at hf
      refine V_aload_n 0 8 rfl dX7_hands_7 rfl rfl ?_
      refine V_ldc (-1000001) 10 dX7_hands_8 rfl wd_kk_X7_67 ?_
      obtain ⟨p19, h18, hf⟩ := ob hf
      refine V_callV (rest := []) (T := TX7) (n := 10) (ci := 6) 0 0 13 [.int p19.1] (c_X7_fails l G (d + 4) _ _ _ _ _ h18) (by omega) ok_X7_fails okv_X7_fails (gd_X7_fails h18) rfl wd_ml_X7_68 rfl rfl (Nat.le_of_ble_eq_true rfl) rfl rfl (Or.inl ⟨rfl, rfl⟩) dX7_hands_10 rfl rfl ?_
      have er := Option.some.inj hf
      obtain ⟨e1, e2⟩ := Prod.mk.inj er
      subst e1
      subst e2
      exact V_iret hQ rfl dX7_hands_13
  · rw [if_neg hg] at hf
    cases hf
abbrev mi_X7_saw : MI := (yX7_saw, cX7_saw, 5, some .int)
theorem ok_X7_saw : OkN mi_X7_saw 2 := ⟨wd_cd_X7_saw, wd_in_X7, ⟨by decide +kernel, by decide +kernel, by decide +kernel⟩, by decide⟩
theorem okv_X7_saw : Cond.instanceMethod (mi_X7_saw).1 ∈ tb ∧ Cond.selects (mi_X7_saw).1.cls (mi_X7_saw).1 (mi_X7_saw).1 ∈ tb := ⟨wd_im_X7_saw, wd_se_X7_saw⟩
def f_X7_saw_L33 (σ : St) (t : Nat) (x1 : Int32) (x2 : Int32) : Nat → Int32 → Int32 → Option (Int32 × Int32)
  | 0, _, _ => none
  | n + 1, x4, x3 => (gQ σ 6 t 0).bind fun q10 => (gQ σ 3 q10 1).bind fun q12 => (gI σ 4 q12 3).bind fun v14 => if v14 ≤ x4 then (some (x4, x3)) else ((gQ σ 6 t 0).bind fun q17 => (gQ σ 3 q17 1).bind fun q19 => (f_X5_at σ q19 x4 0).bind fun v21 => if x2 < v21 then (f_X7_saw_L33 σ t x1 x2 n (x4 + 1) x3) else ((gQ σ 6 t 0).bind fun q24 => (gQ σ 3 q24 1).bind fun q26 => (f_X5_at σ q26 x4 1).bind fun v28 => f_X7_saw_L33 σ t x1 x2 n (x4 + 1) (if ((v28 >>> (x1 &&& 31)) &&& 1) = 1 then (x3 ||| ((1 : Int32) <<< (x4 &&& 31))) else x3 : Int32)))
def f_X7_saw (σ : St) (t : Nat) (a0 : Int32) (a1 : Int32) : Option (Int32 × St) := if isO σ 6 t = true then ((f_X7_outside σ a0 0 7).bind fun v2 => if v2 = 0 then ((f_X7_outside σ a1 0 999).bind fun v7 => if v7 = 0 then ((f_X7_saw_L33 σ t a0 a1 3000 0 0).bind fun p31 => some (p31.2, σ)) else ((f_X7_fails σ t (-1000001)).bind fun p34 => some (p34.1, p34.2))) else ((f_X7_fails σ t (-1000001)).bind fun p5 => some (p5.1, p5.2))) else none
theorem gd_X7_saw {σ : St} {t : Nat} {a0 : Int32} {a1 : Int32} {r : Int32 × St} (h : f_X7_saw σ t a0 a1 = some r) : isO σ 6 t = true := by
  unfold f_X7_saw at h
  by_cases hg : isO σ 6 t = true
  · exact hg
  · rw [if_neg hg] at h
    cases h
set_option maxRecDepth 100000 in
set_option maxHeartbeats 4000000 in
theorem c_X7_saw (l : Launch) (G : Gd) (d : Nat) (σ : St) (t : Nat) (a0 : Int32) (a1 : Int32) (r0 : Int32) (σ' : St) (hf : f_X7_saw σ t a0 a1 = some (r0, σ')) : MetV l G (d + 3) mi_X7_saw [.ref t, .int a0, .int a1] σ (some (.int r0)) σ' 0 0 := by
  unfold f_X7_saw at hf
  refine MetV.of [(0, .ref t), (1, .int a0), (2, .int a1)] (by decide +kernel) rfl (Nat.le_of_ble_eq_true rfl) ?_
  intro X hQ
  have L33 : ∀ (σ : St) (x1 : Int32) (x2 : Int32) (n : Nat) (x4 : Int32) (x3 : Int32) (p : Int32 × Int32), f_X7_saw_L33 σ t x1 x2 n x4 x3 = some p → V mi_X7_saw l G (d + 3) 0 0 X 0 0 99 [(4, .int p.1), (3, .int p.2), (0, .ref t), (1, .int x1), (2, .int x2)] [] σ → V mi_X7_saw l G (d + 3) 0 0 X 0 0 33 [(4, .int x4), (3, .int x3), (0, .ref t), (1, .int x1), (2, .int x2)] [] σ := by
    intro σ x1 x2 n
    induction n with
    | zero =>
      intro x4 x3 p hf
      exact absurd (show (none : Option _) = some p from hf) (by simp)
    | succ n ih =>
      intro x4 x3 p hf hk
      rw [f_X7_saw_L33] at hf
      refine V_iload 0 35 rfl dX7_saw_33 rfl ?_
      refine V_aload_n 2 36 rfl dX7_saw_35 rfl rfl ?_
      obtain ⟨q10, h9, hf⟩ := ob hf
      refine V_getQ (n := 10) (ty := tyX7) 39 h9 cf_6 rfl wd_fl_X7_12 dX7_saw_36 rfl ?_
      obtain ⟨q12, h11, hf⟩ := ob hf
      refine V_getQ (n := 11) (ty := tyX4) 42 h11 cf_3 rfl wd_fl_X7_89 dX7_saw_39 rfl ?_
      obtain ⟨v14, h13, hf⟩ := ob hf
      refine V_getI (n := 4) (ty := tyX5) 45 h13 cf_4 rfl wd_fl_X7_229 dX7_saw_42 rfl ?_
      refine V_icmp_ge 99 48 dX7_saw_45 (by decide) rfl (fun c15 => ?_) (fun c15 => ?_)
      · rw [if_pos c15] at hf
        have ep := Option.some.inj hf
        subst ep
        refine V_ls [(4, .int x4), (3, .int x3), (0, .ref t), (1, .int x1), (2, .int x2)] [0, 1, 2, 3, 4] rfl ?_
        exact hk
      · rw [if_neg c15] at hf
        refine V_aload_n 2 49 rfl dX7_saw_48 rfl rfl ?_
        obtain ⟨q17, h16, hf⟩ := ob hf
        refine V_getQ (n := 10) (ty := tyX7) 52 h16 cf_6 rfl wd_fl_X7_12 dX7_saw_49 rfl ?_
        obtain ⟨q19, h18, hf⟩ := ob hf
        refine V_getQ (n := 11) (ty := tyX4) 55 h18 cf_3 rfl wd_fl_X7_89 dX7_saw_52 rfl ?_
        refine V_iload 0 57 rfl dX7_saw_55 rfl ?_
        refine V_iconst 0 58 dX7_saw_57 rfl kiconst_0 ?_
        obtain ⟨v21, h20, hf⟩ := ob hf
        refine V_callV (rest := []) (T := TX5) (n := 4) (ci := 4) 0 0 61 [.int v21] (c_X5_at l G (d + 1) _ _ _ _ _ h20) (by omega) ok_X5_at okv_X5_at (gd_X5_at h20) rfl wd_ml_X7_76 rfl rfl (Nat.le_of_ble_eq_true rfl) rfl rfl (Or.inl ⟨rfl, rfl⟩) dX7_saw_58 rfl rfl ?_
        refine V_iload_n 4 62 rfl dX7_saw_61 rfl rfl ?_
        refine V_icmp_gt 93 65 dX7_saw_62 (by decide) rfl (fun c22 => ?_) (fun c22 => ?_)
        · rw [if_pos c22] at hf
          refine V_iinc (x4 + 1) 0 [(4, .int (x4 + 1)), (3, .int x3), (0, .ref t), (1, .int x1), (2, .int x2)] 96 dX7_saw_93 rfl (by rw [kiconst_1]) (by decide) rfl rfl ?_
          refine V_goto 33 dX7_saw_96 (by decide) ?_
          refine V_ls [(4, .int (x4 + 1)), (3, .int x3), (0, .ref t), (1, .int x1), (2, .int x2)] [0, 1, 2, 3, 4] rfl ?_
          exact ih _ _ _ hf hk
        · rw [if_neg c22] at hf
          refine V_aload_n 2 66 rfl dX7_saw_65 rfl rfl ?_
          obtain ⟨q24, h23, hf⟩ := ob hf
          refine V_getQ (n := 10) (ty := tyX7) 69 h23 cf_6 rfl wd_fl_X7_12 dX7_saw_66 rfl ?_
          obtain ⟨q26, h25, hf⟩ := ob hf
          refine V_getQ (n := 11) (ty := tyX4) 72 h25 cf_3 rfl wd_fl_X7_89 dX7_saw_69 rfl ?_
          refine V_iload 0 74 rfl dX7_saw_72 rfl ?_
          refine V_iconst 1 75 dX7_saw_74 rfl kiconst_1 ?_
          obtain ⟨v28, h27, hf⟩ := ob hf
          refine V_callV (rest := []) (T := TX5) (n := 4) (ci := 4) 0 0 78 [.int v28] (c_X5_at l G (d + 1) _ _ _ _ _ h27) (by omega) ok_X5_at okv_X5_at (gd_X5_at h27) rfl wd_ml_X7_76 rfl rfl (Nat.le_of_ble_eq_true rfl) rfl rfl (Or.inl ⟨rfl, rfl⟩) dX7_saw_75 rfl rfl ?_
          refine V_iload_n 3 79 rfl dX7_saw_78 rfl rfl ?_
          refine V_ishr 80 dX7_saw_79 rfl ?_
          refine V_iconst 1 81 dX7_saw_80 rfl kiconst_1 ?_
          refine V_iand 82 dX7_saw_81 rfl ?_
          refine V_iconst 1 83 dX7_saw_82 rfl kiconst_1 ?_
          have kj29 : V mi_X7_saw l G (d + 3) 0 0 X 0 0 93 [(4, .int x4), (3, .int (if ((v28 >>> (x1 &&& 31)) &&& 1) = 1 then (x3 ||| ((1 : Int32) <<< (x4 &&& 31))) else x3 : Int32)), (0, .ref t), (1, .int x1), (2, .int x2)] [] σ := by
            refine V_iinc (x4 + 1) 0 [(4, .int (x4 + 1)), (3, .int (if ((v28 >>> (x1 &&& 31)) &&& 1) = 1 then (x3 ||| ((1 : Int32) <<< (x4 &&& 31))) else x3 : Int32)), (0, .ref t), (1, .int x1), (2, .int x2)] 96 dX7_saw_93 rfl (by rw [kiconst_1]) (by decide) rfl rfl ?_
            refine V_goto 33 dX7_saw_96 (by decide) ?_
            refine V_ls [(4, .int (x4 + 1)), (3, .int (if ((v28 >>> (x1 &&& 31)) &&& 1) = 1 then (x3 ||| ((1 : Int32) <<< (x4 &&& 31))) else x3 : Int32)), (0, .ref t), (1, .int x1), (2, .int x2)] [0, 1, 2, 3, 4] rfl ?_
            exact ih _ _ _ hf hk
          refine V_icmp_ne 93 86 dX7_saw_83 (by decide) rfl (fun c30 => ?_) (fun c30 => ?_)
          · refine V_ls [(4, .int x4), (3, .int x3), (0, .ref t), (1, .int x1), (2, .int x2)] [0, 1, 2, 3, 4] rfl ?_
            simp only [if_neg c30] at kj29
            exact kj29
          · refine V_iload_n 1 87 rfl dX7_saw_86 rfl rfl ?_
            refine V_iconst 1 88 dX7_saw_87 rfl kiconst_1 ?_
            refine V_iload 0 90 rfl dX7_saw_88 rfl ?_
            refine V_ishl 91 dX7_saw_90 rfl ?_
            refine V_ior 92 dX7_saw_91 rfl ?_
            refine V_istore_n [(3, .int (x3 ||| ((1 : Int32) <<< (x4 &&& 31)))), (4, .int x4), (0, .ref t), (1, .int x1), (2, .int x2)] 93 dX7_saw_92 rfl (by decide) rfl rfl ?_
            refine V_ls [(4, .int x4), (3, .int (x3 ||| ((1 : Int32) <<< (x4 &&& 31)))), (0, .ref t), (1, .int x1), (2, .int x2)] [1, 0, 2, 3, 4] rfl ?_
            simp only [if_pos c30] at kj29
            exact kj29
  by_cases hg : isO σ 6 t = true
  · rw [if_pos hg] at hf
    refine V_iload_n 1 1 rfl dX7_saw_0 rfl rfl ?_
    refine V_iconst 0 2 dX7_saw_1 rfl kiconst_0 ?_
    refine V_bipush 7 4 dX7_saw_2 rfl kbipush_7 ?_
    obtain ⟨v2, h1, hf⟩ := ob hf
    refine V_callS (rest := []) 0 0 7 [.int v2] (c_X7_outside l G (d + 1) _ _ _ _ _ h1) (by omega) ok_X7_outside oks_X7_outside wd_ml_X7_57 rfl rfl (Nat.le_of_ble_eq_true rfl) rfl rfl (Or.inl ⟨rfl, rfl⟩) dX7_saw_4 rfl rfl ?_
    refine V_if_ne 21 10 dX7_saw_7 (by decide) rfl (fun c3 => ?_) (fun c3 => ?_)
    · rw [if_neg c3] at hf
      refine V_aload_n 0 22 rfl dX7_saw_21 rfl rfl ?_
      refine V_ldc (-1000001) 24 dX7_saw_22 rfl wd_kk_X7_67 ?_
      obtain ⟨p5, h4, hf⟩ := ob hf
      refine V_callV (rest := []) (T := TX7) (n := 10) (ci := 6) 0 0 27 [.int p5.1] (c_X7_fails l G (d + 0) _ _ _ _ _ h4) (by omega) ok_X7_fails okv_X7_fails (gd_X7_fails h4) rfl wd_ml_X7_68 rfl rfl (Nat.le_of_ble_eq_true rfl) rfl rfl (Or.inl ⟨rfl, rfl⟩) dX7_saw_24 rfl rfl ?_
      have er := Option.some.inj hf
      obtain ⟨e1, e2⟩ := Prod.mk.inj er
      subst e1
      subst e2
      exact V_iret hQ rfl dX7_saw_27
    · rw [if_pos c3] at hf
      refine V_iload_n 2 11 rfl dX7_saw_10 rfl rfl ?_
      refine V_iconst 0 12 dX7_saw_11 rfl kiconst_0 ?_
      refine V_sipush 999 15 dX7_saw_12 rfl ksipush_999 ?_
      obtain ⟨v7, h6, hf⟩ := ob hf
      refine V_callS (rest := []) 0 0 18 [.int v7] (c_X7_outside l G (d + 1) _ _ _ _ _ h6) (by omega) ok_X7_outside oks_X7_outside wd_ml_X7_57 rfl rfl (Nat.le_of_ble_eq_true rfl) rfl rfl (Or.inl ⟨rfl, rfl⟩) dX7_saw_15 rfl rfl ?_
      refine V_if_eq 28 21 dX7_saw_18 (by decide) rfl (fun c8 => ?_) (fun c8 => ?_)
      · rw [if_pos c8] at hf
        refine V_iconst 0 29 dX7_saw_28 rfl kiconst_0 ?_
        refine V_istore_n [(3, .int 0), (0, .ref t), (1, .int a0), (2, .int a1)] 30 dX7_saw_29 rfl (by decide) rfl rfl ?_
        refine V_iconst 0 31 dX7_saw_30 rfl kiconst_0 ?_
        refine V_istore [(4, .int 0), (3, .int 0), (0, .ref t), (1, .int a0), (2, .int a1)] 33 dX7_saw_31 (by decide) rfl rfl ?_
        obtain ⟨p31, h32, hf⟩ := ob hf
        refine V_ls [(4, .int 0), (3, .int 0), (0, .ref t), (1, .int a0), (2, .int a1)] [0, 1, 2, 3, 4] rfl ?_
        refine L33 σ a0 a1 3000 0 0 p31 h32 ?_
        refine V_iload_n 1 100 rfl dX7_saw_99 rfl rfl ?_
        have er := Option.some.inj hf
        obtain ⟨e1, e2⟩ := Prod.mk.inj er
        subst e1
        subst e2
        exact V_iret hQ rfl dX7_saw_100
      · rw [if_neg c8] at hf
        refine V_aload_n 0 22 rfl dX7_saw_21 rfl rfl ?_
        refine V_ldc (-1000001) 24 dX7_saw_22 rfl wd_kk_X7_67 ?_
        obtain ⟨p34, h33, hf⟩ := ob hf
        refine V_callV (rest := []) (T := TX7) (n := 10) (ci := 6) 0 0 27 [.int p34.1] (c_X7_fails l G (d + 0) _ _ _ _ _ h33) (by omega) ok_X7_fails okv_X7_fails (gd_X7_fails h33) rfl wd_ml_X7_68 rfl rfl (Nat.le_of_ble_eq_true rfl) rfl rfl (Or.inl ⟨rfl, rfl⟩) dX7_saw_24 rfl rfl ?_
        have er := Option.some.inj hf
        obtain ⟨e1, e2⟩ := Prod.mk.inj er
        subst e1
        subst e2
        exact V_iret hQ rfl dX7_saw_27
  · rw [if_neg hg] at hf
    cases hf
abbrev mi_X7_rests : MI := (yX7_rests, cX7_rests, 4, some .int)
theorem ok_X7_rests : OkN mi_X7_rests 2 := ⟨wd_cd_X7_rests, wd_in_X7, ⟨by decide +kernel, by decide +kernel, by decide +kernel⟩, by decide⟩
theorem okv_X7_rests : Cond.instanceMethod (mi_X7_rests).1 ∈ tb ∧ Cond.selects (mi_X7_rests).1.cls (mi_X7_rests).1 (mi_X7_rests).1 ∈ tb := ⟨wd_im_X7_rests, wd_se_X7_rests⟩
def f_X7_rests (σ : St) (t : Nat) (a0 : Int32) (a1 : Int32) : Option (Int32 × St) := if isO σ 6 t = true then ((gQ σ 6 t 0).bind fun q2 => (gQ σ 3 q2 1).bind fun q4 => (f_X5_has σ q4 a0).bind fun v6 => if v6 = 0 then ((f_X7_fails σ t (-1000001)).bind fun p9 => some (p9.1, p9.2)) else ((gQ σ 6 t 0).bind fun q11 => (gQ σ 3 q11 1).bind fun q13 => (f_X5_has σ q13 a1).bind fun v15 => if v15 = 0 then ((f_X7_fails σ t (-1000001)).bind fun p35 => some (p35.1, p35.2)) else (if a1 < a0 then ((gQ σ 6 t 0).bind fun q19 => (gQ σ 3 q19 1).bind fun q21 => (f_X5_at σ q21 a0 4).bind fun v23 => (gQ σ 6 t 0).bind fun q25 => (gQ σ 3 q25 1).bind fun q27 => (f_X5_set σ q27 a0 4 (v23 ||| ((1 : Int32) <<< (a1 &&& 31)))).bind fun s29 => some ((if ((v23 >>> (a1 &&& 31)) &&& 1) = 0 then 1 else 0 : Int32), s29)) else ((f_X7_fails σ t (-1000003)).bind fun p33 => some (p33.1, p33.2))))) else none
theorem gd_X7_rests {σ : St} {t : Nat} {a0 : Int32} {a1 : Int32} {r : Int32 × St} (h : f_X7_rests σ t a0 a1 = some r) : isO σ 6 t = true := by
  unfold f_X7_rests at h
  by_cases hg : isO σ 6 t = true
  · exact hg
  · rw [if_neg hg] at h
    cases h
set_option maxRecDepth 100000 in
set_option maxHeartbeats 4000000 in
theorem c_X7_rests (l : Launch) (G : Gd) (d : Nat) (σ : St) (t : Nat) (a0 : Int32) (a1 : Int32) (r0 : Int32) (σ' : St) (hf : f_X7_rests σ t a0 a1 = some (r0, σ')) : MetV l G (d + 3) mi_X7_rests [.ref t, .int a0, .int a1] σ (some (.int r0)) σ' 0 0 := by
  unfold f_X7_rests at hf
  refine MetV.of [(0, .ref t), (1, .int a0), (2, .int a1)] (by decide +kernel) rfl (Nat.le_of_ble_eq_true rfl) ?_
  intro X hQ
  by_cases hg : isO σ 6 t = true
  · rw [if_pos hg] at hf
    refine V_aload_n 0 1 rfl dX7_rests_0 rfl rfl ?_
    obtain ⟨q2, h1, hf⟩ := ob hf
    refine V_getQ (n := 10) (ty := tyX7) 4 h1 cf_6 rfl wd_fl_X7_12 dX7_rests_1 rfl ?_
    obtain ⟨q4, h3, hf⟩ := ob hf
    refine V_getQ (n := 11) (ty := tyX4) 7 h3 cf_3 rfl wd_fl_X7_89 dX7_rests_4 rfl ?_
    refine V_iload_n 1 8 rfl dX7_rests_7 rfl rfl ?_
    obtain ⟨v6, h5, hf⟩ := ob hf
    refine V_callV (rest := []) (T := TX5) (n := 4) (ci := 4) 0 0 11 [.int v6] (c_X5_has l G (d + 1) _ _ _ _ h5) (by omega) ok_X5_has okv_X5_has (gd_X5_has h5) rfl wd_ml_X7_101 rfl rfl (Nat.le_of_ble_eq_true rfl) rfl rfl (Or.inl ⟨rfl, rfl⟩) dX7_rests_8 rfl rfl ?_
    refine V_if_eq 28 14 dX7_rests_11 (by decide) rfl (fun c7 => ?_) (fun c7 => ?_)
    · rw [if_pos c7] at hf
      refine V_aload_n 0 29 rfl dX7_rests_28 rfl rfl ?_
      refine V_ldc (-1000001) 31 dX7_rests_29 rfl wd_kk_X7_67 ?_
      obtain ⟨p9, h8, hf⟩ := ob hf
      refine V_callV (rest := []) (T := TX7) (n := 10) (ci := 6) 0 0 34 [.int p9.1] (c_X7_fails l G (d + 0) _ _ _ _ _ h8) (by omega) ok_X7_fails okv_X7_fails (gd_X7_fails h8) rfl wd_ml_X7_68 rfl rfl (Nat.le_of_ble_eq_true rfl) rfl rfl (Or.inl ⟨rfl, rfl⟩) dX7_rests_31 rfl rfl ?_
      have er := Option.some.inj hf
      obtain ⟨e1, e2⟩ := Prod.mk.inj er
      subst e1
      subst e2
      exact V_iret hQ rfl dX7_rests_34
    · rw [if_neg c7] at hf
      refine V_aload_n 0 15 rfl dX7_rests_14 rfl rfl ?_
      obtain ⟨q11, h10, hf⟩ := ob hf
      refine V_getQ (n := 10) (ty := tyX7) 18 h10 cf_6 rfl wd_fl_X7_12 dX7_rests_15 rfl ?_
      obtain ⟨q13, h12, hf⟩ := ob hf
      refine V_getQ (n := 11) (ty := tyX4) 21 h12 cf_3 rfl wd_fl_X7_89 dX7_rests_18 rfl ?_
      refine V_iload_n 2 22 rfl dX7_rests_21 rfl rfl ?_
      obtain ⟨v15, h14, hf⟩ := ob hf
      refine V_callV (rest := []) (T := TX5) (n := 4) (ci := 4) 0 0 25 [.int v15] (c_X5_has l G (d + 1) _ _ _ _ h14) (by omega) ok_X5_has okv_X5_has (gd_X5_has h14) rfl wd_ml_X7_101 rfl rfl (Nat.le_of_ble_eq_true rfl) rfl rfl (Or.inl ⟨rfl, rfl⟩) dX7_rests_22 rfl rfl ?_
      refine V_if_ne 35 28 dX7_rests_25 (by decide) rfl (fun c16 => ?_) (fun c16 => ?_)
      · rw [if_neg c16] at hf
        refine V_iload_n 2 36 rfl dX7_rests_35 rfl rfl ?_
        refine V_iload_n 1 37 rfl dX7_rests_36 rfl rfl ?_
        refine V_icmp_lt 48 40 dX7_rests_37 (by decide) rfl (fun c17 => ?_) (fun c17 => ?_)
        · rw [if_pos c17] at hf
          refine V_aload_n 0 49 rfl dX7_rests_48 rfl rfl ?_
          obtain ⟨q19, h18, hf⟩ := ob hf
          refine V_getQ (n := 10) (ty := tyX7) 52 h18 cf_6 rfl wd_fl_X7_12 dX7_rests_49 rfl ?_
          obtain ⟨q21, h20, hf⟩ := ob hf
          refine V_getQ (n := 11) (ty := tyX4) 55 h20 cf_3 rfl wd_fl_X7_89 dX7_rests_52 rfl ?_
          refine V_iload_n 1 56 rfl dX7_rests_55 rfl rfl ?_
          refine V_iconst 4 57 dX7_rests_56 rfl kiconst_4 ?_
          obtain ⟨v23, h22, hf⟩ := ob hf
          refine V_callV (rest := []) (T := TX5) (n := 4) (ci := 4) 0 0 60 [.int v23] (c_X5_at l G (d + 1) _ _ _ _ _ h22) (by omega) ok_X5_at okv_X5_at (gd_X5_at h22) rfl wd_ml_X7_76 rfl rfl (Nat.le_of_ble_eq_true rfl) rfl rfl (Or.inl ⟨rfl, rfl⟩) dX7_rests_57 rfl rfl ?_
          refine V_istore_n [(3, .int v23), (0, .ref t), (1, .int a0), (2, .int a1)] 61 dX7_rests_60 rfl (by decide) rfl rfl ?_
          refine V_aload_n 1 62 rfl dX7_rests_61 rfl rfl ?_
          obtain ⟨q25, h24, hf⟩ := ob hf
          refine V_getQ (n := 10) (ty := tyX7) 65 h24 cf_6 rfl wd_fl_X7_12 dX7_rests_62 rfl ?_
          obtain ⟨q27, h26, hf⟩ := ob hf
          refine V_getQ (n := 11) (ty := tyX4) 68 h26 cf_3 rfl wd_fl_X7_89 dX7_rests_65 rfl ?_
          refine V_iload_n 2 69 rfl dX7_rests_68 rfl rfl ?_
          refine V_iconst 4 70 dX7_rests_69 rfl kiconst_4 ?_
          refine V_iload_n 0 71 rfl dX7_rests_70 rfl rfl ?_
          refine V_iconst 1 72 dX7_rests_71 rfl kiconst_1 ?_
          refine V_iload_n 3 73 rfl dX7_rests_72 rfl rfl ?_
          refine V_ishl 74 dX7_rests_73 rfl ?_
          refine V_ior 75 dX7_rests_74 rfl ?_
          obtain ⟨s29, h28, hf⟩ := ob hf
          refine V_callV (rest := []) (T := TX5) (n := 4) (ci := 4) 0 0 78 [] (c_X5_set l G (d + 1) _ _ _ _ _ _ h28) (by omega) ok_X5_set okv_X5_set (gd_X5_set h28) rfl wd_ml_X7_82 rfl rfl (Nat.le_of_ble_eq_true rfl) rfl rfl (Or.inl ⟨rfl, rfl⟩) dX7_rests_75 rfl rfl ?_
          refine V_iload_n 0 79 rfl dX7_rests_78 rfl rfl ?_
          refine V_iload_n 3 80 rfl dX7_rests_79 rfl rfl ?_
          refine V_ishr 81 dX7_rests_80 rfl ?_
          refine V_iconst 1 82 dX7_rests_81 rfl kiconst_1 ?_
          refine V_iand 83 dX7_rests_82 rfl ?_
          have kj30 : V mi_X7_rests l G (d + 3) 0 0 X 0 0 91 [(3, .int v23), (0, .ref t), (1, .int a0), (2, .int a1)] [.int (if ((v23 >>> (a1 &&& 31)) &&& 1) = 0 then 1 else 0 : Int32)] s29 := by
            have er := Option.some.inj hf
            obtain ⟨e1, e2⟩ := Prod.mk.inj er
            subst e1
            subst e2
            exact V_iret hQ rfl dX7_rests_91
          refine V_if_ne 90 86 dX7_rests_83 (by decide) rfl (fun c31 => ?_) (fun c31 => ?_)
          · refine V_iconst 0 91 dX7_rests_90 rfl kiconst_0 ?_
            refine V_ls [(3, .int v23), (0, .ref t), (1, .int a0), (2, .int a1)] [0, 1, 2, 3] rfl ?_
            simp only [if_neg c31] at kj30
            exact kj30
          · refine V_iconst 1 87 dX7_rests_86 rfl kiconst_1 ?_
            refine V_goto 91 dX7_rests_87 (by decide) ?_
            refine V_ls [(3, .int v23), (0, .ref t), (1, .int a0), (2, .int a1)] [0, 1, 2, 3] rfl ?_
            simp only [if_pos c31] at kj30
            exact kj30
        · rw [if_neg c17] at hf
          refine V_aload_n 0 41 rfl dX7_rests_40 rfl rfl ?_
          refine V_ldc_w (-1000003) 44 dX7_rests_41 rfl wd_kk_X7_276 ?_
          obtain ⟨p33, h32, hf⟩ := ob hf
          refine V_callV (rest := []) (T := TX7) (n := 10) (ci := 6) 0 0 47 [.int p33.1] (c_X7_fails l G (d + 0) _ _ _ _ _ h32) (by omega) ok_X7_fails okv_X7_fails (gd_X7_fails h32) rfl wd_ml_X7_68 rfl rfl (Nat.le_of_ble_eq_true rfl) rfl rfl (Or.inl ⟨rfl, rfl⟩) dX7_rests_44 rfl rfl ?_
          have er := Option.some.inj hf
          obtain ⟨e1, e2⟩ := Prod.mk.inj er
          subst e1
          subst e2
          exact V_iret hQ rfl dX7_rests_47
      · rw [if_pos c16] at hf
        refine V_aload_n 0 29 rfl dX7_rests_28 rfl rfl ?_
        refine V_ldc (-1000001) 31 dX7_rests_29 rfl wd_kk_X7_67 ?_
        obtain ⟨p35, h34, hf⟩ := ob hf
        refine V_callV (rest := []) (T := TX7) (n := 10) (ci := 6) 0 0 34 [.int p35.1] (c_X7_fails l G (d + 0) _ _ _ _ _ h34) (by omega) ok_X7_fails okv_X7_fails (gd_X7_fails h34) rfl wd_ml_X7_68 rfl rfl (Nat.le_of_ble_eq_true rfl) rfl rfl (Or.inl ⟨rfl, rfl⟩) dX7_rests_31 rfl rfl ?_
        have er := Option.some.inj hf
        obtain ⟨e1, e2⟩ := Prod.mk.inj er
        subst e1
        subst e2
        exact V_iret hQ rfl dX7_rests_34
  · rw [if_neg hg] at hf
    cases hf
abbrev mi_X7_needs : MI := (yX7_needs, cX7_needs, 4, some .int)
theorem ok_X7_needs : OkN mi_X7_needs 2 := ⟨wd_cd_X7_needs, wd_in_X7, ⟨by decide +kernel, by decide +kernel, by decide +kernel⟩, by decide⟩
theorem okv_X7_needs : Cond.instanceMethod (mi_X7_needs).1 ∈ tb ∧ Cond.selects (mi_X7_needs).1.cls (mi_X7_needs).1 (mi_X7_needs).1 ∈ tb := ⟨wd_im_X7_needs, wd_se_X7_needs⟩
def f_X7_needs (σ : St) (t : Nat) (a0 : Int32) (a1 : Int32) : Option (Int32 × St) := if isO σ 6 t = true then ((gQ σ 6 t 0).bind fun q2 => (gQ σ 3 q2 1).bind fun q4 => (f_X5_has σ q4 a0).bind fun v6 => if v6 = 0 then ((f_X7_fails σ t (-1000001)).bind fun p9 => some (p9.1, p9.2)) else ((f_X7_outside σ a1 0 11).bind fun v11 => if v11 = 0 then ((gQ σ 6 t 0).bind fun q14 => (gQ σ 3 q14 1).bind fun q16 => (f_X5_at σ q16 a0 3).bind fun v18 => (gQ σ 6 t 0).bind fun q20 => (gQ σ 3 q20 1).bind fun q22 => (f_X5_set σ q22 a0 3 a1).bind fun s24 => some (v18, s24)) else ((f_X7_fails σ t (-1000001)).bind fun p26 => some (p26.1, p26.2)))) else none
theorem gd_X7_needs {σ : St} {t : Nat} {a0 : Int32} {a1 : Int32} {r : Int32 × St} (h : f_X7_needs σ t a0 a1 = some r) : isO σ 6 t = true := by
  unfold f_X7_needs at h
  by_cases hg : isO σ 6 t = true
  · exact hg
  · rw [if_neg hg] at h
    cases h
set_option maxRecDepth 100000 in
set_option maxHeartbeats 4000000 in
theorem c_X7_needs (l : Launch) (G : Gd) (d : Nat) (σ : St) (t : Nat) (a0 : Int32) (a1 : Int32) (r0 : Int32) (σ' : St) (hf : f_X7_needs σ t a0 a1 = some (r0, σ')) : MetV l G (d + 3) mi_X7_needs [.ref t, .int a0, .int a1] σ (some (.int r0)) σ' 0 0 := by
  unfold f_X7_needs at hf
  refine MetV.of [(0, .ref t), (1, .int a0), (2, .int a1)] (by decide +kernel) rfl (Nat.le_of_ble_eq_true rfl) ?_
  intro X hQ
  by_cases hg : isO σ 6 t = true
  · rw [if_pos hg] at hf
    refine V_aload_n 0 1 rfl dX7_needs_0 rfl rfl ?_
    obtain ⟨q2, h1, hf⟩ := ob hf
    refine V_getQ (n := 10) (ty := tyX7) 4 h1 cf_6 rfl wd_fl_X7_12 dX7_needs_1 rfl ?_
    obtain ⟨q4, h3, hf⟩ := ob hf
    refine V_getQ (n := 11) (ty := tyX4) 7 h3 cf_3 rfl wd_fl_X7_89 dX7_needs_4 rfl ?_
    refine V_iload_n 1 8 rfl dX7_needs_7 rfl rfl ?_
    obtain ⟨v6, h5, hf⟩ := ob hf
    refine V_callV (rest := []) (T := TX5) (n := 4) (ci := 4) 0 0 11 [.int v6] (c_X5_has l G (d + 1) _ _ _ _ h5) (by omega) ok_X5_has okv_X5_has (gd_X5_has h5) rfl wd_ml_X7_101 rfl rfl (Nat.le_of_ble_eq_true rfl) rfl rfl (Or.inl ⟨rfl, rfl⟩) dX7_needs_8 rfl rfl ?_
    refine V_if_eq 24 14 dX7_needs_11 (by decide) rfl (fun c7 => ?_) (fun c7 => ?_)
    · rw [if_pos c7] at hf
      refine V_aload_n 0 25 rfl dX7_needs_24 rfl rfl ?_
      refine V_ldc (-1000001) 27 dX7_needs_25 rfl wd_kk_X7_67 ?_
      obtain ⟨p9, h8, hf⟩ := ob hf
      refine V_callV (rest := []) (T := TX7) (n := 10) (ci := 6) 0 0 30 [.int p9.1] (c_X7_fails l G (d + 0) _ _ _ _ _ h8) (by omega) ok_X7_fails okv_X7_fails (gd_X7_fails h8) rfl wd_ml_X7_68 rfl rfl (Nat.le_of_ble_eq_true rfl) rfl rfl (Or.inl ⟨rfl, rfl⟩) dX7_needs_27 rfl rfl ?_
      have er := Option.some.inj hf
      obtain ⟨e1, e2⟩ := Prod.mk.inj er
      subst e1
      subst e2
      exact V_iret hQ rfl dX7_needs_30
    · rw [if_neg c7] at hf
      refine V_iload_n 2 15 rfl dX7_needs_14 rfl rfl ?_
      refine V_iconst 0 16 dX7_needs_15 rfl kiconst_0 ?_
      refine V_bipush 11 18 dX7_needs_16 rfl kbipush_11 ?_
      obtain ⟨v11, h10, hf⟩ := ob hf
      refine V_callS (rest := []) 0 0 21 [.int v11] (c_X7_outside l G (d + 1) _ _ _ _ _ h10) (by omega) ok_X7_outside oks_X7_outside wd_ml_X7_57 rfl rfl (Nat.le_of_ble_eq_true rfl) rfl rfl (Or.inl ⟨rfl, rfl⟩) dX7_needs_18 rfl rfl ?_
      refine V_if_eq 31 24 dX7_needs_21 (by decide) rfl (fun c12 => ?_) (fun c12 => ?_)
      · rw [if_pos c12] at hf
        refine V_aload_n 0 32 rfl dX7_needs_31 rfl rfl ?_
        obtain ⟨q14, h13, hf⟩ := ob hf
        refine V_getQ (n := 10) (ty := tyX7) 35 h13 cf_6 rfl wd_fl_X7_12 dX7_needs_32 rfl ?_
        obtain ⟨q16, h15, hf⟩ := ob hf
        refine V_getQ (n := 11) (ty := tyX4) 38 h15 cf_3 rfl wd_fl_X7_89 dX7_needs_35 rfl ?_
        refine V_iload_n 1 39 rfl dX7_needs_38 rfl rfl ?_
        refine V_iconst 3 40 dX7_needs_39 rfl kiconst_3 ?_
        obtain ⟨v18, h17, hf⟩ := ob hf
        refine V_callV (rest := []) (T := TX5) (n := 4) (ci := 4) 0 0 43 [.int v18] (c_X5_at l G (d + 1) _ _ _ _ _ h17) (by omega) ok_X5_at okv_X5_at (gd_X5_at h17) rfl wd_ml_X7_76 rfl rfl (Nat.le_of_ble_eq_true rfl) rfl rfl (Or.inl ⟨rfl, rfl⟩) dX7_needs_40 rfl rfl ?_
        refine V_istore_n [(3, .int v18), (0, .ref t), (1, .int a0), (2, .int a1)] 44 dX7_needs_43 rfl (by decide) rfl rfl ?_
        refine V_aload_n 1 45 rfl dX7_needs_44 rfl rfl ?_
        obtain ⟨q20, h19, hf⟩ := ob hf
        refine V_getQ (n := 10) (ty := tyX7) 48 h19 cf_6 rfl wd_fl_X7_12 dX7_needs_45 rfl ?_
        obtain ⟨q22, h21, hf⟩ := ob hf
        refine V_getQ (n := 11) (ty := tyX4) 51 h21 cf_3 rfl wd_fl_X7_89 dX7_needs_48 rfl ?_
        refine V_iload_n 2 52 rfl dX7_needs_51 rfl rfl ?_
        refine V_iconst 3 53 dX7_needs_52 rfl kiconst_3 ?_
        refine V_iload_n 3 54 rfl dX7_needs_53 rfl rfl ?_
        obtain ⟨s24, h23, hf⟩ := ob hf
        refine V_callV (rest := []) (T := TX5) (n := 4) (ci := 4) 0 0 57 [] (c_X5_set l G (d + 1) _ _ _ _ _ _ h23) (by omega) ok_X5_set okv_X5_set (gd_X5_set h23) rfl wd_ml_X7_82 rfl rfl (Nat.le_of_ble_eq_true rfl) rfl rfl (Or.inl ⟨rfl, rfl⟩) dX7_needs_54 rfl rfl ?_
        refine V_iload_n 0 58 rfl dX7_needs_57 rfl rfl ?_
        have er := Option.some.inj hf
        obtain ⟨e1, e2⟩ := Prod.mk.inj er
        subst e1
        subst e2
        exact V_iret hQ rfl dX7_needs_58
      · rw [if_neg c12] at hf
        refine V_aload_n 0 25 rfl dX7_needs_24 rfl rfl ?_
        refine V_ldc (-1000001) 27 dX7_needs_25 rfl wd_kk_X7_67 ?_
        obtain ⟨p26, h25, hf⟩ := ob hf
        refine V_callV (rest := []) (T := TX7) (n := 10) (ci := 6) 0 0 30 [.int p26.1] (c_X7_fails l G (d + 0) _ _ _ _ _ h25) (by omega) ok_X7_fails okv_X7_fails (gd_X7_fails h25) rfl wd_ml_X7_68 rfl rfl (Nat.le_of_ble_eq_true rfl) rfl rfl (Or.inl ⟨rfl, rfl⟩) dX7_needs_27 rfl rfl ?_
        have er := Option.some.inj hf
        obtain ⟨e1, e2⟩ := Prod.mk.inj er
        subst e1
        subst e2
        exact V_iret hQ rfl dX7_needs_30
  · rw [if_neg hg] at hf
    cases hf
abbrev mi_X7_areAmong : MI := (yX7_areAmong, cX7_areAmong, 2, some .boolean)
theorem ok_X7_areAmong : OkN mi_X7_areAmong 2 := ⟨wd_cd_X7_areAmong, wd_in_X7, ⟨by decide +kernel, by decide +kernel, by decide +kernel⟩, by decide⟩
theorem oks_X7_areAmong : Cond.static (mi_X7_areAmong).1 ∈ tb := wd_sm_X7_areAmong
def f_X7_areAmong (σ : St) (a0 : Int32) (a1 : Int32) : Option Int32 := (zr (if (a0 &&& ((((1 : Int32) <<< (a1 &&& 31)) - 1) ^^^ (-1))) = 0 then 1 else 0 : Int32)).bind fun z1 => some (if (a0 &&& ((((1 : Int32) <<< (a1 &&& 31)) - 1) ^^^ (-1))) = 0 then 1 else 0 : Int32)
set_option maxRecDepth 100000 in
set_option maxHeartbeats 4000000 in
theorem c_X7_areAmong (l : Launch) (G : Gd) (d : Nat) (σ : St) (a0 : Int32) (a1 : Int32) (r0 : Int32) (hf : f_X7_areAmong σ a0 a1 = some r0) : MetV l G (d + 1) mi_X7_areAmong [.int a0, .int a1] σ (some (.int r0)) σ 0 0 := by
  unfold f_X7_areAmong at hf
  refine MetV.of [(0, .int a0), (1, .int a1)] (by decide +kernel) rfl (Nat.le_of_ble_eq_true rfl) ?_
  intro X hQ
  refine V_iload_n 0 1 rfl dX7_areAmong_0 rfl rfl ?_
  refine V_iconst 1 2 dX7_areAmong_1 rfl kiconst_1 ?_
  refine V_iload_n 1 3 rfl dX7_areAmong_2 rfl rfl ?_
  refine V_ishl 4 dX7_areAmong_3 rfl ?_
  refine V_iconst 1 5 dX7_areAmong_4 rfl kiconst_1 ?_
  refine V_isub 6 dX7_areAmong_5 rfl ?_
  refine V_iconst (-1) 7 dX7_areAmong_6 rfl kiconst_m1 ?_
  refine V_ixor 8 dX7_areAmong_7 rfl ?_
  refine V_iand 9 dX7_areAmong_8 rfl ?_
  have kj3 : V mi_X7_areAmong l G (d + 1) 0 0 X 0 0 17 [(0, .int a0), (1, .int a1)] [.int (if (a0 &&& ((((1 : Int32) <<< (a1 &&& 31)) - 1) ^^^ (-1))) = 0 then 1 else 0 : Int32)] σ := by
    obtain ⟨z1, h2, hf⟩ := ob hf
    have er := Option.some.inj hf
    subst er
    exact V_zret (zr_ok h2) hQ rfl dX7_areAmong_17
  refine V_if_ne 16 12 dX7_areAmong_9 (by decide) rfl (fun c4 => ?_) (fun c4 => ?_)
  · refine V_iconst 0 17 dX7_areAmong_16 rfl kiconst_0 ?_
    refine V_ls [(0, .int a0), (1, .int a1)] [0, 1] rfl ?_
    simp only [if_neg c4] at kj3
    exact kj3
  · refine V_iconst 1 13 dX7_areAmong_12 rfl kiconst_1 ?_
    refine V_goto 17 dX7_areAmong_13 (by decide) ?_
    refine V_ls [(0, .int a0), (1, .int a1)] [0, 1] rfl ?_
    simp only [if_pos c4] at kj3
    exact kj3
abbrev mi_X7_fall : MI := (yX7_fall, cX7_fall, 5, some .int)
theorem ok_X7_fall : OkN mi_X7_fall 1 := ⟨wd_cd_X7_fall, wd_in_X7, ⟨by decide +kernel, by decide +kernel, by decide +kernel⟩, by decide⟩
theorem okv_X7_fall : Cond.instanceMethod (mi_X7_fall).1 ∈ tb ∧ Cond.selects (mi_X7_fall).1.cls (mi_X7_fall).1 (mi_X7_fall).1 ∈ tb := ⟨wd_im_X7_fall, wd_se_X7_fall⟩
def f_X7_fall_L28 (σ : St) (t : Nat) (x1 : Int32) : Nat → Int32 → Int32 → Option (Int32 × Int32)
  | 0, _, _ => none
  | n + 1, x3, x2 => (gQ σ 6 t 0).bind fun q11 => (gQ σ 3 q11 1).bind fun q13 => (gI σ 4 q13 3).bind fun v15 => if v15 ≤ x3 then (some (x3, x2)) else ((gQ σ 6 t 0).bind fun q18 => (gQ σ 3 q18 1).bind fun q20 => (f_X5_at σ q20 x3 4).bind fun v22 => (f_J6_bitCount_0f7a4 σ (v22 &&& x2)).bind fun v24 => if ((x1 >>> (x3 &&& 31)) &&& 1) = 0 then ((gQ σ 6 t 0).bind fun q27 => (gQ σ 3 q27 1).bind fun q29 => (f_X5_at σ q29 x3 3).bind fun v31 => f_X7_fall_L28 σ t x1 n (x3 + 1) (if v24 < v31 then x2 else (x2 ||| ((1 : Int32) <<< (x3 &&& 31))) : Int32)) else (f_X7_fall_L28 σ t x1 n (x3 + 1) x2))
def f_X7_fall (σ : St) (t : Nat) (a0 : Int32) : Option (Int32 × St) := if isO σ 6 t = true then ((gQ σ 6 t 0).bind fun q2 => (gQ σ 3 q2 1).bind fun q4 => (gI σ 4 q4 3).bind fun v6 => (f_X7_areAmong σ a0 v6).bind fun v8 => if v8 = 0 then ((f_X7_fails σ t (-1000001)).bind fun p43 => some (p43.1, p43.2)) else ((f_X7_fall_L28 σ t a0 3000 0 0).bind fun p34 => (gQ σ 6 t 0).bind fun q37 => (gQ σ 3 q37 1).bind fun q39 => (gI σ 4 q39 3).bind fun v41 => some ((p34.2 ^^^ (-1)) &&& (((1 : Int32) <<< (v41 &&& 31)) - 1), σ))) else none
theorem gd_X7_fall {σ : St} {t : Nat} {a0 : Int32} {r : Int32 × St} (h : f_X7_fall σ t a0 = some r) : isO σ 6 t = true := by
  unfold f_X7_fall at h
  by_cases hg : isO σ 6 t = true
  · exact hg
  · rw [if_neg hg] at h
    cases h
set_option maxRecDepth 100000 in
set_option maxHeartbeats 4000000 in
theorem c_X7_fall (l : Launch) (G : Gd) (d : Nat) (σ : St) (t : Nat) (a0 : Int32) (r0 : Int32) (σ' : St) (hf : f_X7_fall σ t a0 = some (r0, σ')) : MetV l G (d + 3) mi_X7_fall [.ref t, .int a0] σ (some (.int r0)) σ' 0 0 := by
  unfold f_X7_fall at hf
  refine MetV.of [(0, .ref t), (1, .int a0)] (by decide +kernel) rfl (Nat.le_of_ble_eq_true rfl) ?_
  intro X hQ
  have L28 : ∀ (σ : St) (x1 : Int32) (n : Nat) (x3 : Int32) (x2 : Int32) (p : Int32 × Int32), f_X7_fall_L28 σ t x1 n x3 x2 = some p → V mi_X7_fall l G (d + 3) 0 0 X 0 0 98 [(3, .int p.1), (2, .int p.2), (0, .ref t), (1, .int x1)] [] σ → V mi_X7_fall l G (d + 3) 0 0 X 0 0 28 [(3, .int x3), (2, .int x2), (0, .ref t), (1, .int x1)] [] σ := by
    intro σ x1 n
    induction n with
    | zero =>
      intro x3 x2 p hf
      exact absurd (show (none : Option _) = some p from hf) (by simp)
    | succ n ih =>
      intro x3 x2 p hf hk
      rw [f_X7_fall_L28] at hf
      refine V_iload_n 0 29 rfl dX7_fall_28 rfl rfl ?_
      refine V_aload_n 2 30 rfl dX7_fall_29 rfl rfl ?_
      obtain ⟨q11, h10, hf⟩ := ob hf
      refine V_getQ (n := 10) (ty := tyX7) 33 h10 cf_6 rfl wd_fl_X7_12 dX7_fall_30 rfl ?_
      obtain ⟨q13, h12, hf⟩ := ob hf
      refine V_getQ (n := 11) (ty := tyX4) 36 h12 cf_3 rfl wd_fl_X7_89 dX7_fall_33 rfl ?_
      obtain ⟨v15, h14, hf⟩ := ob hf
      refine V_getI (n := 4) (ty := tyX5) 39 h14 cf_4 rfl wd_fl_X7_229 dX7_fall_36 rfl ?_
      refine V_icmp_ge 98 42 dX7_fall_39 (by decide) rfl (fun c16 => ?_) (fun c16 => ?_)
      · rw [if_pos c16] at hf
        have ep := Option.some.inj hf
        subst ep
        refine V_ls [(3, .int x3), (2, .int x2), (0, .ref t), (1, .int x1)] [0, 1, 2, 3] rfl ?_
        exact hk
      · rw [if_neg c16] at hf
        refine V_aload_n 2 43 rfl dX7_fall_42 rfl rfl ?_
        obtain ⟨q18, h17, hf⟩ := ob hf
        refine V_getQ (n := 10) (ty := tyX7) 46 h17 cf_6 rfl wd_fl_X7_12 dX7_fall_43 rfl ?_
        obtain ⟨q20, h19, hf⟩ := ob hf
        refine V_getQ (n := 11) (ty := tyX4) 49 h19 cf_3 rfl wd_fl_X7_89 dX7_fall_46 rfl ?_
        refine V_iload_n 0 50 rfl dX7_fall_49 rfl rfl ?_
        refine V_iconst 4 51 dX7_fall_50 rfl kiconst_4 ?_
        obtain ⟨v22, h21, hf⟩ := ob hf
        refine V_callV (rest := []) (T := TX5) (n := 4) (ci := 4) 0 0 54 [.int v22] (c_X5_at l G (d + 1) _ _ _ _ _ h21) (by omega) ok_X5_at okv_X5_at (gd_X5_at h21) rfl wd_ml_X7_76 rfl rfl (Nat.le_of_ble_eq_true rfl) rfl rfl (Or.inl ⟨rfl, rfl⟩) dX7_fall_51 rfl rfl ?_
        refine V_iload_n 1 55 rfl dX7_fall_54 rfl rfl ?_
        refine V_iand 56 dX7_fall_55 rfl ?_
        obtain ⟨v24, h23, hf⟩ := ob hf
        refine V_callS (rest := []) 0 0 59 [.int v24] (c_J6_bitCount_0f7a4 l G (d + 1) _ _ _ h23) (by omega) ok_J6_bitCount_0f7a4 oks_J6_bitCount_0f7a4 wd_ml_X7_268 rfl rfl (Nat.le_of_ble_eq_true rfl) rfl rfl (Or.inl ⟨rfl, rfl⟩) dX7_fall_56 rfl rfl ?_
        refine V_istore [(4, .int v24), (3, .int x3), (2, .int x2), (0, .ref t), (1, .int x1)] 61 dX7_fall_59 (by decide) rfl rfl ?_
        refine V_iload_n 4 62 rfl dX7_fall_61 rfl rfl ?_
        refine V_iload_n 1 63 rfl dX7_fall_62 rfl rfl ?_
        refine V_ishr 64 dX7_fall_63 rfl ?_
        refine V_iconst 1 65 dX7_fall_64 rfl kiconst_1 ?_
        refine V_iand 66 dX7_fall_65 rfl ?_
        refine V_if_ne 92 69 dX7_fall_66 (by decide) rfl (fun c25 => ?_) (fun c25 => ?_)
        · rw [if_neg c25] at hf
          refine V_iinc (x3 + 1) 1 [(3, .int (x3 + 1)), (4, .int v24), (2, .int x2), (0, .ref t), (1, .int x1)] 95 dX7_fall_92 rfl (by rw [kiconst_1]) (by decide) rfl rfl ?_
          refine V_goto 28 dX7_fall_95 (by decide) ?_
          refine V_ls [(3, .int (x3 + 1)), (2, .int x2), (0, .ref t), (1, .int x1)] [0, 2, 3, 4] rfl ?_
          exact ih _ _ _ hf hk
        · rw [if_pos c25] at hf
          refine V_iload 0 71 rfl dX7_fall_69 rfl ?_
          refine V_aload_n 3 72 rfl dX7_fall_71 rfl rfl ?_
          obtain ⟨q27, h26, hf⟩ := ob hf
          refine V_getQ (n := 10) (ty := tyX7) 75 h26 cf_6 rfl wd_fl_X7_12 dX7_fall_72 rfl ?_
          obtain ⟨q29, h28, hf⟩ := ob hf
          refine V_getQ (n := 11) (ty := tyX4) 78 h28 cf_3 rfl wd_fl_X7_89 dX7_fall_75 rfl ?_
          refine V_iload_n 1 79 rfl dX7_fall_78 rfl rfl ?_
          refine V_iconst 3 80 dX7_fall_79 rfl kiconst_3 ?_
          obtain ⟨v31, h30, hf⟩ := ob hf
          refine V_callV (rest := [.int v24]) (T := TX5) (n := 4) (ci := 4) 0 0 83 [.int v31, .int v24] (c_X5_at l G (d + 1) _ _ _ _ _ h30) (by omega) ok_X5_at okv_X5_at (gd_X5_at h30) rfl wd_ml_X7_76 rfl rfl (Nat.le_of_ble_eq_true rfl) rfl rfl (Or.inl ⟨rfl, rfl⟩) dX7_fall_80 rfl rfl ?_
          have kj32 : V mi_X7_fall l G (d + 3) 0 0 X 0 0 92 [(4, .int v24), (3, .int x3), (2, .int (if v24 < v31 then x2 else (x2 ||| ((1 : Int32) <<< (x3 &&& 31))) : Int32)), (0, .ref t), (1, .int x1)] [] σ := by
            refine V_iinc (x3 + 1) 1 [(3, .int (x3 + 1)), (4, .int v24), (2, .int (if v24 < v31 then x2 else (x2 ||| ((1 : Int32) <<< (x3 &&& 31))) : Int32)), (0, .ref t), (1, .int x1)] 95 dX7_fall_92 rfl (by rw [kiconst_1]) (by decide) rfl rfl ?_
            refine V_goto 28 dX7_fall_95 (by decide) ?_
            refine V_ls [(3, .int (x3 + 1)), (2, .int (if v24 < v31 then x2 else (x2 ||| ((1 : Int32) <<< (x3 &&& 31))) : Int32)), (0, .ref t), (1, .int x1)] [0, 2, 3, 4] rfl ?_
            exact ih _ _ _ hf hk
          refine V_icmp_lt 92 86 dX7_fall_83 (by decide) rfl (fun c33 => ?_) (fun c33 => ?_)
          · refine V_ls [(4, .int v24), (3, .int x3), (2, .int x2), (0, .ref t), (1, .int x1)] [0, 1, 2, 3, 4] rfl ?_
            simp only [if_pos c33] at kj32
            exact kj32
          · refine V_iload_n 2 87 rfl dX7_fall_86 rfl rfl ?_
            refine V_iconst 1 88 dX7_fall_87 rfl kiconst_1 ?_
            refine V_iload_n 1 89 rfl dX7_fall_88 rfl rfl ?_
            refine V_ishl 90 dX7_fall_89 rfl ?_
            refine V_ior 91 dX7_fall_90 rfl ?_
            refine V_istore_n [(2, .int (x2 ||| ((1 : Int32) <<< (x3 &&& 31)))), (4, .int v24), (3, .int x3), (0, .ref t), (1, .int x1)] 92 dX7_fall_91 rfl (by decide) rfl rfl ?_
            refine V_ls [(4, .int v24), (3, .int x3), (2, .int (x2 ||| ((1 : Int32) <<< (x3 &&& 31)))), (0, .ref t), (1, .int x1)] [1, 2, 0, 3, 4] rfl ?_
            simp only [if_neg c33] at kj32
            exact kj32
  by_cases hg : isO σ 6 t = true
  · rw [if_pos hg] at hf
    refine V_iload_n 1 1 rfl dX7_fall_0 rfl rfl ?_
    refine V_aload_n 0 2 rfl dX7_fall_1 rfl rfl ?_
    obtain ⟨q2, h1, hf⟩ := ob hf
    refine V_getQ (n := 10) (ty := tyX7) 5 h1 cf_6 rfl wd_fl_X7_12 dX7_fall_2 rfl ?_
    obtain ⟨q4, h3, hf⟩ := ob hf
    refine V_getQ (n := 11) (ty := tyX4) 8 h3 cf_3 rfl wd_fl_X7_89 dX7_fall_5 rfl ?_
    obtain ⟨v6, h5, hf⟩ := ob hf
    refine V_getI (n := 4) (ty := tyX5) 11 h5 cf_4 rfl wd_fl_X7_229 dX7_fall_8 rfl ?_
    obtain ⟨v8, h7, hf⟩ := ob hf
    refine V_callS (rest := []) 0 0 14 [.int v8] (c_X7_areAmong l G (d + 1) _ _ _ _ h7) (by omega) ok_X7_areAmong oks_X7_areAmong wd_ml_X7_277 rfl rfl (Nat.le_of_ble_eq_true rfl) rfl rfl (Or.inl ⟨rfl, rfl⟩) dX7_fall_11 rfl rfl ?_
    refine V_if_ne 24 17 dX7_fall_14 (by decide) rfl (fun c9 => ?_) (fun c9 => ?_)
    · rw [if_neg c9] at hf
      refine V_iconst 0 25 dX7_fall_24 rfl kiconst_0 ?_
      refine V_istore_n [(2, .int 0), (0, .ref t), (1, .int a0)] 26 dX7_fall_25 rfl (by decide) rfl rfl ?_
      refine V_iconst 0 27 dX7_fall_26 rfl kiconst_0 ?_
      refine V_istore_n [(3, .int 0), (2, .int 0), (0, .ref t), (1, .int a0)] 28 dX7_fall_27 rfl (by decide) rfl rfl ?_
      obtain ⟨p34, h35, hf⟩ := ob hf
      refine V_ls [(3, .int 0), (2, .int 0), (0, .ref t), (1, .int a0)] [0, 1, 2, 3] rfl ?_
      refine L28 σ a0 3000 0 0 p34 h35 ?_
      refine V_iload_n 1 99 rfl dX7_fall_98 rfl rfl ?_
      refine V_iconst (-1) 100 dX7_fall_99 rfl kiconst_m1 ?_
      refine V_ixor 101 dX7_fall_100 rfl ?_
      refine V_iconst 1 102 dX7_fall_101 rfl kiconst_1 ?_
      refine V_aload_n 2 103 rfl dX7_fall_102 rfl rfl ?_
      obtain ⟨q37, h36, hf⟩ := ob hf
      refine V_getQ (n := 10) (ty := tyX7) 106 h36 cf_6 rfl wd_fl_X7_12 dX7_fall_103 rfl ?_
      obtain ⟨q39, h38, hf⟩ := ob hf
      refine V_getQ (n := 11) (ty := tyX4) 109 h38 cf_3 rfl wd_fl_X7_89 dX7_fall_106 rfl ?_
      obtain ⟨v41, h40, hf⟩ := ob hf
      refine V_getI (n := 4) (ty := tyX5) 112 h40 cf_4 rfl wd_fl_X7_229 dX7_fall_109 rfl ?_
      refine V_ishl 113 dX7_fall_112 rfl ?_
      refine V_iconst 1 114 dX7_fall_113 rfl kiconst_1 ?_
      refine V_isub 115 dX7_fall_114 rfl ?_
      refine V_iand 116 dX7_fall_115 rfl ?_
      have er := Option.some.inj hf
      obtain ⟨e1, e2⟩ := Prod.mk.inj er
      subst e1
      subst e2
      exact V_iret hQ rfl dX7_fall_116
    · rw [if_pos c9] at hf
      refine V_aload_n 0 18 rfl dX7_fall_17 rfl rfl ?_
      refine V_ldc (-1000001) 20 dX7_fall_18 rfl wd_kk_X7_67 ?_
      obtain ⟨p43, h42, hf⟩ := ob hf
      refine V_callV (rest := []) (T := TX7) (n := 10) (ci := 6) 0 0 23 [.int p43.1] (c_X7_fails l G (d + 0) _ _ _ _ _ h42) (by omega) ok_X7_fails okv_X7_fails (gd_X7_fails h42) rfl wd_ml_X7_68 rfl rfl (Nat.le_of_ble_eq_true rfl) rfl rfl (Or.inl ⟨rfl, rfl⟩) dX7_fall_20 rfl rfl ?_
      have er := Option.some.inj hf
      obtain ⟨e1, e2⟩ := Prod.mk.inj er
      subst e1
      subst e2
      exact V_iret hQ rfl dX7_fall_23
  · rw [if_neg hg] at hf
    cases hf
abbrev mi_X7_isHouse : MI := (yX7_isHouse, cX7_isHouse, 1, some .boolean)
theorem ok_X7_isHouse : OkN mi_X7_isHouse 1 := ⟨wd_cd_X7_isHouse, wd_in_X7, ⟨by decide +kernel, by decide +kernel, by decide +kernel⟩, by decide⟩
theorem oks_X7_isHouse : Cond.static (mi_X7_isHouse).1 ∈ tb := wd_sm_X7_isHouse
def f_X7_isHouse (σ : St) (a0 : Int32) : Option Int32 := (f_X7_outside σ a0 0 7).bind fun v2 => (zr (if v2 = 0 then 1 else 0 : Int32)).bind fun z3 => some (if v2 = 0 then 1 else 0 : Int32)
set_option maxRecDepth 100000 in
set_option maxHeartbeats 4000000 in
theorem c_X7_isHouse (l : Launch) (G : Gd) (d : Nat) (σ : St) (a0 : Int32) (r0 : Int32) (hf : f_X7_isHouse σ a0 = some r0) : MetV l G (d + 2) mi_X7_isHouse [.int a0] σ (some (.int r0)) σ 0 0 := by
  unfold f_X7_isHouse at hf
  refine MetV.of [(0, .int a0)] (by decide +kernel) rfl (Nat.le_of_ble_eq_true rfl) ?_
  intro X hQ
  refine V_iload_n 0 1 rfl dX7_isHouse_0 rfl rfl ?_
  refine V_iconst 0 2 dX7_isHouse_1 rfl kiconst_0 ?_
  refine V_bipush 7 4 dX7_isHouse_2 rfl kbipush_7 ?_
  obtain ⟨v2, h1, hf⟩ := ob hf
  refine V_callS (rest := []) 0 0 7 [.int v2] (c_X7_outside l G (d + 0) _ _ _ _ _ h1) (by omega) ok_X7_outside oks_X7_outside wd_ml_X7_57 rfl rfl (Nat.le_of_ble_eq_true rfl) rfl rfl (Or.inl ⟨rfl, rfl⟩) dX7_isHouse_4 rfl rfl ?_
  have kj5 : V mi_X7_isHouse l G (d + 2) 0 0 X 0 0 15 [(0, .int a0)] [.int (if v2 = 0 then 1 else 0 : Int32)] σ := by
    obtain ⟨z3, h4, hf⟩ := ob hf
    have er := Option.some.inj hf
    subst er
    exact V_zret (zr_ok h4) hQ rfl dX7_isHouse_15
  refine V_if_ne 14 10 dX7_isHouse_7 (by decide) rfl (fun c6 => ?_) (fun c6 => ?_)
  · refine V_iconst 0 15 dX7_isHouse_14 rfl kiconst_0 ?_
    refine V_ls [(0, .int a0)] [0] rfl ?_
    simp only [if_neg c6] at kj5
    exact kj5
  · refine V_iconst 1 11 dX7_isHouse_10 rfl kiconst_1 ?_
    refine V_goto 15 dX7_isHouse_11 (by decide) ?_
    refine V_ls [(0, .int a0)] [0] rfl ?_
    simp only [if_pos c6] at kj5
    exact kj5
abbrev mi_X7_link : MI := (yX7_link, cX7_link, 5, some .int)
theorem ok_X7_link : OkN mi_X7_link 3 := ⟨wd_cd_X7_link, wd_in_X7, ⟨by decide +kernel, by decide +kernel, by decide +kernel⟩, by decide⟩
theorem okv_X7_link : Cond.instanceMethod (mi_X7_link).1 ∈ tb ∧ Cond.selects (mi_X7_link).1.cls (mi_X7_link).1 (mi_X7_link).1 ∈ tb := ⟨wd_im_X7_link, wd_se_X7_link⟩
def f_X7_link (σ : St) (t : Nat) (a0 : Int32) (a1 : Int32) (a2 : Int32) : Option (Int32 × St) := if isO σ 6 t = true then ((f_X7_isHouse σ a0).bind fun v2 => if v2 = 0 then ((f_X7_fails σ t (-1000001)).bind fun p5 => some (p5.1, p5.2)) else ((f_X7_isHouse σ a1).bind fun v7 => if v7 = 0 then ((f_X7_fails σ t (-1000001)).bind fun p10 => some (p10.1, p10.2)) else (if a0 = a1 then ((f_X7_fails σ t (-1000001)).bind fun p13 => some (p13.1, p13.2)) else ((f_X7_outside σ a2 1 60).bind fun v15 => if v15 = 0 then ((gQ σ 6 t 0).bind fun q18 => (gQ σ 3 q18 4).bind fun q20 => (f_X5_isFull σ q20).bind fun v22 => if v22 = 0 then ((gQ σ 6 t 0).bind fun q25 => (gQ σ 3 q25 4).bind fun q27 => (f_X5_add σ q27).bind fun p29 => (gQ p29.2 6 t 0).bind fun q31 => (gQ p29.2 3 q31 4).bind fun q33 => (f_X5_set p29.2 q33 p29.1 0 a0).bind fun s35 => (gQ s35 6 t 0).bind fun q37 => (gQ s35 3 q37 4).bind fun q39 => (f_X5_set s35 q39 p29.1 1 a1).bind fun s41 => (gQ s41 6 t 0).bind fun q43 => (gQ s41 3 q43 4).bind fun q45 => (f_X5_set s41 q45 p29.1 2 a2).bind fun s47 => (gQ s47 6 t 0).bind fun q49 => (gQ s47 3 q49 4).bind fun q51 => (gI s47 4 q51 3).bind fun v53 => some (v53, s47)) else ((f_X7_fails σ t (-1000004)).bind fun p55 => some (p55.1, p55.2))) else ((f_X7_fails σ t (-1000001)).bind fun p57 => some (p57.1, p57.2)))))) else none
theorem gd_X7_link {σ : St} {t : Nat} {a0 : Int32} {a1 : Int32} {a2 : Int32} {r : Int32 × St} (h : f_X7_link σ t a0 a1 a2 = some r) : isO σ 6 t = true := by
  unfold f_X7_link at h
  by_cases hg : isO σ 6 t = true
  · exact hg
  · rw [if_neg hg] at h
    cases h
set_option maxRecDepth 100000 in
set_option maxHeartbeats 4000000 in
theorem c_X7_link (l : Launch) (G : Gd) (d : Nat) (σ : St) (t : Nat) (a0 : Int32) (a1 : Int32) (a2 : Int32) (r0 : Int32) (σ' : St) (hf : f_X7_link σ t a0 a1 a2 = some (r0, σ')) : MetV l G (d + 3) mi_X7_link [.ref t, .int a0, .int a1, .int a2] σ (some (.int r0)) σ' 0 0 := by
  unfold f_X7_link at hf
  refine MetV.of [(0, .ref t), (1, .int a0), (2, .int a1), (3, .int a2)] (by decide +kernel) rfl (Nat.le_of_ble_eq_true rfl) ?_
  intro X hQ
  by_cases hg : isO σ 6 t = true
  · rw [if_pos hg] at hf
    refine V_iload_n 1 1 rfl dX7_link_0 rfl rfl ?_
    obtain ⟨v2, h1, hf⟩ := ob hf
    refine V_callS (rest := []) 0 0 4 [.int v2] (c_X7_isHouse l G (d + 0) _ _ _ h1) (by omega) ok_X7_isHouse oks_X7_isHouse wd_ml_X7_280 rfl rfl (Nat.le_of_ble_eq_true rfl) rfl rfl (Or.inl ⟨rfl, rfl⟩) dX7_link_1 rfl rfl ?_
    refine V_if_eq 29 7 dX7_link_4 (by decide) rfl (fun c3 => ?_) (fun c3 => ?_)
    · rw [if_pos c3] at hf
      refine V_aload_n 0 30 rfl dX7_link_29 rfl rfl ?_
      refine V_ldc (-1000001) 32 dX7_link_30 rfl wd_kk_X7_67 ?_
      obtain ⟨p5, h4, hf⟩ := ob hf
      refine V_callV (rest := []) (T := TX7) (n := 10) (ci := 6) 0 0 35 [.int p5.1] (c_X7_fails l G (d + 0) _ _ _ _ _ h4) (by omega) ok_X7_fails okv_X7_fails (gd_X7_fails h4) rfl wd_ml_X7_68 rfl rfl (Nat.le_of_ble_eq_true rfl) rfl rfl (Or.inl ⟨rfl, rfl⟩) dX7_link_32 rfl rfl ?_
      have er := Option.some.inj hf
      obtain ⟨e1, e2⟩ := Prod.mk.inj er
      subst e1
      subst e2
      exact V_iret hQ rfl dX7_link_35
    · rw [if_neg c3] at hf
      refine V_iload_n 2 8 rfl dX7_link_7 rfl rfl ?_
      obtain ⟨v7, h6, hf⟩ := ob hf
      refine V_callS (rest := []) 0 0 11 [.int v7] (c_X7_isHouse l G (d + 0) _ _ _ h6) (by omega) ok_X7_isHouse oks_X7_isHouse wd_ml_X7_280 rfl rfl (Nat.le_of_ble_eq_true rfl) rfl rfl (Or.inl ⟨rfl, rfl⟩) dX7_link_8 rfl rfl ?_
      refine V_if_eq 29 14 dX7_link_11 (by decide) rfl (fun c8 => ?_) (fun c8 => ?_)
      · rw [if_pos c8] at hf
        refine V_aload_n 0 30 rfl dX7_link_29 rfl rfl ?_
        refine V_ldc (-1000001) 32 dX7_link_30 rfl wd_kk_X7_67 ?_
        obtain ⟨p10, h9, hf⟩ := ob hf
        refine V_callV (rest := []) (T := TX7) (n := 10) (ci := 6) 0 0 35 [.int p10.1] (c_X7_fails l G (d + 0) _ _ _ _ _ h9) (by omega) ok_X7_fails okv_X7_fails (gd_X7_fails h9) rfl wd_ml_X7_68 rfl rfl (Nat.le_of_ble_eq_true rfl) rfl rfl (Or.inl ⟨rfl, rfl⟩) dX7_link_32 rfl rfl ?_
        have er := Option.some.inj hf
        obtain ⟨e1, e2⟩ := Prod.mk.inj er
        subst e1
        subst e2
        exact V_iret hQ rfl dX7_link_35
      · rw [if_neg c8] at hf
        refine V_iload_n 1 15 rfl dX7_link_14 rfl rfl ?_
        refine V_iload_n 2 16 rfl dX7_link_15 rfl rfl ?_
        refine V_icmp_eq 29 19 dX7_link_16 (by decide) rfl (fun c11 => ?_) (fun c11 => ?_)
        · rw [if_pos c11] at hf
          refine V_aload_n 0 30 rfl dX7_link_29 rfl rfl ?_
          refine V_ldc (-1000001) 32 dX7_link_30 rfl wd_kk_X7_67 ?_
          obtain ⟨p13, h12, hf⟩ := ob hf
          refine V_callV (rest := []) (T := TX7) (n := 10) (ci := 6) 0 0 35 [.int p13.1] (c_X7_fails l G (d + 0) _ _ _ _ _ h12) (by omega) ok_X7_fails okv_X7_fails (gd_X7_fails h12) rfl wd_ml_X7_68 rfl rfl (Nat.le_of_ble_eq_true rfl) rfl rfl (Or.inl ⟨rfl, rfl⟩) dX7_link_32 rfl rfl ?_
          have er := Option.some.inj hf
          obtain ⟨e1, e2⟩ := Prod.mk.inj er
          subst e1
          subst e2
          exact V_iret hQ rfl dX7_link_35
        · rw [if_neg c11] at hf
          refine V_iload_n 3 20 rfl dX7_link_19 rfl rfl ?_
          refine V_iconst 1 21 dX7_link_20 rfl kiconst_1 ?_
          refine V_bipush 60 23 dX7_link_21 rfl kbipush_60 ?_
          obtain ⟨v15, h14, hf⟩ := ob hf
          refine V_callS (rest := []) 0 0 26 [.int v15] (c_X7_outside l G (d + 1) _ _ _ _ _ h14) (by omega) ok_X7_outside oks_X7_outside wd_ml_X7_57 rfl rfl (Nat.le_of_ble_eq_true rfl) rfl rfl (Or.inl ⟨rfl, rfl⟩) dX7_link_23 rfl rfl ?_
          refine V_if_eq 36 29 dX7_link_26 (by decide) rfl (fun c16 => ?_) (fun c16 => ?_)
          · rw [if_pos c16] at hf
            refine V_aload_n 0 37 rfl dX7_link_36 rfl rfl ?_
            obtain ⟨q18, h17, hf⟩ := ob hf
            refine V_getQ (n := 10) (ty := tyX7) 40 h17 cf_6 rfl wd_fl_X7_12 dX7_link_37 rfl ?_
            obtain ⟨q20, h19, hf⟩ := ob hf
            refine V_getQ (n := 11) (ty := tyX4) 43 h19 cf_3 rfl wd_fl_X7_283 dX7_link_40 rfl ?_
            obtain ⟨v22, h21, hf⟩ := ob hf
            refine V_callV (rest := []) (T := TX5) (n := 4) (ci := 4) 0 0 46 [.int v22] (c_X5_isFull l G (d + 1) _ _ _ h21) (by omega) ok_X5_isFull okv_X5_isFull (gd_X5_isFull h21) rfl wd_ml_X7_92 rfl rfl (Nat.le_of_ble_eq_true rfl) rfl rfl (Or.inl ⟨rfl, rfl⟩) dX7_link_43 rfl rfl ?_
            refine V_if_eq 56 49 dX7_link_46 (by decide) rfl (fun c23 => ?_) (fun c23 => ?_)
            · rw [if_pos c23] at hf
              refine V_aload_n 0 57 rfl dX7_link_56 rfl rfl ?_
              obtain ⟨q25, h24, hf⟩ := ob hf
              refine V_getQ (n := 10) (ty := tyX7) 60 h24 cf_6 rfl wd_fl_X7_12 dX7_link_57 rfl ?_
              obtain ⟨q27, h26, hf⟩ := ob hf
              refine V_getQ (n := 11) (ty := tyX4) 63 h26 cf_3 rfl wd_fl_X7_283 dX7_link_60 rfl ?_
              obtain ⟨p29, h28, hf⟩ := ob hf
              refine V_callV (rest := []) (T := TX5) (n := 4) (ci := 4) 0 0 66 [.int p29.1] (c_X5_add l G (d + 1) _ _ _ _ h28) (by omega) ok_X5_add okv_X5_add (gd_X5_add h28) rfl wd_ml_X7_97 rfl rfl (Nat.le_of_ble_eq_true rfl) rfl rfl (Or.inl ⟨rfl, rfl⟩) dX7_link_63 rfl rfl ?_
              refine V_istore [(4, .int p29.1), (0, .ref t), (1, .int a0), (2, .int a1), (3, .int a2)] 68 dX7_link_66 (by decide) rfl rfl ?_
              refine V_aload_n 1 69 rfl dX7_link_68 rfl rfl ?_
              obtain ⟨q31, h30, hf⟩ := ob hf
              refine V_getQ (n := 10) (ty := tyX7) 72 h30 cf_6 rfl wd_fl_X7_12 dX7_link_69 rfl ?_
              obtain ⟨q33, h32, hf⟩ := ob hf
              refine V_getQ (n := 11) (ty := tyX4) 75 h32 cf_3 rfl wd_fl_X7_283 dX7_link_72 rfl ?_
              refine V_iload 0 77 rfl dX7_link_75 rfl ?_
              refine V_iconst 0 78 dX7_link_77 rfl kiconst_0 ?_
              refine V_iload_n 2 79 rfl dX7_link_78 rfl rfl ?_
              obtain ⟨s35, h34, hf⟩ := ob hf
              refine V_callV (rest := []) (T := TX5) (n := 4) (ci := 4) 0 0 82 [] (c_X5_set l G (d + 1) _ _ _ _ _ _ h34) (by omega) ok_X5_set okv_X5_set (gd_X5_set h34) rfl wd_ml_X7_82 rfl rfl (Nat.le_of_ble_eq_true rfl) rfl rfl (Or.inl ⟨rfl, rfl⟩) dX7_link_79 rfl rfl ?_
              refine V_aload_n 1 83 rfl dX7_link_82 rfl rfl ?_
              obtain ⟨q37, h36, hf⟩ := ob hf
              refine V_getQ (n := 10) (ty := tyX7) 86 h36 cf_6 rfl wd_fl_X7_12 dX7_link_83 rfl ?_
              obtain ⟨q39, h38, hf⟩ := ob hf
              refine V_getQ (n := 11) (ty := tyX4) 89 h38 cf_3 rfl wd_fl_X7_283 dX7_link_86 rfl ?_
              refine V_iload 0 91 rfl dX7_link_89 rfl ?_
              refine V_iconst 1 92 dX7_link_91 rfl kiconst_1 ?_
              refine V_iload_n 3 93 rfl dX7_link_92 rfl rfl ?_
              obtain ⟨s41, h40, hf⟩ := ob hf
              refine V_callV (rest := []) (T := TX5) (n := 4) (ci := 4) 0 0 96 [] (c_X5_set l G (d + 1) _ _ _ _ _ _ h40) (by omega) ok_X5_set okv_X5_set (gd_X5_set h40) rfl wd_ml_X7_82 rfl rfl (Nat.le_of_ble_eq_true rfl) rfl rfl (Or.inl ⟨rfl, rfl⟩) dX7_link_93 rfl rfl ?_
              refine V_aload_n 1 97 rfl dX7_link_96 rfl rfl ?_
              obtain ⟨q43, h42, hf⟩ := ob hf
              refine V_getQ (n := 10) (ty := tyX7) 100 h42 cf_6 rfl wd_fl_X7_12 dX7_link_97 rfl ?_
              obtain ⟨q45, h44, hf⟩ := ob hf
              refine V_getQ (n := 11) (ty := tyX4) 103 h44 cf_3 rfl wd_fl_X7_283 dX7_link_100 rfl ?_
              refine V_iload 0 105 rfl dX7_link_103 rfl ?_
              refine V_iconst 2 106 dX7_link_105 rfl kiconst_2 ?_
              refine V_iload_n 4 107 rfl dX7_link_106 rfl rfl ?_
              obtain ⟨s47, h46, hf⟩ := ob hf
              refine V_callV (rest := []) (T := TX5) (n := 4) (ci := 4) 0 0 110 [] (c_X5_set l G (d + 1) _ _ _ _ _ _ h46) (by omega) ok_X5_set okv_X5_set (gd_X5_set h46) rfl wd_ml_X7_82 rfl rfl (Nat.le_of_ble_eq_true rfl) rfl rfl (Or.inl ⟨rfl, rfl⟩) dX7_link_107 rfl rfl ?_
              refine V_aload_n 1 111 rfl dX7_link_110 rfl rfl ?_
              obtain ⟨q49, h48, hf⟩ := ob hf
              refine V_getQ (n := 10) (ty := tyX7) 114 h48 cf_6 rfl wd_fl_X7_12 dX7_link_111 rfl ?_
              obtain ⟨q51, h50, hf⟩ := ob hf
              refine V_getQ (n := 11) (ty := tyX4) 117 h50 cf_3 rfl wd_fl_X7_283 dX7_link_114 rfl ?_
              obtain ⟨v53, h52, hf⟩ := ob hf
              refine V_getI (n := 4) (ty := tyX5) 120 h52 cf_4 rfl wd_fl_X7_229 dX7_link_117 rfl ?_
              have er := Option.some.inj hf
              obtain ⟨e1, e2⟩ := Prod.mk.inj er
              subst e1
              subst e2
              exact V_iret hQ rfl dX7_link_120
            · rw [if_neg c23] at hf
              refine V_aload_n 0 50 rfl dX7_link_49 rfl rfl ?_
              refine V_ldc (-1000004) 52 dX7_link_50 rfl wd_kk_X7_96 ?_
              obtain ⟨p55, h54, hf⟩ := ob hf
              refine V_callV (rest := []) (T := TX7) (n := 10) (ci := 6) 0 0 55 [.int p55.1] (c_X7_fails l G (d + 0) _ _ _ _ _ h54) (by omega) ok_X7_fails okv_X7_fails (gd_X7_fails h54) rfl wd_ml_X7_68 rfl rfl (Nat.le_of_ble_eq_true rfl) rfl rfl (Or.inl ⟨rfl, rfl⟩) dX7_link_52 rfl rfl ?_
              have er := Option.some.inj hf
              obtain ⟨e1, e2⟩ := Prod.mk.inj er
              subst e1
              subst e2
              exact V_iret hQ rfl dX7_link_55
          · rw [if_neg c16] at hf
            refine V_aload_n 0 30 rfl dX7_link_29 rfl rfl ?_
            refine V_ldc (-1000001) 32 dX7_link_30 rfl wd_kk_X7_67 ?_
            obtain ⟨p57, h56, hf⟩ := ob hf
            refine V_callV (rest := []) (T := TX7) (n := 10) (ci := 6) 0 0 35 [.int p57.1] (c_X7_fails l G (d + 0) _ _ _ _ _ h56) (by omega) ok_X7_fails okv_X7_fails (gd_X7_fails h56) rfl wd_ml_X7_68 rfl rfl (Nat.le_of_ble_eq_true rfl) rfl rfl (Or.inl ⟨rfl, rfl⟩) dX7_link_32 rfl rfl ?_
            have er := Option.some.inj hf
            obtain ⟨e1, e2⟩ := Prod.mk.inj er
            subst e1
            subst e2
            exact V_iret hQ rfl dX7_link_35
  · rw [if_neg hg] at hf
    cases hf
abbrev mi_X7_tries : MI := (yX7_tries, cX7_tries, 6, some .int)
theorem ok_X7_tries : OkN mi_X7_tries 4 := ⟨wd_cd_X7_tries, wd_in_X7, ⟨by decide +kernel, by decide +kernel, by decide +kernel⟩, by decide⟩
theorem okv_X7_tries : Cond.instanceMethod (mi_X7_tries).1 ∈ tb ∧ Cond.selects (mi_X7_tries).1.cls (mi_X7_tries).1 (mi_X7_tries).1 ∈ tb := ⟨wd_im_X7_tries, wd_se_X7_tries⟩
def f_X7_tries (σ : St) (t : Nat) (a0 : Int32) (a1 : Int32) (a2 : Int32) (a3 : Int32) : Option (Int32 × St) := if isO σ 6 t = true then ((f_X7_isHouse σ a0).bind fun v2 => if v2 = 0 then ((f_X7_fails σ t (-1000001)).bind fun p5 => some (p5.1, p5.2)) else ((gQ σ 6 t 0).bind fun q7 => (gQ σ 3 q7 1).bind fun q9 => (f_X5_has σ q9 a1).bind fun v11 => if v11 = 0 then ((f_X7_fails σ t (-1000001)).bind fun p14 => some (p14.1, p14.2)) else ((f_X7_outside σ a2 0 999).bind fun v16 => if v16 = 0 then ((gQ σ 6 t 0).bind fun q19 => (gQ σ 3 q19 5).bind fun q21 => (f_X5_isFull σ q21).bind fun v23 => if v23 = 0 then ((gQ σ 6 t 0).bind fun q26 => (gQ σ 3 q26 5).bind fun q28 => (f_X5_add σ q28).bind fun p30 => (gQ p30.2 6 t 0).bind fun q32 => (gQ p30.2 3 q32 5).bind fun q34 => (f_X5_set p30.2 q34 p30.1 0 a0).bind fun s36 => (gQ s36 6 t 0).bind fun q38 => (gQ s36 3 q38 5).bind fun q40 => (f_X5_set s36 q40 p30.1 1 a1).bind fun s42 => (gQ s42 6 t 0).bind fun q44 => (gQ s42 3 q44 5).bind fun q46 => (f_X5_set s42 q46 p30.1 2 a2).bind fun s48 => (gQ s48 6 t 0).bind fun q50 => (gQ s48 3 q50 5).bind fun q52 => (f_X5_set s48 q52 p30.1 3 (if a3 = 0 then 1 else 0 : Int32)).bind fun s54 => (gQ s54 6 t 0).bind fun q56 => (gQ s54 3 q56 5).bind fun q58 => (gI s54 4 q58 3).bind fun v60 => some (v60, s54)) else ((f_X7_fails σ t (-1000004)).bind fun p64 => some (p64.1, p64.2))) else ((f_X7_fails σ t (-1000001)).bind fun p66 => some (p66.1, p66.2))))) else none
theorem gd_X7_tries {σ : St} {t : Nat} {a0 : Int32} {a1 : Int32} {a2 : Int32} {a3 : Int32} {r : Int32 × St} (h : f_X7_tries σ t a0 a1 a2 a3 = some r) : isO σ 6 t = true := by
  unfold f_X7_tries at h
  by_cases hg : isO σ 6 t = true
  · exact hg
  · rw [if_neg hg] at h
    cases h
set_option maxRecDepth 100000 in
set_option maxHeartbeats 4000000 in
theorem c_X7_tries (l : Launch) (G : Gd) (d : Nat) (σ : St) (t : Nat) (a0 : Int32) (a1 : Int32) (a2 : Int32) (a3 : Int32) (r0 : Int32) (σ' : St) (hf : f_X7_tries σ t a0 a1 a2 a3 = some (r0, σ')) : MetV l G (d + 3) mi_X7_tries [.ref t, .int a0, .int a1, .int a2, .int a3] σ (some (.int r0)) σ' 0 0 := by
  unfold f_X7_tries at hf
  refine MetV.of [(0, .ref t), (1, .int a0), (2, .int a1), (3, .int a2), (4, .int a3)] (by decide +kernel) rfl (Nat.le_of_ble_eq_true rfl) ?_
  intro X hQ
  by_cases hg : isO σ 6 t = true
  · rw [if_pos hg] at hf
    refine V_iload_n 1 1 rfl dX7_tries_0 rfl rfl ?_
    obtain ⟨v2, h1, hf⟩ := ob hf
    refine V_callS (rest := []) 0 0 4 [.int v2] (c_X7_isHouse l G (d + 0) _ _ _ h1) (by omega) ok_X7_isHouse oks_X7_isHouse wd_ml_X7_280 rfl rfl (Nat.le_of_ble_eq_true rfl) rfl rfl (Or.inl ⟨rfl, rfl⟩) dX7_tries_1 rfl rfl ?_
    refine V_if_eq 32 7 dX7_tries_4 (by decide) rfl (fun c3 => ?_) (fun c3 => ?_)
    · rw [if_pos c3] at hf
      refine V_aload_n 0 33 rfl dX7_tries_32 rfl rfl ?_
      refine V_ldc (-1000001) 35 dX7_tries_33 rfl wd_kk_X7_67 ?_
      obtain ⟨p5, h4, hf⟩ := ob hf
      refine V_callV (rest := []) (T := TX7) (n := 10) (ci := 6) 0 0 38 [.int p5.1] (c_X7_fails l G (d + 0) _ _ _ _ _ h4) (by omega) ok_X7_fails okv_X7_fails (gd_X7_fails h4) rfl wd_ml_X7_68 rfl rfl (Nat.le_of_ble_eq_true rfl) rfl rfl (Or.inl ⟨rfl, rfl⟩) dX7_tries_35 rfl rfl ?_
      have er := Option.some.inj hf
      obtain ⟨e1, e2⟩ := Prod.mk.inj er
      subst e1
      subst e2
      exact V_iret hQ rfl dX7_tries_38
    · rw [if_neg c3] at hf
      refine V_aload_n 0 8 rfl dX7_tries_7 rfl rfl ?_
      obtain ⟨q7, h6, hf⟩ := ob hf
      refine V_getQ (n := 10) (ty := tyX7) 11 h6 cf_6 rfl wd_fl_X7_12 dX7_tries_8 rfl ?_
      obtain ⟨q9, h8, hf⟩ := ob hf
      refine V_getQ (n := 11) (ty := tyX4) 14 h8 cf_3 rfl wd_fl_X7_89 dX7_tries_11 rfl ?_
      refine V_iload_n 2 15 rfl dX7_tries_14 rfl rfl ?_
      obtain ⟨v11, h10, hf⟩ := ob hf
      refine V_callV (rest := []) (T := TX5) (n := 4) (ci := 4) 0 0 18 [.int v11] (c_X5_has l G (d + 1) _ _ _ _ h10) (by omega) ok_X5_has okv_X5_has (gd_X5_has h10) rfl wd_ml_X7_101 rfl rfl (Nat.le_of_ble_eq_true rfl) rfl rfl (Or.inl ⟨rfl, rfl⟩) dX7_tries_15 rfl rfl ?_
      refine V_if_eq 32 21 dX7_tries_18 (by decide) rfl (fun c12 => ?_) (fun c12 => ?_)
      · rw [if_pos c12] at hf
        refine V_aload_n 0 33 rfl dX7_tries_32 rfl rfl ?_
        refine V_ldc (-1000001) 35 dX7_tries_33 rfl wd_kk_X7_67 ?_
        obtain ⟨p14, h13, hf⟩ := ob hf
        refine V_callV (rest := []) (T := TX7) (n := 10) (ci := 6) 0 0 38 [.int p14.1] (c_X7_fails l G (d + 0) _ _ _ _ _ h13) (by omega) ok_X7_fails okv_X7_fails (gd_X7_fails h13) rfl wd_ml_X7_68 rfl rfl (Nat.le_of_ble_eq_true rfl) rfl rfl (Or.inl ⟨rfl, rfl⟩) dX7_tries_35 rfl rfl ?_
        have er := Option.some.inj hf
        obtain ⟨e1, e2⟩ := Prod.mk.inj er
        subst e1
        subst e2
        exact V_iret hQ rfl dX7_tries_38
      · rw [if_neg c12] at hf
        refine V_iload_n 3 22 rfl dX7_tries_21 rfl rfl ?_
        refine V_iconst 0 23 dX7_tries_22 rfl kiconst_0 ?_
        refine V_sipush 999 26 dX7_tries_23 rfl ksipush_999 ?_
        obtain ⟨v16, h15, hf⟩ := ob hf
        refine V_callS (rest := []) 0 0 29 [.int v16] (c_X7_outside l G (d + 1) _ _ _ _ _ h15) (by omega) ok_X7_outside oks_X7_outside wd_ml_X7_57 rfl rfl (Nat.le_of_ble_eq_true rfl) rfl rfl (Or.inl ⟨rfl, rfl⟩) dX7_tries_26 rfl rfl ?_
        refine V_if_eq 39 32 dX7_tries_29 (by decide) rfl (fun c17 => ?_) (fun c17 => ?_)
        · rw [if_pos c17] at hf
          refine V_aload_n 0 40 rfl dX7_tries_39 rfl rfl ?_
          obtain ⟨q19, h18, hf⟩ := ob hf
          refine V_getQ (n := 10) (ty := tyX7) 43 h18 cf_6 rfl wd_fl_X7_12 dX7_tries_40 rfl ?_
          obtain ⟨q21, h20, hf⟩ := ob hf
          refine V_getQ (n := 11) (ty := tyX4) 46 h20 cf_3 rfl wd_fl_X7_286 dX7_tries_43 rfl ?_
          obtain ⟨v23, h22, hf⟩ := ob hf
          refine V_callV (rest := []) (T := TX5) (n := 4) (ci := 4) 0 0 49 [.int v23] (c_X5_isFull l G (d + 1) _ _ _ h22) (by omega) ok_X5_isFull okv_X5_isFull (gd_X5_isFull h22) rfl wd_ml_X7_92 rfl rfl (Nat.le_of_ble_eq_true rfl) rfl rfl (Or.inl ⟨rfl, rfl⟩) dX7_tries_46 rfl rfl ?_
          refine V_if_eq 59 52 dX7_tries_49 (by decide) rfl (fun c24 => ?_) (fun c24 => ?_)
          · rw [if_pos c24] at hf
            refine V_aload_n 0 60 rfl dX7_tries_59 rfl rfl ?_
            obtain ⟨q26, h25, hf⟩ := ob hf
            refine V_getQ (n := 10) (ty := tyX7) 63 h25 cf_6 rfl wd_fl_X7_12 dX7_tries_60 rfl ?_
            obtain ⟨q28, h27, hf⟩ := ob hf
            refine V_getQ (n := 11) (ty := tyX4) 66 h27 cf_3 rfl wd_fl_X7_286 dX7_tries_63 rfl ?_
            obtain ⟨p30, h29, hf⟩ := ob hf
            refine V_callV (rest := []) (T := TX5) (n := 4) (ci := 4) 0 0 69 [.int p30.1] (c_X5_add l G (d + 1) _ _ _ _ h29) (by omega) ok_X5_add okv_X5_add (gd_X5_add h29) rfl wd_ml_X7_97 rfl rfl (Nat.le_of_ble_eq_true rfl) rfl rfl (Or.inl ⟨rfl, rfl⟩) dX7_tries_66 rfl rfl ?_
            refine V_istore [(5, .int p30.1), (0, .ref t), (1, .int a0), (2, .int a1), (3, .int a2), (4, .int a3)] 71 dX7_tries_69 (by decide) rfl rfl ?_
            refine V_aload_n 1 72 rfl dX7_tries_71 rfl rfl ?_
            obtain ⟨q32, h31, hf⟩ := ob hf
            refine V_getQ (n := 10) (ty := tyX7) 75 h31 cf_6 rfl wd_fl_X7_12 dX7_tries_72 rfl ?_
            obtain ⟨q34, h33, hf⟩ := ob hf
            refine V_getQ (n := 11) (ty := tyX4) 78 h33 cf_3 rfl wd_fl_X7_286 dX7_tries_75 rfl ?_
            refine V_iload 0 80 rfl dX7_tries_78 rfl ?_
            refine V_iconst 0 81 dX7_tries_80 rfl kiconst_0 ?_
            refine V_iload_n 2 82 rfl dX7_tries_81 rfl rfl ?_
            obtain ⟨s36, h35, hf⟩ := ob hf
            refine V_callV (rest := []) (T := TX5) (n := 4) (ci := 4) 0 0 85 [] (c_X5_set l G (d + 1) _ _ _ _ _ _ h35) (by omega) ok_X5_set okv_X5_set (gd_X5_set h35) rfl wd_ml_X7_82 rfl rfl (Nat.le_of_ble_eq_true rfl) rfl rfl (Or.inl ⟨rfl, rfl⟩) dX7_tries_82 rfl rfl ?_
            refine V_aload_n 1 86 rfl dX7_tries_85 rfl rfl ?_
            obtain ⟨q38, h37, hf⟩ := ob hf
            refine V_getQ (n := 10) (ty := tyX7) 89 h37 cf_6 rfl wd_fl_X7_12 dX7_tries_86 rfl ?_
            obtain ⟨q40, h39, hf⟩ := ob hf
            refine V_getQ (n := 11) (ty := tyX4) 92 h39 cf_3 rfl wd_fl_X7_286 dX7_tries_89 rfl ?_
            refine V_iload 0 94 rfl dX7_tries_92 rfl ?_
            refine V_iconst 1 95 dX7_tries_94 rfl kiconst_1 ?_
            refine V_iload_n 3 96 rfl dX7_tries_95 rfl rfl ?_
            obtain ⟨s42, h41, hf⟩ := ob hf
            refine V_callV (rest := []) (T := TX5) (n := 4) (ci := 4) 0 0 99 [] (c_X5_set l G (d + 1) _ _ _ _ _ _ h41) (by omega) ok_X5_set okv_X5_set (gd_X5_set h41) rfl wd_ml_X7_82 rfl rfl (Nat.le_of_ble_eq_true rfl) rfl rfl (Or.inl ⟨rfl, rfl⟩) dX7_tries_96 rfl rfl ?_
            refine V_aload_n 1 100 rfl dX7_tries_99 rfl rfl ?_
            obtain ⟨q44, h43, hf⟩ := ob hf
            refine V_getQ (n := 10) (ty := tyX7) 103 h43 cf_6 rfl wd_fl_X7_12 dX7_tries_100 rfl ?_
            obtain ⟨q46, h45, hf⟩ := ob hf
            refine V_getQ (n := 11) (ty := tyX4) 106 h45 cf_3 rfl wd_fl_X7_286 dX7_tries_103 rfl ?_
            refine V_iload 0 108 rfl dX7_tries_106 rfl ?_
            refine V_iconst 2 109 dX7_tries_108 rfl kiconst_2 ?_
            refine V_iload_n 4 110 rfl dX7_tries_109 rfl rfl ?_
            obtain ⟨s48, h47, hf⟩ := ob hf
            refine V_callV (rest := []) (T := TX5) (n := 4) (ci := 4) 0 0 113 [] (c_X5_set l G (d + 1) _ _ _ _ _ _ h47) (by omega) ok_X5_set okv_X5_set (gd_X5_set h47) rfl wd_ml_X7_82 rfl rfl (Nat.le_of_ble_eq_true rfl) rfl rfl (Or.inl ⟨rfl, rfl⟩) dX7_tries_110 rfl rfl ?_
            refine V_aload_n 1 114 rfl dX7_tries_113 rfl rfl ?_
            obtain ⟨q50, h49, hf⟩ := ob hf
            refine V_getQ (n := 10) (ty := tyX7) 117 h49 cf_6 rfl wd_fl_X7_12 dX7_tries_114 rfl ?_
            obtain ⟨q52, h51, hf⟩ := ob hf
            refine V_getQ (n := 11) (ty := tyX4) 120 h51 cf_3 rfl wd_fl_X7_286 dX7_tries_117 rfl ?_
            refine V_iload 0 122 rfl dX7_tries_120 rfl ?_
            refine V_iconst 3 123 dX7_tries_122 rfl kiconst_3 ?_
            refine V_iload 5 125 rfl dX7_tries_123 rfl ?_
            have kj61 : V mi_X7_tries l G (d + 3) 0 0 X 0 0 133 [(5, .int p30.1), (0, .ref t), (1, .int a0), (2, .int a1), (3, .int a2), (4, .int a3)] [.int (if a3 = 0 then 1 else 0 : Int32), .int 3, .int p30.1, .ref q52] s48 := by
              obtain ⟨s54, h53, hf⟩ := ob hf
              refine V_callV (rest := []) (T := TX5) (n := 4) (ci := 4) 0 0 136 [] (c_X5_set l G (d + 1) _ _ _ _ _ _ h53) (by omega) ok_X5_set okv_X5_set (gd_X5_set h53) rfl wd_ml_X7_82 rfl rfl (Nat.le_of_ble_eq_true rfl) rfl rfl (Or.inl ⟨rfl, rfl⟩) dX7_tries_133 rfl rfl ?_
              refine V_aload_n 1 137 rfl dX7_tries_136 rfl rfl ?_
              obtain ⟨q56, h55, hf⟩ := ob hf
              refine V_getQ (n := 10) (ty := tyX7) 140 h55 cf_6 rfl wd_fl_X7_12 dX7_tries_137 rfl ?_
              obtain ⟨q58, h57, hf⟩ := ob hf
              refine V_getQ (n := 11) (ty := tyX4) 143 h57 cf_3 rfl wd_fl_X7_286 dX7_tries_140 rfl ?_
              obtain ⟨v60, h59, hf⟩ := ob hf
              refine V_getI (n := 4) (ty := tyX5) 146 h59 cf_4 rfl wd_fl_X7_229 dX7_tries_143 rfl ?_
              have er := Option.some.inj hf
              obtain ⟨e1, e2⟩ := Prod.mk.inj er
              subst e1
              subst e2
              exact V_iret hQ rfl dX7_tries_146
            refine V_if_eq 132 128 dX7_tries_125 (by decide) rfl (fun c62 => ?_) (fun c62 => ?_)
            · refine V_iconst 1 133 dX7_tries_132 rfl kiconst_1 ?_
              refine V_ls [(5, .int p30.1), (0, .ref t), (1, .int a0), (2, .int a1), (3, .int a2), (4, .int a3)] [0, 1, 2, 3, 4, 5] rfl ?_
              simp only [if_pos c62] at kj61
              exact kj61
            · refine V_iconst 0 129 dX7_tries_128 rfl kiconst_0 ?_
              refine V_goto 133 dX7_tries_129 (by decide) ?_
              refine V_ls [(5, .int p30.1), (0, .ref t), (1, .int a0), (2, .int a1), (3, .int a2), (4, .int a3)] [0, 1, 2, 3, 4, 5] rfl ?_
              simp only [if_neg c62] at kj61
              exact kj61
          · rw [if_neg c24] at hf
            refine V_aload_n 0 53 rfl dX7_tries_52 rfl rfl ?_
            refine V_ldc (-1000004) 55 dX7_tries_53 rfl wd_kk_X7_96 ?_
            obtain ⟨p64, h63, hf⟩ := ob hf
            refine V_callV (rest := []) (T := TX7) (n := 10) (ci := 6) 0 0 58 [.int p64.1] (c_X7_fails l G (d + 0) _ _ _ _ _ h63) (by omega) ok_X7_fails okv_X7_fails (gd_X7_fails h63) rfl wd_ml_X7_68 rfl rfl (Nat.le_of_ble_eq_true rfl) rfl rfl (Or.inl ⟨rfl, rfl⟩) dX7_tries_55 rfl rfl ?_
            have er := Option.some.inj hf
            obtain ⟨e1, e2⟩ := Prod.mk.inj er
            subst e1
            subst e2
            exact V_iret hQ rfl dX7_tries_58
        · rw [if_neg c17] at hf
          refine V_aload_n 0 33 rfl dX7_tries_32 rfl rfl ?_
          refine V_ldc (-1000001) 35 dX7_tries_33 rfl wd_kk_X7_67 ?_
          obtain ⟨p66, h65, hf⟩ := ob hf
          refine V_callV (rest := []) (T := TX7) (n := 10) (ci := 6) 0 0 38 [.int p66.1] (c_X7_fails l G (d + 0) _ _ _ _ _ h65) (by omega) ok_X7_fails okv_X7_fails (gd_X7_fails h65) rfl wd_ml_X7_68 rfl rfl (Nat.le_of_ble_eq_true rfl) rfl rfl (Or.inl ⟨rfl, rfl⟩) dX7_tries_35 rfl rfl ?_
          have er := Option.some.inj hf
          obtain ⟨e1, e2⟩ := Prod.mk.inj er
          subst e1
          subst e2
          exact V_iret hQ rfl dX7_tries_38
  · rw [if_neg hg] at hf
    cases hf
abbrev mi_X7_findBehind : MI := (yX7_findBehind, cX7_findBehind, 6, none)
theorem ok_X7_findBehind : OkN mi_X7_findBehind 1 := ⟨wd_cd_X7_findBehind, wd_in_X7, ⟨by decide +kernel, by decide +kernel, by decide +kernel⟩, by decide⟩
theorem okv_X7_findBehind : Cond.instanceMethod (mi_X7_findBehind).1 ∈ tb ∧ Cond.selects (mi_X7_findBehind).1.cls (mi_X7_findBehind).1 (mi_X7_findBehind).1 ∈ tb := ⟨wd_im_X7_findBehind, wd_se_X7_findBehind⟩
def f_X7_findBehind_L2 (t : Nat) (x1 : Int32) : Nat → Int32 → St → Option (Int32 × St)
  | 0, _, _ => none
  | n + 1, x2, σ => (gQ σ 6 t 6).bind fun q2 => (aL σ 0 q2).bind fun v3 => if v3 ≤ x2 then (some (x2, σ)) else ((gQ σ 6 t 6).bind fun q7 => (sI σ q7 x2 (if x2 = x1 then 0 else 1000000 : Int32)).bind fun s9 => f_X7_findBehind_L2 t x1 n (x2 + 1) s9)
def f_X7_findBehind_L48 (t : Nat) : Nat → Int32 → St → Option (Int32 × St)
  | 0, _, _ => none
  | n + 1, x3, σ => (gQ σ 6 t 0).bind fun q20 => (gQ σ 3 q20 4).bind fun q22 => (gI σ 4 q22 3).bind fun v24 => if v24 ≤ x3 then (some (x3, σ)) else ((gQ σ 6 t 0).bind fun q27 => (gQ σ 3 q27 4).bind fun q29 => (f_X5_at σ q29 x3 0).bind fun v31 => (gQ σ 6 t 0).bind fun q33 => (gQ σ 3 q33 4).bind fun q35 => (f_X5_at σ q35 x3 1).bind fun v37 => (f_X7_isHouse σ v31).bind fun v39 => if v39 = 0 then (f_X7_findBehind_L48 t n (x3 + 1) σ) else ((f_X7_isHouse σ v37).bind fun v42 => if v42 = 0 then (f_X7_findBehind_L48 t n (x3 + 1) σ) else ((gQ σ 6 t 6).bind fun q45 => (gQ σ 6 t 6).bind fun q47 => (aI σ 0 q47 v31).bind fun v49 => (gQ σ 6 t 6).bind fun q51 => (aI σ 0 q51 v37).bind fun v53 => (gQ σ 6 t 0).bind fun q55 => (gQ σ 3 q55 4).bind fun q57 => (f_X5_at σ q57 x3 2).bind fun v59 => (f_J9_min_7cf53 σ v49 (v53 + v59)).bind fun v61 => (sI σ q45 v31 v61).bind fun s63 => f_X7_findBehind_L48 t n (x3 + 1) s63)))
def f_X7_findBehind_L37 (t : Nat) : Nat → Int32 → St → Option (Int32 × St)
  | 0, _, _ => none
  | n + 1, x2, σ => (gQ σ 6 t 6).bind fun q15 => (aL σ 0 q15).bind fun v16 => if v16 ≤ x2 then (some (x2, σ)) else ((f_X7_findBehind_L48 t 3000 0 σ).bind fun p64 => f_X7_findBehind_L37 t n (x2 + 1) p64.2)
def f_X7_findBehind (σ : St) (t : Nat) (a0 : Int32) : Option St := if isO σ 6 t = true then ((f_X7_findBehind_L2 t a0 3000 0 σ).bind fun p12 => (f_X7_findBehind_L37 t 3000 0 p12.2).bind fun p66 => some p66.2) else none
theorem gd_X7_findBehind {σ : St} {t : Nat} {a0 : Int32} {r : St} (h : f_X7_findBehind σ t a0 = some r) : isO σ 6 t = true := by
  unfold f_X7_findBehind at h
  by_cases hg : isO σ 6 t = true
  · exact hg
  · rw [if_neg hg] at h
    cases h
set_option maxRecDepth 100000 in
set_option maxHeartbeats 4000000 in
theorem c_X7_findBehind (l : Launch) (G : Gd) (d : Nat) (σ : St) (t : Nat) (a0 : Int32) (σ' : St) (hf : f_X7_findBehind σ t a0 = some σ') : MetV l G (d + 3) mi_X7_findBehind [.ref t, .int a0] σ none σ' 0 0 := by
  unfold f_X7_findBehind at hf
  refine MetV.of [(0, .ref t), (1, .int a0)] (by decide +kernel) rfl (Nat.le_of_ble_eq_true rfl) ?_
  intro X hQ
  have L2 : ∀ (x1 : Int32) (n : Nat) (x2 : Int32) (σ : St) (p : Int32 × St), f_X7_findBehind_L2 t x1 n x2 σ = some p → V mi_X7_findBehind l G (d + 3) 0 0 X 0 0 35 [(2, .int p.1), (0, .ref t), (1, .int x1)] [] p.2 → V mi_X7_findBehind l G (d + 3) 0 0 X 0 0 2 [(2, .int x2), (0, .ref t), (1, .int x1)] [] σ := by
    intro x1 n
    induction n with
    | zero =>
      intro x2 σ p hf
      exact absurd (show (none : Option _) = some p from hf) (by simp)
    | succ n ih =>
      intro x2 σ p hf hk
      rw [f_X7_findBehind_L2] at hf
      refine V_iload_n 0 3 rfl dX7_findBehind_2 rfl rfl ?_
      refine V_aload_n 1 4 rfl dX7_findBehind_3 rfl rfl ?_
      obtain ⟨q2, h1, hf⟩ := ob hf
      refine V_getQ (n := 10) (ty := tyX7) 7 h1 cf_6 rfl wd_fl_X7_43 dX7_findBehind_4 rfl ?_
      obtain ⟨v3, h4, hf⟩ := ob hf
      refine V_alen (t := 0) 8 h4 (by decide) dX7_findBehind_7 rfl ?_
      refine V_icmp_ge 35 11 dX7_findBehind_8 (by decide) rfl (fun c5 => ?_) (fun c5 => ?_)
      · rw [if_pos c5] at hf
        have ep := Option.some.inj hf
        subst ep
        refine V_ls [(2, .int x2), (0, .ref t), (1, .int x1)] [0, 1, 2] rfl ?_
        exact hk
      · rw [if_neg c5] at hf
        refine V_aload_n 1 12 rfl dX7_findBehind_11 rfl rfl ?_
        obtain ⟨q7, h6, hf⟩ := ob hf
        refine V_getQ (n := 10) (ty := tyX7) 15 h6 cf_6 rfl wd_fl_X7_43 dX7_findBehind_12 rfl ?_
        refine V_iload_n 0 16 rfl dX7_findBehind_15 rfl rfl ?_
        refine V_iload_n 0 17 rfl dX7_findBehind_16 rfl rfl ?_
        refine V_iload_n 2 18 rfl dX7_findBehind_17 rfl rfl ?_
        have kj10 : V mi_X7_findBehind l G (d + 3) 0 0 X 0 0 28 [(2, .int x2), (0, .ref t), (1, .int x1)] [.int (if x2 = x1 then 0 else 1000000 : Int32), .int x2, .ref q7] σ := by
          obtain ⟨s9, h8, hf⟩ := ob hf
          refine V_iast 29 h8 dX7_findBehind_28 rfl ?_
          refine V_iinc (x2 + 1) 0 [(2, .int (x2 + 1)), (0, .ref t), (1, .int x1)] 32 dX7_findBehind_29 rfl (by rw [kiconst_1]) (by decide) rfl rfl ?_
          refine V_goto 2 dX7_findBehind_32 (by decide) ?_
          refine V_ls [(2, .int (x2 + 1)), (0, .ref t), (1, .int x1)] [0, 1, 2] rfl ?_
          exact ih _ _ _ hf hk
        refine V_icmp_ne 25 21 dX7_findBehind_18 (by decide) rfl (fun c11 => ?_) (fun c11 => ?_)
        · refine V_ldc_w 1000000 28 dX7_findBehind_25 rfl wd_kk_X7_296 ?_
          refine V_ls [(2, .int x2), (0, .ref t), (1, .int x1)] [0, 1, 2] rfl ?_
          simp only [if_neg c11] at kj10
          exact kj10
        · refine V_iconst 0 22 dX7_findBehind_21 rfl kiconst_0 ?_
          refine V_goto 28 dX7_findBehind_22 (by decide) ?_
          refine V_ls [(2, .int x2), (0, .ref t), (1, .int x1)] [0, 1, 2] rfl ?_
          simp only [if_pos c11] at kj10
          exact kj10
  have L48 : ∀ (x2 : Int32) (n : Nat) (x3 : Int32) (σ : St) (p : Int32 × St), f_X7_findBehind_L48 t n x3 σ = some p → V mi_X7_findBehind l G (d + 3) 0 0 X 0 0 149 [(3, .int p.1), (2, .int x2), (0, .ref t)] [] p.2 → V mi_X7_findBehind l G (d + 3) 0 0 X 0 0 48 [(3, .int x3), (2, .int x2), (0, .ref t)] [] σ := by
    intro x2 n
    induction n with
    | zero =>
      intro x3 σ p hf
      exact absurd (show (none : Option _) = some p from hf) (by simp)
    | succ n ih =>
      intro x3 σ p hf hk
      rw [f_X7_findBehind_L48] at hf
      refine V_iload_n 0 49 rfl dX7_findBehind_48 rfl rfl ?_
      refine V_aload_n 2 50 rfl dX7_findBehind_49 rfl rfl ?_
      obtain ⟨q20, h19, hf⟩ := ob hf
      refine V_getQ (n := 10) (ty := tyX7) 53 h19 cf_6 rfl wd_fl_X7_12 dX7_findBehind_50 rfl ?_
      obtain ⟨q22, h21, hf⟩ := ob hf
      refine V_getQ (n := 11) (ty := tyX4) 56 h21 cf_3 rfl wd_fl_X7_283 dX7_findBehind_53 rfl ?_
      obtain ⟨v24, h23, hf⟩ := ob hf
      refine V_getI (n := 4) (ty := tyX5) 59 h23 cf_4 rfl wd_fl_X7_229 dX7_findBehind_56 rfl ?_
      refine V_icmp_ge 149 62 dX7_findBehind_59 (by decide) rfl (fun c25 => ?_) (fun c25 => ?_)
      · rw [if_pos c25] at hf
        have ep := Option.some.inj hf
        subst ep
        refine V_ls [(3, .int x3), (2, .int x2), (0, .ref t)] [0, 1, 2] rfl ?_
        exact hk
      · rw [if_neg c25] at hf
        refine V_aload_n 2 63 rfl dX7_findBehind_62 rfl rfl ?_
        obtain ⟨q27, h26, hf⟩ := ob hf
        refine V_getQ (n := 10) (ty := tyX7) 66 h26 cf_6 rfl wd_fl_X7_12 dX7_findBehind_63 rfl ?_
        obtain ⟨q29, h28, hf⟩ := ob hf
        refine V_getQ (n := 11) (ty := tyX4) 69 h28 cf_3 rfl wd_fl_X7_283 dX7_findBehind_66 rfl ?_
        refine V_iload_n 0 70 rfl dX7_findBehind_69 rfl rfl ?_
        refine V_iconst 0 71 dX7_findBehind_70 rfl kiconst_0 ?_
        obtain ⟨v31, h30, hf⟩ := ob hf
        refine V_callV (rest := []) (T := TX5) (n := 4) (ci := 4) 0 0 74 [.int v31] (c_X5_at l G (d + 1) _ _ _ _ _ h30) (by omega) ok_X5_at okv_X5_at (gd_X5_at h30) rfl wd_ml_X7_76 rfl rfl (Nat.le_of_ble_eq_true rfl) rfl rfl (Or.inl ⟨rfl, rfl⟩) dX7_findBehind_71 rfl rfl ?_
        refine V_istore [(4, .int v31), (3, .int x3), (2, .int x2), (0, .ref t)] 76 dX7_findBehind_74 (by decide) rfl rfl ?_
        refine V_aload_n 3 77 rfl dX7_findBehind_76 rfl rfl ?_
        obtain ⟨q33, h32, hf⟩ := ob hf
        refine V_getQ (n := 10) (ty := tyX7) 80 h32 cf_6 rfl wd_fl_X7_12 dX7_findBehind_77 rfl ?_
        obtain ⟨q35, h34, hf⟩ := ob hf
        refine V_getQ (n := 11) (ty := tyX4) 83 h34 cf_3 rfl wd_fl_X7_283 dX7_findBehind_80 rfl ?_
        refine V_iload_n 1 84 rfl dX7_findBehind_83 rfl rfl ?_
        refine V_iconst 1 85 dX7_findBehind_84 rfl kiconst_1 ?_
        obtain ⟨v37, h36, hf⟩ := ob hf
        refine V_callV (rest := []) (T := TX5) (n := 4) (ci := 4) 0 0 88 [.int v37] (c_X5_at l G (d + 1) _ _ _ _ _ h36) (by omega) ok_X5_at okv_X5_at (gd_X5_at h36) rfl wd_ml_X7_76 rfl rfl (Nat.le_of_ble_eq_true rfl) rfl rfl (Or.inl ⟨rfl, rfl⟩) dX7_findBehind_85 rfl rfl ?_
        refine V_istore [(5, .int v37), (4, .int v31), (3, .int x3), (2, .int x2), (0, .ref t)] 90 dX7_findBehind_88 (by decide) rfl rfl ?_
        refine V_iload 1 92 rfl dX7_findBehind_90 rfl ?_
        obtain ⟨v39, h38, hf⟩ := ob hf
        refine V_callS (rest := []) 0 0 95 [.int v39] (c_X7_isHouse l G (d + 0) _ _ _ h38) (by omega) ok_X7_isHouse oks_X7_isHouse wd_ml_X7_280 rfl rfl (Nat.le_of_ble_eq_true rfl) rfl rfl (Or.inl ⟨rfl, rfl⟩) dX7_findBehind_92 rfl rfl ?_
        refine V_if_eq 143 98 dX7_findBehind_95 (by decide) rfl (fun c40 => ?_) (fun c40 => ?_)
        · rw [if_pos c40] at hf
          refine V_iinc (x3 + 1) 2 [(3, .int (x3 + 1)), (5, .int v37), (4, .int v31), (2, .int x2), (0, .ref t)] 146 dX7_findBehind_143 rfl (by rw [kiconst_1]) (by decide) rfl rfl ?_
          refine V_goto 48 dX7_findBehind_146 (by decide) ?_
          refine V_ls [(3, .int (x3 + 1)), (2, .int x2), (0, .ref t)] [0, 3, 4] rfl ?_
          exact ih _ _ _ hf hk
        · rw [if_neg c40] at hf
          refine V_iload 0 100 rfl dX7_findBehind_98 rfl ?_
          obtain ⟨v42, h41, hf⟩ := ob hf
          refine V_callS (rest := []) 0 0 103 [.int v42] (c_X7_isHouse l G (d + 0) _ _ _ h41) (by omega) ok_X7_isHouse oks_X7_isHouse wd_ml_X7_280 rfl rfl (Nat.le_of_ble_eq_true rfl) rfl rfl (Or.inl ⟨rfl, rfl⟩) dX7_findBehind_100 rfl rfl ?_
          refine V_if_eq 143 106 dX7_findBehind_103 (by decide) rfl (fun c43 => ?_) (fun c43 => ?_)
          · rw [if_pos c43] at hf
            refine V_iinc (x3 + 1) 2 [(3, .int (x3 + 1)), (5, .int v37), (4, .int v31), (2, .int x2), (0, .ref t)] 146 dX7_findBehind_143 rfl (by rw [kiconst_1]) (by decide) rfl rfl ?_
            refine V_goto 48 dX7_findBehind_146 (by decide) ?_
            refine V_ls [(3, .int (x3 + 1)), (2, .int x2), (0, .ref t)] [0, 3, 4] rfl ?_
            exact ih _ _ _ hf hk
          · rw [if_neg c43] at hf
            refine V_aload_n 4 107 rfl dX7_findBehind_106 rfl rfl ?_
            obtain ⟨q45, h44, hf⟩ := ob hf
            refine V_getQ (n := 10) (ty := tyX7) 110 h44 cf_6 rfl wd_fl_X7_43 dX7_findBehind_107 rfl ?_
            refine V_iload 1 112 rfl dX7_findBehind_110 rfl ?_
            refine V_aload_n 4 113 rfl dX7_findBehind_112 rfl rfl ?_
            obtain ⟨q47, h46, hf⟩ := ob hf
            refine V_getQ (n := 10) (ty := tyX7) 116 h46 cf_6 rfl wd_fl_X7_43 dX7_findBehind_113 rfl ?_
            refine V_iload 1 118 rfl dX7_findBehind_116 rfl ?_
            obtain ⟨v49, h48, hf⟩ := ob hf
            refine V_iald 119 h48 dX7_findBehind_118 rfl ?_
            refine V_aload_n 4 120 rfl dX7_findBehind_119 rfl rfl ?_
            obtain ⟨q51, h50, hf⟩ := ob hf
            refine V_getQ (n := 10) (ty := tyX7) 123 h50 cf_6 rfl wd_fl_X7_43 dX7_findBehind_120 rfl ?_
            refine V_iload 0 125 rfl dX7_findBehind_123 rfl ?_
            obtain ⟨v53, h52, hf⟩ := ob hf
            refine V_iald 126 h52 dX7_findBehind_125 rfl ?_
            refine V_aload_n 4 127 rfl dX7_findBehind_126 rfl rfl ?_
            obtain ⟨q55, h54, hf⟩ := ob hf
            refine V_getQ (n := 10) (ty := tyX7) 130 h54 cf_6 rfl wd_fl_X7_12 dX7_findBehind_127 rfl ?_
            obtain ⟨q57, h56, hf⟩ := ob hf
            refine V_getQ (n := 11) (ty := tyX4) 133 h56 cf_3 rfl wd_fl_X7_283 dX7_findBehind_130 rfl ?_
            refine V_iload_n 2 134 rfl dX7_findBehind_133 rfl rfl ?_
            refine V_iconst 2 135 dX7_findBehind_134 rfl kiconst_2 ?_
            obtain ⟨v59, h58, hf⟩ := ob hf
            refine V_callV (rest := [.int v53, .int v49, .int v31, .ref q45]) (T := TX5) (n := 4) (ci := 4) 0 0 138 [.int v59, .int v53, .int v49, .int v31, .ref q45] (c_X5_at l G (d + 1) _ _ _ _ _ h58) (by omega) ok_X5_at okv_X5_at (gd_X5_at h58) rfl wd_ml_X7_76 rfl rfl (Nat.le_of_ble_eq_true rfl) rfl rfl (Or.inl ⟨rfl, rfl⟩) dX7_findBehind_135 rfl rfl ?_
            refine V_iadd 139 dX7_findBehind_138 rfl ?_
            obtain ⟨v61, h60, hf⟩ := ob hf
            refine V_callS (rest := [.int v31, .ref q45]) 0 0 142 [.int v61, .int v31, .ref q45] (c_J9_min_7cf53 l G (d + 1) _ _ _ _ h60) (by omega) ok_J9_min_7cf53 oks_J9_min_7cf53 wd_ml_X7_232 rfl rfl (Nat.le_of_ble_eq_true rfl) rfl rfl (Or.inl ⟨rfl, rfl⟩) dX7_findBehind_139 rfl rfl ?_
            obtain ⟨s63, h62, hf⟩ := ob hf
            refine V_iast 143 h62 dX7_findBehind_142 rfl ?_
            refine V_iinc (x3 + 1) 2 [(3, .int (x3 + 1)), (5, .int v37), (4, .int v31), (2, .int x2), (0, .ref t)] 146 dX7_findBehind_143 rfl (by rw [kiconst_1]) (by decide) rfl rfl ?_
            refine V_goto 48 dX7_findBehind_146 (by decide) ?_
            refine V_ls [(3, .int (x3 + 1)), (2, .int x2), (0, .ref t)] [0, 3, 4] rfl ?_
            exact ih _ _ _ hf hk
  have L37 : ∀  (n : Nat) (x2 : Int32) (σ : St) (p : Int32 × St), f_X7_findBehind_L37 t n x2 σ = some p → V mi_X7_findBehind l G (d + 3) 0 0 X 0 0 155 [(2, .int p.1), (0, .ref t)] [] p.2 → V mi_X7_findBehind l G (d + 3) 0 0 X 0 0 37 [(2, .int x2), (0, .ref t)] [] σ := by
    intro  n
    induction n with
    | zero =>
      intro x2 σ p hf
      exact absurd (show (none : Option _) = some p from hf) (by simp)
    | succ n ih =>
      intro x2 σ p hf hk
      rw [f_X7_findBehind_L37] at hf
      refine V_iload_n 0 38 rfl dX7_findBehind_37 rfl rfl ?_
      refine V_aload_n 1 39 rfl dX7_findBehind_38 rfl rfl ?_
      obtain ⟨q15, h14, hf⟩ := ob hf
      refine V_getQ (n := 10) (ty := tyX7) 42 h14 cf_6 rfl wd_fl_X7_43 dX7_findBehind_39 rfl ?_
      obtain ⟨v16, h17, hf⟩ := ob hf
      refine V_alen (t := 0) 43 h17 (by decide) dX7_findBehind_42 rfl ?_
      refine V_icmp_ge 155 46 dX7_findBehind_43 (by decide) rfl (fun c18 => ?_) (fun c18 => ?_)
      · rw [if_pos c18] at hf
        have ep := Option.some.inj hf
        subst ep
        refine V_ls [(2, .int x2), (0, .ref t)] [0, 1] rfl ?_
        exact hk
      · rw [if_neg c18] at hf
        refine V_iconst 0 47 dX7_findBehind_46 rfl kiconst_0 ?_
        refine V_istore_n [(3, .int 0), (2, .int x2), (0, .ref t)] 48 dX7_findBehind_47 rfl (by decide) rfl rfl ?_
        obtain ⟨p64, h65, hf⟩ := ob hf
        refine V_ls [(3, .int 0), (2, .int x2), (0, .ref t)] [0, 1, 2] rfl ?_
        refine L48 x2 3000 0 σ p64 h65 ?_
        refine V_iinc (x2 + 1) 1 [(2, .int (x2 + 1)), (3, .int p64.1), (0, .ref t)] 152 dX7_findBehind_149 rfl (by rw [kiconst_1]) (by decide) rfl rfl ?_
        refine V_goto 37 dX7_findBehind_152 (by decide) ?_
        refine V_ls [(2, .int (x2 + 1)), (0, .ref t)] [0, 2] rfl ?_
        exact ih _ _ _ hf hk
  by_cases hg : isO σ 6 t = true
  · rw [if_pos hg] at hf
    refine V_iconst 0 1 dX7_findBehind_0 rfl kiconst_0 ?_
    refine V_istore_n [(2, .int 0), (0, .ref t), (1, .int a0)] 2 dX7_findBehind_1 rfl (by decide) rfl rfl ?_
    obtain ⟨p12, h13, hf⟩ := ob hf
    refine V_ls [(2, .int 0), (0, .ref t), (1, .int a0)] [0, 1, 2] rfl ?_
    refine L2 a0 3000 0 σ p12 h13 ?_
    refine V_iconst 0 36 dX7_findBehind_35 rfl kiconst_0 ?_
    refine V_istore_n [(2, .int 0), (0, .ref t), (1, .int a0)] 37 dX7_findBehind_36 rfl (by decide) rfl rfl ?_
    obtain ⟨p66, h67, hf⟩ := ob hf
    refine V_ls [(2, .int 0), (0, .ref t)] [0, 1] rfl ?_
    refine L37 3000 0 p12.2 p66 h67 ?_
    have er := Option.some.inj hf
    subst er
    exact V_vret hQ rfl dX7_findBehind_155
  · rw [if_neg hg] at hf
    cases hf
abbrev mi_X7_dayOfNews : MI := (yX7_dayOfNews, cX7_dayOfNews, 5, some .int)
theorem ok_X7_dayOfNews : OkN mi_X7_dayOfNews 2 := ⟨wd_cd_X7_dayOfNews, wd_in_X7, ⟨by decide +kernel, by decide +kernel, by decide +kernel⟩, by decide⟩
theorem okv_X7_dayOfNews : Cond.instanceMethod (mi_X7_dayOfNews).1 ∈ tb ∧ Cond.selects (mi_X7_dayOfNews).1.cls (mi_X7_dayOfNews).1 (mi_X7_dayOfNews).1 ∈ tb := ⟨wd_im_X7_dayOfNews, wd_se_X7_dayOfNews⟩
def f_X7_dayOfNews (σ : St) (t : Nat) (a0 : Int32) (a1 : Int32) : Option (Int32 × St) := if isO σ 6 t = true then ((gQ σ 6 t 0).bind fun q2 => (gQ σ 3 q2 5).bind fun q4 => (f_X5_at σ q4 a0 0).bind fun v6 => (gQ σ 6 t 0).bind fun q8 => (gQ σ 3 q8 5).bind fun q10 => (f_X5_at σ q10 a0 2).bind fun v12 => if v6 = a1 then (some (v12, σ)) else ((f_X7_isHouse σ v6).bind fun v15 => if v15 = 0 then (some (1000000, σ)) else ((gQ σ 6 t 0).bind fun q18 => (gQ σ 3 q18 5).bind fun q20 => (f_X5_at σ q20 a0 1).bind fun v22 => (f_X7_worth σ t 2 v6 v22 v12).bind fun p24 => if p24.1 = 0 then (some (1000000, p24.2)) else ((gQ p24.2 6 t 6).bind fun q27 => (aI p24.2 0 q27 v6).bind fun v29 => some (v12 + v29, p24.2))))) else none
theorem gd_X7_dayOfNews {σ : St} {t : Nat} {a0 : Int32} {a1 : Int32} {r : Int32 × St} (h : f_X7_dayOfNews σ t a0 a1 = some r) : isO σ 6 t = true := by
  unfold f_X7_dayOfNews at h
  by_cases hg : isO σ 6 t = true
  · exact hg
  · rw [if_neg hg] at h
    cases h
set_option maxRecDepth 100000 in
set_option maxHeartbeats 4000000 in
theorem c_X7_dayOfNews (l : Launch) (G : Gd) (d : Nat) (σ : St) (t : Nat) (a0 : Int32) (a1 : Int32) (r0 : Int32) (σ' : St) (hf : f_X7_dayOfNews σ t a0 a1 = some (r0, σ')) : MetV l G (d + 303) mi_X7_dayOfNews [.ref t, .int a0, .int a1] σ (some (.int r0)) σ' 0 0 := by
  unfold f_X7_dayOfNews at hf
  refine MetV.of [(0, .ref t), (1, .int a0), (2, .int a1)] (by decide +kernel) rfl (Nat.le_of_ble_eq_true rfl) ?_
  intro X hQ
  by_cases hg : isO σ 6 t = true
  · rw [if_pos hg] at hf
    refine V_aload_n 0 1 rfl dX7_dayOfNews_0 rfl rfl ?_
    obtain ⟨q2, h1, hf⟩ := ob hf
    refine V_getQ (n := 10) (ty := tyX7) 4 h1 cf_6 rfl wd_fl_X7_12 dX7_dayOfNews_1 rfl ?_
    obtain ⟨q4, h3, hf⟩ := ob hf
    refine V_getQ (n := 11) (ty := tyX4) 7 h3 cf_3 rfl wd_fl_X7_286 dX7_dayOfNews_4 rfl ?_
    refine V_iload_n 1 8 rfl dX7_dayOfNews_7 rfl rfl ?_
    refine V_iconst 0 9 dX7_dayOfNews_8 rfl kiconst_0 ?_
    obtain ⟨v6, h5, hf⟩ := ob hf
    refine V_callV (rest := []) (T := TX5) (n := 4) (ci := 4) 0 0 12 [.int v6] (c_X5_at l G (d + 301) _ _ _ _ _ h5) (by omega) ok_X5_at okv_X5_at (gd_X5_at h5) rfl wd_ml_X7_76 rfl rfl (Nat.le_of_ble_eq_true rfl) rfl rfl (Or.inl ⟨rfl, rfl⟩) dX7_dayOfNews_9 rfl rfl ?_
    refine V_istore_n [(3, .int v6), (0, .ref t), (1, .int a0), (2, .int a1)] 13 dX7_dayOfNews_12 rfl (by decide) rfl rfl ?_
    refine V_aload_n 1 14 rfl dX7_dayOfNews_13 rfl rfl ?_
    obtain ⟨q8, h7, hf⟩ := ob hf
    refine V_getQ (n := 10) (ty := tyX7) 17 h7 cf_6 rfl wd_fl_X7_12 dX7_dayOfNews_14 rfl ?_
    obtain ⟨q10, h9, hf⟩ := ob hf
    refine V_getQ (n := 11) (ty := tyX4) 20 h9 cf_3 rfl wd_fl_X7_286 dX7_dayOfNews_17 rfl ?_
    refine V_iload_n 2 21 rfl dX7_dayOfNews_20 rfl rfl ?_
    refine V_iconst 2 22 dX7_dayOfNews_21 rfl kiconst_2 ?_
    obtain ⟨v12, h11, hf⟩ := ob hf
    refine V_callV (rest := []) (T := TX5) (n := 4) (ci := 4) 0 0 25 [.int v12] (c_X5_at l G (d + 301) _ _ _ _ _ h11) (by omega) ok_X5_at okv_X5_at (gd_X5_at h11) rfl wd_ml_X7_76 rfl rfl (Nat.le_of_ble_eq_true rfl) rfl rfl (Or.inl ⟨rfl, rfl⟩) dX7_dayOfNews_22 rfl rfl ?_
    refine V_istore [(4, .int v12), (3, .int v6), (0, .ref t), (1, .int a0), (2, .int a1)] 27 dX7_dayOfNews_25 (by decide) rfl rfl ?_
    refine V_iload_n 1 28 rfl dX7_dayOfNews_27 rfl rfl ?_
    refine V_iload_n 4 29 rfl dX7_dayOfNews_28 rfl rfl ?_
    refine V_icmp_ne 35 32 dX7_dayOfNews_29 (by decide) rfl (fun c13 => ?_) (fun c13 => ?_)
    · rw [if_neg c13] at hf
      refine V_iload_n 1 36 rfl dX7_dayOfNews_35 rfl rfl ?_
      obtain ⟨v15, h14, hf⟩ := ob hf
      refine V_callS (rest := []) 0 0 39 [.int v15] (c_X7_isHouse l G (d + 300) _ _ _ h14) (by omega) ok_X7_isHouse oks_X7_isHouse wd_ml_X7_280 rfl rfl (Nat.le_of_ble_eq_true rfl) rfl rfl (Or.inl ⟨rfl, rfl⟩) dX7_dayOfNews_36 rfl rfl ?_
      refine V_if_eq 65 42 dX7_dayOfNews_39 (by decide) rfl (fun c16 => ?_) (fun c16 => ?_)
      · rw [if_pos c16] at hf
        refine V_ldc_w 1000000 68 dX7_dayOfNews_65 rfl wd_kk_X7_296 ?_
        have er := Option.some.inj hf
        obtain ⟨e1, e2⟩ := Prod.mk.inj er
        subst e1
        subst e2
        exact V_iret hQ rfl dX7_dayOfNews_68
      · rw [if_neg c16] at hf
        refine V_aload_n 2 43 rfl dX7_dayOfNews_42 rfl rfl ?_
        refine V_iconst 2 44 dX7_dayOfNews_43 rfl kiconst_2 ?_
        refine V_iload_n 1 45 rfl dX7_dayOfNews_44 rfl rfl ?_
        refine V_aload_n 2 46 rfl dX7_dayOfNews_45 rfl rfl ?_
        obtain ⟨q18, h17, hf⟩ := ob hf
        refine V_getQ (n := 10) (ty := tyX7) 49 h17 cf_6 rfl wd_fl_X7_12 dX7_dayOfNews_46 rfl ?_
        obtain ⟨q20, h19, hf⟩ := ob hf
        refine V_getQ (n := 11) (ty := tyX4) 52 h19 cf_3 rfl wd_fl_X7_286 dX7_dayOfNews_49 rfl ?_
        refine V_iload_n 3 53 rfl dX7_dayOfNews_52 rfl rfl ?_
        refine V_iconst 1 54 dX7_dayOfNews_53 rfl kiconst_1 ?_
        obtain ⟨v22, h21, hf⟩ := ob hf
        refine V_callV (rest := [.int v6, .int 2, .ref t]) (T := TX5) (n := 4) (ci := 4) 0 0 57 [.int v22, .int v6, .int 2, .ref t] (c_X5_at l G (d + 301) _ _ _ _ _ h21) (by omega) ok_X5_at okv_X5_at (gd_X5_at h21) rfl wd_ml_X7_76 rfl rfl (Nat.le_of_ble_eq_true rfl) rfl rfl (Or.inl ⟨rfl, rfl⟩) dX7_dayOfNews_54 rfl rfl ?_
        refine V_iload 0 59 rfl dX7_dayOfNews_57 rfl ?_
        obtain ⟨p24, h23, hf⟩ := ob hf
        refine V_callV (rest := []) (T := TX7) (n := 10) (ci := 6) 0 0 62 [.int p24.1] (c_X7_worth l G (d + 0) _ _ _ _ _ _ _ _ h23) (by omega) ok_X7_worth okv_X7_worth (gd_X7_worth h23) rfl wd_ml_X7_207 rfl rfl (Nat.le_of_ble_eq_true rfl) rfl rfl (Or.inl ⟨rfl, rfl⟩) dX7_dayOfNews_59 rfl rfl ?_
        refine V_if_ne 69 65 dX7_dayOfNews_62 (by decide) rfl (fun c25 => ?_) (fun c25 => ?_)
        · rw [if_neg c25] at hf
          refine V_iload 0 71 rfl dX7_dayOfNews_69 rfl ?_
          refine V_aload_n 2 72 rfl dX7_dayOfNews_71 rfl rfl ?_
          obtain ⟨q27, h26, hf⟩ := ob hf
          refine V_getQ (n := 10) (ty := tyX7) 75 h26 cf_6 rfl wd_fl_X7_43 dX7_dayOfNews_72 rfl ?_
          refine V_iload_n 1 76 rfl dX7_dayOfNews_75 rfl rfl ?_
          obtain ⟨v29, h28, hf⟩ := ob hf
          refine V_iald 77 h28 dX7_dayOfNews_76 rfl ?_
          refine V_iadd 78 dX7_dayOfNews_77 rfl ?_
          have er := Option.some.inj hf
          obtain ⟨e1, e2⟩ := Prod.mk.inj er
          subst e1
          subst e2
          exact V_iret hQ rfl dX7_dayOfNews_78
        · rw [if_pos c25] at hf
          refine V_ldc_w 1000000 68 dX7_dayOfNews_65 rfl wd_kk_X7_296 ?_
          have er := Option.some.inj hf
          obtain ⟨e1, e2⟩ := Prod.mk.inj er
          subst e1
          subst e2
          exact V_iret hQ rfl dX7_dayOfNews_68
    · rw [if_pos c13] at hf
      refine V_iload 0 34 rfl dX7_dayOfNews_32 rfl ?_
      have er := Option.some.inj hf
      obtain ⟨e1, e2⟩ := Prod.mk.inj er
      subst e1
      subst e2
      exact V_iret hQ rfl dX7_dayOfNews_34
  · rw [if_neg hg] at hf
    cases hf
abbrev mi_X7_insertDay : MI := (yX7_insertDay, cX7_insertDay, 4, none)
theorem ok_X7_insertDay : OkN mi_X7_insertDay 2 := ⟨wd_cd_X7_insertDay, wd_in_X7, ⟨by decide +kernel, by decide +kernel, by decide +kernel⟩, by decide⟩
theorem okv_X7_insertDay : Cond.instanceMethod (mi_X7_insertDay).1 ∈ tb ∧ Cond.selects (mi_X7_insertDay).1.cls (mi_X7_insertDay).1 (mi_X7_insertDay).1 ∈ tb := ⟨wd_im_X7_insertDay, wd_se_X7_insertDay⟩
def f_X7_insertDay_L12 (t : Nat) (x1 : Int32) : Nat → Int32 → St → Option (Int32 × St)
  | 0, _, _ => none
  | n + 1, x3, σ => if x3 ≤ 0 then (some (x3, σ)) else ((gQ σ 6 t 7).bind fun q8 => (aI σ 0 q8 (x3 - 1)).bind fun v10 => if v10 ≤ x1 then (some (x3, σ)) else ((gQ σ 6 t 7).bind fun q13 => (gQ σ 6 t 7).bind fun q15 => (aI σ 0 q15 (x3 - 1)).bind fun v17 => (sI σ q13 x3 v17).bind fun s19 => f_X7_insertDay_L12 t x1 n (x3 + (-1)) s19))
def f_X7_insertDay (σ : St) (t : Nat) (a0 : Int32) (a1 : Int32) : Option St := if isO σ 6 t = true then ((gQ σ 6 t 7).bind fun q2 => (aL σ 0 q2).bind fun v3 => if a1 < v3 then ((f_X7_insertDay_L12 t a0 3000 a1 σ).bind fun p20 => (gQ p20.2 6 t 7).bind fun q23 => (sI p20.2 q23 p20.1 a0).bind fun s25 => some s25) else (some σ)) else none
theorem gd_X7_insertDay {σ : St} {t : Nat} {a0 : Int32} {a1 : Int32} {r : St} (h : f_X7_insertDay σ t a0 a1 = some r) : isO σ 6 t = true := by
  unfold f_X7_insertDay at h
  by_cases hg : isO σ 6 t = true
  · exact hg
  · rw [if_neg hg] at h
    cases h
set_option maxRecDepth 100000 in
set_option maxHeartbeats 4000000 in
theorem c_X7_insertDay (l : Launch) (G : Gd) (d : Nat) (σ : St) (t : Nat) (a0 : Int32) (a1 : Int32) (σ' : St) (hf : f_X7_insertDay σ t a0 a1 = some σ') : MetV l G (d + 1) mi_X7_insertDay [.ref t, .int a0, .int a1] σ none σ' 0 0 := by
  unfold f_X7_insertDay at hf
  refine MetV.of [(0, .ref t), (1, .int a0), (2, .int a1)] (by decide +kernel) rfl (Nat.le_of_ble_eq_true rfl) ?_
  intro X hQ
  have L12 : ∀ (x1 : Int32) (n : Nat) (x3 : Int32) (σ : St) (p : Int32 × St), f_X7_insertDay_L12 t x1 n x3 σ = some p → V mi_X7_insertDay l G (d + 1) 0 0 X 0 0 48 [(3, .int p.1), (0, .ref t), (1, .int x1)] [] p.2 → V mi_X7_insertDay l G (d + 1) 0 0 X 0 0 12 [(3, .int x3), (0, .ref t), (1, .int x1)] [] σ := by
    intro x1 n
    induction n with
    | zero =>
      intro x3 σ p hf
      exact absurd (show (none : Option _) = some p from hf) (by simp)
    | succ n ih =>
      intro x3 σ p hf hk
      rw [f_X7_insertDay_L12] at hf
      refine V_iload_n 0 13 rfl dX7_insertDay_12 rfl rfl ?_
      refine V_if_le 48 16 dX7_insertDay_13 (by decide) rfl (fun c6 => ?_) (fun c6 => ?_)
      · rw [if_pos c6] at hf
        have ep := Option.some.inj hf
        subst ep
        refine V_ls [(3, .int x3), (0, .ref t), (1, .int x1)] [0, 1, 2] rfl ?_
        exact hk
      · rw [if_neg c6] at hf
        refine V_aload_n 1 17 rfl dX7_insertDay_16 rfl rfl ?_
        obtain ⟨q8, h7, hf⟩ := ob hf
        refine V_getQ (n := 10) (ty := tyX7) 20 h7 cf_6 rfl wd_fl_X7_46 dX7_insertDay_17 rfl ?_
        refine V_iload_n 0 21 rfl dX7_insertDay_20 rfl rfl ?_
        refine V_iconst 1 22 dX7_insertDay_21 rfl kiconst_1 ?_
        refine V_isub 23 dX7_insertDay_22 rfl ?_
        obtain ⟨v10, h9, hf⟩ := ob hf
        refine V_iald 24 h9 dX7_insertDay_23 rfl ?_
        refine V_iload_n 2 25 rfl dX7_insertDay_24 rfl rfl ?_
        refine V_icmp_le 48 28 dX7_insertDay_25 (by decide) rfl (fun c11 => ?_) (fun c11 => ?_)
        · rw [if_pos c11] at hf
          have ep := Option.some.inj hf
          subst ep
          refine V_ls [(3, .int x3), (0, .ref t), (1, .int x1)] [0, 1, 2] rfl ?_
          exact hk
        · rw [if_neg c11] at hf
          refine V_aload_n 1 29 rfl dX7_insertDay_28 rfl rfl ?_
          obtain ⟨q13, h12, hf⟩ := ob hf
          refine V_getQ (n := 10) (ty := tyX7) 32 h12 cf_6 rfl wd_fl_X7_46 dX7_insertDay_29 rfl ?_
          refine V_iload_n 0 33 rfl dX7_insertDay_32 rfl rfl ?_
          refine V_aload_n 1 34 rfl dX7_insertDay_33 rfl rfl ?_
          obtain ⟨q15, h14, hf⟩ := ob hf
          refine V_getQ (n := 10) (ty := tyX7) 37 h14 cf_6 rfl wd_fl_X7_46 dX7_insertDay_34 rfl ?_
          refine V_iload_n 0 38 rfl dX7_insertDay_37 rfl rfl ?_
          refine V_iconst 1 39 dX7_insertDay_38 rfl kiconst_1 ?_
          refine V_isub 40 dX7_insertDay_39 rfl ?_
          obtain ⟨v17, h16, hf⟩ := ob hf
          refine V_iald 41 h16 dX7_insertDay_40 rfl ?_
          obtain ⟨s19, h18, hf⟩ := ob hf
          refine V_iast 42 h18 dX7_insertDay_41 rfl ?_
          refine V_iinc (x3 + (-1)) 0 [(3, .int (x3 + (-1))), (0, .ref t), (1, .int x1)] 45 dX7_insertDay_42 rfl (by rw [kiconst_m1]) (by decide) rfl rfl ?_
          refine V_goto 12 dX7_insertDay_45 (by decide) ?_
          refine V_ls [(3, .int (x3 + (-1))), (0, .ref t), (1, .int x1)] [0, 1, 2] rfl ?_
          exact ih _ _ _ hf hk
  by_cases hg : isO σ 6 t = true
  · rw [if_pos hg] at hf
    refine V_iload_n 2 1 rfl dX7_insertDay_0 rfl rfl ?_
    refine V_aload_n 0 2 rfl dX7_insertDay_1 rfl rfl ?_
    obtain ⟨q2, h1, hf⟩ := ob hf
    refine V_getQ (n := 10) (ty := tyX7) 5 h1 cf_6 rfl wd_fl_X7_46 dX7_insertDay_2 rfl ?_
    obtain ⟨v3, h4, hf⟩ := ob hf
    refine V_alen (t := 0) 6 h4 (by decide) dX7_insertDay_5 rfl ?_
    refine V_icmp_lt 10 9 dX7_insertDay_6 (by decide) rfl (fun c5 => ?_) (fun c5 => ?_)
    · rw [if_pos c5] at hf
      refine V_iload_n 2 11 rfl dX7_insertDay_10 rfl rfl ?_
      refine V_istore_n [(3, .int a1), (0, .ref t), (1, .int a0), (2, .int a1)] 12 dX7_insertDay_11 rfl (by decide) rfl rfl ?_
      obtain ⟨p20, h21, hf⟩ := ob hf
      refine V_ls [(3, .int a1), (0, .ref t), (1, .int a0)] [0, 1, 2] rfl ?_
      refine L12 a0 3000 a1 σ p20 h21 ?_
      refine V_aload_n 1 49 rfl dX7_insertDay_48 rfl rfl ?_
      obtain ⟨q23, h22, hf⟩ := ob hf
      refine V_getQ (n := 10) (ty := tyX7) 52 h22 cf_6 rfl wd_fl_X7_46 dX7_insertDay_49 rfl ?_
      refine V_iload_n 0 53 rfl dX7_insertDay_52 rfl rfl ?_
      refine V_iload_n 2 54 rfl dX7_insertDay_53 rfl rfl ?_
      obtain ⟨s25, h24, hf⟩ := ob hf
      refine V_iast 55 h24 dX7_insertDay_54 rfl ?_
      have er := Option.some.inj hf
      subst er
      exact V_vret hQ rfl dX7_insertDay_55
    · rw [if_neg c5] at hf
      have er := Option.some.inj hf
      subst er
      exact V_vret hQ rfl dX7_insertDay_9
  · rw [if_neg hg] at hf
    cases hf
abbrev mi_X7_knows : MI := (yX7_knows, cX7_knows, 7, some .int)
theorem ok_X7_knows : OkN mi_X7_knows 3 := ⟨wd_cd_X7_knows, wd_in_X7, ⟨by decide +kernel, by decide +kernel, by decide +kernel⟩, by decide⟩
theorem okv_X7_knows : Cond.instanceMethod (mi_X7_knows).1 ∈ tb ∧ Cond.selects (mi_X7_knows).1.cls (mi_X7_knows).1 (mi_X7_knows).1 ∈ tb := ⟨wd_im_X7_knows, wd_se_X7_knows⟩
def f_X7_knows_L49 (t : Nat) (x1 : Int32) (x2 : Int32) : Nat → Int32 → Int32 → St → Option (Int32 × Int32 × St)
  | 0, _, _, _ => none
  | n + 1, x5, x4, σ => (gQ σ 6 t 0).bind fun q21 => (gQ σ 3 q21 5).bind fun q23 => (gI σ 4 q23 3).bind fun v25 => if v25 ≤ x5 then (some (x5, x4, σ)) else ((gQ σ 6 t 0).bind fun q28 => (gQ σ 3 q28 5).bind fun q30 => (f_X5_at σ q30 x5 3).bind fun v32 => if v32 = 1 then ((gQ σ 6 t 0).bind fun q35 => (gQ σ 3 q35 5).bind fun q37 => (f_X5_at σ q37 x5 1).bind fun v39 => if v39 = x2 then ((f_X7_dayOfNews σ t x5 x1).bind fun p42 => if 1000000 ≤ p42.1 then (f_X7_knows_L49 t x1 x2 n (x5 + 1) x4 p42.2) else ((f_X7_insertDay p42.2 t p42.1 x4).bind fun s45 => f_X7_knows_L49 t x1 x2 n (x5 + 1) (x4 + 1) s45)) else (f_X7_knows_L49 t x1 x2 n (x5 + 1) x4 σ)) else (f_X7_knows_L49 t x1 x2 n (x5 + 1) x4 σ))
def f_X7_knows (σ : St) (t : Nat) (a0 : Int32) (a1 : Int32) (a2 : Int32) : Option (Int32 × St) := if isO σ 6 t = true then ((f_X7_isHouse σ a0).bind fun v2 => if v2 = 0 then ((f_X7_fails σ t (-1000001)).bind fun p5 => some (p5.1, p5.2)) else ((gQ σ 6 t 0).bind fun q7 => (gQ σ 3 q7 1).bind fun q9 => (f_X5_has σ q9 a1).bind fun v11 => if v11 = 0 then ((f_X7_fails σ t (-1000001)).bind fun p14 => some (p14.1, p14.2)) else ((f_X7_outside σ a2 1 30).bind fun v16 => if v16 = 0 then ((f_X7_findBehind σ t a0).bind fun s19 => (f_X7_knows_L49 t a0 a1 3000 0 0 s19).bind fun p46 => if a2 ≤ p46.2.1 then ((gQ p46.2.2 6 t 7).bind fun q50 => (aI p46.2.2 0 q50 (a2 - 1)).bind fun v52 => some (v52, p46.2.2)) else ((f_X7_fails p46.2.2 t (-1000002)).bind fun p54 => some (p54.1, p54.2))) else ((f_X7_fails σ t (-1000001)).bind fun p56 => some (p56.1, p56.2))))) else none
theorem gd_X7_knows {σ : St} {t : Nat} {a0 : Int32} {a1 : Int32} {a2 : Int32} {r : Int32 × St} (h : f_X7_knows σ t a0 a1 a2 = some r) : isO σ 6 t = true := by
  unfold f_X7_knows at h
  by_cases hg : isO σ 6 t = true
  · exact hg
  · rw [if_neg hg] at h
    cases h
set_option maxRecDepth 100000 in
set_option maxHeartbeats 4000000 in
theorem c_X7_knows (l : Launch) (G : Gd) (d : Nat) (σ : St) (t : Nat) (a0 : Int32) (a1 : Int32) (a2 : Int32) (r0 : Int32) (σ' : St) (hf : f_X7_knows σ t a0 a1 a2 = some (r0, σ')) : MetV l G (d + 304) mi_X7_knows [.ref t, .int a0, .int a1, .int a2] σ (some (.int r0)) σ' 0 0 := by
  unfold f_X7_knows at hf
  refine MetV.of [(0, .ref t), (1, .int a0), (2, .int a1), (3, .int a2)] (by decide +kernel) rfl (Nat.le_of_ble_eq_true rfl) ?_
  intro X hQ
  have L49 : ∀ (x1 : Int32) (x2 : Int32) (x3 : Int32) (n : Nat) (x5 : Int32) (x4 : Int32) (σ : St) (p : Int32 × Int32 × St), f_X7_knows_L49 t x1 x2 n x5 x4 σ = some p → V mi_X7_knows l G (d + 304) 0 0 X 0 0 132 [(5, .int p.1), (4, .int p.2.1), (0, .ref t), (1, .int x1), (2, .int x2), (3, .int x3)] [] p.2.2 → V mi_X7_knows l G (d + 304) 0 0 X 0 0 49 [(5, .int x5), (4, .int x4), (0, .ref t), (1, .int x1), (2, .int x2), (3, .int x3)] [] σ := by
    intro x1 x2 x3 n
    induction n with
    | zero =>
      intro x5 x4 σ p hf
      exact absurd (show (none : Option _) = some p from hf) (by simp)
    | succ n ih =>
      intro x5 x4 σ p hf hk
      rw [f_X7_knows_L49] at hf
      refine V_iload 0 51 rfl dX7_knows_49 rfl ?_
      refine V_aload_n 2 52 rfl dX7_knows_51 rfl rfl ?_
      obtain ⟨q21, h20, hf⟩ := ob hf
      refine V_getQ (n := 10) (ty := tyX7) 55 h20 cf_6 rfl wd_fl_X7_12 dX7_knows_52 rfl ?_
      obtain ⟨q23, h22, hf⟩ := ob hf
      refine V_getQ (n := 11) (ty := tyX4) 58 h22 cf_3 rfl wd_fl_X7_286 dX7_knows_55 rfl ?_
      obtain ⟨v25, h24, hf⟩ := ob hf
      refine V_getI (n := 4) (ty := tyX5) 61 h24 cf_4 rfl wd_fl_X7_229 dX7_knows_58 rfl ?_
      refine V_icmp_ge 132 64 dX7_knows_61 (by decide) rfl (fun c26 => ?_) (fun c26 => ?_)
      · rw [if_pos c26] at hf
        have ep := Option.some.inj hf
        subst ep
        refine V_ls [(5, .int x5), (4, .int x4), (0, .ref t), (1, .int x1), (2, .int x2), (3, .int x3)] [0, 1, 2, 3, 4, 5] rfl ?_
        exact hk
      · rw [if_neg c26] at hf
        refine V_aload_n 2 65 rfl dX7_knows_64 rfl rfl ?_
        obtain ⟨q28, h27, hf⟩ := ob hf
        refine V_getQ (n := 10) (ty := tyX7) 68 h27 cf_6 rfl wd_fl_X7_12 dX7_knows_65 rfl ?_
        obtain ⟨q30, h29, hf⟩ := ob hf
        refine V_getQ (n := 11) (ty := tyX4) 71 h29 cf_3 rfl wd_fl_X7_286 dX7_knows_68 rfl ?_
        refine V_iload 0 73 rfl dX7_knows_71 rfl ?_
        refine V_iconst 3 74 dX7_knows_73 rfl kiconst_3 ?_
        obtain ⟨v32, h31, hf⟩ := ob hf
        refine V_callV (rest := []) (T := TX5) (n := 4) (ci := 4) 0 0 77 [.int v32] (c_X5_at l G (d + 302) _ _ _ _ _ h31) (by omega) ok_X5_at okv_X5_at (gd_X5_at h31) rfl wd_ml_X7_76 rfl rfl (Nat.le_of_ble_eq_true rfl) rfl rfl (Or.inl ⟨rfl, rfl⟩) dX7_knows_74 rfl rfl ?_
        refine V_iconst 1 78 dX7_knows_77 rfl kiconst_1 ?_
        refine V_icmp_ne 126 81 dX7_knows_78 (by decide) rfl (fun c33 => ?_) (fun c33 => ?_)
        · rw [if_neg c33] at hf
          refine V_iinc (x5 + 1) 0 [(5, .int (x5 + 1)), (4, .int x4), (0, .ref t), (1, .int x1), (2, .int x2), (3, .int x3)] 129 dX7_knows_126 rfl (by rw [kiconst_1]) (by decide) rfl rfl ?_
          refine V_goto 49 dX7_knows_129 (by decide) ?_
          refine V_ls [(5, .int (x5 + 1)), (4, .int x4), (0, .ref t), (1, .int x1), (2, .int x2), (3, .int x3)] [0, 1, 2, 3, 4, 5] rfl ?_
          exact ih _ _ _ _ hf hk
        · rw [if_pos c33] at hf
          refine V_aload_n 2 82 rfl dX7_knows_81 rfl rfl ?_
          obtain ⟨q35, h34, hf⟩ := ob hf
          refine V_getQ (n := 10) (ty := tyX7) 85 h34 cf_6 rfl wd_fl_X7_12 dX7_knows_82 rfl ?_
          obtain ⟨q37, h36, hf⟩ := ob hf
          refine V_getQ (n := 11) (ty := tyX4) 88 h36 cf_3 rfl wd_fl_X7_286 dX7_knows_85 rfl ?_
          refine V_iload 0 90 rfl dX7_knows_88 rfl ?_
          refine V_iconst 1 91 dX7_knows_90 rfl kiconst_1 ?_
          obtain ⟨v39, h38, hf⟩ := ob hf
          refine V_callV (rest := []) (T := TX5) (n := 4) (ci := 4) 0 0 94 [.int v39] (c_X5_at l G (d + 302) _ _ _ _ _ h38) (by omega) ok_X5_at okv_X5_at (gd_X5_at h38) rfl wd_ml_X7_76 rfl rfl (Nat.le_of_ble_eq_true rfl) rfl rfl (Or.inl ⟨rfl, rfl⟩) dX7_knows_91 rfl rfl ?_
          refine V_iload_n 4 95 rfl dX7_knows_94 rfl rfl ?_
          refine V_icmp_ne 126 98 dX7_knows_95 (by decide) rfl (fun c40 => ?_) (fun c40 => ?_)
          · rw [if_neg c40] at hf
            refine V_iinc (x5 + 1) 0 [(5, .int (x5 + 1)), (4, .int x4), (0, .ref t), (1, .int x1), (2, .int x2), (3, .int x3)] 129 dX7_knows_126 rfl (by rw [kiconst_1]) (by decide) rfl rfl ?_
            refine V_goto 49 dX7_knows_129 (by decide) ?_
            refine V_ls [(5, .int (x5 + 1)), (4, .int x4), (0, .ref t), (1, .int x1), (2, .int x2), (3, .int x3)] [0, 1, 2, 3, 4, 5] rfl ?_
            exact ih _ _ _ _ hf hk
          · rw [if_pos c40] at hf
            refine V_aload_n 2 99 rfl dX7_knows_98 rfl rfl ?_
            refine V_iload 0 101 rfl dX7_knows_99 rfl ?_
            refine V_iload_n 3 102 rfl dX7_knows_101 rfl rfl ?_
            obtain ⟨p42, h41, hf⟩ := ob hf
            refine V_callV (rest := []) (T := TX7) (n := 10) (ci := 6) 0 0 105 [.int p42.1] (c_X7_dayOfNews l G (d + 0) _ _ _ _ _ _ h41) (by omega) ok_X7_dayOfNews okv_X7_dayOfNews (gd_X7_dayOfNews h41) rfl wd_ml_X7_293 rfl rfl (Nat.le_of_ble_eq_true rfl) rfl rfl (Or.inl ⟨rfl, rfl⟩) dX7_knows_102 rfl rfl ?_
            refine V_istore [(6, .int p42.1), (5, .int x5), (4, .int x4), (0, .ref t), (1, .int x1), (2, .int x2), (3, .int x3)] 107 dX7_knows_105 (by decide) rfl rfl ?_
            refine V_iload 0 109 rfl dX7_knows_107 rfl ?_
            refine V_ldc_w 1000000 112 dX7_knows_109 rfl wd_kk_X7_296 ?_
            refine V_icmp_ge 126 115 dX7_knows_112 (by decide) rfl (fun c43 => ?_) (fun c43 => ?_)
            · rw [if_pos c43] at hf
              refine V_iinc (x5 + 1) 1 [(5, .int (x5 + 1)), (6, .int p42.1), (4, .int x4), (0, .ref t), (1, .int x1), (2, .int x2), (3, .int x3)] 129 dX7_knows_126 rfl (by rw [kiconst_1]) (by decide) rfl rfl ?_
              refine V_goto 49 dX7_knows_129 (by decide) ?_
              refine V_ls [(5, .int (x5 + 1)), (4, .int x4), (0, .ref t), (1, .int x1), (2, .int x2), (3, .int x3)] [0, 2, 3, 4, 5, 6] rfl ?_
              exact ih _ _ _ _ hf hk
            · rw [if_neg c43] at hf
              refine V_aload_n 3 116 rfl dX7_knows_115 rfl rfl ?_
              refine V_iload 0 118 rfl dX7_knows_116 rfl ?_
              refine V_iload 2 120 rfl dX7_knows_118 rfl ?_
              obtain ⟨s45, h44, hf⟩ := ob hf
              refine V_callV (rest := []) (T := TX7) (n := 10) (ci := 6) 0 0 123 [] (c_X7_insertDay l G (d + 302) _ _ _ _ _ h44) (by omega) ok_X7_insertDay okv_X7_insertDay (gd_X7_insertDay h44) rfl wd_ml_X7_297 rfl rfl (Nat.le_of_ble_eq_true rfl) rfl rfl (Or.inl ⟨rfl, rfl⟩) dX7_knows_120 rfl rfl ?_
              refine V_iinc (x4 + 1) 2 [(4, .int (x4 + 1)), (6, .int p42.1), (5, .int x5), (0, .ref t), (1, .int x1), (2, .int x2), (3, .int x3)] 126 dX7_knows_123 rfl (by rw [kiconst_1]) (by decide) rfl rfl ?_
              refine V_iinc (x5 + 1) 2 [(5, .int (x5 + 1)), (4, .int (x4 + 1)), (6, .int p42.1), (0, .ref t), (1, .int x1), (2, .int x2), (3, .int x3)] 129 dX7_knows_126 rfl (by rw [kiconst_1]) (by decide) rfl rfl ?_
              refine V_goto 49 dX7_knows_129 (by decide) ?_
              refine V_ls [(5, .int (x5 + 1)), (4, .int (x4 + 1)), (0, .ref t), (1, .int x1), (2, .int x2), (3, .int x3)] [0, 1, 3, 4, 5, 6] rfl ?_
              exact ih _ _ _ _ hf hk
  by_cases hg : isO σ 6 t = true
  · rw [if_pos hg] at hf
    refine V_iload_n 1 1 rfl dX7_knows_0 rfl rfl ?_
    obtain ⟨v2, h1, hf⟩ := ob hf
    refine V_callS (rest := []) 0 0 4 [.int v2] (c_X7_isHouse l G (d + 301) _ _ _ h1) (by omega) ok_X7_isHouse oks_X7_isHouse wd_ml_X7_280 rfl rfl (Nat.le_of_ble_eq_true rfl) rfl rfl (Or.inl ⟨rfl, rfl⟩) dX7_knows_1 rfl rfl ?_
    refine V_if_eq 31 7 dX7_knows_4 (by decide) rfl (fun c3 => ?_) (fun c3 => ?_)
    · rw [if_pos c3] at hf
      refine V_aload_n 0 32 rfl dX7_knows_31 rfl rfl ?_
      refine V_ldc (-1000001) 34 dX7_knows_32 rfl wd_kk_X7_67 ?_
      obtain ⟨p5, h4, hf⟩ := ob hf
      refine V_callV (rest := []) (T := TX7) (n := 10) (ci := 6) 0 0 37 [.int p5.1] (c_X7_fails l G (d + 301) _ _ _ _ _ h4) (by omega) ok_X7_fails okv_X7_fails (gd_X7_fails h4) rfl wd_ml_X7_68 rfl rfl (Nat.le_of_ble_eq_true rfl) rfl rfl (Or.inl ⟨rfl, rfl⟩) dX7_knows_34 rfl rfl ?_
      have er := Option.some.inj hf
      obtain ⟨e1, e2⟩ := Prod.mk.inj er
      subst e1
      subst e2
      exact V_iret hQ rfl dX7_knows_37
    · rw [if_neg c3] at hf
      refine V_aload_n 0 8 rfl dX7_knows_7 rfl rfl ?_
      obtain ⟨q7, h6, hf⟩ := ob hf
      refine V_getQ (n := 10) (ty := tyX7) 11 h6 cf_6 rfl wd_fl_X7_12 dX7_knows_8 rfl ?_
      obtain ⟨q9, h8, hf⟩ := ob hf
      refine V_getQ (n := 11) (ty := tyX4) 14 h8 cf_3 rfl wd_fl_X7_89 dX7_knows_11 rfl ?_
      refine V_iload_n 2 15 rfl dX7_knows_14 rfl rfl ?_
      obtain ⟨v11, h10, hf⟩ := ob hf
      refine V_callV (rest := []) (T := TX5) (n := 4) (ci := 4) 0 0 18 [.int v11] (c_X5_has l G (d + 302) _ _ _ _ h10) (by omega) ok_X5_has okv_X5_has (gd_X5_has h10) rfl wd_ml_X7_101 rfl rfl (Nat.le_of_ble_eq_true rfl) rfl rfl (Or.inl ⟨rfl, rfl⟩) dX7_knows_15 rfl rfl ?_
      refine V_if_eq 31 21 dX7_knows_18 (by decide) rfl (fun c12 => ?_) (fun c12 => ?_)
      · rw [if_pos c12] at hf
        refine V_aload_n 0 32 rfl dX7_knows_31 rfl rfl ?_
        refine V_ldc (-1000001) 34 dX7_knows_32 rfl wd_kk_X7_67 ?_
        obtain ⟨p14, h13, hf⟩ := ob hf
        refine V_callV (rest := []) (T := TX7) (n := 10) (ci := 6) 0 0 37 [.int p14.1] (c_X7_fails l G (d + 301) _ _ _ _ _ h13) (by omega) ok_X7_fails okv_X7_fails (gd_X7_fails h13) rfl wd_ml_X7_68 rfl rfl (Nat.le_of_ble_eq_true rfl) rfl rfl (Or.inl ⟨rfl, rfl⟩) dX7_knows_34 rfl rfl ?_
        have er := Option.some.inj hf
        obtain ⟨e1, e2⟩ := Prod.mk.inj er
        subst e1
        subst e2
        exact V_iret hQ rfl dX7_knows_37
      · rw [if_neg c12] at hf
        refine V_iload_n 3 22 rfl dX7_knows_21 rfl rfl ?_
        refine V_iconst 1 23 dX7_knows_22 rfl kiconst_1 ?_
        refine V_bipush 30 25 dX7_knows_23 rfl kbipush_30 ?_
        obtain ⟨v16, h15, hf⟩ := ob hf
        refine V_callS (rest := []) 0 0 28 [.int v16] (c_X7_outside l G (d + 302) _ _ _ _ _ h15) (by omega) ok_X7_outside oks_X7_outside wd_ml_X7_57 rfl rfl (Nat.le_of_ble_eq_true rfl) rfl rfl (Or.inl ⟨rfl, rfl⟩) dX7_knows_25 rfl rfl ?_
        refine V_if_eq 38 31 dX7_knows_28 (by decide) rfl (fun c17 => ?_) (fun c17 => ?_)
        · rw [if_pos c17] at hf
          refine V_aload_n 0 39 rfl dX7_knows_38 rfl rfl ?_
          refine V_iload_n 1 40 rfl dX7_knows_39 rfl rfl ?_
          obtain ⟨s19, h18, hf⟩ := ob hf
          refine V_callV (rest := []) (T := TX7) (n := 10) (ci := 6) 0 0 43 [] (c_X7_findBehind l G (d + 300) _ _ _ _ h18) (by omega) ok_X7_findBehind okv_X7_findBehind (gd_X7_findBehind h18) rfl wd_ml_X7_289 rfl rfl (Nat.le_of_ble_eq_true rfl) rfl rfl (Or.inl ⟨rfl, rfl⟩) dX7_knows_40 rfl rfl ?_
          refine V_iconst 0 44 dX7_knows_43 rfl kiconst_0 ?_
          refine V_istore [(4, .int 0), (0, .ref t), (1, .int a0), (2, .int a1), (3, .int a2)] 46 dX7_knows_44 (by decide) rfl rfl ?_
          refine V_iconst 0 47 dX7_knows_46 rfl kiconst_0 ?_
          refine V_istore [(5, .int 0), (4, .int 0), (0, .ref t), (1, .int a0), (2, .int a1), (3, .int a2)] 49 dX7_knows_47 (by decide) rfl rfl ?_
          obtain ⟨p46, h47, hf⟩ := ob hf
          refine V_ls [(5, .int 0), (4, .int 0), (0, .ref t), (1, .int a0), (2, .int a1), (3, .int a2)] [0, 1, 2, 3, 4, 5] rfl ?_
          refine L49 a0 a1 a2 3000 0 0 s19 p46 h47 ?_
          refine V_iload 1 134 rfl dX7_knows_132 rfl ?_
          refine V_iload_n 5 135 rfl dX7_knows_134 rfl rfl ?_
          refine V_icmp_ge 147 138 dX7_knows_135 (by decide) rfl (fun c48 => ?_) (fun c48 => ?_)
          · rw [if_pos c48] at hf
            refine V_aload_n 2 148 rfl dX7_knows_147 rfl rfl ?_
            obtain ⟨q50, h49, hf⟩ := ob hf
            refine V_getQ (n := 10) (ty := tyX7) 151 h49 cf_6 rfl wd_fl_X7_46 dX7_knows_148 rfl ?_
            refine V_iload_n 5 152 rfl dX7_knows_151 rfl rfl ?_
            refine V_iconst 1 153 dX7_knows_152 rfl kiconst_1 ?_
            refine V_isub 154 dX7_knows_153 rfl ?_
            obtain ⟨v52, h51, hf⟩ := ob hf
            refine V_iald 155 h51 dX7_knows_154 rfl ?_
            have er := Option.some.inj hf
            obtain ⟨e1, e2⟩ := Prod.mk.inj er
            subst e1
            subst e2
            exact V_iret hQ rfl dX7_knows_155
          · rw [if_neg c48] at hf
            refine V_aload_n 2 139 rfl dX7_knows_138 rfl rfl ?_
            refine V_ldc (-1000002) 141 dX7_knows_139 rfl wd_kk_X7_117 ?_
            obtain ⟨p54, h53, hf⟩ := ob hf
            refine V_callV (rest := []) (T := TX7) (n := 10) (ci := 6) 0 0 144 [.int p54.1] (c_X7_fails l G (d + 301) _ _ _ _ _ h53) (by omega) ok_X7_fails okv_X7_fails (gd_X7_fails h53) rfl wd_ml_X7_68 rfl rfl (Nat.le_of_ble_eq_true rfl) rfl rfl (Or.inl ⟨rfl, rfl⟩) dX7_knows_141 rfl rfl ?_
            refine V_goto 155 dX7_knows_144 (by decide) ?_
            have er := Option.some.inj hf
            obtain ⟨e1, e2⟩ := Prod.mk.inj er
            subst e1
            subst e2
            exact V_iret hQ rfl dX7_knows_155
        · rw [if_neg c17] at hf
          refine V_aload_n 0 32 rfl dX7_knows_31 rfl rfl ?_
          refine V_ldc (-1000001) 34 dX7_knows_32 rfl wd_kk_X7_67 ?_
          obtain ⟨p56, h55, hf⟩ := ob hf
          refine V_callV (rest := []) (T := TX7) (n := 10) (ci := 6) 0 0 37 [.int p56.1] (c_X7_fails l G (d + 301) _ _ _ _ _ h55) (by omega) ok_X7_fails okv_X7_fails (gd_X7_fails h55) rfl wd_ml_X7_68 rfl rfl (Nat.le_of_ble_eq_true rfl) rfl rfl (Or.inl ⟨rfl, rfl⟩) dX7_knows_34 rfl rfl ?_
          have er := Option.some.inj hf
          obtain ⟨e1, e2⟩ := Prod.mk.inj er
          subst e1
          subst e2
          exact V_iret hQ rfl dX7_knows_37
  · rw [if_neg hg] at hf
    cases hf
abbrev mi_X7_rule : MI := (yX7_rule, cX7_rule, 4, some .int)
theorem ok_X7_rule : OkN mi_X7_rule 2 := ⟨wd_cd_X7_rule, wd_in_X7, ⟨by decide +kernel, by decide +kernel, by decide +kernel⟩, by decide⟩
theorem okv_X7_rule : Cond.instanceMethod (mi_X7_rule).1 ∈ tb ∧ Cond.selects (mi_X7_rule).1.cls (mi_X7_rule).1 (mi_X7_rule).1 ∈ tb := ⟨wd_im_X7_rule, wd_se_X7_rule⟩
def f_X7_rule (σ : St) (t : Nat) (a0 : Int32) (a1 : Int32) : Option (Int32 × St) := if isO σ 6 t = true then ((f_X7_outside σ a0 1 99).bind fun v2 => if v2 = 0 then ((gQ σ 6 t 0).bind fun q7 => (gQ σ 3 q7 2).bind fun q9 => (gI σ 4 q9 3).bind fun v11 => (f_X7_areAmong σ a1 v11).bind fun v13 => if v13 = 0 then ((f_X7_fails σ t (-1000001)).bind fun p43 => some (p43.1, p43.2)) else ((gQ σ 6 t 0).bind fun q16 => (gQ σ 3 q16 6).bind fun q18 => (f_X5_isFull σ q18).bind fun v20 => if v20 = 0 then ((gQ σ 6 t 0).bind fun q23 => (gQ σ 3 q23 6).bind fun q25 => (f_X5_add σ q25).bind fun p27 => (gQ p27.2 6 t 0).bind fun q29 => (gQ p27.2 3 q29 6).bind fun q31 => (f_X5_set p27.2 q31 p27.1 0 a0).bind fun s33 => (gQ s33 6 t 0).bind fun q35 => (gQ s33 3 q35 6).bind fun q37 => (f_X5_set s33 q37 p27.1 1 a1).bind fun s39 => some (p27.1, s39)) else ((f_X7_fails σ t (-1000004)).bind fun p41 => some (p41.1, p41.2)))) else ((f_X7_fails σ t (-1000001)).bind fun p5 => some (p5.1, p5.2))) else none
theorem gd_X7_rule {σ : St} {t : Nat} {a0 : Int32} {a1 : Int32} {r : Int32 × St} (h : f_X7_rule σ t a0 a1 = some r) : isO σ 6 t = true := by
  unfold f_X7_rule at h
  by_cases hg : isO σ 6 t = true
  · exact hg
  · rw [if_neg hg] at h
    cases h
set_option maxRecDepth 100000 in
set_option maxHeartbeats 4000000 in
theorem c_X7_rule (l : Launch) (G : Gd) (d : Nat) (σ : St) (t : Nat) (a0 : Int32) (a1 : Int32) (r0 : Int32) (σ' : St) (hf : f_X7_rule σ t a0 a1 = some (r0, σ')) : MetV l G (d + 3) mi_X7_rule [.ref t, .int a0, .int a1] σ (some (.int r0)) σ' 0 0 := by
  unfold f_X7_rule at hf
  refine MetV.of [(0, .ref t), (1, .int a0), (2, .int a1)] (by decide +kernel) rfl (Nat.le_of_ble_eq_true rfl) ?_
  intro X hQ
  by_cases hg : isO σ 6 t = true
  · rw [if_pos hg] at hf
    refine V_iload_n 1 1 rfl dX7_rule_0 rfl rfl ?_
    refine V_iconst 1 2 dX7_rule_1 rfl kiconst_1 ?_
    refine V_bipush 99 4 dX7_rule_2 rfl kbipush_99 ?_
    obtain ⟨v2, h1, hf⟩ := ob hf
    refine V_callS (rest := []) 0 0 7 [.int v2] (c_X7_outside l G (d + 1) _ _ _ _ _ h1) (by omega) ok_X7_outside oks_X7_outside wd_ml_X7_57 rfl rfl (Nat.le_of_ble_eq_true rfl) rfl rfl (Or.inl ⟨rfl, rfl⟩) dX7_rule_4 rfl rfl ?_
    refine V_if_ne 27 10 dX7_rule_7 (by decide) rfl (fun c3 => ?_) (fun c3 => ?_)
    · rw [if_neg c3] at hf
      refine V_aload_n 0 28 rfl dX7_rule_27 rfl rfl ?_
      refine V_ldc (-1000001) 30 dX7_rule_28 rfl wd_kk_X7_67 ?_
      obtain ⟨p5, h4, hf⟩ := ob hf
      refine V_callV (rest := []) (T := TX7) (n := 10) (ci := 6) 0 0 33 [.int p5.1] (c_X7_fails l G (d + 0) _ _ _ _ _ h4) (by omega) ok_X7_fails okv_X7_fails (gd_X7_fails h4) rfl wd_ml_X7_68 rfl rfl (Nat.le_of_ble_eq_true rfl) rfl rfl (Or.inl ⟨rfl, rfl⟩) dX7_rule_30 rfl rfl ?_
      have er := Option.some.inj hf
      obtain ⟨e1, e2⟩ := Prod.mk.inj er
      subst e1
      subst e2
      exact V_iret hQ rfl dX7_rule_33
    · rw [if_pos c3] at hf
      refine V_iload_n 2 11 rfl dX7_rule_10 rfl rfl ?_
      refine V_aload_n 0 12 rfl dX7_rule_11 rfl rfl ?_
      obtain ⟨q7, h6, hf⟩ := ob hf
      refine V_getQ (n := 10) (ty := tyX7) 15 h6 cf_6 rfl wd_fl_X7_12 dX7_rule_12 rfl ?_
      obtain ⟨q9, h8, hf⟩ := ob hf
      refine V_getQ (n := 11) (ty := tyX4) 18 h8 cf_3 rfl wd_fl_X7_126 dX7_rule_15 rfl ?_
      obtain ⟨v11, h10, hf⟩ := ob hf
      refine V_getI (n := 4) (ty := tyX5) 21 h10 cf_4 rfl wd_fl_X7_229 dX7_rule_18 rfl ?_
      obtain ⟨v13, h12, hf⟩ := ob hf
      refine V_callS (rest := []) 0 0 24 [.int v13] (c_X7_areAmong l G (d + 1) _ _ _ _ h12) (by omega) ok_X7_areAmong oks_X7_areAmong wd_ml_X7_277 rfl rfl (Nat.le_of_ble_eq_true rfl) rfl rfl (Or.inl ⟨rfl, rfl⟩) dX7_rule_21 rfl rfl ?_
      refine V_if_ne 34 27 dX7_rule_24 (by decide) rfl (fun c14 => ?_) (fun c14 => ?_)
      · rw [if_neg c14] at hf
        refine V_aload_n 0 35 rfl dX7_rule_34 rfl rfl ?_
        obtain ⟨q16, h15, hf⟩ := ob hf
        refine V_getQ (n := 10) (ty := tyX7) 38 h15 cf_6 rfl wd_fl_X7_12 dX7_rule_35 rfl ?_
        obtain ⟨q18, h17, hf⟩ := ob hf
        refine V_getQ (n := 11) (ty := tyX4) 41 h17 cf_3 rfl wd_fl_X7_301 dX7_rule_38 rfl ?_
        obtain ⟨v20, h19, hf⟩ := ob hf
        refine V_callV (rest := []) (T := TX5) (n := 4) (ci := 4) 0 0 44 [.int v20] (c_X5_isFull l G (d + 1) _ _ _ h19) (by omega) ok_X5_isFull okv_X5_isFull (gd_X5_isFull h19) rfl wd_ml_X7_92 rfl rfl (Nat.le_of_ble_eq_true rfl) rfl rfl (Or.inl ⟨rfl, rfl⟩) dX7_rule_41 rfl rfl ?_
        refine V_if_eq 54 47 dX7_rule_44 (by decide) rfl (fun c21 => ?_) (fun c21 => ?_)
        · rw [if_pos c21] at hf
          refine V_aload_n 0 55 rfl dX7_rule_54 rfl rfl ?_
          obtain ⟨q23, h22, hf⟩ := ob hf
          refine V_getQ (n := 10) (ty := tyX7) 58 h22 cf_6 rfl wd_fl_X7_12 dX7_rule_55 rfl ?_
          obtain ⟨q25, h24, hf⟩ := ob hf
          refine V_getQ (n := 11) (ty := tyX4) 61 h24 cf_3 rfl wd_fl_X7_301 dX7_rule_58 rfl ?_
          obtain ⟨p27, h26, hf⟩ := ob hf
          refine V_callV (rest := []) (T := TX5) (n := 4) (ci := 4) 0 0 64 [.int p27.1] (c_X5_add l G (d + 1) _ _ _ _ h26) (by omega) ok_X5_add okv_X5_add (gd_X5_add h26) rfl wd_ml_X7_97 rfl rfl (Nat.le_of_ble_eq_true rfl) rfl rfl (Or.inl ⟨rfl, rfl⟩) dX7_rule_61 rfl rfl ?_
          refine V_istore_n [(3, .int p27.1), (0, .ref t), (1, .int a0), (2, .int a1)] 65 dX7_rule_64 rfl (by decide) rfl rfl ?_
          refine V_aload_n 1 66 rfl dX7_rule_65 rfl rfl ?_
          obtain ⟨q29, h28, hf⟩ := ob hf
          refine V_getQ (n := 10) (ty := tyX7) 69 h28 cf_6 rfl wd_fl_X7_12 dX7_rule_66 rfl ?_
          obtain ⟨q31, h30, hf⟩ := ob hf
          refine V_getQ (n := 11) (ty := tyX4) 72 h30 cf_3 rfl wd_fl_X7_301 dX7_rule_69 rfl ?_
          refine V_iload_n 0 73 rfl dX7_rule_72 rfl rfl ?_
          refine V_iconst 0 74 dX7_rule_73 rfl kiconst_0 ?_
          refine V_iload_n 2 75 rfl dX7_rule_74 rfl rfl ?_
          obtain ⟨s33, h32, hf⟩ := ob hf
          refine V_callV (rest := []) (T := TX5) (n := 4) (ci := 4) 0 0 78 [] (c_X5_set l G (d + 1) _ _ _ _ _ _ h32) (by omega) ok_X5_set okv_X5_set (gd_X5_set h32) rfl wd_ml_X7_82 rfl rfl (Nat.le_of_ble_eq_true rfl) rfl rfl (Or.inl ⟨rfl, rfl⟩) dX7_rule_75 rfl rfl ?_
          refine V_aload_n 1 79 rfl dX7_rule_78 rfl rfl ?_
          obtain ⟨q35, h34, hf⟩ := ob hf
          refine V_getQ (n := 10) (ty := tyX7) 82 h34 cf_6 rfl wd_fl_X7_12 dX7_rule_79 rfl ?_
          obtain ⟨q37, h36, hf⟩ := ob hf
          refine V_getQ (n := 11) (ty := tyX4) 85 h36 cf_3 rfl wd_fl_X7_301 dX7_rule_82 rfl ?_
          refine V_iload_n 0 86 rfl dX7_rule_85 rfl rfl ?_
          refine V_iconst 1 87 dX7_rule_86 rfl kiconst_1 ?_
          refine V_iload_n 3 88 rfl dX7_rule_87 rfl rfl ?_
          obtain ⟨s39, h38, hf⟩ := ob hf
          refine V_callV (rest := []) (T := TX5) (n := 4) (ci := 4) 0 0 91 [] (c_X5_set l G (d + 1) _ _ _ _ _ _ h38) (by omega) ok_X5_set okv_X5_set (gd_X5_set h38) rfl wd_ml_X7_82 rfl rfl (Nat.le_of_ble_eq_true rfl) rfl rfl (Or.inl ⟨rfl, rfl⟩) dX7_rule_88 rfl rfl ?_
          refine V_iload_n 0 92 rfl dX7_rule_91 rfl rfl ?_
          have er := Option.some.inj hf
          obtain ⟨e1, e2⟩ := Prod.mk.inj er
          subst e1
          subst e2
          exact V_iret hQ rfl dX7_rule_92
        · rw [if_neg c21] at hf
          refine V_aload_n 0 48 rfl dX7_rule_47 rfl rfl ?_
          refine V_ldc (-1000004) 50 dX7_rule_48 rfl wd_kk_X7_96 ?_
          obtain ⟨p41, h40, hf⟩ := ob hf
          refine V_callV (rest := []) (T := TX7) (n := 10) (ci := 6) 0 0 53 [.int p41.1] (c_X7_fails l G (d + 0) _ _ _ _ _ h40) (by omega) ok_X7_fails okv_X7_fails (gd_X7_fails h40) rfl wd_ml_X7_68 rfl rfl (Nat.le_of_ble_eq_true rfl) rfl rfl (Or.inl ⟨rfl, rfl⟩) dX7_rule_50 rfl rfl ?_
          have er := Option.some.inj hf
          obtain ⟨e1, e2⟩ := Prod.mk.inj er
          subst e1
          subst e2
          exact V_iret hQ rfl dX7_rule_53
      · rw [if_pos c14] at hf
        refine V_aload_n 0 28 rfl dX7_rule_27 rfl rfl ?_
        refine V_ldc (-1000001) 30 dX7_rule_28 rfl wd_kk_X7_67 ?_
        obtain ⟨p43, h42, hf⟩ := ob hf
        refine V_callV (rest := []) (T := TX7) (n := 10) (ci := 6) 0 0 33 [.int p43.1] (c_X7_fails l G (d + 0) _ _ _ _ _ h42) (by omega) ok_X7_fails okv_X7_fails (gd_X7_fails h42) rfl wd_ml_X7_68 rfl rfl (Nat.le_of_ble_eq_true rfl) rfl rfl (Or.inl ⟨rfl, rfl⟩) dX7_rule_30 rfl rfl ?_
        have er := Option.some.inj hf
        obtain ⟨e1, e2⟩ := Prod.mk.inj er
        subst e1
        subst e2
        exact V_iret hQ rfl dX7_rule_33
  · rw [if_neg hg] at hf
    cases hf
abbrev mi_X7_costOf : MI := (yX7_costOf, cX7_costOf, 4, some .int)
theorem ok_X7_costOf : OkN mi_X7_costOf 1 := ⟨wd_cd_X7_costOf, wd_in_X7, ⟨by decide +kernel, by decide +kernel, by decide +kernel⟩, by decide⟩
theorem okv_X7_costOf : Cond.instanceMethod (mi_X7_costOf).1 ∈ tb ∧ Cond.selects (mi_X7_costOf).1.cls (mi_X7_costOf).1 (mi_X7_costOf).1 ∈ tb := ⟨wd_im_X7_costOf, wd_se_X7_costOf⟩
def f_X7_costOf_L4 (σ : St) (t : Nat) (x1 : Int32) : Nat → Int32 → Int32 → Option (Int32 × Int32)
  | 0, _, _ => none
  | n + 1, x3, x2 => (gQ σ 6 t 0).bind fun q2 => (gQ σ 3 q2 6).bind fun q4 => (gI σ 4 q4 3).bind fun v6 => if v6 ≤ x3 then (some (x3, x2)) else (if ((x1 >>> (x3 &&& 31)) &&& 1) = 1 then ((gQ σ 6 t 0).bind fun q10 => (gQ σ 3 q10 6).bind fun q12 => (f_X5_at σ q12 x3 0).bind fun v14 => f_X7_costOf_L4 σ t x1 n (x3 + 1) (x2 + v14)) else (f_X7_costOf_L4 σ t x1 n (x3 + 1) x2))
def f_X7_costOf (σ : St) (t : Nat) (a0 : Int32) : Option Int32 := if isO σ 6 t = true then ((f_X7_costOf_L4 σ t a0 3000 0 0).bind fun p15 => some p15.2) else none
theorem gd_X7_costOf {σ : St} {t : Nat} {a0 : Int32} {r : Int32} (h : f_X7_costOf σ t a0 = some r) : isO σ 6 t = true := by
  unfold f_X7_costOf at h
  by_cases hg : isO σ 6 t = true
  · exact hg
  · rw [if_neg hg] at h
    cases h
set_option maxRecDepth 100000 in
set_option maxHeartbeats 4000000 in
theorem c_X7_costOf (l : Launch) (G : Gd) (d : Nat) (σ : St) (t : Nat) (a0 : Int32) (r0 : Int32) (hf : f_X7_costOf σ t a0 = some r0) : MetV l G (d + 2) mi_X7_costOf [.ref t, .int a0] σ (some (.int r0)) σ 0 0 := by
  unfold f_X7_costOf at hf
  refine MetV.of [(0, .ref t), (1, .int a0)] (by decide +kernel) rfl (Nat.le_of_ble_eq_true rfl) ?_
  intro X hQ
  have L4 : ∀ (x1 : Int32) (n : Nat) (x3 : Int32) (x2 : Int32) (p : Int32 × Int32), f_X7_costOf_L4 σ t x1 n x3 x2 = some p → V mi_X7_costOf l G (d + 2) 0 0 X 0 0 48 [(3, .int p.1), (2, .int p.2), (0, .ref t), (1, .int x1)] [] σ → V mi_X7_costOf l G (d + 2) 0 0 X 0 0 4 [(3, .int x3), (2, .int x2), (0, .ref t), (1, .int x1)] [] σ := by
    intro x1 n
    induction n with
    | zero =>
      intro x3 x2 p hf
      exact absurd (show (none : Option _) = some p from hf) (by simp)
    | succ n ih =>
      intro x3 x2 p hf hk
      rw [f_X7_costOf_L4] at hf
      refine V_iload_n 0 5 rfl dX7_costOf_4 rfl rfl ?_
      refine V_aload_n 2 6 rfl dX7_costOf_5 rfl rfl ?_
      obtain ⟨q2, h1, hf⟩ := ob hf
      refine V_getQ (n := 10) (ty := tyX7) 9 h1 cf_6 rfl wd_fl_X7_12 dX7_costOf_6 rfl ?_
      obtain ⟨q4, h3, hf⟩ := ob hf
      refine V_getQ (n := 11) (ty := tyX4) 12 h3 cf_3 rfl wd_fl_X7_301 dX7_costOf_9 rfl ?_
      obtain ⟨v6, h5, hf⟩ := ob hf
      refine V_getI (n := 4) (ty := tyX5) 15 h5 cf_4 rfl wd_fl_X7_229 dX7_costOf_12 rfl ?_
      refine V_icmp_ge 48 18 dX7_costOf_15 (by decide) rfl (fun c7 => ?_) (fun c7 => ?_)
      · rw [if_pos c7] at hf
        have ep := Option.some.inj hf
        subst ep
        refine V_ls [(3, .int x3), (2, .int x2), (0, .ref t), (1, .int x1)] [0, 1, 2, 3] rfl ?_
        exact hk
      · rw [if_neg c7] at hf
        refine V_iload_n 3 19 rfl dX7_costOf_18 rfl rfl ?_
        refine V_iload_n 0 20 rfl dX7_costOf_19 rfl rfl ?_
        refine V_ishr 21 dX7_costOf_20 rfl ?_
        refine V_iconst 1 22 dX7_costOf_21 rfl kiconst_1 ?_
        refine V_iand 23 dX7_costOf_22 rfl ?_
        refine V_iconst 1 24 dX7_costOf_23 rfl kiconst_1 ?_
        refine V_icmp_ne 42 27 dX7_costOf_24 (by decide) rfl (fun c8 => ?_) (fun c8 => ?_)
        · rw [if_neg c8] at hf
          refine V_iinc (x3 + 1) 0 [(3, .int (x3 + 1)), (2, .int x2), (0, .ref t), (1, .int x1)] 45 dX7_costOf_42 rfl (by rw [kiconst_1]) (by decide) rfl rfl ?_
          refine V_goto 4 dX7_costOf_45 (by decide) ?_
          refine V_ls [(3, .int (x3 + 1)), (2, .int x2), (0, .ref t), (1, .int x1)] [0, 1, 2, 3] rfl ?_
          exact ih _ _ _ hf hk
        · rw [if_pos c8] at hf
          refine V_iload_n 1 28 rfl dX7_costOf_27 rfl rfl ?_
          refine V_aload_n 2 29 rfl dX7_costOf_28 rfl rfl ?_
          obtain ⟨q10, h9, hf⟩ := ob hf
          refine V_getQ (n := 10) (ty := tyX7) 32 h9 cf_6 rfl wd_fl_X7_12 dX7_costOf_29 rfl ?_
          obtain ⟨q12, h11, hf⟩ := ob hf
          refine V_getQ (n := 11) (ty := tyX4) 35 h11 cf_3 rfl wd_fl_X7_301 dX7_costOf_32 rfl ?_
          refine V_iload_n 0 36 rfl dX7_costOf_35 rfl rfl ?_
          refine V_iconst 0 37 dX7_costOf_36 rfl kiconst_0 ?_
          obtain ⟨v14, h13, hf⟩ := ob hf
          refine V_callV (rest := [.int x2]) (T := TX5) (n := 4) (ci := 4) 0 0 40 [.int v14, .int x2] (c_X5_at l G (d + 0) _ _ _ _ _ h13) (by omega) ok_X5_at okv_X5_at (gd_X5_at h13) rfl wd_ml_X7_76 rfl rfl (Nat.le_of_ble_eq_true rfl) rfl rfl (Or.inl ⟨rfl, rfl⟩) dX7_costOf_37 rfl rfl ?_
          refine V_iadd 41 dX7_costOf_40 rfl ?_
          refine V_istore_n [(2, .int (x2 + v14)), (3, .int x3), (0, .ref t), (1, .int x1)] 42 dX7_costOf_41 rfl (by decide) rfl rfl ?_
          refine V_iinc (x3 + 1) 1 [(3, .int (x3 + 1)), (2, .int (x2 + v14)), (0, .ref t), (1, .int x1)] 45 dX7_costOf_42 rfl (by rw [kiconst_1]) (by decide) rfl rfl ?_
          refine V_goto 4 dX7_costOf_45 (by decide) ?_
          refine V_ls [(3, .int (x3 + 1)), (2, .int (x2 + v14)), (0, .ref t), (1, .int x1)] [0, 1, 2, 3] rfl ?_
          exact ih _ _ _ hf hk
  by_cases hg : isO σ 6 t = true
  · rw [if_pos hg] at hf
    refine V_iconst 0 1 dX7_costOf_0 rfl kiconst_0 ?_
    refine V_istore_n [(2, .int 0), (0, .ref t), (1, .int a0)] 2 dX7_costOf_1 rfl (by decide) rfl rfl ?_
    refine V_iconst 0 3 dX7_costOf_2 rfl kiconst_0 ?_
    refine V_istore_n [(3, .int 0), (2, .int 0), (0, .ref t), (1, .int a0)] 4 dX7_costOf_3 rfl (by decide) rfl rfl ?_
    obtain ⟨p15, h16, hf⟩ := ob hf
    refine V_ls [(3, .int 0), (2, .int 0), (0, .ref t), (1, .int a0)] [0, 1, 2, 3] rfl ?_
    refine L4 a0 3000 0 0 p15 h16 ?_
    refine V_iload_n 1 49 rfl dX7_costOf_48 rfl rfl ?_
    have er := Option.some.inj hf
    subst er
    exact V_iret hQ rfl dX7_costOf_49
  · rw [if_neg hg] at hf
    cases hf
abbrev mi_X7_shownBy : MI := (yX7_shownBy, cX7_shownBy, 4, some .int)
theorem ok_X7_shownBy : OkN mi_X7_shownBy 1 := ⟨wd_cd_X7_shownBy, wd_in_X7, ⟨by decide +kernel, by decide +kernel, by decide +kernel⟩, by decide⟩
theorem okv_X7_shownBy : Cond.instanceMethod (mi_X7_shownBy).1 ∈ tb ∧ Cond.selects (mi_X7_shownBy).1.cls (mi_X7_shownBy).1 (mi_X7_shownBy).1 ∈ tb := ⟨wd_im_X7_shownBy, wd_se_X7_shownBy⟩
def f_X7_shownBy_L4 (σ : St) (t : Nat) (x1 : Int32) : Nat → Int32 → Int32 → Option (Int32 × Int32)
  | 0, _, _ => none
  | n + 1, x3, x2 => (gQ σ 6 t 0).bind fun q2 => (gQ σ 3 q2 6).bind fun q4 => (gI σ 4 q4 3).bind fun v6 => if v6 ≤ x3 then (some (x3, x2)) else (if ((x1 >>> (x3 &&& 31)) &&& 1) = 1 then ((gQ σ 6 t 0).bind fun q10 => (gQ σ 3 q10 6).bind fun q12 => (f_X5_at σ q12 x3 1).bind fun v14 => f_X7_shownBy_L4 σ t x1 n (x3 + 1) (x2 ||| v14)) else (f_X7_shownBy_L4 σ t x1 n (x3 + 1) x2))
def f_X7_shownBy (σ : St) (t : Nat) (a0 : Int32) : Option Int32 := if isO σ 6 t = true then ((f_X7_shownBy_L4 σ t a0 3000 0 0).bind fun p15 => some p15.2) else none
theorem gd_X7_shownBy {σ : St} {t : Nat} {a0 : Int32} {r : Int32} (h : f_X7_shownBy σ t a0 = some r) : isO σ 6 t = true := by
  unfold f_X7_shownBy at h
  by_cases hg : isO σ 6 t = true
  · exact hg
  · rw [if_neg hg] at h
    cases h
set_option maxRecDepth 100000 in
set_option maxHeartbeats 4000000 in
theorem c_X7_shownBy (l : Launch) (G : Gd) (d : Nat) (σ : St) (t : Nat) (a0 : Int32) (r0 : Int32) (hf : f_X7_shownBy σ t a0 = some r0) : MetV l G (d + 2) mi_X7_shownBy [.ref t, .int a0] σ (some (.int r0)) σ 0 0 := by
  unfold f_X7_shownBy at hf
  refine MetV.of [(0, .ref t), (1, .int a0)] (by decide +kernel) rfl (Nat.le_of_ble_eq_true rfl) ?_
  intro X hQ
  have L4 : ∀ (x1 : Int32) (n : Nat) (x3 : Int32) (x2 : Int32) (p : Int32 × Int32), f_X7_shownBy_L4 σ t x1 n x3 x2 = some p → V mi_X7_shownBy l G (d + 2) 0 0 X 0 0 48 [(3, .int p.1), (2, .int p.2), (0, .ref t), (1, .int x1)] [] σ → V mi_X7_shownBy l G (d + 2) 0 0 X 0 0 4 [(3, .int x3), (2, .int x2), (0, .ref t), (1, .int x1)] [] σ := by
    intro x1 n
    induction n with
    | zero =>
      intro x3 x2 p hf
      exact absurd (show (none : Option _) = some p from hf) (by simp)
    | succ n ih =>
      intro x3 x2 p hf hk
      rw [f_X7_shownBy_L4] at hf
      refine V_iload_n 0 5 rfl dX7_shownBy_4 rfl rfl ?_
      refine V_aload_n 2 6 rfl dX7_shownBy_5 rfl rfl ?_
      obtain ⟨q2, h1, hf⟩ := ob hf
      refine V_getQ (n := 10) (ty := tyX7) 9 h1 cf_6 rfl wd_fl_X7_12 dX7_shownBy_6 rfl ?_
      obtain ⟨q4, h3, hf⟩ := ob hf
      refine V_getQ (n := 11) (ty := tyX4) 12 h3 cf_3 rfl wd_fl_X7_301 dX7_shownBy_9 rfl ?_
      obtain ⟨v6, h5, hf⟩ := ob hf
      refine V_getI (n := 4) (ty := tyX5) 15 h5 cf_4 rfl wd_fl_X7_229 dX7_shownBy_12 rfl ?_
      refine V_icmp_ge 48 18 dX7_shownBy_15 (by decide) rfl (fun c7 => ?_) (fun c7 => ?_)
      · rw [if_pos c7] at hf
        have ep := Option.some.inj hf
        subst ep
        refine V_ls [(3, .int x3), (2, .int x2), (0, .ref t), (1, .int x1)] [0, 1, 2, 3] rfl ?_
        exact hk
      · rw [if_neg c7] at hf
        refine V_iload_n 3 19 rfl dX7_shownBy_18 rfl rfl ?_
        refine V_iload_n 0 20 rfl dX7_shownBy_19 rfl rfl ?_
        refine V_ishr 21 dX7_shownBy_20 rfl ?_
        refine V_iconst 1 22 dX7_shownBy_21 rfl kiconst_1 ?_
        refine V_iand 23 dX7_shownBy_22 rfl ?_
        refine V_iconst 1 24 dX7_shownBy_23 rfl kiconst_1 ?_
        refine V_icmp_ne 42 27 dX7_shownBy_24 (by decide) rfl (fun c8 => ?_) (fun c8 => ?_)
        · rw [if_neg c8] at hf
          refine V_iinc (x3 + 1) 0 [(3, .int (x3 + 1)), (2, .int x2), (0, .ref t), (1, .int x1)] 45 dX7_shownBy_42 rfl (by rw [kiconst_1]) (by decide) rfl rfl ?_
          refine V_goto 4 dX7_shownBy_45 (by decide) ?_
          refine V_ls [(3, .int (x3 + 1)), (2, .int x2), (0, .ref t), (1, .int x1)] [0, 1, 2, 3] rfl ?_
          exact ih _ _ _ hf hk
        · rw [if_pos c8] at hf
          refine V_iload_n 1 28 rfl dX7_shownBy_27 rfl rfl ?_
          refine V_aload_n 2 29 rfl dX7_shownBy_28 rfl rfl ?_
          obtain ⟨q10, h9, hf⟩ := ob hf
          refine V_getQ (n := 10) (ty := tyX7) 32 h9 cf_6 rfl wd_fl_X7_12 dX7_shownBy_29 rfl ?_
          obtain ⟨q12, h11, hf⟩ := ob hf
          refine V_getQ (n := 11) (ty := tyX4) 35 h11 cf_3 rfl wd_fl_X7_301 dX7_shownBy_32 rfl ?_
          refine V_iload_n 0 36 rfl dX7_shownBy_35 rfl rfl ?_
          refine V_iconst 1 37 dX7_shownBy_36 rfl kiconst_1 ?_
          obtain ⟨v14, h13, hf⟩ := ob hf
          refine V_callV (rest := [.int x2]) (T := TX5) (n := 4) (ci := 4) 0 0 40 [.int v14, .int x2] (c_X5_at l G (d + 0) _ _ _ _ _ h13) (by omega) ok_X5_at okv_X5_at (gd_X5_at h13) rfl wd_ml_X7_76 rfl rfl (Nat.le_of_ble_eq_true rfl) rfl rfl (Or.inl ⟨rfl, rfl⟩) dX7_shownBy_37 rfl rfl ?_
          refine V_ior 41 dX7_shownBy_40 rfl ?_
          refine V_istore_n [(2, .int (x2 ||| v14)), (3, .int x3), (0, .ref t), (1, .int x1)] 42 dX7_shownBy_41 rfl (by decide) rfl rfl ?_
          refine V_iinc (x3 + 1) 1 [(3, .int (x3 + 1)), (2, .int (x2 ||| v14)), (0, .ref t), (1, .int x1)] 45 dX7_shownBy_42 rfl (by rw [kiconst_1]) (by decide) rfl rfl ?_
          refine V_goto 4 dX7_shownBy_45 (by decide) ?_
          refine V_ls [(3, .int (x3 + 1)), (2, .int (x2 ||| v14)), (0, .ref t), (1, .int x1)] [0, 1, 2, 3] rfl ?_
          exact ih _ _ _ hf hk
  by_cases hg : isO σ 6 t = true
  · rw [if_pos hg] at hf
    refine V_iconst 0 1 dX7_shownBy_0 rfl kiconst_0 ?_
    refine V_istore_n [(2, .int 0), (0, .ref t), (1, .int a0)] 2 dX7_shownBy_1 rfl (by decide) rfl rfl ?_
    refine V_iconst 0 3 dX7_shownBy_2 rfl kiconst_0 ?_
    refine V_istore_n [(3, .int 0), (2, .int 0), (0, .ref t), (1, .int a0)] 4 dX7_shownBy_3 rfl (by decide) rfl rfl ?_
    obtain ⟨p15, h16, hf⟩ := ob hf
    refine V_ls [(3, .int 0), (2, .int 0), (0, .ref t), (1, .int a0)] [0, 1, 2, 3] rfl ?_
    refine L4 a0 3000 0 0 p15 h16 ?_
    refine V_iload_n 1 49 rfl dX7_shownBy_48 rfl rfl ?_
    have er := Option.some.inj hf
    subst er
    exact V_iret hQ rfl dX7_shownBy_49
  · rw [if_neg hg] at hf
    cases hf
abbrev mi_X7_isLesser : MI := (yX7_isLesser, cX7_isLesser, 4, some .boolean)
theorem ok_X7_isLesser : OkN mi_X7_isLesser 2 := ⟨wd_cd_X7_isLesser, wd_in_X7, ⟨by decide +kernel, by decide +kernel, by decide +kernel⟩, by decide⟩
theorem okv_X7_isLesser : Cond.instanceMethod (mi_X7_isLesser).1 ∈ tb ∧ Cond.selects (mi_X7_isLesser).1.cls (mi_X7_isLesser).1 (mi_X7_isLesser).1 ∈ tb := ⟨wd_im_X7_isLesser, wd_se_X7_isLesser⟩
def f_X7_isLesser (σ : St) (t : Nat) (a0 : Int32) (a1 : Int32) : Option Int32 := if isO σ 6 t = true then ((f_X7_costOf σ t a0).bind fun v2 => (f_X7_costOf σ t a1).bind fun v4 => if (v2 - v4) < 0 then (some 1) else (if (v2 - v4) = 0 then ((f_J6_bitCount_0f7a4 σ a0).bind fun v8 => (f_J6_bitCount_0f7a4 σ a1).bind fun v10 => (zr (if v10 ≤ v8 then 0 else 1 : Int32)).bind fun z11 => some (if v10 ≤ v8 then 0 else 1 : Int32)) else (some 0))) else none
theorem gd_X7_isLesser {σ : St} {t : Nat} {a0 : Int32} {a1 : Int32} {r : Int32} (h : f_X7_isLesser σ t a0 a1 = some r) : isO σ 6 t = true := by
  unfold f_X7_isLesser at h
  by_cases hg : isO σ 6 t = true
  · exact hg
  · rw [if_neg hg] at h
    cases h
set_option maxRecDepth 100000 in
set_option maxHeartbeats 4000000 in
theorem c_X7_isLesser (l : Launch) (G : Gd) (d : Nat) (σ : St) (t : Nat) (a0 : Int32) (a1 : Int32) (r0 : Int32) (hf : f_X7_isLesser σ t a0 a1 = some r0) : MetV l G (d + 3) mi_X7_isLesser [.ref t, .int a0, .int a1] σ (some (.int r0)) σ 0 0 := by
  unfold f_X7_isLesser at hf
  refine MetV.of [(0, .ref t), (1, .int a0), (2, .int a1)] (by decide +kernel) rfl (Nat.le_of_ble_eq_true rfl) ?_
  intro X hQ
  by_cases hg : isO σ 6 t = true
  · rw [if_pos hg] at hf
    refine V_aload_n 0 1 rfl dX7_isLesser_0 rfl rfl ?_
    refine V_iload_n 1 2 rfl dX7_isLesser_1 rfl rfl ?_
    obtain ⟨v2, h1, hf⟩ := ob hf
    refine V_callV (rest := []) (T := TX7) (n := 10) (ci := 6) 0 0 5 [.int v2] (c_X7_costOf l G (d + 0) _ _ _ _ h1) (by omega) ok_X7_costOf okv_X7_costOf (gd_X7_costOf h1) rfl wd_ml_X7_310 rfl rfl (Nat.le_of_ble_eq_true rfl) rfl rfl (Or.inl ⟨rfl, rfl⟩) dX7_isLesser_2 rfl rfl ?_
    refine V_aload_n 0 6 rfl dX7_isLesser_5 rfl rfl ?_
    refine V_iload_n 2 7 rfl dX7_isLesser_6 rfl rfl ?_
    obtain ⟨v4, h3, hf⟩ := ob hf
    refine V_callV (rest := [.int v2]) (T := TX7) (n := 10) (ci := 6) 0 0 10 [.int v4, .int v2] (c_X7_costOf l G (d + 0) _ _ _ _ h3) (by omega) ok_X7_costOf okv_X7_costOf (gd_X7_costOf h3) rfl wd_ml_X7_310 rfl rfl (Nat.le_of_ble_eq_true rfl) rfl rfl (Or.inl ⟨rfl, rfl⟩) dX7_isLesser_7 rfl rfl ?_
    refine V_isub 11 dX7_isLesser_10 rfl ?_
    refine V_istore_n [(3, .int (v2 - v4)), (0, .ref t), (1, .int a0), (2, .int a1)] 12 dX7_isLesser_11 rfl (by decide) rfl rfl ?_
    refine V_iload_n 0 13 rfl dX7_isLesser_12 rfl rfl ?_
    refine V_if_lt 31 16 dX7_isLesser_13 (by decide) rfl (fun c5 => ?_) (fun c5 => ?_)
    · rw [if_pos c5] at hf
      refine V_iconst 1 32 dX7_isLesser_31 rfl kiconst_1 ?_
      refine V_goto 36 dX7_isLesser_32 (by decide) ?_
      have er := Option.some.inj hf
      subst er
      exact V_zret (by decide) hQ rfl dX7_isLesser_36
    · rw [if_neg c5] at hf
      refine V_iload_n 0 17 rfl dX7_isLesser_16 rfl rfl ?_
      refine V_if_ne 35 20 dX7_isLesser_17 (by decide) rfl (fun c6 => ?_) (fun c6 => ?_)
      · rw [if_neg c6] at hf
        refine V_iconst 0 36 dX7_isLesser_35 rfl kiconst_0 ?_
        have er := Option.some.inj hf
        subst er
        exact V_zret (by decide) hQ rfl dX7_isLesser_36
      · rw [if_pos c6] at hf
        refine V_iload_n 2 21 rfl dX7_isLesser_20 rfl rfl ?_
        obtain ⟨v8, h7, hf⟩ := ob hf
        refine V_callS (rest := []) 0 0 24 [.int v8] (c_J6_bitCount_0f7a4 l G (d + 1) _ _ _ h7) (by omega) ok_J6_bitCount_0f7a4 oks_J6_bitCount_0f7a4 wd_ml_X7_268 rfl rfl (Nat.le_of_ble_eq_true rfl) rfl rfl (Or.inl ⟨rfl, rfl⟩) dX7_isLesser_21 rfl rfl ?_
        refine V_iload_n 3 25 rfl dX7_isLesser_24 rfl rfl ?_
        obtain ⟨v10, h9, hf⟩ := ob hf
        refine V_callS (rest := [.int v8]) 0 0 28 [.int v10, .int v8] (c_J6_bitCount_0f7a4 l G (d + 1) _ _ _ h9) (by omega) ok_J6_bitCount_0f7a4 oks_J6_bitCount_0f7a4 wd_ml_X7_268 rfl rfl (Nat.le_of_ble_eq_true rfl) rfl rfl (Or.inl ⟨rfl, rfl⟩) dX7_isLesser_25 rfl rfl ?_
        have kj13 : V mi_X7_isLesser l G (d + 3) 0 0 X 0 0 36 [(3, .int (v2 - v4)), (0, .ref t), (1, .int a0), (2, .int a1)] [.int (if v10 ≤ v8 then 0 else 1 : Int32)] σ := by
          obtain ⟨z11, h12, hf⟩ := ob hf
          have er := Option.some.inj hf
          subst er
          exact V_zret (zr_ok h12) hQ rfl dX7_isLesser_36
        refine V_icmp_ge 35 31 dX7_isLesser_28 (by decide) rfl (fun c14 => ?_) (fun c14 => ?_)
        · refine V_iconst 0 36 dX7_isLesser_35 rfl kiconst_0 ?_
          refine V_ls [(3, .int (v2 - v4)), (0, .ref t), (1, .int a0), (2, .int a1)] [0, 1, 2, 3] rfl ?_
          simp only [if_pos c14] at kj13
          exact kj13
        · refine V_iconst 1 32 dX7_isLesser_31 rfl kiconst_1 ?_
          refine V_goto 36 dX7_isLesser_32 (by decide) ?_
          refine V_ls [(3, .int (v2 - v4)), (0, .ref t), (1, .int a0), (2, .int a1)] [0, 1, 2, 3] rfl ?_
          simp only [if_neg c14] at kj13
          exact kj13
  · rw [if_neg hg] at hf
    cases hf
abbrev mi_X7_rules : MI := (yX7_rules, cX7_rules, 7, some .int)
theorem ok_X7_rules : OkN mi_X7_rules 3 := ⟨wd_cd_X7_rules, wd_in_X7, ⟨by decide +kernel, by decide +kernel, by decide +kernel⟩, by decide⟩
theorem okv_X7_rules : Cond.instanceMethod (mi_X7_rules).1 ∈ tb ∧ Cond.selects (mi_X7_rules).1.cls (mi_X7_rules).1 (mi_X7_rules).1 ∈ tb := ⟨wd_im_X7_rules, wd_se_X7_rules⟩
def f_X7_rules_L63 (σ : St) (x5 : Int32) (t : Nat) (x1 : Int32) (x2 : Int32) : Nat → Int32 → Int32 → Option (Int32 × Int32)
  | 0, _, _ => none
  | n + 1, x6, x4 => if x5 ≤ x6 then (some (x6, x4)) else ((f_X7_shownBy σ t x6).bind fun v28 => (f_J6_bitCount_0f7a4 σ (v28 &&& x1)).bind fun v30 => if v30 < x2 then (f_X7_rules_L63 σ x5 t x1 x2 n (x6 + 1) x4) else (if x4 = 0 then (f_X7_rules_L63 σ x5 t x1 x2 n (x6 + 1) x6) else ((f_X7_isLesser σ t x6 x4).bind fun v34 => f_X7_rules_L63 σ x5 t x1 x2 n (x6 + 1) (if v34 = 0 then x4 else x6 : Int32))))
def f_X7_rules (σ : St) (t : Nat) (a0 : Int32) (a1 : Int32) (a2 : Int32) : Option (Int32 × St) := if isO σ 6 t = true then ((gQ σ 6 t 0).bind fun q2 => (gQ σ 3 q2 2).bind fun q4 => (gI σ 4 q4 3).bind fun v6 => (f_X7_areAmong σ a0 v6).bind fun v8 => if v8 = 0 then ((f_X7_fails σ t (-1000001)).bind fun p11 => some (p11.1, p11.2)) else ((f_X7_outside σ a1 1 24).bind fun v13 => if v13 = 0 then ((f_X7_outside σ a2 0 1).bind fun v18 => if v18 = 0 then ((gQ σ 6 t 0).bind fun q21 => (gQ σ 3 q21 6).bind fun q23 => (gI σ 4 q23 3).bind fun v25 => (f_X7_rules_L63 σ ((1 : Int32) <<< (v25 &&& 31)) t a0 a1 3000 1 0).bind fun p37 => if p37.2 = 0 then ((f_X7_fails σ t (-1000002)).bind fun p44 => some (p44.1, p44.2)) else (if a2 = 0 then ((f_X7_costOf σ t p37.2).bind fun v42 => some (v42, σ)) else (some (p37.2, σ)))) else ((f_X7_fails σ t (-1000001)).bind fun p46 => some (p46.1, p46.2))) else ((f_X7_fails σ t (-1000001)).bind fun p16 => some (p16.1, p16.2)))) else none
theorem gd_X7_rules {σ : St} {t : Nat} {a0 : Int32} {a1 : Int32} {a2 : Int32} {r : Int32 × St} (h : f_X7_rules σ t a0 a1 a2 = some r) : isO σ 6 t = true := by
  unfold f_X7_rules at h
  by_cases hg : isO σ 6 t = true
  · exact hg
  · rw [if_neg hg] at h
    cases h
set_option maxRecDepth 100000 in
set_option maxHeartbeats 4000000 in
theorem c_X7_rules (l : Launch) (G : Gd) (d : Nat) (σ : St) (t : Nat) (a0 : Int32) (a1 : Int32) (a2 : Int32) (r0 : Int32) (σ' : St) (hf : f_X7_rules σ t a0 a1 a2 = some (r0, σ')) : MetV l G (d + 4) mi_X7_rules [.ref t, .int a0, .int a1, .int a2] σ (some (.int r0)) σ' 0 0 := by
  unfold f_X7_rules at hf
  refine MetV.of [(0, .ref t), (1, .int a0), (2, .int a1), (3, .int a2)] (by decide +kernel) rfl (Nat.le_of_ble_eq_true rfl) ?_
  intro X hQ
  have L63 : ∀ (σ : St) (x5 : Int32) (x1 : Int32) (x2 : Int32) (x3 : Int32) (n : Nat) (x6 : Int32) (x4 : Int32) (p : Int32 × Int32), f_X7_rules_L63 σ x5 t x1 x2 n x6 x4 = some p → V mi_X7_rules l G (d + 4) 0 0 X 0 0 111 [(6, .int p.1), (5, .int x5), (4, .int p.2), (0, .ref t), (1, .int x1), (2, .int x2), (3, .int x3)] [] σ → V mi_X7_rules l G (d + 4) 0 0 X 0 0 63 [(6, .int x6), (5, .int x5), (4, .int x4), (0, .ref t), (1, .int x1), (2, .int x2), (3, .int x3)] [] σ := by
    intro σ x5 x1 x2 x3 n
    induction n with
    | zero =>
      intro x6 x4 p hf
      exact absurd (show (none : Option _) = some p from hf) (by simp)
    | succ n ih =>
      intro x6 x4 p hf hk
      rw [f_X7_rules_L63] at hf
      refine V_iload 0 65 rfl dX7_rules_63 rfl ?_
      refine V_iload 1 67 rfl dX7_rules_65 rfl ?_
      refine V_icmp_ge 111 70 dX7_rules_67 (by decide) rfl (fun c26 => ?_) (fun c26 => ?_)
      · rw [if_pos c26] at hf
        have ep := Option.some.inj hf
        subst ep
        refine V_ls [(6, .int x6), (5, .int x5), (4, .int x4), (0, .ref t), (1, .int x1), (2, .int x2), (3, .int x3)] [0, 1, 2, 3, 4, 5, 6] rfl ?_
        exact hk
      · rw [if_neg c26] at hf
        refine V_aload_n 3 71 rfl dX7_rules_70 rfl rfl ?_
        refine V_iload 0 73 rfl dX7_rules_71 rfl ?_
        obtain ⟨v28, h27, hf⟩ := ob hf
        refine V_callV (rest := []) (T := TX7) (n := 10) (ci := 6) 0 0 76 [.int v28] (c_X7_shownBy l G (d + 1) _ _ _ _ h27) (by omega) ok_X7_shownBy okv_X7_shownBy (gd_X7_shownBy h27) rfl wd_ml_X7_304 rfl rfl (Nat.le_of_ble_eq_true rfl) rfl rfl (Or.inl ⟨rfl, rfl⟩) dX7_rules_73 rfl rfl ?_
        refine V_iload_n 4 77 rfl dX7_rules_76 rfl rfl ?_
        refine V_iand 78 dX7_rules_77 rfl ?_
        obtain ⟨v30, h29, hf⟩ := ob hf
        refine V_callS (rest := []) 0 0 81 [.int v30] (c_J6_bitCount_0f7a4 l G (d + 2) _ _ _ h29) (by omega) ok_J6_bitCount_0f7a4 oks_J6_bitCount_0f7a4 wd_ml_X7_268 rfl rfl (Nat.le_of_ble_eq_true rfl) rfl rfl (Or.inl ⟨rfl, rfl⟩) dX7_rules_78 rfl rfl ?_
        refine V_iload_n 5 82 rfl dX7_rules_81 rfl rfl ?_
        refine V_icmp_lt 105 85 dX7_rules_82 (by decide) rfl (fun c31 => ?_) (fun c31 => ?_)
        · rw [if_pos c31] at hf
          refine V_iinc (x6 + 1) 0 [(6, .int (x6 + 1)), (5, .int x5), (4, .int x4), (0, .ref t), (1, .int x1), (2, .int x2), (3, .int x3)] 108 dX7_rules_105 rfl (by rw [kiconst_1]) (by decide) rfl rfl ?_
          refine V_goto 63 dX7_rules_108 (by decide) ?_
          refine V_ls [(6, .int (x6 + 1)), (5, .int x5), (4, .int x4), (0, .ref t), (1, .int x1), (2, .int x2), (3, .int x3)] [0, 1, 2, 3, 4, 5, 6] rfl ?_
          exact ih _ _ _ hf hk
        · rw [if_neg c31] at hf
          refine V_iload 2 87 rfl dX7_rules_85 rfl ?_
          refine V_if_eq 101 90 dX7_rules_87 (by decide) rfl (fun c32 => ?_) (fun c32 => ?_)
          · rw [if_pos c32] at hf
            refine V_iload 0 103 rfl dX7_rules_101 rfl ?_
            refine V_istore [(4, .int x6), (6, .int x6), (5, .int x5), (0, .ref t), (1, .int x1), (2, .int x2), (3, .int x3)] 105 dX7_rules_103 (by decide) rfl rfl ?_
            refine V_iinc (x6 + 1) 1 [(6, .int (x6 + 1)), (4, .int x6), (5, .int x5), (0, .ref t), (1, .int x1), (2, .int x2), (3, .int x3)] 108 dX7_rules_105 rfl (by rw [kiconst_1]) (by decide) rfl rfl ?_
            refine V_goto 63 dX7_rules_108 (by decide) ?_
            refine V_ls [(6, .int (x6 + 1)), (5, .int x5), (4, .int x6), (0, .ref t), (1, .int x1), (2, .int x2), (3, .int x3)] [0, 2, 1, 3, 4, 5, 6] rfl ?_
            exact ih _ _ _ hf hk
          · rw [if_neg c32] at hf
            refine V_aload_n 3 91 rfl dX7_rules_90 rfl rfl ?_
            refine V_iload 0 93 rfl dX7_rules_91 rfl ?_
            refine V_iload 2 95 rfl dX7_rules_93 rfl ?_
            obtain ⟨v34, h33, hf⟩ := ob hf
            refine V_callV (rest := []) (T := TX7) (n := 10) (ci := 6) 0 0 98 [.int v34] (c_X7_isLesser l G (d + 0) _ _ _ _ _ h33) (by omega) ok_X7_isLesser okv_X7_isLesser (gd_X7_isLesser h33) rfl wd_ml_X7_307 rfl rfl (Nat.le_of_ble_eq_true rfl) rfl rfl (Or.inl ⟨rfl, rfl⟩) dX7_rules_95 rfl rfl ?_
            have kj35 : V mi_X7_rules l G (d + 4) 0 0 X 0 0 105 [(6, .int x6), (5, .int x5), (4, .int (if v34 = 0 then x4 else x6 : Int32)), (0, .ref t), (1, .int x1), (2, .int x2), (3, .int x3)] [] σ := by
              refine V_iinc (x6 + 1) 0 [(6, .int (x6 + 1)), (5, .int x5), (4, .int (if v34 = 0 then x4 else x6 : Int32)), (0, .ref t), (1, .int x1), (2, .int x2), (3, .int x3)] 108 dX7_rules_105 rfl (by rw [kiconst_1]) (by decide) rfl rfl ?_
              refine V_goto 63 dX7_rules_108 (by decide) ?_
              refine V_ls [(6, .int (x6 + 1)), (5, .int x5), (4, .int (if v34 = 0 then x4 else x6 : Int32)), (0, .ref t), (1, .int x1), (2, .int x2), (3, .int x3)] [0, 1, 2, 3, 4, 5, 6] rfl ?_
              exact ih _ _ _ hf hk
            refine V_if_eq 105 101 dX7_rules_98 (by decide) rfl (fun c36 => ?_) (fun c36 => ?_)
            · refine V_ls [(6, .int x6), (5, .int x5), (4, .int x4), (0, .ref t), (1, .int x1), (2, .int x2), (3, .int x3)] [0, 1, 2, 3, 4, 5, 6] rfl ?_
              simp only [if_pos c36] at kj35
              exact kj35
            · refine V_iload 0 103 rfl dX7_rules_101 rfl ?_
              refine V_istore [(4, .int x6), (6, .int x6), (5, .int x5), (0, .ref t), (1, .int x1), (2, .int x2), (3, .int x3)] 105 dX7_rules_103 (by decide) rfl rfl ?_
              refine V_ls [(6, .int x6), (5, .int x5), (4, .int x6), (0, .ref t), (1, .int x1), (2, .int x2), (3, .int x3)] [1, 2, 0, 3, 4, 5, 6] rfl ?_
              simp only [if_neg c36] at kj35
              exact kj35
  by_cases hg : isO σ 6 t = true
  · rw [if_pos hg] at hf
    refine V_iload_n 1 1 rfl dX7_rules_0 rfl rfl ?_
    refine V_aload_n 0 2 rfl dX7_rules_1 rfl rfl ?_
    obtain ⟨q2, h1, hf⟩ := ob hf
    refine V_getQ (n := 10) (ty := tyX7) 5 h1 cf_6 rfl wd_fl_X7_12 dX7_rules_2 rfl ?_
    obtain ⟨q4, h3, hf⟩ := ob hf
    refine V_getQ (n := 11) (ty := tyX4) 8 h3 cf_3 rfl wd_fl_X7_126 dX7_rules_5 rfl ?_
    obtain ⟨v6, h5, hf⟩ := ob hf
    refine V_getI (n := 4) (ty := tyX5) 11 h5 cf_4 rfl wd_fl_X7_229 dX7_rules_8 rfl ?_
    obtain ⟨v8, h7, hf⟩ := ob hf
    refine V_callS (rest := []) 0 0 14 [.int v8] (c_X7_areAmong l G (d + 2) _ _ _ _ h7) (by omega) ok_X7_areAmong oks_X7_areAmong wd_ml_X7_277 rfl rfl (Nat.le_of_ble_eq_true rfl) rfl rfl (Or.inl ⟨rfl, rfl⟩) dX7_rules_11 rfl rfl ?_
    refine V_if_eq 36 17 dX7_rules_14 (by decide) rfl (fun c9 => ?_) (fun c9 => ?_)
    · rw [if_pos c9] at hf
      refine V_aload_n 0 37 rfl dX7_rules_36 rfl rfl ?_
      refine V_ldc (-1000001) 39 dX7_rules_37 rfl wd_kk_X7_67 ?_
      obtain ⟨p11, h10, hf⟩ := ob hf
      refine V_callV (rest := []) (T := TX7) (n := 10) (ci := 6) 0 0 42 [.int p11.1] (c_X7_fails l G (d + 1) _ _ _ _ _ h10) (by omega) ok_X7_fails okv_X7_fails (gd_X7_fails h10) rfl wd_ml_X7_68 rfl rfl (Nat.le_of_ble_eq_true rfl) rfl rfl (Or.inl ⟨rfl, rfl⟩) dX7_rules_39 rfl rfl ?_
      have er := Option.some.inj hf
      obtain ⟨e1, e2⟩ := Prod.mk.inj er
      subst e1
      subst e2
      exact V_iret hQ rfl dX7_rules_42
    · rw [if_neg c9] at hf
      refine V_iload_n 2 18 rfl dX7_rules_17 rfl rfl ?_
      refine V_iconst 1 19 dX7_rules_18 rfl kiconst_1 ?_
      refine V_bipush 24 21 dX7_rules_19 rfl kbipush_24 ?_
      obtain ⟨v13, h12, hf⟩ := ob hf
      refine V_callS (rest := []) 0 0 24 [.int v13] (c_X7_outside l G (d + 2) _ _ _ _ _ h12) (by omega) ok_X7_outside oks_X7_outside wd_ml_X7_57 rfl rfl (Nat.le_of_ble_eq_true rfl) rfl rfl (Or.inl ⟨rfl, rfl⟩) dX7_rules_21 rfl rfl ?_
      refine V_if_ne 36 27 dX7_rules_24 (by decide) rfl (fun c14 => ?_) (fun c14 => ?_)
      · rw [if_neg c14] at hf
        refine V_aload_n 0 37 rfl dX7_rules_36 rfl rfl ?_
        refine V_ldc (-1000001) 39 dX7_rules_37 rfl wd_kk_X7_67 ?_
        obtain ⟨p16, h15, hf⟩ := ob hf
        refine V_callV (rest := []) (T := TX7) (n := 10) (ci := 6) 0 0 42 [.int p16.1] (c_X7_fails l G (d + 1) _ _ _ _ _ h15) (by omega) ok_X7_fails okv_X7_fails (gd_X7_fails h15) rfl wd_ml_X7_68 rfl rfl (Nat.le_of_ble_eq_true rfl) rfl rfl (Or.inl ⟨rfl, rfl⟩) dX7_rules_39 rfl rfl ?_
        have er := Option.some.inj hf
        obtain ⟨e1, e2⟩ := Prod.mk.inj er
        subst e1
        subst e2
        exact V_iret hQ rfl dX7_rules_42
      · rw [if_pos c14] at hf
        refine V_iload_n 3 28 rfl dX7_rules_27 rfl rfl ?_
        refine V_iconst 0 29 dX7_rules_28 rfl kiconst_0 ?_
        refine V_iconst 1 30 dX7_rules_29 rfl kiconst_1 ?_
        obtain ⟨v18, h17, hf⟩ := ob hf
        refine V_callS (rest := []) 0 0 33 [.int v18] (c_X7_outside l G (d + 2) _ _ _ _ _ h17) (by omega) ok_X7_outside oks_X7_outside wd_ml_X7_57 rfl rfl (Nat.le_of_ble_eq_true rfl) rfl rfl (Or.inl ⟨rfl, rfl⟩) dX7_rules_30 rfl rfl ?_
        refine V_if_eq 43 36 dX7_rules_33 (by decide) rfl (fun c19 => ?_) (fun c19 => ?_)
        · rw [if_pos c19] at hf
          refine V_iconst 0 44 dX7_rules_43 rfl kiconst_0 ?_
          refine V_istore [(4, .int 0), (0, .ref t), (1, .int a0), (2, .int a1), (3, .int a2)] 46 dX7_rules_44 (by decide) rfl rfl ?_
          refine V_iconst 1 47 dX7_rules_46 rfl kiconst_1 ?_
          refine V_aload_n 1 48 rfl dX7_rules_47 rfl rfl ?_
          obtain ⟨q21, h20, hf⟩ := ob hf
          refine V_getQ (n := 10) (ty := tyX7) 51 h20 cf_6 rfl wd_fl_X7_12 dX7_rules_48 rfl ?_
          obtain ⟨q23, h22, hf⟩ := ob hf
          refine V_getQ (n := 11) (ty := tyX4) 54 h22 cf_3 rfl wd_fl_X7_301 dX7_rules_51 rfl ?_
          obtain ⟨v25, h24, hf⟩ := ob hf
          refine V_getI (n := 4) (ty := tyX5) 57 h24 cf_4 rfl wd_fl_X7_229 dX7_rules_54 rfl ?_
          refine V_ishl 58 dX7_rules_57 rfl ?_
          refine V_istore [(5, .int ((1 : Int32) <<< (v25 &&& 31))), (4, .int 0), (0, .ref t), (1, .int a0), (2, .int a1), (3, .int a2)] 60 dX7_rules_58 (by decide) rfl rfl ?_
          refine V_iconst 1 61 dX7_rules_60 rfl kiconst_1 ?_
          refine V_istore [(6, .int 1), (5, .int ((1 : Int32) <<< (v25 &&& 31))), (4, .int 0), (0, .ref t), (1, .int a0), (2, .int a1), (3, .int a2)] 63 dX7_rules_61 (by decide) rfl rfl ?_
          obtain ⟨p37, h38, hf⟩ := ob hf
          refine V_ls [(6, .int 1), (5, .int ((1 : Int32) <<< (v25 &&& 31))), (4, .int 0), (0, .ref t), (1, .int a0), (2, .int a1), (3, .int a2)] [0, 1, 2, 3, 4, 5, 6] rfl ?_
          refine L63 σ ((1 : Int32) <<< (v25 &&& 31)) a0 a1 a2 3000 1 0 p37 h38 ?_
          refine V_iload 2 113 rfl dX7_rules_111 rfl ?_
          refine V_if_ne 123 116 dX7_rules_113 (by decide) rfl (fun c39 => ?_) (fun c39 => ?_)
          · rw [if_neg c39] at hf
            refine V_iload_n 6 124 rfl dX7_rules_123 rfl rfl ?_
            refine V_if_ne 136 127 dX7_rules_124 (by decide) rfl (fun c40 => ?_) (fun c40 => ?_)
            · rw [if_neg c40] at hf
              refine V_iload 2 138 rfl dX7_rules_136 rfl ?_
              have er := Option.some.inj hf
              obtain ⟨e1, e2⟩ := Prod.mk.inj er
              subst e1
              subst e2
              exact V_iret hQ rfl dX7_rules_138
            · rw [if_pos c40] at hf
              refine V_aload_n 3 128 rfl dX7_rules_127 rfl rfl ?_
              refine V_iload 2 130 rfl dX7_rules_128 rfl ?_
              obtain ⟨v42, h41, hf⟩ := ob hf
              refine V_callV (rest := []) (T := TX7) (n := 10) (ci := 6) 0 0 133 [.int v42] (c_X7_costOf l G (d + 1) _ _ _ _ h41) (by omega) ok_X7_costOf okv_X7_costOf (gd_X7_costOf h41) rfl wd_ml_X7_310 rfl rfl (Nat.le_of_ble_eq_true rfl) rfl rfl (Or.inl ⟨rfl, rfl⟩) dX7_rules_130 rfl rfl ?_
              refine V_goto 138 dX7_rules_133 (by decide) ?_
              have er := Option.some.inj hf
              obtain ⟨e1, e2⟩ := Prod.mk.inj er
              subst e1
              subst e2
              exact V_iret hQ rfl dX7_rules_138
          · rw [if_pos c39] at hf
            refine V_aload_n 3 117 rfl dX7_rules_116 rfl rfl ?_
            refine V_ldc (-1000002) 119 dX7_rules_117 rfl wd_kk_X7_117 ?_
            obtain ⟨p44, h43, hf⟩ := ob hf
            refine V_callV (rest := []) (T := TX7) (n := 10) (ci := 6) 0 0 122 [.int p44.1] (c_X7_fails l G (d + 1) _ _ _ _ _ h43) (by omega) ok_X7_fails okv_X7_fails (gd_X7_fails h43) rfl wd_ml_X7_68 rfl rfl (Nat.le_of_ble_eq_true rfl) rfl rfl (Or.inl ⟨rfl, rfl⟩) dX7_rules_119 rfl rfl ?_
            have er := Option.some.inj hf
            obtain ⟨e1, e2⟩ := Prod.mk.inj er
            subst e1
            subst e2
            exact V_iret hQ rfl dX7_rules_122
        · rw [if_neg c19] at hf
          refine V_aload_n 0 37 rfl dX7_rules_36 rfl rfl ?_
          refine V_ldc (-1000001) 39 dX7_rules_37 rfl wd_kk_X7_67 ?_
          obtain ⟨p46, h45, hf⟩ := ob hf
          refine V_callV (rest := []) (T := TX7) (n := 10) (ci := 6) 0 0 42 [.int p46.1] (c_X7_fails l G (d + 1) _ _ _ _ _ h45) (by omega) ok_X7_fails okv_X7_fails (gd_X7_fails h45) rfl wd_ml_X7_68 rfl rfl (Nat.le_of_ble_eq_true rfl) rfl rfl (Or.inl ⟨rfl, rfl⟩) dX7_rules_39 rfl rfl ?_
          have er := Option.some.inj hf
          obtain ⟨e1, e2⟩ := Prod.mk.inj er
          subst e1
          subst e2
          exact V_iret hQ rfl dX7_rules_42
  · rw [if_neg hg] at hf
    cases hf
abbrev mi_X7_voice : MI := (yX7_voice, cX7_voice, 5, some .int)
theorem ok_X7_voice : OkN mi_X7_voice 3 := ⟨wd_cd_X7_voice, wd_in_X7, ⟨by decide +kernel, by decide +kernel, by decide +kernel⟩, by decide⟩
theorem okv_X7_voice : Cond.instanceMethod (mi_X7_voice).1 ∈ tb ∧ Cond.selects (mi_X7_voice).1.cls (mi_X7_voice).1 (mi_X7_voice).1 ∈ tb := ⟨wd_im_X7_voice, wd_se_X7_voice⟩
def f_X7_voice (σ : St) (t : Nat) (a0 : Int32) (a1 : Int32) (a2 : Int32) : Option (Int32 × St) := if isO σ 6 t = true then ((gQ σ 6 t 0).bind fun q2 => (gQ σ 3 q2 2).bind fun q4 => (f_X5_has σ q4 a0).bind fun v6 => if v6 = 0 then ((f_X7_fails σ t (-1000001)).bind fun p9 => some (p9.1, p9.2)) else ((f_X7_outside σ a1 0 3).bind fun v11 => if v11 = 0 then ((gQ σ 6 t 2).bind fun q14 => (gQ σ 6 t 0).bind fun q16 => (gQ σ 3 q16 2).bind fun q18 => (f_X5_at σ q18 a0 0).bind fun v20 => (gQ σ 6 t 0).bind fun q22 => (f_X4_size σ q22 a0).bind fun v24 => (f_X6_speak σ q14 v20 a0 v24 a1 a2).bind fun p26 => (gQ p26.2 6 t 2).bind fun q28 => (gI p26.2 5 q28 2).bind fun v30 => if v30 = 0 then (some (p26.1, p26.2)) else ((f_X7_fails p26.2 t (-1000006)).bind fun p33 => some (p33.1, p33.2))) else ((f_X7_fails σ t (-1000001)).bind fun p35 => some (p35.1, p35.2)))) else none
theorem gd_X7_voice {σ : St} {t : Nat} {a0 : Int32} {a1 : Int32} {a2 : Int32} {r : Int32 × St} (h : f_X7_voice σ t a0 a1 a2 = some r) : isO σ 6 t = true := by
  unfold f_X7_voice at h
  by_cases hg : isO σ 6 t = true
  · exact hg
  · rw [if_neg hg] at h
    cases h
set_option maxRecDepth 100000 in
set_option maxHeartbeats 4000000 in
theorem c_X7_voice (l : Launch) (G : Gd) (d : Nat) (σ : St) (t : Nat) (a0 : Int32) (a1 : Int32) (a2 : Int32) (r0 : Int32) (σ' : St) (hf : f_X7_voice σ t a0 a1 a2 = some (r0, σ')) : MetV l G (d + 62) mi_X7_voice [.ref t, .int a0, .int a1, .int a2] σ (some (.int r0)) σ' 0 0 := by
  unfold f_X7_voice at hf
  refine MetV.of [(0, .ref t), (1, .int a0), (2, .int a1), (3, .int a2)] (by decide +kernel) rfl (Nat.le_of_ble_eq_true rfl) ?_
  intro X hQ
  by_cases hg : isO σ 6 t = true
  · rw [if_pos hg] at hf
    refine V_aload_n 0 1 rfl dX7_voice_0 rfl rfl ?_
    obtain ⟨q2, h1, hf⟩ := ob hf
    refine V_getQ (n := 10) (ty := tyX7) 4 h1 cf_6 rfl wd_fl_X7_12 dX7_voice_1 rfl ?_
    obtain ⟨q4, h3, hf⟩ := ob hf
    refine V_getQ (n := 11) (ty := tyX4) 7 h3 cf_3 rfl wd_fl_X7_126 dX7_voice_4 rfl ?_
    refine V_iload_n 1 8 rfl dX7_voice_7 rfl rfl ?_
    obtain ⟨v6, h5, hf⟩ := ob hf
    refine V_callV (rest := []) (T := TX5) (n := 4) (ci := 4) 0 0 11 [.int v6] (c_X5_has l G (d + 60) _ _ _ _ h5) (by omega) ok_X5_has okv_X5_has (gd_X5_has h5) rfl wd_ml_X7_101 rfl rfl (Nat.le_of_ble_eq_true rfl) rfl rfl (Or.inl ⟨rfl, rfl⟩) dX7_voice_8 rfl rfl ?_
    refine V_if_eq 23 14 dX7_voice_11 (by decide) rfl (fun c7 => ?_) (fun c7 => ?_)
    · rw [if_pos c7] at hf
      refine V_aload_n 0 24 rfl dX7_voice_23 rfl rfl ?_
      refine V_ldc (-1000001) 26 dX7_voice_24 rfl wd_kk_X7_67 ?_
      obtain ⟨p9, h8, hf⟩ := ob hf
      refine V_callV (rest := []) (T := TX7) (n := 10) (ci := 6) 0 0 29 [.int p9.1] (c_X7_fails l G (d + 59) _ _ _ _ _ h8) (by omega) ok_X7_fails okv_X7_fails (gd_X7_fails h8) rfl wd_ml_X7_68 rfl rfl (Nat.le_of_ble_eq_true rfl) rfl rfl (Or.inl ⟨rfl, rfl⟩) dX7_voice_26 rfl rfl ?_
      have er := Option.some.inj hf
      obtain ⟨e1, e2⟩ := Prod.mk.inj er
      subst e1
      subst e2
      exact V_iret hQ rfl dX7_voice_29
    · rw [if_neg c7] at hf
      refine V_iload_n 2 15 rfl dX7_voice_14 rfl rfl ?_
      refine V_iconst 0 16 dX7_voice_15 rfl kiconst_0 ?_
      refine V_iconst 3 17 dX7_voice_16 rfl kiconst_3 ?_
      obtain ⟨v11, h10, hf⟩ := ob hf
      refine V_callS (rest := []) 0 0 20 [.int v11] (c_X7_outside l G (d + 60) _ _ _ _ _ h10) (by omega) ok_X7_outside oks_X7_outside wd_ml_X7_57 rfl rfl (Nat.le_of_ble_eq_true rfl) rfl rfl (Or.inl ⟨rfl, rfl⟩) dX7_voice_17 rfl rfl ?_
      refine V_if_eq 30 23 dX7_voice_20 (by decide) rfl (fun c12 => ?_) (fun c12 => ?_)
      · rw [if_pos c12] at hf
        refine V_aload_n 0 31 rfl dX7_voice_30 rfl rfl ?_
        obtain ⟨q14, h13, hf⟩ := ob hf
        refine V_getQ (n := 10) (ty := tyX7) 34 h13 cf_6 rfl wd_fl_X7_26 dX7_voice_31 rfl ?_
        refine V_aload_n 0 35 rfl dX7_voice_34 rfl rfl ?_
        obtain ⟨q16, h15, hf⟩ := ob hf
        refine V_getQ (n := 10) (ty := tyX7) 38 h15 cf_6 rfl wd_fl_X7_12 dX7_voice_35 rfl ?_
        obtain ⟨q18, h17, hf⟩ := ob hf
        refine V_getQ (n := 11) (ty := tyX4) 41 h17 cf_3 rfl wd_fl_X7_126 dX7_voice_38 rfl ?_
        refine V_iload_n 1 42 rfl dX7_voice_41 rfl rfl ?_
        refine V_iconst 0 43 dX7_voice_42 rfl kiconst_0 ?_
        obtain ⟨v20, h19, hf⟩ := ob hf
        refine V_callV (rest := [.ref q14]) (T := TX5) (n := 4) (ci := 4) 0 0 46 [.int v20, .ref q14] (c_X5_at l G (d + 60) _ _ _ _ _ h19) (by omega) ok_X5_at okv_X5_at (gd_X5_at h19) rfl wd_ml_X7_76 rfl rfl (Nat.le_of_ble_eq_true rfl) rfl rfl (Or.inl ⟨rfl, rfl⟩) dX7_voice_43 rfl rfl ?_
        refine V_iload_n 1 47 rfl dX7_voice_46 rfl rfl ?_
        refine V_aload_n 0 48 rfl dX7_voice_47 rfl rfl ?_
        obtain ⟨q22, h21, hf⟩ := ob hf
        refine V_getQ (n := 10) (ty := tyX7) 51 h21 cf_6 rfl wd_fl_X7_12 dX7_voice_48 rfl ?_
        refine V_iload_n 1 52 rfl dX7_voice_51 rfl rfl ?_
        obtain ⟨v24, h23, hf⟩ := ob hf
        refine V_callV (rest := [.int a0, .int v20, .ref q14]) (T := TX4) (n := 11) (ci := 3) 0 0 55 [.int v24, .int a0, .int v20, .ref q14] (c_X4_size l G (d + 59) _ _ _ _ h23) (by omega) ok_X4_size okv_X4_size (gd_X4_size h23) rfl wd_ml_X7_163 rfl rfl (Nat.le_of_ble_eq_true rfl) rfl rfl (Or.inl ⟨rfl, rfl⟩) dX7_voice_52 rfl rfl ?_
        refine V_iload_n 2 56 rfl dX7_voice_55 rfl rfl ?_
        refine V_iload_n 3 57 rfl dX7_voice_56 rfl rfl ?_
        obtain ⟨p26, h25, hf⟩ := ob hf
        refine V_callV (rest := []) (T := TX6) (n := 6) (ci := 5) 0 0 60 [.int p26.1] (c_X6_speak l G (d + 0) _ _ _ _ _ _ _ _ _ h25) (by omega) ok_X6_speak okv_X6_speak (gd_X6_speak h25) rfl wd_ml_X7_313 rfl rfl (Nat.le_of_ble_eq_true rfl) rfl rfl (Or.inl ⟨rfl, rfl⟩) dX7_voice_57 rfl rfl ?_
        refine V_istore [(4, .int p26.1), (0, .ref t), (1, .int a0), (2, .int a1), (3, .int a2)] 62 dX7_voice_60 (by decide) rfl rfl ?_
        refine V_aload_n 1 63 rfl dX7_voice_62 rfl rfl ?_
        obtain ⟨q28, h27, hf⟩ := ob hf
        refine V_getQ (n := 10) (ty := tyX7) 66 h27 cf_6 rfl wd_fl_X7_26 dX7_voice_63 rfl ?_
        obtain ⟨v30, h29, hf⟩ := ob hf
        refine V_getI (n := 6) (ty := tyX6) 69 h29 cf_5 rfl wd_fl_X7_316 dX7_voice_66 rfl ?_
        refine V_if_eq 82 72 dX7_voice_69 (by decide) rfl (fun c31 => ?_) (fun c31 => ?_)
        · rw [if_pos c31] at hf
          refine V_iload 0 84 rfl dX7_voice_82 rfl ?_
          have er := Option.some.inj hf
          obtain ⟨e1, e2⟩ := Prod.mk.inj er
          subst e1
          subst e2
          exact V_iret hQ rfl dX7_voice_84
        · rw [if_neg c31] at hf
          refine V_aload_n 1 73 rfl dX7_voice_72 rfl rfl ?_
          refine V_ldc_w (-1000006) 76 dX7_voice_73 rfl wd_kk_X7_319 ?_
          obtain ⟨p33, h32, hf⟩ := ob hf
          refine V_callV (rest := []) (T := TX7) (n := 10) (ci := 6) 0 0 79 [.int p33.1] (c_X7_fails l G (d + 59) _ _ _ _ _ h32) (by omega) ok_X7_fails okv_X7_fails (gd_X7_fails h32) rfl wd_ml_X7_68 rfl rfl (Nat.le_of_ble_eq_true rfl) rfl rfl (Or.inl ⟨rfl, rfl⟩) dX7_voice_76 rfl rfl ?_
          refine V_goto 84 dX7_voice_79 (by decide) ?_
          have er := Option.some.inj hf
          obtain ⟨e1, e2⟩ := Prod.mk.inj er
          subst e1
          subst e2
          exact V_iret hQ rfl dX7_voice_84
      · rw [if_neg c12] at hf
        refine V_aload_n 0 24 rfl dX7_voice_23 rfl rfl ?_
        refine V_ldc (-1000001) 26 dX7_voice_24 rfl wd_kk_X7_67 ?_
        obtain ⟨p35, h34, hf⟩ := ob hf
        refine V_callV (rest := []) (T := TX7) (n := 10) (ci := 6) 0 0 29 [.int p35.1] (c_X7_fails l G (d + 59) _ _ _ _ _ h34) (by omega) ok_X7_fails okv_X7_fails (gd_X7_fails h34) rfl wd_ml_X7_68 rfl rfl (Nat.le_of_ble_eq_true rfl) rfl rfl (Or.inl ⟨rfl, rfl⟩) dX7_voice_26 rfl rfl ?_
        have er := Option.some.inj hf
        obtain ⟨e1, e2⟩ := Prod.mk.inj er
        subst e1
        subst e2
        exact V_iret hQ rfl dX7_voice_29
  · rw [if_neg hg] at hf
    cases hf
abbrev mi_X7_trace : MI := (yX7_trace, cX7_trace, 2, some .int)
theorem ok_X7_trace : OkN mi_X7_trace 1 := ⟨wd_cd_X7_trace, wd_in_X7, ⟨by decide +kernel, by decide +kernel, by decide +kernel⟩, by decide⟩
theorem okv_X7_trace : Cond.instanceMethod (mi_X7_trace).1 ∈ tb ∧ Cond.selects (mi_X7_trace).1.cls (mi_X7_trace).1 (mi_X7_trace).1 ∈ tb := ⟨wd_im_X7_trace, wd_se_X7_trace⟩
def f_X7_trace (σ : St) (t : Nat) (a0 : Int32) : Option (Int32 × St) := if isO σ 6 t = true then ((gQ σ 6 t 2).bind fun q2 => (gI σ 5 q2 1).bind fun v4 => (f_X7_outside σ a0 0 (v4 - 1)).bind fun v6 => if v6 = 0 then ((gQ σ 6 t 2).bind fun q9 => (gQ σ 5 q9 0).bind fun q11 => (aI σ 0 q11 a0).bind fun v13 => some (v13, σ)) else ((f_X7_fails σ t (-1000002)).bind fun p15 => some (p15.1, p15.2))) else none
theorem gd_X7_trace {σ : St} {t : Nat} {a0 : Int32} {r : Int32 × St} (h : f_X7_trace σ t a0 = some r) : isO σ 6 t = true := by
  unfold f_X7_trace at h
  by_cases hg : isO σ 6 t = true
  · exact hg
  · rw [if_neg hg] at h
    cases h
set_option maxRecDepth 100000 in
set_option maxHeartbeats 4000000 in
theorem c_X7_trace (l : Launch) (G : Gd) (d : Nat) (σ : St) (t : Nat) (a0 : Int32) (r0 : Int32) (σ' : St) (hf : f_X7_trace σ t a0 = some (r0, σ')) : MetV l G (d + 3) mi_X7_trace [.ref t, .int a0] σ (some (.int r0)) σ' 0 0 := by
  unfold f_X7_trace at hf
  refine MetV.of [(0, .ref t), (1, .int a0)] (by decide +kernel) rfl (Nat.le_of_ble_eq_true rfl) ?_
  intro X hQ
  by_cases hg : isO σ 6 t = true
  · rw [if_pos hg] at hf
    refine V_iload_n 1 1 rfl dX7_trace_0 rfl rfl ?_
    refine V_iconst 0 2 dX7_trace_1 rfl kiconst_0 ?_
    refine V_aload_n 0 3 rfl dX7_trace_2 rfl rfl ?_
    obtain ⟨q2, h1, hf⟩ := ob hf
    refine V_getQ (n := 10) (ty := tyX7) 6 h1 cf_6 rfl wd_fl_X7_26 dX7_trace_3 rfl ?_
    obtain ⟨v4, h3, hf⟩ := ob hf
    refine V_getI (n := 6) (ty := tyX6) 9 h3 cf_5 rfl wd_fl_X7_320 dX7_trace_6 rfl ?_
    refine V_iconst 1 10 dX7_trace_9 rfl kiconst_1 ?_
    refine V_isub 11 dX7_trace_10 rfl ?_
    obtain ⟨v6, h5, hf⟩ := ob hf
    refine V_callS (rest := []) 0 0 14 [.int v6] (c_X7_outside l G (d + 1) _ _ _ _ _ h5) (by omega) ok_X7_outside oks_X7_outside wd_ml_X7_57 rfl rfl (Nat.le_of_ble_eq_true rfl) rfl rfl (Or.inl ⟨rfl, rfl⟩) dX7_trace_11 rfl rfl ?_
    refine V_if_eq 24 17 dX7_trace_14 (by decide) rfl (fun c7 => ?_) (fun c7 => ?_)
    · rw [if_pos c7] at hf
      refine V_aload_n 0 25 rfl dX7_trace_24 rfl rfl ?_
      obtain ⟨q9, h8, hf⟩ := ob hf
      refine V_getQ (n := 10) (ty := tyX7) 28 h8 cf_6 rfl wd_fl_X7_26 dX7_trace_25 rfl ?_
      obtain ⟨q11, h10, hf⟩ := ob hf
      refine V_getQ (n := 6) (ty := tyX6) 31 h10 cf_5 rfl wd_fl_X7_323 dX7_trace_28 rfl ?_
      refine V_iload_n 1 32 rfl dX7_trace_31 rfl rfl ?_
      obtain ⟨v13, h12, hf⟩ := ob hf
      refine V_iald 33 h12 dX7_trace_32 rfl ?_
      have er := Option.some.inj hf
      obtain ⟨e1, e2⟩ := Prod.mk.inj er
      subst e1
      subst e2
      exact V_iret hQ rfl dX7_trace_33
    · rw [if_neg c7] at hf
      refine V_aload_n 0 18 rfl dX7_trace_17 rfl rfl ?_
      refine V_ldc (-1000002) 20 dX7_trace_18 rfl wd_kk_X7_117 ?_
      obtain ⟨p15, h14, hf⟩ := ob hf
      refine V_callV (rest := []) (T := TX7) (n := 10) (ci := 6) 0 0 23 [.int p15.1] (c_X7_fails l G (d + 0) _ _ _ _ _ h14) (by omega) ok_X7_fails okv_X7_fails (gd_X7_fails h14) rfl wd_ml_X7_68 rfl rfl (Nat.le_of_ble_eq_true rfl) rfl rfl (Or.inl ⟨rfl, rfl⟩) dX7_trace_20 rfl rfl ?_
      have er := Option.some.inj hf
      obtain ⟨e1, e2⟩ := Prod.mk.inj er
      subst e1
      subst e2
      exact V_iret hQ rfl dX7_trace_23
  · rw [if_neg hg] at hf
    cases hf
abbrev mi_X7_sheet : MI := (yX7_sheet, cX7_sheet, 4, some .int)
theorem ok_X7_sheet : OkN mi_X7_sheet 3 := ⟨wd_cd_X7_sheet, wd_in_X7, ⟨by decide +kernel, by decide +kernel, by decide +kernel⟩, by decide⟩
theorem okv_X7_sheet : Cond.instanceMethod (mi_X7_sheet).1 ∈ tb ∧ Cond.selects (mi_X7_sheet).1.cls (mi_X7_sheet).1 (mi_X7_sheet).1 ∈ tb := ⟨wd_im_X7_sheet, wd_se_X7_sheet⟩
def f_X7_sheet (σ : St) (t : Nat) (a0 : Int32) (a1 : Int32) (a2 : Int32) : Option (Int32 × St) := if isO σ 6 t = true then ((f_X7_outside σ a0 0 3).bind fun v2 => if v2 = 0 then ((f_X3_isWidth σ a1).bind fun v7 => if v7 = 0 then ((f_X7_fails σ t (-1000001)).bind fun p54 => some (p54.1, p54.2)) else (if a1 = 0 then (if a1 = 0 then ((gQ σ 6 t 3).bind fun q12 => (aQ σ 3 q12 a0).bind fun q14 => (f_X3_become σ q14 a1 (if a1 = 0 then 0 else a2 : Int32)).bind fun s16 => some (1, s16)) else (if a2 ≤ 24 then ((gQ σ 6 t 3).bind fun q21 => (aQ σ 3 q21 a0).bind fun q23 => (f_X3_become σ q23 a1 (if a1 = 0 then 0 else a2 : Int32)).bind fun s25 => some (1, s25)) else ((f_X7_fails σ t (-1000001)).bind fun p29 => some (p29.1, p29.2)))) else (if 0 ≤ a2 then (if a1 = 0 then ((gQ σ 6 t 3).bind fun q33 => (aQ σ 3 q33 a0).bind fun q35 => (f_X3_become σ q35 a1 (if a1 = 0 then 0 else a2 : Int32)).bind fun s37 => some (1, s37)) else (if a2 ≤ 24 then ((gQ σ 6 t 3).bind fun q42 => (aQ σ 3 q42 a0).bind fun q44 => (f_X3_become σ q44 a1 (if a1 = 0 then 0 else a2 : Int32)).bind fun s46 => some (1, s46)) else ((f_X7_fails σ t (-1000001)).bind fun p50 => some (p50.1, p50.2)))) else ((f_X7_fails σ t (-1000003)).bind fun p52 => some (p52.1, p52.2))))) else ((f_X7_fails σ t (-1000001)).bind fun p5 => some (p5.1, p5.2))) else none
theorem gd_X7_sheet {σ : St} {t : Nat} {a0 : Int32} {a1 : Int32} {a2 : Int32} {r : Int32 × St} (h : f_X7_sheet σ t a0 a1 a2 = some r) : isO σ 6 t = true := by
  unfold f_X7_sheet at h
  by_cases hg : isO σ 6 t = true
  · exact hg
  · rw [if_neg hg] at h
    cases h
set_option maxRecDepth 100000 in
set_option maxHeartbeats 4000000 in
theorem c_X7_sheet (l : Launch) (G : Gd) (d : Nat) (σ : St) (t : Nat) (a0 : Int32) (a1 : Int32) (a2 : Int32) (r0 : Int32) (σ' : St) (hf : f_X7_sheet σ t a0 a1 a2 = some (r0, σ')) : MetV l G (d + 3) mi_X7_sheet [.ref t, .int a0, .int a1, .int a2] σ (some (.int r0)) σ' 0 0 := by
  unfold f_X7_sheet at hf
  refine MetV.of [(0, .ref t), (1, .int a0), (2, .int a1), (3, .int a2)] (by decide +kernel) rfl (Nat.le_of_ble_eq_true rfl) ?_
  intro X hQ
  by_cases hg : isO σ 6 t = true
  · rw [if_pos hg] at hf
    refine V_iload_n 1 1 rfl dX7_sheet_0 rfl rfl ?_
    refine V_iconst 0 2 dX7_sheet_1 rfl kiconst_0 ?_
    refine V_iconst 3 3 dX7_sheet_2 rfl kiconst_3 ?_
    obtain ⟨v2, h1, hf⟩ := ob hf
    refine V_callS (rest := []) 0 0 6 [.int v2] (c_X7_outside l G (d + 1) _ _ _ _ _ h1) (by omega) ok_X7_outside oks_X7_outside wd_ml_X7_57 rfl rfl (Nat.le_of_ble_eq_true rfl) rfl rfl (Or.inl ⟨rfl, rfl⟩) dX7_sheet_3 rfl rfl ?_
    refine V_if_ne 16 9 dX7_sheet_6 (by decide) rfl (fun c3 => ?_) (fun c3 => ?_)
    · rw [if_neg c3] at hf
      refine V_aload_n 0 17 rfl dX7_sheet_16 rfl rfl ?_
      refine V_ldc (-1000001) 19 dX7_sheet_17 rfl wd_kk_X7_67 ?_
      obtain ⟨p5, h4, hf⟩ := ob hf
      refine V_callV (rest := []) (T := TX7) (n := 10) (ci := 6) 0 0 22 [.int p5.1] (c_X7_fails l G (d + 0) _ _ _ _ _ h4) (by omega) ok_X7_fails okv_X7_fails (gd_X7_fails h4) rfl wd_ml_X7_68 rfl rfl (Nat.le_of_ble_eq_true rfl) rfl rfl (Or.inl ⟨rfl, rfl⟩) dX7_sheet_19 rfl rfl ?_
      have er := Option.some.inj hf
      obtain ⟨e1, e2⟩ := Prod.mk.inj er
      subst e1
      subst e2
      exact V_iret hQ rfl dX7_sheet_22
    · rw [if_pos c3] at hf
      refine V_iload_n 2 10 rfl dX7_sheet_9 rfl rfl ?_
      obtain ⟨v7, h6, hf⟩ := ob hf
      refine V_callS (rest := []) 0 0 13 [.int v7] (c_X3_isWidth l G (d + 1) _ _ _ h6) (by omega) ok_X3_isWidth oks_X3_isWidth wd_ml_X7_326 rfl rfl (Nat.le_of_ble_eq_true rfl) rfl rfl (Or.inl ⟨rfl, rfl⟩) dX7_sheet_10 rfl rfl ?_
      refine V_if_ne 23 16 dX7_sheet_13 (by decide) rfl (fun c8 => ?_) (fun c8 => ?_)
      · rw [if_neg c8] at hf
        refine V_iload_n 2 24 rfl dX7_sheet_23 rfl rfl ?_
        refine V_if_eq 39 27 dX7_sheet_24 (by decide) rfl (fun c9 => ?_) (fun c9 => ?_)
        · rw [if_pos c9] at hf
          refine V_iload_n 2 40 rfl dX7_sheet_39 rfl rfl ?_
          refine V_if_eq 56 43 dX7_sheet_40 (by decide) rfl (fun c10 => ?_) (fun c10 => ?_)
          · rw [if_pos c10] at hf
            refine V_aload_n 0 57 rfl dX7_sheet_56 rfl rfl ?_
            obtain ⟨q12, h11, hf⟩ := ob hf
            refine V_getQ (n := 10) (ty := tyX7) 60 h11 cf_6 rfl wd_fl_X7_32 dX7_sheet_57 rfl ?_
            refine V_iload_n 1 61 rfl dX7_sheet_60 rfl rfl ?_
            obtain ⟨q14, h13, hf⟩ := ob hf
            refine V_aald (t := 3) 62 h13 (by decide) dX7_sheet_61 rfl ?_
            refine V_iload_n 2 63 rfl dX7_sheet_62 rfl rfl ?_
            refine V_iload_n 2 64 rfl dX7_sheet_63 rfl rfl ?_
            have kj17 : V mi_X7_sheet l G (d + 3) 0 0 X 0 0 72 [(0, .ref t), (1, .int a0), (2, .int a1), (3, .int a2)] [.int (if a1 = 0 then 0 else a2 : Int32), .int a1, .ref q14] σ := by
              obtain ⟨s16, h15, hf⟩ := ob hf
              refine V_callV (rest := []) (T := TX3) (n := 3) (ci := 2) 0 0 75 [] (c_X3_become l G (d + 0) _ _ _ _ _ h15) (by omega) ok_X3_become okv_X3_become (gd_X3_become h15) rfl wd_ml_X7_329 rfl rfl (Nat.le_of_ble_eq_true rfl) rfl rfl (Or.inl ⟨rfl, rfl⟩) dX7_sheet_72 rfl rfl ?_
              refine V_iconst 1 76 dX7_sheet_75 rfl kiconst_1 ?_
              have er := Option.some.inj hf
              obtain ⟨e1, e2⟩ := Prod.mk.inj er
              subst e1
              subst e2
              exact V_iret hQ rfl dX7_sheet_76
            refine V_if_ne 71 67 dX7_sheet_64 (by decide) rfl (fun c18 => ?_) (fun c18 => ?_)
            · refine V_iload_n 3 72 rfl dX7_sheet_71 rfl rfl ?_
              refine V_ls [(0, .ref t), (1, .int a0), (2, .int a1), (3, .int a2)] [0, 1, 2, 3] rfl ?_
              simp only [if_neg c18] at kj17
              exact kj17
            · refine V_iconst 0 68 dX7_sheet_67 rfl kiconst_0 ?_
              refine V_goto 72 dX7_sheet_68 (by decide) ?_
              refine V_ls [(0, .ref t), (1, .int a0), (2, .int a1), (3, .int a2)] [0, 1, 2, 3] rfl ?_
              simp only [if_pos c18] at kj17
              exact kj17
          · rw [if_neg c10] at hf
            refine V_iload_n 3 44 rfl dX7_sheet_43 rfl rfl ?_
            refine V_bipush 24 46 dX7_sheet_44 rfl kbipush_24 ?_
            refine V_icmp_le 56 49 dX7_sheet_46 (by decide) rfl (fun c19 => ?_) (fun c19 => ?_)
            · rw [if_pos c19] at hf
              refine V_aload_n 0 57 rfl dX7_sheet_56 rfl rfl ?_
              obtain ⟨q21, h20, hf⟩ := ob hf
              refine V_getQ (n := 10) (ty := tyX7) 60 h20 cf_6 rfl wd_fl_X7_32 dX7_sheet_57 rfl ?_
              refine V_iload_n 1 61 rfl dX7_sheet_60 rfl rfl ?_
              obtain ⟨q23, h22, hf⟩ := ob hf
              refine V_aald (t := 3) 62 h22 (by decide) dX7_sheet_61 rfl ?_
              refine V_iload_n 2 63 rfl dX7_sheet_62 rfl rfl ?_
              refine V_iload_n 2 64 rfl dX7_sheet_63 rfl rfl ?_
              have kj26 : V mi_X7_sheet l G (d + 3) 0 0 X 0 0 72 [(0, .ref t), (1, .int a0), (2, .int a1), (3, .int a2)] [.int (if a1 = 0 then 0 else a2 : Int32), .int a1, .ref q23] σ := by
                obtain ⟨s25, h24, hf⟩ := ob hf
                refine V_callV (rest := []) (T := TX3) (n := 3) (ci := 2) 0 0 75 [] (c_X3_become l G (d + 0) _ _ _ _ _ h24) (by omega) ok_X3_become okv_X3_become (gd_X3_become h24) rfl wd_ml_X7_329 rfl rfl (Nat.le_of_ble_eq_true rfl) rfl rfl (Or.inl ⟨rfl, rfl⟩) dX7_sheet_72 rfl rfl ?_
                refine V_iconst 1 76 dX7_sheet_75 rfl kiconst_1 ?_
                have er := Option.some.inj hf
                obtain ⟨e1, e2⟩ := Prod.mk.inj er
                subst e1
                subst e2
                exact V_iret hQ rfl dX7_sheet_76
              refine V_if_ne 71 67 dX7_sheet_64 (by decide) rfl (fun c27 => ?_) (fun c27 => ?_)
              · refine V_iload_n 3 72 rfl dX7_sheet_71 rfl rfl ?_
                refine V_ls [(0, .ref t), (1, .int a0), (2, .int a1), (3, .int a2)] [0, 1, 2, 3] rfl ?_
                simp only [if_neg c27] at kj26
                exact kj26
              · refine V_iconst 0 68 dX7_sheet_67 rfl kiconst_0 ?_
                refine V_goto 72 dX7_sheet_68 (by decide) ?_
                refine V_ls [(0, .ref t), (1, .int a0), (2, .int a1), (3, .int a2)] [0, 1, 2, 3] rfl ?_
                simp only [if_pos c27] at kj26
                exact kj26
            · rw [if_neg c19] at hf
              refine V_aload_n 0 50 rfl dX7_sheet_49 rfl rfl ?_
              refine V_ldc (-1000001) 52 dX7_sheet_50 rfl wd_kk_X7_67 ?_
              obtain ⟨p29, h28, hf⟩ := ob hf
              refine V_callV (rest := []) (T := TX7) (n := 10) (ci := 6) 0 0 55 [.int p29.1] (c_X7_fails l G (d + 0) _ _ _ _ _ h28) (by omega) ok_X7_fails okv_X7_fails (gd_X7_fails h28) rfl wd_ml_X7_68 rfl rfl (Nat.le_of_ble_eq_true rfl) rfl rfl (Or.inl ⟨rfl, rfl⟩) dX7_sheet_52 rfl rfl ?_
              have er := Option.some.inj hf
              obtain ⟨e1, e2⟩ := Prod.mk.inj er
              subst e1
              subst e2
              exact V_iret hQ rfl dX7_sheet_55
        · rw [if_neg c9] at hf
          refine V_iload_n 3 28 rfl dX7_sheet_27 rfl rfl ?_
          refine V_if_ge 39 31 dX7_sheet_28 (by decide) rfl (fun c30 => ?_) (fun c30 => ?_)
          · rw [if_pos c30] at hf
            refine V_iload_n 2 40 rfl dX7_sheet_39 rfl rfl ?_
            refine V_if_eq 56 43 dX7_sheet_40 (by decide) rfl (fun c31 => ?_) (fun c31 => ?_)
            · rw [if_pos c31] at hf
              refine V_aload_n 0 57 rfl dX7_sheet_56 rfl rfl ?_
              obtain ⟨q33, h32, hf⟩ := ob hf
              refine V_getQ (n := 10) (ty := tyX7) 60 h32 cf_6 rfl wd_fl_X7_32 dX7_sheet_57 rfl ?_
              refine V_iload_n 1 61 rfl dX7_sheet_60 rfl rfl ?_
              obtain ⟨q35, h34, hf⟩ := ob hf
              refine V_aald (t := 3) 62 h34 (by decide) dX7_sheet_61 rfl ?_
              refine V_iload_n 2 63 rfl dX7_sheet_62 rfl rfl ?_
              refine V_iload_n 2 64 rfl dX7_sheet_63 rfl rfl ?_
              have kj38 : V mi_X7_sheet l G (d + 3) 0 0 X 0 0 72 [(0, .ref t), (1, .int a0), (2, .int a1), (3, .int a2)] [.int (if a1 = 0 then 0 else a2 : Int32), .int a1, .ref q35] σ := by
                obtain ⟨s37, h36, hf⟩ := ob hf
                refine V_callV (rest := []) (T := TX3) (n := 3) (ci := 2) 0 0 75 [] (c_X3_become l G (d + 0) _ _ _ _ _ h36) (by omega) ok_X3_become okv_X3_become (gd_X3_become h36) rfl wd_ml_X7_329 rfl rfl (Nat.le_of_ble_eq_true rfl) rfl rfl (Or.inl ⟨rfl, rfl⟩) dX7_sheet_72 rfl rfl ?_
                refine V_iconst 1 76 dX7_sheet_75 rfl kiconst_1 ?_
                have er := Option.some.inj hf
                obtain ⟨e1, e2⟩ := Prod.mk.inj er
                subst e1
                subst e2
                exact V_iret hQ rfl dX7_sheet_76
              refine V_if_ne 71 67 dX7_sheet_64 (by decide) rfl (fun c39 => ?_) (fun c39 => ?_)
              · refine V_iload_n 3 72 rfl dX7_sheet_71 rfl rfl ?_
                refine V_ls [(0, .ref t), (1, .int a0), (2, .int a1), (3, .int a2)] [0, 1, 2, 3] rfl ?_
                simp only [if_neg c39] at kj38
                exact kj38
              · refine V_iconst 0 68 dX7_sheet_67 rfl kiconst_0 ?_
                refine V_goto 72 dX7_sheet_68 (by decide) ?_
                refine V_ls [(0, .ref t), (1, .int a0), (2, .int a1), (3, .int a2)] [0, 1, 2, 3] rfl ?_
                simp only [if_pos c39] at kj38
                exact kj38
            · rw [if_neg c31] at hf
              refine V_iload_n 3 44 rfl dX7_sheet_43 rfl rfl ?_
              refine V_bipush 24 46 dX7_sheet_44 rfl kbipush_24 ?_
              refine V_icmp_le 56 49 dX7_sheet_46 (by decide) rfl (fun c40 => ?_) (fun c40 => ?_)
              · rw [if_pos c40] at hf
                refine V_aload_n 0 57 rfl dX7_sheet_56 rfl rfl ?_
                obtain ⟨q42, h41, hf⟩ := ob hf
                refine V_getQ (n := 10) (ty := tyX7) 60 h41 cf_6 rfl wd_fl_X7_32 dX7_sheet_57 rfl ?_
                refine V_iload_n 1 61 rfl dX7_sheet_60 rfl rfl ?_
                obtain ⟨q44, h43, hf⟩ := ob hf
                refine V_aald (t := 3) 62 h43 (by decide) dX7_sheet_61 rfl ?_
                refine V_iload_n 2 63 rfl dX7_sheet_62 rfl rfl ?_
                refine V_iload_n 2 64 rfl dX7_sheet_63 rfl rfl ?_
                have kj47 : V mi_X7_sheet l G (d + 3) 0 0 X 0 0 72 [(0, .ref t), (1, .int a0), (2, .int a1), (3, .int a2)] [.int (if a1 = 0 then 0 else a2 : Int32), .int a1, .ref q44] σ := by
                  obtain ⟨s46, h45, hf⟩ := ob hf
                  refine V_callV (rest := []) (T := TX3) (n := 3) (ci := 2) 0 0 75 [] (c_X3_become l G (d + 0) _ _ _ _ _ h45) (by omega) ok_X3_become okv_X3_become (gd_X3_become h45) rfl wd_ml_X7_329 rfl rfl (Nat.le_of_ble_eq_true rfl) rfl rfl (Or.inl ⟨rfl, rfl⟩) dX7_sheet_72 rfl rfl ?_
                  refine V_iconst 1 76 dX7_sheet_75 rfl kiconst_1 ?_
                  have er := Option.some.inj hf
                  obtain ⟨e1, e2⟩ := Prod.mk.inj er
                  subst e1
                  subst e2
                  exact V_iret hQ rfl dX7_sheet_76
                refine V_if_ne 71 67 dX7_sheet_64 (by decide) rfl (fun c48 => ?_) (fun c48 => ?_)
                · refine V_iload_n 3 72 rfl dX7_sheet_71 rfl rfl ?_
                  refine V_ls [(0, .ref t), (1, .int a0), (2, .int a1), (3, .int a2)] [0, 1, 2, 3] rfl ?_
                  simp only [if_neg c48] at kj47
                  exact kj47
                · refine V_iconst 0 68 dX7_sheet_67 rfl kiconst_0 ?_
                  refine V_goto 72 dX7_sheet_68 (by decide) ?_
                  refine V_ls [(0, .ref t), (1, .int a0), (2, .int a1), (3, .int a2)] [0, 1, 2, 3] rfl ?_
                  simp only [if_pos c48] at kj47
                  exact kj47
              · rw [if_neg c40] at hf
                refine V_aload_n 0 50 rfl dX7_sheet_49 rfl rfl ?_
                refine V_ldc (-1000001) 52 dX7_sheet_50 rfl wd_kk_X7_67 ?_
                obtain ⟨p50, h49, hf⟩ := ob hf
                refine V_callV (rest := []) (T := TX7) (n := 10) (ci := 6) 0 0 55 [.int p50.1] (c_X7_fails l G (d + 0) _ _ _ _ _ h49) (by omega) ok_X7_fails okv_X7_fails (gd_X7_fails h49) rfl wd_ml_X7_68 rfl rfl (Nat.le_of_ble_eq_true rfl) rfl rfl (Or.inl ⟨rfl, rfl⟩) dX7_sheet_52 rfl rfl ?_
                have er := Option.some.inj hf
                obtain ⟨e1, e2⟩ := Prod.mk.inj er
                subst e1
                subst e2
                exact V_iret hQ rfl dX7_sheet_55
          · rw [if_neg c30] at hf
            refine V_aload_n 0 32 rfl dX7_sheet_31 rfl rfl ?_
            refine V_ldc_w (-1000003) 35 dX7_sheet_32 rfl wd_kk_X7_276 ?_
            obtain ⟨p52, h51, hf⟩ := ob hf
            refine V_callV (rest := []) (T := TX7) (n := 10) (ci := 6) 0 0 38 [.int p52.1] (c_X7_fails l G (d + 0) _ _ _ _ _ h51) (by omega) ok_X7_fails okv_X7_fails (gd_X7_fails h51) rfl wd_ml_X7_68 rfl rfl (Nat.le_of_ble_eq_true rfl) rfl rfl (Or.inl ⟨rfl, rfl⟩) dX7_sheet_35 rfl rfl ?_
            have er := Option.some.inj hf
            obtain ⟨e1, e2⟩ := Prod.mk.inj er
            subst e1
            subst e2
            exact V_iret hQ rfl dX7_sheet_38
      · rw [if_pos c8] at hf
        refine V_aload_n 0 17 rfl dX7_sheet_16 rfl rfl ?_
        refine V_ldc (-1000001) 19 dX7_sheet_17 rfl wd_kk_X7_67 ?_
        obtain ⟨p54, h53, hf⟩ := ob hf
        refine V_callV (rest := []) (T := TX7) (n := 10) (ci := 6) 0 0 22 [.int p54.1] (c_X7_fails l G (d + 0) _ _ _ _ _ h53) (by omega) ok_X7_fails okv_X7_fails (gd_X7_fails h53) rfl wd_ml_X7_68 rfl rfl (Nat.le_of_ble_eq_true rfl) rfl rfl (Or.inl ⟨rfl, rfl⟩) dX7_sheet_19 rfl rfl ?_
        have er := Option.some.inj hf
        obtain ⟨e1, e2⟩ := Prod.mk.inj er
        subst e1
        subst e2
        exact V_iret hQ rfl dX7_sheet_22
  · rw [if_neg hg] at hf
    cases hf
abbrev mi_X7_put : MI := (yX7_put, cX7_put, 4, some .int)
theorem ok_X7_put : OkN mi_X7_put 3 := ⟨wd_cd_X7_put, wd_in_X7, ⟨by decide +kernel, by decide +kernel, by decide +kernel⟩, by decide⟩
theorem okv_X7_put : Cond.instanceMethod (mi_X7_put).1 ∈ tb ∧ Cond.selects (mi_X7_put).1.cls (mi_X7_put).1 (mi_X7_put).1 ∈ tb := ⟨wd_im_X7_put, wd_se_X7_put⟩
def f_X7_put (σ : St) (t : Nat) (a0 : Int32) (a1 : Int32) (a2 : Int32) : Option (Int32 × St) := if isO σ 6 t = true then ((f_X7_outside σ a0 0 3).bind fun v2 => if v2 = 0 then ((gQ σ 6 t 3).bind fun q5 => (aQ σ 3 q5 a0).bind fun q7 => (f_X3_isMissing σ q7).bind fun v9 => if v9 = 0 then ((gQ σ 6 t 3).bind fun q12 => (aQ σ 3 q12 a0).bind fun q14 => (f_X3_holds σ q14 a1 1).bind fun v16 => if v16 = 0 then ((f_X7_fails σ t (-1000001)).bind fun p25 => some (p25.1, p25.2)) else ((gQ σ 6 t 3).bind fun q19 => (aQ σ 3 q19 a0).bind fun q21 => (f_X3_set σ q21 a1 a2).bind fun s23 => some (1, s23))) else ((f_X7_fails σ t (-1000002)).bind fun p27 => some (p27.1, p27.2))) else ((f_X7_fails σ t (-1000001)).bind fun p29 => some (p29.1, p29.2))) else none
theorem gd_X7_put {σ : St} {t : Nat} {a0 : Int32} {a1 : Int32} {a2 : Int32} {r : Int32 × St} (h : f_X7_put σ t a0 a1 a2 = some r) : isO σ 6 t = true := by
  unfold f_X7_put at h
  by_cases hg : isO σ 6 t = true
  · exact hg
  · rw [if_neg hg] at h
    cases h
set_option maxRecDepth 100000 in
set_option maxHeartbeats 4000000 in
theorem c_X7_put (l : Launch) (G : Gd) (d : Nat) (σ : St) (t : Nat) (a0 : Int32) (a1 : Int32) (a2 : Int32) (r0 : Int32) (σ' : St) (hf : f_X7_put σ t a0 a1 a2 = some (r0, σ')) : MetV l G (d + 3) mi_X7_put [.ref t, .int a0, .int a1, .int a2] σ (some (.int r0)) σ' 0 0 := by
  unfold f_X7_put at hf
  refine MetV.of [(0, .ref t), (1, .int a0), (2, .int a1), (3, .int a2)] (by decide +kernel) rfl (Nat.le_of_ble_eq_true rfl) ?_
  intro X hQ
  by_cases hg : isO σ 6 t = true
  · rw [if_pos hg] at hf
    refine V_iload_n 1 1 rfl dX7_put_0 rfl rfl ?_
    refine V_iconst 0 2 dX7_put_1 rfl kiconst_0 ?_
    refine V_iconst 3 3 dX7_put_2 rfl kiconst_3 ?_
    obtain ⟨v2, h1, hf⟩ := ob hf
    refine V_callS (rest := []) 0 0 6 [.int v2] (c_X7_outside l G (d + 1) _ _ _ _ _ h1) (by omega) ok_X7_outside oks_X7_outside wd_ml_X7_57 rfl rfl (Nat.le_of_ble_eq_true rfl) rfl rfl (Or.inl ⟨rfl, rfl⟩) dX7_put_3 rfl rfl ?_
    refine V_if_eq 16 9 dX7_put_6 (by decide) rfl (fun c3 => ?_) (fun c3 => ?_)
    · rw [if_pos c3] at hf
      refine V_aload_n 0 17 rfl dX7_put_16 rfl rfl ?_
      obtain ⟨q5, h4, hf⟩ := ob hf
      refine V_getQ (n := 10) (ty := tyX7) 20 h4 cf_6 rfl wd_fl_X7_32 dX7_put_17 rfl ?_
      refine V_iload_n 1 21 rfl dX7_put_20 rfl rfl ?_
      obtain ⟨q7, h6, hf⟩ := ob hf
      refine V_aald (t := 3) 22 h6 (by decide) dX7_put_21 rfl ?_
      obtain ⟨v9, h8, hf⟩ := ob hf
      refine V_callV (rest := []) (T := TX3) (n := 3) (ci := 2) 0 0 25 [.int v9] (c_X3_isMissing l G (d + 1) _ _ _ h8) (by omega) ok_X3_isMissing okv_X3_isMissing (gd_X3_isMissing h8) rfl wd_ml_X7_114 rfl rfl (Nat.le_of_ble_eq_true rfl) rfl rfl (Or.inl ⟨rfl, rfl⟩) dX7_put_22 rfl rfl ?_
      refine V_if_eq 35 28 dX7_put_25 (by decide) rfl (fun c10 => ?_) (fun c10 => ?_)
      · rw [if_pos c10] at hf
        refine V_aload_n 0 36 rfl dX7_put_35 rfl rfl ?_
        obtain ⟨q12, h11, hf⟩ := ob hf
        refine V_getQ (n := 10) (ty := tyX7) 39 h11 cf_6 rfl wd_fl_X7_32 dX7_put_36 rfl ?_
        refine V_iload_n 1 40 rfl dX7_put_39 rfl rfl ?_
        obtain ⟨q14, h13, hf⟩ := ob hf
        refine V_aald (t := 3) 41 h13 (by decide) dX7_put_40 rfl ?_
        refine V_iload_n 2 42 rfl dX7_put_41 rfl rfl ?_
        refine V_iconst 1 43 dX7_put_42 rfl kiconst_1 ?_
        obtain ⟨v16, h15, hf⟩ := ob hf
        refine V_callV (rest := []) (T := TX3) (n := 3) (ci := 2) 0 0 46 [.int v16] (c_X3_holds l G (d + 1) _ _ _ _ _ h15) (by omega) ok_X3_holds okv_X3_holds (gd_X3_holds h15) rfl wd_ml_X7_118 rfl rfl (Nat.le_of_ble_eq_true rfl) rfl rfl (Or.inl ⟨rfl, rfl⟩) dX7_put_43 rfl rfl ?_
        refine V_if_ne 56 49 dX7_put_46 (by decide) rfl (fun c17 => ?_) (fun c17 => ?_)
        · rw [if_neg c17] at hf
          refine V_aload_n 0 57 rfl dX7_put_56 rfl rfl ?_
          obtain ⟨q19, h18, hf⟩ := ob hf
          refine V_getQ (n := 10) (ty := tyX7) 60 h18 cf_6 rfl wd_fl_X7_32 dX7_put_57 rfl ?_
          refine V_iload_n 1 61 rfl dX7_put_60 rfl rfl ?_
          obtain ⟨q21, h20, hf⟩ := ob hf
          refine V_aald (t := 3) 62 h20 (by decide) dX7_put_61 rfl ?_
          refine V_iload_n 2 63 rfl dX7_put_62 rfl rfl ?_
          refine V_iload_n 3 64 rfl dX7_put_63 rfl rfl ?_
          obtain ⟨s23, h22, hf⟩ := ob hf
          refine V_callV (rest := []) (T := TX3) (n := 3) (ci := 2) 0 0 67 [] (c_X3_set l G (d + 0) _ _ _ _ _ h22) (by omega) ok_X3_set okv_X3_set (gd_X3_set h22) rfl wd_ml_X7_332 rfl rfl (Nat.le_of_ble_eq_true rfl) rfl rfl (Or.inl ⟨rfl, rfl⟩) dX7_put_64 rfl rfl ?_
          refine V_iconst 1 68 dX7_put_67 rfl kiconst_1 ?_
          have er := Option.some.inj hf
          obtain ⟨e1, e2⟩ := Prod.mk.inj er
          subst e1
          subst e2
          exact V_iret hQ rfl dX7_put_68
        · rw [if_pos c17] at hf
          refine V_aload_n 0 50 rfl dX7_put_49 rfl rfl ?_
          refine V_ldc (-1000001) 52 dX7_put_50 rfl wd_kk_X7_67 ?_
          obtain ⟨p25, h24, hf⟩ := ob hf
          refine V_callV (rest := []) (T := TX7) (n := 10) (ci := 6) 0 0 55 [.int p25.1] (c_X7_fails l G (d + 0) _ _ _ _ _ h24) (by omega) ok_X7_fails okv_X7_fails (gd_X7_fails h24) rfl wd_ml_X7_68 rfl rfl (Nat.le_of_ble_eq_true rfl) rfl rfl (Or.inl ⟨rfl, rfl⟩) dX7_put_52 rfl rfl ?_
          have er := Option.some.inj hf
          obtain ⟨e1, e2⟩ := Prod.mk.inj er
          subst e1
          subst e2
          exact V_iret hQ rfl dX7_put_55
      · rw [if_neg c10] at hf
        refine V_aload_n 0 29 rfl dX7_put_28 rfl rfl ?_
        refine V_ldc (-1000002) 31 dX7_put_29 rfl wd_kk_X7_117 ?_
        obtain ⟨p27, h26, hf⟩ := ob hf
        refine V_callV (rest := []) (T := TX7) (n := 10) (ci := 6) 0 0 34 [.int p27.1] (c_X7_fails l G (d + 0) _ _ _ _ _ h26) (by omega) ok_X7_fails okv_X7_fails (gd_X7_fails h26) rfl wd_ml_X7_68 rfl rfl (Nat.le_of_ble_eq_true rfl) rfl rfl (Or.inl ⟨rfl, rfl⟩) dX7_put_31 rfl rfl ?_
        have er := Option.some.inj hf
        obtain ⟨e1, e2⟩ := Prod.mk.inj er
        subst e1
        subst e2
        exact V_iret hQ rfl dX7_put_34
    · rw [if_neg c3] at hf
      refine V_aload_n 0 10 rfl dX7_put_9 rfl rfl ?_
      refine V_ldc (-1000001) 12 dX7_put_10 rfl wd_kk_X7_67 ?_
      obtain ⟨p29, h28, hf⟩ := ob hf
      refine V_callV (rest := []) (T := TX7) (n := 10) (ci := 6) 0 0 15 [.int p29.1] (c_X7_fails l G (d + 0) _ _ _ _ _ h28) (by omega) ok_X7_fails okv_X7_fails (gd_X7_fails h28) rfl wd_ml_X7_68 rfl rfl (Nat.le_of_ble_eq_true rfl) rfl rfl (Or.inl ⟨rfl, rfl⟩) dX7_put_12 rfl rfl ?_
      have er := Option.some.inj hf
      obtain ⟨e1, e2⟩ := Prod.mk.inj er
      subst e1
      subst e2
      exact V_iret hQ rfl dX7_put_15
  · rw [if_neg hg] at hf
    cases hf
abbrev mi_X7_move : MI := (yX7_move, cX7_move, 8, some .int)
theorem ok_X7_move : OkN mi_X7_move 5 := ⟨wd_cd_X7_move, wd_in_X7, ⟨by decide +kernel, by decide +kernel, by decide +kernel⟩, by decide⟩
theorem okv_X7_move : Cond.instanceMethod (mi_X7_move).1 ∈ tb ∧ Cond.selects (mi_X7_move).1.cls (mi_X7_move).1 (mi_X7_move).1 ∈ tb := ⟨wd_im_X7_move, wd_se_X7_move⟩
def f_X7_move (σ : St) (t : Nat) (a0 : Int32) (a1 : Int32) (a2 : Int32) (a3 : Int32) (a4 : Int32) : Option (Int32 × St) := if isO σ 6 t = true then ((f_X7_outside σ a0 0 3).bind fun v2 => if v2 = 0 then ((f_X7_outside σ a2 0 3).bind fun v7 => if v7 = 0 then ((gQ σ 6 t 3).bind fun q10 => (aQ σ 3 q10 a0).bind fun q12 => (gQ σ 6 t 3).bind fun q14 => (aQ σ 3 q14 a2).bind fun q16 => (f_X3_isMissing σ q12).bind fun v18 => if v18 = 0 then ((f_X3_isMissing σ q16).bind fun v23 => if v23 = 0 then ((gI σ 2 q12 1).bind fun v26 => (gI σ 2 q16 1).bind fun v28 => if v26 = v28 then ((f_X3_holds σ q12 a1 a4).bind fun v31 => if v31 = 0 then ((f_X7_fails σ t (-1000001)).bind fun p34 => some (p34.1, p34.2)) else ((f_X3_holds σ q16 a3 a4).bind fun v36 => if v36 = 0 then ((f_X7_fails σ t (-1000001)).bind fun p45 => some (p45.1, p45.2)) else ((gQ σ 2 q12 0).bind fun q39 => (gQ σ 2 q16 0).bind fun q41 => (cp σ 0 q39 a1 q41 a3 a4).bind fun s43 => some (a4, s43)))) else ((f_X7_fails σ t (-1000005)).bind fun p47 => some (p47.1, p47.2))) else ((f_X7_fails σ t (-1000002)).bind fun p49 => some (p49.1, p49.2))) else ((f_X7_fails σ t (-1000002)).bind fun p21 => some (p21.1, p21.2))) else ((f_X7_fails σ t (-1000001)).bind fun p51 => some (p51.1, p51.2))) else ((f_X7_fails σ t (-1000001)).bind fun p5 => some (p5.1, p5.2))) else none
theorem gd_X7_move {σ : St} {t : Nat} {a0 : Int32} {a1 : Int32} {a2 : Int32} {a3 : Int32} {a4 : Int32} {r : Int32 × St} (h : f_X7_move σ t a0 a1 a2 a3 a4 = some r) : isO σ 6 t = true := by
  unfold f_X7_move at h
  by_cases hg : isO σ 6 t = true
  · exact hg
  · rw [if_neg hg] at h
    cases h
set_option maxRecDepth 100000 in
set_option maxHeartbeats 4000000 in
theorem c_X7_move (l : Launch) (G : Gd) (d : Nat) (σ : St) (t : Nat) (a0 : Int32) (a1 : Int32) (a2 : Int32) (a3 : Int32) (a4 : Int32) (r0 : Int32) (σ' : St) (hf : f_X7_move σ t a0 a1 a2 a3 a4 = some (r0, σ')) : MetV l G (d + 3) mi_X7_move [.ref t, .int a0, .int a1, .int a2, .int a3, .int a4] σ (some (.int r0)) σ' 0 0 := by
  unfold f_X7_move at hf
  refine MetV.of [(0, .ref t), (1, .int a0), (2, .int a1), (3, .int a2), (4, .int a3), (5, .int a4)] (by decide +kernel) rfl (Nat.le_of_ble_eq_true rfl) ?_
  intro X hQ
  by_cases hg : isO σ 6 t = true
  · rw [if_pos hg] at hf
    refine V_iload_n 1 1 rfl dX7_move_0 rfl rfl ?_
    refine V_iconst 0 2 dX7_move_1 rfl kiconst_0 ?_
    refine V_iconst 3 3 dX7_move_2 rfl kiconst_3 ?_
    obtain ⟨v2, h1, hf⟩ := ob hf
    refine V_callS (rest := []) 0 0 6 [.int v2] (c_X7_outside l G (d + 1) _ _ _ _ _ h1) (by omega) ok_X7_outside oks_X7_outside wd_ml_X7_57 rfl rfl (Nat.le_of_ble_eq_true rfl) rfl rfl (Or.inl ⟨rfl, rfl⟩) dX7_move_3 rfl rfl ?_
    refine V_if_ne 18 9 dX7_move_6 (by decide) rfl (fun c3 => ?_) (fun c3 => ?_)
    · rw [if_neg c3] at hf
      refine V_aload_n 0 19 rfl dX7_move_18 rfl rfl ?_
      refine V_ldc (-1000001) 21 dX7_move_19 rfl wd_kk_X7_67 ?_
      obtain ⟨p5, h4, hf⟩ := ob hf
      refine V_callV (rest := []) (T := TX7) (n := 10) (ci := 6) 0 0 24 [.int p5.1] (c_X7_fails l G (d + 0) _ _ _ _ _ h4) (by omega) ok_X7_fails okv_X7_fails (gd_X7_fails h4) rfl wd_ml_X7_68 rfl rfl (Nat.le_of_ble_eq_true rfl) rfl rfl (Or.inl ⟨rfl, rfl⟩) dX7_move_21 rfl rfl ?_
      have er := Option.some.inj hf
      obtain ⟨e1, e2⟩ := Prod.mk.inj er
      subst e1
      subst e2
      exact V_iret hQ rfl dX7_move_24
    · rw [if_pos c3] at hf
      refine V_iload_n 3 10 rfl dX7_move_9 rfl rfl ?_
      refine V_iconst 0 11 dX7_move_10 rfl kiconst_0 ?_
      refine V_iconst 3 12 dX7_move_11 rfl kiconst_3 ?_
      obtain ⟨v7, h6, hf⟩ := ob hf
      refine V_callS (rest := []) 0 0 15 [.int v7] (c_X7_outside l G (d + 1) _ _ _ _ _ h6) (by omega) ok_X7_outside oks_X7_outside wd_ml_X7_57 rfl rfl (Nat.le_of_ble_eq_true rfl) rfl rfl (Or.inl ⟨rfl, rfl⟩) dX7_move_12 rfl rfl ?_
      refine V_if_eq 25 18 dX7_move_15 (by decide) rfl (fun c8 => ?_) (fun c8 => ?_)
      · rw [if_pos c8] at hf
        refine V_aload_n 0 26 rfl dX7_move_25 rfl rfl ?_
        obtain ⟨q10, h9, hf⟩ := ob hf
        refine V_getQ (n := 10) (ty := tyX7) 29 h9 cf_6 rfl wd_fl_X7_32 dX7_move_26 rfl ?_
        refine V_iload_n 1 30 rfl dX7_move_29 rfl rfl ?_
        obtain ⟨q12, h11, hf⟩ := ob hf
        refine V_aald (t := 3) 31 h11 (by decide) dX7_move_30 rfl ?_
        refine V_astore [(6, .ref q12), (0, .ref t), (1, .int a0), (2, .int a1), (3, .int a2), (4, .int a3), (5, .int a4)] 33 dX7_move_31 (by decide) rfl rfl ?_
        refine V_aload_n 1 34 rfl dX7_move_33 rfl rfl ?_
        obtain ⟨q14, h13, hf⟩ := ob hf
        refine V_getQ (n := 10) (ty := tyX7) 37 h13 cf_6 rfl wd_fl_X7_32 dX7_move_34 rfl ?_
        refine V_iload_n 4 38 rfl dX7_move_37 rfl rfl ?_
        obtain ⟨q16, h15, hf⟩ := ob hf
        refine V_aald (t := 3) 39 h15 (by decide) dX7_move_38 rfl ?_
        refine V_astore [(7, .ref q16), (6, .ref q12), (0, .ref t), (1, .int a0), (2, .int a1), (3, .int a2), (4, .int a3), (5, .int a4)] 41 dX7_move_39 (by decide) rfl rfl ?_
        refine V_aload 1 43 rfl dX7_move_41 rfl ?_
        obtain ⟨v18, h17, hf⟩ := ob hf
        refine V_callV (rest := []) (T := TX3) (n := 3) (ci := 2) 0 0 46 [.int v18] (c_X3_isMissing l G (d + 1) _ _ _ h17) (by omega) ok_X3_isMissing okv_X3_isMissing (gd_X3_isMissing h17) rfl wd_ml_X7_114 rfl rfl (Nat.le_of_ble_eq_true rfl) rfl rfl (Or.inl ⟨rfl, rfl⟩) dX7_move_43 rfl rfl ?_
        refine V_if_ne 57 49 dX7_move_46 (by decide) rfl (fun c19 => ?_) (fun c19 => ?_)
        · rw [if_neg c19] at hf
          refine V_aload_n 2 58 rfl dX7_move_57 rfl rfl ?_
          refine V_ldc (-1000002) 60 dX7_move_58 rfl wd_kk_X7_117 ?_
          obtain ⟨p21, h20, hf⟩ := ob hf
          refine V_callV (rest := []) (T := TX7) (n := 10) (ci := 6) 0 0 63 [.int p21.1] (c_X7_fails l G (d + 0) _ _ _ _ _ h20) (by omega) ok_X7_fails okv_X7_fails (gd_X7_fails h20) rfl wd_ml_X7_68 rfl rfl (Nat.le_of_ble_eq_true rfl) rfl rfl (Or.inl ⟨rfl, rfl⟩) dX7_move_60 rfl rfl ?_
          have er := Option.some.inj hf
          obtain ⟨e1, e2⟩ := Prod.mk.inj er
          subst e1
          subst e2
          exact V_iret hQ rfl dX7_move_63
        · rw [if_pos c19] at hf
          refine V_aload 0 51 rfl dX7_move_49 rfl ?_
          obtain ⟨v23, h22, hf⟩ := ob hf
          refine V_callV (rest := []) (T := TX3) (n := 3) (ci := 2) 0 0 54 [.int v23] (c_X3_isMissing l G (d + 1) _ _ _ h22) (by omega) ok_X3_isMissing okv_X3_isMissing (gd_X3_isMissing h22) rfl wd_ml_X7_114 rfl rfl (Nat.le_of_ble_eq_true rfl) rfl rfl (Or.inl ⟨rfl, rfl⟩) dX7_move_51 rfl rfl ?_
          refine V_if_eq 64 57 dX7_move_54 (by decide) rfl (fun c24 => ?_) (fun c24 => ?_)
          · rw [if_pos c24] at hf
            refine V_aload 1 66 rfl dX7_move_64 rfl ?_
            obtain ⟨v26, h25, hf⟩ := ob hf
            refine V_getI (n := 3) (ty := tyX3) 69 h25 cf_2 rfl wd_fl_X7_334 dX7_move_66 rfl ?_
            refine V_aload 0 71 rfl dX7_move_69 rfl ?_
            obtain ⟨v28, h27, hf⟩ := ob hf
            refine V_getI (n := 3) (ty := tyX3) 74 h27 cf_2 rfl wd_fl_X7_334 dX7_move_71 rfl ?_
            refine V_icmp_eq 84 77 dX7_move_74 (by decide) rfl (fun c29 => ?_) (fun c29 => ?_)
            · rw [if_pos c29] at hf
              refine V_aload 1 86 rfl dX7_move_84 rfl ?_
              refine V_iload_n 4 87 rfl dX7_move_86 rfl rfl ?_
              refine V_iload 7 89 rfl dX7_move_87 rfl ?_
              obtain ⟨v31, h30, hf⟩ := ob hf
              refine V_callV (rest := []) (T := TX3) (n := 3) (ci := 2) 0 0 92 [.int v31] (c_X3_holds l G (d + 1) _ _ _ _ _ h30) (by omega) ok_X3_holds okv_X3_holds (gd_X3_holds h30) rfl wd_ml_X7_118 rfl rfl (Nat.le_of_ble_eq_true rfl) rfl rfl (Or.inl ⟨rfl, rfl⟩) dX7_move_89 rfl rfl ?_
              refine V_if_eq 107 95 dX7_move_92 (by decide) rfl (fun c32 => ?_) (fun c32 => ?_)
              · rw [if_pos c32] at hf
                refine V_aload_n 2 108 rfl dX7_move_107 rfl rfl ?_
                refine V_ldc (-1000001) 110 dX7_move_108 rfl wd_kk_X7_67 ?_
                obtain ⟨p34, h33, hf⟩ := ob hf
                refine V_callV (rest := []) (T := TX7) (n := 10) (ci := 6) 0 0 113 [.int p34.1] (c_X7_fails l G (d + 0) _ _ _ _ _ h33) (by omega) ok_X7_fails okv_X7_fails (gd_X7_fails h33) rfl wd_ml_X7_68 rfl rfl (Nat.le_of_ble_eq_true rfl) rfl rfl (Or.inl ⟨rfl, rfl⟩) dX7_move_110 rfl rfl ?_
                have er := Option.some.inj hf
                obtain ⟨e1, e2⟩ := Prod.mk.inj er
                subst e1
                subst e2
                exact V_iret hQ rfl dX7_move_113
              · rw [if_neg c32] at hf
                refine V_aload 0 97 rfl dX7_move_95 rfl ?_
                refine V_iload 6 99 rfl dX7_move_97 rfl ?_
                refine V_iload 7 101 rfl dX7_move_99 rfl ?_
                obtain ⟨v36, h35, hf⟩ := ob hf
                refine V_callV (rest := []) (T := TX3) (n := 3) (ci := 2) 0 0 104 [.int v36] (c_X3_holds l G (d + 1) _ _ _ _ _ h35) (by omega) ok_X3_holds okv_X3_holds (gd_X3_holds h35) rfl wd_ml_X7_118 rfl rfl (Nat.le_of_ble_eq_true rfl) rfl rfl (Or.inl ⟨rfl, rfl⟩) dX7_move_101 rfl rfl ?_
                refine V_if_ne 114 107 dX7_move_104 (by decide) rfl (fun c37 => ?_) (fun c37 => ?_)
                · rw [if_neg c37] at hf
                  refine V_aload 1 116 rfl dX7_move_114 rfl ?_
                  obtain ⟨q39, h38, hf⟩ := ob hf
                  refine V_getQ (n := 3) (ty := tyX3) 119 h38 cf_2 rfl wd_fl_X7_337 dX7_move_116 rfl ?_
                  refine V_iload_n 4 120 rfl dX7_move_119 rfl rfl ?_
                  refine V_aload 0 122 rfl dX7_move_120 rfl ?_
                  obtain ⟨q41, h40, hf⟩ := ob hf
                  refine V_getQ (n := 3) (ty := tyX3) 125 h40 cf_2 rfl wd_fl_X7_337 dX7_move_122 rfl ?_
                  refine V_iload 6 127 rfl dX7_move_125 rfl ?_
                  refine V_iload 7 129 rfl dX7_move_127 rfl ?_
                  obtain ⟨s43, h42, hf⟩ := ob hf
                  refine V_acopy (t := 0) 132 h42 (by decide) wd_ml_X7_340 wd_nt_java_lang_System_arraycopy wd_sm_java_lang_System_arraycopy wd_in_java_lang_System (by omega) (Nat.le_of_ble_eq_true rfl) dX7_move_129 rfl ?_
                  refine V_iload 7 134 rfl dX7_move_132 rfl ?_
                  have er := Option.some.inj hf
                  obtain ⟨e1, e2⟩ := Prod.mk.inj er
                  subst e1
                  subst e2
                  exact V_iret hQ rfl dX7_move_134
                · rw [if_pos c37] at hf
                  refine V_aload_n 2 108 rfl dX7_move_107 rfl rfl ?_
                  refine V_ldc (-1000001) 110 dX7_move_108 rfl wd_kk_X7_67 ?_
                  obtain ⟨p45, h44, hf⟩ := ob hf
                  refine V_callV (rest := []) (T := TX7) (n := 10) (ci := 6) 0 0 113 [.int p45.1] (c_X7_fails l G (d + 0) _ _ _ _ _ h44) (by omega) ok_X7_fails okv_X7_fails (gd_X7_fails h44) rfl wd_ml_X7_68 rfl rfl (Nat.le_of_ble_eq_true rfl) rfl rfl (Or.inl ⟨rfl, rfl⟩) dX7_move_110 rfl rfl ?_
                  have er := Option.some.inj hf
                  obtain ⟨e1, e2⟩ := Prod.mk.inj er
                  subst e1
                  subst e2
                  exact V_iret hQ rfl dX7_move_113
            · rw [if_neg c29] at hf
              refine V_aload_n 2 78 rfl dX7_move_77 rfl rfl ?_
              refine V_ldc (-1000005) 80 dX7_move_78 rfl wd_kk_X7_162 ?_
              obtain ⟨p47, h46, hf⟩ := ob hf
              refine V_callV (rest := []) (T := TX7) (n := 10) (ci := 6) 0 0 83 [.int p47.1] (c_X7_fails l G (d + 0) _ _ _ _ _ h46) (by omega) ok_X7_fails okv_X7_fails (gd_X7_fails h46) rfl wd_ml_X7_68 rfl rfl (Nat.le_of_ble_eq_true rfl) rfl rfl (Or.inl ⟨rfl, rfl⟩) dX7_move_80 rfl rfl ?_
              have er := Option.some.inj hf
              obtain ⟨e1, e2⟩ := Prod.mk.inj er
              subst e1
              subst e2
              exact V_iret hQ rfl dX7_move_83
          · rw [if_neg c24] at hf
            refine V_aload_n 2 58 rfl dX7_move_57 rfl rfl ?_
            refine V_ldc (-1000002) 60 dX7_move_58 rfl wd_kk_X7_117 ?_
            obtain ⟨p49, h48, hf⟩ := ob hf
            refine V_callV (rest := []) (T := TX7) (n := 10) (ci := 6) 0 0 63 [.int p49.1] (c_X7_fails l G (d + 0) _ _ _ _ _ h48) (by omega) ok_X7_fails okv_X7_fails (gd_X7_fails h48) rfl wd_ml_X7_68 rfl rfl (Nat.le_of_ble_eq_true rfl) rfl rfl (Or.inl ⟨rfl, rfl⟩) dX7_move_60 rfl rfl ?_
            have er := Option.some.inj hf
            obtain ⟨e1, e2⟩ := Prod.mk.inj er
            subst e1
            subst e2
            exact V_iret hQ rfl dX7_move_63
      · rw [if_neg c8] at hf
        refine V_aload_n 0 19 rfl dX7_move_18 rfl rfl ?_
        refine V_ldc (-1000001) 21 dX7_move_19 rfl wd_kk_X7_67 ?_
        obtain ⟨p51, h50, hf⟩ := ob hf
        refine V_callV (rest := []) (T := TX7) (n := 10) (ci := 6) 0 0 24 [.int p51.1] (c_X7_fails l G (d + 0) _ _ _ _ _ h50) (by omega) ok_X7_fails okv_X7_fails (gd_X7_fails h50) rfl wd_ml_X7_68 rfl rfl (Nat.le_of_ble_eq_true rfl) rfl rfl (Or.inl ⟨rfl, rfl⟩) dX7_move_21 rfl rfl ?_
        have er := Option.some.inj hf
        obtain ⟨e1, e2⟩ := Prod.mk.inj er
        subst e1
        subst e2
        exact V_iret hQ rfl dX7_move_24
  · rw [if_neg hg] at hf
    cases hf
abbrev mi_X7_image : MI := (yX7_image, cX7_image, 1, some .int)
theorem ok_X7_image : OkN mi_X7_image 0 := ⟨wd_cd_X7_image, wd_in_X7, ⟨by decide +kernel, by decide +kernel, by decide +kernel⟩, by decide⟩
theorem okv_X7_image : Cond.instanceMethod (mi_X7_image).1 ∈ tb ∧ Cond.selects (mi_X7_image).1.cls (mi_X7_image).1 (mi_X7_image).1 ∈ tb := ⟨wd_im_X7_image, wd_se_X7_image⟩
def f_X7_image (σ : St) (t : Nat) : Option (Int32 × St) := if isO σ 6 t = true then ((gR σ 6 t 8).bind fun o2 => if o2 = none then ((nwO σ 3).bind fun s5 => (f_X4_init s5 σ.2.2).bind fun s7 => (pQ s7 6 t 8 σ.2.2).bind fun s9 => (gQ s9 6 t 8).bind fun q12 => (gQ s9 6 t 0).bind fun q14 => (f_X4_copyFrom s9 q12 q14).bind fun s16 => (gI s16 6 t 9).bind fun v18 => (pI s16 6 t 9 (v18 + 1)).bind fun s20 => (gI s20 6 t 9).bind fun v22 => some (v22, s20)) else ((gQ σ 6 t 8).bind fun q25 => (gQ σ 6 t 0).bind fun q27 => (f_X4_copyFrom σ q25 q27).bind fun s29 => (gI s29 6 t 9).bind fun v31 => (pI s29 6 t 9 (v31 + 1)).bind fun s33 => (gI s33 6 t 9).bind fun v35 => some (v35, s33))) else none
theorem gd_X7_image {σ : St} {t : Nat} {r : Int32 × St} (h : f_X7_image σ t = some r) : isO σ 6 t = true := by
  unfold f_X7_image at h
  by_cases hg : isO σ 6 t = true
  · exact hg
  · rw [if_neg hg] at h
    cases h
set_option maxRecDepth 100000 in
set_option maxHeartbeats 4000000 in
theorem c_X7_image (l : Launch) (G : Gd) (d : Nat) (σ : St) (t : Nat) (r0 : Int32) (σ' : St) (hf : f_X7_image σ t = some (r0, σ')) : MetV l G (d + 4) mi_X7_image [.ref t] σ (some (.int r0)) σ' 35 10240 := by
  unfold f_X7_image at hf
  obtain ⟨mc0, emc⟩ : ∃ z : Nat, z = 35 := ⟨_, rfl⟩
  obtain ⟨ms0, ems⟩ : ∃ z : Nat, z = 10240 := ⟨_, rfl⟩
  rw [← emc, ← ems]
  refine MetV.of [(0, .ref t)] (by decide +kernel) rfl (Nat.le_of_ble_eq_true rfl) ?_
  intro X hQ
  by_cases hg : isO σ 6 t = true
  · rw [if_pos hg] at hf
    refine V_aload_n 0 1 rfl dX7_image_0 rfl rfl ?_
    obtain ⟨o2, h1, hf⟩ := ob hf
    refine V_getR (n := 10) (ty := tyX7) 4 h1 cf_6 rfl wd_fl_X7_49 dX7_image_1 rfl ?_
    refine V_ifnonnull 18 7 dX7_image_4 (by decide) rfl (fun q3 hc => ?_) (fun hc => ?_)
    · rw [if_neg (by rw [hc]; simp)] at hf
      refine V_aload_n 0 19 rfl dX7_image_18 rfl rfl ?_
      obtain ⟨q25, h23, hf⟩ := ob hf
      refine V_getQ (n := 10) (ty := tyX7) 22 h23 cf_6 rfl wd_fl_X7_49 dX7_image_19 rfl ?_
      refine V_aload_n 0 23 rfl dX7_image_22 rfl rfl ?_
      obtain ⟨q27, h26, hf⟩ := ob hf
      refine V_getQ (n := 10) (ty := tyX7) 26 h26 cf_6 rfl wd_fl_X7_12 dX7_image_23 rfl ?_
      obtain ⟨s29, h28, hf⟩ := ob hf
      refine V_callV (rest := []) (T := TX4) (n := 11) (ci := 3) 0 0 29 [] (c_X4_copyFrom l G (d + 0) _ _ _ _ h28) (by omega) ok_X4_copyFrom okv_X4_copyFrom (gd_X4_copyFrom h28) rfl wd_ml_X7_346 rfl rfl (Nat.le_of_ble_eq_true rfl) rfl rfl (Or.inl ⟨rfl, rfl⟩) dX7_image_26 rfl rfl ?_
      refine V_aload_n 0 30 rfl dX7_image_29 rfl rfl ?_
      refine V_dup 31 dX7_image_30 rfl rfl ?_
      obtain ⟨v31, h30, hf⟩ := ob hf
      refine V_getI (n := 10) (ty := tyX7) 34 h30 cf_6 rfl wd_fl_X7_52 dX7_image_31 rfl ?_
      refine V_iconst 1 35 dX7_image_34 rfl kiconst_1 ?_
      refine V_iadd 36 dX7_image_35 rfl ?_
      obtain ⟨s33, h32, hf⟩ := ob hf
      refine V_putI (n := 10) (T := TX7) (ty := tyX7) (f := 9) 39 h32 cf_6 rfl rfl (Or.inl rfl) wd_fl_X7_52 dX7_image_36 rfl ?_
      refine V_aload_n 0 40 rfl dX7_image_39 rfl rfl ?_
      obtain ⟨v35, h34, hf⟩ := ob hf
      refine V_getI (n := 10) (ty := tyX7) 43 h34 cf_6 rfl wd_fl_X7_52 dX7_image_40 rfl ?_
      have er := Option.some.inj hf
      obtain ⟨e1, e2⟩ := Prod.mk.inj er
      subst e1
      subst e2
      exact V_iret hQ rfl dX7_image_43
    · rw [if_pos hc] at hf
      refine V_aload_n 0 8 rfl dX7_image_7 rfl rfl ?_
      obtain ⟨s5, h4, hf⟩ := ob hf
      refine V_new (n := 11) (T := TX4) (ty := tyX4) 11 h4 cf_3 df_3 wd_cl_X7_9 wd_ia_X4 wd_in_X4 (by omega) (by omega) dX7_image_8 rfl ?_
      refine V_dup 12 dX7_image_11 rfl rfl ?_
      obtain ⟨s7, h6, hf⟩ := ob hf
      refine V_callI (rest := [.ref σ.2.2, .ref t]) ((0 + 1) + 34) ((0 + 11) + 10229) 15 (c_X4_init l G (d + 0) _ _ _ h6) (by omega) ok_X4_init oki_X4_init wd_ml_X7_11 rfl rfl (Nat.le_of_ble_eq_true rfl) rfl rfl (Or.inr ⟨by omega, by omega⟩) dX7_image_12 rfl ?_
      obtain ⟨s9, h8, hf⟩ := ob hf
      refine V_putQ (n := 10) (T := TX7) (ty := tyX7) (f := 8) 18 h8 cf_6 rfl (Or.inl ⟨_, rfl⟩) (Or.inl rfl) wd_fl_X7_49 dX7_image_15 rfl ?_
      refine V_aload_n 0 19 rfl dX7_image_18 rfl rfl ?_
      obtain ⟨q12, h10, hf⟩ := ob hf
      refine V_getQ (n := 10) (ty := tyX7) 22 h10 cf_6 rfl wd_fl_X7_49 dX7_image_19 rfl ?_
      refine V_aload_n 0 23 rfl dX7_image_22 rfl rfl ?_
      obtain ⟨q14, h13, hf⟩ := ob hf
      refine V_getQ (n := 10) (ty := tyX7) 26 h13 cf_6 rfl wd_fl_X7_12 dX7_image_23 rfl ?_
      obtain ⟨s16, h15, hf⟩ := ob hf
      refine V_callV (rest := []) (T := TX4) (n := 11) (ci := 3) ((0 + 1) + 34) ((0 + 11) + 10229) 29 [] (c_X4_copyFrom l G (d + 0) _ _ _ _ h15) (by omega) ok_X4_copyFrom okv_X4_copyFrom (gd_X4_copyFrom h15) rfl wd_ml_X7_346 rfl rfl (Nat.le_of_ble_eq_true rfl) rfl rfl (Or.inl ⟨rfl, rfl⟩) dX7_image_26 rfl rfl ?_
      refine V_aload_n 0 30 rfl dX7_image_29 rfl rfl ?_
      refine V_dup 31 dX7_image_30 rfl rfl ?_
      obtain ⟨v18, h17, hf⟩ := ob hf
      refine V_getI (n := 10) (ty := tyX7) 34 h17 cf_6 rfl wd_fl_X7_52 dX7_image_31 rfl ?_
      refine V_iconst 1 35 dX7_image_34 rfl kiconst_1 ?_
      refine V_iadd 36 dX7_image_35 rfl ?_
      obtain ⟨s20, h19, hf⟩ := ob hf
      refine V_putI (n := 10) (T := TX7) (ty := tyX7) (f := 9) 39 h19 cf_6 rfl rfl (Or.inl rfl) wd_fl_X7_52 dX7_image_36 rfl ?_
      refine V_aload_n 0 40 rfl dX7_image_39 rfl rfl ?_
      obtain ⟨v22, h21, hf⟩ := ob hf
      refine V_getI (n := 10) (ty := tyX7) 43 h21 cf_6 rfl wd_fl_X7_52 dX7_image_40 rfl ?_
      have er := Option.some.inj hf
      obtain ⟨e1, e2⟩ := Prod.mk.inj er
      subst e1
      subst e2
      exact V_iret hQ rfl dX7_image_43
  · rw [if_neg hg] at hf
    cases hf
abbrev mi_X7_restore : MI := (yX7_restore, cX7_restore, 1, some .int)
theorem ok_X7_restore : OkN mi_X7_restore 0 := ⟨wd_cd_X7_restore, wd_in_X7, ⟨by decide +kernel, by decide +kernel, by decide +kernel⟩, by decide⟩
theorem okv_X7_restore : Cond.instanceMethod (mi_X7_restore).1 ∈ tb ∧ Cond.selects (mi_X7_restore).1.cls (mi_X7_restore).1 (mi_X7_restore).1 ∈ tb := ⟨wd_im_X7_restore, wd_se_X7_restore⟩
def f_X7_restore (σ : St) (t : Nat) : Option (Int32 × St) := if isO σ 6 t = true then ((gR σ 6 t 8).bind fun o2 => if o2 = none then ((f_X7_fails σ t (-1000002)).bind fun p5 => some (p5.1, p5.2)) else ((gQ σ 6 t 0).bind fun q7 => (gQ σ 6 t 8).bind fun q10 => (f_X4_copyFrom σ q7 q10).bind fun s12 => (gQ s12 6 t 0).bind fun q14 => (gQ s12 3 q14 2).bind fun q16 => (gI s12 4 q16 3).bind fun v18 => some (v18, s12))) else none
theorem gd_X7_restore {σ : St} {t : Nat} {r : Int32 × St} (h : f_X7_restore σ t = some r) : isO σ 6 t = true := by
  unfold f_X7_restore at h
  by_cases hg : isO σ 6 t = true
  · exact hg
  · rw [if_neg hg] at h
    cases h
set_option maxRecDepth 100000 in
set_option maxHeartbeats 4000000 in
theorem c_X7_restore (l : Launch) (G : Gd) (d : Nat) (σ : St) (t : Nat) (r0 : Int32) (σ' : St) (hf : f_X7_restore σ t = some (r0, σ')) : MetV l G (d + 4) mi_X7_restore [.ref t] σ (some (.int r0)) σ' 0 0 := by
  unfold f_X7_restore at hf
  refine MetV.of [(0, .ref t)] (by decide +kernel) rfl (Nat.le_of_ble_eq_true rfl) ?_
  intro X hQ
  by_cases hg : isO σ 6 t = true
  · rw [if_pos hg] at hf
    refine V_aload_n 0 1 rfl dX7_restore_0 rfl rfl ?_
    obtain ⟨o2, h1, hf⟩ := ob hf
    refine V_getR (n := 10) (ty := tyX7) 4 h1 cf_6 rfl wd_fl_X7_49 dX7_restore_1 rfl ?_
    refine V_ifnonnull 14 7 dX7_restore_4 (by decide) rfl (fun q3 hc => ?_) (fun hc => ?_)
    · rw [if_neg (by rw [hc]; simp)] at hf
      refine V_aload_n 0 15 rfl dX7_restore_14 rfl rfl ?_
      obtain ⟨q7, h6, hf⟩ := ob hf
      refine V_getQ (n := 10) (ty := tyX7) 18 h6 cf_6 rfl wd_fl_X7_12 dX7_restore_15 rfl ?_
      refine V_aload_n 0 19 rfl dX7_restore_18 rfl rfl ?_
      obtain ⟨q10, h8, hf⟩ := ob hf
      refine V_getQ (n := 10) (ty := tyX7) 22 h8 cf_6 rfl wd_fl_X7_49 dX7_restore_19 rfl ?_
      obtain ⟨s12, h11, hf⟩ := ob hf
      refine V_callV (rest := []) (T := TX4) (n := 11) (ci := 3) 0 0 25 [] (c_X4_copyFrom l G (d + 0) _ _ _ _ h11) (by omega) ok_X4_copyFrom okv_X4_copyFrom (gd_X4_copyFrom h11) rfl wd_ml_X7_346 rfl rfl (Nat.le_of_ble_eq_true rfl) rfl rfl (Or.inl ⟨rfl, rfl⟩) dX7_restore_22 rfl rfl ?_
      refine V_aload_n 0 26 rfl dX7_restore_25 rfl rfl ?_
      obtain ⟨q14, h13, hf⟩ := ob hf
      refine V_getQ (n := 10) (ty := tyX7) 29 h13 cf_6 rfl wd_fl_X7_12 dX7_restore_26 rfl ?_
      obtain ⟨q16, h15, hf⟩ := ob hf
      refine V_getQ (n := 11) (ty := tyX4) 32 h15 cf_3 rfl wd_fl_X7_126 dX7_restore_29 rfl ?_
      obtain ⟨v18, h17, hf⟩ := ob hf
      refine V_getI (n := 4) (ty := tyX5) 35 h17 cf_4 rfl wd_fl_X7_229 dX7_restore_32 rfl ?_
      have er := Option.some.inj hf
      obtain ⟨e1, e2⟩ := Prod.mk.inj er
      subst e1
      subst e2
      exact V_iret hQ rfl dX7_restore_35
    · rw [if_pos hc] at hf
      refine V_aload_n 0 8 rfl dX7_restore_7 rfl rfl ?_
      refine V_ldc (-1000002) 10 dX7_restore_8 rfl wd_kk_X7_117 ?_
      obtain ⟨p5, h4, hf⟩ := ob hf
      refine V_callV (rest := []) (T := TX7) (n := 10) (ci := 6) 0 0 13 [.int p5.1] (c_X7_fails l G (d + 1) _ _ _ _ _ h4) (by omega) ok_X7_fails okv_X7_fails (gd_X7_fails h4) rfl wd_ml_X7_68 rfl rfl (Nat.le_of_ble_eq_true rfl) rfl rfl (Or.inl ⟨rfl, rfl⟩) dX7_restore_10 rfl rfl ?_
      have er := Option.some.inj hf
      obtain ⟨e1, e2⟩ := Prod.mk.inj er
      subst e1
      subst e2
      exact V_iret hQ rfl dX7_restore_13
  · rw [if_neg hg] at hf
    cases hf
abbrev mi_X7_tell : MI := (yX7_tell, cX7_tell, 2, some .int)
theorem ok_X7_tell : OkN mi_X7_tell 1 := ⟨wd_cd_X7_tell, wd_in_X7, ⟨by decide +kernel, by decide +kernel, by decide +kernel⟩, by decide⟩
theorem okv_X7_tell : Cond.instanceMethod (mi_X7_tell).1 ∈ tb ∧ Cond.selects (mi_X7_tell).1.cls (mi_X7_tell).1 (mi_X7_tell).1 ∈ tb := ⟨wd_im_X7_tell, wd_se_X7_tell⟩
def f_X7_tell (σ : St) (t : Nat) (a0 : Int32) : Option (Int32 × St) := if isO σ 6 t = true then ((gQ σ 6 t 0).bind fun q2 => (gQ σ 3 q2 7).bind fun q4 => (f_X5_isFull σ q4).bind fun v6 => if v6 = 0 then ((gQ σ 6 t 0).bind fun q9 => (gQ σ 3 q9 7).bind fun q11 => (gQ σ 6 t 0).bind fun q13 => (gQ σ 3 q13 7).bind fun q15 => (f_X5_add σ q15).bind fun p17 => (f_X5_set p17.2 q11 p17.1 0 a0).bind fun s19 => (gQ s19 6 t 0).bind fun q21 => (gQ s19 3 q21 7).bind fun q23 => (gI s19 4 q23 3).bind fun v25 => some (v25, s19)) else ((f_X7_fails σ t (-1000004)).bind fun p27 => some (p27.1, p27.2))) else none
theorem gd_X7_tell {σ : St} {t : Nat} {a0 : Int32} {r : Int32 × St} (h : f_X7_tell σ t a0 = some r) : isO σ 6 t = true := by
  unfold f_X7_tell at h
  by_cases hg : isO σ 6 t = true
  · exact hg
  · rw [if_neg hg] at h
    cases h
set_option maxRecDepth 100000 in
set_option maxHeartbeats 4000000 in
theorem c_X7_tell (l : Launch) (G : Gd) (d : Nat) (σ : St) (t : Nat) (a0 : Int32) (r0 : Int32) (σ' : St) (hf : f_X7_tell σ t a0 = some (r0, σ')) : MetV l G (d + 3) mi_X7_tell [.ref t, .int a0] σ (some (.int r0)) σ' 0 0 := by
  unfold f_X7_tell at hf
  refine MetV.of [(0, .ref t), (1, .int a0)] (by decide +kernel) rfl (Nat.le_of_ble_eq_true rfl) ?_
  intro X hQ
  by_cases hg : isO σ 6 t = true
  · rw [if_pos hg] at hf
    refine V_aload_n 0 1 rfl dX7_tell_0 rfl rfl ?_
    obtain ⟨q2, h1, hf⟩ := ob hf
    refine V_getQ (n := 10) (ty := tyX7) 4 h1 cf_6 rfl wd_fl_X7_12 dX7_tell_1 rfl ?_
    obtain ⟨q4, h3, hf⟩ := ob hf
    refine V_getQ (n := 11) (ty := tyX4) 7 h3 cf_3 rfl wd_fl_X7_349 dX7_tell_4 rfl ?_
    obtain ⟨v6, h5, hf⟩ := ob hf
    refine V_callV (rest := []) (T := TX5) (n := 4) (ci := 4) 0 0 10 [.int v6] (c_X5_isFull l G (d + 1) _ _ _ h5) (by omega) ok_X5_isFull okv_X5_isFull (gd_X5_isFull h5) rfl wd_ml_X7_92 rfl rfl (Nat.le_of_ble_eq_true rfl) rfl rfl (Or.inl ⟨rfl, rfl⟩) dX7_tell_7 rfl rfl ?_
    refine V_if_eq 20 13 dX7_tell_10 (by decide) rfl (fun c7 => ?_) (fun c7 => ?_)
    · rw [if_pos c7] at hf
      refine V_aload_n 0 21 rfl dX7_tell_20 rfl rfl ?_
      obtain ⟨q9, h8, hf⟩ := ob hf
      refine V_getQ (n := 10) (ty := tyX7) 24 h8 cf_6 rfl wd_fl_X7_12 dX7_tell_21 rfl ?_
      obtain ⟨q11, h10, hf⟩ := ob hf
      refine V_getQ (n := 11) (ty := tyX4) 27 h10 cf_3 rfl wd_fl_X7_349 dX7_tell_24 rfl ?_
      refine V_aload_n 0 28 rfl dX7_tell_27 rfl rfl ?_
      obtain ⟨q13, h12, hf⟩ := ob hf
      refine V_getQ (n := 10) (ty := tyX7) 31 h12 cf_6 rfl wd_fl_X7_12 dX7_tell_28 rfl ?_
      obtain ⟨q15, h14, hf⟩ := ob hf
      refine V_getQ (n := 11) (ty := tyX4) 34 h14 cf_3 rfl wd_fl_X7_349 dX7_tell_31 rfl ?_
      obtain ⟨p17, h16, hf⟩ := ob hf
      refine V_callV (rest := [.ref q11]) (T := TX5) (n := 4) (ci := 4) 0 0 37 [.int p17.1, .ref q11] (c_X5_add l G (d + 1) _ _ _ _ h16) (by omega) ok_X5_add okv_X5_add (gd_X5_add h16) rfl wd_ml_X7_97 rfl rfl (Nat.le_of_ble_eq_true rfl) rfl rfl (Or.inl ⟨rfl, rfl⟩) dX7_tell_34 rfl rfl ?_
      refine V_iconst 0 38 dX7_tell_37 rfl kiconst_0 ?_
      refine V_iload_n 1 39 rfl dX7_tell_38 rfl rfl ?_
      obtain ⟨s19, h18, hf⟩ := ob hf
      refine V_callV (rest := []) (T := TX5) (n := 4) (ci := 4) 0 0 42 [] (c_X5_set l G (d + 1) _ _ _ _ _ _ h18) (by omega) ok_X5_set okv_X5_set (gd_X5_set h18) rfl wd_ml_X7_82 rfl rfl (Nat.le_of_ble_eq_true rfl) rfl rfl (Or.inl ⟨rfl, rfl⟩) dX7_tell_39 rfl rfl ?_
      refine V_aload_n 0 43 rfl dX7_tell_42 rfl rfl ?_
      obtain ⟨q21, h20, hf⟩ := ob hf
      refine V_getQ (n := 10) (ty := tyX7) 46 h20 cf_6 rfl wd_fl_X7_12 dX7_tell_43 rfl ?_
      obtain ⟨q23, h22, hf⟩ := ob hf
      refine V_getQ (n := 11) (ty := tyX4) 49 h22 cf_3 rfl wd_fl_X7_349 dX7_tell_46 rfl ?_
      obtain ⟨v25, h24, hf⟩ := ob hf
      refine V_getI (n := 4) (ty := tyX5) 52 h24 cf_4 rfl wd_fl_X7_229 dX7_tell_49 rfl ?_
      have er := Option.some.inj hf
      obtain ⟨e1, e2⟩ := Prod.mk.inj er
      subst e1
      subst e2
      exact V_iret hQ rfl dX7_tell_52
    · rw [if_neg c7] at hf
      refine V_aload_n 0 14 rfl dX7_tell_13 rfl rfl ?_
      refine V_ldc (-1000004) 16 dX7_tell_14 rfl wd_kk_X7_96 ?_
      obtain ⟨p27, h26, hf⟩ := ob hf
      refine V_callV (rest := []) (T := TX7) (n := 10) (ci := 6) 0 0 19 [.int p27.1] (c_X7_fails l G (d + 0) _ _ _ _ _ h26) (by omega) ok_X7_fails okv_X7_fails (gd_X7_fails h26) rfl wd_ml_X7_68 rfl rfl (Nat.le_of_ble_eq_true rfl) rfl rfl (Or.inl ⟨rfl, rfl⟩) dX7_tell_16 rfl rfl ?_
      have er := Option.some.inj hf
      obtain ⟨e1, e2⟩ := Prod.mk.inj er
      subst e1
      subst e2
      exact V_iret hQ rfl dX7_tell_19
  · rw [if_neg hg] at hf
    cases hf
abbrev mi_X7_lowestBit : MI := (yX7_lowestBit, cX7_lowestBit, 2, some .int)
theorem ok_X7_lowestBit : OkN mi_X7_lowestBit 1 := ⟨wd_cd_X7_lowestBit, wd_in_X7, ⟨by decide +kernel, by decide +kernel, by decide +kernel⟩, by decide⟩
theorem oks_X7_lowestBit : Cond.static (mi_X7_lowestBit).1 ∈ tb := wd_sm_X7_lowestBit
def f_X7_lowestBit_L2 (x0 : Int32) : Nat → Int32 → Option ((Int32) ⊕ (Int32))
  | 0, _ => none
  | n + 1, x1 => if 32 ≤ x1 then (some (.inr x1)) else (if ((x0 >>> (x1 &&& 31)) &&& 1) = 1 then (some (.inl x1)) else (f_X7_lowestBit_L2 x0 n (x1 + 1)))
def f_X7_lowestBit (σ : St) (a0 : Int32) : Option Int32 := (f_X7_lowestBit_L2 a0 3000 0).bind fun p3 => Sum.elim (some) (fun p5 => some (-1)) p3
set_option maxRecDepth 100000 in
set_option maxHeartbeats 4000000 in
theorem c_X7_lowestBit (l : Launch) (G : Gd) (d : Nat) (σ : St) (a0 : Int32) (r0 : Int32) (hf : f_X7_lowestBit σ a0 = some r0) : MetV l G (d + 1) mi_X7_lowestBit [.int a0] σ (some (.int r0)) σ 0 0 := by
  unfold f_X7_lowestBit at hf
  refine MetV.of [(0, .int a0)] (by decide +kernel) rfl (Nat.le_of_ble_eq_true rfl) ?_
  intro X hQ
  have L2 : ∀ (x0 : Int32) (n : Nat) (x1 : Int32) (p : (Int32) ⊕ (Int32)), f_X7_lowestBit_L2 x0 n x1 = some p → (∀ v, p = .inl v → v = r0) → (∀ q, p = .inr q → V mi_X7_lowestBit l G (d + 1) 0 0 X 0 0 25 [(1, .int q), (0, .int x0)] [] σ) → V mi_X7_lowestBit l G (d + 1) 0 0 X 0 0 2 [(1, .int x1), (0, .int x0)] [] σ := by
    intro x0 n
    induction n with
    | zero =>
      intro x1 p hf
      exact absurd (show (none : Option _) = some p from hf) (by simp)
    | succ n ih =>
      intro x1 p hf hk1 hk
      rw [f_X7_lowestBit_L2] at hf
      refine V_iload_n 0 3 rfl dX7_lowestBit_2 rfl rfl ?_
      refine V_bipush 32 5 dX7_lowestBit_3 rfl kbipush_32 ?_
      refine V_icmp_ge 25 8 dX7_lowestBit_5 (by decide) rfl (fun c1 => ?_) (fun c1 => ?_)
      · rw [if_pos c1] at hf
        have ep := Option.some.inj hf
        subst ep
        refine V_ls [(1, .int x1), (0, .int x0)] [0, 1] rfl ?_
        exact hk _ rfl
      · rw [if_neg c1] at hf
        refine V_iload_n 1 9 rfl dX7_lowestBit_8 rfl rfl ?_
        refine V_iload_n 0 10 rfl dX7_lowestBit_9 rfl rfl ?_
        refine V_ishr 11 dX7_lowestBit_10 rfl ?_
        refine V_iconst 1 12 dX7_lowestBit_11 rfl kiconst_1 ?_
        refine V_iand 13 dX7_lowestBit_12 rfl ?_
        refine V_iconst 1 14 dX7_lowestBit_13 rfl kiconst_1 ?_
        refine V_icmp_ne 19 17 dX7_lowestBit_14 (by decide) rfl (fun c2 => ?_) (fun c2 => ?_)
        · rw [if_neg c2] at hf
          refine V_iinc (x1 + 1) 0 [(1, .int (x1 + 1)), (0, .int x0)] 22 dX7_lowestBit_19 rfl (by rw [kiconst_1]) (by decide) rfl rfl ?_
          refine V_goto 2 dX7_lowestBit_22 (by decide) ?_
          refine V_ls [(1, .int (x1 + 1)), (0, .int x0)] [0, 1] rfl ?_
          exact ih _ _ hf hk1 hk
        · rw [if_pos c2] at hf
          refine V_iload_n 0 18 rfl dX7_lowestBit_17 rfl rfl ?_
          have ep := Option.some.inj hf
          subst ep
          have er := hk1 _ rfl
          subst er
          exact V_iret hQ rfl dX7_lowestBit_18
  refine V_iconst 0 1 dX7_lowestBit_0 rfl kiconst_0 ?_
  refine V_istore_n [(1, .int 0), (0, .int a0)] 2 dX7_lowestBit_1 rfl (by decide) rfl rfl ?_
  obtain ⟨p3, h4, hf⟩ := ob hf
  refine V_ls [(1, .int 0), (0, .int a0)] [0, 1] rfl ?_
  refine L2 a0 3000 0 p3 h4 (fun v hv => ?_) (fun p5 hq => ?_)
  · subst hv
    cases hf
    rfl
  subst hq
  simp only [Sum.elim_inr] at hf
  refine V_iconst (-1) 26 dX7_lowestBit_25 rfl kiconst_m1 ?_
  have er := Option.some.inj hf
  subst er
  exact V_iret hQ rfl dX7_lowestBit_26
abbrev mi_X7_firstWrong : MI := (yX7_firstWrong, cX7_firstWrong, 3, some .int)
theorem ok_X7_firstWrong : OkN mi_X7_firstWrong 1 := ⟨wd_cd_X7_firstWrong, wd_in_X7, ⟨by decide +kernel, by decide +kernel, by decide +kernel⟩, by decide⟩
theorem okv_X7_firstWrong : Cond.instanceMethod (mi_X7_firstWrong).1 ∈ tb ∧ Cond.selects (mi_X7_firstWrong).1.cls (mi_X7_firstWrong).1 (mi_X7_firstWrong).1 ∈ tb := ⟨wd_im_X7_firstWrong, wd_se_X7_firstWrong⟩
def f_X7_firstWrong_L2 (σ : St) (t : Nat) (x1 : Int32) : Nat → Int32 → Option ((Int32) ⊕ (Int32))
  | 0, _ => none
  | n + 1, x2 => (gQ σ 6 t 0).bind fun q2 => (gQ σ 3 q2 7).bind fun q4 => (gI σ 4 q4 3).bind fun v6 => if v6 ≤ x2 then (some (.inr x2)) else ((gQ σ 6 t 0).bind fun q9 => (gQ σ 3 q9 2).bind fun q11 => (f_X5_has σ q11 x2).bind fun v13 => if v13 = 0 then (some (.inl ((1 : Int32) + x2))) else ((gQ σ 6 t 0).bind fun q16 => (gQ σ 3 q16 7).bind fun q18 => (f_X5_at σ q18 x2 0).bind fun v20 => (gQ σ 6 t 0).bind fun q22 => (f_X0_origins σ q22 x2 x1).bind fun v24 => (f_X7_lowestBit σ v24).bind fun v26 => if v20 = v26 then (f_X7_firstWrong_L2 σ t x1 n (x2 + 1)) else (some (.inl ((1 : Int32) + x2)))))
def f_X7_firstWrong (σ : St) (t : Nat) (a0 : Int32) : Option Int32 := if isO σ 6 t = true then ((f_X7_firstWrong_L2 σ t a0 3000 0).bind fun p28 => Sum.elim (some) (fun p30 => some 0) p28) else none
theorem gd_X7_firstWrong {σ : St} {t : Nat} {a0 : Int32} {r : Int32} (h : f_X7_firstWrong σ t a0 = some r) : isO σ 6 t = true := by
  unfold f_X7_firstWrong at h
  by_cases hg : isO σ 6 t = true
  · exact hg
  · rw [if_neg hg] at h
    cases h
set_option maxRecDepth 100000 in
set_option maxHeartbeats 4000000 in
theorem c_X7_firstWrong (l : Launch) (G : Gd) (d : Nat) (σ : St) (t : Nat) (a0 : Int32) (r0 : Int32) (hf : f_X7_firstWrong σ t a0 = some r0) : MetV l G (d + 6) mi_X7_firstWrong [.ref t, .int a0] σ (some (.int r0)) σ 0 0 := by
  unfold f_X7_firstWrong at hf
  refine MetV.of [(0, .ref t), (1, .int a0)] (by decide +kernel) rfl (Nat.le_of_ble_eq_true rfl) ?_
  intro X hQ
  have L2 : ∀ (x1 : Int32) (n : Nat) (x2 : Int32) (p : (Int32) ⊕ (Int32)), f_X7_firstWrong_L2 σ t x1 n x2 = some p → (∀ v, p = .inl v → v = r0) → (∀ q, p = .inr q → V mi_X7_firstWrong l G (d + 6) 0 0 X 0 0 67 [(2, .int q), (0, .ref t), (1, .int x1)] [] σ) → V mi_X7_firstWrong l G (d + 6) 0 0 X 0 0 2 [(2, .int x2), (0, .ref t), (1, .int x1)] [] σ := by
    intro x1 n
    induction n with
    | zero =>
      intro x2 p hf
      exact absurd (show (none : Option _) = some p from hf) (by simp)
    | succ n ih =>
      intro x2 p hf hk1 hk
      rw [f_X7_firstWrong_L2] at hf
      refine V_iload_n 0 3 rfl dX7_firstWrong_2 rfl rfl ?_
      refine V_aload_n 1 4 rfl dX7_firstWrong_3 rfl rfl ?_
      obtain ⟨q2, h1, hf⟩ := ob hf
      refine V_getQ (n := 10) (ty := tyX7) 7 h1 cf_6 rfl wd_fl_X7_12 dX7_firstWrong_4 rfl ?_
      obtain ⟨q4, h3, hf⟩ := ob hf
      refine V_getQ (n := 11) (ty := tyX4) 10 h3 cf_3 rfl wd_fl_X7_349 dX7_firstWrong_7 rfl ?_
      obtain ⟨v6, h5, hf⟩ := ob hf
      refine V_getI (n := 4) (ty := tyX5) 13 h5 cf_4 rfl wd_fl_X7_229 dX7_firstWrong_10 rfl ?_
      refine V_icmp_ge 67 16 dX7_firstWrong_13 (by decide) rfl (fun c7 => ?_) (fun c7 => ?_)
      · rw [if_pos c7] at hf
        have ep := Option.some.inj hf
        subst ep
        refine V_ls [(2, .int x2), (0, .ref t), (1, .int x1)] [0, 1, 2] rfl ?_
        exact hk _ rfl
      · rw [if_neg c7] at hf
        refine V_aload_n 1 17 rfl dX7_firstWrong_16 rfl rfl ?_
        obtain ⟨q9, h8, hf⟩ := ob hf
        refine V_getQ (n := 10) (ty := tyX7) 20 h8 cf_6 rfl wd_fl_X7_12 dX7_firstWrong_17 rfl ?_
        obtain ⟨q11, h10, hf⟩ := ob hf
        refine V_getQ (n := 11) (ty := tyX4) 23 h10 cf_3 rfl wd_fl_X7_126 dX7_firstWrong_20 rfl ?_
        refine V_iload_n 0 24 rfl dX7_firstWrong_23 rfl rfl ?_
        obtain ⟨v13, h12, hf⟩ := ob hf
        refine V_callV (rest := []) (T := TX5) (n := 4) (ci := 4) 0 0 27 [.int v13] (c_X5_has l G (d + 4) _ _ _ _ h12) (by omega) ok_X5_has okv_X5_has (gd_X5_has h12) rfl wd_ml_X7_101 rfl rfl (Nat.le_of_ble_eq_true rfl) rfl rfl (Or.inl ⟨rfl, rfl⟩) dX7_firstWrong_24 rfl rfl ?_
        refine V_if_eq 57 30 dX7_firstWrong_27 (by decide) rfl (fun c14 => ?_) (fun c14 => ?_)
        · rw [if_pos c14] at hf
          refine V_iconst 1 58 dX7_firstWrong_57 rfl kiconst_1 ?_
          refine V_iload_n 0 59 rfl dX7_firstWrong_58 rfl rfl ?_
          refine V_iadd 60 dX7_firstWrong_59 rfl ?_
          have ep := Option.some.inj hf
          subst ep
          have er := hk1 _ rfl
          subst er
          exact V_iret hQ rfl dX7_firstWrong_60
        · rw [if_neg c14] at hf
          refine V_aload_n 1 31 rfl dX7_firstWrong_30 rfl rfl ?_
          obtain ⟨q16, h15, hf⟩ := ob hf
          refine V_getQ (n := 10) (ty := tyX7) 34 h15 cf_6 rfl wd_fl_X7_12 dX7_firstWrong_31 rfl ?_
          obtain ⟨q18, h17, hf⟩ := ob hf
          refine V_getQ (n := 11) (ty := tyX4) 37 h17 cf_3 rfl wd_fl_X7_349 dX7_firstWrong_34 rfl ?_
          refine V_iload_n 0 38 rfl dX7_firstWrong_37 rfl rfl ?_
          refine V_iconst 0 39 dX7_firstWrong_38 rfl kiconst_0 ?_
          obtain ⟨v20, h19, hf⟩ := ob hf
          refine V_callV (rest := []) (T := TX5) (n := 4) (ci := 4) 0 0 42 [.int v20] (c_X5_at l G (d + 4) _ _ _ _ _ h19) (by omega) ok_X5_at okv_X5_at (gd_X5_at h19) rfl wd_ml_X7_76 rfl rfl (Nat.le_of_ble_eq_true rfl) rfl rfl (Or.inl ⟨rfl, rfl⟩) dX7_firstWrong_39 rfl rfl ?_
          refine V_aload_n 1 43 rfl dX7_firstWrong_42 rfl rfl ?_
          obtain ⟨q22, h21, hf⟩ := ob hf
          refine V_getQ (n := 10) (ty := tyX7) 46 h21 cf_6 rfl wd_fl_X7_12 dX7_firstWrong_43 rfl ?_
          refine V_iload_n 0 47 rfl dX7_firstWrong_46 rfl rfl ?_
          refine V_iload_n 2 48 rfl dX7_firstWrong_47 rfl rfl ?_
          obtain ⟨v24, h23, hf⟩ := ob hf
          refine V_callS (rest := [.int v20]) 0 0 51 [.int v24, .int v20] (c_X0_origins l G (d + 0) _ _ _ _ _ h23) (by omega) ok_X0_origins oks_X0_origins wd_ml_X7_261 rfl rfl (Nat.le_of_ble_eq_true rfl) rfl rfl (Or.inl ⟨rfl, rfl⟩) dX7_firstWrong_48 rfl rfl ?_
          obtain ⟨v26, h25, hf⟩ := ob hf
          refine V_callS (rest := [.int v20]) 0 0 54 [.int v26, .int v20] (c_X7_lowestBit l G (d + 4) _ _ _ h25) (by omega) ok_X7_lowestBit oks_X7_lowestBit wd_ml_X7_365 rfl rfl (Nat.le_of_ble_eq_true rfl) rfl rfl (Or.inl ⟨rfl, rfl⟩) dX7_firstWrong_51 rfl rfl ?_
          refine V_icmp_eq 61 57 dX7_firstWrong_54 (by decide) rfl (fun c27 => ?_) (fun c27 => ?_)
          · rw [if_pos c27] at hf
            refine V_iinc (x2 + 1) 0 [(2, .int (x2 + 1)), (0, .ref t), (1, .int x1)] 64 dX7_firstWrong_61 rfl (by rw [kiconst_1]) (by decide) rfl rfl ?_
            refine V_goto 2 dX7_firstWrong_64 (by decide) ?_
            refine V_ls [(2, .int (x2 + 1)), (0, .ref t), (1, .int x1)] [0, 1, 2] rfl ?_
            exact ih _ _ hf hk1 hk
          · rw [if_neg c27] at hf
            refine V_iconst 1 58 dX7_firstWrong_57 rfl kiconst_1 ?_
            refine V_iload_n 0 59 rfl dX7_firstWrong_58 rfl rfl ?_
            refine V_iadd 60 dX7_firstWrong_59 rfl ?_
            have ep := Option.some.inj hf
            subst ep
            have er := hk1 _ rfl
            subst er
            exact V_iret hQ rfl dX7_firstWrong_60
  by_cases hg : isO σ 6 t = true
  · rw [if_pos hg] at hf
    refine V_iconst 0 1 dX7_firstWrong_0 rfl kiconst_0 ?_
    refine V_istore_n [(2, .int 0), (0, .ref t), (1, .int a0)] 2 dX7_firstWrong_1 rfl (by decide) rfl rfl ?_
    obtain ⟨p28, h29, hf⟩ := ob hf
    refine V_ls [(2, .int 0), (0, .ref t), (1, .int a0)] [0, 1, 2] rfl ?_
    refine L2 a0 3000 0 p28 h29 (fun v hv => ?_) (fun p30 hq => ?_)
    · subst hv
      cases hf
      rfl
    subst hq
    simp only [Sum.elim_inr] at hf
    refine V_iconst 0 68 dX7_firstWrong_67 rfl kiconst_0 ?_
    have er := Option.some.inj hf
    subst er
    exact V_iret hQ rfl dX7_firstWrong_68
  · rw [if_neg hg] at hf
    cases hf
abbrev mi_X7_check : MI := (yX7_check, cX7_check, 3, some .int)
theorem ok_X7_check : OkN mi_X7_check 1 := ⟨wd_cd_X7_check, wd_in_X7, ⟨by decide +kernel, by decide +kernel, by decide +kernel⟩, by decide⟩
theorem okv_X7_check : Cond.instanceMethod (mi_X7_check).1 ∈ tb ∧ Cond.selects (mi_X7_check).1.cls (mi_X7_check).1 (mi_X7_check).1 ∈ tb := ⟨wd_im_X7_check, wd_se_X7_check⟩
def f_X7_check (σ : St) (t : Nat) (a0 : Int32) : Option (Int32 × St) := if isO σ 6 t = true then ((f_X7_isFactor σ a0).bind fun v2 => if v2 = 0 then ((f_X7_fails σ t (-1000001)).bind fun p5 => (gQ p5.2 6 t 0).bind fun q7 => (gQ p5.2 3 q7 7).bind fun q9 => (f_X5_clear p5.2 q9).bind fun s11 => some (p5.1, s11)) else ((f_X7_firstWrong σ t a0).bind fun v13 => (gQ σ 6 t 0).bind fun q15 => (gQ σ 3 q15 7).bind fun q17 => (f_X5_clear σ q17).bind fun s19 => some (v13, s19))) else none
theorem gd_X7_check {σ : St} {t : Nat} {a0 : Int32} {r : Int32 × St} (h : f_X7_check σ t a0 = some r) : isO σ 6 t = true := by
  unfold f_X7_check at h
  by_cases hg : isO σ 6 t = true
  · exact hg
  · rw [if_neg hg] at h
    cases h
set_option maxRecDepth 100000 in
set_option maxHeartbeats 4000000 in
theorem c_X7_check (l : Launch) (G : Gd) (d : Nat) (σ : St) (t : Nat) (a0 : Int32) (r0 : Int32) (σ' : St) (hf : f_X7_check σ t a0 = some (r0, σ')) : MetV l G (d + 7) mi_X7_check [.ref t, .int a0] σ (some (.int r0)) σ' 0 0 := by
  unfold f_X7_check at hf
  refine MetV.of [(0, .ref t), (1, .int a0)] (by decide +kernel) rfl (Nat.le_of_ble_eq_true rfl) ?_
  intro X hQ
  by_cases hg : isO σ 6 t = true
  · rw [if_pos hg] at hf
    refine V_iload_n 1 1 rfl dX7_check_0 rfl rfl ?_
    obtain ⟨v2, h1, hf⟩ := ob hf
    refine V_callS (rest := []) 0 0 4 [.int v2] (c_X7_isFactor l G (d + 4) _ _ _ h1) (by omega) ok_X7_isFactor oks_X7_isFactor wd_ml_X7_149 rfl rfl (Nat.le_of_ble_eq_true rfl) rfl rfl (Or.inl ⟨rfl, rfl⟩) dX7_check_1 rfl rfl ?_
    refine V_if_eq 15 7 dX7_check_4 (by decide) rfl (fun c3 => ?_) (fun c3 => ?_)
    · rw [if_pos c3] at hf
      refine V_aload_n 0 16 rfl dX7_check_15 rfl rfl ?_
      refine V_ldc (-1000001) 18 dX7_check_16 rfl wd_kk_X7_67 ?_
      obtain ⟨p5, h4, hf⟩ := ob hf
      refine V_callV (rest := []) (T := TX7) (n := 10) (ci := 6) 0 0 21 [.int p5.1] (c_X7_fails l G (d + 4) _ _ _ _ _ h4) (by omega) ok_X7_fails okv_X7_fails (gd_X7_fails h4) rfl wd_ml_X7_68 rfl rfl (Nat.le_of_ble_eq_true rfl) rfl rfl (Or.inl ⟨rfl, rfl⟩) dX7_check_18 rfl rfl ?_
      refine V_istore_n [(2, .int p5.1), (0, .ref t), (1, .int a0)] 22 dX7_check_21 rfl (by decide) rfl rfl ?_
      refine V_aload_n 1 23 rfl dX7_check_22 rfl rfl ?_
      obtain ⟨q7, h6, hf⟩ := ob hf
      refine V_getQ (n := 10) (ty := tyX7) 26 h6 cf_6 rfl wd_fl_X7_12 dX7_check_23 rfl ?_
      obtain ⟨q9, h8, hf⟩ := ob hf
      refine V_getQ (n := 11) (ty := tyX4) 29 h8 cf_3 rfl wd_fl_X7_349 dX7_check_26 rfl ?_
      obtain ⟨s11, h10, hf⟩ := ob hf
      refine V_callV (rest := []) (T := TX5) (n := 4) (ci := 4) 0 0 32 [] (c_X5_clear l G (d + 5) _ _ _ h10) (by omega) ok_X5_clear okv_X5_clear (gd_X5_clear h10) rfl wd_ml_X7_355 rfl rfl (Nat.le_of_ble_eq_true rfl) rfl rfl (Or.inl ⟨rfl, rfl⟩) dX7_check_29 rfl rfl ?_
      refine V_iload_n 0 33 rfl dX7_check_32 rfl rfl ?_
      have er := Option.some.inj hf
      obtain ⟨e1, e2⟩ := Prod.mk.inj er
      subst e1
      subst e2
      exact V_iret hQ rfl dX7_check_33
    · rw [if_neg c3] at hf
      refine V_aload_n 0 8 rfl dX7_check_7 rfl rfl ?_
      refine V_iload_n 1 9 rfl dX7_check_8 rfl rfl ?_
      obtain ⟨v13, h12, hf⟩ := ob hf
      refine V_callV (rest := []) (T := TX7) (n := 10) (ci := 6) 0 0 12 [.int v13] (c_X7_firstWrong l G (d + 0) _ _ _ _ h12) (by omega) ok_X7_firstWrong okv_X7_firstWrong (gd_X7_firstWrong h12) rfl wd_ml_X7_352 rfl rfl (Nat.le_of_ble_eq_true rfl) rfl rfl (Or.inl ⟨rfl, rfl⟩) dX7_check_9 rfl rfl ?_
      refine V_goto 21 dX7_check_12 (by decide) ?_
      refine V_istore_n [(2, .int v13), (0, .ref t), (1, .int a0)] 22 dX7_check_21 rfl (by decide) rfl rfl ?_
      refine V_aload_n 1 23 rfl dX7_check_22 rfl rfl ?_
      obtain ⟨q15, h14, hf⟩ := ob hf
      refine V_getQ (n := 10) (ty := tyX7) 26 h14 cf_6 rfl wd_fl_X7_12 dX7_check_23 rfl ?_
      obtain ⟨q17, h16, hf⟩ := ob hf
      refine V_getQ (n := 11) (ty := tyX4) 29 h16 cf_3 rfl wd_fl_X7_349 dX7_check_26 rfl ?_
      obtain ⟨s19, h18, hf⟩ := ob hf
      refine V_callV (rest := []) (T := TX5) (n := 4) (ci := 4) 0 0 32 [] (c_X5_clear l G (d + 5) _ _ _ h18) (by omega) ok_X5_clear okv_X5_clear (gd_X5_clear h18) rfl wd_ml_X7_355 rfl rfl (Nat.le_of_ble_eq_true rfl) rfl rfl (Or.inl ⟨rfl, rfl⟩) dX7_check_29 rfl rfl ?_
      refine V_iload_n 0 33 rfl dX7_check_32 rfl rfl ?_
      have er := Option.some.inj hf
      obtain ⟨e1, e2⟩ := Prod.mk.inj er
      subst e1
      subst e2
      exact V_iret hQ rfl dX7_check_33
  · rw [if_neg hg] at hf
    cases hf
abbrev mi_X7_count : MI := (yX7_count, cX7_count, 2, some .int)
theorem ok_X7_count : OkN mi_X7_count 1 := ⟨wd_cd_X7_count, wd_in_X7, ⟨by decide +kernel, by decide +kernel, by decide +kernel⟩, by decide⟩
theorem okv_X7_count : Cond.instanceMethod (mi_X7_count).1 ∈ tb ∧ Cond.selects (mi_X7_count).1.cls (mi_X7_count).1 (mi_X7_count).1 ∈ tb := ⟨wd_im_X7_count, wd_se_X7_count⟩
def f_X7_count (σ : St) (t : Nat) (a0 : Int32) : Option (Int32 × St) := if isO σ 6 t = true then (if a0 = 0 then ((gQ σ 6 t 0).bind fun q3 => (gQ σ 3 q3 1).bind fun q5 => (gI σ 4 q5 3).bind fun v7 => some (v7, σ)) else (if a0 = 1 then ((gQ σ 6 t 0).bind fun q10 => (gQ σ 3 q10 2).bind fun q12 => (gI σ 4 q12 3).bind fun v14 => some (v14, σ)) else (if a0 = 2 then ((gQ σ 6 t 0).bind fun q17 => (gQ σ 3 q17 4).bind fun q19 => (gI σ 4 q19 3).bind fun v21 => some (v21, σ)) else (if a0 = 3 then ((gQ σ 6 t 0).bind fun q24 => (gQ σ 3 q24 5).bind fun q26 => (gI σ 4 q26 3).bind fun v28 => some (v28, σ)) else (if a0 = 4 then ((gQ σ 6 t 0).bind fun q31 => (gQ σ 3 q31 5).bind fun q33 => (f_X5_sum σ q33 3).bind fun v35 => some (v35, σ)) else (if a0 = 5 then ((gQ σ 6 t 0).bind fun q38 => (gQ σ 3 q38 6).bind fun q40 => (gI σ 4 q40 3).bind fun v42 => some (v42, σ)) else (if a0 = 6 then ((gQ σ 6 t 0).bind fun q45 => (gQ σ 3 q45 8).bind fun q47 => (gI σ 0 q47 1).bind fun v49 => some (v49, σ)) else (if a0 = 7 then ((gQ σ 6 t 0).bind fun q52 => (gQ σ 3 q52 7).bind fun q54 => (gI σ 4 q54 3).bind fun v56 => some (v56, σ)) else (if a0 = 8 then ((gQ σ 6 t 2).bind fun q59 => (gI σ 5 q59 1).bind fun v61 => some (v61, σ)) else (if a0 = 9 then ((gQ σ 6 t 0).bind fun q64 => (gQ σ 3 q64 2).bind fun q66 => (f_X5_sum σ q66 3).bind fun v68 => some (v68, σ)) else ((f_X7_fails σ t (-1000001)).bind fun p70 => some (p70.1, p70.2)))))))))))) else none
theorem gd_X7_count {σ : St} {t : Nat} {a0 : Int32} {r : Int32 × St} (h : f_X7_count σ t a0 = some r) : isO σ 6 t = true := by
  unfold f_X7_count at h
  by_cases hg : isO σ 6 t = true
  · exact hg
  · rw [if_neg hg] at h
    cases h
set_option maxRecDepth 100000 in
set_option maxHeartbeats 4000000 in
theorem c_X7_count (l : Launch) (G : Gd) (d : Nat) (σ : St) (t : Nat) (a0 : Int32) (r0 : Int32) (σ' : St) (hf : f_X7_count σ t a0 = some (r0, σ')) : MetV l G (d + 3) mi_X7_count [.ref t, .int a0] σ (some (.int r0)) σ' 0 0 := by
  unfold f_X7_count at hf
  refine MetV.of [(0, .ref t), (1, .int a0)] (by decide +kernel) rfl (Nat.le_of_ble_eq_true rfl) ?_
  intro X hQ
  by_cases hg : isO σ 6 t = true
  · rw [if_pos hg] at hf
    refine V_iload_n 1 1 rfl dX7_count_0 rfl rfl ?_
    by_cases c1 : a0 = 0
    · rw [if_pos c1] at hf
      refine V_tsw 0 55 56 dX7_count_1 c1 (by decide) (by decide) (by decide) (by decide) ?_
      refine V_aload_n 0 57 rfl dX7_count_56 rfl rfl ?_
      obtain ⟨q3, h2, hf⟩ := ob hf
      refine V_getQ (n := 10) (ty := tyX7) 60 h2 cf_6 rfl wd_fl_X7_12 dX7_count_57 rfl ?_
      obtain ⟨q5, h4, hf⟩ := ob hf
      refine V_getQ (n := 11) (ty := tyX4) 63 h4 cf_3 rfl wd_fl_X7_89 dX7_count_60 rfl ?_
      obtain ⟨v7, h6, hf⟩ := ob hf
      refine V_getI (n := 4) (ty := tyX5) 66 h6 cf_4 rfl wd_fl_X7_229 dX7_count_63 rfl ?_
      have er := Option.some.inj hf
      obtain ⟨e1, e2⟩ := Prod.mk.inj er
      subst e1
      subst e2
      exact V_iret hQ rfl dX7_count_66
    rw [if_neg c1] at hf
    by_cases c8 : a0 = 1
    · rw [if_pos c8] at hf
      refine V_tsw 1 66 67 dX7_count_1 c8 (by decide) (by decide) (by decide) (by decide) ?_
      refine V_aload_n 0 68 rfl dX7_count_67 rfl rfl ?_
      obtain ⟨q10, h9, hf⟩ := ob hf
      refine V_getQ (n := 10) (ty := tyX7) 71 h9 cf_6 rfl wd_fl_X7_12 dX7_count_68 rfl ?_
      obtain ⟨q12, h11, hf⟩ := ob hf
      refine V_getQ (n := 11) (ty := tyX4) 74 h11 cf_3 rfl wd_fl_X7_126 dX7_count_71 rfl ?_
      obtain ⟨v14, h13, hf⟩ := ob hf
      refine V_getI (n := 4) (ty := tyX5) 77 h13 cf_4 rfl wd_fl_X7_229 dX7_count_74 rfl ?_
      have er := Option.some.inj hf
      obtain ⟨e1, e2⟩ := Prod.mk.inj er
      subst e1
      subst e2
      exact V_iret hQ rfl dX7_count_77
    rw [if_neg c8] at hf
    by_cases c15 : a0 = 2
    · rw [if_pos c15] at hf
      refine V_tsw 2 77 78 dX7_count_1 c15 (by decide) (by decide) (by decide) (by decide) ?_
      refine V_aload_n 0 79 rfl dX7_count_78 rfl rfl ?_
      obtain ⟨q17, h16, hf⟩ := ob hf
      refine V_getQ (n := 10) (ty := tyX7) 82 h16 cf_6 rfl wd_fl_X7_12 dX7_count_79 rfl ?_
      obtain ⟨q19, h18, hf⟩ := ob hf
      refine V_getQ (n := 11) (ty := tyX4) 85 h18 cf_3 rfl wd_fl_X7_283 dX7_count_82 rfl ?_
      obtain ⟨v21, h20, hf⟩ := ob hf
      refine V_getI (n := 4) (ty := tyX5) 88 h20 cf_4 rfl wd_fl_X7_229 dX7_count_85 rfl ?_
      have er := Option.some.inj hf
      obtain ⟨e1, e2⟩ := Prod.mk.inj er
      subst e1
      subst e2
      exact V_iret hQ rfl dX7_count_88
    rw [if_neg c15] at hf
    by_cases c22 : a0 = 3
    · rw [if_pos c22] at hf
      refine V_tsw 3 88 89 dX7_count_1 c22 (by decide) (by decide) (by decide) (by decide) ?_
      refine V_aload_n 0 90 rfl dX7_count_89 rfl rfl ?_
      obtain ⟨q24, h23, hf⟩ := ob hf
      refine V_getQ (n := 10) (ty := tyX7) 93 h23 cf_6 rfl wd_fl_X7_12 dX7_count_90 rfl ?_
      obtain ⟨q26, h25, hf⟩ := ob hf
      refine V_getQ (n := 11) (ty := tyX4) 96 h25 cf_3 rfl wd_fl_X7_286 dX7_count_93 rfl ?_
      obtain ⟨v28, h27, hf⟩ := ob hf
      refine V_getI (n := 4) (ty := tyX5) 99 h27 cf_4 rfl wd_fl_X7_229 dX7_count_96 rfl ?_
      have er := Option.some.inj hf
      obtain ⟨e1, e2⟩ := Prod.mk.inj er
      subst e1
      subst e2
      exact V_iret hQ rfl dX7_count_99
    rw [if_neg c22] at hf
    by_cases c29 : a0 = 4
    · rw [if_pos c29] at hf
      refine V_tsw 4 99 100 dX7_count_1 c29 (by decide) (by decide) (by decide) (by decide) ?_
      refine V_aload_n 0 101 rfl dX7_count_100 rfl rfl ?_
      obtain ⟨q31, h30, hf⟩ := ob hf
      refine V_getQ (n := 10) (ty := tyX7) 104 h30 cf_6 rfl wd_fl_X7_12 dX7_count_101 rfl ?_
      obtain ⟨q33, h32, hf⟩ := ob hf
      refine V_getQ (n := 11) (ty := tyX4) 107 h32 cf_3 rfl wd_fl_X7_286 dX7_count_104 rfl ?_
      refine V_iconst 3 108 dX7_count_107 rfl kiconst_3 ?_
      obtain ⟨v35, h34, hf⟩ := ob hf
      refine V_callV (rest := []) (T := TX5) (n := 4) (ci := 4) 0 0 111 [.int v35] (c_X5_sum l G (d + 0) _ _ _ _ h34) (by omega) ok_X5_sum okv_X5_sum (gd_X5_sum h34) rfl wd_ml_X7_356 rfl rfl (Nat.le_of_ble_eq_true rfl) rfl rfl (Or.inl ⟨rfl, rfl⟩) dX7_count_108 rfl rfl ?_
      have er := Option.some.inj hf
      obtain ⟨e1, e2⟩ := Prod.mk.inj er
      subst e1
      subst e2
      exact V_iret hQ rfl dX7_count_111
    rw [if_neg c29] at hf
    by_cases c36 : a0 = 5
    · rw [if_pos c36] at hf
      refine V_tsw 5 111 112 dX7_count_1 c36 (by decide) (by decide) (by decide) (by decide) ?_
      refine V_aload_n 0 113 rfl dX7_count_112 rfl rfl ?_
      obtain ⟨q38, h37, hf⟩ := ob hf
      refine V_getQ (n := 10) (ty := tyX7) 116 h37 cf_6 rfl wd_fl_X7_12 dX7_count_113 rfl ?_
      obtain ⟨q40, h39, hf⟩ := ob hf
      refine V_getQ (n := 11) (ty := tyX4) 119 h39 cf_3 rfl wd_fl_X7_301 dX7_count_116 rfl ?_
      obtain ⟨v42, h41, hf⟩ := ob hf
      refine V_getI (n := 4) (ty := tyX5) 122 h41 cf_4 rfl wd_fl_X7_229 dX7_count_119 rfl ?_
      have er := Option.some.inj hf
      obtain ⟨e1, e2⟩ := Prod.mk.inj er
      subst e1
      subst e2
      exact V_iret hQ rfl dX7_count_122
    rw [if_neg c36] at hf
    by_cases c43 : a0 = 6
    · rw [if_pos c43] at hf
      refine V_tsw 6 122 123 dX7_count_1 c43 (by decide) (by decide) (by decide) (by decide) ?_
      refine V_aload_n 0 124 rfl dX7_count_123 rfl rfl ?_
      obtain ⟨q45, h44, hf⟩ := ob hf
      refine V_getQ (n := 10) (ty := tyX7) 127 h44 cf_6 rfl wd_fl_X7_12 dX7_count_124 rfl ?_
      obtain ⟨q47, h46, hf⟩ := ob hf
      refine V_getQ (n := 11) (ty := tyX4) 130 h46 cf_3 rfl wd_fl_X7_169 dX7_count_127 rfl ?_
      obtain ⟨v49, h48, hf⟩ := ob hf
      refine V_getI (n := 2) (ty := tyX1) 133 h48 cf_0 rfl wd_fl_X7_173 dX7_count_130 rfl ?_
      have er := Option.some.inj hf
      obtain ⟨e1, e2⟩ := Prod.mk.inj er
      subst e1
      subst e2
      exact V_iret hQ rfl dX7_count_133
    rw [if_neg c43] at hf
    by_cases c50 : a0 = 7
    · rw [if_pos c50] at hf
      refine V_tsw 7 133 134 dX7_count_1 c50 (by decide) (by decide) (by decide) (by decide) ?_
      refine V_aload_n 0 135 rfl dX7_count_134 rfl rfl ?_
      obtain ⟨q52, h51, hf⟩ := ob hf
      refine V_getQ (n := 10) (ty := tyX7) 138 h51 cf_6 rfl wd_fl_X7_12 dX7_count_135 rfl ?_
      obtain ⟨q54, h53, hf⟩ := ob hf
      refine V_getQ (n := 11) (ty := tyX4) 141 h53 cf_3 rfl wd_fl_X7_349 dX7_count_138 rfl ?_
      obtain ⟨v56, h55, hf⟩ := ob hf
      refine V_getI (n := 4) (ty := tyX5) 144 h55 cf_4 rfl wd_fl_X7_229 dX7_count_141 rfl ?_
      have er := Option.some.inj hf
      obtain ⟨e1, e2⟩ := Prod.mk.inj er
      subst e1
      subst e2
      exact V_iret hQ rfl dX7_count_144
    rw [if_neg c50] at hf
    by_cases c57 : a0 = 8
    · rw [if_pos c57] at hf
      refine V_tsw 8 144 145 dX7_count_1 c57 (by decide) (by decide) (by decide) (by decide) ?_
      refine V_aload_n 0 146 rfl dX7_count_145 rfl rfl ?_
      obtain ⟨q59, h58, hf⟩ := ob hf
      refine V_getQ (n := 10) (ty := tyX7) 149 h58 cf_6 rfl wd_fl_X7_26 dX7_count_146 rfl ?_
      obtain ⟨v61, h60, hf⟩ := ob hf
      refine V_getI (n := 6) (ty := tyX6) 152 h60 cf_5 rfl wd_fl_X7_320 dX7_count_149 rfl ?_
      have er := Option.some.inj hf
      obtain ⟨e1, e2⟩ := Prod.mk.inj er
      subst e1
      subst e2
      exact V_iret hQ rfl dX7_count_152
    rw [if_neg c57] at hf
    by_cases c62 : a0 = 9
    · rw [if_pos c62] at hf
      refine V_tsw 9 152 153 dX7_count_1 c62 (by decide) (by decide) (by decide) (by decide) ?_
      refine V_aload_n 0 154 rfl dX7_count_153 rfl rfl ?_
      obtain ⟨q64, h63, hf⟩ := ob hf
      refine V_getQ (n := 10) (ty := tyX7) 157 h63 cf_6 rfl wd_fl_X7_12 dX7_count_154 rfl ?_
      obtain ⟨q66, h65, hf⟩ := ob hf
      refine V_getQ (n := 11) (ty := tyX4) 160 h65 cf_3 rfl wd_fl_X7_126 dX7_count_157 rfl ?_
      refine V_iconst 3 161 dX7_count_160 rfl kiconst_3 ?_
      obtain ⟨v68, h67, hf⟩ := ob hf
      refine V_callV (rest := []) (T := TX5) (n := 4) (ci := 4) 0 0 164 [.int v68] (c_X5_sum l G (d + 0) _ _ _ _ h67) (by omega) ok_X5_sum okv_X5_sum (gd_X5_sum h67) rfl wd_ml_X7_356 rfl rfl (Nat.le_of_ble_eq_true rfl) rfl rfl (Or.inl ⟨rfl, rfl⟩) dX7_count_161 rfl rfl ?_
      have er := Option.some.inj hf
      obtain ⟨e1, e2⟩ := Prod.mk.inj er
      subst e1
      subst e2
      exact V_iret hQ rfl dX7_count_164
    rw [if_neg c62] at hf
    refine V_tswD [0, 1, 2, 3, 4, 5, 6, 7, 8, 9] 165 dX7_count_1 (fun q hq => by simp only [List.mem_cons, List.not_mem_nil, or_false] at hq; rcases hq with rfl | rfl | rfl | rfl | rfl | rfl | rfl | rfl | rfl | rfl <;> assumption) (by decide) (by decide) (by decide) ?_
    refine V_aload_n 0 166 rfl dX7_count_165 rfl rfl ?_
    refine V_ldc (-1000001) 168 dX7_count_166 rfl wd_kk_X7_67 ?_
    obtain ⟨p70, h69, hf⟩ := ob hf
    refine V_callV (rest := []) (T := TX7) (n := 10) (ci := 6) 0 0 171 [.int p70.1] (c_X7_fails l G (d + 0) _ _ _ _ _ h69) (by omega) ok_X7_fails okv_X7_fails (gd_X7_fails h69) rfl wd_ml_X7_68 rfl rfl (Nat.le_of_ble_eq_true rfl) rfl rfl (Or.inl ⟨rfl, rfl⟩) dX7_count_168 rfl rfl ?_
    have er := Option.some.inj hf
    obtain ⟨e1, e2⟩ := Prod.mk.inj er
    subst e1
    subst e2
    exact V_iret hQ rfl dX7_count_171
  · rw [if_neg hg] at hf
    cases hf
abbrev mi_X7_told : MI := (yX7_told, cX7_told, 2, some .int)
theorem ok_X7_told : OkN mi_X7_told 1 := ⟨wd_cd_X7_told, wd_in_X7, ⟨by decide +kernel, by decide +kernel, by decide +kernel⟩, by decide⟩
theorem okv_X7_told : Cond.instanceMethod (mi_X7_told).1 ∈ tb ∧ Cond.selects (mi_X7_told).1.cls (mi_X7_told).1 (mi_X7_told).1 ∈ tb := ⟨wd_im_X7_told, wd_se_X7_told⟩
def f_X7_told (σ : St) (t : Nat) (a0 : Int32) : Option (Int32 × St) := if isO σ 6 t = true then ((f_X7_outside σ a0 1 6).bind fun v2 => if v2 = 0 then ((gQ σ 6 t 4).bind fun q5 => (aI σ 0 q5 a0).bind fun v7 => some (v7, σ)) else ((f_X7_fails σ t (-1000001)).bind fun p9 => some (p9.1, p9.2))) else none
theorem gd_X7_told {σ : St} {t : Nat} {a0 : Int32} {r : Int32 × St} (h : f_X7_told σ t a0 = some r) : isO σ 6 t = true := by
  unfold f_X7_told at h
  by_cases hg : isO σ 6 t = true
  · exact hg
  · rw [if_neg hg] at h
    cases h
set_option maxRecDepth 100000 in
set_option maxHeartbeats 4000000 in
theorem c_X7_told (l : Launch) (G : Gd) (d : Nat) (σ : St) (t : Nat) (a0 : Int32) (r0 : Int32) (σ' : St) (hf : f_X7_told σ t a0 = some (r0, σ')) : MetV l G (d + 3) mi_X7_told [.ref t, .int a0] σ (some (.int r0)) σ' 0 0 := by
  unfold f_X7_told at hf
  refine MetV.of [(0, .ref t), (1, .int a0)] (by decide +kernel) rfl (Nat.le_of_ble_eq_true rfl) ?_
  intro X hQ
  by_cases hg : isO σ 6 t = true
  · rw [if_pos hg] at hf
    refine V_iload_n 1 1 rfl dX7_told_0 rfl rfl ?_
    refine V_iconst 1 2 dX7_told_1 rfl kiconst_1 ?_
    refine V_bipush 6 4 dX7_told_2 rfl kbipush_6 ?_
    obtain ⟨v2, h1, hf⟩ := ob hf
    refine V_callS (rest := []) 0 0 7 [.int v2] (c_X7_outside l G (d + 1) _ _ _ _ _ h1) (by omega) ok_X7_outside oks_X7_outside wd_ml_X7_57 rfl rfl (Nat.le_of_ble_eq_true rfl) rfl rfl (Or.inl ⟨rfl, rfl⟩) dX7_told_4 rfl rfl ?_
    refine V_if_eq 19 10 dX7_told_7 (by decide) rfl (fun c3 => ?_) (fun c3 => ?_)
    · rw [if_pos c3] at hf
      refine V_aload_n 0 20 rfl dX7_told_19 rfl rfl ?_
      obtain ⟨q5, h4, hf⟩ := ob hf
      refine V_getQ (n := 10) (ty := tyX7) 23 h4 cf_6 rfl wd_fl_X7_36 dX7_told_20 rfl ?_
      refine V_iload_n 1 24 rfl dX7_told_23 rfl rfl ?_
      obtain ⟨v7, h6, hf⟩ := ob hf
      refine V_iald 25 h6 dX7_told_24 rfl ?_
      have er := Option.some.inj hf
      obtain ⟨e1, e2⟩ := Prod.mk.inj er
      subst e1
      subst e2
      exact V_iret hQ rfl dX7_told_25
    · rw [if_neg c3] at hf
      refine V_aload_n 0 11 rfl dX7_told_10 rfl rfl ?_
      refine V_ldc (-1000001) 13 dX7_told_11 rfl wd_kk_X7_67 ?_
      obtain ⟨p9, h8, hf⟩ := ob hf
      refine V_callV (rest := []) (T := TX7) (n := 10) (ci := 6) 0 0 16 [.int p9.1] (c_X7_fails l G (d + 0) _ _ _ _ _ h8) (by omega) ok_X7_fails okv_X7_fails (gd_X7_fails h8) rfl wd_ml_X7_68 rfl rfl (Nat.le_of_ble_eq_true rfl) rfl rfl (Or.inl ⟨rfl, rfl⟩) dX7_told_13 rfl rfl ?_
      refine V_goto 25 dX7_told_16 (by decide) ?_
      have er := Option.some.inj hf
      obtain ⟨e1, e2⟩ := Prod.mk.inj er
      subst e1
      subst e2
      exact V_iret hQ rfl dX7_told_25
  · rw [if_neg hg] at hf
    cases hf
