abbrev mi_X8_saw : MI := (yX8_saw, cX8_saw, 5, some .int)
theorem ok_X8_saw : OkN mi_X8_saw 2 := ⟨wd_cd_X8_saw, wd_in_X8, ⟨by decide +kernel, by decide +kernel, by decide +kernel⟩, by decide⟩
theorem okv_X8_saw : Cond.instanceMethod (mi_X8_saw).1 ∈ tb ∧ Cond.selects (mi_X8_saw).1.cls (mi_X8_saw).1 (mi_X8_saw).1 ∈ tb := ⟨wd_im_X8_saw, wd_se_X8_saw⟩
def f_X8_saw_L33 (σ : St) (t : Nat) (x1 : Int32) (x2 : Int32) : Nat → Int32 → Int32 → Option (Int32 × Int32)
  | 0, _, _ => none
  | n + 1, x4, x3 => (gQ σ 7 t 0).bind fun q10 => (aI σ 0 q10 0).bind fun v12 => if v12 ≤ x4 then (some (x4, x3)) else ((f_X8_paper σ t x4 0).bind fun v15 => if x2 < v15 then (f_X8_saw_L33 σ t x1 x2 n (x4 + 1) (x3 ||| 0)) else ((f_X8_paper σ t x4 1).bind fun v18 => (f_X8_has σ v18 x1).bind fun v20 => f_X8_saw_L33 σ t x1 x2 n (x4 + 1) (x3 ||| (if v20 = 0 then 0 else (1 : Int32) <<< (x4 &&& 31) : Int32))))
def f_X8_saw (σ : St) (t : Nat) (a0 : Int32) (a1 : Int32) : Option (Int32 × St) := if isO σ 7 t = true then ((f_X8_within σ a0 0 7).bind fun v2 => if v2 = 0 then ((f_X8_finding σ t (-1000001)).bind fun p5 => some (p5.1, p5.2)) else ((f_X8_within σ a1 0 999).bind fun v7 => if v7 = 0 then ((f_X8_finding σ t (-1000001)).bind fun p26 => some (p26.1, p26.2)) else ((f_X8_saw_L33 σ t a0 a1 3000 0 0).bind fun p23 => some (p23.2, σ)))) else none
theorem gd_X8_saw {σ : St} {t : Nat} {a0 : Int32} {a1 : Int32} {r : Int32 × St} (h : f_X8_saw σ t a0 a1 = some r) : isO σ 7 t = true := by
  unfold f_X8_saw at h
  by_cases hg : isO σ 7 t = true
  · exact hg
  · rw [if_neg hg] at h
    cases h
set_option maxRecDepth 100000 in
set_option maxHeartbeats 4000000 in
theorem c_X8_saw (l : Launch) (G : Gd) (d : Nat) (σ : St) (t : Nat) (a0 : Int32) (a1 : Int32) (r0 : Int32) (σ' : St) (hf : f_X8_saw σ t a0 a1 = some (r0, σ')) : MetV l G (d + 2) mi_X8_saw [.ref t, .int a0, .int a1] σ (some (.int r0)) σ' 0 0 := by
  unfold f_X8_saw at hf
  refine MetV.of [(0, .ref t), (1, .int a0), (2, .int a1)] (by decide +kernel) rfl (Nat.le_of_ble_eq_true rfl) ?_
  intro X hQ
  have L33 : ∀ (σ : St) (x1 : Int32) (x2 : Int32) (n : Nat) (x4 : Int32) (x3 : Int32) (p : Int32 × Int32), f_X8_saw_L33 σ t x1 x2 n x4 x3 = some p → V mi_X8_saw l G (d + 2) 0 0 X 0 0 86 [(4, .int p.1), (3, .int p.2), (0, .ref t), (1, .int x1), (2, .int x2)] [] σ → V mi_X8_saw l G (d + 2) 0 0 X 0 0 33 [(4, .int x4), (3, .int x3), (0, .ref t), (1, .int x1), (2, .int x2)] [] σ := by
    intro σ x1 x2 n
    induction n with
    | zero =>
      intro x4 x3 p hf
      exact absurd (show (none : Option _) = some p from hf) (by simp)
    | succ n ih =>
      intro x4 x3 p hf hk
      rw [f_X8_saw_L33] at hf
      refine V_iload 0 35 rfl dX8_saw_33 rfl ?_
      refine V_aload_n 2 36 rfl dX8_saw_35 rfl rfl ?_
      obtain ⟨q10, h9, hf⟩ := ob hf
      refine V_getQ (n := 27) (ty := tyX8) 39 h9 cf_7 rfl wd_fl_X8_9 dX8_saw_36 rfl ?_
      refine V_iconst 0 40 dX8_saw_39 rfl kiconst_0 ?_
      obtain ⟨v12, h11, hf⟩ := ob hf
      refine V_iald 41 h11 dX8_saw_40 rfl ?_
      refine V_icmp_ge 86 44 dX8_saw_41 (by decide) rfl (fun c13 => ?_) (fun c13 => ?_)
      · rw [if_pos c13] at hf
        have ep := Option.some.inj hf
        subst ep
        refine V_ls [(4, .int x4), (3, .int x3), (0, .ref t), (1, .int x1), (2, .int x2)] [0, 1, 2, 3, 4] rfl ?_
        exact hk
      · rw [if_neg c13] at hf
        refine V_iload_n 1 45 rfl dX8_saw_44 rfl rfl ?_
        refine V_aload_n 2 46 rfl dX8_saw_45 rfl rfl ?_
        refine V_iload 0 48 rfl dX8_saw_46 rfl ?_
        refine V_iconst 0 49 dX8_saw_48 rfl kiconst_0 ?_
        obtain ⟨v15, h14, hf⟩ := ob hf
        refine V_callV (rest := [.int x3]) (T := TX8) (n := 27) (ci := 7) 0 0 52 [.int v15, .int x3] (c_X8_paper l G (d + 0) _ _ _ _ _ h14) (by omega) ok_X8_paper okv_X8_paper (gd_X8_paper h14) rfl wd_ml_X8_90 rfl rfl (Nat.le_of_ble_eq_true rfl) rfl rfl (Or.inl ⟨rfl, rfl⟩) dX8_saw_49 rfl rfl ?_
        refine V_iload_n 4 53 rfl dX8_saw_52 rfl rfl ?_
        refine V_icmp_gt 77 56 dX8_saw_53 (by decide) rfl (fun c16 => ?_) (fun c16 => ?_)
        · rw [if_pos c16] at hf
          refine V_iconst 0 78 dX8_saw_77 rfl kiconst_0 ?_
          refine V_ior 79 dX8_saw_78 rfl ?_
          refine V_istore_n [(3, .int (x3 ||| 0)), (4, .int x4), (0, .ref t), (1, .int x1), (2, .int x2)] 80 dX8_saw_79 rfl (by decide) rfl rfl ?_
          refine V_iinc (x4 + 1) 1 [(4, .int (x4 + 1)), (3, .int (x3 ||| 0)), (0, .ref t), (1, .int x1), (2, .int x2)] 83 dX8_saw_80 rfl (by rw [kiconst_1]) (by decide) rfl rfl ?_
          refine V_goto 33 dX8_saw_83 (by decide) ?_
          refine V_ls [(4, .int (x4 + 1)), (3, .int (x3 ||| 0)), (0, .ref t), (1, .int x1), (2, .int x2)] [0, 1, 2, 3, 4] rfl ?_
          exact ih _ _ _ hf hk
        · rw [if_neg c16] at hf
          refine V_aload_n 2 57 rfl dX8_saw_56 rfl rfl ?_
          refine V_iload 0 59 rfl dX8_saw_57 rfl ?_
          refine V_iconst 1 60 dX8_saw_59 rfl kiconst_1 ?_
          obtain ⟨v18, h17, hf⟩ := ob hf
          refine V_callV (rest := [.int x3]) (T := TX8) (n := 27) (ci := 7) 0 0 63 [.int v18, .int x3] (c_X8_paper l G (d + 0) _ _ _ _ _ h17) (by omega) ok_X8_paper okv_X8_paper (gd_X8_paper h17) rfl wd_ml_X8_90 rfl rfl (Nat.le_of_ble_eq_true rfl) rfl rfl (Or.inl ⟨rfl, rfl⟩) dX8_saw_60 rfl rfl ?_
          refine V_iload_n 3 64 rfl dX8_saw_63 rfl rfl ?_
          obtain ⟨v20, h19, hf⟩ := ob hf
          refine V_callS (rest := [.int x3]) 0 0 67 [.int v20, .int x3] (c_X8_has l G (d + 0) _ _ _ _ h19) (by omega) ok_X8_has oks_X8_has wd_ml_X8_137 rfl rfl (Nat.le_of_ble_eq_true rfl) rfl rfl (Or.inl ⟨rfl, rfl⟩) dX8_saw_64 rfl rfl ?_
          have kj21 : V mi_X8_saw l G (d + 2) 0 0 X 0 0 78 [(4, .int x4), (3, .int x3), (0, .ref t), (1, .int x1), (2, .int x2)] [.int (if v20 = 0 then 0 else (1 : Int32) <<< (x4 &&& 31) : Int32), .int x3] σ := by
            refine V_ior 79 dX8_saw_78 rfl ?_
            refine V_istore_n [(3, .int (x3 ||| (if v20 = 0 then 0 else (1 : Int32) <<< (x4 &&& 31) : Int32))), (4, .int x4), (0, .ref t), (1, .int x1), (2, .int x2)] 80 dX8_saw_79 rfl (by decide) rfl rfl ?_
            refine V_iinc (x4 + 1) 1 [(4, .int (x4 + 1)), (3, .int (x3 ||| (if v20 = 0 then 0 else (1 : Int32) <<< (x4 &&& 31) : Int32))), (0, .ref t), (1, .int x1), (2, .int x2)] 83 dX8_saw_80 rfl (by rw [kiconst_1]) (by decide) rfl rfl ?_
            refine V_goto 33 dX8_saw_83 (by decide) ?_
            refine V_ls [(4, .int (x4 + 1)), (3, .int (x3 ||| (if v20 = 0 then 0 else (1 : Int32) <<< (x4 &&& 31) : Int32))), (0, .ref t), (1, .int x1), (2, .int x2)] [0, 1, 2, 3, 4] rfl ?_
            exact ih _ _ _ hf hk
          refine V_if_eq 77 70 dX8_saw_67 (by decide) rfl (fun c22 => ?_) (fun c22 => ?_)
          · refine V_iconst 0 78 dX8_saw_77 rfl kiconst_0 ?_
            refine V_ls [(4, .int x4), (3, .int x3), (0, .ref t), (1, .int x1), (2, .int x2)] [0, 1, 2, 3, 4] rfl ?_
            simp only [if_pos c22] at kj21
            exact kj21
          · refine V_iconst 1 71 dX8_saw_70 rfl kiconst_1 ?_
            refine V_iload 0 73 rfl dX8_saw_71 rfl ?_
            refine V_ishl 74 dX8_saw_73 rfl ?_
            refine V_goto 78 dX8_saw_74 (by decide) ?_
            refine V_ls [(4, .int x4), (3, .int x3), (0, .ref t), (1, .int x1), (2, .int x2)] [0, 1, 2, 3, 4] rfl ?_
            simp only [if_neg c22] at kj21
            exact kj21
  by_cases hg : isO σ 7 t = true
  · rw [if_pos hg] at hf
    refine V_iload_n 1 1 rfl dX8_saw_0 rfl rfl ?_
    refine V_iconst 0 2 dX8_saw_1 rfl kiconst_0 ?_
    refine V_bipush 7 4 dX8_saw_2 rfl kbipush_7 ?_
    obtain ⟨v2, h1, hf⟩ := ob hf
    refine V_callS (rest := []) 0 0 7 [.int v2] (c_X8_within l G (d + 0) _ _ _ _ _ h1) (by omega) ok_X8_within oks_X8_within wd_ml_X8_68 rfl rfl (Nat.le_of_ble_eq_true rfl) rfl rfl (Or.inl ⟨rfl, rfl⟩) dX8_saw_4 rfl rfl ?_
    refine V_if_eq 21 10 dX8_saw_7 (by decide) rfl (fun c3 => ?_) (fun c3 => ?_)
    · rw [if_pos c3] at hf
      refine V_aload_n 0 22 rfl dX8_saw_21 rfl rfl ?_
      refine V_ldc (-1000001) 24 dX8_saw_22 rfl wd_kk_X8_76 ?_
      obtain ⟨p5, h4, hf⟩ := ob hf
      refine V_callV (rest := []) (T := TX8) (n := 27) (ci := 7) 0 0 27 [.int p5.1] (c_X8_finding l G (d + 0) _ _ _ _ _ h4) (by omega) ok_X8_finding okv_X8_finding (gd_X8_finding h4) rfl wd_ml_X8_77 rfl rfl (Nat.le_of_ble_eq_true rfl) rfl rfl (Or.inl ⟨rfl, rfl⟩) dX8_saw_24 rfl rfl ?_
      have er := Option.some.inj hf
      obtain ⟨e1, e2⟩ := Prod.mk.inj er
      subst e1
      subst e2
      exact V_iret hQ rfl dX8_saw_27
    · rw [if_neg c3] at hf
      refine V_iload_n 2 11 rfl dX8_saw_10 rfl rfl ?_
      refine V_iconst 0 12 dX8_saw_11 rfl kiconst_0 ?_
      refine V_sipush 999 15 dX8_saw_12 rfl ksipush_999 ?_
      obtain ⟨v7, h6, hf⟩ := ob hf
      refine V_callS (rest := []) 0 0 18 [.int v7] (c_X8_within l G (d + 0) _ _ _ _ _ h6) (by omega) ok_X8_within oks_X8_within wd_ml_X8_68 rfl rfl (Nat.le_of_ble_eq_true rfl) rfl rfl (Or.inl ⟨rfl, rfl⟩) dX8_saw_15 rfl rfl ?_
      refine V_if_ne 28 21 dX8_saw_18 (by decide) rfl (fun c8 => ?_) (fun c8 => ?_)
      · rw [if_neg c8] at hf
        refine V_iconst 0 29 dX8_saw_28 rfl kiconst_0 ?_
        refine V_istore_n [(3, .int 0), (0, .ref t), (1, .int a0), (2, .int a1)] 30 dX8_saw_29 rfl (by decide) rfl rfl ?_
        refine V_iconst 0 31 dX8_saw_30 rfl kiconst_0 ?_
        refine V_istore [(4, .int 0), (3, .int 0), (0, .ref t), (1, .int a0), (2, .int a1)] 33 dX8_saw_31 (by decide) rfl rfl ?_
        obtain ⟨p23, h24, hf⟩ := ob hf
        refine V_ls [(4, .int 0), (3, .int 0), (0, .ref t), (1, .int a0), (2, .int a1)] [0, 1, 2, 3, 4] rfl ?_
        refine L33 σ a0 a1 3000 0 0 p23 h24 ?_
        refine V_iload_n 1 87 rfl dX8_saw_86 rfl rfl ?_
        have er := Option.some.inj hf
        obtain ⟨e1, e2⟩ := Prod.mk.inj er
        subst e1
        subst e2
        exact V_iret hQ rfl dX8_saw_87
      · rw [if_pos c8] at hf
        refine V_aload_n 0 22 rfl dX8_saw_21 rfl rfl ?_
        refine V_ldc (-1000001) 24 dX8_saw_22 rfl wd_kk_X8_76 ?_
        obtain ⟨p26, h25, hf⟩ := ob hf
        refine V_callV (rest := []) (T := TX8) (n := 27) (ci := 7) 0 0 27 [.int p26.1] (c_X8_finding l G (d + 0) _ _ _ _ _ h25) (by omega) ok_X8_finding okv_X8_finding (gd_X8_finding h25) rfl wd_ml_X8_77 rfl rfl (Nat.le_of_ble_eq_true rfl) rfl rfl (Or.inl ⟨rfl, rfl⟩) dX8_saw_24 rfl rfl ?_
        have er := Option.some.inj hf
        obtain ⟨e1, e2⟩ := Prod.mk.inj er
        subst e1
        subst e2
        exact V_iret hQ rfl dX8_saw_27
  · rw [if_neg hg] at hf
    cases hf
abbrev mi_X8_rests : MI := (yX8_rests, cX8_rests, 5, some .int)
theorem ok_X8_rests : OkN mi_X8_rests 2 := ⟨wd_cd_X8_rests, wd_in_X8, ⟨by decide +kernel, by decide +kernel, by decide +kernel⟩, by decide⟩
theorem okv_X8_rests : Cond.instanceMethod (mi_X8_rests).1 ∈ tb ∧ Cond.selects (mi_X8_rests).1.cls (mi_X8_rests).1 (mi_X8_rests).1 ∈ tb := ⟨wd_im_X8_rests, wd_se_X8_rests⟩
def f_X8_rests (σ : St) (t : Nat) (a0 : Int32) (a1 : Int32) : Option (Int32 × St) := if isO σ 7 t = true then ((f_X8_is σ t a0 0).bind fun v2 => if v2 = 0 then ((f_X8_finding σ t (-1000001)).bind fun p5 => some (p5.1, p5.2)) else ((f_X8_is σ t a1 0).bind fun v7 => if v7 = 0 then ((f_X8_finding σ t (-1000001)).bind fun p27 => some (p27.1, p27.2)) else (if a1 < a0 then ((gQ σ 7 t 0).bind fun q11 => (aI σ 0 q11 (((22 : Int32) + ((5 : Int32) * a0)) + 4)).bind fun v13 => (f_X8_has σ v13 a1).bind fun v15 => (gQ σ 7 t 0).bind fun q17 => (aI σ 0 q17 (((22 : Int32) + ((5 : Int32) * a0)) + 4)).bind fun v19 => (sI σ q17 (((22 : Int32) + ((5 : Int32) * a0)) + 4) (v19 ||| ((1 : Int32) <<< (a1 &&& 31)))).bind fun s21 => some ((if v15 = 0 then 1 else 0 : Int32), s21)) else ((f_X8_finding σ t (-1000003)).bind fun p25 => some (p25.1, p25.2))))) else none
theorem gd_X8_rests {σ : St} {t : Nat} {a0 : Int32} {a1 : Int32} {r : Int32 × St} (h : f_X8_rests σ t a0 a1 = some r) : isO σ 7 t = true := by
  unfold f_X8_rests at h
  by_cases hg : isO σ 7 t = true
  · exact hg
  · rw [if_neg hg] at h
    cases h
set_option maxRecDepth 100000 in
set_option maxHeartbeats 4000000 in
theorem c_X8_rests (l : Launch) (G : Gd) (d : Nat) (σ : St) (t : Nat) (a0 : Int32) (a1 : Int32) (r0 : Int32) (σ' : St) (hf : f_X8_rests σ t a0 a1 = some (r0, σ')) : MetV l G (d + 3) mi_X8_rests [.ref t, .int a0, .int a1] σ (some (.int r0)) σ' 0 0 := by
  unfold f_X8_rests at hf
  refine MetV.of [(0, .ref t), (1, .int a0), (2, .int a1)] (by decide +kernel) rfl (Nat.le_of_ble_eq_true rfl) ?_
  intro X hQ
  by_cases hg : isO σ 7 t = true
  · rw [if_pos hg] at hf
    refine V_aload_n 0 1 rfl dX8_rests_0 rfl rfl ?_
    refine V_iload_n 1 2 rfl dX8_rests_1 rfl rfl ?_
    refine V_iconst 0 3 dX8_rests_2 rfl kiconst_0 ?_
    obtain ⟨v2, h1, hf⟩ := ob hf
    refine V_callV (rest := []) (T := TX8) (n := 27) (ci := 7) 0 0 6 [.int v2] (c_X8_is l G (d + 0) _ _ _ _ _ h1) (by omega) ok_X8_is okv_X8_is (gd_X8_is h1) rfl wd_ml_X8_83 rfl rfl (Nat.le_of_ble_eq_true rfl) rfl rfl (Or.inl ⟨rfl, rfl⟩) dX8_rests_3 rfl rfl ?_
    refine V_if_eq 18 9 dX8_rests_6 (by decide) rfl (fun c3 => ?_) (fun c3 => ?_)
    · rw [if_pos c3] at hf
      refine V_aload_n 0 19 rfl dX8_rests_18 rfl rfl ?_
      refine V_ldc (-1000001) 21 dX8_rests_19 rfl wd_kk_X8_76 ?_
      obtain ⟨p5, h4, hf⟩ := ob hf
      refine V_callV (rest := []) (T := TX8) (n := 27) (ci := 7) 0 0 24 [.int p5.1] (c_X8_finding l G (d + 1) _ _ _ _ _ h4) (by omega) ok_X8_finding okv_X8_finding (gd_X8_finding h4) rfl wd_ml_X8_77 rfl rfl (Nat.le_of_ble_eq_true rfl) rfl rfl (Or.inl ⟨rfl, rfl⟩) dX8_rests_21 rfl rfl ?_
      have er := Option.some.inj hf
      obtain ⟨e1, e2⟩ := Prod.mk.inj er
      subst e1
      subst e2
      exact V_iret hQ rfl dX8_rests_24
    · rw [if_neg c3] at hf
      refine V_aload_n 0 10 rfl dX8_rests_9 rfl rfl ?_
      refine V_iload_n 2 11 rfl dX8_rests_10 rfl rfl ?_
      refine V_iconst 0 12 dX8_rests_11 rfl kiconst_0 ?_
      obtain ⟨v7, h6, hf⟩ := ob hf
      refine V_callV (rest := []) (T := TX8) (n := 27) (ci := 7) 0 0 15 [.int v7] (c_X8_is l G (d + 0) _ _ _ _ _ h6) (by omega) ok_X8_is okv_X8_is (gd_X8_is h6) rfl wd_ml_X8_83 rfl rfl (Nat.le_of_ble_eq_true rfl) rfl rfl (Or.inl ⟨rfl, rfl⟩) dX8_rests_12 rfl rfl ?_
      refine V_if_ne 25 18 dX8_rests_15 (by decide) rfl (fun c8 => ?_) (fun c8 => ?_)
      · rw [if_neg c8] at hf
        refine V_iload_n 2 26 rfl dX8_rests_25 rfl rfl ?_
        refine V_iload_n 1 27 rfl dX8_rests_26 rfl rfl ?_
        refine V_icmp_lt 38 30 dX8_rests_27 (by decide) rfl (fun c9 => ?_) (fun c9 => ?_)
        · rw [if_pos c9] at hf
          refine V_bipush 22 40 dX8_rests_38 rfl kbipush_22 ?_
          refine V_iconst 5 41 dX8_rests_40 rfl kiconst_5 ?_
          refine V_iload_n 1 42 rfl dX8_rests_41 rfl rfl ?_
          refine V_imul 43 dX8_rests_42 rfl ?_
          refine V_iadd 44 dX8_rests_43 rfl ?_
          refine V_iconst 4 45 dX8_rests_44 rfl kiconst_4 ?_
          refine V_iadd 46 dX8_rests_45 rfl ?_
          refine V_istore_n [(3, .int (((22 : Int32) + ((5 : Int32) * a0)) + 4)), (0, .ref t), (1, .int a0), (2, .int a1)] 47 dX8_rests_46 rfl (by decide) rfl rfl ?_
          refine V_aload_n 1 48 rfl dX8_rests_47 rfl rfl ?_
          obtain ⟨q11, h10, hf⟩ := ob hf
          refine V_getQ (n := 27) (ty := tyX8) 51 h10 cf_7 rfl wd_fl_X8_9 dX8_rests_48 rfl ?_
          refine V_iload_n 0 52 rfl dX8_rests_51 rfl rfl ?_
          obtain ⟨v13, h12, hf⟩ := ob hf
          refine V_iald 53 h12 dX8_rests_52 rfl ?_
          refine V_iload_n 3 54 rfl dX8_rests_53 rfl rfl ?_
          obtain ⟨v15, h14, hf⟩ := ob hf
          refine V_callS (rest := []) 0 0 57 [.int v15] (c_X8_has l G (d + 1) _ _ _ _ h14) (by omega) ok_X8_has oks_X8_has wd_ml_X8_137 rfl rfl (Nat.le_of_ble_eq_true rfl) rfl rfl (Or.inl ⟨rfl, rfl⟩) dX8_rests_54 rfl rfl ?_
          refine V_istore [(4, .int v15), (3, .int (((22 : Int32) + ((5 : Int32) * a0)) + 4)), (0, .ref t), (1, .int a0), (2, .int a1)] 59 dX8_rests_57 (by decide) rfl rfl ?_
          refine V_aload_n 2 60 rfl dX8_rests_59 rfl rfl ?_
          obtain ⟨q17, h16, hf⟩ := ob hf
          refine V_getQ (n := 27) (ty := tyX8) 63 h16 cf_7 rfl wd_fl_X8_9 dX8_rests_60 rfl ?_
          refine V_iload_n 1 64 rfl dX8_rests_63 rfl rfl ?_
          refine V_dup2 65 dX8_rests_64 rfl rfl rfl ?_
          obtain ⟨v19, h18, hf⟩ := ob hf
          refine V_iald 66 h18 dX8_rests_65 rfl ?_
          refine V_iconst 1 67 dX8_rests_66 rfl kiconst_1 ?_
          refine V_iload_n 4 68 rfl dX8_rests_67 rfl rfl ?_
          refine V_ishl 69 dX8_rests_68 rfl ?_
          refine V_ior 70 dX8_rests_69 rfl ?_
          obtain ⟨s21, h20, hf⟩ := ob hf
          refine V_iast 71 h20 dX8_rests_70 rfl ?_
          refine V_iload 0 73 rfl dX8_rests_71 rfl ?_
          have kj22 : V mi_X8_rests l G (d + 3) 0 0 X 0 0 81 [(4, .int v15), (3, .int (((22 : Int32) + ((5 : Int32) * a0)) + 4)), (0, .ref t), (1, .int a0), (2, .int a1)] [.int (if v15 = 0 then 1 else 0 : Int32)] s21 := by
            have er := Option.some.inj hf
            obtain ⟨e1, e2⟩ := Prod.mk.inj er
            subst e1
            subst e2
            exact V_iret hQ rfl dX8_rests_81
          refine V_if_eq 80 76 dX8_rests_73 (by decide) rfl (fun c23 => ?_) (fun c23 => ?_)
          · refine V_iconst 1 81 dX8_rests_80 rfl kiconst_1 ?_
            refine V_ls [(4, .int v15), (3, .int (((22 : Int32) + ((5 : Int32) * a0)) + 4)), (0, .ref t), (1, .int a0), (2, .int a1)] [0, 1, 2, 3, 4] rfl ?_
            simp only [if_pos c23] at kj22
            exact kj22
          · refine V_iconst 0 77 dX8_rests_76 rfl kiconst_0 ?_
            refine V_goto 81 dX8_rests_77 (by decide) ?_
            refine V_ls [(4, .int v15), (3, .int (((22 : Int32) + ((5 : Int32) * a0)) + 4)), (0, .ref t), (1, .int a0), (2, .int a1)] [0, 1, 2, 3, 4] rfl ?_
            simp only [if_neg c23] at kj22
            exact kj22
        · rw [if_neg c9] at hf
          refine V_aload_n 0 31 rfl dX8_rests_30 rfl rfl ?_
          refine V_ldc_w (-1000003) 34 dX8_rests_31 rfl wd_kk_X8_275 ?_
          obtain ⟨p25, h24, hf⟩ := ob hf
          refine V_callV (rest := []) (T := TX8) (n := 27) (ci := 7) 0 0 37 [.int p25.1] (c_X8_finding l G (d + 1) _ _ _ _ _ h24) (by omega) ok_X8_finding okv_X8_finding (gd_X8_finding h24) rfl wd_ml_X8_77 rfl rfl (Nat.le_of_ble_eq_true rfl) rfl rfl (Or.inl ⟨rfl, rfl⟩) dX8_rests_34 rfl rfl ?_
          have er := Option.some.inj hf
          obtain ⟨e1, e2⟩ := Prod.mk.inj er
          subst e1
          subst e2
          exact V_iret hQ rfl dX8_rests_37
      · rw [if_pos c8] at hf
        refine V_aload_n 0 19 rfl dX8_rests_18 rfl rfl ?_
        refine V_ldc (-1000001) 21 dX8_rests_19 rfl wd_kk_X8_76 ?_
        obtain ⟨p27, h26, hf⟩ := ob hf
        refine V_callV (rest := []) (T := TX8) (n := 27) (ci := 7) 0 0 24 [.int p27.1] (c_X8_finding l G (d + 1) _ _ _ _ _ h26) (by omega) ok_X8_finding okv_X8_finding (gd_X8_finding h26) rfl wd_ml_X8_77 rfl rfl (Nat.le_of_ble_eq_true rfl) rfl rfl (Or.inl ⟨rfl, rfl⟩) dX8_rests_21 rfl rfl ?_
        have er := Option.some.inj hf
        obtain ⟨e1, e2⟩ := Prod.mk.inj er
        subst e1
        subst e2
        exact V_iret hQ rfl dX8_rests_24
  · rw [if_neg hg] at hf
    cases hf
abbrev mi_X8_needs : MI := (yX8_needs, cX8_needs, 3, some .int)
theorem ok_X8_needs : OkN mi_X8_needs 2 := ⟨wd_cd_X8_needs, wd_in_X8, ⟨by decide +kernel, by decide +kernel, by decide +kernel⟩, by decide⟩
theorem okv_X8_needs : Cond.instanceMethod (mi_X8_needs).1 ∈ tb ∧ Cond.selects (mi_X8_needs).1.cls (mi_X8_needs).1 (mi_X8_needs).1 ∈ tb := ⟨wd_im_X8_needs, wd_se_X8_needs⟩
def f_X8_needs (σ : St) (t : Nat) (a0 : Int32) (a1 : Int32) : Option (Int32 × St) := if isO σ 7 t = true then ((f_X8_is σ t a0 0).bind fun v2 => if v2 = 0 then ((f_X8_finding σ t (-1000001)).bind fun p5 => some (p5.1, p5.2)) else ((f_X8_within σ a1 0 11).bind fun v7 => if v7 = 0 then ((f_X8_finding σ t (-1000001)).bind fun p10 => some (p10.1, p10.2)) else ((f_X8_become σ t (((22 : Int32) + ((5 : Int32) * a0)) + 3) a1).bind fun p12 => some (p12.1, p12.2)))) else none
theorem gd_X8_needs {σ : St} {t : Nat} {a0 : Int32} {a1 : Int32} {r : Int32 × St} (h : f_X8_needs σ t a0 a1 = some r) : isO σ 7 t = true := by
  unfold f_X8_needs at h
  by_cases hg : isO σ 7 t = true
  · exact hg
  · rw [if_neg hg] at h
    cases h
set_option maxRecDepth 100000 in
set_option maxHeartbeats 4000000 in
theorem c_X8_needs (l : Launch) (G : Gd) (d : Nat) (σ : St) (t : Nat) (a0 : Int32) (a1 : Int32) (r0 : Int32) (σ' : St) (hf : f_X8_needs σ t a0 a1 = some (r0, σ')) : MetV l G (d + 3) mi_X8_needs [.ref t, .int a0, .int a1] σ (some (.int r0)) σ' 0 0 := by
  unfold f_X8_needs at hf
  refine MetV.of [(0, .ref t), (1, .int a0), (2, .int a1)] (by decide +kernel) rfl (Nat.le_of_ble_eq_true rfl) ?_
  intro X hQ
  by_cases hg : isO σ 7 t = true
  · rw [if_pos hg] at hf
    refine V_aload_n 0 1 rfl dX8_needs_0 rfl rfl ?_
    refine V_iload_n 1 2 rfl dX8_needs_1 rfl rfl ?_
    refine V_iconst 0 3 dX8_needs_2 rfl kiconst_0 ?_
    obtain ⟨v2, h1, hf⟩ := ob hf
    refine V_callV (rest := []) (T := TX8) (n := 27) (ci := 7) 0 0 6 [.int v2] (c_X8_is l G (d + 0) _ _ _ _ _ h1) (by omega) ok_X8_is okv_X8_is (gd_X8_is h1) rfl wd_ml_X8_83 rfl rfl (Nat.le_of_ble_eq_true rfl) rfl rfl (Or.inl ⟨rfl, rfl⟩) dX8_needs_3 rfl rfl ?_
    refine V_if_eq 35 9 dX8_needs_6 (by decide) rfl (fun c3 => ?_) (fun c3 => ?_)
    · rw [if_pos c3] at hf
      refine V_aload_n 0 36 rfl dX8_needs_35 rfl rfl ?_
      refine V_ldc (-1000001) 38 dX8_needs_36 rfl wd_kk_X8_76 ?_
      obtain ⟨p5, h4, hf⟩ := ob hf
      refine V_callV (rest := []) (T := TX8) (n := 27) (ci := 7) 0 0 41 [.int p5.1] (c_X8_finding l G (d + 1) _ _ _ _ _ h4) (by omega) ok_X8_finding okv_X8_finding (gd_X8_finding h4) rfl wd_ml_X8_77 rfl rfl (Nat.le_of_ble_eq_true rfl) rfl rfl (Or.inl ⟨rfl, rfl⟩) dX8_needs_38 rfl rfl ?_
      have er := Option.some.inj hf
      obtain ⟨e1, e2⟩ := Prod.mk.inj er
      subst e1
      subst e2
      exact V_iret hQ rfl dX8_needs_41
    · rw [if_neg c3] at hf
      refine V_iload_n 2 10 rfl dX8_needs_9 rfl rfl ?_
      refine V_iconst 0 11 dX8_needs_10 rfl kiconst_0 ?_
      refine V_bipush 11 13 dX8_needs_11 rfl kbipush_11 ?_
      obtain ⟨v7, h6, hf⟩ := ob hf
      refine V_callS (rest := []) 0 0 16 [.int v7] (c_X8_within l G (d + 1) _ _ _ _ _ h6) (by omega) ok_X8_within oks_X8_within wd_ml_X8_68 rfl rfl (Nat.le_of_ble_eq_true rfl) rfl rfl (Or.inl ⟨rfl, rfl⟩) dX8_needs_13 rfl rfl ?_
      refine V_if_eq 35 19 dX8_needs_16 (by decide) rfl (fun c8 => ?_) (fun c8 => ?_)
      · rw [if_pos c8] at hf
        refine V_aload_n 0 36 rfl dX8_needs_35 rfl rfl ?_
        refine V_ldc (-1000001) 38 dX8_needs_36 rfl wd_kk_X8_76 ?_
        obtain ⟨p10, h9, hf⟩ := ob hf
        refine V_callV (rest := []) (T := TX8) (n := 27) (ci := 7) 0 0 41 [.int p10.1] (c_X8_finding l G (d + 1) _ _ _ _ _ h9) (by omega) ok_X8_finding okv_X8_finding (gd_X8_finding h9) rfl wd_ml_X8_77 rfl rfl (Nat.le_of_ble_eq_true rfl) rfl rfl (Or.inl ⟨rfl, rfl⟩) dX8_needs_38 rfl rfl ?_
        have er := Option.some.inj hf
        obtain ⟨e1, e2⟩ := Prod.mk.inj er
        subst e1
        subst e2
        exact V_iret hQ rfl dX8_needs_41
      · rw [if_neg c8] at hf
        refine V_aload_n 0 20 rfl dX8_needs_19 rfl rfl ?_
        refine V_bipush 22 22 dX8_needs_20 rfl kbipush_22 ?_
        refine V_iconst 5 23 dX8_needs_22 rfl kiconst_5 ?_
        refine V_iload_n 1 24 rfl dX8_needs_23 rfl rfl ?_
        refine V_imul 25 dX8_needs_24 rfl ?_
        refine V_iadd 26 dX8_needs_25 rfl ?_
        refine V_iconst 3 27 dX8_needs_26 rfl kiconst_3 ?_
        refine V_iadd 28 dX8_needs_27 rfl ?_
        refine V_iload_n 2 29 rfl dX8_needs_28 rfl rfl ?_
        obtain ⟨p12, h11, hf⟩ := ob hf
        refine V_callV (rest := []) (T := TX8) (n := 27) (ci := 7) 0 0 32 [.int p12.1] (c_X8_become l G (d + 1) _ _ _ _ _ _ h11) (by omega) ok_X8_become okv_X8_become (gd_X8_become h11) rfl wd_ml_X8_72 rfl rfl (Nat.le_of_ble_eq_true rfl) rfl rfl (Or.inl ⟨rfl, rfl⟩) dX8_needs_29 rfl rfl ?_
        refine V_goto 41 dX8_needs_32 (by decide) ?_
        have er := Option.some.inj hf
        obtain ⟨e1, e2⟩ := Prod.mk.inj er
        subst e1
        subst e2
        exact V_iret hQ rfl dX8_needs_41
  · rw [if_neg hg] at hf
    cases hf
abbrev mi_X8_fall : MI := (yX8_fall, cX8_fall, 5, some .int)
theorem ok_X8_fall : OkN mi_X8_fall 1 := ⟨wd_cd_X8_fall, wd_in_X8, ⟨by decide +kernel, by decide +kernel, by decide +kernel⟩, by decide⟩
theorem okv_X8_fall : Cond.instanceMethod (mi_X8_fall).1 ∈ tb ∧ Cond.selects (mi_X8_fall).1.cls (mi_X8_fall).1 (mi_X8_fall).1 ∈ tb := ⟨wd_im_X8_fall, wd_se_X8_fall⟩
def f_X8_fall_L29 (σ : St) (t : Nat) (x1 : Int32) : Nat → Int32 → Int32 → Option (Int32 × Int32)
  | 0, _, _ => none
  | n + 1, x3, x2 => (gQ σ 7 t 0).bind fun q9 => (aI σ 0 q9 0).bind fun v11 => if v11 ≤ x3 then (some (x3, x2)) else ((f_X8_has σ x1 x3).bind fun v14 => if v14 = 0 then ((f_X8_paper σ t x3 4).bind fun v17 => (f_X8_bits σ (v17 &&& (x2 ^^^ (-1)))).bind fun v19 => (f_X8_paper σ t x3 3).bind fun v21 => f_X8_fall_L29 σ t x1 n (x3 + 1) (x2 ||| (if (if v19 < v21 then 0 else 1 : Int32) = 0 then (1 : Int32) <<< (x3 &&& 31) else 0 : Int32))) else (f_X8_fall_L29 σ t x1 n (x3 + 1) (x2 ||| ((1 : Int32) <<< (x3 &&& 31)))))
def f_X8_fall (σ : St) (t : Nat) (a0 : Int32) : Option (Int32 × St) := if isO σ 7 t = true then ((gQ σ 7 t 0).bind fun q2 => (aI σ 0 q2 0).bind fun v4 => (f_X8_within σ a0 0 (((1 : Int32) <<< (v4 &&& 31)) - 1)).bind fun v6 => if v6 = 0 then ((f_X8_finding σ t (-1000001)).bind fun p29 => some (p29.1, p29.2)) else ((f_X8_fall_L29 σ t a0 3000 0 0).bind fun p26 => some (p26.2, σ))) else none
theorem gd_X8_fall {σ : St} {t : Nat} {a0 : Int32} {r : Int32 × St} (h : f_X8_fall σ t a0 = some r) : isO σ 7 t = true := by
  unfold f_X8_fall at h
  by_cases hg : isO σ 7 t = true
  · exact hg
  · rw [if_neg hg] at h
    cases h
set_option maxRecDepth 100000 in
set_option maxHeartbeats 4000000 in
theorem c_X8_fall (l : Launch) (G : Gd) (d : Nat) (σ : St) (t : Nat) (a0 : Int32) (r0 : Int32) (σ' : St) (hf : f_X8_fall σ t a0 = some (r0, σ')) : MetV l G (d + 2) mi_X8_fall [.ref t, .int a0] σ (some (.int r0)) σ' 0 0 := by
  unfold f_X8_fall at hf
  refine MetV.of [(0, .ref t), (1, .int a0)] (by decide +kernel) rfl (Nat.le_of_ble_eq_true rfl) ?_
  intro X hQ
  have L29 : ∀ (σ : St) (x1 : Int32) (n : Nat) (x3 : Int32) (x2 : Int32) (p : Int32 × Int32), f_X8_fall_L29 σ t x1 n x3 x2 = some p → V mi_X8_fall l G (d + 2) 0 0 X 0 0 97 [(3, .int p.1), (2, .int p.2), (0, .ref t), (1, .int x1)] [] σ → V mi_X8_fall l G (d + 2) 0 0 X 0 0 29 [(3, .int x3), (2, .int x2), (0, .ref t), (1, .int x1)] [] σ := by
    intro σ x1 n
    induction n with
    | zero =>
      intro x3 x2 p hf
      exact absurd (show (none : Option _) = some p from hf) (by simp)
    | succ n ih =>
      intro x3 x2 p hf hk
      rw [f_X8_fall_L29] at hf
      refine V_iload_n 0 30 rfl dX8_fall_29 rfl rfl ?_
      refine V_aload_n 2 31 rfl dX8_fall_30 rfl rfl ?_
      obtain ⟨q9, h8, hf⟩ := ob hf
      refine V_getQ (n := 27) (ty := tyX8) 34 h8 cf_7 rfl wd_fl_X8_9 dX8_fall_31 rfl ?_
      refine V_iconst 0 35 dX8_fall_34 rfl kiconst_0 ?_
      obtain ⟨v11, h10, hf⟩ := ob hf
      refine V_iald 36 h10 dX8_fall_35 rfl ?_
      refine V_icmp_ge 97 39 dX8_fall_36 (by decide) rfl (fun c12 => ?_) (fun c12 => ?_)
      · rw [if_pos c12] at hf
        have ep := Option.some.inj hf
        subst ep
        refine V_ls [(3, .int x3), (2, .int x2), (0, .ref t), (1, .int x1)] [0, 1, 2, 3] rfl ?_
        exact hk
      · rw [if_neg c12] at hf
        refine V_iload_n 3 40 rfl dX8_fall_39 rfl rfl ?_
        refine V_iload_n 0 41 rfl dX8_fall_40 rfl rfl ?_
        obtain ⟨v14, h13, hf⟩ := ob hf
        refine V_callS (rest := []) 0 0 44 [.int v14] (c_X8_has l G (d + 0) _ _ _ _ h13) (by omega) ok_X8_has oks_X8_has wd_ml_X8_137 rfl rfl (Nat.le_of_ble_eq_true rfl) rfl rfl (Or.inl ⟨rfl, rfl⟩) dX8_fall_41 rfl rfl ?_
        refine V_if_ne 73 47 dX8_fall_44 (by decide) rfl (fun c15 => ?_) (fun c15 => ?_)
        · rw [if_neg c15] at hf
          refine V_iconst 0 74 dX8_fall_73 rfl kiconst_0 ?_
          refine V_istore [(4, .int 0), (3, .int x3), (2, .int x2), (0, .ref t), (1, .int x1)] 76 dX8_fall_74 (by decide) rfl rfl ?_
          refine V_iload_n 2 77 rfl dX8_fall_76 rfl rfl ?_
          refine V_iload 0 79 rfl dX8_fall_77 rfl ?_
          refine V_if_eq 86 82 dX8_fall_79 (by decide) rfl (fun _ => ?_) (fun hc => absurd hc (by decide))
          refine V_iconst 1 87 dX8_fall_86 rfl kiconst_1 ?_
          refine V_iload_n 1 88 rfl dX8_fall_87 rfl rfl ?_
          refine V_ishl 89 dX8_fall_88 rfl ?_
          refine V_ior 90 dX8_fall_89 rfl ?_
          refine V_istore_n [(2, .int (x2 ||| ((1 : Int32) <<< (x3 &&& 31)))), (4, .int 0), (3, .int x3), (0, .ref t), (1, .int x1)] 91 dX8_fall_90 rfl (by decide) rfl rfl ?_
          refine V_iinc (x3 + 1) 2 [(3, .int (x3 + 1)), (2, .int (x2 ||| ((1 : Int32) <<< (x3 &&& 31)))), (4, .int 0), (0, .ref t), (1, .int x1)] 94 dX8_fall_91 rfl (by rw [kiconst_1]) (by decide) rfl rfl ?_
          refine V_goto 29 dX8_fall_94 (by decide) ?_
          refine V_ls [(3, .int (x3 + 1)), (2, .int (x2 ||| ((1 : Int32) <<< (x3 &&& 31)))), (0, .ref t), (1, .int x1)] [0, 1, 3, 4] rfl ?_
          exact ih _ _ _ hf hk
        · rw [if_pos c15] at hf
          refine V_aload_n 2 48 rfl dX8_fall_47 rfl rfl ?_
          refine V_iload_n 0 49 rfl dX8_fall_48 rfl rfl ?_
          refine V_iconst 4 50 dX8_fall_49 rfl kiconst_4 ?_
          obtain ⟨v17, h16, hf⟩ := ob hf
          refine V_callV (rest := []) (T := TX8) (n := 27) (ci := 7) 0 0 53 [.int v17] (c_X8_paper l G (d + 0) _ _ _ _ _ h16) (by omega) ok_X8_paper okv_X8_paper (gd_X8_paper h16) rfl wd_ml_X8_90 rfl rfl (Nat.le_of_ble_eq_true rfl) rfl rfl (Or.inl ⟨rfl, rfl⟩) dX8_fall_50 rfl rfl ?_
          refine V_iload_n 1 54 rfl dX8_fall_53 rfl rfl ?_
          refine V_iconst (-1) 55 dX8_fall_54 rfl kiconst_m1 ?_
          refine V_ixor 56 dX8_fall_55 rfl ?_
          refine V_iand 57 dX8_fall_56 rfl ?_
          obtain ⟨v19, h18, hf⟩ := ob hf
          refine V_callS (rest := []) 0 0 60 [.int v19] (c_X8_bits l G (d + 0) _ _ _ h18) (by omega) ok_X8_bits oks_X8_bits wd_ml_X8_269 rfl rfl (Nat.le_of_ble_eq_true rfl) rfl rfl (Or.inl ⟨rfl, rfl⟩) dX8_fall_57 rfl rfl ?_
          refine V_aload_n 2 61 rfl dX8_fall_60 rfl rfl ?_
          refine V_iload_n 0 62 rfl dX8_fall_61 rfl rfl ?_
          refine V_iconst 3 63 dX8_fall_62 rfl kiconst_3 ?_
          obtain ⟨v21, h20, hf⟩ := ob hf
          refine V_callV (rest := [.int v19]) (T := TX8) (n := 27) (ci := 7) 0 0 66 [.int v21, .int v19] (c_X8_paper l G (d + 0) _ _ _ _ _ h20) (by omega) ok_X8_paper okv_X8_paper (gd_X8_paper h20) rfl wd_ml_X8_90 rfl rfl (Nat.le_of_ble_eq_true rfl) rfl rfl (Or.inl ⟨rfl, rfl⟩) dX8_fall_63 rfl rfl ?_
          have kj24 : V mi_X8_fall l G (d + 2) 0 0 X 0 0 74 [(3, .int x3), (2, .int x2), (0, .ref t), (1, .int x1)] [.int (if v19 < v21 then 0 else 1 : Int32)] σ := by
            refine V_istore [(4, .int (if v19 < v21 then 0 else 1 : Int32)), (3, .int x3), (2, .int x2), (0, .ref t), (1, .int x1)] 76 dX8_fall_74 (by decide) rfl rfl ?_
            refine V_iload_n 2 77 rfl dX8_fall_76 rfl rfl ?_
            refine V_iload 0 79 rfl dX8_fall_77 rfl ?_
            have kj22 : V mi_X8_fall l G (d + 2) 0 0 X 0 0 89 [(4, .int (if v19 < v21 then 0 else 1 : Int32)), (3, .int x3), (2, .int x2), (0, .ref t), (1, .int x1)] [.int (if (if v19 < v21 then 0 else 1 : Int32) = 0 then (1 : Int32) <<< (x3 &&& 31) else 0 : Int32), .int x2] σ := by
              refine V_ior 90 dX8_fall_89 rfl ?_
              refine V_istore_n [(2, .int (x2 ||| (if (if v19 < v21 then 0 else 1 : Int32) = 0 then (1 : Int32) <<< (x3 &&& 31) else 0 : Int32))), (4, .int (if v19 < v21 then 0 else 1 : Int32)), (3, .int x3), (0, .ref t), (1, .int x1)] 91 dX8_fall_90 rfl (by decide) rfl rfl ?_
              refine V_iinc (x3 + 1) 2 [(3, .int (x3 + 1)), (2, .int (x2 ||| (if (if v19 < v21 then 0 else 1 : Int32) = 0 then (1 : Int32) <<< (x3 &&& 31) else 0 : Int32))), (4, .int (if v19 < v21 then 0 else 1 : Int32)), (0, .ref t), (1, .int x1)] 94 dX8_fall_91 rfl (by rw [kiconst_1]) (by decide) rfl rfl ?_
              refine V_goto 29 dX8_fall_94 (by decide) ?_
              refine V_ls [(3, .int (x3 + 1)), (2, .int (x2 ||| (if (if v19 < v21 then 0 else 1 : Int32) = 0 then (1 : Int32) <<< (x3 &&& 31) else 0 : Int32))), (0, .ref t), (1, .int x1)] [0, 1, 3, 4] rfl ?_
              exact ih _ _ _ hf hk
            refine V_if_eq 86 82 dX8_fall_79 (by decide) rfl (fun c23 => ?_) (fun c23 => ?_)
            · refine V_iconst 1 87 dX8_fall_86 rfl kiconst_1 ?_
              refine V_iload_n 1 88 rfl dX8_fall_87 rfl rfl ?_
              refine V_ishl 89 dX8_fall_88 rfl ?_
              refine V_ls [(4, .int (if v19 < v21 then 0 else 1 : Int32)), (3, .int x3), (2, .int x2), (0, .ref t), (1, .int x1)] [0, 1, 2, 3, 4] rfl ?_
              simp only [if_pos c23] at kj22
              exact kj22
            · refine V_iconst 0 83 dX8_fall_82 rfl kiconst_0 ?_
              refine V_goto 89 dX8_fall_83 (by decide) ?_
              refine V_ls [(4, .int (if v19 < v21 then 0 else 1 : Int32)), (3, .int x3), (2, .int x2), (0, .ref t), (1, .int x1)] [0, 1, 2, 3, 4] rfl ?_
              simp only [if_neg c23] at kj22
              exact kj22
          refine V_icmp_lt 73 69 dX8_fall_66 (by decide) rfl (fun c25 => ?_) (fun c25 => ?_)
          · refine V_iconst 0 74 dX8_fall_73 rfl kiconst_0 ?_
            refine V_ls [(3, .int x3), (2, .int x2), (0, .ref t), (1, .int x1)] [0, 1, 2, 3] rfl ?_
            simp only [if_pos c25] at kj24
            exact kj24
          · refine V_iconst 1 70 dX8_fall_69 rfl kiconst_1 ?_
            refine V_goto 74 dX8_fall_70 (by decide) ?_
            refine V_ls [(3, .int x3), (2, .int x2), (0, .ref t), (1, .int x1)] [0, 1, 2, 3] rfl ?_
            simp only [if_neg c25] at kj24
            exact kj24
  by_cases hg : isO σ 7 t = true
  · rw [if_pos hg] at hf
    refine V_iload_n 1 1 rfl dX8_fall_0 rfl rfl ?_
    refine V_iconst 0 2 dX8_fall_1 rfl kiconst_0 ?_
    refine V_iconst 1 3 dX8_fall_2 rfl kiconst_1 ?_
    refine V_aload_n 0 4 rfl dX8_fall_3 rfl rfl ?_
    obtain ⟨q2, h1, hf⟩ := ob hf
    refine V_getQ (n := 27) (ty := tyX8) 7 h1 cf_7 rfl wd_fl_X8_9 dX8_fall_4 rfl ?_
    refine V_iconst 0 8 dX8_fall_7 rfl kiconst_0 ?_
    obtain ⟨v4, h3, hf⟩ := ob hf
    refine V_iald 9 h3 dX8_fall_8 rfl ?_
    refine V_ishl 10 dX8_fall_9 rfl ?_
    refine V_iconst 1 11 dX8_fall_10 rfl kiconst_1 ?_
    refine V_isub 12 dX8_fall_11 rfl ?_
    obtain ⟨v6, h5, hf⟩ := ob hf
    refine V_callS (rest := []) 0 0 15 [.int v6] (c_X8_within l G (d + 0) _ _ _ _ _ h5) (by omega) ok_X8_within oks_X8_within wd_ml_X8_68 rfl rfl (Nat.le_of_ble_eq_true rfl) rfl rfl (Or.inl ⟨rfl, rfl⟩) dX8_fall_12 rfl rfl ?_
    refine V_if_ne 25 18 dX8_fall_15 (by decide) rfl (fun c7 => ?_) (fun c7 => ?_)
    · rw [if_neg c7] at hf
      refine V_iconst 0 26 dX8_fall_25 rfl kiconst_0 ?_
      refine V_istore_n [(2, .int 0), (0, .ref t), (1, .int a0)] 27 dX8_fall_26 rfl (by decide) rfl rfl ?_
      refine V_iconst 0 28 dX8_fall_27 rfl kiconst_0 ?_
      refine V_istore_n [(3, .int 0), (2, .int 0), (0, .ref t), (1, .int a0)] 29 dX8_fall_28 rfl (by decide) rfl rfl ?_
      obtain ⟨p26, h27, hf⟩ := ob hf
      refine V_ls [(3, .int 0), (2, .int 0), (0, .ref t), (1, .int a0)] [0, 1, 2, 3] rfl ?_
      refine L29 σ a0 3000 0 0 p26 h27 ?_
      refine V_iload_n 1 98 rfl dX8_fall_97 rfl rfl ?_
      have er := Option.some.inj hf
      obtain ⟨e1, e2⟩ := Prod.mk.inj er
      subst e1
      subst e2
      exact V_iret hQ rfl dX8_fall_98
    · rw [if_pos c7] at hf
      refine V_aload_n 0 19 rfl dX8_fall_18 rfl rfl ?_
      refine V_ldc (-1000001) 21 dX8_fall_19 rfl wd_kk_X8_76 ?_
      obtain ⟨p29, h28, hf⟩ := ob hf
      refine V_callV (rest := []) (T := TX8) (n := 27) (ci := 7) 0 0 24 [.int p29.1] (c_X8_finding l G (d + 0) _ _ _ _ _ h28) (by omega) ok_X8_finding okv_X8_finding (gd_X8_finding h28) rfl wd_ml_X8_77 rfl rfl (Nat.le_of_ble_eq_true rfl) rfl rfl (Or.inl ⟨rfl, rfl⟩) dX8_fall_21 rfl rfl ?_
      have er := Option.some.inj hf
      obtain ⟨e1, e2⟩ := Prod.mk.inj er
      subst e1
      subst e2
      exact V_iret hQ rfl dX8_fall_24
  · rw [if_neg hg] at hf
    cases hf
abbrev mi_X8_isHouse : MI := (yX8_isHouse, cX8_isHouse, 1, some .boolean)
theorem ok_X8_isHouse : OkN mi_X8_isHouse 1 := ⟨wd_cd_X8_isHouse, wd_in_X8, ⟨by decide +kernel, by decide +kernel, by decide +kernel⟩, by decide⟩
theorem oks_X8_isHouse : Cond.static (mi_X8_isHouse).1 ∈ tb := wd_sm_X8_isHouse
def f_X8_isHouse (σ : St) (a0 : Int32) : Option Int32 := (f_X8_within σ a0 0 7).bind fun v2 => (zr v2).bind fun z3 => some v2
set_option maxRecDepth 100000 in
set_option maxHeartbeats 4000000 in
theorem c_X8_isHouse (l : Launch) (G : Gd) (d : Nat) (σ : St) (a0 : Int32) (r0 : Int32) (hf : f_X8_isHouse σ a0 = some r0) : MetV l G (d + 2) mi_X8_isHouse [.int a0] σ (some (.int r0)) σ 0 0 := by
  unfold f_X8_isHouse at hf
  refine MetV.of [(0, .int a0)] (by decide +kernel) rfl (Nat.le_of_ble_eq_true rfl) ?_
  intro X hQ
  refine V_iload_n 0 1 rfl dX8_isHouse_0 rfl rfl ?_
  refine V_iconst 0 2 dX8_isHouse_1 rfl kiconst_0 ?_
  refine V_bipush 7 4 dX8_isHouse_2 rfl kbipush_7 ?_
  obtain ⟨v2, h1, hf⟩ := ob hf
  refine V_callS (rest := []) 0 0 7 [.int v2] (c_X8_within l G (d + 0) _ _ _ _ _ h1) (by omega) ok_X8_within oks_X8_within wd_ml_X8_68 rfl rfl (Nat.le_of_ble_eq_true rfl) rfl rfl (Or.inl ⟨rfl, rfl⟩) dX8_isHouse_4 rfl rfl ?_
  obtain ⟨z3, h4, hf⟩ := ob hf
  have er := Option.some.inj hf
  subst er
  exact V_zret (zr_ok h4) hQ rfl dX8_isHouse_7
abbrev mi_X8_link : MI := (yX8_link, cX8_link, 5, some .int)
theorem ok_X8_link : OkN mi_X8_link 3 := ⟨wd_cd_X8_link, wd_in_X8, ⟨by decide +kernel, by decide +kernel, by decide +kernel⟩, by decide⟩
theorem okv_X8_link : Cond.instanceMethod (mi_X8_link).1 ∈ tb ∧ Cond.selects (mi_X8_link).1.cls (mi_X8_link).1 (mi_X8_link).1 ∈ tb := ⟨wd_im_X8_link, wd_se_X8_link⟩
def f_X8_link (σ : St) (t : Nat) (a0 : Int32) (a1 : Int32) (a2 : Int32) : Option (Int32 × St) := if isO σ 7 t = true then ((f_X8_isHouse σ a0).bind fun v2 => if v2 = 0 then ((f_X8_finding σ t (-1000001)).bind fun p5 => some (p5.1, p5.2)) else ((f_X8_isHouse σ a1).bind fun v7 => if v7 = 0 then ((f_X8_finding σ t (-1000001)).bind fun p10 => some (p10.1, p10.2)) else (if a0 = a1 then ((f_X8_finding σ t (-1000001)).bind fun p13 => some (p13.1, p13.2)) else ((f_X8_within σ a2 1 60).bind fun v15 => if v15 = 0 then ((f_X8_finding σ t (-1000001)).bind fun p47 => some (p47.1, p47.2)) else ((gQ σ 7 t 0).bind fun q18 => (aI σ 0 q18 2).bind fun v20 => if v20 = 20 then ((f_X8_finding σ t (-1000004)).bind fun p45 => some (p45.1, p45.2)) else ((gQ σ 7 t 0).bind fun q23 => (sI σ q23 ((778 : Int32) + ((3 : Int32) * v20)) a0).bind fun s25 => (gQ s25 7 t 0).bind fun q27 => (sI s25 q27 (((778 : Int32) + ((3 : Int32) * v20)) + 1) a1).bind fun s29 => (gQ s29 7 t 0).bind fun q31 => (sI s29 q31 (((778 : Int32) + ((3 : Int32) * v20)) + 2) a2).bind fun s33 => (gQ s33 7 t 0).bind fun q35 => (aI s33 0 q35 2).bind fun v37 => (sI s33 q35 2 (v37 + 1)).bind fun s39 => (gQ s39 7 t 0).bind fun q41 => (aI s39 0 q41 2).bind fun v43 => some (v43, s39))))))) else none
theorem gd_X8_link {σ : St} {t : Nat} {a0 : Int32} {a1 : Int32} {a2 : Int32} {r : Int32 × St} (h : f_X8_link σ t a0 a1 a2 = some r) : isO σ 7 t = true := by
  unfold f_X8_link at h
  by_cases hg : isO σ 7 t = true
  · exact hg
  · rw [if_neg hg] at h
    cases h
set_option maxRecDepth 100000 in
set_option maxHeartbeats 4000000 in
theorem c_X8_link (l : Launch) (G : Gd) (d : Nat) (σ : St) (t : Nat) (a0 : Int32) (a1 : Int32) (a2 : Int32) (r0 : Int32) (σ' : St) (hf : f_X8_link σ t a0 a1 a2 = some (r0, σ')) : MetV l G (d + 3) mi_X8_link [.ref t, .int a0, .int a1, .int a2] σ (some (.int r0)) σ' 0 0 := by
  unfold f_X8_link at hf
  refine MetV.of [(0, .ref t), (1, .int a0), (2, .int a1), (3, .int a2)] (by decide +kernel) rfl (Nat.le_of_ble_eq_true rfl) ?_
  intro X hQ
  by_cases hg : isO σ 7 t = true
  · rw [if_pos hg] at hf
    refine V_iload_n 1 1 rfl dX8_link_0 rfl rfl ?_
    obtain ⟨v2, h1, hf⟩ := ob hf
    refine V_callS (rest := []) 0 0 4 [.int v2] (c_X8_isHouse l G (d + 0) _ _ _ h1) (by omega) ok_X8_isHouse oks_X8_isHouse wd_ml_X8_276 rfl rfl (Nat.le_of_ble_eq_true rfl) rfl rfl (Or.inl ⟨rfl, rfl⟩) dX8_link_1 rfl rfl ?_
    refine V_if_eq 29 7 dX8_link_4 (by decide) rfl (fun c3 => ?_) (fun c3 => ?_)
    · rw [if_pos c3] at hf
      refine V_aload_n 0 30 rfl dX8_link_29 rfl rfl ?_
      refine V_ldc (-1000001) 32 dX8_link_30 rfl wd_kk_X8_76 ?_
      obtain ⟨p5, h4, hf⟩ := ob hf
      refine V_callV (rest := []) (T := TX8) (n := 27) (ci := 7) 0 0 35 [.int p5.1] (c_X8_finding l G (d + 1) _ _ _ _ _ h4) (by omega) ok_X8_finding okv_X8_finding (gd_X8_finding h4) rfl wd_ml_X8_77 rfl rfl (Nat.le_of_ble_eq_true rfl) rfl rfl (Or.inl ⟨rfl, rfl⟩) dX8_link_32 rfl rfl ?_
      have er := Option.some.inj hf
      obtain ⟨e1, e2⟩ := Prod.mk.inj er
      subst e1
      subst e2
      exact V_iret hQ rfl dX8_link_35
    · rw [if_neg c3] at hf
      refine V_iload_n 2 8 rfl dX8_link_7 rfl rfl ?_
      obtain ⟨v7, h6, hf⟩ := ob hf
      refine V_callS (rest := []) 0 0 11 [.int v7] (c_X8_isHouse l G (d + 0) _ _ _ h6) (by omega) ok_X8_isHouse oks_X8_isHouse wd_ml_X8_276 rfl rfl (Nat.le_of_ble_eq_true rfl) rfl rfl (Or.inl ⟨rfl, rfl⟩) dX8_link_8 rfl rfl ?_
      refine V_if_eq 29 14 dX8_link_11 (by decide) rfl (fun c8 => ?_) (fun c8 => ?_)
      · rw [if_pos c8] at hf
        refine V_aload_n 0 30 rfl dX8_link_29 rfl rfl ?_
        refine V_ldc (-1000001) 32 dX8_link_30 rfl wd_kk_X8_76 ?_
        obtain ⟨p10, h9, hf⟩ := ob hf
        refine V_callV (rest := []) (T := TX8) (n := 27) (ci := 7) 0 0 35 [.int p10.1] (c_X8_finding l G (d + 1) _ _ _ _ _ h9) (by omega) ok_X8_finding okv_X8_finding (gd_X8_finding h9) rfl wd_ml_X8_77 rfl rfl (Nat.le_of_ble_eq_true rfl) rfl rfl (Or.inl ⟨rfl, rfl⟩) dX8_link_32 rfl rfl ?_
        have er := Option.some.inj hf
        obtain ⟨e1, e2⟩ := Prod.mk.inj er
        subst e1
        subst e2
        exact V_iret hQ rfl dX8_link_35
      · rw [if_neg c8] at hf
        refine V_iload_n 1 15 rfl dX8_link_14 rfl rfl ?_
        refine V_iload_n 2 16 rfl dX8_link_15 rfl rfl ?_
        refine V_icmp_eq 29 19 dX8_link_16 (by decide) rfl (fun c11 => ?_) (fun c11 => ?_)
        · rw [if_pos c11] at hf
          refine V_aload_n 0 30 rfl dX8_link_29 rfl rfl ?_
          refine V_ldc (-1000001) 32 dX8_link_30 rfl wd_kk_X8_76 ?_
          obtain ⟨p13, h12, hf⟩ := ob hf
          refine V_callV (rest := []) (T := TX8) (n := 27) (ci := 7) 0 0 35 [.int p13.1] (c_X8_finding l G (d + 1) _ _ _ _ _ h12) (by omega) ok_X8_finding okv_X8_finding (gd_X8_finding h12) rfl wd_ml_X8_77 rfl rfl (Nat.le_of_ble_eq_true rfl) rfl rfl (Or.inl ⟨rfl, rfl⟩) dX8_link_32 rfl rfl ?_
          have er := Option.some.inj hf
          obtain ⟨e1, e2⟩ := Prod.mk.inj er
          subst e1
          subst e2
          exact V_iret hQ rfl dX8_link_35
        · rw [if_neg c11] at hf
          refine V_iload_n 3 20 rfl dX8_link_19 rfl rfl ?_
          refine V_iconst 1 21 dX8_link_20 rfl kiconst_1 ?_
          refine V_bipush 60 23 dX8_link_21 rfl kbipush_60 ?_
          obtain ⟨v15, h14, hf⟩ := ob hf
          refine V_callS (rest := []) 0 0 26 [.int v15] (c_X8_within l G (d + 1) _ _ _ _ _ h14) (by omega) ok_X8_within oks_X8_within wd_ml_X8_68 rfl rfl (Nat.le_of_ble_eq_true rfl) rfl rfl (Or.inl ⟨rfl, rfl⟩) dX8_link_23 rfl rfl ?_
          refine V_if_ne 36 29 dX8_link_26 (by decide) rfl (fun c16 => ?_) (fun c16 => ?_)
          · rw [if_neg c16] at hf
            refine V_aload_n 0 37 rfl dX8_link_36 rfl rfl ?_
            obtain ⟨q18, h17, hf⟩ := ob hf
            refine V_getQ (n := 27) (ty := tyX8) 40 h17 cf_7 rfl wd_fl_X8_9 dX8_link_37 rfl ?_
            refine V_iconst 2 41 dX8_link_40 rfl kiconst_2 ?_
            obtain ⟨v20, h19, hf⟩ := ob hf
            refine V_iald 42 h19 dX8_link_41 rfl ?_
            refine V_istore [(4, .int v20), (0, .ref t), (1, .int a0), (2, .int a1), (3, .int a2)] 44 dX8_link_42 (by decide) rfl rfl ?_
            refine V_iload 0 46 rfl dX8_link_44 rfl ?_
            refine V_bipush 20 48 dX8_link_46 rfl kbipush_20 ?_
            refine V_icmp_ne 58 51 dX8_link_48 (by decide) rfl (fun c21 => ?_) (fun c21 => ?_)
            · rw [if_neg c21] at hf
              refine V_aload_n 1 59 rfl dX8_link_58 rfl rfl ?_
              obtain ⟨q23, h22, hf⟩ := ob hf
              refine V_getQ (n := 27) (ty := tyX8) 62 h22 cf_7 rfl wd_fl_X8_9 dX8_link_59 rfl ?_
              refine V_sipush 778 65 dX8_link_62 rfl ksipush_778 ?_
              refine V_iconst 3 66 dX8_link_65 rfl kiconst_3 ?_
              refine V_iload 0 68 rfl dX8_link_66 rfl ?_
              refine V_imul 69 dX8_link_68 rfl ?_
              refine V_iadd 70 dX8_link_69 rfl ?_
              refine V_iload_n 2 71 rfl dX8_link_70 rfl rfl ?_
              obtain ⟨s25, h24, hf⟩ := ob hf
              refine V_iast 72 h24 dX8_link_71 rfl ?_
              refine V_aload_n 1 73 rfl dX8_link_72 rfl rfl ?_
              obtain ⟨q27, h26, hf⟩ := ob hf
              refine V_getQ (n := 27) (ty := tyX8) 76 h26 cf_7 rfl wd_fl_X8_9 dX8_link_73 rfl ?_
              refine V_sipush 778 79 dX8_link_76 rfl ksipush_778 ?_
              refine V_iconst 3 80 dX8_link_79 rfl kiconst_3 ?_
              refine V_iload 0 82 rfl dX8_link_80 rfl ?_
              refine V_imul 83 dX8_link_82 rfl ?_
              refine V_iadd 84 dX8_link_83 rfl ?_
              refine V_iconst 1 85 dX8_link_84 rfl kiconst_1 ?_
              refine V_iadd 86 dX8_link_85 rfl ?_
              refine V_iload_n 3 87 rfl dX8_link_86 rfl rfl ?_
              obtain ⟨s29, h28, hf⟩ := ob hf
              refine V_iast 88 h28 dX8_link_87 rfl ?_
              refine V_aload_n 1 89 rfl dX8_link_88 rfl rfl ?_
              obtain ⟨q31, h30, hf⟩ := ob hf
              refine V_getQ (n := 27) (ty := tyX8) 92 h30 cf_7 rfl wd_fl_X8_9 dX8_link_89 rfl ?_
              refine V_sipush 778 95 dX8_link_92 rfl ksipush_778 ?_
              refine V_iconst 3 96 dX8_link_95 rfl kiconst_3 ?_
              refine V_iload 0 98 rfl dX8_link_96 rfl ?_
              refine V_imul 99 dX8_link_98 rfl ?_
              refine V_iadd 100 dX8_link_99 rfl ?_
              refine V_iconst 2 101 dX8_link_100 rfl kiconst_2 ?_
              refine V_iadd 102 dX8_link_101 rfl ?_
              refine V_iload_n 4 103 rfl dX8_link_102 rfl rfl ?_
              obtain ⟨s33, h32, hf⟩ := ob hf
              refine V_iast 104 h32 dX8_link_103 rfl ?_
              refine V_aload_n 1 105 rfl dX8_link_104 rfl rfl ?_
              obtain ⟨q35, h34, hf⟩ := ob hf
              refine V_getQ (n := 27) (ty := tyX8) 108 h34 cf_7 rfl wd_fl_X8_9 dX8_link_105 rfl ?_
              refine V_iconst 2 109 dX8_link_108 rfl kiconst_2 ?_
              refine V_dup2 110 dX8_link_109 rfl rfl rfl ?_
              obtain ⟨v37, h36, hf⟩ := ob hf
              refine V_iald 111 h36 dX8_link_110 rfl ?_
              refine V_iconst 1 112 dX8_link_111 rfl kiconst_1 ?_
              refine V_iadd 113 dX8_link_112 rfl ?_
              obtain ⟨s39, h38, hf⟩ := ob hf
              refine V_iast 114 h38 dX8_link_113 rfl ?_
              refine V_aload_n 1 115 rfl dX8_link_114 rfl rfl ?_
              obtain ⟨q41, h40, hf⟩ := ob hf
              refine V_getQ (n := 27) (ty := tyX8) 118 h40 cf_7 rfl wd_fl_X8_9 dX8_link_115 rfl ?_
              refine V_iconst 2 119 dX8_link_118 rfl kiconst_2 ?_
              obtain ⟨v43, h42, hf⟩ := ob hf
              refine V_iald 120 h42 dX8_link_119 rfl ?_
              have er := Option.some.inj hf
              obtain ⟨e1, e2⟩ := Prod.mk.inj er
              subst e1
              subst e2
              exact V_iret hQ rfl dX8_link_120
            · rw [if_pos c21] at hf
              refine V_aload_n 1 52 rfl dX8_link_51 rfl rfl ?_
              refine V_ldc (-1000004) 54 dX8_link_52 rfl wd_kk_X8_82 ?_
              obtain ⟨p45, h44, hf⟩ := ob hf
              refine V_callV (rest := []) (T := TX8) (n := 27) (ci := 7) 0 0 57 [.int p45.1] (c_X8_finding l G (d + 1) _ _ _ _ _ h44) (by omega) ok_X8_finding okv_X8_finding (gd_X8_finding h44) rfl wd_ml_X8_77 rfl rfl (Nat.le_of_ble_eq_true rfl) rfl rfl (Or.inl ⟨rfl, rfl⟩) dX8_link_54 rfl rfl ?_
              have er := Option.some.inj hf
              obtain ⟨e1, e2⟩ := Prod.mk.inj er
              subst e1
              subst e2
              exact V_iret hQ rfl dX8_link_57
          · rw [if_pos c16] at hf
            refine V_aload_n 0 30 rfl dX8_link_29 rfl rfl ?_
            refine V_ldc (-1000001) 32 dX8_link_30 rfl wd_kk_X8_76 ?_
            obtain ⟨p47, h46, hf⟩ := ob hf
            refine V_callV (rest := []) (T := TX8) (n := 27) (ci := 7) 0 0 35 [.int p47.1] (c_X8_finding l G (d + 1) _ _ _ _ _ h46) (by omega) ok_X8_finding okv_X8_finding (gd_X8_finding h46) rfl wd_ml_X8_77 rfl rfl (Nat.le_of_ble_eq_true rfl) rfl rfl (Or.inl ⟨rfl, rfl⟩) dX8_link_32 rfl rfl ?_
            have er := Option.some.inj hf
            obtain ⟨e1, e2⟩ := Prod.mk.inj er
            subst e1
            subst e2
            exact V_iret hQ rfl dX8_link_35
  · rw [if_neg hg] at hf
    cases hf
abbrev mi_X8_tries : MI := (yX8_tries, cX8_tries, 6, some .int)
theorem ok_X8_tries : OkN mi_X8_tries 4 := ⟨wd_cd_X8_tries, wd_in_X8, ⟨by decide +kernel, by decide +kernel, by decide +kernel⟩, by decide⟩
theorem okv_X8_tries : Cond.instanceMethod (mi_X8_tries).1 ∈ tb ∧ Cond.selects (mi_X8_tries).1.cls (mi_X8_tries).1 (mi_X8_tries).1 ∈ tb := ⟨wd_im_X8_tries, wd_se_X8_tries⟩
def f_X8_tries (σ : St) (t : Nat) (a0 : Int32) (a1 : Int32) (a2 : Int32) (a3 : Int32) : Option (Int32 × St) := if isO σ 7 t = true then ((f_X8_isHouse σ a0).bind fun v2 => if v2 = 0 then ((f_X8_finding σ t (-1000001)).bind fun p5 => some (p5.1, p5.2)) else ((f_X8_is σ t a1 0).bind fun v7 => if v7 = 0 then ((f_X8_finding σ t (-1000001)).bind fun p10 => some (p10.1, p10.2)) else ((f_X8_within σ a2 0 999).bind fun v12 => if v12 = 0 then ((f_X8_finding σ t (-1000001)).bind fun p50 => some (p50.1, p50.2)) else ((gQ σ 7 t 0).bind fun q15 => (aI σ 0 q15 3).bind fun v17 => if v17 = 30 then ((f_X8_finding σ t (-1000004)).bind fun p48 => some (p48.1, p48.2)) else ((gQ σ 7 t 0).bind fun q20 => (sI σ q20 ((838 : Int32) + ((4 : Int32) * v17)) a0).bind fun s22 => (gQ s22 7 t 0).bind fun q24 => (sI s22 q24 (((838 : Int32) + ((4 : Int32) * v17)) + 1) a1).bind fun s26 => (gQ s26 7 t 0).bind fun q28 => (sI s26 q28 (((838 : Int32) + ((4 : Int32) * v17)) + 2) a2).bind fun s30 => (gQ s30 7 t 0).bind fun q32 => (sI s30 q32 (((838 : Int32) + ((4 : Int32) * v17)) + 3) (if a3 = 0 then 0 else 1 : Int32)).bind fun s34 => (gQ s34 7 t 0).bind fun q36 => (aI s34 0 q36 3).bind fun v38 => (sI s34 q36 3 (v38 + 1)).bind fun s40 => (gQ s40 7 t 0).bind fun q42 => (aI s40 0 q42 3).bind fun v44 => some (v44, s40)))))) else none
theorem gd_X8_tries {σ : St} {t : Nat} {a0 : Int32} {a1 : Int32} {a2 : Int32} {a3 : Int32} {r : Int32 × St} (h : f_X8_tries σ t a0 a1 a2 a3 = some r) : isO σ 7 t = true := by
  unfold f_X8_tries at h
  by_cases hg : isO σ 7 t = true
  · exact hg
  · rw [if_neg hg] at h
    cases h
set_option maxRecDepth 100000 in
set_option maxHeartbeats 4000000 in
theorem c_X8_tries (l : Launch) (G : Gd) (d : Nat) (σ : St) (t : Nat) (a0 : Int32) (a1 : Int32) (a2 : Int32) (a3 : Int32) (r0 : Int32) (σ' : St) (hf : f_X8_tries σ t a0 a1 a2 a3 = some (r0, σ')) : MetV l G (d + 3) mi_X8_tries [.ref t, .int a0, .int a1, .int a2, .int a3] σ (some (.int r0)) σ' 0 0 := by
  unfold f_X8_tries at hf
  refine MetV.of [(0, .ref t), (1, .int a0), (2, .int a1), (3, .int a2), (4, .int a3)] (by decide +kernel) rfl (Nat.le_of_ble_eq_true rfl) ?_
  intro X hQ
  by_cases hg : isO σ 7 t = true
  · rw [if_pos hg] at hf
    refine V_iload_n 1 1 rfl dX8_tries_0 rfl rfl ?_
    obtain ⟨v2, h1, hf⟩ := ob hf
    refine V_callS (rest := []) 0 0 4 [.int v2] (c_X8_isHouse l G (d + 0) _ _ _ h1) (by omega) ok_X8_isHouse oks_X8_isHouse wd_ml_X8_276 rfl rfl (Nat.le_of_ble_eq_true rfl) rfl rfl (Or.inl ⟨rfl, rfl⟩) dX8_tries_1 rfl rfl ?_
    refine V_if_eq 27 7 dX8_tries_4 (by decide) rfl (fun c3 => ?_) (fun c3 => ?_)
    · rw [if_pos c3] at hf
      refine V_aload_n 0 28 rfl dX8_tries_27 rfl rfl ?_
      refine V_ldc (-1000001) 30 dX8_tries_28 rfl wd_kk_X8_76 ?_
      obtain ⟨p5, h4, hf⟩ := ob hf
      refine V_callV (rest := []) (T := TX8) (n := 27) (ci := 7) 0 0 33 [.int p5.1] (c_X8_finding l G (d + 1) _ _ _ _ _ h4) (by omega) ok_X8_finding okv_X8_finding (gd_X8_finding h4) rfl wd_ml_X8_77 rfl rfl (Nat.le_of_ble_eq_true rfl) rfl rfl (Or.inl ⟨rfl, rfl⟩) dX8_tries_30 rfl rfl ?_
      have er := Option.some.inj hf
      obtain ⟨e1, e2⟩ := Prod.mk.inj er
      subst e1
      subst e2
      exact V_iret hQ rfl dX8_tries_33
    · rw [if_neg c3] at hf
      refine V_aload_n 0 8 rfl dX8_tries_7 rfl rfl ?_
      refine V_iload_n 2 9 rfl dX8_tries_8 rfl rfl ?_
      refine V_iconst 0 10 dX8_tries_9 rfl kiconst_0 ?_
      obtain ⟨v7, h6, hf⟩ := ob hf
      refine V_callV (rest := []) (T := TX8) (n := 27) (ci := 7) 0 0 13 [.int v7] (c_X8_is l G (d + 0) _ _ _ _ _ h6) (by omega) ok_X8_is okv_X8_is (gd_X8_is h6) rfl wd_ml_X8_83 rfl rfl (Nat.le_of_ble_eq_true rfl) rfl rfl (Or.inl ⟨rfl, rfl⟩) dX8_tries_10 rfl rfl ?_
      refine V_if_eq 27 16 dX8_tries_13 (by decide) rfl (fun c8 => ?_) (fun c8 => ?_)
      · rw [if_pos c8] at hf
        refine V_aload_n 0 28 rfl dX8_tries_27 rfl rfl ?_
        refine V_ldc (-1000001) 30 dX8_tries_28 rfl wd_kk_X8_76 ?_
        obtain ⟨p10, h9, hf⟩ := ob hf
        refine V_callV (rest := []) (T := TX8) (n := 27) (ci := 7) 0 0 33 [.int p10.1] (c_X8_finding l G (d + 1) _ _ _ _ _ h9) (by omega) ok_X8_finding okv_X8_finding (gd_X8_finding h9) rfl wd_ml_X8_77 rfl rfl (Nat.le_of_ble_eq_true rfl) rfl rfl (Or.inl ⟨rfl, rfl⟩) dX8_tries_30 rfl rfl ?_
        have er := Option.some.inj hf
        obtain ⟨e1, e2⟩ := Prod.mk.inj er
        subst e1
        subst e2
        exact V_iret hQ rfl dX8_tries_33
      · rw [if_neg c8] at hf
        refine V_iload_n 3 17 rfl dX8_tries_16 rfl rfl ?_
        refine V_iconst 0 18 dX8_tries_17 rfl kiconst_0 ?_
        refine V_sipush 999 21 dX8_tries_18 rfl ksipush_999 ?_
        obtain ⟨v12, h11, hf⟩ := ob hf
        refine V_callS (rest := []) 0 0 24 [.int v12] (c_X8_within l G (d + 1) _ _ _ _ _ h11) (by omega) ok_X8_within oks_X8_within wd_ml_X8_68 rfl rfl (Nat.le_of_ble_eq_true rfl) rfl rfl (Or.inl ⟨rfl, rfl⟩) dX8_tries_21 rfl rfl ?_
        refine V_if_ne 34 27 dX8_tries_24 (by decide) rfl (fun c13 => ?_) (fun c13 => ?_)
        · rw [if_neg c13] at hf
          refine V_aload_n 0 35 rfl dX8_tries_34 rfl rfl ?_
          obtain ⟨q15, h14, hf⟩ := ob hf
          refine V_getQ (n := 27) (ty := tyX8) 38 h14 cf_7 rfl wd_fl_X8_9 dX8_tries_35 rfl ?_
          refine V_iconst 3 39 dX8_tries_38 rfl kiconst_3 ?_
          obtain ⟨v17, h16, hf⟩ := ob hf
          refine V_iald 40 h16 dX8_tries_39 rfl ?_
          refine V_istore [(5, .int v17), (0, .ref t), (1, .int a0), (2, .int a1), (3, .int a2), (4, .int a3)] 42 dX8_tries_40 (by decide) rfl rfl ?_
          refine V_iload 0 44 rfl dX8_tries_42 rfl ?_
          refine V_bipush 30 46 dX8_tries_44 rfl kbipush_30 ?_
          refine V_icmp_ne 56 49 dX8_tries_46 (by decide) rfl (fun c18 => ?_) (fun c18 => ?_)
          · rw [if_neg c18] at hf
            refine V_aload_n 1 57 rfl dX8_tries_56 rfl rfl ?_
            obtain ⟨q20, h19, hf⟩ := ob hf
            refine V_getQ (n := 27) (ty := tyX8) 60 h19 cf_7 rfl wd_fl_X8_9 dX8_tries_57 rfl ?_
            refine V_sipush 838 63 dX8_tries_60 rfl ksipush_838 ?_
            refine V_iconst 4 64 dX8_tries_63 rfl kiconst_4 ?_
            refine V_iload 0 66 rfl dX8_tries_64 rfl ?_
            refine V_imul 67 dX8_tries_66 rfl ?_
            refine V_iadd 68 dX8_tries_67 rfl ?_
            refine V_iload_n 2 69 rfl dX8_tries_68 rfl rfl ?_
            obtain ⟨s22, h21, hf⟩ := ob hf
            refine V_iast 70 h21 dX8_tries_69 rfl ?_
            refine V_aload_n 1 71 rfl dX8_tries_70 rfl rfl ?_
            obtain ⟨q24, h23, hf⟩ := ob hf
            refine V_getQ (n := 27) (ty := tyX8) 74 h23 cf_7 rfl wd_fl_X8_9 dX8_tries_71 rfl ?_
            refine V_sipush 838 77 dX8_tries_74 rfl ksipush_838 ?_
            refine V_iconst 4 78 dX8_tries_77 rfl kiconst_4 ?_
            refine V_iload 0 80 rfl dX8_tries_78 rfl ?_
            refine V_imul 81 dX8_tries_80 rfl ?_
            refine V_iadd 82 dX8_tries_81 rfl ?_
            refine V_iconst 1 83 dX8_tries_82 rfl kiconst_1 ?_
            refine V_iadd 84 dX8_tries_83 rfl ?_
            refine V_iload_n 3 85 rfl dX8_tries_84 rfl rfl ?_
            obtain ⟨s26, h25, hf⟩ := ob hf
            refine V_iast 86 h25 dX8_tries_85 rfl ?_
            refine V_aload_n 1 87 rfl dX8_tries_86 rfl rfl ?_
            obtain ⟨q28, h27, hf⟩ := ob hf
            refine V_getQ (n := 27) (ty := tyX8) 90 h27 cf_7 rfl wd_fl_X8_9 dX8_tries_87 rfl ?_
            refine V_sipush 838 93 dX8_tries_90 rfl ksipush_838 ?_
            refine V_iconst 4 94 dX8_tries_93 rfl kiconst_4 ?_
            refine V_iload 0 96 rfl dX8_tries_94 rfl ?_
            refine V_imul 97 dX8_tries_96 rfl ?_
            refine V_iadd 98 dX8_tries_97 rfl ?_
            refine V_iconst 2 99 dX8_tries_98 rfl kiconst_2 ?_
            refine V_iadd 100 dX8_tries_99 rfl ?_
            refine V_iload_n 4 101 rfl dX8_tries_100 rfl rfl ?_
            obtain ⟨s30, h29, hf⟩ := ob hf
            refine V_iast 102 h29 dX8_tries_101 rfl ?_
            refine V_aload_n 1 103 rfl dX8_tries_102 rfl rfl ?_
            obtain ⟨q32, h31, hf⟩ := ob hf
            refine V_getQ (n := 27) (ty := tyX8) 106 h31 cf_7 rfl wd_fl_X8_9 dX8_tries_103 rfl ?_
            refine V_sipush 838 109 dX8_tries_106 rfl ksipush_838 ?_
            refine V_iconst 4 110 dX8_tries_109 rfl kiconst_4 ?_
            refine V_iload 0 112 rfl dX8_tries_110 rfl ?_
            refine V_imul 113 dX8_tries_112 rfl ?_
            refine V_iadd 114 dX8_tries_113 rfl ?_
            refine V_iconst 3 115 dX8_tries_114 rfl kiconst_3 ?_
            refine V_iadd 116 dX8_tries_115 rfl ?_
            refine V_iload 5 118 rfl dX8_tries_116 rfl ?_
            have kj45 : V mi_X8_tries l G (d + 3) 0 0 X 0 0 126 [(5, .int v17), (0, .ref t), (1, .int a0), (2, .int a1), (3, .int a2), (4, .int a3)] [.int (if a3 = 0 then 0 else 1 : Int32), .int (((838 : Int32) + ((4 : Int32) * v17)) + 3), .ref q32] s30 := by
              obtain ⟨s34, h33, hf⟩ := ob hf
              refine V_iast 127 h33 dX8_tries_126 rfl ?_
              refine V_aload_n 1 128 rfl dX8_tries_127 rfl rfl ?_
              obtain ⟨q36, h35, hf⟩ := ob hf
              refine V_getQ (n := 27) (ty := tyX8) 131 h35 cf_7 rfl wd_fl_X8_9 dX8_tries_128 rfl ?_
              refine V_iconst 3 132 dX8_tries_131 rfl kiconst_3 ?_
              refine V_dup2 133 dX8_tries_132 rfl rfl rfl ?_
              obtain ⟨v38, h37, hf⟩ := ob hf
              refine V_iald 134 h37 dX8_tries_133 rfl ?_
              refine V_iconst 1 135 dX8_tries_134 rfl kiconst_1 ?_
              refine V_iadd 136 dX8_tries_135 rfl ?_
              obtain ⟨s40, h39, hf⟩ := ob hf
              refine V_iast 137 h39 dX8_tries_136 rfl ?_
              refine V_aload_n 1 138 rfl dX8_tries_137 rfl rfl ?_
              obtain ⟨q42, h41, hf⟩ := ob hf
              refine V_getQ (n := 27) (ty := tyX8) 141 h41 cf_7 rfl wd_fl_X8_9 dX8_tries_138 rfl ?_
              refine V_iconst 3 142 dX8_tries_141 rfl kiconst_3 ?_
              obtain ⟨v44, h43, hf⟩ := ob hf
              refine V_iald 143 h43 dX8_tries_142 rfl ?_
              have er := Option.some.inj hf
              obtain ⟨e1, e2⟩ := Prod.mk.inj er
              subst e1
              subst e2
              exact V_iret hQ rfl dX8_tries_143
            refine V_if_eq 125 121 dX8_tries_118 (by decide) rfl (fun c46 => ?_) (fun c46 => ?_)
            · refine V_iconst 0 126 dX8_tries_125 rfl kiconst_0 ?_
              refine V_ls [(5, .int v17), (0, .ref t), (1, .int a0), (2, .int a1), (3, .int a2), (4, .int a3)] [0, 1, 2, 3, 4, 5] rfl ?_
              simp only [if_pos c46] at kj45
              exact kj45
            · refine V_iconst 1 122 dX8_tries_121 rfl kiconst_1 ?_
              refine V_goto 126 dX8_tries_122 (by decide) ?_
              refine V_ls [(5, .int v17), (0, .ref t), (1, .int a0), (2, .int a1), (3, .int a2), (4, .int a3)] [0, 1, 2, 3, 4, 5] rfl ?_
              simp only [if_neg c46] at kj45
              exact kj45
          · rw [if_pos c18] at hf
            refine V_aload_n 1 50 rfl dX8_tries_49 rfl rfl ?_
            refine V_ldc (-1000004) 52 dX8_tries_50 rfl wd_kk_X8_82 ?_
            obtain ⟨p48, h47, hf⟩ := ob hf
            refine V_callV (rest := []) (T := TX8) (n := 27) (ci := 7) 0 0 55 [.int p48.1] (c_X8_finding l G (d + 1) _ _ _ _ _ h47) (by omega) ok_X8_finding okv_X8_finding (gd_X8_finding h47) rfl wd_ml_X8_77 rfl rfl (Nat.le_of_ble_eq_true rfl) rfl rfl (Or.inl ⟨rfl, rfl⟩) dX8_tries_52 rfl rfl ?_
            have er := Option.some.inj hf
            obtain ⟨e1, e2⟩ := Prod.mk.inj er
            subst e1
            subst e2
            exact V_iret hQ rfl dX8_tries_55
        · rw [if_pos c13] at hf
          refine V_aload_n 0 28 rfl dX8_tries_27 rfl rfl ?_
          refine V_ldc (-1000001) 30 dX8_tries_28 rfl wd_kk_X8_76 ?_
          obtain ⟨p50, h49, hf⟩ := ob hf
          refine V_callV (rest := []) (T := TX8) (n := 27) (ci := 7) 0 0 33 [.int p50.1] (c_X8_finding l G (d + 1) _ _ _ _ _ h49) (by omega) ok_X8_finding okv_X8_finding (gd_X8_finding h49) rfl wd_ml_X8_77 rfl rfl (Nat.le_of_ble_eq_true rfl) rfl rfl (Or.inl ⟨rfl, rfl⟩) dX8_tries_30 rfl rfl ?_
          have er := Option.some.inj hf
          obtain ⟨e1, e2⟩ := Prod.mk.inj er
          subst e1
          subst e2
          exact V_iret hQ rfl dX8_tries_33
  · rw [if_neg hg] at hf
    cases hf
abbrev mi_X8_findFar : MI := (yX8_findFar, cX8_findFar, 4, none)
theorem ok_X8_findFar : OkN mi_X8_findFar 1 := ⟨wd_cd_X8_findFar, wd_in_X8, ⟨by decide +kernel, by decide +kernel, by decide +kernel⟩, by decide⟩
theorem okv_X8_findFar : Cond.instanceMethod (mi_X8_findFar).1 ∈ tb ∧ Cond.selects (mi_X8_findFar).1.cls (mi_X8_findFar).1 (mi_X8_findFar).1 ∈ tb := ⟨wd_im_X8_findFar, wd_se_X8_findFar⟩
def f_X8_findFar_L2 (t : Nat) (x1 : Int32) : Nat → Int32 → St → Option (Int32 × St)
  | 0, _, _ => none
  | n + 1, x2, σ => if 8 ≤ x2 then (some (x2, σ)) else ((gQ σ 7 t 17).bind fun q3 => (sI σ q3 x2 (if x2 = x1 then 0 else 1000000 : Int32)).bind fun s5 => f_X8_findFar_L2 t x1 n (x2 + 1) s5)
def f_X8_findFar_L44 (t : Nat) : Nat → Int32 → St → Option (Int32 × St)
  | 0, _, _ => none
  | n + 1, x3, σ => (gQ σ 7 t 0).bind fun q12 => (aI σ 0 q12 2).bind fun v14 => if ((778 : Int32) + ((3 : Int32) * v14)) ≤ x3 then (some (x3, σ)) else ((gQ σ 7 t 17).bind fun q17 => (gQ σ 7 t 0).bind fun q19 => (aI σ 0 q19 x3).bind fun v21 => (gQ σ 7 t 17).bind fun q23 => (gQ σ 7 t 0).bind fun q25 => (aI σ 0 q25 x3).bind fun v27 => (aI σ 0 q23 v27).bind fun v29 => (gQ σ 7 t 17).bind fun q31 => (gQ σ 7 t 0).bind fun q33 => (aI σ 0 q33 (x3 + 1)).bind fun v35 => (aI σ 0 q31 v35).bind fun v37 => (gQ σ 7 t 0).bind fun q39 => (aI σ 0 q39 (x3 + 2)).bind fun v41 => (f_J9_min_7cf53 σ v29 (v37 + v41)).bind fun v43 => (sI σ q17 v21 v43).bind fun s45 => f_X8_findFar_L44 t n (x3 + 3) s45)
def f_X8_findFar_L34 (t : Nat) : Nat → Int32 → St → Option (Int32 × St)
  | 0, _, _ => none
  | n + 1, x2, σ => if 8 ≤ x2 then (some (x2, σ)) else ((f_X8_findFar_L44 t 3000 778 σ).bind fun p46 => f_X8_findFar_L34 t n (x2 + 1) p46.2)
def f_X8_findFar (σ : St) (t : Nat) (a0 : Int32) : Option St := if isO σ 7 t = true then ((f_X8_findFar_L2 t a0 3000 0 σ).bind fun p8 => (f_X8_findFar_L34 t 3000 0 p8.2).bind fun p48 => some p48.2) else none
theorem gd_X8_findFar {σ : St} {t : Nat} {a0 : Int32} {r : St} (h : f_X8_findFar σ t a0 = some r) : isO σ 7 t = true := by
  unfold f_X8_findFar at h
  by_cases hg : isO σ 7 t = true
  · exact hg
  · rw [if_neg hg] at h
    cases h
set_option maxRecDepth 100000 in
set_option maxHeartbeats 4000000 in
theorem c_X8_findFar (l : Launch) (G : Gd) (d : Nat) (σ : St) (t : Nat) (a0 : Int32) (σ' : St) (hf : f_X8_findFar σ t a0 = some σ') : MetV l G (d + 2) mi_X8_findFar [.ref t, .int a0] σ none σ' 0 0 := by
  unfold f_X8_findFar at hf
  refine MetV.of [(0, .ref t), (1, .int a0)] (by decide +kernel) rfl (Nat.le_of_ble_eq_true rfl) ?_
  intro X hQ
  have L2 : ∀ (x1 : Int32) (n : Nat) (x2 : Int32) (σ : St) (p : Int32 × St), f_X8_findFar_L2 t x1 n x2 σ = some p → V mi_X8_findFar l G (d + 2) 0 0 X 0 0 32 [(2, .int p.1), (0, .ref t), (1, .int x1)] [] p.2 → V mi_X8_findFar l G (d + 2) 0 0 X 0 0 2 [(2, .int x2), (0, .ref t), (1, .int x1)] [] σ := by
    intro x1 n
    induction n with
    | zero =>
      intro x2 σ p hf
      exact absurd (show (none : Option _) = some p from hf) (by simp)
    | succ n ih =>
      intro x2 σ p hf hk
      rw [f_X8_findFar_L2] at hf
      refine V_iload_n 0 3 rfl dX8_findFar_2 rfl rfl ?_
      refine V_bipush 8 5 dX8_findFar_3 rfl kbipush_8 ?_
      refine V_icmp_ge 32 8 dX8_findFar_5 (by decide) rfl (fun c1 => ?_) (fun c1 => ?_)
      · rw [if_pos c1] at hf
        have ep := Option.some.inj hf
        subst ep
        refine V_ls [(2, .int x2), (0, .ref t), (1, .int x1)] [0, 1, 2] rfl ?_
        exact hk
      · rw [if_neg c1] at hf
        refine V_aload_n 1 9 rfl dX8_findFar_8 rfl rfl ?_
        obtain ⟨q3, h2, hf⟩ := ob hf
        refine V_getQ (n := 27) (ty := tyX8) 12 h2 cf_7 rfl wd_fl_X8_46 dX8_findFar_9 rfl ?_
        refine V_iload_n 0 13 rfl dX8_findFar_12 rfl rfl ?_
        refine V_iload_n 0 14 rfl dX8_findFar_13 rfl rfl ?_
        refine V_iload_n 2 15 rfl dX8_findFar_14 rfl rfl ?_
        have kj6 : V mi_X8_findFar l G (d + 2) 0 0 X 0 0 25 [(2, .int x2), (0, .ref t), (1, .int x1)] [.int (if x2 = x1 then 0 else 1000000 : Int32), .int x2, .ref q3] σ := by
          obtain ⟨s5, h4, hf⟩ := ob hf
          refine V_iast 26 h4 dX8_findFar_25 rfl ?_
          refine V_iinc (x2 + 1) 0 [(2, .int (x2 + 1)), (0, .ref t), (1, .int x1)] 29 dX8_findFar_26 rfl (by rw [kiconst_1]) (by decide) rfl rfl ?_
          refine V_goto 2 dX8_findFar_29 (by decide) ?_
          refine V_ls [(2, .int (x2 + 1)), (0, .ref t), (1, .int x1)] [0, 1, 2] rfl ?_
          exact ih _ _ _ hf hk
        refine V_icmp_ne 22 18 dX8_findFar_15 (by decide) rfl (fun c7 => ?_) (fun c7 => ?_)
        · refine V_ldc_w 1000000 25 dX8_findFar_22 rfl wd_kk_X8_279 ?_
          refine V_ls [(2, .int x2), (0, .ref t), (1, .int x1)] [0, 1, 2] rfl ?_
          simp only [if_neg c7] at kj6
          exact kj6
        · refine V_iconst 0 19 dX8_findFar_18 rfl kiconst_0 ?_
          refine V_goto 25 dX8_findFar_19 (by decide) ?_
          refine V_ls [(2, .int x2), (0, .ref t), (1, .int x1)] [0, 1, 2] rfl ?_
          simp only [if_pos c7] at kj6
          exact kj6
  have L44 : ∀ (x2 : Int32) (n : Nat) (x3 : Int32) (σ : St) (p : Int32 × St), f_X8_findFar_L44 t n x3 σ = some p → V mi_X8_findFar l G (d + 2) 0 0 X 0 0 113 [(3, .int p.1), (2, .int x2), (0, .ref t)] [] p.2 → V mi_X8_findFar l G (d + 2) 0 0 X 0 0 44 [(3, .int x3), (2, .int x2), (0, .ref t)] [] σ := by
    intro x2 n
    induction n with
    | zero =>
      intro x3 σ p hf
      exact absurd (show (none : Option _) = some p from hf) (by simp)
    | succ n ih =>
      intro x3 σ p hf hk
      rw [f_X8_findFar_L44] at hf
      refine V_iload_n 0 45 rfl dX8_findFar_44 rfl rfl ?_
      refine V_sipush 778 48 dX8_findFar_45 rfl ksipush_778 ?_
      refine V_iconst 3 49 dX8_findFar_48 rfl kiconst_3 ?_
      refine V_aload_n 2 50 rfl dX8_findFar_49 rfl rfl ?_
      obtain ⟨q12, h11, hf⟩ := ob hf
      refine V_getQ (n := 27) (ty := tyX8) 53 h11 cf_7 rfl wd_fl_X8_9 dX8_findFar_50 rfl ?_
      refine V_iconst 2 54 dX8_findFar_53 rfl kiconst_2 ?_
      obtain ⟨v14, h13, hf⟩ := ob hf
      refine V_iald 55 h13 dX8_findFar_54 rfl ?_
      refine V_imul 56 dX8_findFar_55 rfl ?_
      refine V_iadd 57 dX8_findFar_56 rfl ?_
      refine V_icmp_ge 113 60 dX8_findFar_57 (by decide) rfl (fun c15 => ?_) (fun c15 => ?_)
      · rw [if_pos c15] at hf
        have ep := Option.some.inj hf
        subst ep
        refine V_ls [(3, .int x3), (2, .int x2), (0, .ref t)] [0, 1, 2] rfl ?_
        exact hk
      · rw [if_neg c15] at hf
        refine V_aload_n 2 61 rfl dX8_findFar_60 rfl rfl ?_
        obtain ⟨q17, h16, hf⟩ := ob hf
        refine V_getQ (n := 27) (ty := tyX8) 64 h16 cf_7 rfl wd_fl_X8_46 dX8_findFar_61 rfl ?_
        refine V_aload_n 2 65 rfl dX8_findFar_64 rfl rfl ?_
        obtain ⟨q19, h18, hf⟩ := ob hf
        refine V_getQ (n := 27) (ty := tyX8) 68 h18 cf_7 rfl wd_fl_X8_9 dX8_findFar_65 rfl ?_
        refine V_iload_n 0 69 rfl dX8_findFar_68 rfl rfl ?_
        obtain ⟨v21, h20, hf⟩ := ob hf
        refine V_iald 70 h20 dX8_findFar_69 rfl ?_
        refine V_aload_n 2 71 rfl dX8_findFar_70 rfl rfl ?_
        obtain ⟨q23, h22, hf⟩ := ob hf
        refine V_getQ (n := 27) (ty := tyX8) 74 h22 cf_7 rfl wd_fl_X8_46 dX8_findFar_71 rfl ?_
        refine V_aload_n 2 75 rfl dX8_findFar_74 rfl rfl ?_
        obtain ⟨q25, h24, hf⟩ := ob hf
        refine V_getQ (n := 27) (ty := tyX8) 78 h24 cf_7 rfl wd_fl_X8_9 dX8_findFar_75 rfl ?_
        refine V_iload_n 0 79 rfl dX8_findFar_78 rfl rfl ?_
        obtain ⟨v27, h26, hf⟩ := ob hf
        refine V_iald 80 h26 dX8_findFar_79 rfl ?_
        obtain ⟨v29, h28, hf⟩ := ob hf
        refine V_iald 81 h28 dX8_findFar_80 rfl ?_
        refine V_aload_n 2 82 rfl dX8_findFar_81 rfl rfl ?_
        obtain ⟨q31, h30, hf⟩ := ob hf
        refine V_getQ (n := 27) (ty := tyX8) 85 h30 cf_7 rfl wd_fl_X8_46 dX8_findFar_82 rfl ?_
        refine V_aload_n 2 86 rfl dX8_findFar_85 rfl rfl ?_
        obtain ⟨q33, h32, hf⟩ := ob hf
        refine V_getQ (n := 27) (ty := tyX8) 89 h32 cf_7 rfl wd_fl_X8_9 dX8_findFar_86 rfl ?_
        refine V_iload_n 0 90 rfl dX8_findFar_89 rfl rfl ?_
        refine V_iconst 1 91 dX8_findFar_90 rfl kiconst_1 ?_
        refine V_iadd 92 dX8_findFar_91 rfl ?_
        obtain ⟨v35, h34, hf⟩ := ob hf
        refine V_iald 93 h34 dX8_findFar_92 rfl ?_
        obtain ⟨v37, h36, hf⟩ := ob hf
        refine V_iald 94 h36 dX8_findFar_93 rfl ?_
        refine V_aload_n 2 95 rfl dX8_findFar_94 rfl rfl ?_
        obtain ⟨q39, h38, hf⟩ := ob hf
        refine V_getQ (n := 27) (ty := tyX8) 98 h38 cf_7 rfl wd_fl_X8_9 dX8_findFar_95 rfl ?_
        refine V_iload_n 0 99 rfl dX8_findFar_98 rfl rfl ?_
        refine V_iconst 2 100 dX8_findFar_99 rfl kiconst_2 ?_
        refine V_iadd 101 dX8_findFar_100 rfl ?_
        obtain ⟨v41, h40, hf⟩ := ob hf
        refine V_iald 102 h40 dX8_findFar_101 rfl ?_
        refine V_iadd 103 dX8_findFar_102 rfl ?_
        obtain ⟨v43, h42, hf⟩ := ob hf
        refine V_callS (rest := [.int v21, .ref q17]) 0 0 106 [.int v43, .int v21, .ref q17] (c_J9_min_7cf53 l G (d + 0) _ _ _ _ h42) (by omega) ok_J9_min_7cf53 oks_J9_min_7cf53 wd_ml_X8_280 rfl rfl (Nat.le_of_ble_eq_true rfl) rfl rfl (Or.inl ⟨rfl, rfl⟩) dX8_findFar_103 rfl rfl ?_
        obtain ⟨s45, h44, hf⟩ := ob hf
        refine V_iast 107 h44 dX8_findFar_106 rfl ?_
        refine V_iinc (x3 + 3) 0 [(3, .int (x3 + 3)), (2, .int x2), (0, .ref t)] 110 dX8_findFar_107 rfl (by rw [kiconst_3]) (by decide) rfl rfl ?_
        refine V_goto 44 dX8_findFar_110 (by decide) ?_
        refine V_ls [(3, .int (x3 + 3)), (2, .int x2), (0, .ref t)] [0, 1, 2] rfl ?_
        exact ih _ _ _ hf hk
  have L34 : ∀  (n : Nat) (x2 : Int32) (σ : St) (p : Int32 × St), f_X8_findFar_L34 t n x2 σ = some p → V mi_X8_findFar l G (d + 2) 0 0 X 0 0 119 [(2, .int p.1), (0, .ref t)] [] p.2 → V mi_X8_findFar l G (d + 2) 0 0 X 0 0 34 [(2, .int x2), (0, .ref t)] [] σ := by
    intro  n
    induction n with
    | zero =>
      intro x2 σ p hf
      exact absurd (show (none : Option _) = some p from hf) (by simp)
    | succ n ih =>
      intro x2 σ p hf hk
      rw [f_X8_findFar_L34] at hf
      refine V_iload_n 0 35 rfl dX8_findFar_34 rfl rfl ?_
      refine V_bipush 8 37 dX8_findFar_35 rfl kbipush_8 ?_
      refine V_icmp_ge 119 40 dX8_findFar_37 (by decide) rfl (fun c10 => ?_) (fun c10 => ?_)
      · rw [if_pos c10] at hf
        have ep := Option.some.inj hf
        subst ep
        refine V_ls [(2, .int x2), (0, .ref t)] [0, 1] rfl ?_
        exact hk
      · rw [if_neg c10] at hf
        refine V_sipush 778 43 dX8_findFar_40 rfl ksipush_778 ?_
        refine V_istore_n [(3, .int 778), (2, .int x2), (0, .ref t)] 44 dX8_findFar_43 rfl (by decide) rfl rfl ?_
        obtain ⟨p46, h47, hf⟩ := ob hf
        refine V_ls [(3, .int 778), (2, .int x2), (0, .ref t)] [0, 1, 2] rfl ?_
        refine L44 x2 3000 778 σ p46 h47 ?_
        refine V_iinc (x2 + 1) 1 [(2, .int (x2 + 1)), (3, .int p46.1), (0, .ref t)] 116 dX8_findFar_113 rfl (by rw [kiconst_1]) (by decide) rfl rfl ?_
        refine V_goto 34 dX8_findFar_116 (by decide) ?_
        refine V_ls [(2, .int (x2 + 1)), (0, .ref t)] [0, 2] rfl ?_
        exact ih _ _ _ hf hk
  by_cases hg : isO σ 7 t = true
  · rw [if_pos hg] at hf
    refine V_iconst 0 1 dX8_findFar_0 rfl kiconst_0 ?_
    refine V_istore_n [(2, .int 0), (0, .ref t), (1, .int a0)] 2 dX8_findFar_1 rfl (by decide) rfl rfl ?_
    obtain ⟨p8, h9, hf⟩ := ob hf
    refine V_ls [(2, .int 0), (0, .ref t), (1, .int a0)] [0, 1, 2] rfl ?_
    refine L2 a0 3000 0 σ p8 h9 ?_
    refine V_iconst 0 33 dX8_findFar_32 rfl kiconst_0 ?_
    refine V_istore_n [(2, .int 0), (0, .ref t), (1, .int a0)] 34 dX8_findFar_33 rfl (by decide) rfl rfl ?_
    obtain ⟨p48, h49, hf⟩ := ob hf
    refine V_ls [(2, .int 0), (0, .ref t)] [0, 1] rfl ?_
    refine L34 3000 0 p8.2 p48 h49 ?_
    have er := Option.some.inj hf
    subst er
    exact V_vret hQ rfl dX8_findFar_119
  · rw [if_neg hg] at hf
    cases hf
abbrev mi_X8_knows : MI := (yX8_knows, cX8_knows, 10, some .int)
theorem ok_X8_knows : OkN mi_X8_knows 3 := ⟨wd_cd_X8_knows, wd_in_X8, ⟨by decide +kernel, by decide +kernel, by decide +kernel⟩, by decide⟩
theorem okv_X8_knows : Cond.instanceMethod (mi_X8_knows).1 ∈ tb ∧ Cond.selects (mi_X8_knows).1.cls (mi_X8_knows).1 (mi_X8_knows).1 ∈ tb := ⟨wd_im_X8_knows, wd_se_X8_knows⟩
def f_X8_knows_L171 (x8 : Int32) (t : Nat) : Nat → Int32 → St → Option (Int32 × St)
  | 0, _, _ => none
  | n + 1, x9, σ => if x9 ≤ 0 then (some (x9, σ)) else ((gQ σ 7 t 18).bind fun q51 => (aI σ 0 q51 (x9 - 1)).bind fun v53 => if v53 ≤ x8 then (some (x9, σ)) else ((gQ σ 7 t 18).bind fun q56 => (gQ σ 7 t 18).bind fun q58 => (aI σ 0 q58 (x9 - 1)).bind fun v60 => (sI σ q56 x9 v60).bind fun s62 => f_X8_knows_L171 x8 t n (x9 + (-1)) s62))
def f_X8_knows_L46 (t : Nat) (x1 : Int32) (x2 : Int32) : Nat → Int32 → Int32 → St → Option (Int32 × Int32 × St)
  | 0, _, _, _ => none
  | n + 1, x5, x4, σ => (gQ σ 7 t 0).bind fun q17 => (aI σ 0 q17 3).bind fun v19 => if ((838 : Int32) + ((4 : Int32) * v19)) ≤ x5 then (some (x5, x4, σ)) else ((gQ σ 7 t 0).bind fun q22 => (aI σ 0 q22 x5).bind fun v24 => (gQ σ 7 t 0).bind fun q26 => (aI σ 0 q26 (x5 + 1)).bind fun v28 => if v28 = x2 then ((gQ σ 7 t 0).bind fun q31 => (aI σ 0 q31 (x5 + 3)).bind fun v33 => if v33 = 0 then ((gQ σ 7 t 17).bind fun q36 => (aI σ 0 q36 v24).bind fun v38 => if 1000000 ≤ v38 then (f_X8_knows_L46 t x1 x2 n (x5 + 4) x4 σ) else (if v24 = x1 then ((gQ σ 7 t 0).bind fun q42 => (aI σ 0 q42 (x5 + 2)).bind fun v44 => (gQ σ 7 t 17).bind fun q46 => (aI σ 0 q46 v24).bind fun v48 => (f_X8_knows_L171 (v44 + v48) t 3000 x4 σ).bind fun p63 => (gQ p63.2 7 t 18).bind fun q66 => (sI p63.2 q66 p63.1 (v44 + v48)).bind fun s68 => f_X8_knows_L46 t x1 x2 n (x5 + 4) (x4 + 1) s68) else ((gQ σ 7 t 0).bind fun q70 => (aI σ 0 q70 (x5 + 2)).bind fun v72 => (f_X8_given σ t 2 v24 x2 v72).bind fun p74 => if (if p74.1 = 0 then 0 else 1 : Int32) = 0 then (f_X8_knows_L46 t x1 x2 n (x5 + 4) x4 p74.2) else ((gQ p74.2 7 t 0).bind fun q77 => (aI p74.2 0 q77 (x5 + 2)).bind fun v79 => (gQ p74.2 7 t 17).bind fun q81 => (aI p74.2 0 q81 v24).bind fun v83 => (f_X8_knows_L171 (v79 + v83) t 3000 x4 p74.2).bind fun p84 => (gQ p84.2 7 t 18).bind fun q87 => (sI p84.2 q87 p84.1 (v79 + v83)).bind fun s89 => f_X8_knows_L46 t x1 x2 n (x5 + 4) (x4 + 1) s89)))) else (f_X8_knows_L46 t x1 x2 n (x5 + 4) x4 σ)) else (f_X8_knows_L46 t x1 x2 n (x5 + 4) x4 σ))
def f_X8_knows (σ : St) (t : Nat) (a0 : Int32) (a1 : Int32) (a2 : Int32) : Option (Int32 × St) := if isO σ 7 t = true then ((f_X8_isHouse σ a0).bind fun v2 => if v2 = 0 then ((f_X8_finding σ t (-1000001)).bind fun p5 => some (p5.1, p5.2)) else ((f_X8_is σ t a1 0).bind fun v7 => if v7 = 0 then ((f_X8_finding σ t (-1000001)).bind fun p10 => some (p10.1, p10.2)) else ((f_X8_within σ a2 1 30).bind fun v12 => if v12 = 0 then ((f_X8_finding σ t (-1000001)).bind fun p102 => some (p102.1, p102.2)) else ((f_X8_findFar σ t a0).bind fun s15 => (f_X8_knows_L46 t a0 a1 3000 838 0 s15).bind fun p92 => if p92.2.1 < a2 then ((f_X8_finding p92.2.2 t (-1000002)).bind fun p96 => some (p96.1, p96.2)) else ((gQ p92.2.2 7 t 18).bind fun q98 => (aI p92.2.2 0 q98 (a2 - 1)).bind fun v100 => some (v100, p92.2.2)))))) else none
theorem gd_X8_knows {σ : St} {t : Nat} {a0 : Int32} {a1 : Int32} {a2 : Int32} {r : Int32 × St} (h : f_X8_knows σ t a0 a1 a2 = some r) : isO σ 7 t = true := by
  unfold f_X8_knows at h
  by_cases hg : isO σ 7 t = true
  · exact hg
  · rw [if_neg hg] at h
    cases h
set_option maxRecDepth 100000 in
set_option maxHeartbeats 4000000 in
theorem c_X8_knows (l : Launch) (G : Gd) (d : Nat) (σ : St) (t : Nat) (a0 : Int32) (a1 : Int32) (a2 : Int32) (r0 : Int32) (σ' : St) (hf : f_X8_knows σ t a0 a1 a2 = some (r0, σ')) : MetV l G (d + 3) mi_X8_knows [.ref t, .int a0, .int a1, .int a2] σ (some (.int r0)) σ' 0 0 := by
  unfold f_X8_knows at hf
  refine MetV.of [(0, .ref t), (1, .int a0), (2, .int a1), (3, .int a2)] (by decide +kernel) rfl (Nat.le_of_ble_eq_true rfl) ?_
  intro X hQ
  have L171 : ∀ (x8 : Int32) (x5 : Int32) (x4 : Int32) (x1 : Int32) (x2 : Int32) (x3 : Int32) (n : Nat) (x9 : Int32) (σ : St) (p : Int32 × St), f_X8_knows_L171 x8 t n x9 σ = some p → V mi_X8_knows l G (d + 3) 0 0 X 0 0 212 [(9, .int p.1), (8, .int x8), (5, .int x5), (4, .int x4), (0, .ref t), (1, .int x1), (2, .int x2), (3, .int x3)] [] p.2 → V mi_X8_knows l G (d + 3) 0 0 X 0 0 171 [(9, .int x9), (8, .int x8), (5, .int x5), (4, .int x4), (0, .ref t), (1, .int x1), (2, .int x2), (3, .int x3)] [] σ := by
    intro x8 x5 x4 x1 x2 x3 n
    induction n with
    | zero =>
      intro x9 σ p hf
      exact absurd (show (none : Option _) = some p from hf) (by simp)
    | succ n ih =>
      intro x9 σ p hf hk
      rw [f_X8_knows_L171] at hf
      refine V_iload 0 173 rfl dX8_knows_171 rfl ?_
      refine V_if_le 212 176 dX8_knows_173 (by decide) rfl (fun c49 => ?_) (fun c49 => ?_)
      · rw [if_pos c49] at hf
        have ep := Option.some.inj hf
        subst ep
        refine V_ls [(9, .int x9), (8, .int x8), (5, .int x5), (4, .int x4), (0, .ref t), (1, .int x1), (2, .int x2), (3, .int x3)] [0, 1, 2, 3, 4, 5, 6, 7] rfl ?_
        exact hk
      · rw [if_neg c49] at hf
        refine V_aload_n 4 177 rfl dX8_knows_176 rfl rfl ?_
        obtain ⟨q51, h50, hf⟩ := ob hf
        refine V_getQ (n := 27) (ty := tyX8) 180 h50 cf_7 rfl wd_fl_X8_49 dX8_knows_177 rfl ?_
        refine V_iload 0 182 rfl dX8_knows_180 rfl ?_
        refine V_iconst 1 183 dX8_knows_182 rfl kiconst_1 ?_
        refine V_isub 184 dX8_knows_183 rfl ?_
        obtain ⟨v53, h52, hf⟩ := ob hf
        refine V_iald 185 h52 dX8_knows_184 rfl ?_
        refine V_iload 1 187 rfl dX8_knows_185 rfl ?_
        refine V_icmp_le 212 190 dX8_knows_187 (by decide) rfl (fun c54 => ?_) (fun c54 => ?_)
        · rw [if_pos c54] at hf
          have ep := Option.some.inj hf
          subst ep
          refine V_ls [(9, .int x9), (8, .int x8), (5, .int x5), (4, .int x4), (0, .ref t), (1, .int x1), (2, .int x2), (3, .int x3)] [0, 1, 2, 3, 4, 5, 6, 7] rfl ?_
          exact hk
        · rw [if_neg c54] at hf
          refine V_aload_n 4 191 rfl dX8_knows_190 rfl rfl ?_
          obtain ⟨q56, h55, hf⟩ := ob hf
          refine V_getQ (n := 27) (ty := tyX8) 194 h55 cf_7 rfl wd_fl_X8_49 dX8_knows_191 rfl ?_
          refine V_iload 0 196 rfl dX8_knows_194 rfl ?_
          refine V_aload_n 4 197 rfl dX8_knows_196 rfl rfl ?_
          obtain ⟨q58, h57, hf⟩ := ob hf
          refine V_getQ (n := 27) (ty := tyX8) 200 h57 cf_7 rfl wd_fl_X8_49 dX8_knows_197 rfl ?_
          refine V_iload 0 202 rfl dX8_knows_200 rfl ?_
          refine V_iconst 1 203 dX8_knows_202 rfl kiconst_1 ?_
          refine V_isub 204 dX8_knows_203 rfl ?_
          obtain ⟨v60, h59, hf⟩ := ob hf
          refine V_iald 205 h59 dX8_knows_204 rfl ?_
          obtain ⟨s62, h61, hf⟩ := ob hf
          refine V_iast 206 h61 dX8_knows_205 rfl ?_
          refine V_iinc (x9 + (-1)) 0 [(9, .int (x9 + (-1))), (8, .int x8), (5, .int x5), (4, .int x4), (0, .ref t), (1, .int x1), (2, .int x2), (3, .int x3)] 209 dX8_knows_206 rfl (by rw [kiconst_m1]) (by decide) rfl rfl ?_
          refine V_goto 171 dX8_knows_209 (by decide) ?_
          refine V_ls [(9, .int (x9 + (-1))), (8, .int x8), (5, .int x5), (4, .int x4), (0, .ref t), (1, .int x1), (2, .int x2), (3, .int x3)] [0, 1, 2, 3, 4, 5, 6, 7] rfl ?_
          exact ih _ _ _ hf hk
  have L46 : ∀ (x1 : Int32) (x2 : Int32) (x3 : Int32) (n : Nat) (x5 : Int32) (x4 : Int32) (σ : St) (p : Int32 × Int32 × St), f_X8_knows_L46 t x1 x2 n x5 x4 σ = some p → V mi_X8_knows l G (d + 3) 0 0 X 0 0 230 [(5, .int p.1), (4, .int p.2.1), (0, .ref t), (1, .int x1), (2, .int x2), (3, .int x3)] [] p.2.2 → V mi_X8_knows l G (d + 3) 0 0 X 0 0 46 [(5, .int x5), (4, .int x4), (0, .ref t), (1, .int x1), (2, .int x2), (3, .int x3)] [] σ := by
    intro x1 x2 x3 n
    induction n with
    | zero =>
      intro x5 x4 σ p hf
      exact absurd (show (none : Option _) = some p from hf) (by simp)
    | succ n ih =>
      intro x5 x4 σ p hf hk
      rw [f_X8_knows_L46] at hf
      refine V_iload 0 48 rfl dX8_knows_46 rfl ?_
      refine V_sipush 838 51 dX8_knows_48 rfl ksipush_838 ?_
      refine V_iconst 4 52 dX8_knows_51 rfl kiconst_4 ?_
      refine V_aload_n 2 53 rfl dX8_knows_52 rfl rfl ?_
      obtain ⟨q17, h16, hf⟩ := ob hf
      refine V_getQ (n := 27) (ty := tyX8) 56 h16 cf_7 rfl wd_fl_X8_9 dX8_knows_53 rfl ?_
      refine V_iconst 3 57 dX8_knows_56 rfl kiconst_3 ?_
      obtain ⟨v19, h18, hf⟩ := ob hf
      refine V_iald 58 h18 dX8_knows_57 rfl ?_
      refine V_imul 59 dX8_knows_58 rfl ?_
      refine V_iadd 60 dX8_knows_59 rfl ?_
      refine V_icmp_ge 230 63 dX8_knows_60 (by decide) rfl (fun c20 => ?_) (fun c20 => ?_)
      · rw [if_pos c20] at hf
        have ep := Option.some.inj hf
        subst ep
        refine V_ls [(5, .int x5), (4, .int x4), (0, .ref t), (1, .int x1), (2, .int x2), (3, .int x3)] [0, 1, 2, 3, 4, 5] rfl ?_
        exact hk
      · rw [if_neg c20] at hf
        refine V_aload_n 2 64 rfl dX8_knows_63 rfl rfl ?_
        obtain ⟨q22, h21, hf⟩ := ob hf
        refine V_getQ (n := 27) (ty := tyX8) 67 h21 cf_7 rfl wd_fl_X8_9 dX8_knows_64 rfl ?_
        refine V_iload 0 69 rfl dX8_knows_67 rfl ?_
        obtain ⟨v24, h23, hf⟩ := ob hf
        refine V_iald 70 h23 dX8_knows_69 rfl ?_
        refine V_istore [(6, .int v24), (5, .int x5), (4, .int x4), (0, .ref t), (1, .int x1), (2, .int x2), (3, .int x3)] 72 dX8_knows_70 (by decide) rfl rfl ?_
        refine V_aload_n 3 73 rfl dX8_knows_72 rfl rfl ?_
        obtain ⟨q26, h25, hf⟩ := ob hf
        refine V_getQ (n := 27) (ty := tyX8) 76 h25 cf_7 rfl wd_fl_X8_9 dX8_knows_73 rfl ?_
        refine V_iload 1 78 rfl dX8_knows_76 rfl ?_
        refine V_iconst 1 79 dX8_knows_78 rfl kiconst_1 ?_
        refine V_iadd 80 dX8_knows_79 rfl ?_
        obtain ⟨v28, h27, hf⟩ := ob hf
        refine V_iald 81 h27 dX8_knows_80 rfl ?_
        refine V_iload_n 5 82 rfl dX8_knows_81 rfl rfl ?_
        refine V_icmp_ne 140 85 dX8_knows_82 (by decide) rfl (fun c29 => ?_) (fun c29 => ?_)
        · rw [if_neg c29] at hf
          refine V_iconst 0 141 dX8_knows_140 rfl kiconst_0 ?_
          refine V_istore [(7, .int 0), (6, .int v24), (5, .int x5), (4, .int x4), (0, .ref t), (1, .int x1), (2, .int x2), (3, .int x3)] 143 dX8_knows_141 (by decide) rfl rfl ?_
          refine V_iload 0 145 rfl dX8_knows_143 rfl ?_
          refine V_if_eq 224 148 dX8_knows_145 (by decide) rfl (fun _ => ?_) (fun hc => absurd hc (by decide))
          refine V_iinc (x5 + 4) 2 [(5, .int (x5 + 4)), (7, .int 0), (6, .int v24), (4, .int x4), (0, .ref t), (1, .int x1), (2, .int x2), (3, .int x3)] 227 dX8_knows_224 rfl (by rw [kiconst_4]) (by decide) rfl rfl ?_
          refine V_goto 46 dX8_knows_227 (by decide) ?_
          refine V_ls [(5, .int (x5 + 4)), (4, .int x4), (0, .ref t), (1, .int x1), (2, .int x2), (3, .int x3)] [0, 3, 4, 5, 6, 7] rfl ?_
          exact ih _ _ _ _ hf hk
        · rw [if_pos c29] at hf
          refine V_aload_n 3 86 rfl dX8_knows_85 rfl rfl ?_
          obtain ⟨q31, h30, hf⟩ := ob hf
          refine V_getQ (n := 27) (ty := tyX8) 89 h30 cf_7 rfl wd_fl_X8_9 dX8_knows_86 rfl ?_
          refine V_iload 1 91 rfl dX8_knows_89 rfl ?_
          refine V_iconst 3 92 dX8_knows_91 rfl kiconst_3 ?_
          refine V_iadd 93 dX8_knows_92 rfl ?_
          obtain ⟨v33, h32, hf⟩ := ob hf
          refine V_iald 94 h32 dX8_knows_93 rfl ?_
          refine V_if_ne 140 97 dX8_knows_94 (by decide) rfl (fun c34 => ?_) (fun c34 => ?_)
          · rw [if_neg c34] at hf
            refine V_iconst 0 141 dX8_knows_140 rfl kiconst_0 ?_
            refine V_istore [(7, .int 0), (6, .int v24), (5, .int x5), (4, .int x4), (0, .ref t), (1, .int x1), (2, .int x2), (3, .int x3)] 143 dX8_knows_141 (by decide) rfl rfl ?_
            refine V_iload 0 145 rfl dX8_knows_143 rfl ?_
            refine V_if_eq 224 148 dX8_knows_145 (by decide) rfl (fun _ => ?_) (fun hc => absurd hc (by decide))
            refine V_iinc (x5 + 4) 2 [(5, .int (x5 + 4)), (7, .int 0), (6, .int v24), (4, .int x4), (0, .ref t), (1, .int x1), (2, .int x2), (3, .int x3)] 227 dX8_knows_224 rfl (by rw [kiconst_4]) (by decide) rfl rfl ?_
            refine V_goto 46 dX8_knows_227 (by decide) ?_
            refine V_ls [(5, .int (x5 + 4)), (4, .int x4), (0, .ref t), (1, .int x1), (2, .int x2), (3, .int x3)] [0, 3, 4, 5, 6, 7] rfl ?_
            exact ih _ _ _ _ hf hk
          · rw [if_pos c34] at hf
            refine V_aload_n 3 98 rfl dX8_knows_97 rfl rfl ?_
            obtain ⟨q36, h35, hf⟩ := ob hf
            refine V_getQ (n := 27) (ty := tyX8) 101 h35 cf_7 rfl wd_fl_X8_46 dX8_knows_98 rfl ?_
            refine V_iload 0 103 rfl dX8_knows_101 rfl ?_
            obtain ⟨v38, h37, hf⟩ := ob hf
            refine V_iald 104 h37 dX8_knows_103 rfl ?_
            refine V_ldc_w 1000000 107 dX8_knows_104 rfl wd_kk_X8_279 ?_
            refine V_icmp_ge 140 110 dX8_knows_107 (by decide) rfl (fun c39 => ?_) (fun c39 => ?_)
            · rw [if_pos c39] at hf
              refine V_iconst 0 141 dX8_knows_140 rfl kiconst_0 ?_
              refine V_istore [(7, .int 0), (6, .int v24), (5, .int x5), (4, .int x4), (0, .ref t), (1, .int x1), (2, .int x2), (3, .int x3)] 143 dX8_knows_141 (by decide) rfl rfl ?_
              refine V_iload 0 145 rfl dX8_knows_143 rfl ?_
              refine V_if_eq 224 148 dX8_knows_145 (by decide) rfl (fun _ => ?_) (fun hc => absurd hc (by decide))
              refine V_iinc (x5 + 4) 2 [(5, .int (x5 + 4)), (7, .int 0), (6, .int v24), (4, .int x4), (0, .ref t), (1, .int x1), (2, .int x2), (3, .int x3)] 227 dX8_knows_224 rfl (by rw [kiconst_4]) (by decide) rfl rfl ?_
              refine V_goto 46 dX8_knows_227 (by decide) ?_
              refine V_ls [(5, .int (x5 + 4)), (4, .int x4), (0, .ref t), (1, .int x1), (2, .int x2), (3, .int x3)] [0, 3, 4, 5, 6, 7] rfl ?_
              exact ih _ _ _ _ hf hk
            · rw [if_neg c39] at hf
              refine V_iload 0 112 rfl dX8_knows_110 rfl ?_
              refine V_iload_n 4 113 rfl dX8_knows_112 rfl rfl ?_
              refine V_icmp_eq 136 116 dX8_knows_113 (by decide) rfl (fun c40 => ?_) (fun c40 => ?_)
              · rw [if_pos c40] at hf
                refine V_iconst 1 137 dX8_knows_136 rfl kiconst_1 ?_
                refine V_goto 141 dX8_knows_137 (by decide) ?_
                refine V_istore [(7, .int 1), (6, .int v24), (5, .int x5), (4, .int x4), (0, .ref t), (1, .int x1), (2, .int x2), (3, .int x3)] 143 dX8_knows_141 (by decide) rfl rfl ?_
                refine V_iload 0 145 rfl dX8_knows_143 rfl ?_
                refine V_if_eq 224 148 dX8_knows_145 (by decide) rfl (fun hc => absurd hc (by decide)) (fun _ => ?_)
                refine V_aload_n 4 149 rfl dX8_knows_148 rfl rfl ?_
                obtain ⟨q42, h41, hf⟩ := ob hf
                refine V_getQ (n := 27) (ty := tyX8) 152 h41 cf_7 rfl wd_fl_X8_9 dX8_knows_149 rfl ?_
                refine V_iload 2 154 rfl dX8_knows_152 rfl ?_
                refine V_iconst 2 155 dX8_knows_154 rfl kiconst_2 ?_
                refine V_iadd 156 dX8_knows_155 rfl ?_
                obtain ⟨v44, h43, hf⟩ := ob hf
                refine V_iald 157 h43 dX8_knows_156 rfl ?_
                refine V_aload_n 4 158 rfl dX8_knows_157 rfl rfl ?_
                obtain ⟨q46, h45, hf⟩ := ob hf
                refine V_getQ (n := 27) (ty := tyX8) 161 h45 cf_7 rfl wd_fl_X8_46 dX8_knows_158 rfl ?_
                refine V_iload 1 163 rfl dX8_knows_161 rfl ?_
                obtain ⟨v48, h47, hf⟩ := ob hf
                refine V_iald 164 h47 dX8_knows_163 rfl ?_
                refine V_iadd 165 dX8_knows_164 rfl ?_
                refine V_istore [(8, .int (v44 + v48)), (7, .int 1), (6, .int v24), (5, .int x5), (4, .int x4), (0, .ref t), (1, .int x1), (2, .int x2), (3, .int x3)] 167 dX8_knows_165 (by decide) rfl rfl ?_
                refine V_iload 4 169 rfl dX8_knows_167 rfl ?_
                refine V_istore [(9, .int x4), (8, .int (v44 + v48)), (7, .int 1), (6, .int v24), (5, .int x5), (4, .int x4), (0, .ref t), (1, .int x1), (2, .int x2), (3, .int x3)] 171 dX8_knows_169 (by decide) rfl rfl ?_
                obtain ⟨p63, h64, hf⟩ := ob hf
                refine V_ls [(9, .int x4), (8, .int (v44 + v48)), (5, .int x5), (4, .int x4), (0, .ref t), (1, .int x1), (2, .int x2), (3, .int x3)] [0, 1, 4, 5, 6, 7, 8, 9] rfl ?_
                refine L171 (v44 + v48) x5 x4 x1 x2 x3 3000 x4 σ p63 h64 ?_
                refine V_aload_n 4 213 rfl dX8_knows_212 rfl rfl ?_
                obtain ⟨q66, h65, hf⟩ := ob hf
                refine V_getQ (n := 27) (ty := tyX8) 216 h65 cf_7 rfl wd_fl_X8_49 dX8_knows_213 rfl ?_
                refine V_iload 0 218 rfl dX8_knows_216 rfl ?_
                refine V_iload 1 220 rfl dX8_knows_218 rfl ?_
                obtain ⟨s68, h67, hf⟩ := ob hf
                refine V_iast 221 h67 dX8_knows_220 rfl ?_
                refine V_iinc (x4 + 1) 3 [(4, .int (x4 + 1)), (9, .int p63.1), (8, .int (v44 + v48)), (5, .int x5), (0, .ref t), (1, .int x1), (2, .int x2), (3, .int x3)] 224 dX8_knows_221 rfl (by rw [kiconst_1]) (by decide) rfl rfl ?_
                refine V_iinc (x5 + 4) 3 [(5, .int (x5 + 4)), (4, .int (x4 + 1)), (9, .int p63.1), (8, .int (v44 + v48)), (0, .ref t), (1, .int x1), (2, .int x2), (3, .int x3)] 227 dX8_knows_224 rfl (by rw [kiconst_4]) (by decide) rfl rfl ?_
                refine V_goto 46 dX8_knows_227 (by decide) ?_
                refine V_ls [(5, .int (x5 + 4)), (4, .int (x4 + 1)), (0, .ref t), (1, .int x1), (2, .int x2), (3, .int x3)] [0, 1, 4, 5, 6, 7] rfl ?_
                exact ih _ _ _ _ hf hk
              · rw [if_neg c40] at hf
                refine V_aload_n 3 117 rfl dX8_knows_116 rfl rfl ?_
                refine V_iconst 2 118 dX8_knows_117 rfl kiconst_2 ?_
                refine V_iload 0 120 rfl dX8_knows_118 rfl ?_
                refine V_iload_n 5 121 rfl dX8_knows_120 rfl rfl ?_
                refine V_aload_n 3 122 rfl dX8_knows_121 rfl rfl ?_
                obtain ⟨q70, h69, hf⟩ := ob hf
                refine V_getQ (n := 27) (ty := tyX8) 125 h69 cf_7 rfl wd_fl_X8_9 dX8_knows_122 rfl ?_
                refine V_iload 1 127 rfl dX8_knows_125 rfl ?_
                refine V_iconst 2 128 dX8_knows_127 rfl kiconst_2 ?_
                refine V_iadd 129 dX8_knows_128 rfl ?_
                obtain ⟨v72, h71, hf⟩ := ob hf
                refine V_iald 130 h71 dX8_knows_129 rfl ?_
                obtain ⟨p74, h73, hf⟩ := ob hf
                refine V_callV (rest := []) (T := TX8) (n := 27) (ci := 7) 0 0 133 [.int p74.1] (c_X8_given l G (d + 0) _ _ _ _ _ _ _ _ h73) (by omega) ok_X8_given okv_X8_given (gd_X8_given h73) rfl wd_ml_X8_218 rfl rfl (Nat.le_of_ble_eq_true rfl) rfl rfl (Or.inl ⟨rfl, rfl⟩) dX8_knows_130 rfl rfl ?_
                have kj90 : V mi_X8_knows l G (d + 3) 0 0 X 0 0 141 [(6, .int v24), (5, .int x5), (4, .int x4), (0, .ref t), (1, .int x1), (2, .int x2), (3, .int x3)] [.int (if p74.1 = 0 then 0 else 1 : Int32)] p74.2 := by
                  refine V_istore [(7, .int (if p74.1 = 0 then 0 else 1 : Int32)), (6, .int v24), (5, .int x5), (4, .int x4), (0, .ref t), (1, .int x1), (2, .int x2), (3, .int x3)] 143 dX8_knows_141 (by decide) rfl rfl ?_
                  refine V_iload 0 145 rfl dX8_knows_143 rfl ?_
                  refine V_if_eq 224 148 dX8_knows_145 (by decide) rfl (fun c75 => ?_) (fun c75 => ?_)
                  · rw [if_pos c75] at hf
                    refine V_iinc (x5 + 4) 2 [(5, .int (x5 + 4)), (7, .int (if p74.1 = 0 then 0 else 1 : Int32)), (6, .int v24), (4, .int x4), (0, .ref t), (1, .int x1), (2, .int x2), (3, .int x3)] 227 dX8_knows_224 rfl (by rw [kiconst_4]) (by decide) rfl rfl ?_
                    refine V_goto 46 dX8_knows_227 (by decide) ?_
                    refine V_ls [(5, .int (x5 + 4)), (4, .int x4), (0, .ref t), (1, .int x1), (2, .int x2), (3, .int x3)] [0, 3, 4, 5, 6, 7] rfl ?_
                    exact ih _ _ _ _ hf hk
                  · rw [if_neg c75] at hf
                    refine V_aload_n 4 149 rfl dX8_knows_148 rfl rfl ?_
                    obtain ⟨q77, h76, hf⟩ := ob hf
                    refine V_getQ (n := 27) (ty := tyX8) 152 h76 cf_7 rfl wd_fl_X8_9 dX8_knows_149 rfl ?_
                    refine V_iload 2 154 rfl dX8_knows_152 rfl ?_
                    refine V_iconst 2 155 dX8_knows_154 rfl kiconst_2 ?_
                    refine V_iadd 156 dX8_knows_155 rfl ?_
                    obtain ⟨v79, h78, hf⟩ := ob hf
                    refine V_iald 157 h78 dX8_knows_156 rfl ?_
                    refine V_aload_n 4 158 rfl dX8_knows_157 rfl rfl ?_
                    obtain ⟨q81, h80, hf⟩ := ob hf
                    refine V_getQ (n := 27) (ty := tyX8) 161 h80 cf_7 rfl wd_fl_X8_46 dX8_knows_158 rfl ?_
                    refine V_iload 1 163 rfl dX8_knows_161 rfl ?_
                    obtain ⟨v83, h82, hf⟩ := ob hf
                    refine V_iald 164 h82 dX8_knows_163 rfl ?_
                    refine V_iadd 165 dX8_knows_164 rfl ?_
                    refine V_istore [(8, .int (v79 + v83)), (7, .int (if p74.1 = 0 then 0 else 1 : Int32)), (6, .int v24), (5, .int x5), (4, .int x4), (0, .ref t), (1, .int x1), (2, .int x2), (3, .int x3)] 167 dX8_knows_165 (by decide) rfl rfl ?_
                    refine V_iload 4 169 rfl dX8_knows_167 rfl ?_
                    refine V_istore [(9, .int x4), (8, .int (v79 + v83)), (7, .int (if p74.1 = 0 then 0 else 1 : Int32)), (6, .int v24), (5, .int x5), (4, .int x4), (0, .ref t), (1, .int x1), (2, .int x2), (3, .int x3)] 171 dX8_knows_169 (by decide) rfl rfl ?_
                    obtain ⟨p84, h85, hf⟩ := ob hf
                    refine V_ls [(9, .int x4), (8, .int (v79 + v83)), (5, .int x5), (4, .int x4), (0, .ref t), (1, .int x1), (2, .int x2), (3, .int x3)] [0, 1, 4, 5, 6, 7, 8, 9] rfl ?_
                    refine L171 (v79 + v83) x5 x4 x1 x2 x3 3000 x4 p74.2 p84 h85 ?_
                    refine V_aload_n 4 213 rfl dX8_knows_212 rfl rfl ?_
                    obtain ⟨q87, h86, hf⟩ := ob hf
                    refine V_getQ (n := 27) (ty := tyX8) 216 h86 cf_7 rfl wd_fl_X8_49 dX8_knows_213 rfl ?_
                    refine V_iload 0 218 rfl dX8_knows_216 rfl ?_
                    refine V_iload 1 220 rfl dX8_knows_218 rfl ?_
                    obtain ⟨s89, h88, hf⟩ := ob hf
                    refine V_iast 221 h88 dX8_knows_220 rfl ?_
                    refine V_iinc (x4 + 1) 3 [(4, .int (x4 + 1)), (9, .int p84.1), (8, .int (v79 + v83)), (5, .int x5), (0, .ref t), (1, .int x1), (2, .int x2), (3, .int x3)] 224 dX8_knows_221 rfl (by rw [kiconst_1]) (by decide) rfl rfl ?_
                    refine V_iinc (x5 + 4) 3 [(5, .int (x5 + 4)), (4, .int (x4 + 1)), (9, .int p84.1), (8, .int (v79 + v83)), (0, .ref t), (1, .int x1), (2, .int x2), (3, .int x3)] 227 dX8_knows_224 rfl (by rw [kiconst_4]) (by decide) rfl rfl ?_
                    refine V_goto 46 dX8_knows_227 (by decide) ?_
                    refine V_ls [(5, .int (x5 + 4)), (4, .int (x4 + 1)), (0, .ref t), (1, .int x1), (2, .int x2), (3, .int x3)] [0, 1, 4, 5, 6, 7] rfl ?_
                    exact ih _ _ _ _ hf hk
                refine V_if_eq 140 136 dX8_knows_133 (by decide) rfl (fun c91 => ?_) (fun c91 => ?_)
                · refine V_iconst 0 141 dX8_knows_140 rfl kiconst_0 ?_
                  refine V_ls [(6, .int v24), (5, .int x5), (4, .int x4), (0, .ref t), (1, .int x1), (2, .int x2), (3, .int x3)] [0, 1, 2, 3, 4, 5, 6] rfl ?_
                  simp only [if_pos c91] at kj90
                  exact kj90
                · refine V_iconst 1 137 dX8_knows_136 rfl kiconst_1 ?_
                  refine V_goto 141 dX8_knows_137 (by decide) ?_
                  refine V_ls [(6, .int v24), (5, .int x5), (4, .int x4), (0, .ref t), (1, .int x1), (2, .int x2), (3, .int x3)] [0, 1, 2, 3, 4, 5, 6] rfl ?_
                  simp only [if_neg c91] at kj90
                  exact kj90
  by_cases hg : isO σ 7 t = true
  · rw [if_pos hg] at hf
    refine V_iload_n 1 1 rfl dX8_knows_0 rfl rfl ?_
    obtain ⟨v2, h1, hf⟩ := ob hf
    refine V_callS (rest := []) 0 0 4 [.int v2] (c_X8_isHouse l G (d + 0) _ _ _ h1) (by omega) ok_X8_isHouse oks_X8_isHouse wd_ml_X8_276 rfl rfl (Nat.le_of_ble_eq_true rfl) rfl rfl (Or.inl ⟨rfl, rfl⟩) dX8_knows_1 rfl rfl ?_
    refine V_if_eq 26 7 dX8_knows_4 (by decide) rfl (fun c3 => ?_) (fun c3 => ?_)
    · rw [if_pos c3] at hf
      refine V_aload_n 0 27 rfl dX8_knows_26 rfl rfl ?_
      refine V_ldc (-1000001) 29 dX8_knows_27 rfl wd_kk_X8_76 ?_
      obtain ⟨p5, h4, hf⟩ := ob hf
      refine V_callV (rest := []) (T := TX8) (n := 27) (ci := 7) 0 0 32 [.int p5.1] (c_X8_finding l G (d + 1) _ _ _ _ _ h4) (by omega) ok_X8_finding okv_X8_finding (gd_X8_finding h4) rfl wd_ml_X8_77 rfl rfl (Nat.le_of_ble_eq_true rfl) rfl rfl (Or.inl ⟨rfl, rfl⟩) dX8_knows_29 rfl rfl ?_
      have er := Option.some.inj hf
      obtain ⟨e1, e2⟩ := Prod.mk.inj er
      subst e1
      subst e2
      exact V_iret hQ rfl dX8_knows_32
    · rw [if_neg c3] at hf
      refine V_aload_n 0 8 rfl dX8_knows_7 rfl rfl ?_
      refine V_iload_n 2 9 rfl dX8_knows_8 rfl rfl ?_
      refine V_iconst 0 10 dX8_knows_9 rfl kiconst_0 ?_
      obtain ⟨v7, h6, hf⟩ := ob hf
      refine V_callV (rest := []) (T := TX8) (n := 27) (ci := 7) 0 0 13 [.int v7] (c_X8_is l G (d + 0) _ _ _ _ _ h6) (by omega) ok_X8_is okv_X8_is (gd_X8_is h6) rfl wd_ml_X8_83 rfl rfl (Nat.le_of_ble_eq_true rfl) rfl rfl (Or.inl ⟨rfl, rfl⟩) dX8_knows_10 rfl rfl ?_
      refine V_if_eq 26 16 dX8_knows_13 (by decide) rfl (fun c8 => ?_) (fun c8 => ?_)
      · rw [if_pos c8] at hf
        refine V_aload_n 0 27 rfl dX8_knows_26 rfl rfl ?_
        refine V_ldc (-1000001) 29 dX8_knows_27 rfl wd_kk_X8_76 ?_
        obtain ⟨p10, h9, hf⟩ := ob hf
        refine V_callV (rest := []) (T := TX8) (n := 27) (ci := 7) 0 0 32 [.int p10.1] (c_X8_finding l G (d + 1) _ _ _ _ _ h9) (by omega) ok_X8_finding okv_X8_finding (gd_X8_finding h9) rfl wd_ml_X8_77 rfl rfl (Nat.le_of_ble_eq_true rfl) rfl rfl (Or.inl ⟨rfl, rfl⟩) dX8_knows_29 rfl rfl ?_
        have er := Option.some.inj hf
        obtain ⟨e1, e2⟩ := Prod.mk.inj er
        subst e1
        subst e2
        exact V_iret hQ rfl dX8_knows_32
      · rw [if_neg c8] at hf
        refine V_iload_n 3 17 rfl dX8_knows_16 rfl rfl ?_
        refine V_iconst 1 18 dX8_knows_17 rfl kiconst_1 ?_
        refine V_bipush 30 20 dX8_knows_18 rfl kbipush_30 ?_
        obtain ⟨v12, h11, hf⟩ := ob hf
        refine V_callS (rest := []) 0 0 23 [.int v12] (c_X8_within l G (d + 1) _ _ _ _ _ h11) (by omega) ok_X8_within oks_X8_within wd_ml_X8_68 rfl rfl (Nat.le_of_ble_eq_true rfl) rfl rfl (Or.inl ⟨rfl, rfl⟩) dX8_knows_20 rfl rfl ?_
        refine V_if_ne 33 26 dX8_knows_23 (by decide) rfl (fun c13 => ?_) (fun c13 => ?_)
        · rw [if_neg c13] at hf
          refine V_aload_n 0 34 rfl dX8_knows_33 rfl rfl ?_
          refine V_iload_n 1 35 rfl dX8_knows_34 rfl rfl ?_
          obtain ⟨s15, h14, hf⟩ := ob hf
          refine V_callV (rest := []) (T := TX8) (n := 27) (ci := 7) 0 0 38 [] (c_X8_findFar l G (d + 0) _ _ _ _ h14) (by omega) ok_X8_findFar okv_X8_findFar (gd_X8_findFar h14) rfl wd_ml_X8_282 rfl rfl (Nat.le_of_ble_eq_true rfl) rfl rfl (Or.inl ⟨rfl, rfl⟩) dX8_knows_35 rfl rfl ?_
          refine V_iconst 0 39 dX8_knows_38 rfl kiconst_0 ?_
          refine V_istore [(4, .int 0), (0, .ref t), (1, .int a0), (2, .int a1), (3, .int a2)] 41 dX8_knows_39 (by decide) rfl rfl ?_
          refine V_sipush 838 44 dX8_knows_41 rfl ksipush_838 ?_
          refine V_istore [(5, .int 838), (4, .int 0), (0, .ref t), (1, .int a0), (2, .int a1), (3, .int a2)] 46 dX8_knows_44 (by decide) rfl rfl ?_
          obtain ⟨p92, h93, hf⟩ := ob hf
          refine V_ls [(5, .int 838), (4, .int 0), (0, .ref t), (1, .int a0), (2, .int a1), (3, .int a2)] [0, 1, 2, 3, 4, 5] rfl ?_
          refine L46 a0 a1 a2 3000 838 0 s15 p92 h93 ?_
          refine V_iload_n 5 231 rfl dX8_knows_230 rfl rfl ?_
          refine V_iload 1 233 rfl dX8_knows_231 rfl ?_
          refine V_icmp_gt 247 236 dX8_knows_233 (by decide) rfl (fun c94 => ?_) (fun c94 => ?_)
          · rw [if_pos c94] at hf
            refine V_aload_n 2 248 rfl dX8_knows_247 rfl rfl ?_
            refine V_ldc (-1000002) 250 dX8_knows_248 rfl wd_kk_X8_113 ?_
            obtain ⟨p96, h95, hf⟩ := ob hf
            refine V_callV (rest := []) (T := TX8) (n := 27) (ci := 7) 0 0 253 [.int p96.1] (c_X8_finding l G (d + 1) _ _ _ _ _ h95) (by omega) ok_X8_finding okv_X8_finding (gd_X8_finding h95) rfl wd_ml_X8_77 rfl rfl (Nat.le_of_ble_eq_true rfl) rfl rfl (Or.inl ⟨rfl, rfl⟩) dX8_knows_250 rfl rfl ?_
            have er := Option.some.inj hf
            obtain ⟨e1, e2⟩ := Prod.mk.inj er
            subst e1
            subst e2
            exact V_iret hQ rfl dX8_knows_253
          · rw [if_neg c94] at hf
            refine V_aload_n 2 237 rfl dX8_knows_236 rfl rfl ?_
            obtain ⟨q98, h97, hf⟩ := ob hf
            refine V_getQ (n := 27) (ty := tyX8) 240 h97 cf_7 rfl wd_fl_X8_49 dX8_knows_237 rfl ?_
            refine V_iload_n 5 241 rfl dX8_knows_240 rfl rfl ?_
            refine V_iconst 1 242 dX8_knows_241 rfl kiconst_1 ?_
            refine V_isub 243 dX8_knows_242 rfl ?_
            obtain ⟨v100, h99, hf⟩ := ob hf
            refine V_iald 244 h99 dX8_knows_243 rfl ?_
            refine V_goto 253 dX8_knows_244 (by decide) ?_
            have er := Option.some.inj hf
            obtain ⟨e1, e2⟩ := Prod.mk.inj er
            subst e1
            subst e2
            exact V_iret hQ rfl dX8_knows_253
        · rw [if_pos c13] at hf
          refine V_aload_n 0 27 rfl dX8_knows_26 rfl rfl ?_
          refine V_ldc (-1000001) 29 dX8_knows_27 rfl wd_kk_X8_76 ?_
          obtain ⟨p102, h101, hf⟩ := ob hf
          refine V_callV (rest := []) (T := TX8) (n := 27) (ci := 7) 0 0 32 [.int p102.1] (c_X8_finding l G (d + 1) _ _ _ _ _ h101) (by omega) ok_X8_finding okv_X8_finding (gd_X8_finding h101) rfl wd_ml_X8_77 rfl rfl (Nat.le_of_ble_eq_true rfl) rfl rfl (Or.inl ⟨rfl, rfl⟩) dX8_knows_29 rfl rfl ?_
          have er := Option.some.inj hf
          obtain ⟨e1, e2⟩ := Prod.mk.inj er
          subst e1
          subst e2
          exact V_iret hQ rfl dX8_knows_32
  · rw [if_neg hg] at hf
    cases hf
abbrev mi_X8_areCurves : MI := (yX8_areCurves, cX8_areCurves, 2, some .boolean)
theorem ok_X8_areCurves : OkN mi_X8_areCurves 1 := ⟨wd_cd_X8_areCurves, wd_in_X8, ⟨by decide +kernel, by decide +kernel, by decide +kernel⟩, by decide⟩
theorem okv_X8_areCurves : Cond.instanceMethod (mi_X8_areCurves).1 ∈ tb ∧ Cond.selects (mi_X8_areCurves).1.cls (mi_X8_areCurves).1 (mi_X8_areCurves).1 ∈ tb := ⟨wd_im_X8_areCurves, wd_se_X8_areCurves⟩
def f_X8_areCurves (σ : St) (t : Nat) (a0 : Int32) : Option Int32 := if isO σ 7 t = true then ((gQ σ 7 t 0).bind fun q2 => (aI σ 0 q2 1).bind fun v4 => (f_X8_within σ a0 0 (((1 : Int32) <<< (v4 &&& 31)) - 1)).bind fun v6 => (zr v6).bind fun z7 => some v6) else none
theorem gd_X8_areCurves {σ : St} {t : Nat} {a0 : Int32} {r : Int32} (h : f_X8_areCurves σ t a0 = some r) : isO σ 7 t = true := by
  unfold f_X8_areCurves at h
  by_cases hg : isO σ 7 t = true
  · exact hg
  · rw [if_neg hg] at h
    cases h
set_option maxRecDepth 100000 in
set_option maxHeartbeats 4000000 in
theorem c_X8_areCurves (l : Launch) (G : Gd) (d : Nat) (σ : St) (t : Nat) (a0 : Int32) (r0 : Int32) (hf : f_X8_areCurves σ t a0 = some r0) : MetV l G (d + 2) mi_X8_areCurves [.ref t, .int a0] σ (some (.int r0)) σ 0 0 := by
  unfold f_X8_areCurves at hf
  refine MetV.of [(0, .ref t), (1, .int a0)] (by decide +kernel) rfl (Nat.le_of_ble_eq_true rfl) ?_
  intro X hQ
  by_cases hg : isO σ 7 t = true
  · rw [if_pos hg] at hf
    refine V_iload_n 1 1 rfl dX8_areCurves_0 rfl rfl ?_
    refine V_iconst 0 2 dX8_areCurves_1 rfl kiconst_0 ?_
    refine V_iconst 1 3 dX8_areCurves_2 rfl kiconst_1 ?_
    refine V_aload_n 0 4 rfl dX8_areCurves_3 rfl rfl ?_
    obtain ⟨q2, h1, hf⟩ := ob hf
    refine V_getQ (n := 27) (ty := tyX8) 7 h1 cf_7 rfl wd_fl_X8_9 dX8_areCurves_4 rfl ?_
    refine V_iconst 1 8 dX8_areCurves_7 rfl kiconst_1 ?_
    obtain ⟨v4, h3, hf⟩ := ob hf
    refine V_iald 9 h3 dX8_areCurves_8 rfl ?_
    refine V_ishl 10 dX8_areCurves_9 rfl ?_
    refine V_iconst 1 11 dX8_areCurves_10 rfl kiconst_1 ?_
    refine V_isub 12 dX8_areCurves_11 rfl ?_
    obtain ⟨v6, h5, hf⟩ := ob hf
    refine V_callS (rest := []) 0 0 15 [.int v6] (c_X8_within l G (d + 0) _ _ _ _ _ h5) (by omega) ok_X8_within oks_X8_within wd_ml_X8_68 rfl rfl (Nat.le_of_ble_eq_true rfl) rfl rfl (Or.inl ⟨rfl, rfl⟩) dX8_areCurves_12 rfl rfl ?_
    obtain ⟨z7, h8, hf⟩ := ob hf
    have er := Option.some.inj hf
    subst er
    exact V_zret (zr_ok h8) hQ rfl dX8_areCurves_15
  · rw [if_neg hg] at hf
    cases hf
abbrev mi_X8_rule : MI := (yX8_rule, cX8_rule, 4, some .int)
theorem ok_X8_rule : OkN mi_X8_rule 2 := ⟨wd_cd_X8_rule, wd_in_X8, ⟨by decide +kernel, by decide +kernel, by decide +kernel⟩, by decide⟩
theorem okv_X8_rule : Cond.instanceMethod (mi_X8_rule).1 ∈ tb ∧ Cond.selects (mi_X8_rule).1.cls (mi_X8_rule).1 (mi_X8_rule).1 ∈ tb := ⟨wd_im_X8_rule, wd_se_X8_rule⟩
def f_X8_rule (σ : St) (t : Nat) (a0 : Int32) (a1 : Int32) : Option (Int32 × St) := if isO σ 7 t = true then ((f_X8_within σ a0 1 99).bind fun v2 => if v2 = 0 then ((f_X8_finding σ t (-1000001)).bind fun p5 => some (p5.1, p5.2)) else ((f_X8_areCurves σ t a1).bind fun v7 => if v7 = 0 then ((f_X8_finding σ t (-1000001)).bind fun p31 => some (p31.1, p31.2)) else ((gQ σ 7 t 0).bind fun q10 => (aI σ 0 q10 4).bind fun v12 => if v12 = 8 then ((f_X8_finding σ t (-1000004)).bind fun p29 => some (p29.1, p29.2)) else ((gQ σ 7 t 0).bind fun q15 => (sI σ q15 ((958 : Int32) + ((2 : Int32) * v12)) a0).bind fun s17 => (gQ s17 7 t 0).bind fun q19 => (sI s17 q19 (((958 : Int32) + ((2 : Int32) * v12)) + 1) a1).bind fun s21 => (gQ s21 7 t 0).bind fun q23 => (aI s21 0 q23 4).bind fun v25 => (sI s21 q23 4 (v25 + 1)).bind fun s27 => some (v12, s27))))) else none
theorem gd_X8_rule {σ : St} {t : Nat} {a0 : Int32} {a1 : Int32} {r : Int32 × St} (h : f_X8_rule σ t a0 a1 = some r) : isO σ 7 t = true := by
  unfold f_X8_rule at h
  by_cases hg : isO σ 7 t = true
  · exact hg
  · rw [if_neg hg] at h
    cases h
set_option maxRecDepth 100000 in
set_option maxHeartbeats 4000000 in
theorem c_X8_rule (l : Launch) (G : Gd) (d : Nat) (σ : St) (t : Nat) (a0 : Int32) (a1 : Int32) (r0 : Int32) (σ' : St) (hf : f_X8_rule σ t a0 a1 = some (r0, σ')) : MetV l G (d + 3) mi_X8_rule [.ref t, .int a0, .int a1] σ (some (.int r0)) σ' 0 0 := by
  unfold f_X8_rule at hf
  refine MetV.of [(0, .ref t), (1, .int a0), (2, .int a1)] (by decide +kernel) rfl (Nat.le_of_ble_eq_true rfl) ?_
  intro X hQ
  by_cases hg : isO σ 7 t = true
  · rw [if_pos hg] at hf
    refine V_iload_n 1 1 rfl dX8_rule_0 rfl rfl ?_
    refine V_iconst 1 2 dX8_rule_1 rfl kiconst_1 ?_
    refine V_bipush 99 4 dX8_rule_2 rfl kbipush_99 ?_
    obtain ⟨v2, h1, hf⟩ := ob hf
    refine V_callS (rest := []) 0 0 7 [.int v2] (c_X8_within l G (d + 1) _ _ _ _ _ h1) (by omega) ok_X8_within oks_X8_within wd_ml_X8_68 rfl rfl (Nat.le_of_ble_eq_true rfl) rfl rfl (Or.inl ⟨rfl, rfl⟩) dX8_rule_4 rfl rfl ?_
    refine V_if_eq 18 10 dX8_rule_7 (by decide) rfl (fun c3 => ?_) (fun c3 => ?_)
    · rw [if_pos c3] at hf
      refine V_aload_n 0 19 rfl dX8_rule_18 rfl rfl ?_
      refine V_ldc (-1000001) 21 dX8_rule_19 rfl wd_kk_X8_76 ?_
      obtain ⟨p5, h4, hf⟩ := ob hf
      refine V_callV (rest := []) (T := TX8) (n := 27) (ci := 7) 0 0 24 [.int p5.1] (c_X8_finding l G (d + 1) _ _ _ _ _ h4) (by omega) ok_X8_finding okv_X8_finding (gd_X8_finding h4) rfl wd_ml_X8_77 rfl rfl (Nat.le_of_ble_eq_true rfl) rfl rfl (Or.inl ⟨rfl, rfl⟩) dX8_rule_21 rfl rfl ?_
      have er := Option.some.inj hf
      obtain ⟨e1, e2⟩ := Prod.mk.inj er
      subst e1
      subst e2
      exact V_iret hQ rfl dX8_rule_24
    · rw [if_neg c3] at hf
      refine V_aload_n 0 11 rfl dX8_rule_10 rfl rfl ?_
      refine V_iload_n 2 12 rfl dX8_rule_11 rfl rfl ?_
      obtain ⟨v7, h6, hf⟩ := ob hf
      refine V_callV (rest := []) (T := TX8) (n := 27) (ci := 7) 0 0 15 [.int v7] (c_X8_areCurves l G (d + 0) _ _ _ _ h6) (by omega) ok_X8_areCurves okv_X8_areCurves (gd_X8_areCurves h6) rfl wd_ml_X8_285 rfl rfl (Nat.le_of_ble_eq_true rfl) rfl rfl (Or.inl ⟨rfl, rfl⟩) dX8_rule_12 rfl rfl ?_
      refine V_if_ne 25 18 dX8_rule_15 (by decide) rfl (fun c8 => ?_) (fun c8 => ?_)
      · rw [if_neg c8] at hf
        refine V_aload_n 0 26 rfl dX8_rule_25 rfl rfl ?_
        obtain ⟨q10, h9, hf⟩ := ob hf
        refine V_getQ (n := 27) (ty := tyX8) 29 h9 cf_7 rfl wd_fl_X8_9 dX8_rule_26 rfl ?_
        refine V_iconst 4 30 dX8_rule_29 rfl kiconst_4 ?_
        obtain ⟨v12, h11, hf⟩ := ob hf
        refine V_iald 31 h11 dX8_rule_30 rfl ?_
        refine V_istore_n [(3, .int v12), (0, .ref t), (1, .int a0), (2, .int a1)] 32 dX8_rule_31 rfl (by decide) rfl rfl ?_
        refine V_iload_n 0 33 rfl dX8_rule_32 rfl rfl ?_
        refine V_bipush 8 35 dX8_rule_33 rfl kbipush_8 ?_
        refine V_icmp_ne 45 38 dX8_rule_35 (by decide) rfl (fun c13 => ?_) (fun c13 => ?_)
        · rw [if_neg c13] at hf
          refine V_aload_n 1 46 rfl dX8_rule_45 rfl rfl ?_
          obtain ⟨q15, h14, hf⟩ := ob hf
          refine V_getQ (n := 27) (ty := tyX8) 49 h14 cf_7 rfl wd_fl_X8_9 dX8_rule_46 rfl ?_
          refine V_sipush 958 52 dX8_rule_49 rfl ksipush_958 ?_
          refine V_iconst 2 53 dX8_rule_52 rfl kiconst_2 ?_
          refine V_iload_n 0 54 rfl dX8_rule_53 rfl rfl ?_
          refine V_imul 55 dX8_rule_54 rfl ?_
          refine V_iadd 56 dX8_rule_55 rfl ?_
          refine V_iload_n 2 57 rfl dX8_rule_56 rfl rfl ?_
          obtain ⟨s17, h16, hf⟩ := ob hf
          refine V_iast 58 h16 dX8_rule_57 rfl ?_
          refine V_aload_n 1 59 rfl dX8_rule_58 rfl rfl ?_
          obtain ⟨q19, h18, hf⟩ := ob hf
          refine V_getQ (n := 27) (ty := tyX8) 62 h18 cf_7 rfl wd_fl_X8_9 dX8_rule_59 rfl ?_
          refine V_sipush 958 65 dX8_rule_62 rfl ksipush_958 ?_
          refine V_iconst 2 66 dX8_rule_65 rfl kiconst_2 ?_
          refine V_iload_n 0 67 rfl dX8_rule_66 rfl rfl ?_
          refine V_imul 68 dX8_rule_67 rfl ?_
          refine V_iadd 69 dX8_rule_68 rfl ?_
          refine V_iconst 1 70 dX8_rule_69 rfl kiconst_1 ?_
          refine V_iadd 71 dX8_rule_70 rfl ?_
          refine V_iload_n 3 72 rfl dX8_rule_71 rfl rfl ?_
          obtain ⟨s21, h20, hf⟩ := ob hf
          refine V_iast 73 h20 dX8_rule_72 rfl ?_
          refine V_aload_n 1 74 rfl dX8_rule_73 rfl rfl ?_
          obtain ⟨q23, h22, hf⟩ := ob hf
          refine V_getQ (n := 27) (ty := tyX8) 77 h22 cf_7 rfl wd_fl_X8_9 dX8_rule_74 rfl ?_
          refine V_iconst 4 78 dX8_rule_77 rfl kiconst_4 ?_
          refine V_dup2 79 dX8_rule_78 rfl rfl rfl ?_
          obtain ⟨v25, h24, hf⟩ := ob hf
          refine V_iald 80 h24 dX8_rule_79 rfl ?_
          refine V_iconst 1 81 dX8_rule_80 rfl kiconst_1 ?_
          refine V_iadd 82 dX8_rule_81 rfl ?_
          obtain ⟨s27, h26, hf⟩ := ob hf
          refine V_iast 83 h26 dX8_rule_82 rfl ?_
          refine V_iload_n 0 84 rfl dX8_rule_83 rfl rfl ?_
          have er := Option.some.inj hf
          obtain ⟨e1, e2⟩ := Prod.mk.inj er
          subst e1
          subst e2
          exact V_iret hQ rfl dX8_rule_84
        · rw [if_pos c13] at hf
          refine V_aload_n 1 39 rfl dX8_rule_38 rfl rfl ?_
          refine V_ldc (-1000004) 41 dX8_rule_39 rfl wd_kk_X8_82 ?_
          obtain ⟨p29, h28, hf⟩ := ob hf
          refine V_callV (rest := []) (T := TX8) (n := 27) (ci := 7) 0 0 44 [.int p29.1] (c_X8_finding l G (d + 1) _ _ _ _ _ h28) (by omega) ok_X8_finding okv_X8_finding (gd_X8_finding h28) rfl wd_ml_X8_77 rfl rfl (Nat.le_of_ble_eq_true rfl) rfl rfl (Or.inl ⟨rfl, rfl⟩) dX8_rule_41 rfl rfl ?_
          have er := Option.some.inj hf
          obtain ⟨e1, e2⟩ := Prod.mk.inj er
          subst e1
          subst e2
          exact V_iret hQ rfl dX8_rule_44
      · rw [if_pos c8] at hf
        refine V_aload_n 0 19 rfl dX8_rule_18 rfl rfl ?_
        refine V_ldc (-1000001) 21 dX8_rule_19 rfl wd_kk_X8_76 ?_
        obtain ⟨p31, h30, hf⟩ := ob hf
        refine V_callV (rest := []) (T := TX8) (n := 27) (ci := 7) 0 0 24 [.int p31.1] (c_X8_finding l G (d + 1) _ _ _ _ _ h30) (by omega) ok_X8_finding okv_X8_finding (gd_X8_finding h30) rfl wd_ml_X8_77 rfl rfl (Nat.le_of_ble_eq_true rfl) rfl rfl (Or.inl ⟨rfl, rfl⟩) dX8_rule_21 rfl rfl ?_
        have er := Option.some.inj hf
        obtain ⟨e1, e2⟩ := Prod.mk.inj er
        subst e1
        subst e2
        exact V_iret hQ rfl dX8_rule_24
  · rw [if_neg hg] at hf
    cases hf
abbrev mi_X8_rules : MI := (yX8_rules, cX8_rules, 10, some .int)
theorem ok_X8_rules : OkN mi_X8_rules 3 := ⟨wd_cd_X8_rules, wd_in_X8, ⟨by decide +kernel, by decide +kernel, by decide +kernel⟩, by decide⟩
theorem okv_X8_rules : Cond.instanceMethod (mi_X8_rules).1 ∈ tb ∧ Cond.selects (mi_X8_rules).1.cls (mi_X8_rules).1 (mi_X8_rules).1 ∈ tb := ⟨wd_im_X8_rules, wd_se_X8_rules⟩
def f_X8_rules_L65 (σ : St) (x6 : Int32) (t : Nat) : Nat → Int32 → Int32 → Int32 → Option (Int32 × Int32 × Int32)
  | 0, _, _, _ => none
  | n + 1, x9, x8, x7 => (gQ σ 7 t 0).bind fun q20 => (aI σ 0 q20 4).bind fun v22 => if v22 ≤ x9 then (some (x9, x8, x7)) else ((f_X8_has σ x6 x9).bind fun v25 => if v25 = 0 then ((f_X8_has σ x6 x9).bind fun v28 => if v28 = 0 then (f_X8_rules_L65 σ x6 t n (x9 + 1) (x8 + 0) (x7 ||| 0)) else ((gQ σ 7 t 0).bind fun q31 => (aI σ 0 q31 ((958 : Int32) + ((2 : Int32) * x9))).bind fun v33 => f_X8_rules_L65 σ x6 t n (x9 + 1) (x8 + v33) (x7 ||| 0))) else ((gQ σ 7 t 0).bind fun q35 => (aI σ 0 q35 (((958 : Int32) + ((2 : Int32) * x9)) + 1)).bind fun v37 => (f_X8_has σ x6 x9).bind fun v39 => if v39 = 0 then (f_X8_rules_L65 σ x6 t n (x9 + 1) (x8 + 0) (x7 ||| v37)) else ((gQ σ 7 t 0).bind fun q42 => (aI σ 0 q42 ((958 : Int32) + ((2 : Int32) * x9))).bind fun v44 => f_X8_rules_L65 σ x6 t n (x9 + 1) (x8 + v44) (x7 ||| v37))))
def f_X8_rules_L43 (σ : St) (t : Nat) (x1 : Int32) (x2 : Int32) : Nat → Int32 → Int32 → Int32 → Option (Int32 × Int32 × Int32)
  | 0, _, _, _ => none
  | n + 1, x6, x5, x4 => (gQ σ 7 t 0).bind fun q15 => (aI σ 0 q15 4).bind fun v17 => if ((1 : Int32) <<< (v17 &&& 31)) ≤ x6 then (some (x6, x5, x4)) else ((f_X8_rules_L65 σ x6 t 3000 0 0 0).bind fun p45 => (f_X8_bits σ (p45.2.2 &&& x1)).bind fun v48 => if v48 < x2 then (f_X8_rules_L43 σ t x1 x2 n (x6 + 1) x5 x4) else (if x4 < 0 then (f_X8_rules_L43 σ t x1 x2 n (x6 + 1) p45.2.1 x6) else (if p45.2.1 < x5 then (f_X8_rules_L43 σ t x1 x2 n (x6 + 1) p45.2.1 x6) else (if p45.2.1 = x5 then ((f_X8_bits σ x6).bind fun v54 => (f_X8_bits σ x4).bind fun v56 => f_X8_rules_L43 σ t x1 x2 n (x6 + 1) (if v56 ≤ v54 then x5 else (p45.2.1) : Int32) (if v56 ≤ v54 then x4 else x6 : Int32)) else (f_X8_rules_L43 σ t x1 x2 n (x6 + 1) x5 x4)))))
def f_X8_rules (σ : St) (t : Nat) (a0 : Int32) (a1 : Int32) (a2 : Int32) : Option (Int32 × St) := if isO σ 7 t = true then ((f_X8_areCurves σ t a0).bind fun v2 => if v2 = 0 then ((f_X8_finding σ t (-1000001)).bind fun p5 => some (p5.1, p5.2)) else ((f_X8_within σ a1 1 24).bind fun v7 => if v7 = 0 then ((f_X8_finding σ t (-1000001)).bind fun p10 => some (p10.1, p10.2)) else ((f_X8_within σ a2 0 1).bind fun v12 => if v12 = 0 then ((f_X8_finding σ t (-1000001)).bind fun p67 => some (p67.1, p67.2)) else ((f_X8_rules_L43 σ t a0 a1 3000 0 0 (-1)).bind fun p59 => if 0 ≤ p59.2.2 then (some ((if a2 = 0 then (p59.2.1) else (p59.2.2) : Int32), σ)) else ((f_X8_finding σ t (-1000002)).bind fun p65 => some (p65.1, p65.2)))))) else none
theorem gd_X8_rules {σ : St} {t : Nat} {a0 : Int32} {a1 : Int32} {a2 : Int32} {r : Int32 × St} (h : f_X8_rules σ t a0 a1 a2 = some r) : isO σ 7 t = true := by
  unfold f_X8_rules at h
  by_cases hg : isO σ 7 t = true
  · exact hg
  · rw [if_neg hg] at h
    cases h
set_option maxRecDepth 100000 in
set_option maxHeartbeats 4000000 in
theorem c_X8_rules (l : Launch) (G : Gd) (d : Nat) (σ : St) (t : Nat) (a0 : Int32) (a1 : Int32) (a2 : Int32) (r0 : Int32) (σ' : St) (hf : f_X8_rules σ t a0 a1 a2 = some (r0, σ')) : MetV l G (d + 3) mi_X8_rules [.ref t, .int a0, .int a1, .int a2] σ (some (.int r0)) σ' 0 0 := by
  unfold f_X8_rules at hf
  refine MetV.of [(0, .ref t), (1, .int a0), (2, .int a1), (3, .int a2)] (by decide +kernel) rfl (Nat.le_of_ble_eq_true rfl) ?_
  intro X hQ
  have L65 : ∀ (σ : St) (x6 : Int32) (x5 : Int32) (x4 : Int32) (x1 : Int32) (x2 : Int32) (x3 : Int32) (n : Nat) (x9 : Int32) (x8 : Int32) (x7 : Int32) (p : Int32 × Int32 × Int32), f_X8_rules_L65 σ x6 t n x9 x8 x7 = some p → V mi_X8_rules l G (d + 3) 0 0 X 0 0 148 [(9, .int p.1), (8, .int p.2.1), (7, .int p.2.2), (6, .int x6), (5, .int x5), (4, .int x4), (0, .ref t), (1, .int x1), (2, .int x2), (3, .int x3)] [] σ → V mi_X8_rules l G (d + 3) 0 0 X 0 0 65 [(9, .int x9), (8, .int x8), (7, .int x7), (6, .int x6), (5, .int x5), (4, .int x4), (0, .ref t), (1, .int x1), (2, .int x2), (3, .int x3)] [] σ := by
    intro σ x6 x5 x4 x1 x2 x3 n
    induction n with
    | zero =>
      intro x9 x8 x7 p hf
      exact absurd (show (none : Option _) = some p from hf) (by simp)
    | succ n ih =>
      intro x9 x8 x7 p hf hk
      rw [f_X8_rules_L65] at hf
      refine V_iload 0 67 rfl dX8_rules_65 rfl ?_
      refine V_aload_n 6 68 rfl dX8_rules_67 rfl rfl ?_
      obtain ⟨q20, h19, hf⟩ := ob hf
      refine V_getQ (n := 27) (ty := tyX8) 71 h19 cf_7 rfl wd_fl_X8_9 dX8_rules_68 rfl ?_
      refine V_iconst 4 72 dX8_rules_71 rfl kiconst_4 ?_
      obtain ⟨v22, h21, hf⟩ := ob hf
      refine V_iald 73 h21 dX8_rules_72 rfl ?_
      refine V_icmp_ge 148 76 dX8_rules_73 (by decide) rfl (fun c23 => ?_) (fun c23 => ?_)
      · rw [if_pos c23] at hf
        have ep := Option.some.inj hf
        subst ep
        refine V_ls [(9, .int x9), (8, .int x8), (7, .int x7), (6, .int x6), (5, .int x5), (4, .int x4), (0, .ref t), (1, .int x1), (2, .int x2), (3, .int x3)] [0, 1, 2, 3, 4, 5, 6, 7, 8, 9] rfl ?_
        exact hk
      · rw [if_neg c23] at hf
        refine V_iload 2 78 rfl dX8_rules_76 rfl ?_
        refine V_iload 3 80 rfl dX8_rules_78 rfl ?_
        refine V_iload 0 82 rfl dX8_rules_80 rfl ?_
        obtain ⟨v25, h24, hf⟩ := ob hf
        refine V_callS (rest := [.int x7]) 0 0 85 [.int v25, .int x7] (c_X8_has l G (d + 1) _ _ _ _ h24) (by omega) ok_X8_has oks_X8_has wd_ml_X8_137 rfl rfl (Nat.le_of_ble_eq_true rfl) rfl rfl (Or.inl ⟨rfl, rfl⟩) dX8_rules_82 rfl rfl ?_
        refine V_if_eq 106 88 dX8_rules_85 (by decide) rfl (fun c26 => ?_) (fun c26 => ?_)
        · rw [if_pos c26] at hf
          refine V_iconst 0 107 dX8_rules_106 rfl kiconst_0 ?_
          refine V_ior 108 dX8_rules_107 rfl ?_
          refine V_istore [(7, .int (x7 ||| 0)), (9, .int x9), (8, .int x8), (6, .int x6), (5, .int x5), (4, .int x4), (0, .ref t), (1, .int x1), (2, .int x2), (3, .int x3)] 110 dX8_rules_108 (by decide) rfl rfl ?_
          refine V_iload 2 112 rfl dX8_rules_110 rfl ?_
          refine V_iload 3 114 rfl dX8_rules_112 rfl ?_
          refine V_iload 1 116 rfl dX8_rules_114 rfl ?_
          obtain ⟨v28, h27, hf⟩ := ob hf
          refine V_callS (rest := [.int x8]) 0 0 119 [.int v28, .int x8] (c_X8_has l G (d + 1) _ _ _ _ h27) (by omega) ok_X8_has oks_X8_has wd_ml_X8_137 rfl rfl (Nat.le_of_ble_eq_true rfl) rfl rfl (Or.inl ⟨rfl, rfl⟩) dX8_rules_116 rfl rfl ?_
          refine V_if_eq 138 122 dX8_rules_119 (by decide) rfl (fun c29 => ?_) (fun c29 => ?_)
          · rw [if_pos c29] at hf
            refine V_iconst 0 139 dX8_rules_138 rfl kiconst_0 ?_
            refine V_iadd 140 dX8_rules_139 rfl ?_
            refine V_istore [(8, .int (x8 + 0)), (7, .int (x7 ||| 0)), (9, .int x9), (6, .int x6), (5, .int x5), (4, .int x4), (0, .ref t), (1, .int x1), (2, .int x2), (3, .int x3)] 142 dX8_rules_140 (by decide) rfl rfl ?_
            refine V_iinc (x9 + 1) 2 [(9, .int (x9 + 1)), (8, .int (x8 + 0)), (7, .int (x7 ||| 0)), (6, .int x6), (5, .int x5), (4, .int x4), (0, .ref t), (1, .int x1), (2, .int x2), (3, .int x3)] 145 dX8_rules_142 rfl (by rw [kiconst_1]) (by decide) rfl rfl ?_
            refine V_goto 65 dX8_rules_145 (by decide) ?_
            refine V_ls [(9, .int (x9 + 1)), (8, .int (x8 + 0)), (7, .int (x7 ||| 0)), (6, .int x6), (5, .int x5), (4, .int x4), (0, .ref t), (1, .int x1), (2, .int x2), (3, .int x3)] [0, 1, 2, 3, 4, 5, 6, 7, 8, 9] rfl ?_
            exact ih _ _ _ _ hf hk
          · rw [if_neg c29] at hf
            refine V_aload_n 6 123 rfl dX8_rules_122 rfl rfl ?_
            obtain ⟨q31, h30, hf⟩ := ob hf
            refine V_getQ (n := 27) (ty := tyX8) 126 h30 cf_7 rfl wd_fl_X8_9 dX8_rules_123 rfl ?_
            refine V_sipush 958 129 dX8_rules_126 rfl ksipush_958 ?_
            refine V_iconst 2 130 dX8_rules_129 rfl kiconst_2 ?_
            refine V_iload 1 132 rfl dX8_rules_130 rfl ?_
            refine V_imul 133 dX8_rules_132 rfl ?_
            refine V_iadd 134 dX8_rules_133 rfl ?_
            obtain ⟨v33, h32, hf⟩ := ob hf
            refine V_iald 135 h32 dX8_rules_134 rfl ?_
            refine V_goto 139 dX8_rules_135 (by decide) ?_
            refine V_iadd 140 dX8_rules_139 rfl ?_
            refine V_istore [(8, .int (x8 + v33)), (7, .int (x7 ||| 0)), (9, .int x9), (6, .int x6), (5, .int x5), (4, .int x4), (0, .ref t), (1, .int x1), (2, .int x2), (3, .int x3)] 142 dX8_rules_140 (by decide) rfl rfl ?_
            refine V_iinc (x9 + 1) 2 [(9, .int (x9 + 1)), (8, .int (x8 + v33)), (7, .int (x7 ||| 0)), (6, .int x6), (5, .int x5), (4, .int x4), (0, .ref t), (1, .int x1), (2, .int x2), (3, .int x3)] 145 dX8_rules_142 rfl (by rw [kiconst_1]) (by decide) rfl rfl ?_
            refine V_goto 65 dX8_rules_145 (by decide) ?_
            refine V_ls [(9, .int (x9 + 1)), (8, .int (x8 + v33)), (7, .int (x7 ||| 0)), (6, .int x6), (5, .int x5), (4, .int x4), (0, .ref t), (1, .int x1), (2, .int x2), (3, .int x3)] [0, 1, 2, 3, 4, 5, 6, 7, 8, 9] rfl ?_
            exact ih _ _ _ _ hf hk
        · rw [if_neg c26] at hf
          refine V_aload_n 6 89 rfl dX8_rules_88 rfl rfl ?_
          obtain ⟨q35, h34, hf⟩ := ob hf
          refine V_getQ (n := 27) (ty := tyX8) 92 h34 cf_7 rfl wd_fl_X8_9 dX8_rules_89 rfl ?_
          refine V_sipush 958 95 dX8_rules_92 rfl ksipush_958 ?_
          refine V_iconst 2 96 dX8_rules_95 rfl kiconst_2 ?_
          refine V_iload 0 98 rfl dX8_rules_96 rfl ?_
          refine V_imul 99 dX8_rules_98 rfl ?_
          refine V_iadd 100 dX8_rules_99 rfl ?_
          refine V_iconst 1 101 dX8_rules_100 rfl kiconst_1 ?_
          refine V_iadd 102 dX8_rules_101 rfl ?_
          obtain ⟨v37, h36, hf⟩ := ob hf
          refine V_iald 103 h36 dX8_rules_102 rfl ?_
          refine V_goto 107 dX8_rules_103 (by decide) ?_
          refine V_ior 108 dX8_rules_107 rfl ?_
          refine V_istore [(7, .int (x7 ||| v37)), (9, .int x9), (8, .int x8), (6, .int x6), (5, .int x5), (4, .int x4), (0, .ref t), (1, .int x1), (2, .int x2), (3, .int x3)] 110 dX8_rules_108 (by decide) rfl rfl ?_
          refine V_iload 2 112 rfl dX8_rules_110 rfl ?_
          refine V_iload 3 114 rfl dX8_rules_112 rfl ?_
          refine V_iload 1 116 rfl dX8_rules_114 rfl ?_
          obtain ⟨v39, h38, hf⟩ := ob hf
          refine V_callS (rest := [.int x8]) 0 0 119 [.int v39, .int x8] (c_X8_has l G (d + 1) _ _ _ _ h38) (by omega) ok_X8_has oks_X8_has wd_ml_X8_137 rfl rfl (Nat.le_of_ble_eq_true rfl) rfl rfl (Or.inl ⟨rfl, rfl⟩) dX8_rules_116 rfl rfl ?_
          refine V_if_eq 138 122 dX8_rules_119 (by decide) rfl (fun c40 => ?_) (fun c40 => ?_)
          · rw [if_pos c40] at hf
            refine V_iconst 0 139 dX8_rules_138 rfl kiconst_0 ?_
            refine V_iadd 140 dX8_rules_139 rfl ?_
            refine V_istore [(8, .int (x8 + 0)), (7, .int (x7 ||| v37)), (9, .int x9), (6, .int x6), (5, .int x5), (4, .int x4), (0, .ref t), (1, .int x1), (2, .int x2), (3, .int x3)] 142 dX8_rules_140 (by decide) rfl rfl ?_
            refine V_iinc (x9 + 1) 2 [(9, .int (x9 + 1)), (8, .int (x8 + 0)), (7, .int (x7 ||| v37)), (6, .int x6), (5, .int x5), (4, .int x4), (0, .ref t), (1, .int x1), (2, .int x2), (3, .int x3)] 145 dX8_rules_142 rfl (by rw [kiconst_1]) (by decide) rfl rfl ?_
            refine V_goto 65 dX8_rules_145 (by decide) ?_
            refine V_ls [(9, .int (x9 + 1)), (8, .int (x8 + 0)), (7, .int (x7 ||| v37)), (6, .int x6), (5, .int x5), (4, .int x4), (0, .ref t), (1, .int x1), (2, .int x2), (3, .int x3)] [0, 1, 2, 3, 4, 5, 6, 7, 8, 9] rfl ?_
            exact ih _ _ _ _ hf hk
          · rw [if_neg c40] at hf
            refine V_aload_n 6 123 rfl dX8_rules_122 rfl rfl ?_
            obtain ⟨q42, h41, hf⟩ := ob hf
            refine V_getQ (n := 27) (ty := tyX8) 126 h41 cf_7 rfl wd_fl_X8_9 dX8_rules_123 rfl ?_
            refine V_sipush 958 129 dX8_rules_126 rfl ksipush_958 ?_
            refine V_iconst 2 130 dX8_rules_129 rfl kiconst_2 ?_
            refine V_iload 1 132 rfl dX8_rules_130 rfl ?_
            refine V_imul 133 dX8_rules_132 rfl ?_
            refine V_iadd 134 dX8_rules_133 rfl ?_
            obtain ⟨v44, h43, hf⟩ := ob hf
            refine V_iald 135 h43 dX8_rules_134 rfl ?_
            refine V_goto 139 dX8_rules_135 (by decide) ?_
            refine V_iadd 140 dX8_rules_139 rfl ?_
            refine V_istore [(8, .int (x8 + v44)), (7, .int (x7 ||| v37)), (9, .int x9), (6, .int x6), (5, .int x5), (4, .int x4), (0, .ref t), (1, .int x1), (2, .int x2), (3, .int x3)] 142 dX8_rules_140 (by decide) rfl rfl ?_
            refine V_iinc (x9 + 1) 2 [(9, .int (x9 + 1)), (8, .int (x8 + v44)), (7, .int (x7 ||| v37)), (6, .int x6), (5, .int x5), (4, .int x4), (0, .ref t), (1, .int x1), (2, .int x2), (3, .int x3)] 145 dX8_rules_142 rfl (by rw [kiconst_1]) (by decide) rfl rfl ?_
            refine V_goto 65 dX8_rules_145 (by decide) ?_
            refine V_ls [(9, .int (x9 + 1)), (8, .int (x8 + v44)), (7, .int (x7 ||| v37)), (6, .int x6), (5, .int x5), (4, .int x4), (0, .ref t), (1, .int x1), (2, .int x2), (3, .int x3)] [0, 1, 2, 3, 4, 5, 6, 7, 8, 9] rfl ?_
            exact ih _ _ _ _ hf hk
  have L43 : ∀ (σ : St) (x1 : Int32) (x2 : Int32) (x3 : Int32) (n : Nat) (x6 : Int32) (x5 : Int32) (x4 : Int32) (p : Int32 × Int32 × Int32), f_X8_rules_L43 σ t x1 x2 n x6 x5 x4 = some p → V mi_X8_rules l G (d + 3) 0 0 X 0 0 205 [(6, .int p.1), (5, .int p.2.1), (4, .int p.2.2), (0, .ref t), (1, .int x1), (2, .int x2), (3, .int x3)] [] σ → V mi_X8_rules l G (d + 3) 0 0 X 0 0 43 [(6, .int x6), (5, .int x5), (4, .int x4), (0, .ref t), (1, .int x1), (2, .int x2), (3, .int x3)] [] σ := by
    intro σ x1 x2 x3 n
    induction n with
    | zero =>
      intro x6 x5 x4 p hf
      exact absurd (show (none : Option _) = some p from hf) (by simp)
    | succ n ih =>
      intro x6 x5 x4 p hf hk
      rw [f_X8_rules_L43] at hf
      refine V_iload 0 45 rfl dX8_rules_43 rfl ?_
      refine V_iconst 1 46 dX8_rules_45 rfl kiconst_1 ?_
      refine V_aload_n 3 47 rfl dX8_rules_46 rfl rfl ?_
      obtain ⟨q15, h14, hf⟩ := ob hf
      refine V_getQ (n := 27) (ty := tyX8) 50 h14 cf_7 rfl wd_fl_X8_9 dX8_rules_47 rfl ?_
      refine V_iconst 4 51 dX8_rules_50 rfl kiconst_4 ?_
      obtain ⟨v17, h16, hf⟩ := ob hf
      refine V_iald 52 h16 dX8_rules_51 rfl ?_
      refine V_ishl 53 dX8_rules_52 rfl ?_
      refine V_icmp_ge 205 56 dX8_rules_53 (by decide) rfl (fun c18 => ?_) (fun c18 => ?_)
      · rw [if_pos c18] at hf
        have ep := Option.some.inj hf
        subst ep
        refine V_ls [(6, .int x6), (5, .int x5), (4, .int x4), (0, .ref t), (1, .int x1), (2, .int x2), (3, .int x3)] [0, 1, 2, 3, 4, 5, 6] rfl ?_
        exact hk
      · rw [if_neg c18] at hf
        refine V_iconst 0 57 dX8_rules_56 rfl kiconst_0 ?_
        refine V_istore [(7, .int 0), (6, .int x6), (5, .int x5), (4, .int x4), (0, .ref t), (1, .int x1), (2, .int x2), (3, .int x3)] 59 dX8_rules_57 (by decide) rfl rfl ?_
        refine V_iconst 0 60 dX8_rules_59 rfl kiconst_0 ?_
        refine V_istore [(8, .int 0), (7, .int 0), (6, .int x6), (5, .int x5), (4, .int x4), (0, .ref t), (1, .int x1), (2, .int x2), (3, .int x3)] 62 dX8_rules_60 (by decide) rfl rfl ?_
        refine V_iconst 0 63 dX8_rules_62 rfl kiconst_0 ?_
        refine V_istore [(9, .int 0), (8, .int 0), (7, .int 0), (6, .int x6), (5, .int x5), (4, .int x4), (0, .ref t), (1, .int x1), (2, .int x2), (3, .int x3)] 65 dX8_rules_63 (by decide) rfl rfl ?_
        obtain ⟨p45, h46, hf⟩ := ob hf
        refine V_ls [(9, .int 0), (8, .int 0), (7, .int 0), (6, .int x6), (5, .int x5), (4, .int x4), (0, .ref t), (1, .int x1), (2, .int x2), (3, .int x3)] [0, 1, 2, 3, 4, 5, 6, 7, 8, 9] rfl ?_
        refine L65 σ x6 x5 x4 x1 x2 x3 3000 0 0 0 p45 h46 ?_
        refine V_iload 2 150 rfl dX8_rules_148 rfl ?_
        refine V_iload_n 7 151 rfl dX8_rules_150 rfl rfl ?_
        refine V_iand 152 dX8_rules_151 rfl ?_
        obtain ⟨v48, h47, hf⟩ := ob hf
        refine V_callS (rest := []) 0 0 155 [.int v48] (c_X8_bits l G (d + 1) _ _ _ h47) (by omega) ok_X8_bits oks_X8_bits wd_ml_X8_269 rfl rfl (Nat.le_of_ble_eq_true rfl) rfl rfl (Or.inl ⟨rfl, rfl⟩) dX8_rules_152 rfl rfl ?_
        refine V_iload_n 8 156 rfl dX8_rules_155 rfl rfl ?_
        refine V_icmp_lt 199 159 dX8_rules_156 (by decide) rfl (fun c49 => ?_) (fun c49 => ?_)
        · rw [if_pos c49] at hf
          refine V_iinc (x6 + 1) 3 [(6, .int (x6 + 1)), (9, .int p45.1), (8, .int p45.2.1), (7, .int p45.2.2), (5, .int x5), (4, .int x4), (0, .ref t), (1, .int x1), (2, .int x2), (3, .int x3)] 202 dX8_rules_199 rfl (by rw [kiconst_1]) (by decide) rfl rfl ?_
          refine V_goto 43 dX8_rules_202 (by decide) ?_
          refine V_ls [(6, .int (x6 + 1)), (5, .int x5), (4, .int x4), (0, .ref t), (1, .int x1), (2, .int x2), (3, .int x3)] [0, 4, 5, 6, 7, 8, 9] rfl ?_
          exact ih _ _ _ _ hf hk
        · rw [if_neg c49] at hf
          refine V_iload 5 161 rfl dX8_rules_159 rfl ?_
          refine V_if_lt 191 164 dX8_rules_161 (by decide) rfl (fun c50 => ?_) (fun c50 => ?_)
          · rw [if_pos c50] at hf
            refine V_iload 3 193 rfl dX8_rules_191 rfl ?_
            refine V_istore [(4, .int x6), (9, .int p45.1), (8, .int p45.2.1), (7, .int p45.2.2), (6, .int x6), (5, .int x5), (0, .ref t), (1, .int x1), (2, .int x2), (3, .int x3)] 195 dX8_rules_193 (by decide) rfl rfl ?_
            refine V_iload 2 197 rfl dX8_rules_195 rfl ?_
            refine V_istore [(5, .int p45.2.1), (4, .int x6), (9, .int p45.1), (8, .int p45.2.1), (7, .int p45.2.2), (6, .int x6), (0, .ref t), (1, .int x1), (2, .int x2), (3, .int x3)] 199 dX8_rules_197 (by decide) rfl rfl ?_
            refine V_iinc (x6 + 1) 5 [(6, .int (x6 + 1)), (5, .int p45.2.1), (4, .int x6), (9, .int p45.1), (8, .int p45.2.1), (7, .int p45.2.2), (0, .ref t), (1, .int x1), (2, .int x2), (3, .int x3)] 202 dX8_rules_199 rfl (by rw [kiconst_1]) (by decide) rfl rfl ?_
            refine V_goto 43 dX8_rules_202 (by decide) ?_
            refine V_ls [(6, .int (x6 + 1)), (5, .int p45.2.1), (4, .int x6), (0, .ref t), (1, .int x1), (2, .int x2), (3, .int x3)] [0, 1, 2, 6, 7, 8, 9] rfl ?_
            exact ih _ _ _ _ hf hk
          · rw [if_neg c50] at hf
            refine V_iload 1 166 rfl dX8_rules_164 rfl ?_
            refine V_iload 4 168 rfl dX8_rules_166 rfl ?_
            refine V_icmp_lt 191 171 dX8_rules_168 (by decide) rfl (fun c51 => ?_) (fun c51 => ?_)
            · rw [if_pos c51] at hf
              refine V_iload 3 193 rfl dX8_rules_191 rfl ?_
              refine V_istore [(4, .int x6), (9, .int p45.1), (8, .int p45.2.1), (7, .int p45.2.2), (6, .int x6), (5, .int x5), (0, .ref t), (1, .int x1), (2, .int x2), (3, .int x3)] 195 dX8_rules_193 (by decide) rfl rfl ?_
              refine V_iload 2 197 rfl dX8_rules_195 rfl ?_
              refine V_istore [(5, .int p45.2.1), (4, .int x6), (9, .int p45.1), (8, .int p45.2.1), (7, .int p45.2.2), (6, .int x6), (0, .ref t), (1, .int x1), (2, .int x2), (3, .int x3)] 199 dX8_rules_197 (by decide) rfl rfl ?_
              refine V_iinc (x6 + 1) 5 [(6, .int (x6 + 1)), (5, .int p45.2.1), (4, .int x6), (9, .int p45.1), (8, .int p45.2.1), (7, .int p45.2.2), (0, .ref t), (1, .int x1), (2, .int x2), (3, .int x3)] 202 dX8_rules_199 rfl (by rw [kiconst_1]) (by decide) rfl rfl ?_
              refine V_goto 43 dX8_rules_202 (by decide) ?_
              refine V_ls [(6, .int (x6 + 1)), (5, .int p45.2.1), (4, .int x6), (0, .ref t), (1, .int x1), (2, .int x2), (3, .int x3)] [0, 1, 2, 6, 7, 8, 9] rfl ?_
              exact ih _ _ _ _ hf hk
            · rw [if_neg c51] at hf
              refine V_iload 1 173 rfl dX8_rules_171 rfl ?_
              refine V_iload 4 175 rfl dX8_rules_173 rfl ?_
              refine V_icmp_ne 199 178 dX8_rules_175 (by decide) rfl (fun c52 => ?_) (fun c52 => ?_)
              · rw [if_neg c52] at hf
                refine V_iinc (x6 + 1) 3 [(6, .int (x6 + 1)), (9, .int p45.1), (8, .int p45.2.1), (7, .int p45.2.2), (5, .int x5), (4, .int x4), (0, .ref t), (1, .int x1), (2, .int x2), (3, .int x3)] 202 dX8_rules_199 rfl (by rw [kiconst_1]) (by decide) rfl rfl ?_
                refine V_goto 43 dX8_rules_202 (by decide) ?_
                refine V_ls [(6, .int (x6 + 1)), (5, .int x5), (4, .int x4), (0, .ref t), (1, .int x1), (2, .int x2), (3, .int x3)] [0, 4, 5, 6, 7, 8, 9] rfl ?_
                exact ih _ _ _ _ hf hk
              · rw [if_pos c52] at hf
                refine V_iload 3 180 rfl dX8_rules_178 rfl ?_
                obtain ⟨v54, h53, hf⟩ := ob hf
                refine V_callS (rest := []) 0 0 183 [.int v54] (c_X8_bits l G (d + 1) _ _ _ h53) (by omega) ok_X8_bits oks_X8_bits wd_ml_X8_269 rfl rfl (Nat.le_of_ble_eq_true rfl) rfl rfl (Or.inl ⟨rfl, rfl⟩) dX8_rules_180 rfl rfl ?_
                refine V_iload 5 185 rfl dX8_rules_183 rfl ?_
                obtain ⟨v56, h55, hf⟩ := ob hf
                refine V_callS (rest := [.int v54]) 0 0 188 [.int v56, .int v54] (c_X8_bits l G (d + 1) _ _ _ h55) (by omega) ok_X8_bits oks_X8_bits wd_ml_X8_269 rfl rfl (Nat.le_of_ble_eq_true rfl) rfl rfl (Or.inl ⟨rfl, rfl⟩) dX8_rules_185 rfl rfl ?_
                have kj57 : V mi_X8_rules l G (d + 3) 0 0 X 0 0 199 [(9, .int p45.1), (8, .int p45.2.1), (7, .int p45.2.2), (6, .int x6), (5, .int (if v56 ≤ v54 then x5 else (p45.2.1) : Int32)), (4, .int (if v56 ≤ v54 then x4 else x6 : Int32)), (0, .ref t), (1, .int x1), (2, .int x2), (3, .int x3)] [] σ := by
                  refine V_iinc (x6 + 1) 3 [(6, .int (x6 + 1)), (9, .int p45.1), (8, .int p45.2.1), (7, .int p45.2.2), (5, .int (if v56 ≤ v54 then x5 else (p45.2.1) : Int32)), (4, .int (if v56 ≤ v54 then x4 else x6 : Int32)), (0, .ref t), (1, .int x1), (2, .int x2), (3, .int x3)] 202 dX8_rules_199 rfl (by rw [kiconst_1]) (by decide) rfl rfl ?_
                  refine V_goto 43 dX8_rules_202 (by decide) ?_
                  refine V_ls [(6, .int (x6 + 1)), (5, .int (if v56 ≤ v54 then x5 else (p45.2.1) : Int32)), (4, .int (if v56 ≤ v54 then x4 else x6 : Int32)), (0, .ref t), (1, .int x1), (2, .int x2), (3, .int x3)] [0, 4, 5, 6, 7, 8, 9] rfl ?_
                  exact ih _ _ _ _ hf hk
                refine V_icmp_ge 199 191 dX8_rules_188 (by decide) rfl (fun c58 => ?_) (fun c58 => ?_)
                · refine V_ls [(9, .int p45.1), (8, .int p45.2.1), (7, .int p45.2.2), (6, .int x6), (5, .int x5), (4, .int x4), (0, .ref t), (1, .int x1), (2, .int x2), (3, .int x3)] [0, 1, 2, 3, 4, 5, 6, 7, 8, 9] rfl ?_
                  simp only [if_pos c58] at kj57
                  exact kj57
                · refine V_iload 3 193 rfl dX8_rules_191 rfl ?_
                  refine V_istore [(4, .int x6), (9, .int p45.1), (8, .int p45.2.1), (7, .int p45.2.2), (6, .int x6), (5, .int x5), (0, .ref t), (1, .int x1), (2, .int x2), (3, .int x3)] 195 dX8_rules_193 (by decide) rfl rfl ?_
                  refine V_iload 2 197 rfl dX8_rules_195 rfl ?_
                  refine V_istore [(5, .int p45.2.1), (4, .int x6), (9, .int p45.1), (8, .int p45.2.1), (7, .int p45.2.2), (6, .int x6), (0, .ref t), (1, .int x1), (2, .int x2), (3, .int x3)] 199 dX8_rules_197 (by decide) rfl rfl ?_
                  refine V_ls [(9, .int p45.1), (8, .int p45.2.1), (7, .int p45.2.2), (6, .int x6), (5, .int p45.2.1), (4, .int x6), (0, .ref t), (1, .int x1), (2, .int x2), (3, .int x3)] [2, 3, 4, 5, 0, 1, 6, 7, 8, 9] rfl ?_
                  simp only [if_neg c58] at kj57
                  exact kj57
  by_cases hg : isO σ 7 t = true
  · rw [if_pos hg] at hf
    refine V_aload_n 0 1 rfl dX8_rules_0 rfl rfl ?_
    refine V_iload_n 1 2 rfl dX8_rules_1 rfl rfl ?_
    obtain ⟨v2, h1, hf⟩ := ob hf
    refine V_callV (rest := []) (T := TX8) (n := 27) (ci := 7) 0 0 5 [.int v2] (c_X8_areCurves l G (d + 0) _ _ _ _ h1) (by omega) ok_X8_areCurves okv_X8_areCurves (gd_X8_areCurves h1) rfl wd_ml_X8_285 rfl rfl (Nat.le_of_ble_eq_true rfl) rfl rfl (Or.inl ⟨rfl, rfl⟩) dX8_rules_2 rfl rfl ?_
    refine V_if_eq 27 8 dX8_rules_5 (by decide) rfl (fun c3 => ?_) (fun c3 => ?_)
    · rw [if_pos c3] at hf
      refine V_aload_n 0 28 rfl dX8_rules_27 rfl rfl ?_
      refine V_ldc (-1000001) 30 dX8_rules_28 rfl wd_kk_X8_76 ?_
      obtain ⟨p5, h4, hf⟩ := ob hf
      refine V_callV (rest := []) (T := TX8) (n := 27) (ci := 7) 0 0 33 [.int p5.1] (c_X8_finding l G (d + 1) _ _ _ _ _ h4) (by omega) ok_X8_finding okv_X8_finding (gd_X8_finding h4) rfl wd_ml_X8_77 rfl rfl (Nat.le_of_ble_eq_true rfl) rfl rfl (Or.inl ⟨rfl, rfl⟩) dX8_rules_30 rfl rfl ?_
      have er := Option.some.inj hf
      obtain ⟨e1, e2⟩ := Prod.mk.inj er
      subst e1
      subst e2
      exact V_iret hQ rfl dX8_rules_33
    · rw [if_neg c3] at hf
      refine V_iload_n 2 9 rfl dX8_rules_8 rfl rfl ?_
      refine V_iconst 1 10 dX8_rules_9 rfl kiconst_1 ?_
      refine V_bipush 24 12 dX8_rules_10 rfl kbipush_24 ?_
      obtain ⟨v7, h6, hf⟩ := ob hf
      refine V_callS (rest := []) 0 0 15 [.int v7] (c_X8_within l G (d + 1) _ _ _ _ _ h6) (by omega) ok_X8_within oks_X8_within wd_ml_X8_68 rfl rfl (Nat.le_of_ble_eq_true rfl) rfl rfl (Or.inl ⟨rfl, rfl⟩) dX8_rules_12 rfl rfl ?_
      refine V_if_eq 27 18 dX8_rules_15 (by decide) rfl (fun c8 => ?_) (fun c8 => ?_)
      · rw [if_pos c8] at hf
        refine V_aload_n 0 28 rfl dX8_rules_27 rfl rfl ?_
        refine V_ldc (-1000001) 30 dX8_rules_28 rfl wd_kk_X8_76 ?_
        obtain ⟨p10, h9, hf⟩ := ob hf
        refine V_callV (rest := []) (T := TX8) (n := 27) (ci := 7) 0 0 33 [.int p10.1] (c_X8_finding l G (d + 1) _ _ _ _ _ h9) (by omega) ok_X8_finding okv_X8_finding (gd_X8_finding h9) rfl wd_ml_X8_77 rfl rfl (Nat.le_of_ble_eq_true rfl) rfl rfl (Or.inl ⟨rfl, rfl⟩) dX8_rules_30 rfl rfl ?_
        have er := Option.some.inj hf
        obtain ⟨e1, e2⟩ := Prod.mk.inj er
        subst e1
        subst e2
        exact V_iret hQ rfl dX8_rules_33
      · rw [if_neg c8] at hf
        refine V_iload_n 3 19 rfl dX8_rules_18 rfl rfl ?_
        refine V_iconst 0 20 dX8_rules_19 rfl kiconst_0 ?_
        refine V_iconst 1 21 dX8_rules_20 rfl kiconst_1 ?_
        obtain ⟨v12, h11, hf⟩ := ob hf
        refine V_callS (rest := []) 0 0 24 [.int v12] (c_X8_within l G (d + 1) _ _ _ _ _ h11) (by omega) ok_X8_within oks_X8_within wd_ml_X8_68 rfl rfl (Nat.le_of_ble_eq_true rfl) rfl rfl (Or.inl ⟨rfl, rfl⟩) dX8_rules_21 rfl rfl ?_
        refine V_if_ne 34 27 dX8_rules_24 (by decide) rfl (fun c13 => ?_) (fun c13 => ?_)
        · rw [if_neg c13] at hf
          refine V_iconst (-1) 35 dX8_rules_34 rfl kiconst_m1 ?_
          refine V_istore [(4, .int (-1)), (0, .ref t), (1, .int a0), (2, .int a1), (3, .int a2)] 37 dX8_rules_35 (by decide) rfl rfl ?_
          refine V_iconst 0 38 dX8_rules_37 rfl kiconst_0 ?_
          refine V_istore [(5, .int 0), (4, .int (-1)), (0, .ref t), (1, .int a0), (2, .int a1), (3, .int a2)] 40 dX8_rules_38 (by decide) rfl rfl ?_
          refine V_iconst 0 41 dX8_rules_40 rfl kiconst_0 ?_
          refine V_istore [(6, .int 0), (5, .int 0), (4, .int (-1)), (0, .ref t), (1, .int a0), (2, .int a1), (3, .int a2)] 43 dX8_rules_41 (by decide) rfl rfl ?_
          obtain ⟨p59, h60, hf⟩ := ob hf
          refine V_ls [(6, .int 0), (5, .int 0), (4, .int (-1)), (0, .ref t), (1, .int a0), (2, .int a1), (3, .int a2)] [0, 1, 2, 3, 4, 5, 6] rfl ?_
          refine L43 σ a0 a1 a2 3000 0 0 (-1) p59 h60 ?_
          refine V_iload 2 207 rfl dX8_rules_205 rfl ?_
          refine V_if_ge 219 210 dX8_rules_207 (by decide) rfl (fun c61 => ?_) (fun c61 => ?_)
          · rw [if_pos c61] at hf
            refine V_iload_n 6 220 rfl dX8_rules_219 rfl rfl ?_
            have kj62 : V mi_X8_rules l G (d + 3) 0 0 X 0 0 230 [(6, .int p59.1), (5, .int p59.2.1), (4, .int p59.2.2), (0, .ref t), (1, .int a0), (2, .int a1), (3, .int a2)] [.int (if a2 = 0 then (p59.2.1) else (p59.2.2) : Int32)] σ := by
              have er := Option.some.inj hf
              obtain ⟨e1, e2⟩ := Prod.mk.inj er
              subst e1
              subst e2
              exact V_iret hQ rfl dX8_rules_230
            refine V_if_ne 228 223 dX8_rules_220 (by decide) rfl (fun c63 => ?_) (fun c63 => ?_)
            · refine V_iload 2 230 rfl dX8_rules_228 rfl ?_
              refine V_ls [(6, .int p59.1), (5, .int p59.2.1), (4, .int p59.2.2), (0, .ref t), (1, .int a0), (2, .int a1), (3, .int a2)] [0, 1, 2, 3, 4, 5, 6] rfl ?_
              simp only [if_neg c63] at kj62
              exact kj62
            · refine V_iload 1 225 rfl dX8_rules_223 rfl ?_
              refine V_goto 230 dX8_rules_225 (by decide) ?_
              refine V_ls [(6, .int p59.1), (5, .int p59.2.1), (4, .int p59.2.2), (0, .ref t), (1, .int a0), (2, .int a1), (3, .int a2)] [0, 1, 2, 3, 4, 5, 6] rfl ?_
              simp only [if_pos c63] at kj62
              exact kj62
          · rw [if_neg c61] at hf
            refine V_aload_n 3 211 rfl dX8_rules_210 rfl rfl ?_
            refine V_ldc (-1000002) 213 dX8_rules_211 rfl wd_kk_X8_113 ?_
            obtain ⟨p65, h64, hf⟩ := ob hf
            refine V_callV (rest := []) (T := TX8) (n := 27) (ci := 7) 0 0 216 [.int p65.1] (c_X8_finding l G (d + 1) _ _ _ _ _ h64) (by omega) ok_X8_finding okv_X8_finding (gd_X8_finding h64) rfl wd_ml_X8_77 rfl rfl (Nat.le_of_ble_eq_true rfl) rfl rfl (Or.inl ⟨rfl, rfl⟩) dX8_rules_213 rfl rfl ?_
            refine V_goto 230 dX8_rules_216 (by decide) ?_
            have er := Option.some.inj hf
            obtain ⟨e1, e2⟩ := Prod.mk.inj er
            subst e1
            subst e2
            exact V_iret hQ rfl dX8_rules_230
        · rw [if_pos c13] at hf
          refine V_aload_n 0 28 rfl dX8_rules_27 rfl rfl ?_
          refine V_ldc (-1000001) 30 dX8_rules_28 rfl wd_kk_X8_76 ?_
          obtain ⟨p67, h66, hf⟩ := ob hf
          refine V_callV (rest := []) (T := TX8) (n := 27) (ci := 7) 0 0 33 [.int p67.1] (c_X8_finding l G (d + 1) _ _ _ _ _ h66) (by omega) ok_X8_finding okv_X8_finding (gd_X8_finding h66) rfl wd_ml_X8_77 rfl rfl (Nat.le_of_ble_eq_true rfl) rfl rfl (Or.inl ⟨rfl, rfl⟩) dX8_rules_30 rfl rfl ?_
          have er := Option.some.inj hf
          obtain ⟨e1, e2⟩ := Prod.mk.inj er
          subst e1
          subst e2
          exact V_iret hQ rfl dX8_rules_33
  · rw [if_neg hg] at hf
    cases hf
abbrev mi_X8_hasOwn : MI := (yX8_hasOwn, cX8_hasOwn, 2, some .boolean)
theorem ok_X8_hasOwn : OkN mi_X8_hasOwn 2 := ⟨wd_cd_X8_hasOwn, wd_in_X8, ⟨by decide +kernel, by decide +kernel, by decide +kernel⟩, by decide⟩
theorem oks_X8_hasOwn : Cond.static (mi_X8_hasOwn).1 ∈ tb := wd_sm_X8_hasOwn
def f_X8_hasOwn (σ : St) (a0 : Int32) (a1 : Int32) : Option Int32 := if a0 = 0 then (some 1) else (if a0 = 1 then ((zr (if a1 = 1 then 1 else (if a1 = 2 then 1 else 0) : Int32)).bind fun z3 => some (if a1 = 1 then 1 else (if a1 = 2 then 1 else 0) : Int32)) else (if a0 = 2 then ((zr (if 2 ≤ a1 then 0 else 1 : Int32)).bind fun z9 => some (if 2 ≤ a1 then 0 else 1 : Int32)) else (if a0 = 3 then ((zr (if a1 = 0 then 1 else (if a1 = 3 then 1 else 0) : Int32)).bind fun z14 => some (if a1 = 0 then 1 else (if a1 = 3 then 1 else 0) : Int32)) else (if a0 = 5 then ((zr (if a1 = 0 then 1 else (if a1 = 2 then 1 else 0) : Int32)).bind fun z20 => some (if a1 = 0 then 1 else (if a1 = 2 then 1 else 0) : Int32)) else (if a0 = 7 then ((zr (if a1 = 3 then 1 else 0 : Int32)).bind fun z26 => some (if a1 = 3 then 1 else 0 : Int32)) else ((zr (if a1 = 2 then 1 else 0 : Int32)).bind fun z30 => some (if a1 = 2 then 1 else 0 : Int32)))))))
set_option maxRecDepth 100000 in
set_option maxHeartbeats 4000000 in
theorem c_X8_hasOwn (l : Launch) (G : Gd) (d : Nat) (σ : St) (a0 : Int32) (a1 : Int32) (r0 : Int32) (hf : f_X8_hasOwn σ a0 a1 = some r0) : MetV l G (d + 1) mi_X8_hasOwn [.int a0, .int a1] σ (some (.int r0)) σ 0 0 := by
  unfold f_X8_hasOwn at hf
  refine MetV.of [(0, .int a0), (1, .int a1)] (by decide +kernel) rfl (Nat.le_of_ble_eq_true rfl) ?_
  intro X hQ
  refine V_iload_n 0 1 rfl dX8_hasOwn_0 rfl rfl ?_
  by_cases c1 : a0 = 0
  · rw [if_pos c1] at hf
    refine V_tsw 0 47 48 dX8_hasOwn_1 c1 (by decide) (by decide) (by decide) (by decide) ?_
    refine V_iconst 1 49 dX8_hasOwn_48 rfl kiconst_1 ?_
    have er := Option.some.inj hf
    subst er
    exact V_zret (by decide) hQ rfl dX8_hasOwn_49
  rw [if_neg c1] at hf
  by_cases c2 : a0 = 1
  · rw [if_pos c2] at hf
    refine V_tsw 1 49 50 dX8_hasOwn_1 c2 (by decide) (by decide) (by decide) (by decide) ?_
    refine V_iload_n 1 51 rfl dX8_hasOwn_50 rfl rfl ?_
    refine V_iconst 1 52 dX8_hasOwn_51 rfl kiconst_1 ?_
    have kj5 : V mi_X8_hasOwn l G (d + 1) 0 0 X 0 0 65 [(0, .int a0), (1, .int a1)] [.int (if a1 = 1 then 1 else (if a1 = 2 then 1 else 0) : Int32)] σ := by
      obtain ⟨z3, h4, hf⟩ := ob hf
      have er := Option.some.inj hf
      subst er
      exact V_zret (zr_ok h4) hQ rfl dX8_hasOwn_65
    refine V_icmp_eq 60 55 dX8_hasOwn_52 (by decide) rfl (fun c6 => ?_) (fun c6 => ?_)
    · refine V_iconst 1 61 dX8_hasOwn_60 rfl kiconst_1 ?_
      refine V_goto 65 dX8_hasOwn_61 (by decide) ?_
      refine V_ls [(0, .int a0), (1, .int a1)] [0, 1] rfl ?_
      simp only [if_pos c6] at kj5
      exact kj5
    · refine V_iload_n 1 56 rfl dX8_hasOwn_55 rfl rfl ?_
      refine V_iconst 2 57 dX8_hasOwn_56 rfl kiconst_2 ?_
      refine V_icmp_ne 64 60 dX8_hasOwn_57 (by decide) rfl (fun c7 => ?_) (fun c7 => ?_)
      · refine V_iconst 0 65 dX8_hasOwn_64 rfl kiconst_0 ?_
        refine V_ls [(0, .int a0), (1, .int a1)] [0, 1] rfl ?_
        simp only [if_neg c6, if_neg c7] at kj5
        exact kj5
      · refine V_iconst 1 61 dX8_hasOwn_60 rfl kiconst_1 ?_
        refine V_goto 65 dX8_hasOwn_61 (by decide) ?_
        refine V_ls [(0, .int a0), (1, .int a1)] [0, 1] rfl ?_
        simp only [if_neg c6, if_pos c7] at kj5
        exact kj5
  rw [if_neg c2] at hf
  by_cases c8 : a0 = 2
  · rw [if_pos c8] at hf
    refine V_tsw 2 65 66 dX8_hasOwn_1 c8 (by decide) (by decide) (by decide) (by decide) ?_
    refine V_iload_n 1 67 rfl dX8_hasOwn_66 rfl rfl ?_
    refine V_iconst 2 68 dX8_hasOwn_67 rfl kiconst_2 ?_
    have kj11 : V mi_X8_hasOwn l G (d + 1) 0 0 X 0 0 76 [(0, .int a0), (1, .int a1)] [.int (if 2 ≤ a1 then 0 else 1 : Int32)] σ := by
      obtain ⟨z9, h10, hf⟩ := ob hf
      have er := Option.some.inj hf
      subst er
      exact V_zret (zr_ok h10) hQ rfl dX8_hasOwn_76
    refine V_icmp_ge 75 71 dX8_hasOwn_68 (by decide) rfl (fun c12 => ?_) (fun c12 => ?_)
    · refine V_iconst 0 76 dX8_hasOwn_75 rfl kiconst_0 ?_
      refine V_ls [(0, .int a0), (1, .int a1)] [0, 1] rfl ?_
      simp only [if_pos c12] at kj11
      exact kj11
    · refine V_iconst 1 72 dX8_hasOwn_71 rfl kiconst_1 ?_
      refine V_goto 76 dX8_hasOwn_72 (by decide) ?_
      refine V_ls [(0, .int a0), (1, .int a1)] [0, 1] rfl ?_
      simp only [if_neg c12] at kj11
      exact kj11
  rw [if_neg c8] at hf
  by_cases c13 : a0 = 3
  · rw [if_pos c13] at hf
    refine V_tsw 3 76 77 dX8_hasOwn_1 c13 (by decide) (by decide) (by decide) (by decide) ?_
    refine V_iload_n 1 78 rfl dX8_hasOwn_77 rfl rfl ?_
    have kj16 : V mi_X8_hasOwn l G (d + 1) 0 0 X 0 0 91 [(0, .int a0), (1, .int a1)] [.int (if a1 = 0 then 1 else (if a1 = 3 then 1 else 0) : Int32)] σ := by
      obtain ⟨z14, h15, hf⟩ := ob hf
      have er := Option.some.inj hf
      subst er
      exact V_zret (zr_ok h15) hQ rfl dX8_hasOwn_91
    refine V_if_eq 86 81 dX8_hasOwn_78 (by decide) rfl (fun c17 => ?_) (fun c17 => ?_)
    · refine V_iconst 1 87 dX8_hasOwn_86 rfl kiconst_1 ?_
      refine V_goto 91 dX8_hasOwn_87 (by decide) ?_
      refine V_ls [(0, .int a0), (1, .int a1)] [0, 1] rfl ?_
      simp only [if_pos c17] at kj16
      exact kj16
    · refine V_iload_n 1 82 rfl dX8_hasOwn_81 rfl rfl ?_
      refine V_iconst 3 83 dX8_hasOwn_82 rfl kiconst_3 ?_
      refine V_icmp_ne 90 86 dX8_hasOwn_83 (by decide) rfl (fun c18 => ?_) (fun c18 => ?_)
      · refine V_iconst 0 91 dX8_hasOwn_90 rfl kiconst_0 ?_
        refine V_ls [(0, .int a0), (1, .int a1)] [0, 1] rfl ?_
        simp only [if_neg c17, if_neg c18] at kj16
        exact kj16
      · refine V_iconst 1 87 dX8_hasOwn_86 rfl kiconst_1 ?_
        refine V_goto 91 dX8_hasOwn_87 (by decide) ?_
        refine V_ls [(0, .int a0), (1, .int a1)] [0, 1] rfl ?_
        simp only [if_neg c17, if_pos c18] at kj16
        exact kj16
  rw [if_neg c13] at hf
  by_cases c19 : a0 = 5
  · rw [if_pos c19] at hf
    refine V_tsw 5 91 92 dX8_hasOwn_1 c19 (by decide) (by decide) (by decide) (by decide) ?_
    refine V_iload_n 1 93 rfl dX8_hasOwn_92 rfl rfl ?_
    have kj22 : V mi_X8_hasOwn l G (d + 1) 0 0 X 0 0 106 [(0, .int a0), (1, .int a1)] [.int (if a1 = 0 then 1 else (if a1 = 2 then 1 else 0) : Int32)] σ := by
      obtain ⟨z20, h21, hf⟩ := ob hf
      have er := Option.some.inj hf
      subst er
      exact V_zret (zr_ok h21) hQ rfl dX8_hasOwn_106
    refine V_if_eq 101 96 dX8_hasOwn_93 (by decide) rfl (fun c23 => ?_) (fun c23 => ?_)
    · refine V_iconst 1 102 dX8_hasOwn_101 rfl kiconst_1 ?_
      refine V_goto 106 dX8_hasOwn_102 (by decide) ?_
      refine V_ls [(0, .int a0), (1, .int a1)] [0, 1] rfl ?_
      simp only [if_pos c23] at kj22
      exact kj22
    · refine V_iload_n 1 97 rfl dX8_hasOwn_96 rfl rfl ?_
      refine V_iconst 2 98 dX8_hasOwn_97 rfl kiconst_2 ?_
      refine V_icmp_ne 105 101 dX8_hasOwn_98 (by decide) rfl (fun c24 => ?_) (fun c24 => ?_)
      · refine V_iconst 0 106 dX8_hasOwn_105 rfl kiconst_0 ?_
        refine V_ls [(0, .int a0), (1, .int a1)] [0, 1] rfl ?_
        simp only [if_neg c23, if_neg c24] at kj22
        exact kj22
      · refine V_iconst 1 102 dX8_hasOwn_101 rfl kiconst_1 ?_
        refine V_goto 106 dX8_hasOwn_102 (by decide) ?_
        refine V_ls [(0, .int a0), (1, .int a1)] [0, 1] rfl ?_
        simp only [if_neg c23, if_pos c24] at kj22
        exact kj22
  rw [if_neg c19] at hf
  by_cases c25 : a0 = 7
  · rw [if_pos c25] at hf
    refine V_tsw 7 106 107 dX8_hasOwn_1 c25 (by decide) (by decide) (by decide) (by decide) ?_
    refine V_iload_n 1 108 rfl dX8_hasOwn_107 rfl rfl ?_
    refine V_iconst 3 109 dX8_hasOwn_108 rfl kiconst_3 ?_
    have kj28 : V mi_X8_hasOwn l G (d + 1) 0 0 X 0 0 117 [(0, .int a0), (1, .int a1)] [.int (if a1 = 3 then 1 else 0 : Int32)] σ := by
      obtain ⟨z26, h27, hf⟩ := ob hf
      have er := Option.some.inj hf
      subst er
      exact V_zret (zr_ok h27) hQ rfl dX8_hasOwn_117
    refine V_icmp_ne 116 112 dX8_hasOwn_109 (by decide) rfl (fun c29 => ?_) (fun c29 => ?_)
    · refine V_iconst 0 117 dX8_hasOwn_116 rfl kiconst_0 ?_
      refine V_ls [(0, .int a0), (1, .int a1)] [0, 1] rfl ?_
      simp only [if_neg c29] at kj28
      exact kj28
    · refine V_iconst 1 113 dX8_hasOwn_112 rfl kiconst_1 ?_
      refine V_goto 117 dX8_hasOwn_113 (by decide) ?_
      refine V_ls [(0, .int a0), (1, .int a1)] [0, 1] rfl ?_
      simp only [if_pos c29] at kj28
      exact kj28
  rw [if_neg c25] at hf
  refine V_tswD [0, 1, 2, 3, 5, 7] 118 dX8_hasOwn_1 (fun q hq => by simp only [List.mem_cons, List.not_mem_nil, or_false] at hq; rcases hq with rfl | rfl | rfl | rfl | rfl | rfl <;> assumption) (by decide) (by decide) (by decide) ?_
  refine V_iload_n 1 119 rfl dX8_hasOwn_118 rfl rfl ?_
  refine V_iconst 2 120 dX8_hasOwn_119 rfl kiconst_2 ?_
  have kj32 : V mi_X8_hasOwn l G (d + 1) 0 0 X 0 0 128 [(0, .int a0), (1, .int a1)] [.int (if a1 = 2 then 1 else 0 : Int32)] σ := by
    obtain ⟨z30, h31, hf⟩ := ob hf
    have er := Option.some.inj hf
    subst er
    exact V_zret (zr_ok h31) hQ rfl dX8_hasOwn_128
  refine V_icmp_ne 127 123 dX8_hasOwn_120 (by decide) rfl (fun c33 => ?_) (fun c33 => ?_)
  · refine V_iconst 0 128 dX8_hasOwn_127 rfl kiconst_0 ?_
    refine V_ls [(0, .int a0), (1, .int a1)] [0, 1] rfl ?_
    simp only [if_neg c33] at kj32
    exact kj32
  · refine V_iconst 1 124 dX8_hasOwn_123 rfl kiconst_1 ?_
    refine V_goto 128 dX8_hasOwn_124 (by decide) ?_
    refine V_ls [(0, .int a0), (1, .int a1)] [0, 1] rfl ?_
    simp only [if_pos c33] at kj32
    exact kj32
abbrev mi_X8_began : MI := (yX8_began, cX8_began, 2, none)
theorem ok_X8_began : OkN mi_X8_began 1 := ⟨wd_cd_X8_began, wd_in_X8, ⟨by decide +kernel, by decide +kernel, by decide +kernel⟩, by decide⟩
theorem okv_X8_began : Cond.instanceMethod (mi_X8_began).1 ∈ tb ∧ Cond.selects (mi_X8_began).1.cls (mi_X8_began).1 (mi_X8_began).1 ∈ tb := ⟨wd_im_X8_began, wd_se_X8_began⟩
def f_X8_began (σ : St) (t : Nat) (a0 : Int32) : Option St := if isO σ 7 t = true then ((gI σ 7 t 20).bind fun v2 => if 30 ≤ v2 then (some σ) else ((gQ σ 7 t 19).bind fun q5 => (gI σ 7 t 20).bind fun v7 => (sI σ q5 v7 a0).bind fun s9 => (gI s9 7 t 20).bind fun v11 => (pI s9 7 t 20 (v11 + 1)).bind fun s13 => some s13)) else none
theorem gd_X8_began {σ : St} {t : Nat} {a0 : Int32} {r : St} (h : f_X8_began σ t a0 = some r) : isO σ 7 t = true := by
  unfold f_X8_began at h
  by_cases hg : isO σ 7 t = true
  · exact hg
  · rw [if_neg hg] at h
    cases h
set_option maxRecDepth 100000 in
set_option maxHeartbeats 4000000 in
theorem c_X8_began (l : Launch) (G : Gd) (d : Nat) (σ : St) (t : Nat) (a0 : Int32) (σ' : St) (hf : f_X8_began σ t a0 = some σ') : MetV l G (d + 1) mi_X8_began [.ref t, .int a0] σ none σ' 0 0 := by
  unfold f_X8_began at hf
  refine MetV.of [(0, .ref t), (1, .int a0)] (by decide +kernel) rfl (Nat.le_of_ble_eq_true rfl) ?_
  intro X hQ
  by_cases hg : isO σ 7 t = true
  · rw [if_pos hg] at hf
    refine V_aload_n 0 1 rfl dX8_began_0 rfl rfl ?_
    obtain ⟨v2, h1, hf⟩ := ob hf
    refine V_getI (n := 27) (ty := tyX8) 4 h1 cf_7 rfl wd_fl_X8_288 dX8_began_1 rfl ?_
    refine V_bipush 30 6 dX8_began_4 rfl kbipush_30 ?_
    refine V_icmp_ge 29 9 dX8_began_6 (by decide) rfl (fun c3 => ?_) (fun c3 => ?_)
    · rw [if_pos c3] at hf
      have er := Option.some.inj hf
      subst er
      exact V_vret hQ rfl dX8_began_29
    · rw [if_neg c3] at hf
      refine V_aload_n 0 10 rfl dX8_began_9 rfl rfl ?_
      obtain ⟨q5, h4, hf⟩ := ob hf
      refine V_getQ (n := 27) (ty := tyX8) 13 h4 cf_7 rfl wd_fl_X8_52 dX8_began_10 rfl ?_
      refine V_aload_n 0 14 rfl dX8_began_13 rfl rfl ?_
      obtain ⟨v7, h6, hf⟩ := ob hf
      refine V_getI (n := 27) (ty := tyX8) 17 h6 cf_7 rfl wd_fl_X8_288 dX8_began_14 rfl ?_
      refine V_iload_n 1 18 rfl dX8_began_17 rfl rfl ?_
      obtain ⟨s9, h8, hf⟩ := ob hf
      refine V_iast 19 h8 dX8_began_18 rfl ?_
      refine V_aload_n 0 20 rfl dX8_began_19 rfl rfl ?_
      refine V_dup 21 dX8_began_20 rfl rfl ?_
      obtain ⟨v11, h10, hf⟩ := ob hf
      refine V_getI (n := 27) (ty := tyX8) 24 h10 cf_7 rfl wd_fl_X8_288 dX8_began_21 rfl ?_
      refine V_iconst 1 25 dX8_began_24 rfl kiconst_1 ?_
      refine V_iadd 26 dX8_began_25 rfl ?_
      obtain ⟨s13, h12, hf⟩ := ob hf
      refine V_putI (n := 27) (T := TX8) (ty := tyX8) (f := 20) 29 h12 cf_7 rfl rfl (Or.inl rfl) wd_fl_X8_288 dX8_began_26 rfl ?_
      have er := Option.some.inj hf
      subst er
      exact V_vret hQ rfl dX8_began_29
  · rw [if_neg hg] at hf
    cases hf
abbrev mi_X8_body : MI := (yX8_body, cX8_body, 6, some .int)
abbrev mi_X8_bodyFrom : MI := (yX8_bodyFrom, cX8_bodyFrom, 5, some .int)
abbrev mi_X8_voiced : MI := (yX8_voiced, cX8_voiced, 3, some .int)
theorem ok_X8_body : OkN mi_X8_body 3 := ⟨wd_cd_X8_body, wd_in_X8, ⟨by decide +kernel, by decide +kernel, by decide +kernel⟩, by decide⟩
theorem okv_X8_body : Cond.instanceMethod (mi_X8_body).1 ∈ tb ∧ Cond.selects (mi_X8_body).1.cls (mi_X8_body).1 (mi_X8_body).1 ∈ tb := ⟨wd_im_X8_body, wd_se_X8_body⟩
theorem ok_X8_bodyFrom : OkN mi_X8_bodyFrom 3 := ⟨wd_cd_X8_bodyFrom, wd_in_X8, ⟨by decide +kernel, by decide +kernel, by decide +kernel⟩, by decide⟩
theorem okv_X8_bodyFrom : Cond.instanceMethod (mi_X8_bodyFrom).1 ∈ tb ∧ Cond.selects (mi_X8_bodyFrom).1.cls (mi_X8_bodyFrom).1 (mi_X8_bodyFrom).1 ∈ tb := ⟨wd_im_X8_bodyFrom, wd_se_X8_bodyFrom⟩
theorem ok_X8_voiced : OkN mi_X8_voiced 2 := ⟨wd_cd_X8_voiced, wd_in_X8, ⟨by decide +kernel, by decide +kernel, by decide +kernel⟩, by decide⟩
theorem okv_X8_voiced : Cond.instanceMethod (mi_X8_voiced).1 ∈ tb ∧ Cond.selects (mi_X8_voiced).1.cls (mi_X8_voiced).1 (mi_X8_voiced).1 ∈ tb := ⟨wd_im_X8_voiced, wd_se_X8_voiced⟩
def f_X8_body (rc : Nat → List Int32 → St → Option (Int32 × St)) (σ : St) (t : Nat) (a0 : Int32) (a1 : Int32) (a2 : Int32) : Option (Int32 × St) := if isO σ 7 t = true then ((gI σ 7 t 21).bind fun v2 => (f_X8_many σ t v2).bind fun v4 => if (((4 : Int32) * a0) + a1) = 0 then ((f_X8_began σ t 10).bind fun s7 => some (a2 + v4, s7)) else (if (((4 : Int32) * a0) + a1) = 1 then ((f_X8_began σ t 11).bind fun s10 => (rc 2 [0, a2] s10).bind fun p12 => some (p12.1 * 2, p12.2)) else (if (((4 : Int32) * a0) + a1) = 2 then ((f_X8_began σ t 12).bind fun s15 => (rc 2 [1, a2] s15).bind fun p17 => (gI p17.2 7 t 21).bind fun v19 => some (p17.1 - v19, p17.2)) else (if (((4 : Int32) * a0) + a1) = 3 then ((f_X8_began σ t 13).bind fun s22 => (gI s22 7 t 21).bind fun v24 => (pZ s22 7 t 22 (if v4 = v24 then 1 else 0 : Int32)).bind fun s26 => (gI s26 7 t 22).bind fun v28 => if v28 = 0 then ((gI s26 7 t 21).bind fun v31 => (ne0 (v4 - v31)).bind fun z32 => some (a2 / (v4 - v31), s26)) else (some (0, s26))) else (if (((4 : Int32) * a0) + a1) = 5 then ((f_X8_began σ t 20).bind fun s38 => (rc 1 [0, 1, a2] s38).bind fun p40 => some (p40.1 + 3, p40.2)) else (if (((4 : Int32) * a0) + a1) = 6 then ((f_X8_began σ t 21).bind fun s43 => (rc 1 [0, 2, a2] s43).bind fun p45 => some (p45.1 ^^^ v4, p45.2)) else (if (((4 : Int32) * a0) + a1) = 8 then ((f_X8_began σ t 30).bind fun s48 => (rc 1 [1, 0, a2] s48).bind fun p50 => some (p50.1 / 2, p50.2)) else (if (((4 : Int32) * a0) + a1) = 9 then ((f_X8_began σ t 31).bind fun s53 => (rc 1 [1, 1, a2 - 1] s53).bind fun p55 => some (p55.1, p55.2)) else (if (((4 : Int32) * a0) + a1) = 12 then ((f_X8_began σ t 40).bind fun s58 => (rc 1 [0, 0, a2] s58).bind fun p60 => some (-p60.1, p60.2)) else (if (((4 : Int32) * a0) + a1) = 15 then ((f_X8_began σ t 41).bind fun s63 => (rc 1 [0, 3, a2] s63).bind fun p65 => (rc 2 [2, 1] p65.2).bind fun p67 => some (p65.1 + p67.1, p67.2)) else (if (((4 : Int32) * a0) + a1) = 18 then ((f_X8_began σ t 50).bind fun s70 => (rc 1 [0, 2, a2] s70).bind fun p72 => some (p72.1 * 3, p72.2)) else (if (((4 : Int32) * a0) + a1) = 20 then ((f_X8_began σ t 60).bind fun s75 => (gI s75 7 t 21).bind fun v77 => (rc 1 [3, 0, a2 + v77] s75).bind fun p79 => some (p79.1, p79.2)) else (if (((4 : Int32) * a0) + a1) = 22 then ((f_X8_began σ t 61).bind fun s82 => (rc 1 [3, 2, a2] s82).bind fun p84 => (rc 2 [0, 2] p84.2).bind fun p86 => some (p84.1 - p86.1, p86.2)) else (if (((4 : Int32) * a0) + a1) = 26 then ((f_X8_began σ t 70).bind fun s89 => (rc 1 [1, 2, a2] s89).bind fun p91 => (gI p91.2 7 t 21).bind fun v93 => (rc 2 [1, v93] p91.2).bind fun p95 => some (p91.1 + p95.1, p95.2)) else ((f_X8_began σ t 80).bind fun s97 => (rc 2 [2, a2] s97).bind fun p99 => (rc 1 [4, 3, a2] p99.2).bind fun p101 => some (p99.1 - p101.1, p101.2)))))))))))))))) else none
def f_X8_bodyFrom_L3 (rc : Nat → List Int32 → St → Option (Int32 × St)) (σ : St) (x2 : Int32) : Nat → Int32 → Option (Int32)
  | 0, _ => none
  | n + 1, x4 => (f_X8_hasOwn σ x4 x2).bind fun v2 => if v2 = 0 then ((f_X8_above σ x4).bind fun v5 => f_X8_bodyFrom_L3 rc σ x2 n v5) else (some x4)
def f_X8_bodyFrom (rc : Nat → List Int32 → St → Option (Int32 × St)) (σ : St) (t : Nat) (a0 : Int32) (a1 : Int32) (a2 : Int32) : Option (Int32 × St) := if isO σ 7 t = true then ((f_X8_bodyFrom_L3 rc σ a1 3000 a0).bind fun p6 => (gI σ 7 t 22).bind fun v9 => if v9 = 0 then ((rc 0 [p6, a1, a2] σ).bind fun p12 => some (p12.1, p12.2)) else (some (0, σ))) else none
def f_X8_voiced (rc : Nat → List Int32 → St → Option (Int32 × St)) (σ : St) (t : Nat) (a0 : Int32) (a1 : Int32) : Option (Int32 × St) := if isO σ 7 t = true then ((gI σ 7 t 21).bind fun v2 => (f_X8_curve σ t v2 0).bind fun v4 => (rc 1 [v4, a0, a1] σ).bind fun p6 => some (p6.1, p6.2)) else none
theorem gd_f_X8_body {rc : Nat → List Int32 → St → Option (Int32 × St)} {σ : St} {t : Nat} {a0 : Int32} {a1 : Int32} {a2 : Int32} {r : Int32 × St} (h : f_X8_body rc σ t a0 a1 a2 = some r) : isO σ 7 t = true := by
  unfold f_X8_body at h
  by_cases hg : isO σ 7 t = true
  · exact hg
  · rw [if_neg hg] at h
    cases h
theorem gd_f_X8_bodyFrom {rc : Nat → List Int32 → St → Option (Int32 × St)} {σ : St} {t : Nat} {a0 : Int32} {a1 : Int32} {a2 : Int32} {r : Int32 × St} (h : f_X8_bodyFrom rc σ t a0 a1 a2 = some r) : isO σ 7 t = true := by
  unfold f_X8_bodyFrom at h
  by_cases hg : isO σ 7 t = true
  · exact hg
  · rw [if_neg hg] at h
    cases h
theorem gd_f_X8_voiced {rc : Nat → List Int32 → St → Option (Int32 × St)} {σ : St} {t : Nat} {a0 : Int32} {a1 : Int32} {r : Int32 × St} (h : f_X8_voiced rc σ t a0 a1 = some r) : isO σ 7 t = true := by
  unfold f_X8_voiced at h
  by_cases hg : isO σ 7 t = true
  · exact hg
  · rw [if_neg hg] at h
    cases h
def ds_X8_body (rc : Nat → List Int32 → St → Option (Int32 × St)) (t : Nat) (j : Nat) (as : List Int32) (σ : St) : Option (Int32 × St) := match j, as with
  | 0, [a0, a1, a2] => f_X8_body rc σ t a0 a1 a2
  | 1, [a0, a1, a2] => f_X8_bodyFrom rc σ t a0 a1 a2
  | 2, [a0, a1] => f_X8_voiced rc σ t a0 a1
  | _, _ => none
def rc_X8_body (t : Nat) : Nat → Nat → List Int32 → St → Option (Int32 × St)
  | 0, _, _, _ => none
  | n + 1, j, as, σ => ds_X8_body (rc_X8_body t n) t j as σ
def CT_X8_body (l : Launch) (G : Gd) (dr : Nat) (t : Nat) (j : Nat) (as : List Int32) (σ : St) (p : Int32 × St) : Prop := isO σ 7 t = true ∧ (j = 0 → ∀ a0 a1 a2 : Int32, as = [a0, a1, a2] → MetV l G dr mi_X8_body [.ref t, .int a0, .int a1, .int a2] σ (some (.int p.1)) p.2 0 0) ∧ (j = 1 → ∀ a0 a1 a2 : Int32, as = [a0, a1, a2] → MetV l G dr mi_X8_bodyFrom [.ref t, .int a0, .int a1, .int a2] σ (some (.int p.1)) p.2 0 0) ∧ (j = 2 → ∀ a0 a1 : Int32, as = [a0, a1] → MetV l G dr mi_X8_voiced [.ref t, .int a0, .int a1] σ (some (.int p.1)) p.2 0 0)
set_option maxRecDepth 100000 in
set_option maxHeartbeats 4000000 in
theorem cb_X8_body (l : Launch) (G : Gd) (dr : Nat) (rc : Nat → List Int32 → St → Option (Int32 × St)) (t : Nat) (ihr : ∀ j as σ p, rc j as σ = some p → CT_X8_body l G dr t j as σ p) (σ : St) (a0 : Int32) (a1 : Int32) (a2 : Int32) (r0 : Int32) (σ' : St) (hf : f_X8_body rc σ t a0 a1 a2 = some (r0, σ')) : MetV l G (dr + 3) mi_X8_body [.ref t, .int a0, .int a1, .int a2] σ (some (.int r0)) σ' 0 0 := by
  unfold f_X8_body at hf
  refine MetV.of [(0, .ref t), (1, .int a0), (2, .int a1), (3, .int a2)] (by decide +kernel) rfl (Nat.le_of_ble_eq_true rfl) ?_
  intro X hQ
  by_cases hg : isO σ 7 t = true
  · rw [if_pos hg] at hf
    refine V_aload_n 0 1 rfl dX8_body_0 rfl rfl ?_
    refine V_aload_n 0 2 rfl dX8_body_1 rfl rfl ?_
    obtain ⟨v2, h1, hf⟩ := ob hf
    refine V_getI (n := 27) (ty := tyX8) 5 h1 cf_7 rfl wd_fl_X8_291 dX8_body_2 rfl ?_
    obtain ⟨v4, h3, hf⟩ := ob hf
    refine V_callV (rest := []) (T := TX8) (n := 27) (ci := 7) 0 0 8 [.int v4] (c_X8_many l G (dr + 0) _ _ _ _ h3) (by omega) ok_X8_many okv_X8_many (gd_X8_many h3) rfl wd_ml_X8_134 rfl rfl (Nat.le_of_ble_eq_true rfl) rfl rfl (Or.inl ⟨rfl, rfl⟩) dX8_body_5 rfl rfl ?_
    refine V_istore [(4, .int v4), (0, .ref t), (1, .int a0), (2, .int a1), (3, .int a2)] 10 dX8_body_8 (by decide) rfl rfl ?_
    refine V_iconst 4 11 dX8_body_10 rfl kiconst_4 ?_
    refine V_iload_n 2 12 rfl dX8_body_11 rfl rfl ?_
    refine V_imul 13 dX8_body_12 rfl ?_
    refine V_iload_n 3 14 rfl dX8_body_13 rfl rfl ?_
    refine V_iadd 15 dX8_body_14 rfl ?_
    by_cases c5 : (((4 : Int32) * a0) + a1) = 0
    · rw [if_pos c5] at hf
      refine V_tsw 0 121 136 dX8_body_15 c5 (by decide) (by decide) (by decide) (by decide) ?_
      refine V_aload_n 1 137 rfl dX8_body_136 rfl rfl ?_
      refine V_bipush 10 139 dX8_body_137 rfl kbipush_10 ?_
      obtain ⟨s7, h6, hf⟩ := ob hf
      refine V_callV (rest := []) (T := TX8) (n := 27) (ci := 7) 0 0 142 [] (c_X8_began l G (dr + 1) _ _ _ _ h6) (by omega) ok_X8_began okv_X8_began (gd_X8_began h6) rfl wd_ml_X8_306 rfl rfl (Nat.le_of_ble_eq_true rfl) rfl rfl (Or.inl ⟨rfl, rfl⟩) dX8_body_139 rfl rfl ?_
      refine V_iload_n 4 143 rfl dX8_body_142 rfl rfl ?_
      refine V_iload 0 145 rfl dX8_body_143 rfl ?_
      refine V_iadd 146 dX8_body_145 rfl ?_
      have er := Option.some.inj hf
      obtain ⟨e1, e2⟩ := Prod.mk.inj er
      subst e1
      subst e2
      exact V_iret hQ rfl dX8_body_146
    rw [if_neg c5] at hf
    by_cases c8 : (((4 : Int32) * a0) + a1) = 1
    · rw [if_pos c8] at hf
      refine V_tsw 1 132 147 dX8_body_15 c8 (by decide) (by decide) (by decide) (by decide) ?_
      refine V_aload_n 1 148 rfl dX8_body_147 rfl rfl ?_
      refine V_bipush 11 150 dX8_body_148 rfl kbipush_11 ?_
      obtain ⟨s10, h9, hf⟩ := ob hf
      refine V_callV (rest := []) (T := TX8) (n := 27) (ci := 7) 0 0 153 [] (c_X8_began l G (dr + 1) _ _ _ _ h9) (by omega) ok_X8_began okv_X8_began (gd_X8_began h9) rfl wd_ml_X8_306 rfl rfl (Nat.le_of_ble_eq_true rfl) rfl rfl (Or.inl ⟨rfl, rfl⟩) dX8_body_150 rfl rfl ?_
      refine V_aload_n 1 154 rfl dX8_body_153 rfl rfl ?_
      refine V_iconst 0 155 dX8_body_154 rfl kiconst_0 ?_
      refine V_iload_n 4 156 rfl dX8_body_155 rfl rfl ?_
      obtain ⟨p12, h11, hf⟩ := ob hf
      refine V_callV (rest := []) (T := TX8) (n := 27) (ci := 7) 0 0 159 [.int p12.1] ((ihr 2 [0, a2] s10 p12 h11).2.2.2 rfl _ _ rfl) (by omega) ok_X8_voiced okv_X8_voiced (ihr 2 [0, a2] s10 p12 h11).1 rfl wd_ml_X8_309 rfl rfl (Nat.le_of_ble_eq_true rfl) rfl rfl (Or.inl ⟨rfl, rfl⟩) dX8_body_156 rfl rfl ?_
      refine V_iconst 2 160 dX8_body_159 rfl kiconst_2 ?_
      refine V_imul 161 dX8_body_160 rfl ?_
      have er := Option.some.inj hf
      obtain ⟨e1, e2⟩ := Prod.mk.inj er
      subst e1
      subst e2
      exact V_iret hQ rfl dX8_body_161
    rw [if_neg c8] at hf
    by_cases c13 : (((4 : Int32) * a0) + a1) = 2
    · rw [if_pos c13] at hf
      refine V_tsw 2 147 162 dX8_body_15 c13 (by decide) (by decide) (by decide) (by decide) ?_
      refine V_aload_n 1 163 rfl dX8_body_162 rfl rfl ?_
      refine V_bipush 12 165 dX8_body_163 rfl kbipush_12 ?_
      obtain ⟨s15, h14, hf⟩ := ob hf
      refine V_callV (rest := []) (T := TX8) (n := 27) (ci := 7) 0 0 168 [] (c_X8_began l G (dr + 1) _ _ _ _ h14) (by omega) ok_X8_began okv_X8_began (gd_X8_began h14) rfl wd_ml_X8_306 rfl rfl (Nat.le_of_ble_eq_true rfl) rfl rfl (Or.inl ⟨rfl, rfl⟩) dX8_body_165 rfl rfl ?_
      refine V_aload_n 1 169 rfl dX8_body_168 rfl rfl ?_
      refine V_iconst 1 170 dX8_body_169 rfl kiconst_1 ?_
      refine V_iload_n 4 171 rfl dX8_body_170 rfl rfl ?_
      obtain ⟨p17, h16, hf⟩ := ob hf
      refine V_callV (rest := []) (T := TX8) (n := 27) (ci := 7) 0 0 174 [.int p17.1] ((ihr 2 [1, a2] s15 p17 h16).2.2.2 rfl _ _ rfl) (by omega) ok_X8_voiced okv_X8_voiced (ihr 2 [1, a2] s15 p17 h16).1 rfl wd_ml_X8_309 rfl rfl (Nat.le_of_ble_eq_true rfl) rfl rfl (Or.inl ⟨rfl, rfl⟩) dX8_body_171 rfl rfl ?_
      refine V_aload_n 1 175 rfl dX8_body_174 rfl rfl ?_
      obtain ⟨v19, h18, hf⟩ := ob hf
      refine V_getI (n := 27) (ty := tyX8) 178 h18 cf_7 rfl wd_fl_X8_291 dX8_body_175 rfl ?_
      refine V_isub 179 dX8_body_178 rfl ?_
      have er := Option.some.inj hf
      obtain ⟨e1, e2⟩ := Prod.mk.inj er
      subst e1
      subst e2
      exact V_iret hQ rfl dX8_body_179
    rw [if_neg c13] at hf
    by_cases c20 : (((4 : Int32) * a0) + a1) = 3
    · rw [if_pos c20] at hf
      refine V_tsw 3 165 180 dX8_body_15 c20 (by decide) (by decide) (by decide) (by decide) ?_
      refine V_aload_n 1 181 rfl dX8_body_180 rfl rfl ?_
      refine V_bipush 13 183 dX8_body_181 rfl kbipush_13 ?_
      obtain ⟨s22, h21, hf⟩ := ob hf
      refine V_callV (rest := []) (T := TX8) (n := 27) (ci := 7) 0 0 186 [] (c_X8_began l G (dr + 1) _ _ _ _ h21) (by omega) ok_X8_began okv_X8_began (gd_X8_began h21) rfl wd_ml_X8_306 rfl rfl (Nat.le_of_ble_eq_true rfl) rfl rfl (Or.inl ⟨rfl, rfl⟩) dX8_body_183 rfl rfl ?_
      refine V_aload_n 1 187 rfl dX8_body_186 rfl rfl ?_
      refine V_iload 0 189 rfl dX8_body_187 rfl ?_
      refine V_aload_n 1 190 rfl dX8_body_189 rfl rfl ?_
      obtain ⟨v24, h23, hf⟩ := ob hf
      refine V_getI (n := 27) (ty := tyX8) 193 h23 cf_7 rfl wd_fl_X8_291 dX8_body_190 rfl ?_
      have kj34 : V mi_X8_body l G (dr + 3) 0 0 X 0 0 201 [(4, .int v4), (0, .ref t), (1, .int a0), (2, .int a1), (3, .int a2)] [.int (if v4 = v24 then 1 else 0 : Int32), .ref t] s22 := by
        obtain ⟨s26, h25, hf⟩ := ob hf
        refine V_putZ (n := 27) (T := TX8) (ty := tyX8) (f := 22) 204 h25 cf_7 rfl rfl (Or.inl rfl) wd_fl_X8_300 dX8_body_201 rfl ?_
        refine V_aload_n 1 205 rfl dX8_body_204 rfl rfl ?_
        obtain ⟨v28, h27, hf⟩ := ob hf
        refine V_getI (n := 27) (ty := tyX8) 208 h27 cf_7 rfl wd_fl_X8_300 dX8_body_205 rfl ?_
        refine V_if_eq 215 211 dX8_body_208 (by decide) rfl (fun c29 => ?_) (fun c29 => ?_)
        · rw [if_pos c29] at hf
          refine V_iload_n 4 216 rfl dX8_body_215 rfl rfl ?_
          refine V_iload 0 218 rfl dX8_body_216 rfl ?_
          refine V_aload_n 1 219 rfl dX8_body_218 rfl rfl ?_
          obtain ⟨v31, h30, hf⟩ := ob hf
          refine V_getI (n := 27) (ty := tyX8) 222 h30 cf_7 rfl wd_fl_X8_291 dX8_body_219 rfl ?_
          refine V_isub 223 dX8_body_222 rfl ?_
          obtain ⟨z32, h33, hf⟩ := ob hf
          refine V_idiv 224 dX8_body_223 rfl (ne0_ne h33) ?_
          have er := Option.some.inj hf
          obtain ⟨e1, e2⟩ := Prod.mk.inj er
          subst e1
          subst e2
          exact V_iret hQ rfl dX8_body_224
        · rw [if_neg c29] at hf
          refine V_iconst 0 212 dX8_body_211 rfl kiconst_0 ?_
          refine V_goto 224 dX8_body_212 (by decide) ?_
          have er := Option.some.inj hf
          obtain ⟨e1, e2⟩ := Prod.mk.inj er
          subst e1
          subst e2
          exact V_iret hQ rfl dX8_body_224
      refine V_icmp_ne 200 196 dX8_body_193 (by decide) rfl (fun c35 => ?_) (fun c35 => ?_)
      · refine V_iconst 0 201 dX8_body_200 rfl kiconst_0 ?_
        refine V_ls [(4, .int v4), (0, .ref t), (1, .int a0), (2, .int a1), (3, .int a2)] [0, 1, 2, 3, 4] rfl ?_
        simp only [if_neg c35] at kj34
        exact kj34
      · refine V_iconst 1 197 dX8_body_196 rfl kiconst_1 ?_
        refine V_goto 201 dX8_body_197 (by decide) ?_
        refine V_ls [(4, .int v4), (0, .ref t), (1, .int a0), (2, .int a1), (3, .int a2)] [0, 1, 2, 3, 4] rfl ?_
        simp only [if_pos c35] at kj34
        exact kj34
    rw [if_neg c20] at hf
    by_cases c36 : (((4 : Int32) * a0) + a1) = 5
    · rw [if_pos c36] at hf
      refine V_tsw 5 210 225 dX8_body_15 c36 (by decide) (by decide) (by decide) (by decide) ?_
      refine V_aload_n 1 226 rfl dX8_body_225 rfl rfl ?_
      refine V_bipush 20 228 dX8_body_226 rfl kbipush_20 ?_
      obtain ⟨s38, h37, hf⟩ := ob hf
      refine V_callV (rest := []) (T := TX8) (n := 27) (ci := 7) 0 0 231 [] (c_X8_began l G (dr + 1) _ _ _ _ h37) (by omega) ok_X8_began okv_X8_began (gd_X8_began h37) rfl wd_ml_X8_306 rfl rfl (Nat.le_of_ble_eq_true rfl) rfl rfl (Or.inl ⟨rfl, rfl⟩) dX8_body_228 rfl rfl ?_
      refine V_aload_n 1 232 rfl dX8_body_231 rfl rfl ?_
      refine V_iconst 0 233 dX8_body_232 rfl kiconst_0 ?_
      refine V_iconst 1 234 dX8_body_233 rfl kiconst_1 ?_
      refine V_iload_n 4 235 rfl dX8_body_234 rfl rfl ?_
      obtain ⟨p40, h39, hf⟩ := ob hf
      refine V_callV (rest := []) (T := TX8) (n := 27) (ci := 7) 0 0 238 [.int p40.1] ((ihr 1 [0, 1, a2] s38 p40 h39).2.2.1 rfl _ _ _ rfl) (by omega) ok_X8_bodyFrom okv_X8_bodyFrom (ihr 1 [0, 1, a2] s38 p40 h39).1 rfl wd_ml_X8_294 rfl rfl (Nat.le_of_ble_eq_true rfl) rfl rfl (Or.inl ⟨rfl, rfl⟩) dX8_body_235 rfl rfl ?_
      refine V_iconst 3 239 dX8_body_238 rfl kiconst_3 ?_
      refine V_iadd 240 dX8_body_239 rfl ?_
      have er := Option.some.inj hf
      obtain ⟨e1, e2⟩ := Prod.mk.inj er
      subst e1
      subst e2
      exact V_iret hQ rfl dX8_body_240
    rw [if_neg c36] at hf
    by_cases c41 : (((4 : Int32) * a0) + a1) = 6
    · rw [if_pos c41] at hf
      refine V_tsw 6 226 241 dX8_body_15 c41 (by decide) (by decide) (by decide) (by decide) ?_
      refine V_aload_n 1 242 rfl dX8_body_241 rfl rfl ?_
      refine V_bipush 21 244 dX8_body_242 rfl kbipush_21 ?_
      obtain ⟨s43, h42, hf⟩ := ob hf
      refine V_callV (rest := []) (T := TX8) (n := 27) (ci := 7) 0 0 247 [] (c_X8_began l G (dr + 1) _ _ _ _ h42) (by omega) ok_X8_began okv_X8_began (gd_X8_began h42) rfl wd_ml_X8_306 rfl rfl (Nat.le_of_ble_eq_true rfl) rfl rfl (Or.inl ⟨rfl, rfl⟩) dX8_body_244 rfl rfl ?_
      refine V_aload_n 1 248 rfl dX8_body_247 rfl rfl ?_
      refine V_iconst 0 249 dX8_body_248 rfl kiconst_0 ?_
      refine V_iconst 2 250 dX8_body_249 rfl kiconst_2 ?_
      refine V_iload_n 4 251 rfl dX8_body_250 rfl rfl ?_
      obtain ⟨p45, h44, hf⟩ := ob hf
      refine V_callV (rest := []) (T := TX8) (n := 27) (ci := 7) 0 0 254 [.int p45.1] ((ihr 1 [0, 2, a2] s43 p45 h44).2.2.1 rfl _ _ _ rfl) (by omega) ok_X8_bodyFrom okv_X8_bodyFrom (ihr 1 [0, 2, a2] s43 p45 h44).1 rfl wd_ml_X8_294 rfl rfl (Nat.le_of_ble_eq_true rfl) rfl rfl (Or.inl ⟨rfl, rfl⟩) dX8_body_251 rfl rfl ?_
      refine V_iload 0 256 rfl dX8_body_254 rfl ?_
      refine V_ixor 257 dX8_body_256 rfl ?_
      have er := Option.some.inj hf
      obtain ⟨e1, e2⟩ := Prod.mk.inj er
      subst e1
      subst e2
      exact V_iret hQ rfl dX8_body_257
    rw [if_neg c41] at hf
    by_cases c46 : (((4 : Int32) * a0) + a1) = 8
    · rw [if_pos c46] at hf
      refine V_tsw 8 243 258 dX8_body_15 c46 (by decide) (by decide) (by decide) (by decide) ?_
      refine V_aload_n 1 259 rfl dX8_body_258 rfl rfl ?_
      refine V_bipush 30 261 dX8_body_259 rfl kbipush_30 ?_
      obtain ⟨s48, h47, hf⟩ := ob hf
      refine V_callV (rest := []) (T := TX8) (n := 27) (ci := 7) 0 0 264 [] (c_X8_began l G (dr + 1) _ _ _ _ h47) (by omega) ok_X8_began okv_X8_began (gd_X8_began h47) rfl wd_ml_X8_306 rfl rfl (Nat.le_of_ble_eq_true rfl) rfl rfl (Or.inl ⟨rfl, rfl⟩) dX8_body_261 rfl rfl ?_
      refine V_aload_n 1 265 rfl dX8_body_264 rfl rfl ?_
      refine V_iconst 1 266 dX8_body_265 rfl kiconst_1 ?_
      refine V_iconst 0 267 dX8_body_266 rfl kiconst_0 ?_
      refine V_iload_n 4 268 rfl dX8_body_267 rfl rfl ?_
      obtain ⟨p50, h49, hf⟩ := ob hf
      refine V_callV (rest := []) (T := TX8) (n := 27) (ci := 7) 0 0 271 [.int p50.1] ((ihr 1 [1, 0, a2] s48 p50 h49).2.2.1 rfl _ _ _ rfl) (by omega) ok_X8_bodyFrom okv_X8_bodyFrom (ihr 1 [1, 0, a2] s48 p50 h49).1 rfl wd_ml_X8_294 rfl rfl (Nat.le_of_ble_eq_true rfl) rfl rfl (Or.inl ⟨rfl, rfl⟩) dX8_body_268 rfl rfl ?_
      refine V_iconst 2 272 dX8_body_271 rfl kiconst_2 ?_
      refine V_idiv 273 dX8_body_272 rfl (by decide) ?_
      have er := Option.some.inj hf
      obtain ⟨e1, e2⟩ := Prod.mk.inj er
      subst e1
      subst e2
      exact V_iret hQ rfl dX8_body_273
    rw [if_neg c46] at hf
    by_cases c51 : (((4 : Int32) * a0) + a1) = 9
    · rw [if_pos c51] at hf
      refine V_tsw 9 259 274 dX8_body_15 c51 (by decide) (by decide) (by decide) (by decide) ?_
      refine V_aload_n 1 275 rfl dX8_body_274 rfl rfl ?_
      refine V_bipush 31 277 dX8_body_275 rfl kbipush_31 ?_
      obtain ⟨s53, h52, hf⟩ := ob hf
      refine V_callV (rest := []) (T := TX8) (n := 27) (ci := 7) 0 0 280 [] (c_X8_began l G (dr + 1) _ _ _ _ h52) (by omega) ok_X8_began okv_X8_began (gd_X8_began h52) rfl wd_ml_X8_306 rfl rfl (Nat.le_of_ble_eq_true rfl) rfl rfl (Or.inl ⟨rfl, rfl⟩) dX8_body_277 rfl rfl ?_
      refine V_aload_n 1 281 rfl dX8_body_280 rfl rfl ?_
      refine V_iconst 1 282 dX8_body_281 rfl kiconst_1 ?_
      refine V_iconst 1 283 dX8_body_282 rfl kiconst_1 ?_
      refine V_iload_n 4 284 rfl dX8_body_283 rfl rfl ?_
      refine V_iconst 1 285 dX8_body_284 rfl kiconst_1 ?_
      refine V_isub 286 dX8_body_285 rfl ?_
      obtain ⟨p55, h54, hf⟩ := ob hf
      refine V_callV (rest := []) (T := TX8) (n := 27) (ci := 7) 0 0 289 [.int p55.1] ((ihr 1 [1, 1, a2 - 1] s53 p55 h54).2.2.1 rfl _ _ _ rfl) (by omega) ok_X8_bodyFrom okv_X8_bodyFrom (ihr 1 [1, 1, a2 - 1] s53 p55 h54).1 rfl wd_ml_X8_294 rfl rfl (Nat.le_of_ble_eq_true rfl) rfl rfl (Or.inl ⟨rfl, rfl⟩) dX8_body_286 rfl rfl ?_
      have er := Option.some.inj hf
      obtain ⟨e1, e2⟩ := Prod.mk.inj er
      subst e1
      subst e2
      exact V_iret hQ rfl dX8_body_289
    rw [if_neg c51] at hf
    by_cases c56 : (((4 : Int32) * a0) + a1) = 12
    · rw [if_pos c56] at hf
      refine V_tsw 12 275 290 dX8_body_15 c56 (by decide) (by decide) (by decide) (by decide) ?_
      refine V_aload_n 1 291 rfl dX8_body_290 rfl rfl ?_
      refine V_bipush 40 293 dX8_body_291 rfl kbipush_40 ?_
      obtain ⟨s58, h57, hf⟩ := ob hf
      refine V_callV (rest := []) (T := TX8) (n := 27) (ci := 7) 0 0 296 [] (c_X8_began l G (dr + 1) _ _ _ _ h57) (by omega) ok_X8_began okv_X8_began (gd_X8_began h57) rfl wd_ml_X8_306 rfl rfl (Nat.le_of_ble_eq_true rfl) rfl rfl (Or.inl ⟨rfl, rfl⟩) dX8_body_293 rfl rfl ?_
      refine V_aload_n 1 297 rfl dX8_body_296 rfl rfl ?_
      refine V_iconst 0 298 dX8_body_297 rfl kiconst_0 ?_
      refine V_iconst 0 299 dX8_body_298 rfl kiconst_0 ?_
      refine V_iload_n 4 300 rfl dX8_body_299 rfl rfl ?_
      obtain ⟨p60, h59, hf⟩ := ob hf
      refine V_callV (rest := []) (T := TX8) (n := 27) (ci := 7) 0 0 303 [.int p60.1] ((ihr 1 [0, 0, a2] s58 p60 h59).2.2.1 rfl _ _ _ rfl) (by omega) ok_X8_bodyFrom okv_X8_bodyFrom (ihr 1 [0, 0, a2] s58 p60 h59).1 rfl wd_ml_X8_294 rfl rfl (Nat.le_of_ble_eq_true rfl) rfl rfl (Or.inl ⟨rfl, rfl⟩) dX8_body_300 rfl rfl ?_
      refine V_ineg 304 dX8_body_303 rfl ?_
      have er := Option.some.inj hf
      obtain ⟨e1, e2⟩ := Prod.mk.inj er
      subst e1
      subst e2
      exact V_iret hQ rfl dX8_body_304
    rw [if_neg c56] at hf
    by_cases c61 : (((4 : Int32) * a0) + a1) = 15
    · rw [if_pos c61] at hf
      refine V_tsw 15 290 305 dX8_body_15 c61 (by decide) (by decide) (by decide) (by decide) ?_
      refine V_aload_n 1 306 rfl dX8_body_305 rfl rfl ?_
      refine V_bipush 41 308 dX8_body_306 rfl kbipush_41 ?_
      obtain ⟨s63, h62, hf⟩ := ob hf
      refine V_callV (rest := []) (T := TX8) (n := 27) (ci := 7) 0 0 311 [] (c_X8_began l G (dr + 1) _ _ _ _ h62) (by omega) ok_X8_began okv_X8_began (gd_X8_began h62) rfl wd_ml_X8_306 rfl rfl (Nat.le_of_ble_eq_true rfl) rfl rfl (Or.inl ⟨rfl, rfl⟩) dX8_body_308 rfl rfl ?_
      refine V_aload_n 1 312 rfl dX8_body_311 rfl rfl ?_
      refine V_iconst 0 313 dX8_body_312 rfl kiconst_0 ?_
      refine V_iconst 3 314 dX8_body_313 rfl kiconst_3 ?_
      refine V_iload_n 4 315 rfl dX8_body_314 rfl rfl ?_
      obtain ⟨p65, h64, hf⟩ := ob hf
      refine V_callV (rest := []) (T := TX8) (n := 27) (ci := 7) 0 0 318 [.int p65.1] ((ihr 1 [0, 3, a2] s63 p65 h64).2.2.1 rfl _ _ _ rfl) (by omega) ok_X8_bodyFrom okv_X8_bodyFrom (ihr 1 [0, 3, a2] s63 p65 h64).1 rfl wd_ml_X8_294 rfl rfl (Nat.le_of_ble_eq_true rfl) rfl rfl (Or.inl ⟨rfl, rfl⟩) dX8_body_315 rfl rfl ?_
      refine V_istore [(5, .int p65.1), (4, .int v4), (0, .ref t), (1, .int a0), (2, .int a1), (3, .int a2)] 320 dX8_body_318 (by decide) rfl rfl ?_
      refine V_iload 0 322 rfl dX8_body_320 rfl ?_
      refine V_aload_n 2 323 rfl dX8_body_322 rfl rfl ?_
      refine V_iconst 2 324 dX8_body_323 rfl kiconst_2 ?_
      refine V_iconst 1 325 dX8_body_324 rfl kiconst_1 ?_
      obtain ⟨p67, h66, hf⟩ := ob hf
      refine V_callV (rest := [.int p65.1]) (T := TX8) (n := 27) (ci := 7) 0 0 328 [.int p67.1, .int p65.1] ((ihr 2 [2, 1] p65.2 p67 h66).2.2.2 rfl _ _ rfl) (by omega) ok_X8_voiced okv_X8_voiced (ihr 2 [2, 1] p65.2 p67 h66).1 rfl wd_ml_X8_309 rfl rfl (Nat.le_of_ble_eq_true rfl) rfl rfl (Or.inl ⟨rfl, rfl⟩) dX8_body_325 rfl rfl ?_
      refine V_iadd 329 dX8_body_328 rfl ?_
      have er := Option.some.inj hf
      obtain ⟨e1, e2⟩ := Prod.mk.inj er
      subst e1
      subst e2
      exact V_iret hQ rfl dX8_body_329
    rw [if_neg c61] at hf
    by_cases c68 : (((4 : Int32) * a0) + a1) = 18
    · rw [if_pos c68] at hf
      refine V_tsw 18 315 330 dX8_body_15 c68 (by decide) (by decide) (by decide) (by decide) ?_
      refine V_aload_n 1 331 rfl dX8_body_330 rfl rfl ?_
      refine V_bipush 50 333 dX8_body_331 rfl kbipush_50 ?_
      obtain ⟨s70, h69, hf⟩ := ob hf
      refine V_callV (rest := []) (T := TX8) (n := 27) (ci := 7) 0 0 336 [] (c_X8_began l G (dr + 1) _ _ _ _ h69) (by omega) ok_X8_began okv_X8_began (gd_X8_began h69) rfl wd_ml_X8_306 rfl rfl (Nat.le_of_ble_eq_true rfl) rfl rfl (Or.inl ⟨rfl, rfl⟩) dX8_body_333 rfl rfl ?_
      refine V_aload_n 1 337 rfl dX8_body_336 rfl rfl ?_
      refine V_iconst 0 338 dX8_body_337 rfl kiconst_0 ?_
      refine V_iconst 2 339 dX8_body_338 rfl kiconst_2 ?_
      refine V_iload_n 4 340 rfl dX8_body_339 rfl rfl ?_
      obtain ⟨p72, h71, hf⟩ := ob hf
      refine V_callV (rest := []) (T := TX8) (n := 27) (ci := 7) 0 0 343 [.int p72.1] ((ihr 1 [0, 2, a2] s70 p72 h71).2.2.1 rfl _ _ _ rfl) (by omega) ok_X8_bodyFrom okv_X8_bodyFrom (ihr 1 [0, 2, a2] s70 p72 h71).1 rfl wd_ml_X8_294 rfl rfl (Nat.le_of_ble_eq_true rfl) rfl rfl (Or.inl ⟨rfl, rfl⟩) dX8_body_340 rfl rfl ?_
      refine V_iconst 3 344 dX8_body_343 rfl kiconst_3 ?_
      refine V_imul 345 dX8_body_344 rfl ?_
      have er := Option.some.inj hf
      obtain ⟨e1, e2⟩ := Prod.mk.inj er
      subst e1
      subst e2
      exact V_iret hQ rfl dX8_body_345
    rw [if_neg c68] at hf
    by_cases c73 : (((4 : Int32) * a0) + a1) = 20
    · rw [if_pos c73] at hf
      refine V_tsw 20 331 346 dX8_body_15 c73 (by decide) (by decide) (by decide) (by decide) ?_
      refine V_aload_n 1 347 rfl dX8_body_346 rfl rfl ?_
      refine V_bipush 60 349 dX8_body_347 rfl kbipush_60 ?_
      obtain ⟨s75, h74, hf⟩ := ob hf
      refine V_callV (rest := []) (T := TX8) (n := 27) (ci := 7) 0 0 352 [] (c_X8_began l G (dr + 1) _ _ _ _ h74) (by omega) ok_X8_began okv_X8_began (gd_X8_began h74) rfl wd_ml_X8_306 rfl rfl (Nat.le_of_ble_eq_true rfl) rfl rfl (Or.inl ⟨rfl, rfl⟩) dX8_body_349 rfl rfl ?_
      refine V_aload_n 1 353 rfl dX8_body_352 rfl rfl ?_
      refine V_iconst 3 354 dX8_body_353 rfl kiconst_3 ?_
      refine V_iconst 0 355 dX8_body_354 rfl kiconst_0 ?_
      refine V_iload_n 4 356 rfl dX8_body_355 rfl rfl ?_
      refine V_aload_n 1 357 rfl dX8_body_356 rfl rfl ?_
      obtain ⟨v77, h76, hf⟩ := ob hf
      refine V_getI (n := 27) (ty := tyX8) 360 h76 cf_7 rfl wd_fl_X8_291 dX8_body_357 rfl ?_
      refine V_iadd 361 dX8_body_360 rfl ?_
      obtain ⟨p79, h78, hf⟩ := ob hf
      refine V_callV (rest := []) (T := TX8) (n := 27) (ci := 7) 0 0 364 [.int p79.1] ((ihr 1 [3, 0, a2 + v77] s75 p79 h78).2.2.1 rfl _ _ _ rfl) (by omega) ok_X8_bodyFrom okv_X8_bodyFrom (ihr 1 [3, 0, a2 + v77] s75 p79 h78).1 rfl wd_ml_X8_294 rfl rfl (Nat.le_of_ble_eq_true rfl) rfl rfl (Or.inl ⟨rfl, rfl⟩) dX8_body_361 rfl rfl ?_
      have er := Option.some.inj hf
      obtain ⟨e1, e2⟩ := Prod.mk.inj er
      subst e1
      subst e2
      exact V_iret hQ rfl dX8_body_364
    rw [if_neg c73] at hf
    by_cases c80 : (((4 : Int32) * a0) + a1) = 22
    · rw [if_pos c80] at hf
      refine V_tsw 22 350 365 dX8_body_15 c80 (by decide) (by decide) (by decide) (by decide) ?_
      refine V_aload_n 1 366 rfl dX8_body_365 rfl rfl ?_
      refine V_bipush 61 368 dX8_body_366 rfl kbipush_61 ?_
      obtain ⟨s82, h81, hf⟩ := ob hf
      refine V_callV (rest := []) (T := TX8) (n := 27) (ci := 7) 0 0 371 [] (c_X8_began l G (dr + 1) _ _ _ _ h81) (by omega) ok_X8_began okv_X8_began (gd_X8_began h81) rfl wd_ml_X8_306 rfl rfl (Nat.le_of_ble_eq_true rfl) rfl rfl (Or.inl ⟨rfl, rfl⟩) dX8_body_368 rfl rfl ?_
      refine V_aload_n 1 372 rfl dX8_body_371 rfl rfl ?_
      refine V_iconst 3 373 dX8_body_372 rfl kiconst_3 ?_
      refine V_iconst 2 374 dX8_body_373 rfl kiconst_2 ?_
      refine V_iload_n 4 375 rfl dX8_body_374 rfl rfl ?_
      obtain ⟨p84, h83, hf⟩ := ob hf
      refine V_callV (rest := []) (T := TX8) (n := 27) (ci := 7) 0 0 378 [.int p84.1] ((ihr 1 [3, 2, a2] s82 p84 h83).2.2.1 rfl _ _ _ rfl) (by omega) ok_X8_bodyFrom okv_X8_bodyFrom (ihr 1 [3, 2, a2] s82 p84 h83).1 rfl wd_ml_X8_294 rfl rfl (Nat.le_of_ble_eq_true rfl) rfl rfl (Or.inl ⟨rfl, rfl⟩) dX8_body_375 rfl rfl ?_
      refine V_istore [(5, .int p84.1), (4, .int v4), (0, .ref t), (1, .int a0), (2, .int a1), (3, .int a2)] 380 dX8_body_378 (by decide) rfl rfl ?_
      refine V_iload 0 382 rfl dX8_body_380 rfl ?_
      refine V_aload_n 2 383 rfl dX8_body_382 rfl rfl ?_
      refine V_iconst 0 384 dX8_body_383 rfl kiconst_0 ?_
      refine V_iconst 2 385 dX8_body_384 rfl kiconst_2 ?_
      obtain ⟨p86, h85, hf⟩ := ob hf
      refine V_callV (rest := [.int p84.1]) (T := TX8) (n := 27) (ci := 7) 0 0 388 [.int p86.1, .int p84.1] ((ihr 2 [0, 2] p84.2 p86 h85).2.2.2 rfl _ _ rfl) (by omega) ok_X8_voiced okv_X8_voiced (ihr 2 [0, 2] p84.2 p86 h85).1 rfl wd_ml_X8_309 rfl rfl (Nat.le_of_ble_eq_true rfl) rfl rfl (Or.inl ⟨rfl, rfl⟩) dX8_body_385 rfl rfl ?_
      refine V_isub 389 dX8_body_388 rfl ?_
      have er := Option.some.inj hf
      obtain ⟨e1, e2⟩ := Prod.mk.inj er
      subst e1
      subst e2
      exact V_iret hQ rfl dX8_body_389
    rw [if_neg c80] at hf
    by_cases c87 : (((4 : Int32) * a0) + a1) = 26
    · rw [if_pos c87] at hf
      refine V_tsw 26 375 390 dX8_body_15 c87 (by decide) (by decide) (by decide) (by decide) ?_
      refine V_aload_n 1 391 rfl dX8_body_390 rfl rfl ?_
      refine V_bipush 70 393 dX8_body_391 rfl kbipush_70 ?_
      obtain ⟨s89, h88, hf⟩ := ob hf
      refine V_callV (rest := []) (T := TX8) (n := 27) (ci := 7) 0 0 396 [] (c_X8_began l G (dr + 1) _ _ _ _ h88) (by omega) ok_X8_began okv_X8_began (gd_X8_began h88) rfl wd_ml_X8_306 rfl rfl (Nat.le_of_ble_eq_true rfl) rfl rfl (Or.inl ⟨rfl, rfl⟩) dX8_body_393 rfl rfl ?_
      refine V_aload_n 1 397 rfl dX8_body_396 rfl rfl ?_
      refine V_iconst 1 398 dX8_body_397 rfl kiconst_1 ?_
      refine V_iconst 2 399 dX8_body_398 rfl kiconst_2 ?_
      refine V_iload_n 4 400 rfl dX8_body_399 rfl rfl ?_
      obtain ⟨p91, h90, hf⟩ := ob hf
      refine V_callV (rest := []) (T := TX8) (n := 27) (ci := 7) 0 0 403 [.int p91.1] ((ihr 1 [1, 2, a2] s89 p91 h90).2.2.1 rfl _ _ _ rfl) (by omega) ok_X8_bodyFrom okv_X8_bodyFrom (ihr 1 [1, 2, a2] s89 p91 h90).1 rfl wd_ml_X8_294 rfl rfl (Nat.le_of_ble_eq_true rfl) rfl rfl (Or.inl ⟨rfl, rfl⟩) dX8_body_400 rfl rfl ?_
      refine V_istore [(5, .int p91.1), (4, .int v4), (0, .ref t), (1, .int a0), (2, .int a1), (3, .int a2)] 405 dX8_body_403 (by decide) rfl rfl ?_
      refine V_iload 0 407 rfl dX8_body_405 rfl ?_
      refine V_aload_n 2 408 rfl dX8_body_407 rfl rfl ?_
      refine V_iconst 1 409 dX8_body_408 rfl kiconst_1 ?_
      refine V_aload_n 2 410 rfl dX8_body_409 rfl rfl ?_
      obtain ⟨v93, h92, hf⟩ := ob hf
      refine V_getI (n := 27) (ty := tyX8) 413 h92 cf_7 rfl wd_fl_X8_291 dX8_body_410 rfl ?_
      obtain ⟨p95, h94, hf⟩ := ob hf
      refine V_callV (rest := [.int p91.1]) (T := TX8) (n := 27) (ci := 7) 0 0 416 [.int p95.1, .int p91.1] ((ihr 2 [1, v93] p91.2 p95 h94).2.2.2 rfl _ _ rfl) (by omega) ok_X8_voiced okv_X8_voiced (ihr 2 [1, v93] p91.2 p95 h94).1 rfl wd_ml_X8_309 rfl rfl (Nat.le_of_ble_eq_true rfl) rfl rfl (Or.inl ⟨rfl, rfl⟩) dX8_body_413 rfl rfl ?_
      refine V_iadd 417 dX8_body_416 rfl ?_
      have er := Option.some.inj hf
      obtain ⟨e1, e2⟩ := Prod.mk.inj er
      subst e1
      subst e2
      exact V_iret hQ rfl dX8_body_417
    rw [if_neg c87] at hf
    refine V_tswD [0, 1, 2, 3, 5, 6, 8, 9, 12, 15, 18, 20, 22, 26] 418 dX8_body_15 (fun q hq => by simp only [List.mem_cons, List.not_mem_nil, or_false] at hq; rcases hq with rfl | rfl | rfl | rfl | rfl | rfl | rfl | rfl | rfl | rfl | rfl | rfl | rfl | rfl <;> assumption) (by decide) (by decide) (by decide) ?_
    refine V_aload_n 1 419 rfl dX8_body_418 rfl rfl ?_
    refine V_bipush 80 421 dX8_body_419 rfl kbipush_80 ?_
    obtain ⟨s97, h96, hf⟩ := ob hf
    refine V_callV (rest := []) (T := TX8) (n := 27) (ci := 7) 0 0 424 [] (c_X8_began l G (dr + 1) _ _ _ _ h96) (by omega) ok_X8_began okv_X8_began (gd_X8_began h96) rfl wd_ml_X8_306 rfl rfl (Nat.le_of_ble_eq_true rfl) rfl rfl (Or.inl ⟨rfl, rfl⟩) dX8_body_421 rfl rfl ?_
    refine V_aload_n 1 425 rfl dX8_body_424 rfl rfl ?_
    refine V_iconst 2 426 dX8_body_425 rfl kiconst_2 ?_
    refine V_iload_n 4 427 rfl dX8_body_426 rfl rfl ?_
    obtain ⟨p99, h98, hf⟩ := ob hf
    refine V_callV (rest := []) (T := TX8) (n := 27) (ci := 7) 0 0 430 [.int p99.1] ((ihr 2 [2, a2] s97 p99 h98).2.2.2 rfl _ _ rfl) (by omega) ok_X8_voiced okv_X8_voiced (ihr 2 [2, a2] s97 p99 h98).1 rfl wd_ml_X8_309 rfl rfl (Nat.le_of_ble_eq_true rfl) rfl rfl (Or.inl ⟨rfl, rfl⟩) dX8_body_427 rfl rfl ?_
    refine V_istore [(5, .int p99.1), (4, .int v4), (0, .ref t), (1, .int a0), (2, .int a1), (3, .int a2)] 432 dX8_body_430 (by decide) rfl rfl ?_
    refine V_iload 0 434 rfl dX8_body_432 rfl ?_
    refine V_aload_n 2 435 rfl dX8_body_434 rfl rfl ?_
    refine V_iconst 4 436 dX8_body_435 rfl kiconst_4 ?_
    refine V_iconst 3 437 dX8_body_436 rfl kiconst_3 ?_
    refine V_iload_n 5 438 rfl dX8_body_437 rfl rfl ?_
    obtain ⟨p101, h100, hf⟩ := ob hf
    refine V_callV (rest := [.int p99.1]) (T := TX8) (n := 27) (ci := 7) 0 0 441 [.int p101.1, .int p99.1] ((ihr 1 [4, 3, a2] p99.2 p101 h100).2.2.1 rfl _ _ _ rfl) (by omega) ok_X8_bodyFrom okv_X8_bodyFrom (ihr 1 [4, 3, a2] p99.2 p101 h100).1 rfl wd_ml_X8_294 rfl rfl (Nat.le_of_ble_eq_true rfl) rfl rfl (Or.inl ⟨rfl, rfl⟩) dX8_body_438 rfl rfl ?_
    refine V_isub 442 dX8_body_441 rfl ?_
    have er := Option.some.inj hf
    obtain ⟨e1, e2⟩ := Prod.mk.inj er
    subst e1
    subst e2
    exact V_iret hQ rfl dX8_body_442
  · rw [if_neg hg] at hf
    cases hf
set_option maxRecDepth 100000 in
set_option maxHeartbeats 4000000 in
theorem cb_X8_bodyFrom (l : Launch) (G : Gd) (dr : Nat) (rc : Nat → List Int32 → St → Option (Int32 × St)) (t : Nat) (ihr : ∀ j as σ p, rc j as σ = some p → CT_X8_body l G dr t j as σ p) (σ : St) (a0 : Int32) (a1 : Int32) (a2 : Int32) (r0 : Int32) (σ' : St) (hf : f_X8_bodyFrom rc σ t a0 a1 a2 = some (r0, σ')) : MetV l G (dr + 3) mi_X8_bodyFrom [.ref t, .int a0, .int a1, .int a2] σ (some (.int r0)) σ' 0 0 := by
  unfold f_X8_bodyFrom at hf
  refine MetV.of [(0, .ref t), (1, .int a0), (2, .int a1), (3, .int a2)] (by decide +kernel) rfl (Nat.le_of_ble_eq_true rfl) ?_
  intro X hQ
  have L3 : ∀ (σ : St) (x2 : Int32) (x3 : Int32) (n : Nat) (x4 : Int32) (p : Int32), f_X8_bodyFrom_L3 rc σ x2 n x4 = some p → V mi_X8_bodyFrom l G (dr + 3) 0 0 X 0 0 22 [(4, .int p), (0, .ref t), (2, .int x2), (3, .int x3)] [] σ → V mi_X8_bodyFrom l G (dr + 3) 0 0 X 0 0 3 [(4, .int x4), (0, .ref t), (2, .int x2), (3, .int x3)] [] σ := by
    intro σ x2 x3 n
    induction n with
    | zero =>
      intro x4 p hf
      exact absurd (show (none : Option _) = some p from hf) (by simp)
    | succ n ih =>
      intro x4 p hf hk
      rw [f_X8_bodyFrom_L3] at hf
      refine V_iload 0 5 rfl dX8_bodyFrom_3 rfl ?_
      refine V_iload_n 2 6 rfl dX8_bodyFrom_5 rfl rfl ?_
      obtain ⟨v2, h1, hf⟩ := ob hf
      refine V_callS (rest := []) 0 0 9 [.int v2] (c_X8_hasOwn l G (dr + 1) _ _ _ _ h1) (by omega) ok_X8_hasOwn oks_X8_hasOwn wd_ml_X8_297 rfl rfl (Nat.le_of_ble_eq_true rfl) rfl rfl (Or.inl ⟨rfl, rfl⟩) dX8_bodyFrom_6 rfl rfl ?_
      refine V_if_ne 22 12 dX8_bodyFrom_9 (by decide) rfl (fun c3 => ?_) (fun c3 => ?_)
      · rw [if_neg c3] at hf
        have ep := Option.some.inj hf
        subst ep
        refine V_ls [(4, .int x4), (0, .ref t), (2, .int x2), (3, .int x3)] [0, 1, 2, 3] rfl ?_
        exact hk
      · rw [if_pos c3] at hf
        refine V_iload 0 14 rfl dX8_bodyFrom_12 rfl ?_
        obtain ⟨v5, h4, hf⟩ := ob hf
        refine V_callS (rest := []) 0 0 17 [.int v5] (c_X8_above l G (dr + 1) _ _ _ h4) (by omega) ok_X8_above oks_X8_above wd_ml_X8_143 rfl rfl (Nat.le_of_ble_eq_true rfl) rfl rfl (Or.inl ⟨rfl, rfl⟩) dX8_bodyFrom_14 rfl rfl ?_
        refine V_istore [(4, .int v5), (0, .ref t), (2, .int x2), (3, .int x3)] 19 dX8_bodyFrom_17 (by decide) rfl rfl ?_
        refine V_goto 3 dX8_bodyFrom_19 (by decide) ?_
        refine V_ls [(4, .int v5), (0, .ref t), (2, .int x2), (3, .int x3)] [0, 1, 2, 3] rfl ?_
        exact ih _ _ hf hk
  by_cases hg : isO σ 7 t = true
  · rw [if_pos hg] at hf
    refine V_iload_n 1 1 rfl dX8_bodyFrom_0 rfl rfl ?_
    refine V_istore [(4, .int a0), (0, .ref t), (1, .int a0), (2, .int a1), (3, .int a2)] 3 dX8_bodyFrom_1 (by decide) rfl rfl ?_
    obtain ⟨p6, h7, hf⟩ := ob hf
    refine V_ls [(4, .int a0), (0, .ref t), (2, .int a1), (3, .int a2)] [0, 1, 3, 4] rfl ?_
    refine L3 σ a1 a2 3000 a0 p6 h7 ?_
    refine V_aload_n 1 23 rfl dX8_bodyFrom_22 rfl rfl ?_
    obtain ⟨v9, h8, hf⟩ := ob hf
    refine V_getI (n := 27) (ty := tyX8) 26 h8 cf_7 rfl wd_fl_X8_300 dX8_bodyFrom_23 rfl ?_
    refine V_if_eq 33 29 dX8_bodyFrom_26 (by decide) rfl (fun c10 => ?_) (fun c10 => ?_)
    · rw [if_pos c10] at hf
      refine V_aload_n 1 34 rfl dX8_bodyFrom_33 rfl rfl ?_
      refine V_iload 0 36 rfl dX8_bodyFrom_34 rfl ?_
      refine V_iload_n 2 37 rfl dX8_bodyFrom_36 rfl rfl ?_
      refine V_iload_n 3 38 rfl dX8_bodyFrom_37 rfl rfl ?_
      obtain ⟨p12, h11, hf⟩ := ob hf
      refine V_callV (rest := []) (T := TX8) (n := 27) (ci := 7) 0 0 41 [.int p12.1] ((ihr 0 [p6, a1, a2] σ p12 h11).2.1 rfl _ _ _ rfl) (by omega) ok_X8_body okv_X8_body (ihr 0 [p6, a1, a2] σ p12 h11).1 rfl wd_ml_X8_303 rfl rfl (Nat.le_of_ble_eq_true rfl) rfl rfl (Or.inl ⟨rfl, rfl⟩) dX8_bodyFrom_38 rfl rfl ?_
      have er := Option.some.inj hf
      obtain ⟨e1, e2⟩ := Prod.mk.inj er
      subst e1
      subst e2
      exact V_iret hQ rfl dX8_bodyFrom_41
    · rw [if_neg c10] at hf
      refine V_iconst 0 30 dX8_bodyFrom_29 rfl kiconst_0 ?_
      refine V_goto 41 dX8_bodyFrom_30 (by decide) ?_
      have er := Option.some.inj hf
      obtain ⟨e1, e2⟩ := Prod.mk.inj er
      subst e1
      subst e2
      exact V_iret hQ rfl dX8_bodyFrom_41
  · rw [if_neg hg] at hf
    cases hf
set_option maxRecDepth 100000 in
set_option maxHeartbeats 4000000 in
theorem cb_X8_voiced (l : Launch) (G : Gd) (dr : Nat) (rc : Nat → List Int32 → St → Option (Int32 × St)) (t : Nat) (ihr : ∀ j as σ p, rc j as σ = some p → CT_X8_body l G dr t j as σ p) (σ : St) (a0 : Int32) (a1 : Int32) (r0 : Int32) (σ' : St) (hf : f_X8_voiced rc σ t a0 a1 = some (r0, σ')) : MetV l G (dr + 3) mi_X8_voiced [.ref t, .int a0, .int a1] σ (some (.int r0)) σ' 0 0 := by
  unfold f_X8_voiced at hf
  refine MetV.of [(0, .ref t), (1, .int a0), (2, .int a1)] (by decide +kernel) rfl (Nat.le_of_ble_eq_true rfl) ?_
  intro X hQ
  by_cases hg : isO σ 7 t = true
  · rw [if_pos hg] at hf
    refine V_aload_n 0 1 rfl dX8_voiced_0 rfl rfl ?_
    refine V_aload_n 0 2 rfl dX8_voiced_1 rfl rfl ?_
    refine V_aload_n 0 3 rfl dX8_voiced_2 rfl rfl ?_
    obtain ⟨v2, h1, hf⟩ := ob hf
    refine V_getI (n := 27) (ty := tyX8) 6 h1 cf_7 rfl wd_fl_X8_291 dX8_voiced_3 rfl ?_
    refine V_iconst 0 7 dX8_voiced_6 rfl kiconst_0 ?_
    obtain ⟨v4, h3, hf⟩ := ob hf
    refine V_callV (rest := [.ref t]) (T := TX8) (n := 27) (ci := 7) 0 0 10 [.int v4, .ref t] (c_X8_curve l G (dr + 1) _ _ _ _ _ h3) (by omega) ok_X8_curve okv_X8_curve (gd_X8_curve h3) rfl wd_ml_X8_87 rfl rfl (Nat.le_of_ble_eq_true rfl) rfl rfl (Or.inl ⟨rfl, rfl⟩) dX8_voiced_7 rfl rfl ?_
    refine V_iload_n 1 11 rfl dX8_voiced_10 rfl rfl ?_
    refine V_iload_n 2 12 rfl dX8_voiced_11 rfl rfl ?_
    obtain ⟨p6, h5, hf⟩ := ob hf
    refine V_callV (rest := []) (T := TX8) (n := 27) (ci := 7) 0 0 15 [.int p6.1] ((ihr 1 [v4, a0, a1] σ p6 h5).2.2.1 rfl _ _ _ rfl) (by omega) ok_X8_bodyFrom okv_X8_bodyFrom (ihr 1 [v4, a0, a1] σ p6 h5).1 rfl wd_ml_X8_294 rfl rfl (Nat.le_of_ble_eq_true rfl) rfl rfl (Or.inl ⟨rfl, rfl⟩) dX8_voiced_12 rfl rfl ?_
    have er := Option.some.inj hf
    obtain ⟨e1, e2⟩ := Prod.mk.inj er
    subst e1
    subst e2
    exact V_iret hQ rfl dX8_voiced_15
  · rw [if_neg hg] at hf
    cases hf
set_option maxRecDepth 100000 in
set_option maxHeartbeats 4000000 in
theorem cr_X8_body (l : Launch) (G : Gd) (d : Nat) (t : Nat) : ∀ (n j : Nat) (as : List Int32) (σ : St) (p : Int32 × St), rc_X8_body t n j as σ = some p → CT_X8_body l G (d + 3 * n) t j as σ p := by
  intro n
  induction n with
  | zero =>
    intro j as σ p h
    exact absurd (show (none : Option _) = some p from h) (by simp)
  | succ n ih =>
    intro j as σ p h
    rw [rc_X8_body] at h
    unfold ds_X8_body at h
    rw [show d + 3 * (n + 1) = d + 3 * n + 3 from by omega]
    split at h
    · next a0 a1 a2 =>
      obtain ⟨r0, s0⟩ := p
      exact ⟨gd_f_X8_body h, fun _ b0 b1 b2 e => by cases e; exact cb_X8_body l G (d + 3 * n) (rc_X8_body t n) t ih σ a0 a1 a2 r0 s0 h, fun e => absurd e (by decide), fun e => absurd e (by decide)⟩
    · next a0 a1 a2 =>
      obtain ⟨r0, s0⟩ := p
      exact ⟨gd_f_X8_bodyFrom h, fun e => absurd e (by decide), fun _ b0 b1 b2 e => by cases e; exact cb_X8_bodyFrom l G (d + 3 * n) (rc_X8_body t n) t ih σ a0 a1 a2 r0 s0 h, fun e => absurd e (by decide)⟩
    · next a0 a1 =>
      obtain ⟨r0, s0⟩ := p
      exact ⟨gd_f_X8_voiced h, fun e => absurd e (by decide), fun e => absurd e (by decide), fun _ b0 b1 e => by cases e; exact cb_X8_voiced l G (d + 3 * n) (rc_X8_body t n) t ih σ a0 a1 r0 s0 h⟩
    · cases h
def g_X8_body (σ : St) (t : Nat) (a0 : Int32) (a1 : Int32) (a2 : Int32) : Option (Int32 × St) := rc_X8_body t 60 0 [a0, a1, a2] σ
theorem c_X8_body (l : Launch) (G : Gd) (d : Nat) (σ : St) (t : Nat) (a0 : Int32) (a1 : Int32) (a2 : Int32) (r0 : Int32) (σ' : St) (hf : g_X8_body σ t a0 a1 a2 = some (r0, σ')) : MetV l G (d + 180) mi_X8_body [.ref t, .int a0, .int a1, .int a2] σ (some (.int r0)) σ' 0 0 := by
  unfold g_X8_body at hf
  have hp := hf
  exact (cr_X8_body l G d t 60 0 _ σ _ hp).2.1 rfl _ _ _ rfl
theorem gd_X8_body {σ : St} {t : Nat} {a0 : Int32} {a1 : Int32} {a2 : Int32} {r : Int32 × St} (h : g_X8_body σ t a0 a1 a2 = some r) : isO σ 7 t = true := by
  unfold g_X8_body at h
  have hp := h
  have hx : rc_X8_body t (59 + 1) 0 _ σ = some _ := hp
  rw [rc_X8_body] at hx
  exact gd_f_X8_body hx
def g_X8_bodyFrom (σ : St) (t : Nat) (a0 : Int32) (a1 : Int32) (a2 : Int32) : Option (Int32 × St) := rc_X8_body t 60 1 [a0, a1, a2] σ
theorem c_X8_bodyFrom (l : Launch) (G : Gd) (d : Nat) (σ : St) (t : Nat) (a0 : Int32) (a1 : Int32) (a2 : Int32) (r0 : Int32) (σ' : St) (hf : g_X8_bodyFrom σ t a0 a1 a2 = some (r0, σ')) : MetV l G (d + 180) mi_X8_bodyFrom [.ref t, .int a0, .int a1, .int a2] σ (some (.int r0)) σ' 0 0 := by
  unfold g_X8_bodyFrom at hf
  have hp := hf
  exact (cr_X8_body l G d t 60 1 _ σ _ hp).2.2.1 rfl _ _ _ rfl
theorem gd_X8_bodyFrom {σ : St} {t : Nat} {a0 : Int32} {a1 : Int32} {a2 : Int32} {r : Int32 × St} (h : g_X8_bodyFrom σ t a0 a1 a2 = some r) : isO σ 7 t = true := by
  unfold g_X8_bodyFrom at h
  have hp := h
  have hx : rc_X8_body t (59 + 1) 1 _ σ = some _ := hp
  rw [rc_X8_body] at hx
  exact gd_f_X8_bodyFrom hx
def g_X8_voiced (σ : St) (t : Nat) (a0 : Int32) (a1 : Int32) : Option (Int32 × St) := rc_X8_body t 60 2 [a0, a1] σ
theorem c_X8_voiced (l : Launch) (G : Gd) (d : Nat) (σ : St) (t : Nat) (a0 : Int32) (a1 : Int32) (r0 : Int32) (σ' : St) (hf : g_X8_voiced σ t a0 a1 = some (r0, σ')) : MetV l G (d + 180) mi_X8_voiced [.ref t, .int a0, .int a1] σ (some (.int r0)) σ' 0 0 := by
  unfold g_X8_voiced at hf
  have hp := hf
  exact (cr_X8_body l G d t 60 2 _ σ _ hp).2.2.2 rfl _ _ rfl
theorem gd_X8_voiced {σ : St} {t : Nat} {a0 : Int32} {a1 : Int32} {r : Int32 × St} (h : g_X8_voiced σ t a0 a1 = some r) : isO σ 7 t = true := by
  unfold g_X8_voiced at h
  have hp := h
  have hx : rc_X8_body t (59 + 1) 2 _ σ = some _ := hp
  rw [rc_X8_body] at hx
  exact gd_f_X8_voiced hx
abbrev mi_X8_voice : MI := (yX8_voice, cX8_voice, 5, some .int)
theorem ok_X8_voice : OkN mi_X8_voice 3 := ⟨wd_cd_X8_voice, wd_in_X8, ⟨by decide +kernel, by decide +kernel, by decide +kernel⟩, by decide⟩
theorem okv_X8_voice : Cond.instanceMethod (mi_X8_voice).1 ∈ tb ∧ Cond.selects (mi_X8_voice).1.cls (mi_X8_voice).1 (mi_X8_voice).1 ∈ tb := ⟨wd_im_X8_voice, wd_se_X8_voice⟩
def f_X8_voice (σ : St) (t : Nat) (a0 : Int32) (a1 : Int32) (a2 : Int32) : Option (Int32 × St) := if isO σ 7 t = true then ((f_X8_is σ t a0 1).bind fun v2 => if v2 = 0 then ((f_X8_finding σ t (-1000001)).bind fun p5 => some (p5.1, p5.2)) else ((f_X8_within σ a1 0 3).bind fun v7 => if v7 = 0 then ((f_X8_finding σ t (-1000001)).bind fun p23 => some (p23.1, p23.2)) else ((pI σ 7 t 20 0).bind fun s10 => (pI s10 7 t 21 a0).bind fun s12 => (pZ s12 7 t 22 0).bind fun s14 => (g_X8_voiced s14 t a1 a2).bind fun p16 => (gI p16.2 7 t 22).bind fun v18 => if v18 = 0 then (some (p16.1, p16.2)) else ((f_X8_finding p16.2 t (-1000006)).bind fun p21 => some (p21.1, p21.2))))) else none
theorem gd_X8_voice {σ : St} {t : Nat} {a0 : Int32} {a1 : Int32} {a2 : Int32} {r : Int32 × St} (h : f_X8_voice σ t a0 a1 a2 = some r) : isO σ 7 t = true := by
  unfold f_X8_voice at h
  by_cases hg : isO σ 7 t = true
  · exact hg
  · rw [if_neg hg] at h
    cases h
set_option maxRecDepth 100000 in
set_option maxHeartbeats 4000000 in
theorem c_X8_voice (l : Launch) (G : Gd) (d : Nat) (σ : St) (t : Nat) (a0 : Int32) (a1 : Int32) (a2 : Int32) (r0 : Int32) (σ' : St) (hf : f_X8_voice σ t a0 a1 a2 = some (r0, σ')) : MetV l G (d + 181) mi_X8_voice [.ref t, .int a0, .int a1, .int a2] σ (some (.int r0)) σ' 0 0 := by
  unfold f_X8_voice at hf
  refine MetV.of [(0, .ref t), (1, .int a0), (2, .int a1), (3, .int a2)] (by decide +kernel) rfl (Nat.le_of_ble_eq_true rfl) ?_
  intro X hQ
  by_cases hg : isO σ 7 t = true
  · rw [if_pos hg] at hf
    refine V_aload_n 0 1 rfl dX8_voice_0 rfl rfl ?_
    refine V_iload_n 1 2 rfl dX8_voice_1 rfl rfl ?_
    refine V_iconst 1 3 dX8_voice_2 rfl kiconst_1 ?_
    obtain ⟨v2, h1, hf⟩ := ob hf
    refine V_callV (rest := []) (T := TX8) (n := 27) (ci := 7) 0 0 6 [.int v2] (c_X8_is l G (d + 178) _ _ _ _ _ h1) (by omega) ok_X8_is okv_X8_is (gd_X8_is h1) rfl wd_ml_X8_83 rfl rfl (Nat.le_of_ble_eq_true rfl) rfl rfl (Or.inl ⟨rfl, rfl⟩) dX8_voice_3 rfl rfl ?_
    refine V_if_eq 18 9 dX8_voice_6 (by decide) rfl (fun c3 => ?_) (fun c3 => ?_)
    · rw [if_pos c3] at hf
      refine V_aload_n 0 19 rfl dX8_voice_18 rfl rfl ?_
      refine V_ldc (-1000001) 21 dX8_voice_19 rfl wd_kk_X8_76 ?_
      obtain ⟨p5, h4, hf⟩ := ob hf
      refine V_callV (rest := []) (T := TX8) (n := 27) (ci := 7) 0 0 24 [.int p5.1] (c_X8_finding l G (d + 179) _ _ _ _ _ h4) (by omega) ok_X8_finding okv_X8_finding (gd_X8_finding h4) rfl wd_ml_X8_77 rfl rfl (Nat.le_of_ble_eq_true rfl) rfl rfl (Or.inl ⟨rfl, rfl⟩) dX8_voice_21 rfl rfl ?_
      have er := Option.some.inj hf
      obtain ⟨e1, e2⟩ := Prod.mk.inj er
      subst e1
      subst e2
      exact V_iret hQ rfl dX8_voice_24
    · rw [if_neg c3] at hf
      refine V_iload_n 2 10 rfl dX8_voice_9 rfl rfl ?_
      refine V_iconst 0 11 dX8_voice_10 rfl kiconst_0 ?_
      refine V_iconst 3 12 dX8_voice_11 rfl kiconst_3 ?_
      obtain ⟨v7, h6, hf⟩ := ob hf
      refine V_callS (rest := []) 0 0 15 [.int v7] (c_X8_within l G (d + 179) _ _ _ _ _ h6) (by omega) ok_X8_within oks_X8_within wd_ml_X8_68 rfl rfl (Nat.le_of_ble_eq_true rfl) rfl rfl (Or.inl ⟨rfl, rfl⟩) dX8_voice_12 rfl rfl ?_
      refine V_if_ne 25 18 dX8_voice_15 (by decide) rfl (fun c8 => ?_) (fun c8 => ?_)
      · rw [if_neg c8] at hf
        refine V_aload_n 0 26 rfl dX8_voice_25 rfl rfl ?_
        refine V_iconst 0 27 dX8_voice_26 rfl kiconst_0 ?_
        obtain ⟨s10, h9, hf⟩ := ob hf
        refine V_putI (n := 27) (T := TX8) (ty := tyX8) (f := 20) 30 h9 cf_7 rfl rfl (Or.inl rfl) wd_fl_X8_288 dX8_voice_27 rfl ?_
        refine V_aload_n 0 31 rfl dX8_voice_30 rfl rfl ?_
        refine V_iload_n 1 32 rfl dX8_voice_31 rfl rfl ?_
        obtain ⟨s12, h11, hf⟩ := ob hf
        refine V_putI (n := 27) (T := TX8) (ty := tyX8) (f := 21) 35 h11 cf_7 rfl rfl (Or.inl rfl) wd_fl_X8_291 dX8_voice_32 rfl ?_
        refine V_aload_n 0 36 rfl dX8_voice_35 rfl rfl ?_
        refine V_iconst 0 37 dX8_voice_36 rfl kiconst_0 ?_
        obtain ⟨s14, h13, hf⟩ := ob hf
        refine V_putZ (n := 27) (T := TX8) (ty := tyX8) (f := 22) 40 h13 cf_7 rfl rfl (Or.inl rfl) wd_fl_X8_300 dX8_voice_37 rfl ?_
        refine V_aload_n 0 41 rfl dX8_voice_40 rfl rfl ?_
        refine V_iload_n 2 42 rfl dX8_voice_41 rfl rfl ?_
        refine V_iload_n 3 43 rfl dX8_voice_42 rfl rfl ?_
        obtain ⟨p16, h15, hf⟩ := ob hf
        refine V_callV (rest := []) (T := TX8) (n := 27) (ci := 7) 0 0 46 [.int p16.1] (c_X8_voiced l G (d + 0) _ _ _ _ _ _ h15) (by omega) ok_X8_voiced okv_X8_voiced (gd_X8_voiced h15) rfl wd_ml_X8_309 rfl rfl (Nat.le_of_ble_eq_true rfl) rfl rfl (Or.inl ⟨rfl, rfl⟩) dX8_voice_43 rfl rfl ?_
        refine V_istore [(4, .int p16.1), (0, .ref t), (1, .int a0), (2, .int a1), (3, .int a2)] 48 dX8_voice_46 (by decide) rfl rfl ?_
        refine V_aload_n 1 49 rfl dX8_voice_48 rfl rfl ?_
        obtain ⟨v18, h17, hf⟩ := ob hf
        refine V_getI (n := 27) (ty := tyX8) 52 h17 cf_7 rfl wd_fl_X8_300 dX8_voice_49 rfl ?_
        refine V_if_eq 65 55 dX8_voice_52 (by decide) rfl (fun c19 => ?_) (fun c19 => ?_)
        · rw [if_pos c19] at hf
          refine V_iload 0 67 rfl dX8_voice_65 rfl ?_
          have er := Option.some.inj hf
          obtain ⟨e1, e2⟩ := Prod.mk.inj er
          subst e1
          subst e2
          exact V_iret hQ rfl dX8_voice_67
        · rw [if_neg c19] at hf
          refine V_aload_n 1 56 rfl dX8_voice_55 rfl rfl ?_
          refine V_ldc_w (-1000006) 59 dX8_voice_56 rfl wd_kk_X8_312 ?_
          obtain ⟨p21, h20, hf⟩ := ob hf
          refine V_callV (rest := []) (T := TX8) (n := 27) (ci := 7) 0 0 62 [.int p21.1] (c_X8_finding l G (d + 179) _ _ _ _ _ h20) (by omega) ok_X8_finding okv_X8_finding (gd_X8_finding h20) rfl wd_ml_X8_77 rfl rfl (Nat.le_of_ble_eq_true rfl) rfl rfl (Or.inl ⟨rfl, rfl⟩) dX8_voice_59 rfl rfl ?_
          refine V_goto 67 dX8_voice_62 (by decide) ?_
          have er := Option.some.inj hf
          obtain ⟨e1, e2⟩ := Prod.mk.inj er
          subst e1
          subst e2
          exact V_iret hQ rfl dX8_voice_67
      · rw [if_pos c8] at hf
        refine V_aload_n 0 19 rfl dX8_voice_18 rfl rfl ?_
        refine V_ldc (-1000001) 21 dX8_voice_19 rfl wd_kk_X8_76 ?_
        obtain ⟨p23, h22, hf⟩ := ob hf
        refine V_callV (rest := []) (T := TX8) (n := 27) (ci := 7) 0 0 24 [.int p23.1] (c_X8_finding l G (d + 179) _ _ _ _ _ h22) (by omega) ok_X8_finding okv_X8_finding (gd_X8_finding h22) rfl wd_ml_X8_77 rfl rfl (Nat.le_of_ble_eq_true rfl) rfl rfl (Or.inl ⟨rfl, rfl⟩) dX8_voice_21 rfl rfl ?_
        have er := Option.some.inj hf
        obtain ⟨e1, e2⟩ := Prod.mk.inj er
        subst e1
        subst e2
        exact V_iret hQ rfl dX8_voice_24
  · rw [if_neg hg] at hf
    cases hf
abbrev mi_X8_trace : MI := (yX8_trace, cX8_trace, 2, some .int)
theorem ok_X8_trace : OkN mi_X8_trace 1 := ⟨wd_cd_X8_trace, wd_in_X8, ⟨by decide +kernel, by decide +kernel, by decide +kernel⟩, by decide⟩
theorem okv_X8_trace : Cond.instanceMethod (mi_X8_trace).1 ∈ tb ∧ Cond.selects (mi_X8_trace).1.cls (mi_X8_trace).1 (mi_X8_trace).1 ∈ tb := ⟨wd_im_X8_trace, wd_se_X8_trace⟩
def f_X8_trace (σ : St) (t : Nat) (a0 : Int32) : Option (Int32 × St) := if isO σ 7 t = true then ((gI σ 7 t 20).bind fun v2 => (f_X8_within σ a0 0 (v2 - 1)).bind fun v4 => if v4 = 0 then ((f_X8_finding σ t (-1000002)).bind fun p7 => some (p7.1, p7.2)) else ((gQ σ 7 t 19).bind fun q9 => (aI σ 0 q9 a0).bind fun v11 => some (v11, σ))) else none
theorem gd_X8_trace {σ : St} {t : Nat} {a0 : Int32} {r : Int32 × St} (h : f_X8_trace σ t a0 = some r) : isO σ 7 t = true := by
  unfold f_X8_trace at h
  by_cases hg : isO σ 7 t = true
  · exact hg
  · rw [if_neg hg] at h
    cases h
set_option maxRecDepth 100000 in
set_option maxHeartbeats 4000000 in
theorem c_X8_trace (l : Launch) (G : Gd) (d : Nat) (σ : St) (t : Nat) (a0 : Int32) (r0 : Int32) (σ' : St) (hf : f_X8_trace σ t a0 = some (r0, σ')) : MetV l G (d + 2) mi_X8_trace [.ref t, .int a0] σ (some (.int r0)) σ' 0 0 := by
  unfold f_X8_trace at hf
  refine MetV.of [(0, .ref t), (1, .int a0)] (by decide +kernel) rfl (Nat.le_of_ble_eq_true rfl) ?_
  intro X hQ
  by_cases hg : isO σ 7 t = true
  · rw [if_pos hg] at hf
    refine V_iload_n 1 1 rfl dX8_trace_0 rfl rfl ?_
    refine V_iconst 0 2 dX8_trace_1 rfl kiconst_0 ?_
    refine V_aload_n 0 3 rfl dX8_trace_2 rfl rfl ?_
    obtain ⟨v2, h1, hf⟩ := ob hf
    refine V_getI (n := 27) (ty := tyX8) 6 h1 cf_7 rfl wd_fl_X8_288 dX8_trace_3 rfl ?_
    refine V_iconst 1 7 dX8_trace_6 rfl kiconst_1 ?_
    refine V_isub 8 dX8_trace_7 rfl ?_
    obtain ⟨v4, h3, hf⟩ := ob hf
    refine V_callS (rest := []) 0 0 11 [.int v4] (c_X8_within l G (d + 0) _ _ _ _ _ h3) (by omega) ok_X8_within oks_X8_within wd_ml_X8_68 rfl rfl (Nat.le_of_ble_eq_true rfl) rfl rfl (Or.inl ⟨rfl, rfl⟩) dX8_trace_8 rfl rfl ?_
    refine V_if_eq 23 14 dX8_trace_11 (by decide) rfl (fun c5 => ?_) (fun c5 => ?_)
    · rw [if_pos c5] at hf
      refine V_aload_n 0 24 rfl dX8_trace_23 rfl rfl ?_
      refine V_ldc (-1000002) 26 dX8_trace_24 rfl wd_kk_X8_113 ?_
      obtain ⟨p7, h6, hf⟩ := ob hf
      refine V_callV (rest := []) (T := TX8) (n := 27) (ci := 7) 0 0 29 [.int p7.1] (c_X8_finding l G (d + 0) _ _ _ _ _ h6) (by omega) ok_X8_finding okv_X8_finding (gd_X8_finding h6) rfl wd_ml_X8_77 rfl rfl (Nat.le_of_ble_eq_true rfl) rfl rfl (Or.inl ⟨rfl, rfl⟩) dX8_trace_26 rfl rfl ?_
      have er := Option.some.inj hf
      obtain ⟨e1, e2⟩ := Prod.mk.inj er
      subst e1
      subst e2
      exact V_iret hQ rfl dX8_trace_29
    · rw [if_neg c5] at hf
      refine V_aload_n 0 15 rfl dX8_trace_14 rfl rfl ?_
      obtain ⟨q9, h8, hf⟩ := ob hf
      refine V_getQ (n := 27) (ty := tyX8) 18 h8 cf_7 rfl wd_fl_X8_52 dX8_trace_15 rfl ?_
      refine V_iload_n 1 19 rfl dX8_trace_18 rfl rfl ?_
      obtain ⟨v11, h10, hf⟩ := ob hf
      refine V_iald 20 h10 dX8_trace_19 rfl ?_
      refine V_goto 29 dX8_trace_20 (by decide) ?_
      have er := Option.some.inj hf
      obtain ⟨e1, e2⟩ := Prod.mk.inj er
      subst e1
      subst e2
      exact V_iret hQ rfl dX8_trace_29
  · rw [if_neg hg] at hf
    cases hf
abbrev mi_X8_sheet : MI := (yX8_sheet, cX8_sheet, 5, some .int)
theorem ok_X8_sheet : OkN mi_X8_sheet 3 := ⟨wd_cd_X8_sheet, wd_in_X8, ⟨by decide +kernel, by decide +kernel, by decide +kernel⟩, by decide⟩
theorem okv_X8_sheet : Cond.instanceMethod (mi_X8_sheet).1 ∈ tb ∧ Cond.selects (mi_X8_sheet).1.cls (mi_X8_sheet).1 (mi_X8_sheet).1 ∈ tb := ⟨wd_im_X8_sheet, wd_se_X8_sheet⟩
def f_X8_sheet_L94 (t : Nat) (x1 : Int32) : Nat → Int32 → St → Option (Int32 × St)
  | 0, _, _ => none
  | n + 1, x4, σ => if 24 ≤ x4 then (some (x4, σ)) else ((gQ σ 7 t 25).bind fun q19 => (sI σ q19 (((24 : Int32) * x1) + x4) 0).bind fun s21 => f_X8_sheet_L94 t x1 n (x4 + 1) s21)
def f_X8_sheet (σ : St) (t : Nat) (a0 : Int32) (a1 : Int32) (a2 : Int32) : Option (Int32 × St) := if isO σ 7 t = true then ((f_X8_isSheet σ a0).bind fun v2 => if v2 = 0 then ((f_X8_finding σ t (-1000001)).bind fun p5 => some (p5.1, p5.2)) else (if a1 = 0 then (if a1 = 0 then (if a1 = 0 then ((gQ σ 7 t 23).bind fun q10 => (sI σ q10 a0 a1).bind fun s12 => (gQ s12 7 t 24).bind fun q14 => (sI s12 q14 a0 (if a1 = 0 then 0 else a2 : Int32)).bind fun s16 => (f_X8_sheet_L94 t a0 3000 0 s16).bind fun p22 => some (1, p22.2)) else (if a2 ≤ 24 then ((gQ σ 7 t 23).bind fun q28 => (sI σ q28 a0 a1).bind fun s30 => (gQ s30 7 t 24).bind fun q32 => (sI s30 q32 a0 (if a1 = 0 then 0 else a2 : Int32)).bind fun s34 => (f_X8_sheet_L94 t a0 3000 0 s34).bind fun p35 => some (1, p35.2)) else ((f_X8_finding σ t (-1000001)).bind fun p40 => some (p40.1, p40.2)))) else (if 0 ≤ a2 then (if a1 = 0 then ((gQ σ 7 t 23).bind fun q44 => (sI σ q44 a0 a1).bind fun s46 => (gQ s46 7 t 24).bind fun q48 => (sI s46 q48 a0 (if a1 = 0 then 0 else a2 : Int32)).bind fun s50 => (f_X8_sheet_L94 t a0 3000 0 s50).bind fun p51 => some (1, p51.2)) else (if a2 ≤ 24 then ((gQ σ 7 t 23).bind fun q57 => (sI σ q57 a0 a1).bind fun s59 => (gQ s59 7 t 24).bind fun q61 => (sI s59 q61 a0 (if a1 = 0 then 0 else a2 : Int32)).bind fun s63 => (f_X8_sheet_L94 t a0 3000 0 s63).bind fun p64 => some (1, p64.2)) else ((f_X8_finding σ t (-1000001)).bind fun p69 => some (p69.1, p69.2)))) else ((f_X8_finding σ t (-1000003)).bind fun p71 => some (p71.1, p71.2)))) else (if a1 = 8 then (if a1 = 0 then (if a1 = 0 then ((gQ σ 7 t 23).bind fun q76 => (sI σ q76 a0 a1).bind fun s78 => (gQ s78 7 t 24).bind fun q80 => (sI s78 q80 a0 (if a1 = 0 then 0 else a2 : Int32)).bind fun s82 => (f_X8_sheet_L94 t a0 3000 0 s82).bind fun p83 => some (1, p83.2)) else (if a2 ≤ 24 then ((gQ σ 7 t 23).bind fun q89 => (sI σ q89 a0 a1).bind fun s91 => (gQ s91 7 t 24).bind fun q93 => (sI s91 q93 a0 (if a1 = 0 then 0 else a2 : Int32)).bind fun s95 => (f_X8_sheet_L94 t a0 3000 0 s95).bind fun p96 => some (1, p96.2)) else ((f_X8_finding σ t (-1000001)).bind fun p101 => some (p101.1, p101.2)))) else (if 0 ≤ a2 then (if a1 = 0 then ((gQ σ 7 t 23).bind fun q105 => (sI σ q105 a0 a1).bind fun s107 => (gQ s107 7 t 24).bind fun q109 => (sI s107 q109 a0 (if a1 = 0 then 0 else a2 : Int32)).bind fun s111 => (f_X8_sheet_L94 t a0 3000 0 s111).bind fun p112 => some (1, p112.2)) else (if a2 ≤ 24 then ((gQ σ 7 t 23).bind fun q118 => (sI σ q118 a0 a1).bind fun s120 => (gQ s120 7 t 24).bind fun q122 => (sI s120 q122 a0 (if a1 = 0 then 0 else a2 : Int32)).bind fun s124 => (f_X8_sheet_L94 t a0 3000 0 s124).bind fun p125 => some (1, p125.2)) else ((f_X8_finding σ t (-1000001)).bind fun p130 => some (p130.1, p130.2)))) else ((f_X8_finding σ t (-1000003)).bind fun p132 => some (p132.1, p132.2)))) else (if a1 = 16 then (if a1 = 0 then (if a1 = 0 then ((gQ σ 7 t 23).bind fun q137 => (sI σ q137 a0 a1).bind fun s139 => (gQ s139 7 t 24).bind fun q141 => (sI s139 q141 a0 (if a1 = 0 then 0 else a2 : Int32)).bind fun s143 => (f_X8_sheet_L94 t a0 3000 0 s143).bind fun p144 => some (1, p144.2)) else (if a2 ≤ 24 then ((gQ σ 7 t 23).bind fun q150 => (sI σ q150 a0 a1).bind fun s152 => (gQ s152 7 t 24).bind fun q154 => (sI s152 q154 a0 (if a1 = 0 then 0 else a2 : Int32)).bind fun s156 => (f_X8_sheet_L94 t a0 3000 0 s156).bind fun p157 => some (1, p157.2)) else ((f_X8_finding σ t (-1000001)).bind fun p162 => some (p162.1, p162.2)))) else (if 0 ≤ a2 then (if a1 = 0 then ((gQ σ 7 t 23).bind fun q166 => (sI σ q166 a0 a1).bind fun s168 => (gQ s168 7 t 24).bind fun q170 => (sI s168 q170 a0 (if a1 = 0 then 0 else a2 : Int32)).bind fun s172 => (f_X8_sheet_L94 t a0 3000 0 s172).bind fun p173 => some (1, p173.2)) else (if a2 ≤ 24 then ((gQ σ 7 t 23).bind fun q179 => (sI σ q179 a0 a1).bind fun s181 => (gQ s181 7 t 24).bind fun q183 => (sI s181 q183 a0 (if a1 = 0 then 0 else a2 : Int32)).bind fun s185 => (f_X8_sheet_L94 t a0 3000 0 s185).bind fun p186 => some (1, p186.2)) else ((f_X8_finding σ t (-1000001)).bind fun p191 => some (p191.1, p191.2)))) else ((f_X8_finding σ t (-1000003)).bind fun p193 => some (p193.1, p193.2)))) else (if a1 = 32 then (if a1 = 0 then (if a1 = 0 then ((gQ σ 7 t 23).bind fun q198 => (sI σ q198 a0 a1).bind fun s200 => (gQ s200 7 t 24).bind fun q202 => (sI s200 q202 a0 (if a1 = 0 then 0 else a2 : Int32)).bind fun s204 => (f_X8_sheet_L94 t a0 3000 0 s204).bind fun p205 => some (1, p205.2)) else (if a2 ≤ 24 then ((gQ σ 7 t 23).bind fun q211 => (sI σ q211 a0 a1).bind fun s213 => (gQ s213 7 t 24).bind fun q215 => (sI s213 q215 a0 (if a1 = 0 then 0 else a2 : Int32)).bind fun s217 => (f_X8_sheet_L94 t a0 3000 0 s217).bind fun p218 => some (1, p218.2)) else ((f_X8_finding σ t (-1000001)).bind fun p223 => some (p223.1, p223.2)))) else (if 0 ≤ a2 then (if a1 = 0 then ((gQ σ 7 t 23).bind fun q227 => (sI σ q227 a0 a1).bind fun s229 => (gQ s229 7 t 24).bind fun q231 => (sI s229 q231 a0 (if a1 = 0 then 0 else a2 : Int32)).bind fun s233 => (f_X8_sheet_L94 t a0 3000 0 s233).bind fun p234 => some (1, p234.2)) else (if a2 ≤ 24 then ((gQ σ 7 t 23).bind fun q240 => (sI σ q240 a0 a1).bind fun s242 => (gQ s242 7 t 24).bind fun q244 => (sI s242 q244 a0 (if a1 = 0 then 0 else a2 : Int32)).bind fun s246 => (f_X8_sheet_L94 t a0 3000 0 s246).bind fun p247 => some (1, p247.2)) else ((f_X8_finding σ t (-1000001)).bind fun p252 => some (p252.1, p252.2)))) else ((f_X8_finding σ t (-1000003)).bind fun p254 => some (p254.1, p254.2)))) else ((f_X8_finding σ t (-1000001)).bind fun p256 => some (p256.1, p256.2))))))) else none
theorem gd_X8_sheet {σ : St} {t : Nat} {a0 : Int32} {a1 : Int32} {a2 : Int32} {r : Int32 × St} (h : f_X8_sheet σ t a0 a1 a2 = some r) : isO σ 7 t = true := by
  unfold f_X8_sheet at h
  by_cases hg : isO σ 7 t = true
  · exact hg
  · rw [if_neg hg] at h
    cases h
set_option maxRecDepth 100000 in
set_option maxHeartbeats 4000000 in
theorem c_X8_sheet (l : Launch) (G : Gd) (d : Nat) (σ : St) (t : Nat) (a0 : Int32) (a1 : Int32) (a2 : Int32) (r0 : Int32) (σ' : St) (hf : f_X8_sheet σ t a0 a1 a2 = some (r0, σ')) : MetV l G (d + 3) mi_X8_sheet [.ref t, .int a0, .int a1, .int a2] σ (some (.int r0)) σ' 0 0 := by
  unfold f_X8_sheet at hf
  refine MetV.of [(0, .ref t), (1, .int a0), (2, .int a1), (3, .int a2)] (by decide +kernel) rfl (Nat.le_of_ble_eq_true rfl) ?_
  intro X hQ
  have L94 : ∀ (x1 : Int32) (n : Nat) (x4 : Int32) (σ : St) (p : Int32 × St), f_X8_sheet_L94 t x1 n x4 σ = some p → V mi_X8_sheet l G (d + 3) 0 0 X 0 0 120 [(4, .int p.1), (0, .ref t), (1, .int x1)] [] p.2 → V mi_X8_sheet l G (d + 3) 0 0 X 0 0 94 [(4, .int x4), (0, .ref t), (1, .int x1)] [] σ := by
    intro x1 n
    induction n with
    | zero =>
      intro x4 σ p hf
      exact absurd (show (none : Option _) = some p from hf) (by simp)
    | succ n ih =>
      intro x4 σ p hf hk
      rw [f_X8_sheet_L94] at hf
      refine V_iload 0 96 rfl dX8_sheet_94 rfl ?_
      refine V_bipush 24 98 dX8_sheet_96 rfl kbipush_24 ?_
      refine V_icmp_ge 120 101 dX8_sheet_98 (by decide) rfl (fun c17 => ?_) (fun c17 => ?_)
      · rw [if_pos c17] at hf
        have ep := Option.some.inj hf
        subst ep
        refine V_ls [(4, .int x4), (0, .ref t), (1, .int x1)] [0, 1, 2] rfl ?_
        exact hk
      · rw [if_neg c17] at hf
        refine V_aload_n 1 102 rfl dX8_sheet_101 rfl rfl ?_
        obtain ⟨q19, h18, hf⟩ := ob hf
        refine V_getQ (n := 27) (ty := tyX8) 105 h18 cf_7 rfl wd_fl_X8_61 dX8_sheet_102 rfl ?_
        refine V_bipush 24 107 dX8_sheet_105 rfl kbipush_24 ?_
        refine V_iload_n 2 108 rfl dX8_sheet_107 rfl rfl ?_
        refine V_imul 109 dX8_sheet_108 rfl ?_
        refine V_iload 0 111 rfl dX8_sheet_109 rfl ?_
        refine V_iadd 112 dX8_sheet_111 rfl ?_
        refine V_iconst 0 113 dX8_sheet_112 rfl kiconst_0 ?_
        obtain ⟨s21, h20, hf⟩ := ob hf
        refine V_iast 114 h20 dX8_sheet_113 rfl ?_
        refine V_iinc (x4 + 1) 0 [(4, .int (x4 + 1)), (0, .ref t), (1, .int x1)] 117 dX8_sheet_114 rfl (by rw [kiconst_1]) (by decide) rfl rfl ?_
        refine V_goto 94 dX8_sheet_117 (by decide) ?_
        refine V_ls [(4, .int (x4 + 1)), (0, .ref t), (1, .int x1)] [0, 1, 2] rfl ?_
        exact ih _ _ _ hf hk
  by_cases hg : isO σ 7 t = true
  · rw [if_pos hg] at hf
    refine V_iload_n 1 1 rfl dX8_sheet_0 rfl rfl ?_
    obtain ⟨v2, h1, hf⟩ := ob hf
    refine V_callS (rest := []) 0 0 4 [.int v2] (c_X8_isSheet l G (d + 0) _ _ _ h1) (by omega) ok_X8_isSheet oks_X8_isSheet wd_ml_X8_110 rfl rfl (Nat.le_of_ble_eq_true rfl) rfl rfl (Or.inl ⟨rfl, rfl⟩) dX8_sheet_1 rfl rfl ?_
    refine V_if_eq 29 7 dX8_sheet_4 (by decide) rfl (fun c3 => ?_) (fun c3 => ?_)
    · rw [if_pos c3] at hf
      refine V_aload_n 0 30 rfl dX8_sheet_29 rfl rfl ?_
      refine V_ldc (-1000001) 32 dX8_sheet_30 rfl wd_kk_X8_76 ?_
      obtain ⟨p5, h4, hf⟩ := ob hf
      refine V_callV (rest := []) (T := TX8) (n := 27) (ci := 7) 0 0 35 [.int p5.1] (c_X8_finding l G (d + 1) _ _ _ _ _ h4) (by omega) ok_X8_finding okv_X8_finding (gd_X8_finding h4) rfl wd_ml_X8_77 rfl rfl (Nat.le_of_ble_eq_true rfl) rfl rfl (Or.inl ⟨rfl, rfl⟩) dX8_sheet_32 rfl rfl ?_
      have er := Option.some.inj hf
      obtain ⟨e1, e2⟩ := Prod.mk.inj er
      subst e1
      subst e2
      exact V_iret hQ rfl dX8_sheet_35
    · rw [if_neg c3] at hf
      refine V_iload_n 2 8 rfl dX8_sheet_7 rfl rfl ?_
      refine V_if_eq 36 11 dX8_sheet_8 (by decide) rfl (fun c6 => ?_) (fun c6 => ?_)
      · rw [if_pos c6] at hf
        refine V_iload_n 2 37 rfl dX8_sheet_36 rfl rfl ?_
        refine V_if_eq 52 40 dX8_sheet_37 (by decide) rfl (fun c7 => ?_) (fun c7 => ?_)
        · rw [if_pos c7] at hf
          refine V_iload_n 2 53 rfl dX8_sheet_52 rfl rfl ?_
          refine V_if_eq 69 56 dX8_sheet_53 (by decide) rfl (fun c8 => ?_) (fun c8 => ?_)
          · rw [if_pos c8] at hf
            refine V_aload_n 0 70 rfl dX8_sheet_69 rfl rfl ?_
            obtain ⟨q10, h9, hf⟩ := ob hf
            refine V_getQ (n := 27) (ty := tyX8) 73 h9 cf_7 rfl wd_fl_X8_55 dX8_sheet_70 rfl ?_
            refine V_iload_n 1 74 rfl dX8_sheet_73 rfl rfl ?_
            refine V_iload_n 2 75 rfl dX8_sheet_74 rfl rfl ?_
            obtain ⟨s12, h11, hf⟩ := ob hf
            refine V_iast 76 h11 dX8_sheet_75 rfl ?_
            refine V_aload_n 0 77 rfl dX8_sheet_76 rfl rfl ?_
            obtain ⟨q14, h13, hf⟩ := ob hf
            refine V_getQ (n := 27) (ty := tyX8) 80 h13 cf_7 rfl wd_fl_X8_58 dX8_sheet_77 rfl ?_
            refine V_iload_n 1 81 rfl dX8_sheet_80 rfl rfl ?_
            refine V_iload_n 2 82 rfl dX8_sheet_81 rfl rfl ?_
            have kj24 : V mi_X8_sheet l G (d + 3) 0 0 X 0 0 90 [(0, .ref t), (1, .int a0), (2, .int a1), (3, .int a2)] [.int (if a1 = 0 then 0 else a2 : Int32), .int a0, .ref q14] s12 := by
              obtain ⟨s16, h15, hf⟩ := ob hf
              refine V_iast 91 h15 dX8_sheet_90 rfl ?_
              refine V_iconst 0 92 dX8_sheet_91 rfl kiconst_0 ?_
              refine V_istore [(4, .int 0), (0, .ref t), (1, .int a0), (2, .int a1), (3, .int a2)] 94 dX8_sheet_92 (by decide) rfl rfl ?_
              obtain ⟨p22, h23, hf⟩ := ob hf
              refine V_ls [(4, .int 0), (0, .ref t), (1, .int a0)] [0, 1, 2] rfl ?_
              refine L94 a0 3000 0 s16 p22 h23 ?_
              refine V_iconst 1 121 dX8_sheet_120 rfl kiconst_1 ?_
              have er := Option.some.inj hf
              obtain ⟨e1, e2⟩ := Prod.mk.inj er
              subst e1
              subst e2
              exact V_iret hQ rfl dX8_sheet_121
            refine V_if_ne 89 85 dX8_sheet_82 (by decide) rfl (fun c25 => ?_) (fun c25 => ?_)
            · refine V_iload_n 3 90 rfl dX8_sheet_89 rfl rfl ?_
              refine V_ls [(0, .ref t), (1, .int a0), (2, .int a1), (3, .int a2)] [0, 1, 2, 3] rfl ?_
              simp only [if_neg c25] at kj24
              exact kj24
            · refine V_iconst 0 86 dX8_sheet_85 rfl kiconst_0 ?_
              refine V_goto 90 dX8_sheet_86 (by decide) ?_
              refine V_ls [(0, .ref t), (1, .int a0), (2, .int a1), (3, .int a2)] [0, 1, 2, 3] rfl ?_
              simp only [if_pos c25] at kj24
              exact kj24
          · rw [if_neg c8] at hf
            refine V_iload_n 3 57 rfl dX8_sheet_56 rfl rfl ?_
            refine V_bipush 24 59 dX8_sheet_57 rfl kbipush_24 ?_
            refine V_icmp_le 69 62 dX8_sheet_59 (by decide) rfl (fun c26 => ?_) (fun c26 => ?_)
            · rw [if_pos c26] at hf
              refine V_aload_n 0 70 rfl dX8_sheet_69 rfl rfl ?_
              obtain ⟨q28, h27, hf⟩ := ob hf
              refine V_getQ (n := 27) (ty := tyX8) 73 h27 cf_7 rfl wd_fl_X8_55 dX8_sheet_70 rfl ?_
              refine V_iload_n 1 74 rfl dX8_sheet_73 rfl rfl ?_
              refine V_iload_n 2 75 rfl dX8_sheet_74 rfl rfl ?_
              obtain ⟨s30, h29, hf⟩ := ob hf
              refine V_iast 76 h29 dX8_sheet_75 rfl ?_
              refine V_aload_n 0 77 rfl dX8_sheet_76 rfl rfl ?_
              obtain ⟨q32, h31, hf⟩ := ob hf
              refine V_getQ (n := 27) (ty := tyX8) 80 h31 cf_7 rfl wd_fl_X8_58 dX8_sheet_77 rfl ?_
              refine V_iload_n 1 81 rfl dX8_sheet_80 rfl rfl ?_
              refine V_iload_n 2 82 rfl dX8_sheet_81 rfl rfl ?_
              have kj37 : V mi_X8_sheet l G (d + 3) 0 0 X 0 0 90 [(0, .ref t), (1, .int a0), (2, .int a1), (3, .int a2)] [.int (if a1 = 0 then 0 else a2 : Int32), .int a0, .ref q32] s30 := by
                obtain ⟨s34, h33, hf⟩ := ob hf
                refine V_iast 91 h33 dX8_sheet_90 rfl ?_
                refine V_iconst 0 92 dX8_sheet_91 rfl kiconst_0 ?_
                refine V_istore [(4, .int 0), (0, .ref t), (1, .int a0), (2, .int a1), (3, .int a2)] 94 dX8_sheet_92 (by decide) rfl rfl ?_
                obtain ⟨p35, h36, hf⟩ := ob hf
                refine V_ls [(4, .int 0), (0, .ref t), (1, .int a0)] [0, 1, 2] rfl ?_
                refine L94 a0 3000 0 s34 p35 h36 ?_
                refine V_iconst 1 121 dX8_sheet_120 rfl kiconst_1 ?_
                have er := Option.some.inj hf
                obtain ⟨e1, e2⟩ := Prod.mk.inj er
                subst e1
                subst e2
                exact V_iret hQ rfl dX8_sheet_121
              refine V_if_ne 89 85 dX8_sheet_82 (by decide) rfl (fun c38 => ?_) (fun c38 => ?_)
              · refine V_iload_n 3 90 rfl dX8_sheet_89 rfl rfl ?_
                refine V_ls [(0, .ref t), (1, .int a0), (2, .int a1), (3, .int a2)] [0, 1, 2, 3] rfl ?_
                simp only [if_neg c38] at kj37
                exact kj37
              · refine V_iconst 0 86 dX8_sheet_85 rfl kiconst_0 ?_
                refine V_goto 90 dX8_sheet_86 (by decide) ?_
                refine V_ls [(0, .ref t), (1, .int a0), (2, .int a1), (3, .int a2)] [0, 1, 2, 3] rfl ?_
                simp only [if_pos c38] at kj37
                exact kj37
            · rw [if_neg c26] at hf
              refine V_aload_n 0 63 rfl dX8_sheet_62 rfl rfl ?_
              refine V_ldc (-1000001) 65 dX8_sheet_63 rfl wd_kk_X8_76 ?_
              obtain ⟨p40, h39, hf⟩ := ob hf
              refine V_callV (rest := []) (T := TX8) (n := 27) (ci := 7) 0 0 68 [.int p40.1] (c_X8_finding l G (d + 1) _ _ _ _ _ h39) (by omega) ok_X8_finding okv_X8_finding (gd_X8_finding h39) rfl wd_ml_X8_77 rfl rfl (Nat.le_of_ble_eq_true rfl) rfl rfl (Or.inl ⟨rfl, rfl⟩) dX8_sheet_65 rfl rfl ?_
              have er := Option.some.inj hf
              obtain ⟨e1, e2⟩ := Prod.mk.inj er
              subst e1
              subst e2
              exact V_iret hQ rfl dX8_sheet_68
        · rw [if_neg c7] at hf
          refine V_iload_n 3 41 rfl dX8_sheet_40 rfl rfl ?_
          refine V_if_ge 52 44 dX8_sheet_41 (by decide) rfl (fun c41 => ?_) (fun c41 => ?_)
          · rw [if_pos c41] at hf
            refine V_iload_n 2 53 rfl dX8_sheet_52 rfl rfl ?_
            refine V_if_eq 69 56 dX8_sheet_53 (by decide) rfl (fun c42 => ?_) (fun c42 => ?_)
            · rw [if_pos c42] at hf
              refine V_aload_n 0 70 rfl dX8_sheet_69 rfl rfl ?_
              obtain ⟨q44, h43, hf⟩ := ob hf
              refine V_getQ (n := 27) (ty := tyX8) 73 h43 cf_7 rfl wd_fl_X8_55 dX8_sheet_70 rfl ?_
              refine V_iload_n 1 74 rfl dX8_sheet_73 rfl rfl ?_
              refine V_iload_n 2 75 rfl dX8_sheet_74 rfl rfl ?_
              obtain ⟨s46, h45, hf⟩ := ob hf
              refine V_iast 76 h45 dX8_sheet_75 rfl ?_
              refine V_aload_n 0 77 rfl dX8_sheet_76 rfl rfl ?_
              obtain ⟨q48, h47, hf⟩ := ob hf
              refine V_getQ (n := 27) (ty := tyX8) 80 h47 cf_7 rfl wd_fl_X8_58 dX8_sheet_77 rfl ?_
              refine V_iload_n 1 81 rfl dX8_sheet_80 rfl rfl ?_
              refine V_iload_n 2 82 rfl dX8_sheet_81 rfl rfl ?_
              have kj53 : V mi_X8_sheet l G (d + 3) 0 0 X 0 0 90 [(0, .ref t), (1, .int a0), (2, .int a1), (3, .int a2)] [.int (if a1 = 0 then 0 else a2 : Int32), .int a0, .ref q48] s46 := by
                obtain ⟨s50, h49, hf⟩ := ob hf
                refine V_iast 91 h49 dX8_sheet_90 rfl ?_
                refine V_iconst 0 92 dX8_sheet_91 rfl kiconst_0 ?_
                refine V_istore [(4, .int 0), (0, .ref t), (1, .int a0), (2, .int a1), (3, .int a2)] 94 dX8_sheet_92 (by decide) rfl rfl ?_
                obtain ⟨p51, h52, hf⟩ := ob hf
                refine V_ls [(4, .int 0), (0, .ref t), (1, .int a0)] [0, 1, 2] rfl ?_
                refine L94 a0 3000 0 s50 p51 h52 ?_
                refine V_iconst 1 121 dX8_sheet_120 rfl kiconst_1 ?_
                have er := Option.some.inj hf
                obtain ⟨e1, e2⟩ := Prod.mk.inj er
                subst e1
                subst e2
                exact V_iret hQ rfl dX8_sheet_121
              refine V_if_ne 89 85 dX8_sheet_82 (by decide) rfl (fun c54 => ?_) (fun c54 => ?_)
              · refine V_iload_n 3 90 rfl dX8_sheet_89 rfl rfl ?_
                refine V_ls [(0, .ref t), (1, .int a0), (2, .int a1), (3, .int a2)] [0, 1, 2, 3] rfl ?_
                simp only [if_neg c54] at kj53
                exact kj53
              · refine V_iconst 0 86 dX8_sheet_85 rfl kiconst_0 ?_
                refine V_goto 90 dX8_sheet_86 (by decide) ?_
                refine V_ls [(0, .ref t), (1, .int a0), (2, .int a1), (3, .int a2)] [0, 1, 2, 3] rfl ?_
                simp only [if_pos c54] at kj53
                exact kj53
            · rw [if_neg c42] at hf
              refine V_iload_n 3 57 rfl dX8_sheet_56 rfl rfl ?_
              refine V_bipush 24 59 dX8_sheet_57 rfl kbipush_24 ?_
              refine V_icmp_le 69 62 dX8_sheet_59 (by decide) rfl (fun c55 => ?_) (fun c55 => ?_)
              · rw [if_pos c55] at hf
                refine V_aload_n 0 70 rfl dX8_sheet_69 rfl rfl ?_
                obtain ⟨q57, h56, hf⟩ := ob hf
                refine V_getQ (n := 27) (ty := tyX8) 73 h56 cf_7 rfl wd_fl_X8_55 dX8_sheet_70 rfl ?_
                refine V_iload_n 1 74 rfl dX8_sheet_73 rfl rfl ?_
                refine V_iload_n 2 75 rfl dX8_sheet_74 rfl rfl ?_
                obtain ⟨s59, h58, hf⟩ := ob hf
                refine V_iast 76 h58 dX8_sheet_75 rfl ?_
                refine V_aload_n 0 77 rfl dX8_sheet_76 rfl rfl ?_
                obtain ⟨q61, h60, hf⟩ := ob hf
                refine V_getQ (n := 27) (ty := tyX8) 80 h60 cf_7 rfl wd_fl_X8_58 dX8_sheet_77 rfl ?_
                refine V_iload_n 1 81 rfl dX8_sheet_80 rfl rfl ?_
                refine V_iload_n 2 82 rfl dX8_sheet_81 rfl rfl ?_
                have kj66 : V mi_X8_sheet l G (d + 3) 0 0 X 0 0 90 [(0, .ref t), (1, .int a0), (2, .int a1), (3, .int a2)] [.int (if a1 = 0 then 0 else a2 : Int32), .int a0, .ref q61] s59 := by
                  obtain ⟨s63, h62, hf⟩ := ob hf
                  refine V_iast 91 h62 dX8_sheet_90 rfl ?_
                  refine V_iconst 0 92 dX8_sheet_91 rfl kiconst_0 ?_
                  refine V_istore [(4, .int 0), (0, .ref t), (1, .int a0), (2, .int a1), (3, .int a2)] 94 dX8_sheet_92 (by decide) rfl rfl ?_
                  obtain ⟨p64, h65, hf⟩ := ob hf
                  refine V_ls [(4, .int 0), (0, .ref t), (1, .int a0)] [0, 1, 2] rfl ?_
                  refine L94 a0 3000 0 s63 p64 h65 ?_
                  refine V_iconst 1 121 dX8_sheet_120 rfl kiconst_1 ?_
                  have er := Option.some.inj hf
                  obtain ⟨e1, e2⟩ := Prod.mk.inj er
                  subst e1
                  subst e2
                  exact V_iret hQ rfl dX8_sheet_121
                refine V_if_ne 89 85 dX8_sheet_82 (by decide) rfl (fun c67 => ?_) (fun c67 => ?_)
                · refine V_iload_n 3 90 rfl dX8_sheet_89 rfl rfl ?_
                  refine V_ls [(0, .ref t), (1, .int a0), (2, .int a1), (3, .int a2)] [0, 1, 2, 3] rfl ?_
                  simp only [if_neg c67] at kj66
                  exact kj66
                · refine V_iconst 0 86 dX8_sheet_85 rfl kiconst_0 ?_
                  refine V_goto 90 dX8_sheet_86 (by decide) ?_
                  refine V_ls [(0, .ref t), (1, .int a0), (2, .int a1), (3, .int a2)] [0, 1, 2, 3] rfl ?_
                  simp only [if_pos c67] at kj66
                  exact kj66
              · rw [if_neg c55] at hf
                refine V_aload_n 0 63 rfl dX8_sheet_62 rfl rfl ?_
                refine V_ldc (-1000001) 65 dX8_sheet_63 rfl wd_kk_X8_76 ?_
                obtain ⟨p69, h68, hf⟩ := ob hf
                refine V_callV (rest := []) (T := TX8) (n := 27) (ci := 7) 0 0 68 [.int p69.1] (c_X8_finding l G (d + 1) _ _ _ _ _ h68) (by omega) ok_X8_finding okv_X8_finding (gd_X8_finding h68) rfl wd_ml_X8_77 rfl rfl (Nat.le_of_ble_eq_true rfl) rfl rfl (Or.inl ⟨rfl, rfl⟩) dX8_sheet_65 rfl rfl ?_
                have er := Option.some.inj hf
                obtain ⟨e1, e2⟩ := Prod.mk.inj er
                subst e1
                subst e2
                exact V_iret hQ rfl dX8_sheet_68
          · rw [if_neg c41] at hf
            refine V_aload_n 0 45 rfl dX8_sheet_44 rfl rfl ?_
            refine V_ldc_w (-1000003) 48 dX8_sheet_45 rfl wd_kk_X8_275 ?_
            obtain ⟨p71, h70, hf⟩ := ob hf
            refine V_callV (rest := []) (T := TX8) (n := 27) (ci := 7) 0 0 51 [.int p71.1] (c_X8_finding l G (d + 1) _ _ _ _ _ h70) (by omega) ok_X8_finding okv_X8_finding (gd_X8_finding h70) rfl wd_ml_X8_77 rfl rfl (Nat.le_of_ble_eq_true rfl) rfl rfl (Or.inl ⟨rfl, rfl⟩) dX8_sheet_48 rfl rfl ?_
            have er := Option.some.inj hf
            obtain ⟨e1, e2⟩ := Prod.mk.inj er
            subst e1
            subst e2
            exact V_iret hQ rfl dX8_sheet_51
      · rw [if_neg c6] at hf
        refine V_iload_n 2 12 rfl dX8_sheet_11 rfl rfl ?_
        refine V_bipush 8 14 dX8_sheet_12 rfl kbipush_8 ?_
        refine V_icmp_eq 36 17 dX8_sheet_14 (by decide) rfl (fun c72 => ?_) (fun c72 => ?_)
        · rw [if_pos c72] at hf
          refine V_iload_n 2 37 rfl dX8_sheet_36 rfl rfl ?_
          refine V_if_eq 52 40 dX8_sheet_37 (by decide) rfl (fun c73 => ?_) (fun c73 => ?_)
          · rw [if_pos c73] at hf
            refine V_iload_n 2 53 rfl dX8_sheet_52 rfl rfl ?_
            refine V_if_eq 69 56 dX8_sheet_53 (by decide) rfl (fun c74 => ?_) (fun c74 => ?_)
            · rw [if_pos c74] at hf
              refine V_aload_n 0 70 rfl dX8_sheet_69 rfl rfl ?_
              obtain ⟨q76, h75, hf⟩ := ob hf
              refine V_getQ (n := 27) (ty := tyX8) 73 h75 cf_7 rfl wd_fl_X8_55 dX8_sheet_70 rfl ?_
              refine V_iload_n 1 74 rfl dX8_sheet_73 rfl rfl ?_
              refine V_iload_n 2 75 rfl dX8_sheet_74 rfl rfl ?_
              obtain ⟨s78, h77, hf⟩ := ob hf
              refine V_iast 76 h77 dX8_sheet_75 rfl ?_
              refine V_aload_n 0 77 rfl dX8_sheet_76 rfl rfl ?_
              obtain ⟨q80, h79, hf⟩ := ob hf
              refine V_getQ (n := 27) (ty := tyX8) 80 h79 cf_7 rfl wd_fl_X8_58 dX8_sheet_77 rfl ?_
              refine V_iload_n 1 81 rfl dX8_sheet_80 rfl rfl ?_
              refine V_iload_n 2 82 rfl dX8_sheet_81 rfl rfl ?_
              have kj85 : V mi_X8_sheet l G (d + 3) 0 0 X 0 0 90 [(0, .ref t), (1, .int a0), (2, .int a1), (3, .int a2)] [.int (if a1 = 0 then 0 else a2 : Int32), .int a0, .ref q80] s78 := by
                obtain ⟨s82, h81, hf⟩ := ob hf
                refine V_iast 91 h81 dX8_sheet_90 rfl ?_
                refine V_iconst 0 92 dX8_sheet_91 rfl kiconst_0 ?_
                refine V_istore [(4, .int 0), (0, .ref t), (1, .int a0), (2, .int a1), (3, .int a2)] 94 dX8_sheet_92 (by decide) rfl rfl ?_
                obtain ⟨p83, h84, hf⟩ := ob hf
                refine V_ls [(4, .int 0), (0, .ref t), (1, .int a0)] [0, 1, 2] rfl ?_
                refine L94 a0 3000 0 s82 p83 h84 ?_
                refine V_iconst 1 121 dX8_sheet_120 rfl kiconst_1 ?_
                have er := Option.some.inj hf
                obtain ⟨e1, e2⟩ := Prod.mk.inj er
                subst e1
                subst e2
                exact V_iret hQ rfl dX8_sheet_121
              refine V_if_ne 89 85 dX8_sheet_82 (by decide) rfl (fun c86 => ?_) (fun c86 => ?_)
              · refine V_iload_n 3 90 rfl dX8_sheet_89 rfl rfl ?_
                refine V_ls [(0, .ref t), (1, .int a0), (2, .int a1), (3, .int a2)] [0, 1, 2, 3] rfl ?_
                simp only [if_neg c86] at kj85
                exact kj85
              · refine V_iconst 0 86 dX8_sheet_85 rfl kiconst_0 ?_
                refine V_goto 90 dX8_sheet_86 (by decide) ?_
                refine V_ls [(0, .ref t), (1, .int a0), (2, .int a1), (3, .int a2)] [0, 1, 2, 3] rfl ?_
                simp only [if_pos c86] at kj85
                exact kj85
            · rw [if_neg c74] at hf
              refine V_iload_n 3 57 rfl dX8_sheet_56 rfl rfl ?_
              refine V_bipush 24 59 dX8_sheet_57 rfl kbipush_24 ?_
              refine V_icmp_le 69 62 dX8_sheet_59 (by decide) rfl (fun c87 => ?_) (fun c87 => ?_)
              · rw [if_pos c87] at hf
                refine V_aload_n 0 70 rfl dX8_sheet_69 rfl rfl ?_
                obtain ⟨q89, h88, hf⟩ := ob hf
                refine V_getQ (n := 27) (ty := tyX8) 73 h88 cf_7 rfl wd_fl_X8_55 dX8_sheet_70 rfl ?_
                refine V_iload_n 1 74 rfl dX8_sheet_73 rfl rfl ?_
                refine V_iload_n 2 75 rfl dX8_sheet_74 rfl rfl ?_
                obtain ⟨s91, h90, hf⟩ := ob hf
                refine V_iast 76 h90 dX8_sheet_75 rfl ?_
                refine V_aload_n 0 77 rfl dX8_sheet_76 rfl rfl ?_
                obtain ⟨q93, h92, hf⟩ := ob hf
                refine V_getQ (n := 27) (ty := tyX8) 80 h92 cf_7 rfl wd_fl_X8_58 dX8_sheet_77 rfl ?_
                refine V_iload_n 1 81 rfl dX8_sheet_80 rfl rfl ?_
                refine V_iload_n 2 82 rfl dX8_sheet_81 rfl rfl ?_
                have kj98 : V mi_X8_sheet l G (d + 3) 0 0 X 0 0 90 [(0, .ref t), (1, .int a0), (2, .int a1), (3, .int a2)] [.int (if a1 = 0 then 0 else a2 : Int32), .int a0, .ref q93] s91 := by
                  obtain ⟨s95, h94, hf⟩ := ob hf
                  refine V_iast 91 h94 dX8_sheet_90 rfl ?_
                  refine V_iconst 0 92 dX8_sheet_91 rfl kiconst_0 ?_
                  refine V_istore [(4, .int 0), (0, .ref t), (1, .int a0), (2, .int a1), (3, .int a2)] 94 dX8_sheet_92 (by decide) rfl rfl ?_
                  obtain ⟨p96, h97, hf⟩ := ob hf
                  refine V_ls [(4, .int 0), (0, .ref t), (1, .int a0)] [0, 1, 2] rfl ?_
                  refine L94 a0 3000 0 s95 p96 h97 ?_
                  refine V_iconst 1 121 dX8_sheet_120 rfl kiconst_1 ?_
                  have er := Option.some.inj hf
                  obtain ⟨e1, e2⟩ := Prod.mk.inj er
                  subst e1
                  subst e2
                  exact V_iret hQ rfl dX8_sheet_121
                refine V_if_ne 89 85 dX8_sheet_82 (by decide) rfl (fun c99 => ?_) (fun c99 => ?_)
                · refine V_iload_n 3 90 rfl dX8_sheet_89 rfl rfl ?_
                  refine V_ls [(0, .ref t), (1, .int a0), (2, .int a1), (3, .int a2)] [0, 1, 2, 3] rfl ?_
                  simp only [if_neg c99] at kj98
                  exact kj98
                · refine V_iconst 0 86 dX8_sheet_85 rfl kiconst_0 ?_
                  refine V_goto 90 dX8_sheet_86 (by decide) ?_
                  refine V_ls [(0, .ref t), (1, .int a0), (2, .int a1), (3, .int a2)] [0, 1, 2, 3] rfl ?_
                  simp only [if_pos c99] at kj98
                  exact kj98
              · rw [if_neg c87] at hf
                refine V_aload_n 0 63 rfl dX8_sheet_62 rfl rfl ?_
                refine V_ldc (-1000001) 65 dX8_sheet_63 rfl wd_kk_X8_76 ?_
                obtain ⟨p101, h100, hf⟩ := ob hf
                refine V_callV (rest := []) (T := TX8) (n := 27) (ci := 7) 0 0 68 [.int p101.1] (c_X8_finding l G (d + 1) _ _ _ _ _ h100) (by omega) ok_X8_finding okv_X8_finding (gd_X8_finding h100) rfl wd_ml_X8_77 rfl rfl (Nat.le_of_ble_eq_true rfl) rfl rfl (Or.inl ⟨rfl, rfl⟩) dX8_sheet_65 rfl rfl ?_
                have er := Option.some.inj hf
                obtain ⟨e1, e2⟩ := Prod.mk.inj er
                subst e1
                subst e2
                exact V_iret hQ rfl dX8_sheet_68
          · rw [if_neg c73] at hf
            refine V_iload_n 3 41 rfl dX8_sheet_40 rfl rfl ?_
            refine V_if_ge 52 44 dX8_sheet_41 (by decide) rfl (fun c102 => ?_) (fun c102 => ?_)
            · rw [if_pos c102] at hf
              refine V_iload_n 2 53 rfl dX8_sheet_52 rfl rfl ?_
              refine V_if_eq 69 56 dX8_sheet_53 (by decide) rfl (fun c103 => ?_) (fun c103 => ?_)
              · rw [if_pos c103] at hf
                refine V_aload_n 0 70 rfl dX8_sheet_69 rfl rfl ?_
                obtain ⟨q105, h104, hf⟩ := ob hf
                refine V_getQ (n := 27) (ty := tyX8) 73 h104 cf_7 rfl wd_fl_X8_55 dX8_sheet_70 rfl ?_
                refine V_iload_n 1 74 rfl dX8_sheet_73 rfl rfl ?_
                refine V_iload_n 2 75 rfl dX8_sheet_74 rfl rfl ?_
                obtain ⟨s107, h106, hf⟩ := ob hf
                refine V_iast 76 h106 dX8_sheet_75 rfl ?_
                refine V_aload_n 0 77 rfl dX8_sheet_76 rfl rfl ?_
                obtain ⟨q109, h108, hf⟩ := ob hf
                refine V_getQ (n := 27) (ty := tyX8) 80 h108 cf_7 rfl wd_fl_X8_58 dX8_sheet_77 rfl ?_
                refine V_iload_n 1 81 rfl dX8_sheet_80 rfl rfl ?_
                refine V_iload_n 2 82 rfl dX8_sheet_81 rfl rfl ?_
                have kj114 : V mi_X8_sheet l G (d + 3) 0 0 X 0 0 90 [(0, .ref t), (1, .int a0), (2, .int a1), (3, .int a2)] [.int (if a1 = 0 then 0 else a2 : Int32), .int a0, .ref q109] s107 := by
                  obtain ⟨s111, h110, hf⟩ := ob hf
                  refine V_iast 91 h110 dX8_sheet_90 rfl ?_
                  refine V_iconst 0 92 dX8_sheet_91 rfl kiconst_0 ?_
                  refine V_istore [(4, .int 0), (0, .ref t), (1, .int a0), (2, .int a1), (3, .int a2)] 94 dX8_sheet_92 (by decide) rfl rfl ?_
                  obtain ⟨p112, h113, hf⟩ := ob hf
                  refine V_ls [(4, .int 0), (0, .ref t), (1, .int a0)] [0, 1, 2] rfl ?_
                  refine L94 a0 3000 0 s111 p112 h113 ?_
                  refine V_iconst 1 121 dX8_sheet_120 rfl kiconst_1 ?_
                  have er := Option.some.inj hf
                  obtain ⟨e1, e2⟩ := Prod.mk.inj er
                  subst e1
                  subst e2
                  exact V_iret hQ rfl dX8_sheet_121
                refine V_if_ne 89 85 dX8_sheet_82 (by decide) rfl (fun c115 => ?_) (fun c115 => ?_)
                · refine V_iload_n 3 90 rfl dX8_sheet_89 rfl rfl ?_
                  refine V_ls [(0, .ref t), (1, .int a0), (2, .int a1), (3, .int a2)] [0, 1, 2, 3] rfl ?_
                  simp only [if_neg c115] at kj114
                  exact kj114
                · refine V_iconst 0 86 dX8_sheet_85 rfl kiconst_0 ?_
                  refine V_goto 90 dX8_sheet_86 (by decide) ?_
                  refine V_ls [(0, .ref t), (1, .int a0), (2, .int a1), (3, .int a2)] [0, 1, 2, 3] rfl ?_
                  simp only [if_pos c115] at kj114
                  exact kj114
              · rw [if_neg c103] at hf
                refine V_iload_n 3 57 rfl dX8_sheet_56 rfl rfl ?_
                refine V_bipush 24 59 dX8_sheet_57 rfl kbipush_24 ?_
                refine V_icmp_le 69 62 dX8_sheet_59 (by decide) rfl (fun c116 => ?_) (fun c116 => ?_)
                · rw [if_pos c116] at hf
                  refine V_aload_n 0 70 rfl dX8_sheet_69 rfl rfl ?_
                  obtain ⟨q118, h117, hf⟩ := ob hf
                  refine V_getQ (n := 27) (ty := tyX8) 73 h117 cf_7 rfl wd_fl_X8_55 dX8_sheet_70 rfl ?_
                  refine V_iload_n 1 74 rfl dX8_sheet_73 rfl rfl ?_
                  refine V_iload_n 2 75 rfl dX8_sheet_74 rfl rfl ?_
                  obtain ⟨s120, h119, hf⟩ := ob hf
                  refine V_iast 76 h119 dX8_sheet_75 rfl ?_
                  refine V_aload_n 0 77 rfl dX8_sheet_76 rfl rfl ?_
                  obtain ⟨q122, h121, hf⟩ := ob hf
                  refine V_getQ (n := 27) (ty := tyX8) 80 h121 cf_7 rfl wd_fl_X8_58 dX8_sheet_77 rfl ?_
                  refine V_iload_n 1 81 rfl dX8_sheet_80 rfl rfl ?_
                  refine V_iload_n 2 82 rfl dX8_sheet_81 rfl rfl ?_
                  have kj127 : V mi_X8_sheet l G (d + 3) 0 0 X 0 0 90 [(0, .ref t), (1, .int a0), (2, .int a1), (3, .int a2)] [.int (if a1 = 0 then 0 else a2 : Int32), .int a0, .ref q122] s120 := by
                    obtain ⟨s124, h123, hf⟩ := ob hf
                    refine V_iast 91 h123 dX8_sheet_90 rfl ?_
                    refine V_iconst 0 92 dX8_sheet_91 rfl kiconst_0 ?_
                    refine V_istore [(4, .int 0), (0, .ref t), (1, .int a0), (2, .int a1), (3, .int a2)] 94 dX8_sheet_92 (by decide) rfl rfl ?_
                    obtain ⟨p125, h126, hf⟩ := ob hf
                    refine V_ls [(4, .int 0), (0, .ref t), (1, .int a0)] [0, 1, 2] rfl ?_
                    refine L94 a0 3000 0 s124 p125 h126 ?_
                    refine V_iconst 1 121 dX8_sheet_120 rfl kiconst_1 ?_
                    have er := Option.some.inj hf
                    obtain ⟨e1, e2⟩ := Prod.mk.inj er
                    subst e1
                    subst e2
                    exact V_iret hQ rfl dX8_sheet_121
                  refine V_if_ne 89 85 dX8_sheet_82 (by decide) rfl (fun c128 => ?_) (fun c128 => ?_)
                  · refine V_iload_n 3 90 rfl dX8_sheet_89 rfl rfl ?_
                    refine V_ls [(0, .ref t), (1, .int a0), (2, .int a1), (3, .int a2)] [0, 1, 2, 3] rfl ?_
                    simp only [if_neg c128] at kj127
                    exact kj127
                  · refine V_iconst 0 86 dX8_sheet_85 rfl kiconst_0 ?_
                    refine V_goto 90 dX8_sheet_86 (by decide) ?_
                    refine V_ls [(0, .ref t), (1, .int a0), (2, .int a1), (3, .int a2)] [0, 1, 2, 3] rfl ?_
                    simp only [if_pos c128] at kj127
                    exact kj127
                · rw [if_neg c116] at hf
                  refine V_aload_n 0 63 rfl dX8_sheet_62 rfl rfl ?_
                  refine V_ldc (-1000001) 65 dX8_sheet_63 rfl wd_kk_X8_76 ?_
                  obtain ⟨p130, h129, hf⟩ := ob hf
                  refine V_callV (rest := []) (T := TX8) (n := 27) (ci := 7) 0 0 68 [.int p130.1] (c_X8_finding l G (d + 1) _ _ _ _ _ h129) (by omega) ok_X8_finding okv_X8_finding (gd_X8_finding h129) rfl wd_ml_X8_77 rfl rfl (Nat.le_of_ble_eq_true rfl) rfl rfl (Or.inl ⟨rfl, rfl⟩) dX8_sheet_65 rfl rfl ?_
                  have er := Option.some.inj hf
                  obtain ⟨e1, e2⟩ := Prod.mk.inj er
                  subst e1
                  subst e2
                  exact V_iret hQ rfl dX8_sheet_68
            · rw [if_neg c102] at hf
              refine V_aload_n 0 45 rfl dX8_sheet_44 rfl rfl ?_
              refine V_ldc_w (-1000003) 48 dX8_sheet_45 rfl wd_kk_X8_275 ?_
              obtain ⟨p132, h131, hf⟩ := ob hf
              refine V_callV (rest := []) (T := TX8) (n := 27) (ci := 7) 0 0 51 [.int p132.1] (c_X8_finding l G (d + 1) _ _ _ _ _ h131) (by omega) ok_X8_finding okv_X8_finding (gd_X8_finding h131) rfl wd_ml_X8_77 rfl rfl (Nat.le_of_ble_eq_true rfl) rfl rfl (Or.inl ⟨rfl, rfl⟩) dX8_sheet_48 rfl rfl ?_
              have er := Option.some.inj hf
              obtain ⟨e1, e2⟩ := Prod.mk.inj er
              subst e1
              subst e2
              exact V_iret hQ rfl dX8_sheet_51
        · rw [if_neg c72] at hf
          refine V_iload_n 2 18 rfl dX8_sheet_17 rfl rfl ?_
          refine V_bipush 16 20 dX8_sheet_18 rfl kbipush_16 ?_
          refine V_icmp_eq 36 23 dX8_sheet_20 (by decide) rfl (fun c133 => ?_) (fun c133 => ?_)
          · rw [if_pos c133] at hf
            refine V_iload_n 2 37 rfl dX8_sheet_36 rfl rfl ?_
            refine V_if_eq 52 40 dX8_sheet_37 (by decide) rfl (fun c134 => ?_) (fun c134 => ?_)
            · rw [if_pos c134] at hf
              refine V_iload_n 2 53 rfl dX8_sheet_52 rfl rfl ?_
              refine V_if_eq 69 56 dX8_sheet_53 (by decide) rfl (fun c135 => ?_) (fun c135 => ?_)
              · rw [if_pos c135] at hf
                refine V_aload_n 0 70 rfl dX8_sheet_69 rfl rfl ?_
                obtain ⟨q137, h136, hf⟩ := ob hf
                refine V_getQ (n := 27) (ty := tyX8) 73 h136 cf_7 rfl wd_fl_X8_55 dX8_sheet_70 rfl ?_
                refine V_iload_n 1 74 rfl dX8_sheet_73 rfl rfl ?_
                refine V_iload_n 2 75 rfl dX8_sheet_74 rfl rfl ?_
                obtain ⟨s139, h138, hf⟩ := ob hf
                refine V_iast 76 h138 dX8_sheet_75 rfl ?_
                refine V_aload_n 0 77 rfl dX8_sheet_76 rfl rfl ?_
                obtain ⟨q141, h140, hf⟩ := ob hf
                refine V_getQ (n := 27) (ty := tyX8) 80 h140 cf_7 rfl wd_fl_X8_58 dX8_sheet_77 rfl ?_
                refine V_iload_n 1 81 rfl dX8_sheet_80 rfl rfl ?_
                refine V_iload_n 2 82 rfl dX8_sheet_81 rfl rfl ?_
                have kj146 : V mi_X8_sheet l G (d + 3) 0 0 X 0 0 90 [(0, .ref t), (1, .int a0), (2, .int a1), (3, .int a2)] [.int (if a1 = 0 then 0 else a2 : Int32), .int a0, .ref q141] s139 := by
                  obtain ⟨s143, h142, hf⟩ := ob hf
                  refine V_iast 91 h142 dX8_sheet_90 rfl ?_
                  refine V_iconst 0 92 dX8_sheet_91 rfl kiconst_0 ?_
                  refine V_istore [(4, .int 0), (0, .ref t), (1, .int a0), (2, .int a1), (3, .int a2)] 94 dX8_sheet_92 (by decide) rfl rfl ?_
                  obtain ⟨p144, h145, hf⟩ := ob hf
                  refine V_ls [(4, .int 0), (0, .ref t), (1, .int a0)] [0, 1, 2] rfl ?_
                  refine L94 a0 3000 0 s143 p144 h145 ?_
                  refine V_iconst 1 121 dX8_sheet_120 rfl kiconst_1 ?_
                  have er := Option.some.inj hf
                  obtain ⟨e1, e2⟩ := Prod.mk.inj er
                  subst e1
                  subst e2
                  exact V_iret hQ rfl dX8_sheet_121
                refine V_if_ne 89 85 dX8_sheet_82 (by decide) rfl (fun c147 => ?_) (fun c147 => ?_)
                · refine V_iload_n 3 90 rfl dX8_sheet_89 rfl rfl ?_
                  refine V_ls [(0, .ref t), (1, .int a0), (2, .int a1), (3, .int a2)] [0, 1, 2, 3] rfl ?_
                  simp only [if_neg c147] at kj146
                  exact kj146
                · refine V_iconst 0 86 dX8_sheet_85 rfl kiconst_0 ?_
                  refine V_goto 90 dX8_sheet_86 (by decide) ?_
                  refine V_ls [(0, .ref t), (1, .int a0), (2, .int a1), (3, .int a2)] [0, 1, 2, 3] rfl ?_
                  simp only [if_pos c147] at kj146
                  exact kj146
              · rw [if_neg c135] at hf
                refine V_iload_n 3 57 rfl dX8_sheet_56 rfl rfl ?_
                refine V_bipush 24 59 dX8_sheet_57 rfl kbipush_24 ?_
                refine V_icmp_le 69 62 dX8_sheet_59 (by decide) rfl (fun c148 => ?_) (fun c148 => ?_)
                · rw [if_pos c148] at hf
                  refine V_aload_n 0 70 rfl dX8_sheet_69 rfl rfl ?_
                  obtain ⟨q150, h149, hf⟩ := ob hf
                  refine V_getQ (n := 27) (ty := tyX8) 73 h149 cf_7 rfl wd_fl_X8_55 dX8_sheet_70 rfl ?_
                  refine V_iload_n 1 74 rfl dX8_sheet_73 rfl rfl ?_
                  refine V_iload_n 2 75 rfl dX8_sheet_74 rfl rfl ?_
                  obtain ⟨s152, h151, hf⟩ := ob hf
                  refine V_iast 76 h151 dX8_sheet_75 rfl ?_
                  refine V_aload_n 0 77 rfl dX8_sheet_76 rfl rfl ?_
                  obtain ⟨q154, h153, hf⟩ := ob hf
                  refine V_getQ (n := 27) (ty := tyX8) 80 h153 cf_7 rfl wd_fl_X8_58 dX8_sheet_77 rfl ?_
                  refine V_iload_n 1 81 rfl dX8_sheet_80 rfl rfl ?_
                  refine V_iload_n 2 82 rfl dX8_sheet_81 rfl rfl ?_
                  have kj159 : V mi_X8_sheet l G (d + 3) 0 0 X 0 0 90 [(0, .ref t), (1, .int a0), (2, .int a1), (3, .int a2)] [.int (if a1 = 0 then 0 else a2 : Int32), .int a0, .ref q154] s152 := by
                    obtain ⟨s156, h155, hf⟩ := ob hf
                    refine V_iast 91 h155 dX8_sheet_90 rfl ?_
                    refine V_iconst 0 92 dX8_sheet_91 rfl kiconst_0 ?_
                    refine V_istore [(4, .int 0), (0, .ref t), (1, .int a0), (2, .int a1), (3, .int a2)] 94 dX8_sheet_92 (by decide) rfl rfl ?_
                    obtain ⟨p157, h158, hf⟩ := ob hf
                    refine V_ls [(4, .int 0), (0, .ref t), (1, .int a0)] [0, 1, 2] rfl ?_
                    refine L94 a0 3000 0 s156 p157 h158 ?_
                    refine V_iconst 1 121 dX8_sheet_120 rfl kiconst_1 ?_
                    have er := Option.some.inj hf
                    obtain ⟨e1, e2⟩ := Prod.mk.inj er
                    subst e1
                    subst e2
                    exact V_iret hQ rfl dX8_sheet_121
                  refine V_if_ne 89 85 dX8_sheet_82 (by decide) rfl (fun c160 => ?_) (fun c160 => ?_)
                  · refine V_iload_n 3 90 rfl dX8_sheet_89 rfl rfl ?_
                    refine V_ls [(0, .ref t), (1, .int a0), (2, .int a1), (3, .int a2)] [0, 1, 2, 3] rfl ?_
                    simp only [if_neg c160] at kj159
                    exact kj159
                  · refine V_iconst 0 86 dX8_sheet_85 rfl kiconst_0 ?_
                    refine V_goto 90 dX8_sheet_86 (by decide) ?_
                    refine V_ls [(0, .ref t), (1, .int a0), (2, .int a1), (3, .int a2)] [0, 1, 2, 3] rfl ?_
                    simp only [if_pos c160] at kj159
                    exact kj159
                · rw [if_neg c148] at hf
                  refine V_aload_n 0 63 rfl dX8_sheet_62 rfl rfl ?_
                  refine V_ldc (-1000001) 65 dX8_sheet_63 rfl wd_kk_X8_76 ?_
                  obtain ⟨p162, h161, hf⟩ := ob hf
                  refine V_callV (rest := []) (T := TX8) (n := 27) (ci := 7) 0 0 68 [.int p162.1] (c_X8_finding l G (d + 1) _ _ _ _ _ h161) (by omega) ok_X8_finding okv_X8_finding (gd_X8_finding h161) rfl wd_ml_X8_77 rfl rfl (Nat.le_of_ble_eq_true rfl) rfl rfl (Or.inl ⟨rfl, rfl⟩) dX8_sheet_65 rfl rfl ?_
                  have er := Option.some.inj hf
                  obtain ⟨e1, e2⟩ := Prod.mk.inj er
                  subst e1
                  subst e2
                  exact V_iret hQ rfl dX8_sheet_68
            · rw [if_neg c134] at hf
              refine V_iload_n 3 41 rfl dX8_sheet_40 rfl rfl ?_
              refine V_if_ge 52 44 dX8_sheet_41 (by decide) rfl (fun c163 => ?_) (fun c163 => ?_)
              · rw [if_pos c163] at hf
                refine V_iload_n 2 53 rfl dX8_sheet_52 rfl rfl ?_
                refine V_if_eq 69 56 dX8_sheet_53 (by decide) rfl (fun c164 => ?_) (fun c164 => ?_)
                · rw [if_pos c164] at hf
                  refine V_aload_n 0 70 rfl dX8_sheet_69 rfl rfl ?_
                  obtain ⟨q166, h165, hf⟩ := ob hf
                  refine V_getQ (n := 27) (ty := tyX8) 73 h165 cf_7 rfl wd_fl_X8_55 dX8_sheet_70 rfl ?_
                  refine V_iload_n 1 74 rfl dX8_sheet_73 rfl rfl ?_
                  refine V_iload_n 2 75 rfl dX8_sheet_74 rfl rfl ?_
                  obtain ⟨s168, h167, hf⟩ := ob hf
                  refine V_iast 76 h167 dX8_sheet_75 rfl ?_
                  refine V_aload_n 0 77 rfl dX8_sheet_76 rfl rfl ?_
                  obtain ⟨q170, h169, hf⟩ := ob hf
                  refine V_getQ (n := 27) (ty := tyX8) 80 h169 cf_7 rfl wd_fl_X8_58 dX8_sheet_77 rfl ?_
                  refine V_iload_n 1 81 rfl dX8_sheet_80 rfl rfl ?_
                  refine V_iload_n 2 82 rfl dX8_sheet_81 rfl rfl ?_
                  have kj175 : V mi_X8_sheet l G (d + 3) 0 0 X 0 0 90 [(0, .ref t), (1, .int a0), (2, .int a1), (3, .int a2)] [.int (if a1 = 0 then 0 else a2 : Int32), .int a0, .ref q170] s168 := by
                    obtain ⟨s172, h171, hf⟩ := ob hf
                    refine V_iast 91 h171 dX8_sheet_90 rfl ?_
                    refine V_iconst 0 92 dX8_sheet_91 rfl kiconst_0 ?_
                    refine V_istore [(4, .int 0), (0, .ref t), (1, .int a0), (2, .int a1), (3, .int a2)] 94 dX8_sheet_92 (by decide) rfl rfl ?_
                    obtain ⟨p173, h174, hf⟩ := ob hf
                    refine V_ls [(4, .int 0), (0, .ref t), (1, .int a0)] [0, 1, 2] rfl ?_
                    refine L94 a0 3000 0 s172 p173 h174 ?_
                    refine V_iconst 1 121 dX8_sheet_120 rfl kiconst_1 ?_
                    have er := Option.some.inj hf
                    obtain ⟨e1, e2⟩ := Prod.mk.inj er
                    subst e1
                    subst e2
                    exact V_iret hQ rfl dX8_sheet_121
                  refine V_if_ne 89 85 dX8_sheet_82 (by decide) rfl (fun c176 => ?_) (fun c176 => ?_)
                  · refine V_iload_n 3 90 rfl dX8_sheet_89 rfl rfl ?_
                    refine V_ls [(0, .ref t), (1, .int a0), (2, .int a1), (3, .int a2)] [0, 1, 2, 3] rfl ?_
                    simp only [if_neg c176] at kj175
                    exact kj175
                  · refine V_iconst 0 86 dX8_sheet_85 rfl kiconst_0 ?_
                    refine V_goto 90 dX8_sheet_86 (by decide) ?_
                    refine V_ls [(0, .ref t), (1, .int a0), (2, .int a1), (3, .int a2)] [0, 1, 2, 3] rfl ?_
                    simp only [if_pos c176] at kj175
                    exact kj175
                · rw [if_neg c164] at hf
                  refine V_iload_n 3 57 rfl dX8_sheet_56 rfl rfl ?_
                  refine V_bipush 24 59 dX8_sheet_57 rfl kbipush_24 ?_
                  refine V_icmp_le 69 62 dX8_sheet_59 (by decide) rfl (fun c177 => ?_) (fun c177 => ?_)
                  · rw [if_pos c177] at hf
                    refine V_aload_n 0 70 rfl dX8_sheet_69 rfl rfl ?_
                    obtain ⟨q179, h178, hf⟩ := ob hf
                    refine V_getQ (n := 27) (ty := tyX8) 73 h178 cf_7 rfl wd_fl_X8_55 dX8_sheet_70 rfl ?_
                    refine V_iload_n 1 74 rfl dX8_sheet_73 rfl rfl ?_
                    refine V_iload_n 2 75 rfl dX8_sheet_74 rfl rfl ?_
                    obtain ⟨s181, h180, hf⟩ := ob hf
                    refine V_iast 76 h180 dX8_sheet_75 rfl ?_
                    refine V_aload_n 0 77 rfl dX8_sheet_76 rfl rfl ?_
                    obtain ⟨q183, h182, hf⟩ := ob hf
                    refine V_getQ (n := 27) (ty := tyX8) 80 h182 cf_7 rfl wd_fl_X8_58 dX8_sheet_77 rfl ?_
                    refine V_iload_n 1 81 rfl dX8_sheet_80 rfl rfl ?_
                    refine V_iload_n 2 82 rfl dX8_sheet_81 rfl rfl ?_
                    have kj188 : V mi_X8_sheet l G (d + 3) 0 0 X 0 0 90 [(0, .ref t), (1, .int a0), (2, .int a1), (3, .int a2)] [.int (if a1 = 0 then 0 else a2 : Int32), .int a0, .ref q183] s181 := by
                      obtain ⟨s185, h184, hf⟩ := ob hf
                      refine V_iast 91 h184 dX8_sheet_90 rfl ?_
                      refine V_iconst 0 92 dX8_sheet_91 rfl kiconst_0 ?_
                      refine V_istore [(4, .int 0), (0, .ref t), (1, .int a0), (2, .int a1), (3, .int a2)] 94 dX8_sheet_92 (by decide) rfl rfl ?_
                      obtain ⟨p186, h187, hf⟩ := ob hf
                      refine V_ls [(4, .int 0), (0, .ref t), (1, .int a0)] [0, 1, 2] rfl ?_
                      refine L94 a0 3000 0 s185 p186 h187 ?_
                      refine V_iconst 1 121 dX8_sheet_120 rfl kiconst_1 ?_
                      have er := Option.some.inj hf
                      obtain ⟨e1, e2⟩ := Prod.mk.inj er
                      subst e1
                      subst e2
                      exact V_iret hQ rfl dX8_sheet_121
                    refine V_if_ne 89 85 dX8_sheet_82 (by decide) rfl (fun c189 => ?_) (fun c189 => ?_)
                    · refine V_iload_n 3 90 rfl dX8_sheet_89 rfl rfl ?_
                      refine V_ls [(0, .ref t), (1, .int a0), (2, .int a1), (3, .int a2)] [0, 1, 2, 3] rfl ?_
                      simp only [if_neg c189] at kj188
                      exact kj188
                    · refine V_iconst 0 86 dX8_sheet_85 rfl kiconst_0 ?_
                      refine V_goto 90 dX8_sheet_86 (by decide) ?_
                      refine V_ls [(0, .ref t), (1, .int a0), (2, .int a1), (3, .int a2)] [0, 1, 2, 3] rfl ?_
                      simp only [if_pos c189] at kj188
                      exact kj188
                  · rw [if_neg c177] at hf
                    refine V_aload_n 0 63 rfl dX8_sheet_62 rfl rfl ?_
                    refine V_ldc (-1000001) 65 dX8_sheet_63 rfl wd_kk_X8_76 ?_
                    obtain ⟨p191, h190, hf⟩ := ob hf
                    refine V_callV (rest := []) (T := TX8) (n := 27) (ci := 7) 0 0 68 [.int p191.1] (c_X8_finding l G (d + 1) _ _ _ _ _ h190) (by omega) ok_X8_finding okv_X8_finding (gd_X8_finding h190) rfl wd_ml_X8_77 rfl rfl (Nat.le_of_ble_eq_true rfl) rfl rfl (Or.inl ⟨rfl, rfl⟩) dX8_sheet_65 rfl rfl ?_
                    have er := Option.some.inj hf
                    obtain ⟨e1, e2⟩ := Prod.mk.inj er
                    subst e1
                    subst e2
                    exact V_iret hQ rfl dX8_sheet_68
              · rw [if_neg c163] at hf
                refine V_aload_n 0 45 rfl dX8_sheet_44 rfl rfl ?_
                refine V_ldc_w (-1000003) 48 dX8_sheet_45 rfl wd_kk_X8_275 ?_
                obtain ⟨p193, h192, hf⟩ := ob hf
                refine V_callV (rest := []) (T := TX8) (n := 27) (ci := 7) 0 0 51 [.int p193.1] (c_X8_finding l G (d + 1) _ _ _ _ _ h192) (by omega) ok_X8_finding okv_X8_finding (gd_X8_finding h192) rfl wd_ml_X8_77 rfl rfl (Nat.le_of_ble_eq_true rfl) rfl rfl (Or.inl ⟨rfl, rfl⟩) dX8_sheet_48 rfl rfl ?_
                have er := Option.some.inj hf
                obtain ⟨e1, e2⟩ := Prod.mk.inj er
                subst e1
                subst e2
                exact V_iret hQ rfl dX8_sheet_51
          · rw [if_neg c133] at hf
            refine V_iload_n 2 24 rfl dX8_sheet_23 rfl rfl ?_
            refine V_bipush 32 26 dX8_sheet_24 rfl kbipush_32 ?_
            refine V_icmp_eq 36 29 dX8_sheet_26 (by decide) rfl (fun c194 => ?_) (fun c194 => ?_)
            · rw [if_pos c194] at hf
              refine V_iload_n 2 37 rfl dX8_sheet_36 rfl rfl ?_
              refine V_if_eq 52 40 dX8_sheet_37 (by decide) rfl (fun c195 => ?_) (fun c195 => ?_)
              · rw [if_pos c195] at hf
                refine V_iload_n 2 53 rfl dX8_sheet_52 rfl rfl ?_
                refine V_if_eq 69 56 dX8_sheet_53 (by decide) rfl (fun c196 => ?_) (fun c196 => ?_)
                · rw [if_pos c196] at hf
                  refine V_aload_n 0 70 rfl dX8_sheet_69 rfl rfl ?_
                  obtain ⟨q198, h197, hf⟩ := ob hf
                  refine V_getQ (n := 27) (ty := tyX8) 73 h197 cf_7 rfl wd_fl_X8_55 dX8_sheet_70 rfl ?_
                  refine V_iload_n 1 74 rfl dX8_sheet_73 rfl rfl ?_
                  refine V_iload_n 2 75 rfl dX8_sheet_74 rfl rfl ?_
                  obtain ⟨s200, h199, hf⟩ := ob hf
                  refine V_iast 76 h199 dX8_sheet_75 rfl ?_
                  refine V_aload_n 0 77 rfl dX8_sheet_76 rfl rfl ?_
                  obtain ⟨q202, h201, hf⟩ := ob hf
                  refine V_getQ (n := 27) (ty := tyX8) 80 h201 cf_7 rfl wd_fl_X8_58 dX8_sheet_77 rfl ?_
                  refine V_iload_n 1 81 rfl dX8_sheet_80 rfl rfl ?_
                  refine V_iload_n 2 82 rfl dX8_sheet_81 rfl rfl ?_
                  have kj207 : V mi_X8_sheet l G (d + 3) 0 0 X 0 0 90 [(0, .ref t), (1, .int a0), (2, .int a1), (3, .int a2)] [.int (if a1 = 0 then 0 else a2 : Int32), .int a0, .ref q202] s200 := by
                    obtain ⟨s204, h203, hf⟩ := ob hf
                    refine V_iast 91 h203 dX8_sheet_90 rfl ?_
                    refine V_iconst 0 92 dX8_sheet_91 rfl kiconst_0 ?_
                    refine V_istore [(4, .int 0), (0, .ref t), (1, .int a0), (2, .int a1), (3, .int a2)] 94 dX8_sheet_92 (by decide) rfl rfl ?_
                    obtain ⟨p205, h206, hf⟩ := ob hf
                    refine V_ls [(4, .int 0), (0, .ref t), (1, .int a0)] [0, 1, 2] rfl ?_
                    refine L94 a0 3000 0 s204 p205 h206 ?_
                    refine V_iconst 1 121 dX8_sheet_120 rfl kiconst_1 ?_
                    have er := Option.some.inj hf
                    obtain ⟨e1, e2⟩ := Prod.mk.inj er
                    subst e1
                    subst e2
                    exact V_iret hQ rfl dX8_sheet_121
                  refine V_if_ne 89 85 dX8_sheet_82 (by decide) rfl (fun c208 => ?_) (fun c208 => ?_)
                  · refine V_iload_n 3 90 rfl dX8_sheet_89 rfl rfl ?_
                    refine V_ls [(0, .ref t), (1, .int a0), (2, .int a1), (3, .int a2)] [0, 1, 2, 3] rfl ?_
                    simp only [if_neg c208] at kj207
                    exact kj207
                  · refine V_iconst 0 86 dX8_sheet_85 rfl kiconst_0 ?_
                    refine V_goto 90 dX8_sheet_86 (by decide) ?_
                    refine V_ls [(0, .ref t), (1, .int a0), (2, .int a1), (3, .int a2)] [0, 1, 2, 3] rfl ?_
                    simp only [if_pos c208] at kj207
                    exact kj207
                · rw [if_neg c196] at hf
                  refine V_iload_n 3 57 rfl dX8_sheet_56 rfl rfl ?_
                  refine V_bipush 24 59 dX8_sheet_57 rfl kbipush_24 ?_
                  refine V_icmp_le 69 62 dX8_sheet_59 (by decide) rfl (fun c209 => ?_) (fun c209 => ?_)
                  · rw [if_pos c209] at hf
                    refine V_aload_n 0 70 rfl dX8_sheet_69 rfl rfl ?_
                    obtain ⟨q211, h210, hf⟩ := ob hf
                    refine V_getQ (n := 27) (ty := tyX8) 73 h210 cf_7 rfl wd_fl_X8_55 dX8_sheet_70 rfl ?_
                    refine V_iload_n 1 74 rfl dX8_sheet_73 rfl rfl ?_
                    refine V_iload_n 2 75 rfl dX8_sheet_74 rfl rfl ?_
                    obtain ⟨s213, h212, hf⟩ := ob hf
                    refine V_iast 76 h212 dX8_sheet_75 rfl ?_
                    refine V_aload_n 0 77 rfl dX8_sheet_76 rfl rfl ?_
                    obtain ⟨q215, h214, hf⟩ := ob hf
                    refine V_getQ (n := 27) (ty := tyX8) 80 h214 cf_7 rfl wd_fl_X8_58 dX8_sheet_77 rfl ?_
                    refine V_iload_n 1 81 rfl dX8_sheet_80 rfl rfl ?_
                    refine V_iload_n 2 82 rfl dX8_sheet_81 rfl rfl ?_
                    have kj220 : V mi_X8_sheet l G (d + 3) 0 0 X 0 0 90 [(0, .ref t), (1, .int a0), (2, .int a1), (3, .int a2)] [.int (if a1 = 0 then 0 else a2 : Int32), .int a0, .ref q215] s213 := by
                      obtain ⟨s217, h216, hf⟩ := ob hf
                      refine V_iast 91 h216 dX8_sheet_90 rfl ?_
                      refine V_iconst 0 92 dX8_sheet_91 rfl kiconst_0 ?_
                      refine V_istore [(4, .int 0), (0, .ref t), (1, .int a0), (2, .int a1), (3, .int a2)] 94 dX8_sheet_92 (by decide) rfl rfl ?_
                      obtain ⟨p218, h219, hf⟩ := ob hf
                      refine V_ls [(4, .int 0), (0, .ref t), (1, .int a0)] [0, 1, 2] rfl ?_
                      refine L94 a0 3000 0 s217 p218 h219 ?_
                      refine V_iconst 1 121 dX8_sheet_120 rfl kiconst_1 ?_
                      have er := Option.some.inj hf
                      obtain ⟨e1, e2⟩ := Prod.mk.inj er
                      subst e1
                      subst e2
                      exact V_iret hQ rfl dX8_sheet_121
                    refine V_if_ne 89 85 dX8_sheet_82 (by decide) rfl (fun c221 => ?_) (fun c221 => ?_)
                    · refine V_iload_n 3 90 rfl dX8_sheet_89 rfl rfl ?_
                      refine V_ls [(0, .ref t), (1, .int a0), (2, .int a1), (3, .int a2)] [0, 1, 2, 3] rfl ?_
                      simp only [if_neg c221] at kj220
                      exact kj220
                    · refine V_iconst 0 86 dX8_sheet_85 rfl kiconst_0 ?_
                      refine V_goto 90 dX8_sheet_86 (by decide) ?_
                      refine V_ls [(0, .ref t), (1, .int a0), (2, .int a1), (3, .int a2)] [0, 1, 2, 3] rfl ?_
                      simp only [if_pos c221] at kj220
                      exact kj220
                  · rw [if_neg c209] at hf
                    refine V_aload_n 0 63 rfl dX8_sheet_62 rfl rfl ?_
                    refine V_ldc (-1000001) 65 dX8_sheet_63 rfl wd_kk_X8_76 ?_
                    obtain ⟨p223, h222, hf⟩ := ob hf
                    refine V_callV (rest := []) (T := TX8) (n := 27) (ci := 7) 0 0 68 [.int p223.1] (c_X8_finding l G (d + 1) _ _ _ _ _ h222) (by omega) ok_X8_finding okv_X8_finding (gd_X8_finding h222) rfl wd_ml_X8_77 rfl rfl (Nat.le_of_ble_eq_true rfl) rfl rfl (Or.inl ⟨rfl, rfl⟩) dX8_sheet_65 rfl rfl ?_
                    have er := Option.some.inj hf
                    obtain ⟨e1, e2⟩ := Prod.mk.inj er
                    subst e1
                    subst e2
                    exact V_iret hQ rfl dX8_sheet_68
              · rw [if_neg c195] at hf
                refine V_iload_n 3 41 rfl dX8_sheet_40 rfl rfl ?_
                refine V_if_ge 52 44 dX8_sheet_41 (by decide) rfl (fun c224 => ?_) (fun c224 => ?_)
                · rw [if_pos c224] at hf
                  refine V_iload_n 2 53 rfl dX8_sheet_52 rfl rfl ?_
                  refine V_if_eq 69 56 dX8_sheet_53 (by decide) rfl (fun c225 => ?_) (fun c225 => ?_)
                  · rw [if_pos c225] at hf
                    refine V_aload_n 0 70 rfl dX8_sheet_69 rfl rfl ?_
                    obtain ⟨q227, h226, hf⟩ := ob hf
                    refine V_getQ (n := 27) (ty := tyX8) 73 h226 cf_7 rfl wd_fl_X8_55 dX8_sheet_70 rfl ?_
                    refine V_iload_n 1 74 rfl dX8_sheet_73 rfl rfl ?_
                    refine V_iload_n 2 75 rfl dX8_sheet_74 rfl rfl ?_
                    obtain ⟨s229, h228, hf⟩ := ob hf
                    refine V_iast 76 h228 dX8_sheet_75 rfl ?_
                    refine V_aload_n 0 77 rfl dX8_sheet_76 rfl rfl ?_
                    obtain ⟨q231, h230, hf⟩ := ob hf
                    refine V_getQ (n := 27) (ty := tyX8) 80 h230 cf_7 rfl wd_fl_X8_58 dX8_sheet_77 rfl ?_
                    refine V_iload_n 1 81 rfl dX8_sheet_80 rfl rfl ?_
                    refine V_iload_n 2 82 rfl dX8_sheet_81 rfl rfl ?_
                    have kj236 : V mi_X8_sheet l G (d + 3) 0 0 X 0 0 90 [(0, .ref t), (1, .int a0), (2, .int a1), (3, .int a2)] [.int (if a1 = 0 then 0 else a2 : Int32), .int a0, .ref q231] s229 := by
                      obtain ⟨s233, h232, hf⟩ := ob hf
                      refine V_iast 91 h232 dX8_sheet_90 rfl ?_
                      refine V_iconst 0 92 dX8_sheet_91 rfl kiconst_0 ?_
                      refine V_istore [(4, .int 0), (0, .ref t), (1, .int a0), (2, .int a1), (3, .int a2)] 94 dX8_sheet_92 (by decide) rfl rfl ?_
                      obtain ⟨p234, h235, hf⟩ := ob hf
                      refine V_ls [(4, .int 0), (0, .ref t), (1, .int a0)] [0, 1, 2] rfl ?_
                      refine L94 a0 3000 0 s233 p234 h235 ?_
                      refine V_iconst 1 121 dX8_sheet_120 rfl kiconst_1 ?_
                      have er := Option.some.inj hf
                      obtain ⟨e1, e2⟩ := Prod.mk.inj er
                      subst e1
                      subst e2
                      exact V_iret hQ rfl dX8_sheet_121
                    refine V_if_ne 89 85 dX8_sheet_82 (by decide) rfl (fun c237 => ?_) (fun c237 => ?_)
                    · refine V_iload_n 3 90 rfl dX8_sheet_89 rfl rfl ?_
                      refine V_ls [(0, .ref t), (1, .int a0), (2, .int a1), (3, .int a2)] [0, 1, 2, 3] rfl ?_
                      simp only [if_neg c237] at kj236
                      exact kj236
                    · refine V_iconst 0 86 dX8_sheet_85 rfl kiconst_0 ?_
                      refine V_goto 90 dX8_sheet_86 (by decide) ?_
                      refine V_ls [(0, .ref t), (1, .int a0), (2, .int a1), (3, .int a2)] [0, 1, 2, 3] rfl ?_
                      simp only [if_pos c237] at kj236
                      exact kj236
                  · rw [if_neg c225] at hf
                    refine V_iload_n 3 57 rfl dX8_sheet_56 rfl rfl ?_
                    refine V_bipush 24 59 dX8_sheet_57 rfl kbipush_24 ?_
                    refine V_icmp_le 69 62 dX8_sheet_59 (by decide) rfl (fun c238 => ?_) (fun c238 => ?_)
                    · rw [if_pos c238] at hf
                      refine V_aload_n 0 70 rfl dX8_sheet_69 rfl rfl ?_
                      obtain ⟨q240, h239, hf⟩ := ob hf
                      refine V_getQ (n := 27) (ty := tyX8) 73 h239 cf_7 rfl wd_fl_X8_55 dX8_sheet_70 rfl ?_
                      refine V_iload_n 1 74 rfl dX8_sheet_73 rfl rfl ?_
                      refine V_iload_n 2 75 rfl dX8_sheet_74 rfl rfl ?_
                      obtain ⟨s242, h241, hf⟩ := ob hf
                      refine V_iast 76 h241 dX8_sheet_75 rfl ?_
                      refine V_aload_n 0 77 rfl dX8_sheet_76 rfl rfl ?_
                      obtain ⟨q244, h243, hf⟩ := ob hf
                      refine V_getQ (n := 27) (ty := tyX8) 80 h243 cf_7 rfl wd_fl_X8_58 dX8_sheet_77 rfl ?_
                      refine V_iload_n 1 81 rfl dX8_sheet_80 rfl rfl ?_
                      refine V_iload_n 2 82 rfl dX8_sheet_81 rfl rfl ?_
                      have kj249 : V mi_X8_sheet l G (d + 3) 0 0 X 0 0 90 [(0, .ref t), (1, .int a0), (2, .int a1), (3, .int a2)] [.int (if a1 = 0 then 0 else a2 : Int32), .int a0, .ref q244] s242 := by
                        obtain ⟨s246, h245, hf⟩ := ob hf
                        refine V_iast 91 h245 dX8_sheet_90 rfl ?_
                        refine V_iconst 0 92 dX8_sheet_91 rfl kiconst_0 ?_
                        refine V_istore [(4, .int 0), (0, .ref t), (1, .int a0), (2, .int a1), (3, .int a2)] 94 dX8_sheet_92 (by decide) rfl rfl ?_
                        obtain ⟨p247, h248, hf⟩ := ob hf
                        refine V_ls [(4, .int 0), (0, .ref t), (1, .int a0)] [0, 1, 2] rfl ?_
                        refine L94 a0 3000 0 s246 p247 h248 ?_
                        refine V_iconst 1 121 dX8_sheet_120 rfl kiconst_1 ?_
                        have er := Option.some.inj hf
                        obtain ⟨e1, e2⟩ := Prod.mk.inj er
                        subst e1
                        subst e2
                        exact V_iret hQ rfl dX8_sheet_121
                      refine V_if_ne 89 85 dX8_sheet_82 (by decide) rfl (fun c250 => ?_) (fun c250 => ?_)
                      · refine V_iload_n 3 90 rfl dX8_sheet_89 rfl rfl ?_
                        refine V_ls [(0, .ref t), (1, .int a0), (2, .int a1), (3, .int a2)] [0, 1, 2, 3] rfl ?_
                        simp only [if_neg c250] at kj249
                        exact kj249
                      · refine V_iconst 0 86 dX8_sheet_85 rfl kiconst_0 ?_
                        refine V_goto 90 dX8_sheet_86 (by decide) ?_
                        refine V_ls [(0, .ref t), (1, .int a0), (2, .int a1), (3, .int a2)] [0, 1, 2, 3] rfl ?_
                        simp only [if_pos c250] at kj249
                        exact kj249
                    · rw [if_neg c238] at hf
                      refine V_aload_n 0 63 rfl dX8_sheet_62 rfl rfl ?_
                      refine V_ldc (-1000001) 65 dX8_sheet_63 rfl wd_kk_X8_76 ?_
                      obtain ⟨p252, h251, hf⟩ := ob hf
                      refine V_callV (rest := []) (T := TX8) (n := 27) (ci := 7) 0 0 68 [.int p252.1] (c_X8_finding l G (d + 1) _ _ _ _ _ h251) (by omega) ok_X8_finding okv_X8_finding (gd_X8_finding h251) rfl wd_ml_X8_77 rfl rfl (Nat.le_of_ble_eq_true rfl) rfl rfl (Or.inl ⟨rfl, rfl⟩) dX8_sheet_65 rfl rfl ?_
                      have er := Option.some.inj hf
                      obtain ⟨e1, e2⟩ := Prod.mk.inj er
                      subst e1
                      subst e2
                      exact V_iret hQ rfl dX8_sheet_68
                · rw [if_neg c224] at hf
                  refine V_aload_n 0 45 rfl dX8_sheet_44 rfl rfl ?_
                  refine V_ldc_w (-1000003) 48 dX8_sheet_45 rfl wd_kk_X8_275 ?_
                  obtain ⟨p254, h253, hf⟩ := ob hf
                  refine V_callV (rest := []) (T := TX8) (n := 27) (ci := 7) 0 0 51 [.int p254.1] (c_X8_finding l G (d + 1) _ _ _ _ _ h253) (by omega) ok_X8_finding okv_X8_finding (gd_X8_finding h253) rfl wd_ml_X8_77 rfl rfl (Nat.le_of_ble_eq_true rfl) rfl rfl (Or.inl ⟨rfl, rfl⟩) dX8_sheet_48 rfl rfl ?_
                  have er := Option.some.inj hf
                  obtain ⟨e1, e2⟩ := Prod.mk.inj er
                  subst e1
                  subst e2
                  exact V_iret hQ rfl dX8_sheet_51
            · rw [if_neg c194] at hf
              refine V_aload_n 0 30 rfl dX8_sheet_29 rfl rfl ?_
              refine V_ldc (-1000001) 32 dX8_sheet_30 rfl wd_kk_X8_76 ?_
              obtain ⟨p256, h255, hf⟩ := ob hf
              refine V_callV (rest := []) (T := TX8) (n := 27) (ci := 7) 0 0 35 [.int p256.1] (c_X8_finding l G (d + 1) _ _ _ _ _ h255) (by omega) ok_X8_finding okv_X8_finding (gd_X8_finding h255) rfl wd_ml_X8_77 rfl rfl (Nat.le_of_ble_eq_true rfl) rfl rfl (Or.inl ⟨rfl, rfl⟩) dX8_sheet_32 rfl rfl ?_
              have er := Option.some.inj hf
              obtain ⟨e1, e2⟩ := Prod.mk.inj er
              subst e1
              subst e2
              exact V_iret hQ rfl dX8_sheet_35
  · rw [if_neg hg] at hf
    cases hf
abbrev mi_X8_put : MI := (yX8_put, cX8_put, 4, some .int)
theorem ok_X8_put : OkN mi_X8_put 3 := ⟨wd_cd_X8_put, wd_in_X8, ⟨by decide +kernel, by decide +kernel, by decide +kernel⟩, by decide⟩
theorem okv_X8_put : Cond.instanceMethod (mi_X8_put).1 ∈ tb ∧ Cond.selects (mi_X8_put).1.cls (mi_X8_put).1 (mi_X8_put).1 ∈ tb := ⟨wd_im_X8_put, wd_se_X8_put⟩
def f_X8_put (σ : St) (t : Nat) (a0 : Int32) (a1 : Int32) (a2 : Int32) : Option (Int32 × St) := if isO σ 7 t = true then ((f_X8_isSheet σ a0).bind fun v2 => if v2 = 0 then ((f_X8_finding σ t (-1000001)).bind fun p39 => some (p39.1, p39.2)) else ((gQ σ 7 t 23).bind fun q5 => (aI σ 0 q5 a0).bind fun v7 => if v7 = 0 then ((f_X8_finding σ t (-1000002)).bind fun p37 => some (p37.1, p37.2)) else ((gQ σ 7 t 24).bind fun q10 => (aI σ 0 q10 a0).bind fun v12 => (f_X8_within σ a1 0 (v12 - 1)).bind fun v14 => if v14 = 0 then ((f_X8_finding σ t (-1000001)).bind fun p35 => some (p35.1, p35.2)) else ((gQ σ 7 t 25).bind fun q17 => (gQ σ 7 t 23).bind fun q19 => (aI σ 0 q19 a0).bind fun v21 => if v21 = 8 then ((sI σ q17 (((24 : Int32) * a0) + a1) a2.toInt8.toInt32).bind fun s33 => some (1, s33)) else ((gQ σ 7 t 23).bind fun q24 => (aI σ 0 q24 a0).bind fun v26 => if v26 = 16 then ((sI σ q17 (((24 : Int32) * a0) + a1) a2.toInt16.toInt32).bind fun s31 => some (1, s31)) else ((sI σ q17 (((24 : Int32) * a0) + a1) a2).bind fun s29 => some (1, s29))))))) else none
theorem gd_X8_put {σ : St} {t : Nat} {a0 : Int32} {a1 : Int32} {a2 : Int32} {r : Int32 × St} (h : f_X8_put σ t a0 a1 a2 = some r) : isO σ 7 t = true := by
  unfold f_X8_put at h
  by_cases hg : isO σ 7 t = true
  · exact hg
  · rw [if_neg hg] at h
    cases h
set_option maxRecDepth 100000 in
set_option maxHeartbeats 4000000 in
theorem c_X8_put (l : Launch) (G : Gd) (d : Nat) (σ : St) (t : Nat) (a0 : Int32) (a1 : Int32) (a2 : Int32) (r0 : Int32) (σ' : St) (hf : f_X8_put σ t a0 a1 a2 = some (r0, σ')) : MetV l G (d + 3) mi_X8_put [.ref t, .int a0, .int a1, .int a2] σ (some (.int r0)) σ' 0 0 := by
  unfold f_X8_put at hf
  refine MetV.of [(0, .ref t), (1, .int a0), (2, .int a1), (3, .int a2)] (by decide +kernel) rfl (Nat.le_of_ble_eq_true rfl) ?_
  intro X hQ
  by_cases hg : isO σ 7 t = true
  · rw [if_pos hg] at hf
    refine V_iload_n 1 1 rfl dX8_put_0 rfl rfl ?_
    obtain ⟨v2, h1, hf⟩ := ob hf
    refine V_callS (rest := []) 0 0 4 [.int v2] (c_X8_isSheet l G (d + 0) _ _ _ h1) (by omega) ok_X8_isSheet oks_X8_isSheet wd_ml_X8_110 rfl rfl (Nat.le_of_ble_eq_true rfl) rfl rfl (Or.inl ⟨rfl, rfl⟩) dX8_put_1 rfl rfl ?_
    refine V_if_ne 14 7 dX8_put_4 (by decide) rfl (fun c3 => ?_) (fun c3 => ?_)
    · rw [if_neg c3] at hf
      refine V_aload_n 0 15 rfl dX8_put_14 rfl rfl ?_
      obtain ⟨q5, h4, hf⟩ := ob hf
      refine V_getQ (n := 27) (ty := tyX8) 18 h4 cf_7 rfl wd_fl_X8_55 dX8_put_15 rfl ?_
      refine V_iload_n 1 19 rfl dX8_put_18 rfl rfl ?_
      obtain ⟨v7, h6, hf⟩ := ob hf
      refine V_iald 20 h6 dX8_put_19 rfl ?_
      refine V_if_ne 30 23 dX8_put_20 (by decide) rfl (fun c8 => ?_) (fun c8 => ?_)
      · rw [if_neg c8] at hf
        refine V_iload_n 2 31 rfl dX8_put_30 rfl rfl ?_
        refine V_iconst 0 32 dX8_put_31 rfl kiconst_0 ?_
        refine V_aload_n 0 33 rfl dX8_put_32 rfl rfl ?_
        obtain ⟨q10, h9, hf⟩ := ob hf
        refine V_getQ (n := 27) (ty := tyX8) 36 h9 cf_7 rfl wd_fl_X8_58 dX8_put_33 rfl ?_
        refine V_iload_n 1 37 rfl dX8_put_36 rfl rfl ?_
        obtain ⟨v12, h11, hf⟩ := ob hf
        refine V_iald 38 h11 dX8_put_37 rfl ?_
        refine V_iconst 1 39 dX8_put_38 rfl kiconst_1 ?_
        refine V_isub 40 dX8_put_39 rfl ?_
        obtain ⟨v14, h13, hf⟩ := ob hf
        refine V_callS (rest := []) 0 0 43 [.int v14] (c_X8_within l G (d + 1) _ _ _ _ _ h13) (by omega) ok_X8_within oks_X8_within wd_ml_X8_68 rfl rfl (Nat.le_of_ble_eq_true rfl) rfl rfl (Or.inl ⟨rfl, rfl⟩) dX8_put_40 rfl rfl ?_
        refine V_if_ne 53 46 dX8_put_43 (by decide) rfl (fun c15 => ?_) (fun c15 => ?_)
        · rw [if_neg c15] at hf
          refine V_aload_n 0 54 rfl dX8_put_53 rfl rfl ?_
          obtain ⟨q17, h16, hf⟩ := ob hf
          refine V_getQ (n := 27) (ty := tyX8) 57 h16 cf_7 rfl wd_fl_X8_61 dX8_put_54 rfl ?_
          refine V_bipush 24 59 dX8_put_57 rfl kbipush_24 ?_
          refine V_iload_n 1 60 rfl dX8_put_59 rfl rfl ?_
          refine V_imul 61 dX8_put_60 rfl ?_
          refine V_iload_n 2 62 rfl dX8_put_61 rfl rfl ?_
          refine V_iadd 63 dX8_put_62 rfl ?_
          refine V_aload_n 0 64 rfl dX8_put_63 rfl rfl ?_
          obtain ⟨q19, h18, hf⟩ := ob hf
          refine V_getQ (n := 27) (ty := tyX8) 67 h18 cf_7 rfl wd_fl_X8_55 dX8_put_64 rfl ?_
          refine V_iload_n 1 68 rfl dX8_put_67 rfl rfl ?_
          obtain ⟨v21, h20, hf⟩ := ob hf
          refine V_iald 69 h20 dX8_put_68 rfl ?_
          refine V_bipush 8 71 dX8_put_69 rfl kbipush_8 ?_
          refine V_icmp_ne 79 74 dX8_put_71 (by decide) rfl (fun c22 => ?_) (fun c22 => ?_)
          · rw [if_neg c22] at hf
            refine V_aload_n 0 80 rfl dX8_put_79 rfl rfl ?_
            obtain ⟨q24, h23, hf⟩ := ob hf
            refine V_getQ (n := 27) (ty := tyX8) 83 h23 cf_7 rfl wd_fl_X8_55 dX8_put_80 rfl ?_
            refine V_iload_n 1 84 rfl dX8_put_83 rfl rfl ?_
            obtain ⟨v26, h25, hf⟩ := ob hf
            refine V_iald 85 h25 dX8_put_84 rfl ?_
            refine V_bipush 16 87 dX8_put_85 rfl kbipush_16 ?_
            refine V_icmp_ne 95 90 dX8_put_87 (by decide) rfl (fun c27 => ?_) (fun c27 => ?_)
            · rw [if_neg c27] at hf
              refine V_iload_n 3 96 rfl dX8_put_95 rfl rfl ?_
              obtain ⟨s29, h28, hf⟩ := ob hf
              refine V_iast 97 h28 dX8_put_96 rfl ?_
              refine V_iconst 1 98 dX8_put_97 rfl kiconst_1 ?_
              have er := Option.some.inj hf
              obtain ⟨e1, e2⟩ := Prod.mk.inj er
              subst e1
              subst e2
              exact V_iret hQ rfl dX8_put_98
            · rw [if_pos c27] at hf
              refine V_iload_n 3 91 rfl dX8_put_90 rfl rfl ?_
              refine V_i2s 92 dX8_put_91 rfl ?_
              refine V_goto 96 dX8_put_92 (by decide) ?_
              obtain ⟨s31, h30, hf⟩ := ob hf
              refine V_iast 97 h30 dX8_put_96 rfl ?_
              refine V_iconst 1 98 dX8_put_97 rfl kiconst_1 ?_
              have er := Option.some.inj hf
              obtain ⟨e1, e2⟩ := Prod.mk.inj er
              subst e1
              subst e2
              exact V_iret hQ rfl dX8_put_98
          · rw [if_pos c22] at hf
            refine V_iload_n 3 75 rfl dX8_put_74 rfl rfl ?_
            refine V_i2b 76 dX8_put_75 rfl ?_
            refine V_goto 96 dX8_put_76 (by decide) ?_
            obtain ⟨s33, h32, hf⟩ := ob hf
            refine V_iast 97 h32 dX8_put_96 rfl ?_
            refine V_iconst 1 98 dX8_put_97 rfl kiconst_1 ?_
            have er := Option.some.inj hf
            obtain ⟨e1, e2⟩ := Prod.mk.inj er
            subst e1
            subst e2
            exact V_iret hQ rfl dX8_put_98
        · rw [if_pos c15] at hf
          refine V_aload_n 0 47 rfl dX8_put_46 rfl rfl ?_
          refine V_ldc (-1000001) 49 dX8_put_47 rfl wd_kk_X8_76 ?_
          obtain ⟨p35, h34, hf⟩ := ob hf
          refine V_callV (rest := []) (T := TX8) (n := 27) (ci := 7) 0 0 52 [.int p35.1] (c_X8_finding l G (d + 1) _ _ _ _ _ h34) (by omega) ok_X8_finding okv_X8_finding (gd_X8_finding h34) rfl wd_ml_X8_77 rfl rfl (Nat.le_of_ble_eq_true rfl) rfl rfl (Or.inl ⟨rfl, rfl⟩) dX8_put_49 rfl rfl ?_
          have er := Option.some.inj hf
          obtain ⟨e1, e2⟩ := Prod.mk.inj er
          subst e1
          subst e2
          exact V_iret hQ rfl dX8_put_52
      · rw [if_pos c8] at hf
        refine V_aload_n 0 24 rfl dX8_put_23 rfl rfl ?_
        refine V_ldc (-1000002) 26 dX8_put_24 rfl wd_kk_X8_113 ?_
        obtain ⟨p37, h36, hf⟩ := ob hf
        refine V_callV (rest := []) (T := TX8) (n := 27) (ci := 7) 0 0 29 [.int p37.1] (c_X8_finding l G (d + 1) _ _ _ _ _ h36) (by omega) ok_X8_finding okv_X8_finding (gd_X8_finding h36) rfl wd_ml_X8_77 rfl rfl (Nat.le_of_ble_eq_true rfl) rfl rfl (Or.inl ⟨rfl, rfl⟩) dX8_put_26 rfl rfl ?_
        have er := Option.some.inj hf
        obtain ⟨e1, e2⟩ := Prod.mk.inj er
        subst e1
        subst e2
        exact V_iret hQ rfl dX8_put_29
    · rw [if_pos c3] at hf
      refine V_aload_n 0 8 rfl dX8_put_7 rfl rfl ?_
      refine V_ldc (-1000001) 10 dX8_put_8 rfl wd_kk_X8_76 ?_
      obtain ⟨p39, h38, hf⟩ := ob hf
      refine V_callV (rest := []) (T := TX8) (n := 27) (ci := 7) 0 0 13 [.int p39.1] (c_X8_finding l G (d + 1) _ _ _ _ _ h38) (by omega) ok_X8_finding okv_X8_finding (gd_X8_finding h38) rfl wd_ml_X8_77 rfl rfl (Nat.le_of_ble_eq_true rfl) rfl rfl (Or.inl ⟨rfl, rfl⟩) dX8_put_10 rfl rfl ?_
      have er := Option.some.inj hf
      obtain ⟨e1, e2⟩ := Prod.mk.inj er
      subst e1
      subst e2
      exact V_iret hQ rfl dX8_put_13
  · rw [if_neg hg] at hf
    cases hf
abbrev mi_X8_move : MI := (yX8_move, cX8_move, 7, some .int)
theorem ok_X8_move : OkN mi_X8_move 5 := ⟨wd_cd_X8_move, wd_in_X8, ⟨by decide +kernel, by decide +kernel, by decide +kernel⟩, by decide⟩
theorem okv_X8_move : Cond.instanceMethod (mi_X8_move).1 ∈ tb ∧ Cond.selects (mi_X8_move).1.cls (mi_X8_move).1 (mi_X8_move).1 ∈ tb := ⟨wd_im_X8_move, wd_se_X8_move⟩
def f_X8_move_L127 (t : Nat) (x1 : Int32) (x2 : Int32) (x5 : Int32) : Nat → Int32 → St → Option (Int32 × St)
  | 0, _, _ => none
  | n + 1, x6, σ => if x5 ≤ x6 then (some (x6, σ)) else ((gQ σ 7 t 26).bind fun q53 => (gQ σ 7 t 25).bind fun q55 => (aI σ 0 q55 ((((24 : Int32) * x1) + x2) + x6)).bind fun v57 => (sI σ q53 x6 v57).bind fun s59 => f_X8_move_L127 t x1 x2 x5 n (x6 + 1) s59)
def f_X8_move_L164 (t : Nat) (x3 : Int32) (x4 : Int32) (x5 : Int32) : Nat → Int32 → St → Option (Int32 × St)
  | 0, _, _ => none
  | n + 1, x6, σ => if x5 ≤ x6 then (some (x6, σ)) else ((gQ σ 7 t 25).bind fun q64 => (gQ σ 7 t 26).bind fun q66 => (aI σ 0 q66 x6).bind fun v68 => (sI σ q64 ((((24 : Int32) * x3) + x4) + x6) v68).bind fun s70 => f_X8_move_L164 t x3 x4 x5 n (x6 + 1) s70)
def f_X8_move (σ : St) (t : Nat) (a0 : Int32) (a1 : Int32) (a2 : Int32) (a3 : Int32) (a4 : Int32) : Option (Int32 × St) := if isO σ 7 t = true then ((f_X8_isSheet σ a0).bind fun v2 => if v2 = 0 then ((f_X8_finding σ t (-1000001)).bind fun p5 => some (p5.1, p5.2)) else ((f_X8_isSheet σ a2).bind fun v7 => if v7 = 0 then ((f_X8_finding σ t (-1000001)).bind fun p80 => some (p80.1, p80.2)) else ((gQ σ 7 t 23).bind fun q10 => (aI σ 0 q10 a0).bind fun v12 => if v12 = 0 then ((f_X8_finding σ t (-1000002)).bind fun p15 => some (p15.1, p15.2)) else ((gQ σ 7 t 23).bind fun q17 => (aI σ 0 q17 a2).bind fun v19 => if v19 = 0 then ((f_X8_finding σ t (-1000002)).bind fun p78 => some (p78.1, p78.2)) else ((gQ σ 7 t 23).bind fun q22 => (aI σ 0 q22 a0).bind fun v24 => (gQ σ 7 t 23).bind fun q26 => (aI σ 0 q26 a2).bind fun v28 => if v24 = v28 then (if a4 < 0 then ((f_X8_finding σ t (-1000001)).bind fun p32 => some (p32.1, p32.2)) else (if a1 < 0 then ((f_X8_finding σ t (-1000001)).bind fun p35 => some (p35.1, p35.2)) else (if a3 < 0 then ((f_X8_finding σ t (-1000001)).bind fun p38 => some (p38.1, p38.2)) else ((gQ σ 7 t 24).bind fun q40 => (aI σ 0 q40 a0).bind fun v42 => if 0 < (lg_cmp (a1.toInt64 + a4.toInt64) v42.toInt64) then ((f_X8_finding σ t (-1000001)).bind fun p45 => some (p45.1, p45.2)) else ((gQ σ 7 t 24).bind fun q47 => (aI σ 0 q47 a2).bind fun v49 => if (lg_cmp (a3.toInt64 + a4.toInt64) v49.toInt64) ≤ 0 then ((f_X8_move_L127 t a0 a1 a4 3000 0 σ).bind fun p60 => (f_X8_move_L164 t a2 a3 a4 3000 0 p60.2).bind fun p71 => some (a4, p71.2)) else ((f_X8_finding σ t (-1000001)).bind fun p74 => some (p74.1, p74.2))))))) else ((f_X8_finding σ t (-1000005)).bind fun p76 => some (p76.1, p76.2))))))) else none
theorem gd_X8_move {σ : St} {t : Nat} {a0 : Int32} {a1 : Int32} {a2 : Int32} {a3 : Int32} {a4 : Int32} {r : Int32 × St} (h : f_X8_move σ t a0 a1 a2 a3 a4 = some r) : isO σ 7 t = true := by
  unfold f_X8_move at h
  by_cases hg : isO σ 7 t = true
  · exact hg
  · rw [if_neg hg] at h
    cases h
set_option maxRecDepth 100000 in
set_option maxHeartbeats 4000000 in
theorem c_X8_move (l : Launch) (G : Gd) (d : Nat) (σ : St) (t : Nat) (a0 : Int32) (a1 : Int32) (a2 : Int32) (a3 : Int32) (a4 : Int32) (r0 : Int32) (σ' : St) (hf : f_X8_move σ t a0 a1 a2 a3 a4 = some (r0, σ')) : MetV l G (d + 3) mi_X8_move [.ref t, .int a0, .int a1, .int a2, .int a3, .int a4] σ (some (.int r0)) σ' 0 0 := by
  unfold f_X8_move at hf
  refine MetV.of [(0, .ref t), (1, .int a0), (2, .int a1), (3, .int a2), (4, .int a3), (5, .int a4)] (by decide +kernel) rfl (Nat.le_of_ble_eq_true rfl) ?_
  intro X hQ
  have L127 : ∀ (x1 : Int32) (x2 : Int32) (x3 : Int32) (x4 : Int32) (x5 : Int32) (n : Nat) (x6 : Int32) (σ : St) (p : Int32 × St), f_X8_move_L127 t x1 x2 x5 n x6 σ = some p → V mi_X8_move l G (d + 3) 0 0 X 0 0 161 [(6, .int p.1), (0, .ref t), (1, .int x1), (2, .int x2), (3, .int x3), (4, .int x4), (5, .int x5)] [] p.2 → V mi_X8_move l G (d + 3) 0 0 X 0 0 127 [(6, .int x6), (0, .ref t), (1, .int x1), (2, .int x2), (3, .int x3), (4, .int x4), (5, .int x5)] [] σ := by
    intro x1 x2 x3 x4 x5 n
    induction n with
    | zero =>
      intro x6 σ p hf
      exact absurd (show (none : Option _) = some p from hf) (by simp)
    | succ n ih =>
      intro x6 σ p hf hk
      rw [f_X8_move_L127] at hf
      refine V_iload 0 129 rfl dX8_move_127 rfl ?_
      refine V_iload 6 131 rfl dX8_move_129 rfl ?_
      refine V_icmp_ge 161 134 dX8_move_131 (by decide) rfl (fun c51 => ?_) (fun c51 => ?_)
      · rw [if_pos c51] at hf
        have ep := Option.some.inj hf
        subst ep
        refine V_ls [(6, .int x6), (0, .ref t), (1, .int x1), (2, .int x2), (3, .int x3), (4, .int x4), (5, .int x5)] [0, 1, 2, 3, 4, 5, 6] rfl ?_
        exact hk
      · rw [if_neg c51] at hf
        refine V_aload_n 1 135 rfl dX8_move_134 rfl rfl ?_
        obtain ⟨q53, h52, hf⟩ := ob hf
        refine V_getQ (n := 27) (ty := tyX8) 138 h52 cf_7 rfl wd_fl_X8_64 dX8_move_135 rfl ?_
        refine V_iload 0 140 rfl dX8_move_138 rfl ?_
        refine V_aload_n 1 141 rfl dX8_move_140 rfl rfl ?_
        obtain ⟨q55, h54, hf⟩ := ob hf
        refine V_getQ (n := 27) (ty := tyX8) 144 h54 cf_7 rfl wd_fl_X8_61 dX8_move_141 rfl ?_
        refine V_bipush 24 146 dX8_move_144 rfl kbipush_24 ?_
        refine V_iload_n 2 147 rfl dX8_move_146 rfl rfl ?_
        refine V_imul 148 dX8_move_147 rfl ?_
        refine V_iload_n 3 149 rfl dX8_move_148 rfl rfl ?_
        refine V_iadd 150 dX8_move_149 rfl ?_
        refine V_iload 0 152 rfl dX8_move_150 rfl ?_
        refine V_iadd 153 dX8_move_152 rfl ?_
        obtain ⟨v57, h56, hf⟩ := ob hf
        refine V_iald 154 h56 dX8_move_153 rfl ?_
        obtain ⟨s59, h58, hf⟩ := ob hf
        refine V_iast 155 h58 dX8_move_154 rfl ?_
        refine V_iinc (x6 + 1) 0 [(6, .int (x6 + 1)), (0, .ref t), (1, .int x1), (2, .int x2), (3, .int x3), (4, .int x4), (5, .int x5)] 158 dX8_move_155 rfl (by rw [kiconst_1]) (by decide) rfl rfl ?_
        refine V_goto 127 dX8_move_158 (by decide) ?_
        refine V_ls [(6, .int (x6 + 1)), (0, .ref t), (1, .int x1), (2, .int x2), (3, .int x3), (4, .int x4), (5, .int x5)] [0, 1, 2, 3, 4, 5, 6] rfl ?_
        exact ih _ _ _ hf hk
  have L164 : ∀ (x3 : Int32) (x4 : Int32) (x5 : Int32) (n : Nat) (x6 : Int32) (σ : St) (p : Int32 × St), f_X8_move_L164 t x3 x4 x5 n x6 σ = some p → V mi_X8_move l G (d + 3) 0 0 X 0 0 199 [(6, .int p.1), (0, .ref t), (3, .int x3), (4, .int x4), (5, .int x5)] [] p.2 → V mi_X8_move l G (d + 3) 0 0 X 0 0 164 [(6, .int x6), (0, .ref t), (3, .int x3), (4, .int x4), (5, .int x5)] [] σ := by
    intro x3 x4 x5 n
    induction n with
    | zero =>
      intro x6 σ p hf
      exact absurd (show (none : Option _) = some p from hf) (by simp)
    | succ n ih =>
      intro x6 σ p hf hk
      rw [f_X8_move_L164] at hf
      refine V_iload 0 166 rfl dX8_move_164 rfl ?_
      refine V_iload 4 168 rfl dX8_move_166 rfl ?_
      refine V_icmp_ge 199 171 dX8_move_168 (by decide) rfl (fun c62 => ?_) (fun c62 => ?_)
      · rw [if_pos c62] at hf
        have ep := Option.some.inj hf
        subst ep
        refine V_ls [(6, .int x6), (0, .ref t), (3, .int x3), (4, .int x4), (5, .int x5)] [0, 1, 2, 3, 4] rfl ?_
        exact hk
      · rw [if_neg c62] at hf
        refine V_aload_n 1 172 rfl dX8_move_171 rfl rfl ?_
        obtain ⟨q64, h63, hf⟩ := ob hf
        refine V_getQ (n := 27) (ty := tyX8) 175 h63 cf_7 rfl wd_fl_X8_61 dX8_move_172 rfl ?_
        refine V_bipush 24 177 dX8_move_175 rfl kbipush_24 ?_
        refine V_iload_n 2 178 rfl dX8_move_177 rfl rfl ?_
        refine V_imul 179 dX8_move_178 rfl ?_
        refine V_iload 3 181 rfl dX8_move_179 rfl ?_
        refine V_iadd 182 dX8_move_181 rfl ?_
        refine V_iload 0 184 rfl dX8_move_182 rfl ?_
        refine V_iadd 185 dX8_move_184 rfl ?_
        refine V_aload_n 1 186 rfl dX8_move_185 rfl rfl ?_
        obtain ⟨q66, h65, hf⟩ := ob hf
        refine V_getQ (n := 27) (ty := tyX8) 189 h65 cf_7 rfl wd_fl_X8_64 dX8_move_186 rfl ?_
        refine V_iload 0 191 rfl dX8_move_189 rfl ?_
        obtain ⟨v68, h67, hf⟩ := ob hf
        refine V_iald 192 h67 dX8_move_191 rfl ?_
        obtain ⟨s70, h69, hf⟩ := ob hf
        refine V_iast 193 h69 dX8_move_192 rfl ?_
        refine V_iinc (x6 + 1) 0 [(6, .int (x6 + 1)), (0, .ref t), (3, .int x3), (4, .int x4), (5, .int x5)] 196 dX8_move_193 rfl (by rw [kiconst_1]) (by decide) rfl rfl ?_
        refine V_goto 164 dX8_move_196 (by decide) ?_
        refine V_ls [(6, .int (x6 + 1)), (0, .ref t), (3, .int x3), (4, .int x4), (5, .int x5)] [0, 1, 2, 3, 4] rfl ?_
        exact ih _ _ _ hf hk
  by_cases hg : isO σ 7 t = true
  · rw [if_pos hg] at hf
    refine V_iload_n 1 1 rfl dX8_move_0 rfl rfl ?_
    obtain ⟨v2, h1, hf⟩ := ob hf
    refine V_callS (rest := []) 0 0 4 [.int v2] (c_X8_isSheet l G (d + 0) _ _ _ h1) (by omega) ok_X8_isSheet oks_X8_isSheet wd_ml_X8_110 rfl rfl (Nat.le_of_ble_eq_true rfl) rfl rfl (Or.inl ⟨rfl, rfl⟩) dX8_move_1 rfl rfl ?_
    refine V_if_eq 14 7 dX8_move_4 (by decide) rfl (fun c3 => ?_) (fun c3 => ?_)
    · rw [if_pos c3] at hf
      refine V_aload_n 0 15 rfl dX8_move_14 rfl rfl ?_
      refine V_ldc (-1000001) 17 dX8_move_15 rfl wd_kk_X8_76 ?_
      obtain ⟨p5, h4, hf⟩ := ob hf
      refine V_callV (rest := []) (T := TX8) (n := 27) (ci := 7) 0 0 20 [.int p5.1] (c_X8_finding l G (d + 1) _ _ _ _ _ h4) (by omega) ok_X8_finding okv_X8_finding (gd_X8_finding h4) rfl wd_ml_X8_77 rfl rfl (Nat.le_of_ble_eq_true rfl) rfl rfl (Or.inl ⟨rfl, rfl⟩) dX8_move_17 rfl rfl ?_
      have er := Option.some.inj hf
      obtain ⟨e1, e2⟩ := Prod.mk.inj er
      subst e1
      subst e2
      exact V_iret hQ rfl dX8_move_20
    · rw [if_neg c3] at hf
      refine V_iload_n 3 8 rfl dX8_move_7 rfl rfl ?_
      obtain ⟨v7, h6, hf⟩ := ob hf
      refine V_callS (rest := []) 0 0 11 [.int v7] (c_X8_isSheet l G (d + 0) _ _ _ h6) (by omega) ok_X8_isSheet oks_X8_isSheet wd_ml_X8_110 rfl rfl (Nat.le_of_ble_eq_true rfl) rfl rfl (Or.inl ⟨rfl, rfl⟩) dX8_move_8 rfl rfl ?_
      refine V_if_ne 21 14 dX8_move_11 (by decide) rfl (fun c8 => ?_) (fun c8 => ?_)
      · rw [if_neg c8] at hf
        refine V_aload_n 0 22 rfl dX8_move_21 rfl rfl ?_
        obtain ⟨q10, h9, hf⟩ := ob hf
        refine V_getQ (n := 27) (ty := tyX8) 25 h9 cf_7 rfl wd_fl_X8_55 dX8_move_22 rfl ?_
        refine V_iload_n 1 26 rfl dX8_move_25 rfl rfl ?_
        obtain ⟨v12, h11, hf⟩ := ob hf
        refine V_iald 27 h11 dX8_move_26 rfl ?_
        refine V_if_eq 39 30 dX8_move_27 (by decide) rfl (fun c13 => ?_) (fun c13 => ?_)
        · rw [if_pos c13] at hf
          refine V_aload_n 0 40 rfl dX8_move_39 rfl rfl ?_
          refine V_ldc (-1000002) 42 dX8_move_40 rfl wd_kk_X8_113 ?_
          obtain ⟨p15, h14, hf⟩ := ob hf
          refine V_callV (rest := []) (T := TX8) (n := 27) (ci := 7) 0 0 45 [.int p15.1] (c_X8_finding l G (d + 1) _ _ _ _ _ h14) (by omega) ok_X8_finding okv_X8_finding (gd_X8_finding h14) rfl wd_ml_X8_77 rfl rfl (Nat.le_of_ble_eq_true rfl) rfl rfl (Or.inl ⟨rfl, rfl⟩) dX8_move_42 rfl rfl ?_
          have er := Option.some.inj hf
          obtain ⟨e1, e2⟩ := Prod.mk.inj er
          subst e1
          subst e2
          exact V_iret hQ rfl dX8_move_45
        · rw [if_neg c13] at hf
          refine V_aload_n 0 31 rfl dX8_move_30 rfl rfl ?_
          obtain ⟨q17, h16, hf⟩ := ob hf
          refine V_getQ (n := 27) (ty := tyX8) 34 h16 cf_7 rfl wd_fl_X8_55 dX8_move_31 rfl ?_
          refine V_iload_n 3 35 rfl dX8_move_34 rfl rfl ?_
          obtain ⟨v19, h18, hf⟩ := ob hf
          refine V_iald 36 h18 dX8_move_35 rfl ?_
          refine V_if_ne 46 39 dX8_move_36 (by decide) rfl (fun c20 => ?_) (fun c20 => ?_)
          · rw [if_neg c20] at hf
            refine V_aload_n 0 47 rfl dX8_move_46 rfl rfl ?_
            obtain ⟨q22, h21, hf⟩ := ob hf
            refine V_getQ (n := 27) (ty := tyX8) 50 h21 cf_7 rfl wd_fl_X8_55 dX8_move_47 rfl ?_
            refine V_iload_n 1 51 rfl dX8_move_50 rfl rfl ?_
            obtain ⟨v24, h23, hf⟩ := ob hf
            refine V_iald 52 h23 dX8_move_51 rfl ?_
            refine V_aload_n 0 53 rfl dX8_move_52 rfl rfl ?_
            obtain ⟨q26, h25, hf⟩ := ob hf
            refine V_getQ (n := 27) (ty := tyX8) 56 h25 cf_7 rfl wd_fl_X8_55 dX8_move_53 rfl ?_
            refine V_iload_n 3 57 rfl dX8_move_56 rfl rfl ?_
            obtain ⟨v28, h27, hf⟩ := ob hf
            refine V_iald 58 h27 dX8_move_57 rfl ?_
            refine V_icmp_eq 68 61 dX8_move_58 (by decide) rfl (fun c29 => ?_) (fun c29 => ?_)
            · rw [if_pos c29] at hf
              refine V_iload 5 70 rfl dX8_move_68 rfl ?_
              refine V_if_lt 117 73 dX8_move_70 (by decide) rfl (fun c30 => ?_) (fun c30 => ?_)
              · rw [if_pos c30] at hf
                refine V_aload_n 0 118 rfl dX8_move_117 rfl rfl ?_
                refine V_ldc (-1000001) 120 dX8_move_118 rfl wd_kk_X8_76 ?_
                obtain ⟨p32, h31, hf⟩ := ob hf
                refine V_callV (rest := []) (T := TX8) (n := 27) (ci := 7) 0 0 123 [.int p32.1] (c_X8_finding l G (d + 1) _ _ _ _ _ h31) (by omega) ok_X8_finding okv_X8_finding (gd_X8_finding h31) rfl wd_ml_X8_77 rfl rfl (Nat.le_of_ble_eq_true rfl) rfl rfl (Or.inl ⟨rfl, rfl⟩) dX8_move_120 rfl rfl ?_
                have er := Option.some.inj hf
                obtain ⟨e1, e2⟩ := Prod.mk.inj er
                subst e1
                subst e2
                exact V_iret hQ rfl dX8_move_123
              · rw [if_neg c30] at hf
                refine V_iload_n 2 74 rfl dX8_move_73 rfl rfl ?_
                refine V_if_lt 117 77 dX8_move_74 (by decide) rfl (fun c33 => ?_) (fun c33 => ?_)
                · rw [if_pos c33] at hf
                  refine V_aload_n 0 118 rfl dX8_move_117 rfl rfl ?_
                  refine V_ldc (-1000001) 120 dX8_move_118 rfl wd_kk_X8_76 ?_
                  obtain ⟨p35, h34, hf⟩ := ob hf
                  refine V_callV (rest := []) (T := TX8) (n := 27) (ci := 7) 0 0 123 [.int p35.1] (c_X8_finding l G (d + 1) _ _ _ _ _ h34) (by omega) ok_X8_finding okv_X8_finding (gd_X8_finding h34) rfl wd_ml_X8_77 rfl rfl (Nat.le_of_ble_eq_true rfl) rfl rfl (Or.inl ⟨rfl, rfl⟩) dX8_move_120 rfl rfl ?_
                  have er := Option.some.inj hf
                  obtain ⟨e1, e2⟩ := Prod.mk.inj er
                  subst e1
                  subst e2
                  exact V_iret hQ rfl dX8_move_123
                · rw [if_neg c33] at hf
                  refine V_iload 4 79 rfl dX8_move_77 rfl ?_
                  refine V_if_lt 117 82 dX8_move_79 (by decide) rfl (fun c36 => ?_) (fun c36 => ?_)
                  · rw [if_pos c36] at hf
                    refine V_aload_n 0 118 rfl dX8_move_117 rfl rfl ?_
                    refine V_ldc (-1000001) 120 dX8_move_118 rfl wd_kk_X8_76 ?_
                    obtain ⟨p38, h37, hf⟩ := ob hf
                    refine V_callV (rest := []) (T := TX8) (n := 27) (ci := 7) 0 0 123 [.int p38.1] (c_X8_finding l G (d + 1) _ _ _ _ _ h37) (by omega) ok_X8_finding okv_X8_finding (gd_X8_finding h37) rfl wd_ml_X8_77 rfl rfl (Nat.le_of_ble_eq_true rfl) rfl rfl (Or.inl ⟨rfl, rfl⟩) dX8_move_120 rfl rfl ?_
                    have er := Option.some.inj hf
                    obtain ⟨e1, e2⟩ := Prod.mk.inj er
                    subst e1
                    subst e2
                    exact V_iret hQ rfl dX8_move_123
                  · rw [if_neg c36] at hf
                    refine V_iload_n 2 83 rfl dX8_move_82 rfl rfl ?_
                    refine V_i2l 84 dX8_move_83 rfl ?_
                    refine V_iload 5 86 rfl dX8_move_84 rfl ?_
                    refine V_i2l 87 dX8_move_86 rfl ?_
                    refine V_ladd 88 dX8_move_87 rfl ?_
                    refine V_aload_n 0 89 rfl dX8_move_88 rfl rfl ?_
                    obtain ⟨q40, h39, hf⟩ := ob hf
                    refine V_getQ (n := 27) (ty := tyX8) 92 h39 cf_7 rfl wd_fl_X8_58 dX8_move_89 rfl ?_
                    refine V_iload_n 1 93 rfl dX8_move_92 rfl rfl ?_
                    obtain ⟨v42, h41, hf⟩ := ob hf
                    refine V_iald 94 h41 dX8_move_93 rfl ?_
                    refine V_i2l 95 dX8_move_94 rfl ?_
                    refine V_lcmp 96 dX8_move_95 rfl ?_
                    refine V_if_gt 117 99 dX8_move_96 (by decide) rfl (fun c43 => ?_) (fun c43 => ?_)
                    · rw [if_pos c43] at hf
                      refine V_aload_n 0 118 rfl dX8_move_117 rfl rfl ?_
                      refine V_ldc (-1000001) 120 dX8_move_118 rfl wd_kk_X8_76 ?_
                      obtain ⟨p45, h44, hf⟩ := ob hf
                      refine V_callV (rest := []) (T := TX8) (n := 27) (ci := 7) 0 0 123 [.int p45.1] (c_X8_finding l G (d + 1) _ _ _ _ _ h44) (by omega) ok_X8_finding okv_X8_finding (gd_X8_finding h44) rfl wd_ml_X8_77 rfl rfl (Nat.le_of_ble_eq_true rfl) rfl rfl (Or.inl ⟨rfl, rfl⟩) dX8_move_120 rfl rfl ?_
                      have er := Option.some.inj hf
                      obtain ⟨e1, e2⟩ := Prod.mk.inj er
                      subst e1
                      subst e2
                      exact V_iret hQ rfl dX8_move_123
                    · rw [if_neg c43] at hf
                      refine V_iload 4 101 rfl dX8_move_99 rfl ?_
                      refine V_i2l 102 dX8_move_101 rfl ?_
                      refine V_iload 5 104 rfl dX8_move_102 rfl ?_
                      refine V_i2l 105 dX8_move_104 rfl ?_
                      refine V_ladd 106 dX8_move_105 rfl ?_
                      refine V_aload_n 0 107 rfl dX8_move_106 rfl rfl ?_
                      obtain ⟨q47, h46, hf⟩ := ob hf
                      refine V_getQ (n := 27) (ty := tyX8) 110 h46 cf_7 rfl wd_fl_X8_58 dX8_move_107 rfl ?_
                      refine V_iload_n 3 111 rfl dX8_move_110 rfl rfl ?_
                      obtain ⟨v49, h48, hf⟩ := ob hf
                      refine V_iald 112 h48 dX8_move_111 rfl ?_
                      refine V_i2l 113 dX8_move_112 rfl ?_
                      refine V_lcmp 114 dX8_move_113 rfl ?_
                      refine V_if_le 124 117 dX8_move_114 (by decide) rfl (fun c50 => ?_) (fun c50 => ?_)
                      · rw [if_pos c50] at hf
                        refine V_iconst 0 125 dX8_move_124 rfl kiconst_0 ?_
                        refine V_istore [(6, .int 0), (0, .ref t), (1, .int a0), (2, .int a1), (3, .int a2), (4, .int a3), (5, .int a4)] 127 dX8_move_125 (by decide) rfl rfl ?_
                        obtain ⟨p60, h61, hf⟩ := ob hf
                        refine V_ls [(6, .int 0), (0, .ref t), (1, .int a0), (2, .int a1), (3, .int a2), (4, .int a3), (5, .int a4)] [0, 1, 2, 3, 4, 5, 6] rfl ?_
                        refine L127 a0 a1 a2 a3 a4 3000 0 σ p60 h61 ?_
                        refine V_iconst 0 162 dX8_move_161 rfl kiconst_0 ?_
                        refine V_istore [(6, .int 0), (0, .ref t), (1, .int a0), (2, .int a1), (3, .int a2), (4, .int a3), (5, .int a4)] 164 dX8_move_162 (by decide) rfl rfl ?_
                        obtain ⟨p71, h72, hf⟩ := ob hf
                        refine V_ls [(6, .int 0), (0, .ref t), (3, .int a2), (4, .int a3), (5, .int a4)] [0, 1, 4, 5, 6] rfl ?_
                        refine L164 a2 a3 a4 3000 0 p60.2 p71 h72 ?_
                        refine V_iload 4 201 rfl dX8_move_199 rfl ?_
                        have er := Option.some.inj hf
                        obtain ⟨e1, e2⟩ := Prod.mk.inj er
                        subst e1
                        subst e2
                        exact V_iret hQ rfl dX8_move_201
                      · rw [if_neg c50] at hf
                        refine V_aload_n 0 118 rfl dX8_move_117 rfl rfl ?_
                        refine V_ldc (-1000001) 120 dX8_move_118 rfl wd_kk_X8_76 ?_
                        obtain ⟨p74, h73, hf⟩ := ob hf
                        refine V_callV (rest := []) (T := TX8) (n := 27) (ci := 7) 0 0 123 [.int p74.1] (c_X8_finding l G (d + 1) _ _ _ _ _ h73) (by omega) ok_X8_finding okv_X8_finding (gd_X8_finding h73) rfl wd_ml_X8_77 rfl rfl (Nat.le_of_ble_eq_true rfl) rfl rfl (Or.inl ⟨rfl, rfl⟩) dX8_move_120 rfl rfl ?_
                        have er := Option.some.inj hf
                        obtain ⟨e1, e2⟩ := Prod.mk.inj er
                        subst e1
                        subst e2
                        exact V_iret hQ rfl dX8_move_123
            · rw [if_neg c29] at hf
              refine V_aload_n 0 62 rfl dX8_move_61 rfl rfl ?_
              refine V_ldc (-1000005) 64 dX8_move_62 rfl wd_kk_X8_146 ?_
              obtain ⟨p76, h75, hf⟩ := ob hf
              refine V_callV (rest := []) (T := TX8) (n := 27) (ci := 7) 0 0 67 [.int p76.1] (c_X8_finding l G (d + 1) _ _ _ _ _ h75) (by omega) ok_X8_finding okv_X8_finding (gd_X8_finding h75) rfl wd_ml_X8_77 rfl rfl (Nat.le_of_ble_eq_true rfl) rfl rfl (Or.inl ⟨rfl, rfl⟩) dX8_move_64 rfl rfl ?_
              have er := Option.some.inj hf
              obtain ⟨e1, e2⟩ := Prod.mk.inj er
              subst e1
              subst e2
              exact V_iret hQ rfl dX8_move_67
          · rw [if_pos c20] at hf
            refine V_aload_n 0 40 rfl dX8_move_39 rfl rfl ?_
            refine V_ldc (-1000002) 42 dX8_move_40 rfl wd_kk_X8_113 ?_
            obtain ⟨p78, h77, hf⟩ := ob hf
            refine V_callV (rest := []) (T := TX8) (n := 27) (ci := 7) 0 0 45 [.int p78.1] (c_X8_finding l G (d + 1) _ _ _ _ _ h77) (by omega) ok_X8_finding okv_X8_finding (gd_X8_finding h77) rfl wd_ml_X8_77 rfl rfl (Nat.le_of_ble_eq_true rfl) rfl rfl (Or.inl ⟨rfl, rfl⟩) dX8_move_42 rfl rfl ?_
            have er := Option.some.inj hf
            obtain ⟨e1, e2⟩ := Prod.mk.inj er
            subst e1
            subst e2
            exact V_iret hQ rfl dX8_move_45
      · rw [if_pos c8] at hf
        refine V_aload_n 0 15 rfl dX8_move_14 rfl rfl ?_
        refine V_ldc (-1000001) 17 dX8_move_15 rfl wd_kk_X8_76 ?_
        obtain ⟨p80, h79, hf⟩ := ob hf
        refine V_callV (rest := []) (T := TX8) (n := 27) (ci := 7) 0 0 20 [.int p80.1] (c_X8_finding l G (d + 1) _ _ _ _ _ h79) (by omega) ok_X8_finding okv_X8_finding (gd_X8_finding h79) rfl wd_ml_X8_77 rfl rfl (Nat.le_of_ble_eq_true rfl) rfl rfl (Or.inl ⟨rfl, rfl⟩) dX8_move_17 rfl rfl ?_
        have er := Option.some.inj hf
        obtain ⟨e1, e2⟩ := Prod.mk.inj er
        subst e1
        subst e2
        exact V_iret hQ rfl dX8_move_20
  · rw [if_neg hg] at hf
    cases hf
abbrev mi_X8_copy : MI := (yX8_copy, cX8_copy, 3, none)
theorem ok_X8_copy : OkN mi_X8_copy 2 := ⟨wd_cd_X8_copy, wd_in_X8, ⟨by decide +kernel, by decide +kernel, by decide +kernel⟩, by decide⟩
theorem oks_X8_copy : Cond.static (mi_X8_copy).1 ∈ tb := wd_sm_X8_copy
def f_X8_copy_L2 (x0 : Nat) (x1 : Nat) : Nat → Int32 → St → Option (Int32 × St)
  | 0, _, _ => none
  | n + 1, x2, σ => if 1234 ≤ x2 then (some (x2, σ)) else ((aI σ 0 x0 x2).bind fun v3 => (sI σ x1 x2 v3).bind fun s5 => f_X8_copy_L2 x0 x1 n (x2 + 1) s5)
def f_X8_copy (σ : St) (a0 : Nat) (a1 : Nat) : Option St := (f_X8_copy_L2 a0 a1 3000 0 σ).bind fun p6 => some p6.2
set_option maxRecDepth 100000 in
set_option maxHeartbeats 4000000 in
theorem c_X8_copy (l : Launch) (G : Gd) (d : Nat) (σ : St) (a0 : Nat) (a1 : Nat) (σ' : St) (hf : f_X8_copy σ a0 a1 = some σ') : MetV l G (d + 1) mi_X8_copy [.ref a0, .ref a1] σ none σ' 0 0 := by
  unfold f_X8_copy at hf
  refine MetV.of [(0, .ref a0), (1, .ref a1)] (by decide +kernel) rfl (Nat.le_of_ble_eq_true rfl) ?_
  intro X hQ
  have L2 : ∀ (x0 : Nat) (x1 : Nat) (n : Nat) (x2 : Int32) (σ : St) (p : Int32 × St), f_X8_copy_L2 x0 x1 n x2 σ = some p → V mi_X8_copy l G (d + 1) 0 0 X 0 0 21 [(2, .int p.1), (0, .ref x0), (1, .ref x1)] [] p.2 → V mi_X8_copy l G (d + 1) 0 0 X 0 0 2 [(2, .int x2), (0, .ref x0), (1, .ref x1)] [] σ := by
    intro x0 x1 n
    induction n with
    | zero =>
      intro x2 σ p hf
      exact absurd (show (none : Option _) = some p from hf) (by simp)
    | succ n ih =>
      intro x2 σ p hf hk
      rw [f_X8_copy_L2] at hf
      refine V_iload_n 0 3 rfl dX8_copy_2 rfl rfl ?_
      refine V_sipush 1234 6 dX8_copy_3 rfl ksipush_1234 ?_
      refine V_icmp_ge 21 9 dX8_copy_6 (by decide) rfl (fun c1 => ?_) (fun c1 => ?_)
      · rw [if_pos c1] at hf
        have ep := Option.some.inj hf
        subst ep
        refine V_ls [(2, .int x2), (0, .ref x0), (1, .ref x1)] [0, 1, 2] rfl ?_
        exact hk
      · rw [if_neg c1] at hf
        refine V_aload_n 2 10 rfl dX8_copy_9 rfl rfl ?_
        refine V_iload_n 0 11 rfl dX8_copy_10 rfl rfl ?_
        refine V_aload_n 1 12 rfl dX8_copy_11 rfl rfl ?_
        refine V_iload_n 0 13 rfl dX8_copy_12 rfl rfl ?_
        obtain ⟨v3, h2, hf⟩ := ob hf
        refine V_iald 14 h2 dX8_copy_13 rfl ?_
        obtain ⟨s5, h4, hf⟩ := ob hf
        refine V_iast 15 h4 dX8_copy_14 rfl ?_
        refine V_iinc (x2 + 1) 0 [(2, .int (x2 + 1)), (0, .ref x0), (1, .ref x1)] 18 dX8_copy_15 rfl (by rw [kiconst_1]) (by decide) rfl rfl ?_
        refine V_goto 2 dX8_copy_18 (by decide) ?_
        refine V_ls [(2, .int (x2 + 1)), (0, .ref x0), (1, .ref x1)] [0, 1, 2] rfl ?_
        exact ih _ _ _ hf hk
  refine V_iconst 0 1 dX8_copy_0 rfl kiconst_0 ?_
  refine V_istore_n [(2, .int 0), (0, .ref a0), (1, .ref a1)] 2 dX8_copy_1 rfl (by decide) rfl rfl ?_
  obtain ⟨p6, h7, hf⟩ := ob hf
  refine V_ls [(2, .int 0), (0, .ref a0), (1, .ref a1)] [0, 1, 2] rfl ?_
  refine L2 a0 a1 3000 0 σ p6 h7 ?_
  have er := Option.some.inj hf
  subst er
  exact V_vret hQ rfl dX8_copy_21
abbrev mi_X8_image : MI := (yX8_image, cX8_image, 1, some .int)
theorem ok_X8_image : OkN mi_X8_image 0 := ⟨wd_cd_X8_image, wd_in_X8, ⟨by decide +kernel, by decide +kernel, by decide +kernel⟩, by decide⟩
theorem okv_X8_image : Cond.instanceMethod (mi_X8_image).1 ∈ tb ∧ Cond.selects (mi_X8_image).1.cls (mi_X8_image).1 (mi_X8_image).1 ∈ tb := ⟨wd_im_X8_image, wd_se_X8_image⟩
def f_X8_image (σ : St) (t : Nat) : Option (Int32 × St) := if isO σ 7 t = true then ((gQ σ 7 t 0).bind fun q2 => (gQ σ 7 t 1).bind fun q5 => (f_X8_copy σ q2 q5).bind fun s7 => (gI s7 7 t 2).bind fun v9 => (pI s7 7 t 2 (v9 + 1)).bind fun s11 => (gI s11 7 t 2).bind fun v13 => some (v13, s11)) else none
theorem gd_X8_image {σ : St} {t : Nat} {r : Int32 × St} (h : f_X8_image σ t = some r) : isO σ 7 t = true := by
  unfold f_X8_image at h
  by_cases hg : isO σ 7 t = true
  · exact hg
  · rw [if_neg hg] at h
    cases h
set_option maxRecDepth 100000 in
set_option maxHeartbeats 4000000 in
theorem c_X8_image (l : Launch) (G : Gd) (d : Nat) (σ : St) (t : Nat) (r0 : Int32) (σ' : St) (hf : f_X8_image σ t = some (r0, σ')) : MetV l G (d + 2) mi_X8_image [.ref t] σ (some (.int r0)) σ' 0 0 := by
  unfold f_X8_image at hf
  refine MetV.of [(0, .ref t)] (by decide +kernel) rfl (Nat.le_of_ble_eq_true rfl) ?_
  intro X hQ
  by_cases hg : isO σ 7 t = true
  · rw [if_pos hg] at hf
    refine V_aload_n 0 1 rfl dX8_image_0 rfl rfl ?_
    obtain ⟨q2, h1, hf⟩ := ob hf
    refine V_getQ (n := 27) (ty := tyX8) 4 h1 cf_7 rfl wd_fl_X8_9 dX8_image_1 rfl ?_
    refine V_aload_n 0 5 rfl dX8_image_4 rfl rfl ?_
    obtain ⟨q5, h3, hf⟩ := ob hf
    refine V_getQ (n := 27) (ty := tyX8) 8 h3 cf_7 rfl wd_fl_X8_13 dX8_image_5 rfl ?_
    obtain ⟨s7, h6, hf⟩ := ob hf
    refine V_callS (rest := []) 0 0 11 [] (c_X8_copy l G (d + 0) _ _ _ _ h6) (by omega) ok_X8_copy oks_X8_copy wd_ml_X8_313 rfl rfl (Nat.le_of_ble_eq_true rfl) rfl rfl (Or.inl ⟨rfl, rfl⟩) dX8_image_8 rfl rfl ?_
    refine V_aload_n 0 12 rfl dX8_image_11 rfl rfl ?_
    refine V_dup 13 dX8_image_12 rfl rfl ?_
    obtain ⟨v9, h8, hf⟩ := ob hf
    refine V_getI (n := 27) (ty := tyX8) 16 h8 cf_7 rfl wd_fl_X8_317 dX8_image_13 rfl ?_
    refine V_iconst 1 17 dX8_image_16 rfl kiconst_1 ?_
    refine V_iadd 18 dX8_image_17 rfl ?_
    obtain ⟨s11, h10, hf⟩ := ob hf
    refine V_putI (n := 27) (T := TX8) (ty := tyX8) (f := 2) 21 h10 cf_7 rfl rfl (Or.inl rfl) wd_fl_X8_317 dX8_image_18 rfl ?_
    refine V_aload_n 0 22 rfl dX8_image_21 rfl rfl ?_
    obtain ⟨v13, h12, hf⟩ := ob hf
    refine V_getI (n := 27) (ty := tyX8) 25 h12 cf_7 rfl wd_fl_X8_317 dX8_image_22 rfl ?_
    have er := Option.some.inj hf
    obtain ⟨e1, e2⟩ := Prod.mk.inj er
    subst e1
    subst e2
    exact V_iret hQ rfl dX8_image_25
  · rw [if_neg hg] at hf
    cases hf
abbrev mi_X8_restore : MI := (yX8_restore, cX8_restore, 1, some .int)
theorem ok_X8_restore : OkN mi_X8_restore 0 := ⟨wd_cd_X8_restore, wd_in_X8, ⟨by decide +kernel, by decide +kernel, by decide +kernel⟩, by decide⟩
theorem okv_X8_restore : Cond.instanceMethod (mi_X8_restore).1 ∈ tb ∧ Cond.selects (mi_X8_restore).1.cls (mi_X8_restore).1 (mi_X8_restore).1 ∈ tb := ⟨wd_im_X8_restore, wd_se_X8_restore⟩
def f_X8_restore (σ : St) (t : Nat) : Option (Int32 × St) := if isO σ 7 t = true then ((gI σ 7 t 2).bind fun v2 => if v2 = 0 then ((f_X8_finding σ t (-1000002)).bind fun p16 => some (p16.1, p16.2)) else ((gQ σ 7 t 1).bind fun q6 => (gQ σ 7 t 0).bind fun q8 => (f_X8_copy σ q6 q8).bind fun s10 => (gQ s10 7 t 0).bind fun q12 => (aI s10 0 q12 1).bind fun v14 => some (v14, s10))) else none
theorem gd_X8_restore {σ : St} {t : Nat} {r : Int32 × St} (h : f_X8_restore σ t = some r) : isO σ 7 t = true := by
  unfold f_X8_restore at h
  by_cases hg : isO σ 7 t = true
  · exact hg
  · rw [if_neg hg] at h
    cases h
set_option maxRecDepth 100000 in
set_option maxHeartbeats 4000000 in
theorem c_X8_restore (l : Launch) (G : Gd) (d : Nat) (σ : St) (t : Nat) (r0 : Int32) (σ' : St) (hf : f_X8_restore σ t = some (r0, σ')) : MetV l G (d + 2) mi_X8_restore [.ref t] σ (some (.int r0)) σ' 0 0 := by
  unfold f_X8_restore at hf
  refine MetV.of [(0, .ref t)] (by decide +kernel) rfl (Nat.le_of_ble_eq_true rfl) ?_
  intro X hQ
  by_cases hg : isO σ 7 t = true
  · rw [if_pos hg] at hf
    refine V_aload_n 0 1 rfl dX8_restore_0 rfl rfl ?_
    obtain ⟨v2, h1, hf⟩ := ob hf
    refine V_getI (n := 27) (ty := tyX8) 4 h1 cf_7 rfl wd_fl_X8_317 dX8_restore_1 rfl ?_
    refine V_if_ne 14 7 dX8_restore_4 (by decide) rfl (fun c3 => ?_) (fun c3 => ?_)
    · rw [if_neg c3] at hf
      refine V_aload_n 0 15 rfl dX8_restore_14 rfl rfl ?_
      obtain ⟨q6, h4, hf⟩ := ob hf
      refine V_getQ (n := 27) (ty := tyX8) 18 h4 cf_7 rfl wd_fl_X8_13 dX8_restore_15 rfl ?_
      refine V_aload_n 0 19 rfl dX8_restore_18 rfl rfl ?_
      obtain ⟨q8, h7, hf⟩ := ob hf
      refine V_getQ (n := 27) (ty := tyX8) 22 h7 cf_7 rfl wd_fl_X8_9 dX8_restore_19 rfl ?_
      obtain ⟨s10, h9, hf⟩ := ob hf
      refine V_callS (rest := []) 0 0 25 [] (c_X8_copy l G (d + 0) _ _ _ _ h9) (by omega) ok_X8_copy oks_X8_copy wd_ml_X8_313 rfl rfl (Nat.le_of_ble_eq_true rfl) rfl rfl (Or.inl ⟨rfl, rfl⟩) dX8_restore_22 rfl rfl ?_
      refine V_aload_n 0 26 rfl dX8_restore_25 rfl rfl ?_
      obtain ⟨q12, h11, hf⟩ := ob hf
      refine V_getQ (n := 27) (ty := tyX8) 29 h11 cf_7 rfl wd_fl_X8_9 dX8_restore_26 rfl ?_
      refine V_iconst 1 30 dX8_restore_29 rfl kiconst_1 ?_
      obtain ⟨v14, h13, hf⟩ := ob hf
      refine V_iald 31 h13 dX8_restore_30 rfl ?_
      have er := Option.some.inj hf
      obtain ⟨e1, e2⟩ := Prod.mk.inj er
      subst e1
      subst e2
      exact V_iret hQ rfl dX8_restore_31
    · rw [if_pos c3] at hf
      refine V_aload_n 0 8 rfl dX8_restore_7 rfl rfl ?_
      refine V_ldc (-1000002) 10 dX8_restore_8 rfl wd_kk_X8_113 ?_
      obtain ⟨p16, h15, hf⟩ := ob hf
      refine V_callV (rest := []) (T := TX8) (n := 27) (ci := 7) 0 0 13 [.int p16.1] (c_X8_finding l G (d + 0) _ _ _ _ _ h15) (by omega) ok_X8_finding okv_X8_finding (gd_X8_finding h15) rfl wd_ml_X8_77 rfl rfl (Nat.le_of_ble_eq_true rfl) rfl rfl (Or.inl ⟨rfl, rfl⟩) dX8_restore_10 rfl rfl ?_
      have er := Option.some.inj hf
      obtain ⟨e1, e2⟩ := Prod.mk.inj er
      subst e1
      subst e2
      exact V_iret hQ rfl dX8_restore_13
  · rw [if_neg hg] at hf
    cases hf
abbrev mi_X8_tell : MI := (yX8_tell, cX8_tell, 2, some .int)
theorem ok_X8_tell : OkN mi_X8_tell 1 := ⟨wd_cd_X8_tell, wd_in_X8, ⟨by decide +kernel, by decide +kernel, by decide +kernel⟩, by decide⟩
theorem okv_X8_tell : Cond.instanceMethod (mi_X8_tell).1 ∈ tb ∧ Cond.selects (mi_X8_tell).1.cls (mi_X8_tell).1 (mi_X8_tell).1 ∈ tb := ⟨wd_im_X8_tell, wd_se_X8_tell⟩
def f_X8_tell (σ : St) (t : Nat) (a0 : Int32) : Option (Int32 × St) := if isO σ 7 t = true then ((gQ σ 7 t 0).bind fun q2 => (aI σ 0 q2 6).bind fun v4 => if v4 = 24 then ((f_X8_finding σ t (-1000004)).bind fun p25 => some (p25.1, p25.2)) else ((gQ σ 7 t 0).bind fun q7 => (gQ σ 7 t 0).bind fun q9 => (aI σ 0 q9 6).bind fun v11 => (sI σ q7 ((1030 : Int32) + v11) a0).bind fun s13 => (gQ s13 7 t 0).bind fun q15 => (aI s13 0 q15 6).bind fun v17 => (sI s13 q15 6 (v17 + 1)).bind fun s19 => (gQ s19 7 t 0).bind fun q21 => (aI s19 0 q21 6).bind fun v23 => some (v23, s19))) else none
theorem gd_X8_tell {σ : St} {t : Nat} {a0 : Int32} {r : Int32 × St} (h : f_X8_tell σ t a0 = some r) : isO σ 7 t = true := by
  unfold f_X8_tell at h
  by_cases hg : isO σ 7 t = true
  · exact hg
  · rw [if_neg hg] at h
    cases h
set_option maxRecDepth 100000 in
set_option maxHeartbeats 4000000 in
theorem c_X8_tell (l : Launch) (G : Gd) (d : Nat) (σ : St) (t : Nat) (a0 : Int32) (r0 : Int32) (σ' : St) (hf : f_X8_tell σ t a0 = some (r0, σ')) : MetV l G (d + 2) mi_X8_tell [.ref t, .int a0] σ (some (.int r0)) σ' 0 0 := by
  unfold f_X8_tell at hf
  refine MetV.of [(0, .ref t), (1, .int a0)] (by decide +kernel) rfl (Nat.le_of_ble_eq_true rfl) ?_
  intro X hQ
  by_cases hg : isO σ 7 t = true
  · rw [if_pos hg] at hf
    refine V_aload_n 0 1 rfl dX8_tell_0 rfl rfl ?_
    obtain ⟨q2, h1, hf⟩ := ob hf
    refine V_getQ (n := 27) (ty := tyX8) 4 h1 cf_7 rfl wd_fl_X8_9 dX8_tell_1 rfl ?_
    refine V_bipush 6 6 dX8_tell_4 rfl kbipush_6 ?_
    obtain ⟨v4, h3, hf⟩ := ob hf
    refine V_iald 7 h3 dX8_tell_6 rfl ?_
    refine V_bipush 24 9 dX8_tell_7 rfl kbipush_24 ?_
    refine V_icmp_ne 19 12 dX8_tell_9 (by decide) rfl (fun c5 => ?_) (fun c5 => ?_)
    · rw [if_neg c5] at hf
      refine V_aload_n 0 20 rfl dX8_tell_19 rfl rfl ?_
      obtain ⟨q7, h6, hf⟩ := ob hf
      refine V_getQ (n := 27) (ty := tyX8) 23 h6 cf_7 rfl wd_fl_X8_9 dX8_tell_20 rfl ?_
      refine V_sipush 1030 26 dX8_tell_23 rfl ksipush_1030 ?_
      refine V_aload_n 0 27 rfl dX8_tell_26 rfl rfl ?_
      obtain ⟨q9, h8, hf⟩ := ob hf
      refine V_getQ (n := 27) (ty := tyX8) 30 h8 cf_7 rfl wd_fl_X8_9 dX8_tell_27 rfl ?_
      refine V_bipush 6 32 dX8_tell_30 rfl kbipush_6 ?_
      obtain ⟨v11, h10, hf⟩ := ob hf
      refine V_iald 33 h10 dX8_tell_32 rfl ?_
      refine V_iadd 34 dX8_tell_33 rfl ?_
      refine V_iload_n 1 35 rfl dX8_tell_34 rfl rfl ?_
      obtain ⟨s13, h12, hf⟩ := ob hf
      refine V_iast 36 h12 dX8_tell_35 rfl ?_
      refine V_aload_n 0 37 rfl dX8_tell_36 rfl rfl ?_
      obtain ⟨q15, h14, hf⟩ := ob hf
      refine V_getQ (n := 27) (ty := tyX8) 40 h14 cf_7 rfl wd_fl_X8_9 dX8_tell_37 rfl ?_
      refine V_bipush 6 42 dX8_tell_40 rfl kbipush_6 ?_
      refine V_dup2 43 dX8_tell_42 rfl rfl rfl ?_
      obtain ⟨v17, h16, hf⟩ := ob hf
      refine V_iald 44 h16 dX8_tell_43 rfl ?_
      refine V_iconst 1 45 dX8_tell_44 rfl kiconst_1 ?_
      refine V_iadd 46 dX8_tell_45 rfl ?_
      obtain ⟨s19, h18, hf⟩ := ob hf
      refine V_iast 47 h18 dX8_tell_46 rfl ?_
      refine V_aload_n 0 48 rfl dX8_tell_47 rfl rfl ?_
      obtain ⟨q21, h20, hf⟩ := ob hf
      refine V_getQ (n := 27) (ty := tyX8) 51 h20 cf_7 rfl wd_fl_X8_9 dX8_tell_48 rfl ?_
      refine V_bipush 6 53 dX8_tell_51 rfl kbipush_6 ?_
      obtain ⟨v23, h22, hf⟩ := ob hf
      refine V_iald 54 h22 dX8_tell_53 rfl ?_
      have er := Option.some.inj hf
      obtain ⟨e1, e2⟩ := Prod.mk.inj er
      subst e1
      subst e2
      exact V_iret hQ rfl dX8_tell_54
    · rw [if_pos c5] at hf
      refine V_aload_n 0 13 rfl dX8_tell_12 rfl rfl ?_
      refine V_ldc (-1000004) 15 dX8_tell_13 rfl wd_kk_X8_82 ?_
      obtain ⟨p25, h24, hf⟩ := ob hf
      refine V_callV (rest := []) (T := TX8) (n := 27) (ci := 7) 0 0 18 [.int p25.1] (c_X8_finding l G (d + 0) _ _ _ _ _ h24) (by omega) ok_X8_finding okv_X8_finding (gd_X8_finding h24) rfl wd_ml_X8_77 rfl rfl (Nat.le_of_ble_eq_true rfl) rfl rfl (Or.inl ⟨rfl, rfl⟩) dX8_tell_15 rfl rfl ?_
      have er := Option.some.inj hf
      obtain ⟨e1, e2⟩ := Prod.mk.inj er
      subst e1
      subst e2
      exact V_iret hQ rfl dX8_tell_18
  · rw [if_neg hg] at hf
    cases hf
abbrev mi_X8_check : MI := (yX8_check, cX8_check, 6, some .int)
theorem ok_X8_check : OkN mi_X8_check 1 := ⟨wd_cd_X8_check, wd_in_X8, ⟨by decide +kernel, by decide +kernel, by decide +kernel⟩, by decide⟩
theorem okv_X8_check : Cond.instanceMethod (mi_X8_check).1 ∈ tb ∧ Cond.selects (mi_X8_check).1.cls (mi_X8_check).1 (mi_X8_check).1 ∈ tb := ⟨wd_im_X8_check, wd_se_X8_check⟩
def f_X8_check_L71 (σ : St) (x4 : Int32) : Nat → Int32 → Option (Int32)
  | 0, _ => none
  | n + 1, x5 => if x5 < 0 then (some x5) else ((f_X8_has σ x4 x5).bind fun v22 => if v22 = 0 then (f_X8_check_L71 σ x4 n (x5 + 1)) else (some x5))
def f_X8_check_L32 (x2 : Int32) (t : Nat) (x1 : Int32) : Nat → Int32 → St → Option ((Int32 × St) ⊕ (Int32 × St))
  | 0, _, _ => none
  | n + 1, x3, σ => if x2 ≤ x3 then (some (.inr (x3, σ))) else ((gQ σ 7 t 0).bind fun q14 => (aI σ 0 q14 1).bind fun v16 => if x3 < v16 then ((f_X8_couldOf σ t x3 x1).bind fun p19 => (f_X8_check_L71 p19.2 p19.1 3000 (if p19.1 = 0 then (-1) else 0 : Int32)).bind fun p24 => (gQ p19.2 7 t 0).bind fun q27 => (aI p19.2 0 q27 ((1030 : Int32) + x3)).bind fun v29 => if v29 = p24 then (f_X8_check_L32 x2 t x1 n (x3 + 1) p19.2) else (some (.inl ((1 : Int32) + x3, p19.2)))) else (some (.inl ((1 : Int32) + x3, σ))))
def f_X8_check (σ : St) (t : Nat) (a0 : Int32) : Option (Int32 × St) := if isO σ 7 t = true then ((gQ σ 7 t 0).bind fun q2 => (aI σ 0 q2 6).bind fun v4 => (gQ σ 7 t 0).bind fun q6 => (sI σ q6 6 0).bind fun s8 => (f_X8_isFactor s8 a0).bind fun v10 => if v10 = 0 then ((f_X8_finding s8 t (-1000001)).bind fun p37 => some (p37.1, p37.2)) else ((f_X8_check_L32 v4 t a0 3000 0 s8).bind fun p33 => Sum.elim (some) (fun p35 => some (0, p35.2)) p33)) else none
theorem gd_X8_check {σ : St} {t : Nat} {a0 : Int32} {r : Int32 × St} (h : f_X8_check σ t a0 = some r) : isO σ 7 t = true := by
  unfold f_X8_check at h
  by_cases hg : isO σ 7 t = true
  · exact hg
  · rw [if_neg hg] at h
    cases h
set_option maxRecDepth 100000 in
set_option maxHeartbeats 4000000 in
theorem c_X8_check (l : Launch) (G : Gd) (d : Nat) (σ : St) (t : Nat) (a0 : Int32) (r0 : Int32) (σ' : St) (hf : f_X8_check σ t a0 = some (r0, σ')) : MetV l G (d + 64) mi_X8_check [.ref t, .int a0] σ (some (.int r0)) σ' 0 0 := by
  unfold f_X8_check at hf
  refine MetV.of [(0, .ref t), (1, .int a0)] (by decide +kernel) rfl (Nat.le_of_ble_eq_true rfl) ?_
  intro X hQ
  have L71 : ∀ (σ : St) (x4 : Int32) (x3 : Int32) (x2 : Int32) (x1 : Int32) (n : Nat) (x5 : Int32) (p : Int32), f_X8_check_L71 σ x4 n x5 = some p → V mi_X8_check l G (d + 64) 0 0 X 0 0 92 [(5, .int p), (4, .int x4), (3, .int x3), (2, .int x2), (0, .ref t), (1, .int x1)] [] σ → V mi_X8_check l G (d + 64) 0 0 X 0 0 71 [(5, .int x5), (4, .int x4), (3, .int x3), (2, .int x2), (0, .ref t), (1, .int x1)] [] σ := by
    intro σ x4 x3 x2 x1 n
    induction n with
    | zero =>
      intro x5 p hf
      exact absurd (show (none : Option _) = some p from hf) (by simp)
    | succ n ih =>
      intro x5 p hf hk
      rw [f_X8_check_L71] at hf
      refine V_iload 0 73 rfl dX8_check_71 rfl ?_
      refine V_if_lt 92 76 dX8_check_73 (by decide) rfl (fun c20 => ?_) (fun c20 => ?_)
      · rw [if_pos c20] at hf
        have ep := Option.some.inj hf
        subst ep
        refine V_ls [(5, .int x5), (4, .int x4), (3, .int x3), (2, .int x2), (0, .ref t), (1, .int x1)] [0, 1, 2, 3, 4, 5] rfl ?_
        exact hk
      · rw [if_neg c20] at hf
        refine V_iload 1 78 rfl dX8_check_76 rfl ?_
        refine V_iload 0 80 rfl dX8_check_78 rfl ?_
        obtain ⟨v22, h21, hf⟩ := ob hf
        refine V_callS (rest := []) 0 0 83 [.int v22] (c_X8_has l G (d + 62) _ _ _ _ h21) (by omega) ok_X8_has oks_X8_has wd_ml_X8_137 rfl rfl (Nat.le_of_ble_eq_true rfl) rfl rfl (Or.inl ⟨rfl, rfl⟩) dX8_check_80 rfl rfl ?_
        refine V_if_ne 92 86 dX8_check_83 (by decide) rfl (fun c23 => ?_) (fun c23 => ?_)
        · rw [if_neg c23] at hf
          have ep := Option.some.inj hf
          subst ep
          refine V_ls [(5, .int x5), (4, .int x4), (3, .int x3), (2, .int x2), (0, .ref t), (1, .int x1)] [0, 1, 2, 3, 4, 5] rfl ?_
          exact hk
        · rw [if_pos c23] at hf
          refine V_iinc (x5 + 1) 0 [(5, .int (x5 + 1)), (4, .int x4), (3, .int x3), (2, .int x2), (0, .ref t), (1, .int x1)] 89 dX8_check_86 rfl (by rw [kiconst_1]) (by decide) rfl rfl ?_
          refine V_goto 71 dX8_check_89 (by decide) ?_
          refine V_ls [(5, .int (x5 + 1)), (4, .int x4), (3, .int x3), (2, .int x2), (0, .ref t), (1, .int x1)] [0, 1, 2, 3, 4, 5] rfl ?_
          exact ih _ _ hf hk
  have L32 : ∀ (x2 : Int32) (x1 : Int32) (n : Nat) (x3 : Int32) (σ : St) (p : (Int32 × St) ⊕ (Int32 × St)), f_X8_check_L32 x2 t x1 n x3 σ = some p → (∀ v, p = .inl v → v = (r0, σ')) → (∀ q, p = .inr q → V mi_X8_check l G (d + 64) 0 0 X 0 0 117 [(3, .int q.1), (2, .int x2), (0, .ref t), (1, .int x1)] [] q.2) → V mi_X8_check l G (d + 64) 0 0 X 0 0 32 [(3, .int x3), (2, .int x2), (0, .ref t), (1, .int x1)] [] σ := by
    intro x2 x1 n
    induction n with
    | zero =>
      intro x3 σ p hf
      exact absurd (show (none : Option _) = some p from hf) (by simp)
    | succ n ih =>
      intro x3 σ p hf hk1 hk
      rw [f_X8_check_L32] at hf
      refine V_iload_n 0 33 rfl dX8_check_32 rfl rfl ?_
      refine V_iload_n 1 34 rfl dX8_check_33 rfl rfl ?_
      refine V_icmp_ge 117 37 dX8_check_34 (by decide) rfl (fun c12 => ?_) (fun c12 => ?_)
      · rw [if_pos c12] at hf
        have ep := Option.some.inj hf
        subst ep
        refine V_ls [(3, .int x3), (2, .int x2), (0, .ref t), (1, .int x1)] [0, 1, 2, 3] rfl ?_
        exact hk _ rfl
      · rw [if_neg c12] at hf
        refine V_iload_n 0 38 rfl dX8_check_37 rfl rfl ?_
        refine V_aload_n 2 39 rfl dX8_check_38 rfl rfl ?_
        obtain ⟨q14, h13, hf⟩ := ob hf
        refine V_getQ (n := 27) (ty := tyX8) 42 h13 cf_7 rfl wd_fl_X8_9 dX8_check_39 rfl ?_
        refine V_iconst 1 43 dX8_check_42 rfl kiconst_1 ?_
        obtain ⟨v16, h15, hf⟩ := ob hf
        refine V_iald 44 h15 dX8_check_43 rfl ?_
        refine V_icmp_lt 51 47 dX8_check_44 (by decide) rfl (fun c17 => ?_) (fun c17 => ?_)
        · rw [if_pos c17] at hf
          refine V_aload_n 2 52 rfl dX8_check_51 rfl rfl ?_
          refine V_iload_n 0 53 rfl dX8_check_52 rfl rfl ?_
          refine V_iload_n 3 54 rfl dX8_check_53 rfl rfl ?_
          obtain ⟨p19, h18, hf⟩ := ob hf
          refine V_callV (rest := []) (T := TX8) (n := 27) (ci := 7) 0 0 57 [.int p19.1] (c_X8_couldOf l G (d + 0) _ _ _ _ _ _ h18) (by omega) ok_X8_couldOf okv_X8_couldOf (gd_X8_couldOf h18) rfl wd_ml_X8_263 rfl rfl (Nat.le_of_ble_eq_true rfl) rfl rfl (Or.inl ⟨rfl, rfl⟩) dX8_check_54 rfl rfl ?_
          refine V_istore [(4, .int p19.1), (3, .int x3), (2, .int x2), (0, .ref t), (1, .int x1)] 59 dX8_check_57 (by decide) rfl rfl ?_
          refine V_iload 0 61 rfl dX8_check_59 rfl ?_
          have kj31 : V mi_X8_check l G (d + 64) 0 0 X 0 0 69 [(4, .int p19.1), (3, .int x3), (2, .int x2), (0, .ref t), (1, .int x1)] [.int (if p19.1 = 0 then (-1) else 0 : Int32)] p19.2 := by
            refine V_istore [(5, .int (if p19.1 = 0 then (-1) else 0 : Int32)), (4, .int p19.1), (3, .int x3), (2, .int x2), (0, .ref t), (1, .int x1)] 71 dX8_check_69 (by decide) rfl rfl ?_
            obtain ⟨p24, h25, hf⟩ := ob hf
            refine V_ls [(5, .int (if p19.1 = 0 then (-1) else 0 : Int32)), (4, .int p19.1), (3, .int x3), (2, .int x2), (0, .ref t), (1, .int x1)] [0, 1, 2, 3, 4, 5] rfl ?_
            refine L71 p19.2 p19.1 x3 x2 x1 3000 (if p19.1 = 0 then (-1) else 0 : Int32) p24 h25 ?_
            refine V_aload_n 4 93 rfl dX8_check_92 rfl rfl ?_
            obtain ⟨q27, h26, hf⟩ := ob hf
            refine V_getQ (n := 27) (ty := tyX8) 96 h26 cf_7 rfl wd_fl_X8_9 dX8_check_93 rfl ?_
            refine V_sipush 1030 99 dX8_check_96 rfl ksipush_1030 ?_
            refine V_iload_n 2 100 rfl dX8_check_99 rfl rfl ?_
            refine V_iadd 101 dX8_check_100 rfl ?_
            obtain ⟨v29, h28, hf⟩ := ob hf
            refine V_iald 102 h28 dX8_check_101 rfl ?_
            refine V_iload 0 104 rfl dX8_check_102 rfl ?_
            refine V_icmp_eq 111 107 dX8_check_104 (by decide) rfl (fun c30 => ?_) (fun c30 => ?_)
            · rw [if_pos c30] at hf
              refine V_iinc (x3 + 1) 2 [(3, .int (x3 + 1)), (5, .int p24), (4, .int p19.1), (2, .int x2), (0, .ref t), (1, .int x1)] 114 dX8_check_111 rfl (by rw [kiconst_1]) (by decide) rfl rfl ?_
              refine V_goto 32 dX8_check_114 (by decide) ?_
              refine V_ls [(3, .int (x3 + 1)), (2, .int x2), (0, .ref t), (1, .int x1)] [0, 3, 4, 5] rfl ?_
              exact ih _ _ _ hf hk1 hk
            · rw [if_neg c30] at hf
              refine V_iconst 1 108 dX8_check_107 rfl kiconst_1 ?_
              refine V_iload_n 2 109 rfl dX8_check_108 rfl rfl ?_
              refine V_iadd 110 dX8_check_109 rfl ?_
              have ep := Option.some.inj hf
              subst ep
              have er := hk1 _ rfl
              obtain ⟨e1, e2⟩ := Prod.mk.inj er
              subst e1
              subst e2
              exact V_iret hQ rfl dX8_check_110
          refine V_if_ne 68 64 dX8_check_61 (by decide) rfl (fun c32 => ?_) (fun c32 => ?_)
          · refine V_iconst 0 69 dX8_check_68 rfl kiconst_0 ?_
            refine V_ls [(4, .int p19.1), (3, .int x3), (2, .int x2), (0, .ref t), (1, .int x1)] [0, 1, 2, 3, 4] rfl ?_
            simp only [if_neg c32] at kj31
            exact kj31
          · refine V_iconst (-1) 65 dX8_check_64 rfl kiconst_m1 ?_
            refine V_goto 69 dX8_check_65 (by decide) ?_
            refine V_ls [(4, .int p19.1), (3, .int x3), (2, .int x2), (0, .ref t), (1, .int x1)] [0, 1, 2, 3, 4] rfl ?_
            simp only [if_pos c32] at kj31
            exact kj31
        · rw [if_neg c17] at hf
          refine V_iconst 1 48 dX8_check_47 rfl kiconst_1 ?_
          refine V_iload_n 0 49 rfl dX8_check_48 rfl rfl ?_
          refine V_iadd 50 dX8_check_49 rfl ?_
          have ep := Option.some.inj hf
          subst ep
          have er := hk1 _ rfl
          obtain ⟨e1, e2⟩ := Prod.mk.inj er
          subst e1
          subst e2
          exact V_iret hQ rfl dX8_check_50
  by_cases hg : isO σ 7 t = true
  · rw [if_pos hg] at hf
    refine V_aload_n 0 1 rfl dX8_check_0 rfl rfl ?_
    obtain ⟨q2, h1, hf⟩ := ob hf
    refine V_getQ (n := 27) (ty := tyX8) 4 h1 cf_7 rfl wd_fl_X8_9 dX8_check_1 rfl ?_
    refine V_bipush 6 6 dX8_check_4 rfl kbipush_6 ?_
    obtain ⟨v4, h3, hf⟩ := ob hf
    refine V_iald 7 h3 dX8_check_6 rfl ?_
    refine V_istore_n [(2, .int v4), (0, .ref t), (1, .int a0)] 8 dX8_check_7 rfl (by decide) rfl rfl ?_
    refine V_aload_n 1 9 rfl dX8_check_8 rfl rfl ?_
    obtain ⟨q6, h5, hf⟩ := ob hf
    refine V_getQ (n := 27) (ty := tyX8) 12 h5 cf_7 rfl wd_fl_X8_9 dX8_check_9 rfl ?_
    refine V_bipush 6 14 dX8_check_12 rfl kbipush_6 ?_
    refine V_iconst 0 15 dX8_check_14 rfl kiconst_0 ?_
    obtain ⟨s8, h7, hf⟩ := ob hf
    refine V_iast 16 h7 dX8_check_15 rfl ?_
    refine V_iload_n 2 17 rfl dX8_check_16 rfl rfl ?_
    obtain ⟨v10, h9, hf⟩ := ob hf
    refine V_callS (rest := []) 0 0 20 [.int v10] (c_X8_isFactor l G (d + 61) _ _ _ h9) (by omega) ok_X8_isFactor oks_X8_isFactor wd_ml_X8_242 rfl rfl (Nat.le_of_ble_eq_true rfl) rfl rfl (Or.inl ⟨rfl, rfl⟩) dX8_check_17 rfl rfl ?_
    refine V_if_ne 30 23 dX8_check_20 (by decide) rfl (fun c11 => ?_) (fun c11 => ?_)
    · rw [if_neg c11] at hf
      refine V_iconst 0 31 dX8_check_30 rfl kiconst_0 ?_
      refine V_istore_n [(3, .int 0), (2, .int v4), (0, .ref t), (1, .int a0)] 32 dX8_check_31 rfl (by decide) rfl rfl ?_
      obtain ⟨p33, h34, hf⟩ := ob hf
      refine V_ls [(3, .int 0), (2, .int v4), (0, .ref t), (1, .int a0)] [0, 1, 2, 3] rfl ?_
      refine L32 v4 a0 3000 0 s8 p33 h34 (fun v hv => ?_) (fun p35 hq => ?_)
      · subst hv
        cases hf
        rfl
      subst hq
      simp only [Sum.elim_inr] at hf
      refine V_iconst 0 118 dX8_check_117 rfl kiconst_0 ?_
      have er := Option.some.inj hf
      obtain ⟨e1, e2⟩ := Prod.mk.inj er
      subst e1
      subst e2
      exact V_iret hQ rfl dX8_check_118
    · rw [if_pos c11] at hf
      refine V_aload_n 1 24 rfl dX8_check_23 rfl rfl ?_
      refine V_ldc (-1000001) 26 dX8_check_24 rfl wd_kk_X8_76 ?_
      obtain ⟨p37, h36, hf⟩ := ob hf
      refine V_callV (rest := []) (T := TX8) (n := 27) (ci := 7) 0 0 29 [.int p37.1] (c_X8_finding l G (d + 62) _ _ _ _ _ h36) (by omega) ok_X8_finding okv_X8_finding (gd_X8_finding h36) rfl wd_ml_X8_77 rfl rfl (Nat.le_of_ble_eq_true rfl) rfl rfl (Or.inl ⟨rfl, rfl⟩) dX8_check_26 rfl rfl ?_
      have er := Option.some.inj hf
      obtain ⟨e1, e2⟩ := Prod.mk.inj er
      subst e1
      subst e2
      exact V_iret hQ rfl dX8_check_29
  · rw [if_neg hg] at hf
    cases hf
abbrev mi_X8_count : MI := (yX8_count, cX8_count, 4, some .int)
theorem ok_X8_count : OkN mi_X8_count 1 := ⟨wd_cd_X8_count, wd_in_X8, ⟨by decide +kernel, by decide +kernel, by decide +kernel⟩, by decide⟩
theorem okv_X8_count : Cond.instanceMethod (mi_X8_count).1 ∈ tb ∧ Cond.selects (mi_X8_count).1.cls (mi_X8_count).1 (mi_X8_count).1 ∈ tb := ⟨wd_im_X8_count, wd_se_X8_count⟩
def f_X8_count_L65 (σ : St) (t : Nat) : Nat → Int32 → Int32 → Option (Int32 × Int32)
  | 0, _, _ => none
  | n + 1, x3, x2 => (gQ σ 7 t 0).bind fun q23 => (aI σ 0 q23 3).bind fun v25 => if v25 ≤ x3 then (some (x3, x2)) else ((gQ σ 7 t 0).bind fun q28 => (aI σ 0 q28 (((838 : Int32) + ((4 : Int32) * x3)) + 3)).bind fun v30 => f_X8_count_L65 σ t n (x3 + 1) (x2 + ((1 : Int32) - v30)))
def f_X8_count_L131 (σ : St) (t : Nat) : Nat → Int32 → Int32 → Option (Int32 × Int32)
  | 0, _, _ => none
  | n + 1, x3, x2 => (gQ σ 7 t 0).bind fun q53 => (aI σ 0 q53 1).bind fun v55 => if v55 ≤ x3 then (some (x3, x2)) else ((f_X8_many σ t x3).bind fun v58 => f_X8_count_L131 σ t n (x3 + 1) (x2 + v58))
def f_X8_count (σ : St) (t : Nat) (a0 : Int32) : Option (Int32 × St) := if isO σ 7 t = true then (if a0 = 0 then ((gQ σ 7 t 0).bind fun q3 => (aI σ 0 q3 a0).bind fun v5 => some (v5, σ)) else (if a0 = 1 then ((gQ σ 7 t 0).bind fun q8 => (aI σ 0 q8 a0).bind fun v10 => some (v10, σ)) else (if a0 = 2 then ((gQ σ 7 t 0).bind fun q13 => (aI σ 0 q13 a0).bind fun v15 => some (v15, σ)) else (if a0 = 3 then ((gQ σ 7 t 0).bind fun q18 => (aI σ 0 q18 a0).bind fun v20 => some (v20, σ)) else (if a0 = 4 then ((f_X8_count_L65 σ t 3000 0 0).bind fun p31 => some (p31.2, σ)) else (if a0 = 5 then ((gQ σ 7 t 0).bind fun q35 => (aI σ 0 q35 4).bind fun v37 => some (v37, σ)) else (if a0 = 6 then ((gQ σ 7 t 0).bind fun q40 => (aI σ 0 q40 5).bind fun v42 => some (v42, σ)) else (if a0 = 7 then ((gQ σ 7 t 0).bind fun q45 => (aI σ 0 q45 6).bind fun v47 => some (v47, σ)) else (if a0 = 8 then ((gI σ 7 t 20).bind fun v50 => some (v50, σ)) else (if a0 = 9 then ((f_X8_count_L131 σ t 3000 0 0).bind fun p59 => some (p59.2, σ)) else ((f_X8_finding σ t (-1000001)).bind fun p62 => some (p62.1, p62.2)))))))))))) else none
theorem gd_X8_count {σ : St} {t : Nat} {a0 : Int32} {r : Int32 × St} (h : f_X8_count σ t a0 = some r) : isO σ 7 t = true := by
  unfold f_X8_count at h
  by_cases hg : isO σ 7 t = true
  · exact hg
  · rw [if_neg hg] at h
    cases h
set_option maxRecDepth 100000 in
set_option maxHeartbeats 4000000 in
theorem c_X8_count (l : Launch) (G : Gd) (d : Nat) (σ : St) (t : Nat) (a0 : Int32) (r0 : Int32) (σ' : St) (hf : f_X8_count σ t a0 = some (r0, σ')) : MetV l G (d + 3) mi_X8_count [.ref t, .int a0] σ (some (.int r0)) σ' 0 0 := by
  unfold f_X8_count at hf
  refine MetV.of [(0, .ref t), (1, .int a0)] (by decide +kernel) rfl (Nat.le_of_ble_eq_true rfl) ?_
  intro X hQ
  have L65 : ∀ (σ : St)  (n : Nat) (x3 : Int32) (x2 : Int32) (p : Int32 × Int32), f_X8_count_L65 σ t n x3 x2 = some p → V mi_X8_count l G (d + 3) 0 0 X 0 0 100 [(3, .int p.1), (2, .int p.2), (0, .ref t)] [] σ → V mi_X8_count l G (d + 3) 0 0 X 0 0 65 [(3, .int x3), (2, .int x2), (0, .ref t)] [] σ := by
    intro σ  n
    induction n with
    | zero =>
      intro x3 x2 p hf
      exact absurd (show (none : Option _) = some p from hf) (by simp)
    | succ n ih =>
      intro x3 x2 p hf hk
      rw [f_X8_count_L65] at hf
      refine V_iload_n 0 66 rfl dX8_count_65 rfl rfl ?_
      refine V_aload_n 2 67 rfl dX8_count_66 rfl rfl ?_
      obtain ⟨q23, h22, hf⟩ := ob hf
      refine V_getQ (n := 27) (ty := tyX8) 70 h22 cf_7 rfl wd_fl_X8_9 dX8_count_67 rfl ?_
      refine V_iconst 3 71 dX8_count_70 rfl kiconst_3 ?_
      obtain ⟨v25, h24, hf⟩ := ob hf
      refine V_iald 72 h24 dX8_count_71 rfl ?_
      refine V_icmp_ge 100 75 dX8_count_72 (by decide) rfl (fun c26 => ?_) (fun c26 => ?_)
      · rw [if_pos c26] at hf
        have ep := Option.some.inj hf
        subst ep
        refine V_ls [(3, .int x3), (2, .int x2), (0, .ref t)] [0, 1, 2] rfl ?_
        exact hk
      · rw [if_neg c26] at hf
        refine V_iload_n 1 76 rfl dX8_count_75 rfl rfl ?_
        refine V_iconst 1 77 dX8_count_76 rfl kiconst_1 ?_
        refine V_aload_n 2 78 rfl dX8_count_77 rfl rfl ?_
        obtain ⟨q28, h27, hf⟩ := ob hf
        refine V_getQ (n := 27) (ty := tyX8) 81 h27 cf_7 rfl wd_fl_X8_9 dX8_count_78 rfl ?_
        refine V_sipush 838 84 dX8_count_81 rfl ksipush_838 ?_
        refine V_iconst 4 85 dX8_count_84 rfl kiconst_4 ?_
        refine V_iload_n 0 86 rfl dX8_count_85 rfl rfl ?_
        refine V_imul 87 dX8_count_86 rfl ?_
        refine V_iadd 88 dX8_count_87 rfl ?_
        refine V_iconst 3 89 dX8_count_88 rfl kiconst_3 ?_
        refine V_iadd 90 dX8_count_89 rfl ?_
        obtain ⟨v30, h29, hf⟩ := ob hf
        refine V_iald 91 h29 dX8_count_90 rfl ?_
        refine V_isub 92 dX8_count_91 rfl ?_
        refine V_iadd 93 dX8_count_92 rfl ?_
        refine V_istore_n [(2, .int (x2 + ((1 : Int32) - v30))), (3, .int x3), (0, .ref t)] 94 dX8_count_93 rfl (by decide) rfl rfl ?_
        refine V_iinc (x3 + 1) 1 [(3, .int (x3 + 1)), (2, .int (x2 + ((1 : Int32) - v30))), (0, .ref t)] 97 dX8_count_94 rfl (by rw [kiconst_1]) (by decide) rfl rfl ?_
        refine V_goto 65 dX8_count_97 (by decide) ?_
        refine V_ls [(3, .int (x3 + 1)), (2, .int (x2 + ((1 : Int32) - v30))), (0, .ref t)] [0, 1, 2] rfl ?_
        exact ih _ _ _ hf hk
  have L131 : ∀ (σ : St)  (n : Nat) (x3 : Int32) (x2 : Int32) (p : Int32 × Int32), f_X8_count_L131 σ t n x3 x2 = some p → V mi_X8_count l G (d + 3) 0 0 X 0 0 155 [(3, .int p.1), (2, .int p.2), (0, .ref t)] [] σ → V mi_X8_count l G (d + 3) 0 0 X 0 0 131 [(3, .int x3), (2, .int x2), (0, .ref t)] [] σ := by
    intro σ  n
    induction n with
    | zero =>
      intro x3 x2 p hf
      exact absurd (show (none : Option _) = some p from hf) (by simp)
    | succ n ih =>
      intro x3 x2 p hf hk
      rw [f_X8_count_L131] at hf
      refine V_iload_n 0 132 rfl dX8_count_131 rfl rfl ?_
      refine V_aload_n 2 133 rfl dX8_count_132 rfl rfl ?_
      obtain ⟨q53, h52, hf⟩ := ob hf
      refine V_getQ (n := 27) (ty := tyX8) 136 h52 cf_7 rfl wd_fl_X8_9 dX8_count_133 rfl ?_
      refine V_iconst 1 137 dX8_count_136 rfl kiconst_1 ?_
      obtain ⟨v55, h54, hf⟩ := ob hf
      refine V_iald 138 h54 dX8_count_137 rfl ?_
      refine V_icmp_ge 155 141 dX8_count_138 (by decide) rfl (fun c56 => ?_) (fun c56 => ?_)
      · rw [if_pos c56] at hf
        have ep := Option.some.inj hf
        subst ep
        refine V_ls [(3, .int x3), (2, .int x2), (0, .ref t)] [0, 1, 2] rfl ?_
        exact hk
      · rw [if_neg c56] at hf
        refine V_iload_n 1 142 rfl dX8_count_141 rfl rfl ?_
        refine V_aload_n 2 143 rfl dX8_count_142 rfl rfl ?_
        refine V_iload_n 0 144 rfl dX8_count_143 rfl rfl ?_
        obtain ⟨v58, h57, hf⟩ := ob hf
        refine V_callV (rest := [.int x2]) (T := TX8) (n := 27) (ci := 7) 0 0 147 [.int v58, .int x2] (c_X8_many l G (d + 0) _ _ _ _ h57) (by omega) ok_X8_many okv_X8_many (gd_X8_many h57) rfl wd_ml_X8_134 rfl rfl (Nat.le_of_ble_eq_true rfl) rfl rfl (Or.inl ⟨rfl, rfl⟩) dX8_count_144 rfl rfl ?_
        refine V_iadd 148 dX8_count_147 rfl ?_
        refine V_istore_n [(2, .int (x2 + v58)), (3, .int x3), (0, .ref t)] 149 dX8_count_148 rfl (by decide) rfl rfl ?_
        refine V_iinc (x3 + 1) 1 [(3, .int (x3 + 1)), (2, .int (x2 + v58)), (0, .ref t)] 152 dX8_count_149 rfl (by rw [kiconst_1]) (by decide) rfl rfl ?_
        refine V_goto 131 dX8_count_152 (by decide) ?_
        refine V_ls [(3, .int (x3 + 1)), (2, .int (x2 + v58)), (0, .ref t)] [0, 1, 2] rfl ?_
        exact ih _ _ _ hf hk
  by_cases hg : isO σ 7 t = true
  · rw [if_pos hg] at hf
    refine V_iconst 0 1 dX8_count_0 rfl kiconst_0 ?_
    refine V_istore_n [(2, .int 0), (0, .ref t), (1, .int a0)] 2 dX8_count_1 rfl (by decide) rfl rfl ?_
    refine V_iload_n 2 3 rfl dX8_count_2 rfl rfl ?_
    by_cases c1 : a0 = 0
    · rw [if_pos c1] at hf
      refine V_tsw 0 53 56 dX8_count_3 c1 (by decide) (by decide) (by decide) (by decide) ?_
      refine V_aload_n 1 57 rfl dX8_count_56 rfl rfl ?_
      obtain ⟨q3, h2, hf⟩ := ob hf
      refine V_getQ (n := 27) (ty := tyX8) 60 h2 cf_7 rfl wd_fl_X8_9 dX8_count_57 rfl ?_
      refine V_iload_n 2 61 rfl dX8_count_60 rfl rfl ?_
      obtain ⟨v5, h4, hf⟩ := ob hf
      refine V_iald 62 h4 dX8_count_61 rfl ?_
      have er := Option.some.inj hf
      obtain ⟨e1, e2⟩ := Prod.mk.inj er
      subst e1
      subst e2
      exact V_iret hQ rfl dX8_count_62
    rw [if_neg c1] at hf
    by_cases c6 : a0 = 1
    · rw [if_pos c6] at hf
      refine V_tsw 1 53 56 dX8_count_3 c6 (by decide) (by decide) (by decide) (by decide) ?_
      refine V_aload_n 1 57 rfl dX8_count_56 rfl rfl ?_
      obtain ⟨q8, h7, hf⟩ := ob hf
      refine V_getQ (n := 27) (ty := tyX8) 60 h7 cf_7 rfl wd_fl_X8_9 dX8_count_57 rfl ?_
      refine V_iload_n 2 61 rfl dX8_count_60 rfl rfl ?_
      obtain ⟨v10, h9, hf⟩ := ob hf
      refine V_iald 62 h9 dX8_count_61 rfl ?_
      have er := Option.some.inj hf
      obtain ⟨e1, e2⟩ := Prod.mk.inj er
      subst e1
      subst e2
      exact V_iret hQ rfl dX8_count_62
    rw [if_neg c6] at hf
    by_cases c11 : a0 = 2
    · rw [if_pos c11] at hf
      refine V_tsw 2 53 56 dX8_count_3 c11 (by decide) (by decide) (by decide) (by decide) ?_
      refine V_aload_n 1 57 rfl dX8_count_56 rfl rfl ?_
      obtain ⟨q13, h12, hf⟩ := ob hf
      refine V_getQ (n := 27) (ty := tyX8) 60 h12 cf_7 rfl wd_fl_X8_9 dX8_count_57 rfl ?_
      refine V_iload_n 2 61 rfl dX8_count_60 rfl rfl ?_
      obtain ⟨v15, h14, hf⟩ := ob hf
      refine V_iald 62 h14 dX8_count_61 rfl ?_
      have er := Option.some.inj hf
      obtain ⟨e1, e2⟩ := Prod.mk.inj er
      subst e1
      subst e2
      exact V_iret hQ rfl dX8_count_62
    rw [if_neg c11] at hf
    by_cases c16 : a0 = 3
    · rw [if_pos c16] at hf
      refine V_tsw 3 53 56 dX8_count_3 c16 (by decide) (by decide) (by decide) (by decide) ?_
      refine V_aload_n 1 57 rfl dX8_count_56 rfl rfl ?_
      obtain ⟨q18, h17, hf⟩ := ob hf
      refine V_getQ (n := 27) (ty := tyX8) 60 h17 cf_7 rfl wd_fl_X8_9 dX8_count_57 rfl ?_
      refine V_iload_n 2 61 rfl dX8_count_60 rfl rfl ?_
      obtain ⟨v20, h19, hf⟩ := ob hf
      refine V_iald 62 h19 dX8_count_61 rfl ?_
      have er := Option.some.inj hf
      obtain ⟨e1, e2⟩ := Prod.mk.inj er
      subst e1
      subst e2
      exact V_iret hQ rfl dX8_count_62
    rw [if_neg c16] at hf
    by_cases c21 : a0 = 4
    · rw [if_pos c21] at hf
      refine V_tsw 4 60 63 dX8_count_3 c21 (by decide) (by decide) (by decide) (by decide) ?_
      refine V_iconst 0 64 dX8_count_63 rfl kiconst_0 ?_
      refine V_istore_n [(3, .int 0), (2, .int 0), (0, .ref t), (1, .int a0)] 65 dX8_count_64 rfl (by decide) rfl rfl ?_
      obtain ⟨p31, h32, hf⟩ := ob hf
      refine V_ls [(3, .int 0), (2, .int 0), (0, .ref t)] [0, 1, 2] rfl ?_
      refine L65 σ 3000 0 0 p31 h32 ?_
      refine V_iload_n 1 101 rfl dX8_count_100 rfl rfl ?_
      have er := Option.some.inj hf
      obtain ⟨e1, e2⟩ := Prod.mk.inj er
      subst e1
      subst e2
      exact V_iret hQ rfl dX8_count_101
    rw [if_neg c21] at hf
    by_cases c33 : a0 = 5
    · rw [if_pos c33] at hf
      refine V_tsw 5 99 102 dX8_count_3 c33 (by decide) (by decide) (by decide) (by decide) ?_
      refine V_aload_n 1 103 rfl dX8_count_102 rfl rfl ?_
      obtain ⟨q35, h34, hf⟩ := ob hf
      refine V_getQ (n := 27) (ty := tyX8) 106 h34 cf_7 rfl wd_fl_X8_9 dX8_count_103 rfl ?_
      refine V_iconst 4 107 dX8_count_106 rfl kiconst_4 ?_
      obtain ⟨v37, h36, hf⟩ := ob hf
      refine V_iald 108 h36 dX8_count_107 rfl ?_
      have er := Option.some.inj hf
      obtain ⟨e1, e2⟩ := Prod.mk.inj er
      subst e1
      subst e2
      exact V_iret hQ rfl dX8_count_108
    rw [if_neg c33] at hf
    by_cases c38 : a0 = 6
    · rw [if_pos c38] at hf
      refine V_tsw 6 106 109 dX8_count_3 c38 (by decide) (by decide) (by decide) (by decide) ?_
      refine V_aload_n 1 110 rfl dX8_count_109 rfl rfl ?_
      obtain ⟨q40, h39, hf⟩ := ob hf
      refine V_getQ (n := 27) (ty := tyX8) 113 h39 cf_7 rfl wd_fl_X8_9 dX8_count_110 rfl ?_
      refine V_iconst 5 114 dX8_count_113 rfl kiconst_5 ?_
      obtain ⟨v42, h41, hf⟩ := ob hf
      refine V_iald 115 h41 dX8_count_114 rfl ?_
      have er := Option.some.inj hf
      obtain ⟨e1, e2⟩ := Prod.mk.inj er
      subst e1
      subst e2
      exact V_iret hQ rfl dX8_count_115
    rw [if_neg c38] at hf
    by_cases c43 : a0 = 7
    · rw [if_pos c43] at hf
      refine V_tsw 7 113 116 dX8_count_3 c43 (by decide) (by decide) (by decide) (by decide) ?_
      refine V_aload_n 1 117 rfl dX8_count_116 rfl rfl ?_
      obtain ⟨q45, h44, hf⟩ := ob hf
      refine V_getQ (n := 27) (ty := tyX8) 120 h44 cf_7 rfl wd_fl_X8_9 dX8_count_117 rfl ?_
      refine V_bipush 6 122 dX8_count_120 rfl kbipush_6 ?_
      obtain ⟨v47, h46, hf⟩ := ob hf
      refine V_iald 123 h46 dX8_count_122 rfl ?_
      have er := Option.some.inj hf
      obtain ⟨e1, e2⟩ := Prod.mk.inj er
      subst e1
      subst e2
      exact V_iret hQ rfl dX8_count_123
    rw [if_neg c43] at hf
    by_cases c48 : a0 = 8
    · rw [if_pos c48] at hf
      refine V_tsw 8 121 124 dX8_count_3 c48 (by decide) (by decide) (by decide) (by decide) ?_
      refine V_aload_n 1 125 rfl dX8_count_124 rfl rfl ?_
      obtain ⟨v50, h49, hf⟩ := ob hf
      refine V_getI (n := 27) (ty := tyX8) 128 h49 cf_7 rfl wd_fl_X8_288 dX8_count_125 rfl ?_
      have er := Option.some.inj hf
      obtain ⟨e1, e2⟩ := Prod.mk.inj er
      subst e1
      subst e2
      exact V_iret hQ rfl dX8_count_128
    rw [if_neg c48] at hf
    by_cases c51 : a0 = 9
    · rw [if_pos c51] at hf
      refine V_tsw 9 126 129 dX8_count_3 c51 (by decide) (by decide) (by decide) (by decide) ?_
      refine V_iconst 0 130 dX8_count_129 rfl kiconst_0 ?_
      refine V_istore_n [(3, .int 0), (2, .int 0), (0, .ref t), (1, .int a0)] 131 dX8_count_130 rfl (by decide) rfl rfl ?_
      obtain ⟨p59, h60, hf⟩ := ob hf
      refine V_ls [(3, .int 0), (2, .int 0), (0, .ref t)] [0, 1, 2] rfl ?_
      refine L131 σ 3000 0 0 p59 h60 ?_
      refine V_iload_n 1 156 rfl dX8_count_155 rfl rfl ?_
      have er := Option.some.inj hf
      obtain ⟨e1, e2⟩ := Prod.mk.inj er
      subst e1
      subst e2
      exact V_iret hQ rfl dX8_count_156
    rw [if_neg c51] at hf
    refine V_tswD [0, 1, 2, 3, 4, 5, 6, 7, 8, 9] 157 dX8_count_3 (fun q hq => by simp only [List.mem_cons, List.not_mem_nil, or_false] at hq; rcases hq with rfl | rfl | rfl | rfl | rfl | rfl | rfl | rfl | rfl | rfl <;> assumption) (by decide) (by decide) (by decide) ?_
    refine V_aload_n 1 158 rfl dX8_count_157 rfl rfl ?_
    refine V_ldc (-1000001) 160 dX8_count_158 rfl wd_kk_X8_76 ?_
    obtain ⟨p62, h61, hf⟩ := ob hf
    refine V_callV (rest := []) (T := TX8) (n := 27) (ci := 7) 0 0 163 [.int p62.1] (c_X8_finding l G (d + 1) _ _ _ _ _ h61) (by omega) ok_X8_finding okv_X8_finding (gd_X8_finding h61) rfl wd_ml_X8_77 rfl rfl (Nat.le_of_ble_eq_true rfl) rfl rfl (Or.inl ⟨rfl, rfl⟩) dX8_count_160 rfl rfl ?_
    have er := Option.some.inj hf
    obtain ⟨e1, e2⟩ := Prod.mk.inj er
    subst e1
    subst e2
    exact V_iret hQ rfl dX8_count_163
  · rw [if_neg hg] at hf
    cases hf
abbrev mi_X8_told : MI := (yX8_told, cX8_told, 2, some .int)
theorem ok_X8_told : OkN mi_X8_told 1 := ⟨wd_cd_X8_told, wd_in_X8, ⟨by decide +kernel, by decide +kernel, by decide +kernel⟩, by decide⟩
theorem okv_X8_told : Cond.instanceMethod (mi_X8_told).1 ∈ tb ∧ Cond.selects (mi_X8_told).1.cls (mi_X8_told).1 (mi_X8_told).1 ∈ tb := ⟨wd_im_X8_told, wd_se_X8_told⟩
def f_X8_told (σ : St) (t : Nat) (a0 : Int32) : Option (Int32 × St) := if isO σ 7 t = true then ((f_X8_within σ a0 1 6).bind fun v2 => if v2 = 0 then ((f_X8_finding σ t (-1000001)).bind fun p5 => some (p5.1, p5.2)) else ((gQ σ 7 t 3).bind fun q7 => (aI σ 0 q7 a0).bind fun v9 => some (v9, σ))) else none
theorem gd_X8_told {σ : St} {t : Nat} {a0 : Int32} {r : Int32 × St} (h : f_X8_told σ t a0 = some r) : isO σ 7 t = true := by
  unfold f_X8_told at h
  by_cases hg : isO σ 7 t = true
  · exact hg
  · rw [if_neg hg] at h
    cases h
set_option maxRecDepth 100000 in
set_option maxHeartbeats 4000000 in
theorem c_X8_told (l : Launch) (G : Gd) (d : Nat) (σ : St) (t : Nat) (a0 : Int32) (r0 : Int32) (σ' : St) (hf : f_X8_told σ t a0 = some (r0, σ')) : MetV l G (d + 2) mi_X8_told [.ref t, .int a0] σ (some (.int r0)) σ' 0 0 := by
  unfold f_X8_told at hf
  refine MetV.of [(0, .ref t), (1, .int a0)] (by decide +kernel) rfl (Nat.le_of_ble_eq_true rfl) ?_
  intro X hQ
  by_cases hg : isO σ 7 t = true
  · rw [if_pos hg] at hf
    refine V_iload_n 1 1 rfl dX8_told_0 rfl rfl ?_
    refine V_iconst 1 2 dX8_told_1 rfl kiconst_1 ?_
    refine V_bipush 6 4 dX8_told_2 rfl kbipush_6 ?_
    obtain ⟨v2, h1, hf⟩ := ob hf
    refine V_callS (rest := []) 0 0 7 [.int v2] (c_X8_within l G (d + 0) _ _ _ _ _ h1) (by omega) ok_X8_within oks_X8_within wd_ml_X8_68 rfl rfl (Nat.le_of_ble_eq_true rfl) rfl rfl (Or.inl ⟨rfl, rfl⟩) dX8_told_4 rfl rfl ?_
    refine V_if_eq 19 10 dX8_told_7 (by decide) rfl (fun c3 => ?_) (fun c3 => ?_)
    · rw [if_pos c3] at hf
      refine V_aload_n 0 20 rfl dX8_told_19 rfl rfl ?_
      refine V_ldc (-1000001) 22 dX8_told_20 rfl wd_kk_X8_76 ?_
      obtain ⟨p5, h4, hf⟩ := ob hf
      refine V_callV (rest := []) (T := TX8) (n := 27) (ci := 7) 0 0 25 [.int p5.1] (c_X8_finding l G (d + 0) _ _ _ _ _ h4) (by omega) ok_X8_finding okv_X8_finding (gd_X8_finding h4) rfl wd_ml_X8_77 rfl rfl (Nat.le_of_ble_eq_true rfl) rfl rfl (Or.inl ⟨rfl, rfl⟩) dX8_told_22 rfl rfl ?_
      have er := Option.some.inj hf
      obtain ⟨e1, e2⟩ := Prod.mk.inj er
      subst e1
      subst e2
      exact V_iret hQ rfl dX8_told_25
    · rw [if_neg c3] at hf
      refine V_aload_n 0 11 rfl dX8_told_10 rfl rfl ?_
      obtain ⟨q7, h6, hf⟩ := ob hf
      refine V_getQ (n := 27) (ty := tyX8) 14 h6 cf_7 rfl wd_fl_X8_16 dX8_told_11 rfl ?_
      refine V_iload_n 1 15 rfl dX8_told_14 rfl rfl ?_
      obtain ⟨v9, h8, hf⟩ := ob hf
      refine V_iald 16 h8 dX8_told_15 rfl ?_
      refine V_goto 25 dX8_told_16 (by decide) ?_
      have er := Option.some.inj hf
      obtain ⟨e1, e2⟩ := Prod.mk.inj er
      subst e1
      subst e2
      exact V_iret hQ rfl dX8_told_25
  · rw [if_neg hg] at hf
    cases hf
