abbrev mi_X7_init : MI := (yX7_init, cX7_init, 2, none)
theorem ok_X7_init : OkN mi_X7_init 0 := ⟨wd_cd_X7_init, wd_in_X7, ⟨by decide +kernel, by decide +kernel, by decide +kernel⟩, by decide⟩
theorem oki_X7_init : (mi_X7_init).1.name = "<init>" ∧ Cond.instanceMethod (mi_X7_init).1 ∈ tb ∧ (mi_X7_init).2.2.2 = none := ⟨rfl, wd_im_X7_init, rfl⟩
def f_X7_init_L89 (t : Nat) : Nat → Int32 → St → Option (Int32 × St)
  | 0, _, _ => none
  | n + 1, x1, σ => (gQ σ 6 t 3).bind fun q44 => (aL σ 3 q44).bind fun v45 => if v45 ≤ x1 then (some (x1, σ)) else ((gQ σ 6 t 3).bind fun q49 => (nwO σ 2).bind fun s51 => (f_X3_init s51 σ.2.2).bind fun s53 => (sQ s53 3 2 q49 x1 σ.2.2).bind fun s55 => f_X7_init_L89 t n (x1 + 1) s55)
def f_X7_init (σ : St) (t : Nat) : Option St := if isO σ 6 t = true then ((nwO σ 3).bind fun s2 => (f_X4_init s2 σ.2.2).bind fun s4 => (pQ s4 6 t 0 σ.2.2).bind fun s6 => (nwO s6 1).bind fun s8 => (f_X2_init s8 s6.2.2).bind fun s10 => (pQ s10 6 t 1 s6.2.2).bind fun s12 => (nwO s12 5).bind fun s14 => (f_X6_init s14 s12.2.2).bind fun s16 => (pQ s16 6 t 2 s12.2.2).bind fun s18 => (nwA s18 3 4).bind fun s20 => (pQ s20 6 t 3 s18.2.2).bind fun s22 => (nwA s22 0 7).bind fun s24 => (pQ s24 6 t 4 s22.2.2).bind fun s26 => (nwA s26 0 24).bind fun s28 => (pQ s28 6 t 5 s26.2.2).bind fun s30 => (nwA s30 0 8).bind fun s32 => (pQ s32 6 t 6 s30.2.2).bind fun s34 => (nwA s34 0 30).bind fun s36 => (pQ s36 6 t 7 s34.2.2).bind fun s38 => (pN s38 6 t 8).bind fun s40 => (pI s40 6 t 9 0).bind fun s42 => (f_X7_init_L89 t 8 0 s42).bind fun p56 => some p56.2) else none
theorem gd_X7_init {σ : St} {t : Nat} {r : St} (h : f_X7_init σ t = some r) : isO σ 6 t = true := by
  unfold f_X7_init at h
  by_cases hg : isO σ 6 t = true
  · exact hg
  · rw [if_neg hg] at h
    cases h
set_option maxRecDepth 100000 in
set_option maxHeartbeats 4000000 in
theorem c_X7_init (l : Launch) (G : Gd) (d : Nat) (σ : St) (t : Nat) (σ' : St) (hf : f_X7_init σ t = some σ') : MetV l G (d + 4) mi_X7_init [.ref t] σ none σ' 59 10573 := by
  unfold f_X7_init at hf
  obtain ⟨mc0, emc⟩ : ∃ z : Nat, z = 59 := ⟨_, rfl⟩
  obtain ⟨ms0, ems⟩ : ∃ z : Nat, z = 10573 := ⟨_, rfl⟩
  rw [← emc, ← ems]
  refine MetV.of [(0, .ref t)] (by decide +kernel) rfl (Nat.le_of_ble_eq_true rfl) ?_
  intro X hQ
  have L89 : ∀  (n ce sl : Nat) (x1 : Int32) (σ : St) (p : Int32 × St), f_X7_init_L89 t n x1 σ = some p → ce + 2 * n ≤ mc0 → sl + 27 * n ≤ ms0 → V mi_X7_init l G (d + 4) mc0 ms0 X (ce + 2 * n) (sl + 27 * n) 117 [(1, .int p.1), (0, .ref t)] [] p.2 → V mi_X7_init l G (d + 4) mc0 ms0 X ce sl 89 [(1, .int x1), (0, .ref t)] [] σ := by
    intro  n
    induction n with
    | zero =>
      intro ce sl x1 σ p hf
      exact absurd (show (none : Option _) = some p from hf) (by simp)
    | succ n ih =>
      intro ce sl x1 σ p hf hce hsl hk
      rw [f_X7_init_L89] at hf
      refine V_iload_n 0 90 rfl dX7_init_89 rfl rfl ?_
      refine V_aload_n 1 91 rfl dX7_init_90 rfl rfl ?_
      obtain ⟨q44, h43, hf⟩ := ob hf
      refine V_getQ (n := 10) (ty := tyX7) 94 h43 cf_6 rfl wd_fl_X7_32 dX7_init_91 rfl ?_
      obtain ⟨v45, h46, hf⟩ := ob hf
      refine V_alen (t := 3) 95 h46 (by decide) dX7_init_94 rfl ?_
      refine V_icmp_ge 117 98 dX7_init_95 (by decide) rfl (fun c47 => ?_) (fun c47 => ?_)
      · rw [if_pos c47] at hf
        have ep := Option.some.inj hf
        subst ep
        refine V_ls [(1, .int x1), (0, .ref t)] [0, 1] rfl ?_
        refine V_cnt (ce1 := ce + 2 * (n + 1)) (sl1 := sl + 27 * (n + 1)) (by omega) (by omega) ?_
        exact hk
      · rw [if_neg c47] at hf
        refine V_aload_n 1 99 rfl dX7_init_98 rfl rfl ?_
        obtain ⟨q49, h48, hf⟩ := ob hf
        refine V_getQ (n := 10) (ty := tyX7) 102 h48 cf_6 rfl wd_fl_X7_32 dX7_init_99 rfl ?_
        refine V_iload_n 0 103 rfl dX7_init_102 rfl rfl ?_
        obtain ⟨s51, h50, hf⟩ := ob hf
        refine V_new (n := 3) (T := TX3) (ty := tyX3) 106 h50 cf_2 df_2 wd_cl_X7_30 wd_ia_X3 wd_in_X3 (by omega) (by omega) dX7_init_103 rfl ?_
        refine V_dup 107 dX7_init_106 rfl rfl ?_
        obtain ⟨s53, h52, hf⟩ := ob hf
        refine V_callIN (rest := [.ref σ.2.2, .int x1, .ref q49]) ((ce + 1) + 1) ((sl + 3) + 24) 110 (c_X3_init l G (d + 1) _ _ _ h52) (by omega) ok_X3_init oki_X3_init (fun s h => h.2.2.2.2.2.2.2.2.2.2.2.2.2) rfl rfl (Nat.le_of_ble_eq_true rfl) rfl rfl (Or.inr ⟨by omega, by omega⟩) dX7_init_107 rfl ?_
        obtain ⟨s55, h54, hf⟩ := ob hf
        refine V_aast (t := 3) (n0 := 3) (T := TX3) (ty := tyX3) 111 h54 cf_2 (by decide) rfl dX7_init_110 rfl ?_
        refine V_iinc (x1 + 1) 0 [(1, .int (x1 + 1)), (0, .ref t)] 114 dX7_init_111 rfl (by rw [kiconst_1]) (by decide) rfl rfl ?_
        refine V_goto 89 dX7_init_114 (by decide) ?_
        refine V_ls [(1, .int (x1 + 1)), (0, .ref t)] [0, 1] rfl ?_
        refine V_cnt (ce1 := ce + 2) (sl1 := sl + 27) (by omega) (by omega) ?_
        exact ih (ce + 2) (sl + 27) (x1 + 1) s55 p hf (by omega) (by omega) (by rw [show ce + 2 + 2 * n = ce + 2 * (n + 1) from by omega, show sl + 27 + 27 * n = sl + 27 * (n + 1) from by omega]; exact hk)
  by_cases hg : isO σ 6 t = true
  · rw [if_pos hg] at hf
    refine V_aload_n 0 1 rfl dX7_init_0 rfl rfl ?_
    refine V_objInit 4 wd_ml_X7_3 wd_im_java_lang_Object__init_ wd_objc (by omega) (Nat.le_of_ble_eq_true rfl) dX7_init_1 rfl ?_
    refine V_aload_n 0 5 rfl dX7_init_4 rfl rfl ?_
    obtain ⟨s2, h1, hf⟩ := ob hf
    refine V_new (n := 11) (T := TX4) (ty := tyX4) 8 h1 cf_3 df_3 wd_cl_X7_9 wd_ia_X4 wd_in_X4 (by omega) (by omega) dX7_init_5 rfl ?_
    refine V_dup 9 dX7_init_8 rfl rfl ?_
    obtain ⟨s4, h3, hf⟩ := ob hf
    refine V_callI (rest := [.ref σ.2.2, .ref t]) ((0 + 1) + 34) ((0 + 11) + 10229) 12 (c_X4_init l G (d + 0) _ _ _ h3) (by omega) ok_X4_init oki_X4_init wd_ml_X7_11 rfl rfl (Nat.le_of_ble_eq_true rfl) rfl rfl (Or.inr ⟨by omega, by omega⟩) dX7_init_9 rfl ?_
    obtain ⟨s6, h5, hf⟩ := ob hf
    refine V_putQ (n := 10) (T := TX7) (ty := tyX7) (f := 0) 15 h5 cf_6 rfl (Or.inl ⟨_, rfl⟩) (Or.inr ⟨rfl, rfl, rfl⟩) wd_fl_X7_12 dX7_init_12 rfl ?_
    refine V_aload_n 0 16 rfl dX7_init_15 rfl rfl ?_
    obtain ⟨s8, h7, hf⟩ := ob hf
    refine V_new (n := 8) (T := TX2) (ty := tyX2) 19 h7 cf_1 df_1 wd_cl_X7_16 wd_ia_X2 wd_in_X2 (by omega) (by omega) dX7_init_16 rfl ?_
    refine V_dup 20 dX7_init_19 rfl rfl ?_
    obtain ⟨s10, h9, hf⟩ := ob hf
    refine V_callIN (rest := [.ref s6.2.2, .ref t]) (((0 + 1) + 34) + 1) (((0 + 11) + 10229) + 8) 23 (c_X2_init l G (d + 1) _ _ _ h9) (by omega) ok_X2_init oki_X2_init (fun s h => h.2.2.2.2.2.2.2.2.2.2.2.1) rfl rfl (Nat.le_of_ble_eq_true rfl) rfl rfl (Or.inl ⟨rfl, rfl⟩) dX7_init_20 rfl ?_
    obtain ⟨s12, h11, hf⟩ := ob hf
    refine V_putQ (n := 10) (T := TX7) (ty := tyX7) (f := 1) 26 h11 cf_6 rfl (Or.inl ⟨_, rfl⟩) (Or.inr ⟨rfl, rfl, rfl⟩) wd_fl_X7_19 dX7_init_23 rfl ?_
    refine V_aload_n 0 27 rfl dX7_init_26 rfl rfl ?_
    obtain ⟨s14, h13, hf⟩ := ob hf
    refine V_new (n := 6) (T := TX6) (ty := tyX6) 30 h13 cf_5 df_5 wd_cl_X7_23 wd_ia_X6 wd_in_X6 (by omega) (by omega) dX7_init_27 rfl ?_
    refine V_dup 31 dX7_init_30 rfl rfl ?_
    obtain ⟨s16, h15, hf⟩ := ob hf
    refine V_callIN (rest := [.ref s12.2.2, .ref t]) (((((0 + 1) + 34) + 1) + 1) + 1) (((((0 + 11) + 10229) + 8) + 6) + 30) 34 (c_X6_init l G (d + 1) _ _ _ h15) (by omega) ok_X6_init oki_X6_init (fun s h => h.2.2.2.2.2.2.2.2.2.2.2.2.1) rfl rfl (Nat.le_of_ble_eq_true rfl) rfl rfl (Or.inr ⟨by omega, by omega⟩) dX7_init_31 rfl ?_
    obtain ⟨s18, h17, hf⟩ := ob hf
    refine V_putQ (n := 10) (T := TX7) (ty := tyX7) (f := 2) 37 h17 cf_6 rfl (Or.inl ⟨_, rfl⟩) (Or.inr ⟨rfl, rfl, rfl⟩) wd_fl_X7_26 dX7_init_34 rfl ?_
    refine V_aload_n 0 38 rfl dX7_init_37 rfl rfl ?_
    refine V_iconst 4 39 dX7_init_38 rfl kiconst_4 ?_
    obtain ⟨s20, h19, hf⟩ := ob hf
    refine V_anew (t := 3) 42 h19 (by decide) wd_cl_X7_30 (by omega) (by rw [show (4 : Int32).toNatClampNeg = 4 from by decide]; omega) dX7_init_39 rfl ?_
    refine V_cnt (ce1 := ((((((0 + 1) + 34) + 1) + 1) + 1) + 1)) (sl1 := ((((((0 + 11) + 10229) + 8) + 6) + 30) + 4)) (by omega) (by rw [show (4 : Int32).toNatClampNeg = 4 from by decide]; omega) ?_
    obtain ⟨s22, h21, hf⟩ := ob hf
    refine V_putQ (n := 10) (T := TX7) (ty := tyX7) (f := 3) 45 h21 cf_6 rfl (Or.inr ⟨_, rfl⟩) (Or.inr ⟨rfl, rfl, rfl⟩) wd_fl_X7_32 dX7_init_42 rfl ?_
    refine V_aload_n 0 46 rfl dX7_init_45 rfl rfl ?_
    refine V_bipush 7 48 dX7_init_46 rfl kbipush_7 ?_
    obtain ⟨s24, h23, hf⟩ := ob hf
    refine V_newa (fty := .int) 50 h23 (by decide) wd_ac_int (by omega) (by rw [show (7 : Int32).toNatClampNeg = 7 from by decide]; omega) dX7_init_48 rfl ?_
    refine V_cnt (ce1 := (((((((0 + 1) + 34) + 1) + 1) + 1) + 1) + 1)) (sl1 := (((((((0 + 11) + 10229) + 8) + 6) + 30) + 4) + 7)) (by omega) (by rw [show (7 : Int32).toNatClampNeg = 7 from by decide]; omega) ?_
    obtain ⟨s26, h25, hf⟩ := ob hf
    refine V_putQ (n := 10) (T := TX7) (ty := tyX7) (f := 4) 53 h25 cf_6 rfl (Or.inr ⟨_, rfl⟩) (Or.inr ⟨rfl, rfl, rfl⟩) wd_fl_X7_36 dX7_init_50 rfl ?_
    refine V_aload_n 0 54 rfl dX7_init_53 rfl rfl ?_
    refine V_bipush 24 56 dX7_init_54 rfl kbipush_24 ?_
    obtain ⟨s28, h27, hf⟩ := ob hf
    refine V_newa (fty := .int) 58 h27 (by decide) wd_ac_int (by omega) (by rw [show (24 : Int32).toNatClampNeg = 24 from by decide]; omega) dX7_init_56 rfl ?_
    refine V_cnt (ce1 := ((((((((0 + 1) + 34) + 1) + 1) + 1) + 1) + 1) + 1)) (sl1 := ((((((((0 + 11) + 10229) + 8) + 6) + 30) + 4) + 7) + 24)) (by omega) (by rw [show (24 : Int32).toNatClampNeg = 24 from by decide]; omega) ?_
    obtain ⟨s30, h29, hf⟩ := ob hf
    refine V_putQ (n := 10) (T := TX7) (ty := tyX7) (f := 5) 61 h29 cf_6 rfl (Or.inr ⟨_, rfl⟩) (Or.inr ⟨rfl, rfl, rfl⟩) wd_fl_X7_40 dX7_init_58 rfl ?_
    refine V_aload_n 0 62 rfl dX7_init_61 rfl rfl ?_
    refine V_bipush 8 64 dX7_init_62 rfl kbipush_8 ?_
    obtain ⟨s32, h31, hf⟩ := ob hf
    refine V_newa (fty := .int) 66 h31 (by decide) wd_ac_int (by omega) (by rw [show (8 : Int32).toNatClampNeg = 8 from by decide]; omega) dX7_init_64 rfl ?_
    refine V_cnt (ce1 := (((((((((0 + 1) + 34) + 1) + 1) + 1) + 1) + 1) + 1) + 1)) (sl1 := (((((((((0 + 11) + 10229) + 8) + 6) + 30) + 4) + 7) + 24) + 8)) (by omega) (by rw [show (8 : Int32).toNatClampNeg = 8 from by decide]; omega) ?_
    obtain ⟨s34, h33, hf⟩ := ob hf
    refine V_putQ (n := 10) (T := TX7) (ty := tyX7) (f := 6) 69 h33 cf_6 rfl (Or.inr ⟨_, rfl⟩) (Or.inr ⟨rfl, rfl, rfl⟩) wd_fl_X7_43 dX7_init_66 rfl ?_
    refine V_aload_n 0 70 rfl dX7_init_69 rfl rfl ?_
    refine V_bipush 30 72 dX7_init_70 rfl kbipush_30 ?_
    obtain ⟨s36, h35, hf⟩ := ob hf
    refine V_newa (fty := .int) 74 h35 (by decide) wd_ac_int (by omega) (by rw [show (30 : Int32).toNatClampNeg = 30 from by decide]; omega) dX7_init_72 rfl ?_
    refine V_cnt (ce1 := ((((((((((0 + 1) + 34) + 1) + 1) + 1) + 1) + 1) + 1) + 1) + 1)) (sl1 := ((((((((((0 + 11) + 10229) + 8) + 6) + 30) + 4) + 7) + 24) + 8) + 30)) (by omega) (by rw [show (30 : Int32).toNatClampNeg = 30 from by decide]; omega) ?_
    obtain ⟨s38, h37, hf⟩ := ob hf
    refine V_putQ (n := 10) (T := TX7) (ty := tyX7) (f := 7) 77 h37 cf_6 rfl (Or.inr ⟨_, rfl⟩) (Or.inr ⟨rfl, rfl, rfl⟩) wd_fl_X7_46 dX7_init_74 rfl ?_
    refine V_aload_n 0 78 rfl dX7_init_77 rfl rfl ?_
    refine V_aconst_null 79 dX7_init_78 rfl ?_
    obtain ⟨s40, h39, hf⟩ := ob hf
    refine V_putN (n := 10) (T := TX7) (ty := tyX7) (f := 8) 82 h39 cf_6 rfl (Or.inl ⟨_, rfl⟩) (Or.inl rfl) wd_fl_X7_49 dX7_init_79 rfl ?_
    refine V_aload_n 0 83 rfl dX7_init_82 rfl rfl ?_
    refine V_iconst 0 84 dX7_init_83 rfl kiconst_0 ?_
    obtain ⟨s42, h41, hf⟩ := ob hf
    refine V_putI (n := 10) (T := TX7) (ty := tyX7) (f := 9) 87 h41 cf_6 rfl rfl (Or.inl rfl) wd_fl_X7_52 dX7_init_84 rfl ?_
    refine V_iconst 0 88 dX7_init_87 rfl kiconst_0 ?_
    refine V_istore_n [(1, .int 0), (0, .ref t)] 89 dX7_init_88 rfl (by decide) rfl rfl ?_
    obtain ⟨p56, h57, hf⟩ := ob hf
    refine V_ls [(1, .int 0), (0, .ref t)] [0, 1] rfl ?_
    refine L89 8 ((((((((((0 + 1) + 34) + 1) + 1) + 1) + 1) + 1) + 1) + 1) + 1) ((((((((((0 + 11) + 10229) + 8) + 6) + 30) + 4) + 7) + 24) + 8) + 30) 0 s42 p56 h57 (by omega) (by omega) ?_
    have er := Option.some.inj hf
    subst er
    exact V_vret hQ rfl dX7_init_117
  · rw [if_neg hg] at hf
    cases hf
abbrev mi_X7_outside : MI := (yX7_outside, cX7_outside, 3, some .boolean)
theorem ok_X7_outside : OkN mi_X7_outside 3 := ⟨wd_cd_X7_outside, wd_in_X7, ⟨by decide +kernel, by decide +kernel, by decide +kernel⟩, by decide⟩
theorem oks_X7_outside : Cond.static (mi_X7_outside).1 ∈ tb := wd_sm_X7_outside
def f_X7_outside (σ : St) (a0 : Int32) (a1 : Int32) (a2 : Int32) : Option Int32 := (zr (if a0 < a1 then 1 else (if a0 ≤ a2 then 0 else 1) : Int32)).bind fun z1 => some (if a0 < a1 then 1 else (if a0 ≤ a2 then 0 else 1) : Int32)
set_option maxRecDepth 100000 in
set_option maxHeartbeats 4000000 in
theorem c_X7_outside (l : Launch) (G : Gd) (d : Nat) (σ : St) (a0 : Int32) (a1 : Int32) (a2 : Int32) (r0 : Int32) (hf : f_X7_outside σ a0 a1 a2 = some r0) : MetV l G (d + 1) mi_X7_outside [.int a0, .int a1, .int a2] σ (some (.int r0)) σ 0 0 := by
  unfold f_X7_outside at hf
  refine MetV.of [(0, .int a0), (1, .int a1), (2, .int a2)] (by decide +kernel) rfl (Nat.le_of_ble_eq_true rfl) ?_
  intro X hQ
  refine V_iload_n 0 1 rfl dX7_outside_0 rfl rfl ?_
  refine V_iload_n 1 2 rfl dX7_outside_1 rfl rfl ?_
  have kj3 : V mi_X7_outside l G (d + 1) 0 0 X 0 0 15 [(0, .int a0), (1, .int a1), (2, .int a2)] [.int (if a0 < a1 then 1 else (if a0 ≤ a2 then 0 else 1) : Int32)] σ := by
    obtain ⟨z1, h2, hf⟩ := ob hf
    have er := Option.some.inj hf
    subst er
    exact V_zret (zr_ok h2) hQ rfl dX7_outside_15
  refine V_icmp_lt 10 5 dX7_outside_2 (by decide) rfl (fun c4 => ?_) (fun c4 => ?_)
  · refine V_iconst 1 11 dX7_outside_10 rfl kiconst_1 ?_
    refine V_goto 15 dX7_outside_11 (by decide) ?_
    refine V_ls [(0, .int a0), (1, .int a1), (2, .int a2)] [0, 1, 2] rfl ?_
    simp only [if_pos c4] at kj3
    exact kj3
  · refine V_iload_n 0 6 rfl dX7_outside_5 rfl rfl ?_
    refine V_iload_n 2 7 rfl dX7_outside_6 rfl rfl ?_
    refine V_icmp_le 14 10 dX7_outside_7 (by decide) rfl (fun c5 => ?_) (fun c5 => ?_)
    · refine V_iconst 0 15 dX7_outside_14 rfl kiconst_0 ?_
      refine V_ls [(0, .int a0), (1, .int a1), (2, .int a2)] [0, 1, 2] rfl ?_
      simp only [if_neg c4, if_pos c5] at kj3
      exact kj3
    · refine V_iconst 1 11 dX7_outside_10 rfl kiconst_1 ?_
      refine V_goto 15 dX7_outside_11 (by decide) ?_
      refine V_ls [(0, .int a0), (1, .int a1), (2, .int a2)] [0, 1, 2] rfl ?_
      simp only [if_neg c4, if_neg c5] at kj3
      exact kj3
abbrev mi_X7_fails : MI := (yX7_fails, cX7_fails, 3, some .int)
theorem ok_X7_fails : OkN mi_X7_fails 1 := ⟨wd_cd_X7_fails, wd_in_X7, ⟨by decide +kernel, by decide +kernel, by decide +kernel⟩, by decide⟩
theorem okv_X7_fails : Cond.instanceMethod (mi_X7_fails).1 ∈ tb ∧ Cond.selects (mi_X7_fails).1.cls (mi_X7_fails).1 (mi_X7_fails).1 ∈ tb := ⟨wd_im_X7_fails, wd_se_X7_fails⟩
def f_X7_fails (σ : St) (t : Nat) (a0 : Int32) : Option (Int32 × St) := if isO σ 6 t = true then ((f_X7_outside σ ((-1000000 : Int32) - a0) 1 6).bind fun v2 => if v2 = 0 then ((gQ σ 6 t 4).bind fun q5 => (aI σ 0 q5 ((-1000000 : Int32) - a0)).bind fun v7 => (sI σ q5 ((-1000000 : Int32) - a0) (v7 + 1)).bind fun s9 => some (a0, s9)) else (some (a0, σ))) else none
theorem gd_X7_fails {σ : St} {t : Nat} {a0 : Int32} {r : Int32 × St} (h : f_X7_fails σ t a0 = some r) : isO σ 6 t = true := by
  unfold f_X7_fails at h
  by_cases hg : isO σ 6 t = true
  · exact hg
  · rw [if_neg hg] at h
    cases h
set_option maxRecDepth 100000 in
set_option maxHeartbeats 4000000 in
theorem c_X7_fails (l : Launch) (G : Gd) (d : Nat) (σ : St) (t : Nat) (a0 : Int32) (r0 : Int32) (σ' : St) (hf : f_X7_fails σ t a0 = some (r0, σ')) : MetV l G (d + 2) mi_X7_fails [.ref t, .int a0] σ (some (.int r0)) σ' 0 0 := by
  unfold f_X7_fails at hf
  refine MetV.of [(0, .ref t), (1, .int a0)] (by decide +kernel) rfl (Nat.le_of_ble_eq_true rfl) ?_
  intro X hQ
  by_cases hg : isO σ 6 t = true
  · rw [if_pos hg] at hf
    refine V_ldc_w (-1000000) 3 dX7_fails_0 rfl wd_kk_X7_359 ?_
    refine V_iload_n 1 4 rfl dX7_fails_3 rfl rfl ?_
    refine V_isub 5 dX7_fails_4 rfl ?_
    refine V_istore_n [(2, .int ((-1000000 : Int32) - a0)), (0, .ref t), (1, .int a0)] 6 dX7_fails_5 rfl (by decide) rfl rfl ?_
    refine V_iload_n 0 7 rfl dX7_fails_6 rfl rfl ?_
    refine V_iconst 1 8 dX7_fails_7 rfl kiconst_1 ?_
    refine V_bipush 6 10 dX7_fails_8 rfl kbipush_6 ?_
    obtain ⟨v2, h1, hf⟩ := ob hf
    refine V_callS (rest := []) 0 0 13 [.int v2] (c_X7_outside l G (d + 0) _ _ _ _ _ h1) (by omega) ok_X7_outside oks_X7_outside wd_ml_X7_57 rfl rfl (Nat.le_of_ble_eq_true rfl) rfl rfl (Or.inl ⟨rfl, rfl⟩) dX7_fails_10 rfl rfl ?_
    refine V_if_ne 26 16 dX7_fails_13 (by decide) rfl (fun c3 => ?_) (fun c3 => ?_)
    · rw [if_neg c3] at hf
      refine V_iload_n 2 27 rfl dX7_fails_26 rfl rfl ?_
      have er := Option.some.inj hf
      obtain ⟨e1, e2⟩ := Prod.mk.inj er
      subst e1
      subst e2
      exact V_iret hQ rfl dX7_fails_27
    · rw [if_pos c3] at hf
      refine V_aload_n 1 17 rfl dX7_fails_16 rfl rfl ?_
      obtain ⟨q5, h4, hf⟩ := ob hf
      refine V_getQ (n := 10) (ty := tyX7) 20 h4 cf_6 rfl wd_fl_X7_36 dX7_fails_17 rfl ?_
      refine V_iload_n 0 21 rfl dX7_fails_20 rfl rfl ?_
      refine V_dup2 22 dX7_fails_21 rfl rfl rfl ?_
      obtain ⟨v7, h6, hf⟩ := ob hf
      refine V_iald 23 h6 dX7_fails_22 rfl ?_
      refine V_iconst 1 24 dX7_fails_23 rfl kiconst_1 ?_
      refine V_iadd 25 dX7_fails_24 rfl ?_
      obtain ⟨s9, h8, hf⟩ := ob hf
      refine V_iast 26 h8 dX7_fails_25 rfl ?_
      refine V_iload_n 2 27 rfl dX7_fails_26 rfl rfl ?_
      have er := Option.some.inj hf
      obtain ⟨e1, e2⟩ := Prod.mk.inj er
      subst e1
      subst e2
      exact V_iret hQ rfl dX7_fails_27
  · rw [if_neg hg] at hf
    cases hf
abbrev mi_X7_machine : MI := (yX7_machine, cX7_machine, 5, some .int)
theorem ok_X7_machine : OkN mi_X7_machine 3 := ⟨wd_cd_X7_machine, wd_in_X7, ⟨by decide +kernel, by decide +kernel, by decide +kernel⟩, by decide⟩
theorem okv_X7_machine : Cond.instanceMethod (mi_X7_machine).1 ∈ tb ∧ Cond.selects (mi_X7_machine).1.cls (mi_X7_machine).1 (mi_X7_machine).1 ∈ tb := ⟨wd_im_X7_machine, wd_se_X7_machine⟩
def f_X7_machine (σ : St) (t : Nat) (a0 : Int32) (a1 : Int32) (a2 : Int32) : Option (Int32 × St) := if isO σ 6 t = true then ((f_X7_outside σ a0 0 3).bind fun v2 => if v2 = 0 then ((f_X7_outside σ a1 0 2).bind fun v7 => if v7 = 0 then ((oI 0 3 a1).bind fun v12 => (oI 1 3 a1).bind fun v14 => (f_X7_outside σ a2 v12 v14).bind fun v16 => if v16 = 0 then ((gQ σ 6 t 0).bind fun q19 => (gQ σ 3 q19 0).bind fun q21 => (f_X5_at σ q21 a0 a1).bind fun v23 => (gQ σ 6 t 0).bind fun q25 => (gQ σ 3 q25 0).bind fun q27 => (f_X5_set σ q27 a0 a1 a2).bind fun s29 => some (v23, s29)) else ((f_X7_fails σ t (-1000001)).bind fun p31 => some (p31.1, p31.2))) else ((f_X7_fails σ t (-1000001)).bind fun p10 => some (p10.1, p10.2))) else ((f_X7_fails σ t (-1000001)).bind fun p5 => some (p5.1, p5.2))) else none
theorem gd_X7_machine {σ : St} {t : Nat} {a0 : Int32} {a1 : Int32} {a2 : Int32} {r : Int32 × St} (h : f_X7_machine σ t a0 a1 a2 = some r) : isO σ 6 t = true := by
  unfold f_X7_machine at h
  by_cases hg : isO σ 6 t = true
  · exact hg
  · rw [if_neg hg] at h
    cases h
set_option maxRecDepth 100000 in
set_option maxHeartbeats 4000000 in
theorem c_X7_machine (l : Launch) (G : Gd) (d : Nat) (σ : St) (t : Nat) (a0 : Int32) (a1 : Int32) (a2 : Int32) (r0 : Int32) (σ' : St) (hf : f_X7_machine σ t a0 a1 a2 = some (r0, σ')) : MetV l G (d + 3) mi_X7_machine [.ref t, .int a0, .int a1, .int a2] σ (some (.int r0)) σ' 0 0 := by
  unfold f_X7_machine at hf
  refine MetV.of [(0, .ref t), (1, .int a0), (2, .int a1), (3, .int a2)] (by decide +kernel) rfl (Nat.le_of_ble_eq_true rfl) ?_
  intro X hQ
  by_cases hg : isO σ 6 t = true
  · rw [if_pos hg] at hf
    refine V_iload_n 1 1 rfl dX7_machine_0 rfl rfl ?_
    refine V_iconst 0 2 dX7_machine_1 rfl kiconst_0 ?_
    refine V_iconst 3 3 dX7_machine_2 rfl kiconst_3 ?_
    obtain ⟨v2, h1, hf⟩ := ob hf
    refine V_callS (rest := []) 0 0 6 [.int v2] (c_X7_outside l G (d + 1) _ _ _ _ _ h1) (by omega) ok_X7_outside oks_X7_outside wd_ml_X7_57 rfl rfl (Nat.le_of_ble_eq_true rfl) rfl rfl (Or.inl ⟨rfl, rfl⟩) dX7_machine_3 rfl rfl ?_
    refine V_if_ne 35 9 dX7_machine_6 (by decide) rfl (fun c3 => ?_) (fun c3 => ?_)
    · rw [if_neg c3] at hf
      refine V_aload_n 0 36 rfl dX7_machine_35 rfl rfl ?_
      refine V_ldc (-1000001) 38 dX7_machine_36 rfl wd_kk_X7_67 ?_
      obtain ⟨p5, h4, hf⟩ := ob hf
      refine V_callV (rest := []) (T := TX7) (n := 10) (ci := 6) 0 0 41 [.int p5.1] (c_X7_fails l G (d + 0) _ _ _ _ _ h4) (by omega) ok_X7_fails okv_X7_fails (gd_X7_fails h4) rfl wd_ml_X7_68 rfl rfl (Nat.le_of_ble_eq_true rfl) rfl rfl (Or.inl ⟨rfl, rfl⟩) dX7_machine_38 rfl rfl ?_
      have er := Option.some.inj hf
      obtain ⟨e1, e2⟩ := Prod.mk.inj er
      subst e1
      subst e2
      exact V_iret hQ rfl dX7_machine_41
    · rw [if_pos c3] at hf
      refine V_iload_n 2 10 rfl dX7_machine_9 rfl rfl ?_
      refine V_iconst 0 11 dX7_machine_10 rfl kiconst_0 ?_
      refine V_iconst 2 12 dX7_machine_11 rfl kiconst_2 ?_
      obtain ⟨v7, h6, hf⟩ := ob hf
      refine V_callS (rest := []) 0 0 15 [.int v7] (c_X7_outside l G (d + 1) _ _ _ _ _ h6) (by omega) ok_X7_outside oks_X7_outside wd_ml_X7_57 rfl rfl (Nat.le_of_ble_eq_true rfl) rfl rfl (Or.inl ⟨rfl, rfl⟩) dX7_machine_12 rfl rfl ?_
      refine V_if_ne 35 18 dX7_machine_15 (by decide) rfl (fun c8 => ?_) (fun c8 => ?_)
      · rw [if_neg c8] at hf
        refine V_aload_n 0 36 rfl dX7_machine_35 rfl rfl ?_
        refine V_ldc (-1000001) 38 dX7_machine_36 rfl wd_kk_X7_67 ?_
        obtain ⟨p10, h9, hf⟩ := ob hf
        refine V_callV (rest := []) (T := TX7) (n := 10) (ci := 6) 0 0 41 [.int p10.1] (c_X7_fails l G (d + 0) _ _ _ _ _ h9) (by omega) ok_X7_fails okv_X7_fails (gd_X7_fails h9) rfl wd_ml_X7_68 rfl rfl (Nat.le_of_ble_eq_true rfl) rfl rfl (Or.inl ⟨rfl, rfl⟩) dX7_machine_38 rfl rfl ?_
        have er := Option.some.inj hf
        obtain ⟨e1, e2⟩ := Prod.mk.inj er
        subst e1
        subst e2
        exact V_iret hQ rfl dX7_machine_41
      · rw [if_pos c8] at hf
        refine V_iload_n 3 19 rfl dX7_machine_18 rfl rfl ?_
        refine V_gets 22 (fun s h => h.1) (by decide) wd_fl_X7_61 dX7_machine_19 rfl ?_
        refine V_iload_n 2 23 rfl dX7_machine_22 rfl rfl ?_
        obtain ⟨v12, h11, hf⟩ := ob hf
        refine V_oald 24 h11 (fun s h => h.1) dX7_machine_23 rfl ?_
        refine V_gets 27 (fun s h => h.2.1) (by decide) wd_fl_X7_64 dX7_machine_24 rfl ?_
        refine V_iload_n 2 28 rfl dX7_machine_27 rfl rfl ?_
        obtain ⟨v14, h13, hf⟩ := ob hf
        refine V_oald 29 h13 (fun s h => h.2.1) dX7_machine_28 rfl ?_
        obtain ⟨v16, h15, hf⟩ := ob hf
        refine V_callS (rest := []) 0 0 32 [.int v16] (c_X7_outside l G (d + 1) _ _ _ _ _ h15) (by omega) ok_X7_outside oks_X7_outside wd_ml_X7_57 rfl rfl (Nat.le_of_ble_eq_true rfl) rfl rfl (Or.inl ⟨rfl, rfl⟩) dX7_machine_29 rfl rfl ?_
        refine V_if_eq 42 35 dX7_machine_32 (by decide) rfl (fun c17 => ?_) (fun c17 => ?_)
        · rw [if_pos c17] at hf
          refine V_aload_n 0 43 rfl dX7_machine_42 rfl rfl ?_
          obtain ⟨q19, h18, hf⟩ := ob hf
          refine V_getQ (n := 10) (ty := tyX7) 46 h18 cf_6 rfl wd_fl_X7_12 dX7_machine_43 rfl ?_
          obtain ⟨q21, h20, hf⟩ := ob hf
          refine V_getQ (n := 11) (ty := tyX4) 49 h20 cf_3 rfl wd_fl_X7_72 dX7_machine_46 rfl ?_
          refine V_iload_n 1 50 rfl dX7_machine_49 rfl rfl ?_
          refine V_iload_n 2 51 rfl dX7_machine_50 rfl rfl ?_
          obtain ⟨v23, h22, hf⟩ := ob hf
          refine V_callV (rest := []) (T := TX5) (n := 4) (ci := 4) 0 0 54 [.int v23] (c_X5_at l G (d + 1) _ _ _ _ _ h22) (by omega) ok_X5_at okv_X5_at (gd_X5_at h22) rfl wd_ml_X7_76 rfl rfl (Nat.le_of_ble_eq_true rfl) rfl rfl (Or.inl ⟨rfl, rfl⟩) dX7_machine_51 rfl rfl ?_
          refine V_istore [(4, .int v23), (0, .ref t), (1, .int a0), (2, .int a1), (3, .int a2)] 56 dX7_machine_54 (by decide) rfl rfl ?_
          refine V_aload_n 1 57 rfl dX7_machine_56 rfl rfl ?_
          obtain ⟨q25, h24, hf⟩ := ob hf
          refine V_getQ (n := 10) (ty := tyX7) 60 h24 cf_6 rfl wd_fl_X7_12 dX7_machine_57 rfl ?_
          obtain ⟨q27, h26, hf⟩ := ob hf
          refine V_getQ (n := 11) (ty := tyX4) 63 h26 cf_3 rfl wd_fl_X7_72 dX7_machine_60 rfl ?_
          refine V_iload_n 2 64 rfl dX7_machine_63 rfl rfl ?_
          refine V_iload_n 3 65 rfl dX7_machine_64 rfl rfl ?_
          refine V_iload_n 4 66 rfl dX7_machine_65 rfl rfl ?_
          obtain ⟨s29, h28, hf⟩ := ob hf
          refine V_callV (rest := []) (T := TX5) (n := 4) (ci := 4) 0 0 69 [] (c_X5_set l G (d + 1) _ _ _ _ _ _ h28) (by omega) ok_X5_set okv_X5_set (gd_X5_set h28) rfl wd_ml_X7_82 rfl rfl (Nat.le_of_ble_eq_true rfl) rfl rfl (Or.inl ⟨rfl, rfl⟩) dX7_machine_66 rfl rfl ?_
          refine V_iload 0 71 rfl dX7_machine_69 rfl ?_
          have er := Option.some.inj hf
          obtain ⟨e1, e2⟩ := Prod.mk.inj er
          subst e1
          subst e2
          exact V_iret hQ rfl dX7_machine_71
        · rw [if_neg c17] at hf
          refine V_aload_n 0 36 rfl dX7_machine_35 rfl rfl ?_
          refine V_ldc (-1000001) 38 dX7_machine_36 rfl wd_kk_X7_67 ?_
          obtain ⟨p31, h30, hf⟩ := ob hf
          refine V_callV (rest := []) (T := TX7) (n := 10) (ci := 6) 0 0 41 [.int p31.1] (c_X7_fails l G (d + 0) _ _ _ _ _ h30) (by omega) ok_X7_fails okv_X7_fails (gd_X7_fails h30) rfl wd_ml_X7_68 rfl rfl (Nat.le_of_ble_eq_true rfl) rfl rfl (Or.inl ⟨rfl, rfl⟩) dX7_machine_38 rfl rfl ?_
          have er := Option.some.inj hf
          obtain ⟨e1, e2⟩ := Prod.mk.inj er
          subst e1
          subst e2
          exact V_iret hQ rfl dX7_machine_41
  · rw [if_neg hg] at hf
    cases hf
abbrev mi_X7_draws : MI := (yX7_draws, cX7_draws, 3, some .int)
theorem ok_X7_draws : OkN mi_X7_draws 1 := ⟨wd_cd_X7_draws, wd_in_X7, ⟨by decide +kernel, by decide +kernel, by decide +kernel⟩, by decide⟩
theorem okv_X7_draws : Cond.instanceMethod (mi_X7_draws).1 ∈ tb ∧ Cond.selects (mi_X7_draws).1.cls (mi_X7_draws).1 (mi_X7_draws).1 ∈ tb := ⟨wd_im_X7_draws, wd_se_X7_draws⟩
def f_X7_draws (σ : St) (t : Nat) (a0 : Int32) : Option (Int32 × St) := if isO σ 6 t = true then ((gQ σ 6 t 0).bind fun q2 => (gI σ 3 q2 10).bind fun v4 => (gQ σ 6 t 0).bind fun q6 => (pI σ 3 q6 10 a0).bind fun s8 => some (v4, s8)) else none
theorem gd_X7_draws {σ : St} {t : Nat} {a0 : Int32} {r : Int32 × St} (h : f_X7_draws σ t a0 = some r) : isO σ 6 t = true := by
  unfold f_X7_draws at h
  by_cases hg : isO σ 6 t = true
  · exact hg
  · rw [if_neg hg] at h
    cases h
set_option maxRecDepth 100000 in
set_option maxHeartbeats 4000000 in
theorem c_X7_draws (l : Launch) (G : Gd) (d : Nat) (σ : St) (t : Nat) (a0 : Int32) (r0 : Int32) (σ' : St) (hf : f_X7_draws σ t a0 = some (r0, σ')) : MetV l G (d + 1) mi_X7_draws [.ref t, .int a0] σ (some (.int r0)) σ' 0 0 := by
  unfold f_X7_draws at hf
  refine MetV.of [(0, .ref t), (1, .int a0)] (by decide +kernel) rfl (Nat.le_of_ble_eq_true rfl) ?_
  intro X hQ
  by_cases hg : isO σ 6 t = true
  · rw [if_pos hg] at hf
    refine V_aload_n 0 1 rfl dX7_draws_0 rfl rfl ?_
    obtain ⟨q2, h1, hf⟩ := ob hf
    refine V_getQ (n := 10) (ty := tyX7) 4 h1 cf_6 rfl wd_fl_X7_12 dX7_draws_1 rfl ?_
    obtain ⟨v4, h3, hf⟩ := ob hf
    refine V_getI (n := 11) (ty := tyX4) 7 h3 cf_3 rfl wd_fl_X7_86 dX7_draws_4 rfl ?_
    refine V_istore_n [(2, .int v4), (0, .ref t), (1, .int a0)] 8 dX7_draws_7 rfl (by decide) rfl rfl ?_
    refine V_aload_n 1 9 rfl dX7_draws_8 rfl rfl ?_
    obtain ⟨q6, h5, hf⟩ := ob hf
    refine V_getQ (n := 10) (ty := tyX7) 12 h5 cf_6 rfl wd_fl_X7_12 dX7_draws_9 rfl ?_
    refine V_iload_n 2 13 rfl dX7_draws_12 rfl rfl ?_
    obtain ⟨s8, h7, hf⟩ := ob hf
    refine V_putI (n := 11) (T := TX4) (ty := tyX4) (f := 10) 16 h7 cf_3 rfl rfl (Or.inl rfl) wd_fl_X7_86 dX7_draws_13 rfl ?_
    refine V_iload_n 0 17 rfl dX7_draws_16 rfl rfl ?_
    have er := Option.some.inj hf
    obtain ⟨e1, e2⟩ := Prod.mk.inj er
    subst e1
    subst e2
    exact V_iret hQ rfl dX7_draws_17
  · rw [if_neg hg] at hf
    cases hf
abbrev mi_X7_paper : MI := (yX7_paper, cX7_paper, 5, some .int)
theorem ok_X7_paper : OkN mi_X7_paper 3 := ⟨wd_cd_X7_paper, wd_in_X7, ⟨by decide +kernel, by decide +kernel, by decide +kernel⟩, by decide⟩
theorem okv_X7_paper : Cond.instanceMethod (mi_X7_paper).1 ∈ tb ∧ Cond.selects (mi_X7_paper).1.cls (mi_X7_paper).1 (mi_X7_paper).1 ∈ tb := ⟨wd_im_X7_paper, wd_se_X7_paper⟩
def f_X7_paper (σ : St) (t : Nat) (a0 : Int32) (a1 : Int32) (a2 : Int32) : Option (Int32 × St) := if isO σ 6 t = true then ((f_X7_outside σ a0 0 999).bind fun v2 => if v2 = 0 then ((f_X7_outside σ a1 1 255).bind fun v7 => if v7 = 0 then ((f_X7_outside σ a2 1 99).bind fun v12 => if v12 = 0 then ((gQ σ 6 t 0).bind fun q15 => (gQ σ 3 q15 1).bind fun q17 => (f_X5_isFull σ q17).bind fun v19 => if v19 = 0 then ((gQ σ 6 t 0).bind fun q22 => (gQ σ 3 q22 1).bind fun q24 => (f_X5_add σ q24).bind fun p26 => (gQ p26.2 6 t 0).bind fun q28 => (gQ p26.2 3 q28 1).bind fun q30 => (f_X5_set p26.2 q30 p26.1 0 a0).bind fun s32 => (gQ s32 6 t 0).bind fun q34 => (gQ s32 3 q34 1).bind fun q36 => (f_X5_set s32 q36 p26.1 1 a1).bind fun s38 => (gQ s38 6 t 0).bind fun q40 => (gQ s38 3 q40 1).bind fun q42 => (f_X5_set s38 q42 p26.1 2 a2).bind fun s44 => some (p26.1, s44)) else ((f_X7_fails σ t (-1000004)).bind fun p46 => some (p46.1, p46.2))) else ((f_X7_fails σ t (-1000001)).bind fun p48 => some (p48.1, p48.2))) else ((f_X7_fails σ t (-1000001)).bind fun p10 => some (p10.1, p10.2))) else ((f_X7_fails σ t (-1000001)).bind fun p5 => some (p5.1, p5.2))) else none
theorem gd_X7_paper {σ : St} {t : Nat} {a0 : Int32} {a1 : Int32} {a2 : Int32} {r : Int32 × St} (h : f_X7_paper σ t a0 a1 a2 = some r) : isO σ 6 t = true := by
  unfold f_X7_paper at h
  by_cases hg : isO σ 6 t = true
  · exact hg
  · rw [if_neg hg] at h
    cases h
set_option maxRecDepth 100000 in
set_option maxHeartbeats 4000000 in
theorem c_X7_paper (l : Launch) (G : Gd) (d : Nat) (σ : St) (t : Nat) (a0 : Int32) (a1 : Int32) (a2 : Int32) (r0 : Int32) (σ' : St) (hf : f_X7_paper σ t a0 a1 a2 = some (r0, σ')) : MetV l G (d + 3) mi_X7_paper [.ref t, .int a0, .int a1, .int a2] σ (some (.int r0)) σ' 0 0 := by
  unfold f_X7_paper at hf
  refine MetV.of [(0, .ref t), (1, .int a0), (2, .int a1), (3, .int a2)] (by decide +kernel) rfl (Nat.le_of_ble_eq_true rfl) ?_
  intro X hQ
  by_cases hg : isO σ 6 t = true
  · rw [if_pos hg] at hf
    refine V_iload_n 1 1 rfl dX7_paper_0 rfl rfl ?_
    refine V_iconst 0 2 dX7_paper_1 rfl kiconst_0 ?_
    refine V_sipush 999 5 dX7_paper_2 rfl ksipush_999 ?_
    obtain ⟨v2, h1, hf⟩ := ob hf
    refine V_callS (rest := []) 0 0 8 [.int v2] (c_X7_outside l G (d + 1) _ _ _ _ _ h1) (by omega) ok_X7_outside oks_X7_outside wd_ml_X7_57 rfl rfl (Nat.le_of_ble_eq_true rfl) rfl rfl (Or.inl ⟨rfl, rfl⟩) dX7_paper_5 rfl rfl ?_
    refine V_if_ne 32 11 dX7_paper_8 (by decide) rfl (fun c3 => ?_) (fun c3 => ?_)
    · rw [if_neg c3] at hf
      refine V_aload_n 0 33 rfl dX7_paper_32 rfl rfl ?_
      refine V_ldc (-1000001) 35 dX7_paper_33 rfl wd_kk_X7_67 ?_
      obtain ⟨p5, h4, hf⟩ := ob hf
      refine V_callV (rest := []) (T := TX7) (n := 10) (ci := 6) 0 0 38 [.int p5.1] (c_X7_fails l G (d + 0) _ _ _ _ _ h4) (by omega) ok_X7_fails okv_X7_fails (gd_X7_fails h4) rfl wd_ml_X7_68 rfl rfl (Nat.le_of_ble_eq_true rfl) rfl rfl (Or.inl ⟨rfl, rfl⟩) dX7_paper_35 rfl rfl ?_
      have er := Option.some.inj hf
      obtain ⟨e1, e2⟩ := Prod.mk.inj er
      subst e1
      subst e2
      exact V_iret hQ rfl dX7_paper_38
    · rw [if_pos c3] at hf
      refine V_iload_n 2 12 rfl dX7_paper_11 rfl rfl ?_
      refine V_iconst 1 13 dX7_paper_12 rfl kiconst_1 ?_
      refine V_sipush 255 16 dX7_paper_13 rfl ksipush_255 ?_
      obtain ⟨v7, h6, hf⟩ := ob hf
      refine V_callS (rest := []) 0 0 19 [.int v7] (c_X7_outside l G (d + 1) _ _ _ _ _ h6) (by omega) ok_X7_outside oks_X7_outside wd_ml_X7_57 rfl rfl (Nat.le_of_ble_eq_true rfl) rfl rfl (Or.inl ⟨rfl, rfl⟩) dX7_paper_16 rfl rfl ?_
      refine V_if_ne 32 22 dX7_paper_19 (by decide) rfl (fun c8 => ?_) (fun c8 => ?_)
      · rw [if_neg c8] at hf
        refine V_aload_n 0 33 rfl dX7_paper_32 rfl rfl ?_
        refine V_ldc (-1000001) 35 dX7_paper_33 rfl wd_kk_X7_67 ?_
        obtain ⟨p10, h9, hf⟩ := ob hf
        refine V_callV (rest := []) (T := TX7) (n := 10) (ci := 6) 0 0 38 [.int p10.1] (c_X7_fails l G (d + 0) _ _ _ _ _ h9) (by omega) ok_X7_fails okv_X7_fails (gd_X7_fails h9) rfl wd_ml_X7_68 rfl rfl (Nat.le_of_ble_eq_true rfl) rfl rfl (Or.inl ⟨rfl, rfl⟩) dX7_paper_35 rfl rfl ?_
        have er := Option.some.inj hf
        obtain ⟨e1, e2⟩ := Prod.mk.inj er
        subst e1
        subst e2
        exact V_iret hQ rfl dX7_paper_38
      · rw [if_pos c8] at hf
        refine V_iload_n 3 23 rfl dX7_paper_22 rfl rfl ?_
        refine V_iconst 1 24 dX7_paper_23 rfl kiconst_1 ?_
        refine V_bipush 99 26 dX7_paper_24 rfl kbipush_99 ?_
        obtain ⟨v12, h11, hf⟩ := ob hf
        refine V_callS (rest := []) 0 0 29 [.int v12] (c_X7_outside l G (d + 1) _ _ _ _ _ h11) (by omega) ok_X7_outside oks_X7_outside wd_ml_X7_57 rfl rfl (Nat.le_of_ble_eq_true rfl) rfl rfl (Or.inl ⟨rfl, rfl⟩) dX7_paper_26 rfl rfl ?_
        refine V_if_eq 39 32 dX7_paper_29 (by decide) rfl (fun c13 => ?_) (fun c13 => ?_)
        · rw [if_pos c13] at hf
          refine V_aload_n 0 40 rfl dX7_paper_39 rfl rfl ?_
          obtain ⟨q15, h14, hf⟩ := ob hf
          refine V_getQ (n := 10) (ty := tyX7) 43 h14 cf_6 rfl wd_fl_X7_12 dX7_paper_40 rfl ?_
          obtain ⟨q17, h16, hf⟩ := ob hf
          refine V_getQ (n := 11) (ty := tyX4) 46 h16 cf_3 rfl wd_fl_X7_89 dX7_paper_43 rfl ?_
          obtain ⟨v19, h18, hf⟩ := ob hf
          refine V_callV (rest := []) (T := TX5) (n := 4) (ci := 4) 0 0 49 [.int v19] (c_X5_isFull l G (d + 1) _ _ _ h18) (by omega) ok_X5_isFull okv_X5_isFull (gd_X5_isFull h18) rfl wd_ml_X7_92 rfl rfl (Nat.le_of_ble_eq_true rfl) rfl rfl (Or.inl ⟨rfl, rfl⟩) dX7_paper_46 rfl rfl ?_
          refine V_if_eq 59 52 dX7_paper_49 (by decide) rfl (fun c20 => ?_) (fun c20 => ?_)
          · rw [if_pos c20] at hf
            refine V_aload_n 0 60 rfl dX7_paper_59 rfl rfl ?_
            obtain ⟨q22, h21, hf⟩ := ob hf
            refine V_getQ (n := 10) (ty := tyX7) 63 h21 cf_6 rfl wd_fl_X7_12 dX7_paper_60 rfl ?_
            obtain ⟨q24, h23, hf⟩ := ob hf
            refine V_getQ (n := 11) (ty := tyX4) 66 h23 cf_3 rfl wd_fl_X7_89 dX7_paper_63 rfl ?_
            obtain ⟨p26, h25, hf⟩ := ob hf
            refine V_callV (rest := []) (T := TX5) (n := 4) (ci := 4) 0 0 69 [.int p26.1] (c_X5_add l G (d + 1) _ _ _ _ h25) (by omega) ok_X5_add okv_X5_add (gd_X5_add h25) rfl wd_ml_X7_97 rfl rfl (Nat.le_of_ble_eq_true rfl) rfl rfl (Or.inl ⟨rfl, rfl⟩) dX7_paper_66 rfl rfl ?_
            refine V_istore [(4, .int p26.1), (0, .ref t), (1, .int a0), (2, .int a1), (3, .int a2)] 71 dX7_paper_69 (by decide) rfl rfl ?_
            refine V_aload_n 1 72 rfl dX7_paper_71 rfl rfl ?_
            obtain ⟨q28, h27, hf⟩ := ob hf
            refine V_getQ (n := 10) (ty := tyX7) 75 h27 cf_6 rfl wd_fl_X7_12 dX7_paper_72 rfl ?_
            obtain ⟨q30, h29, hf⟩ := ob hf
            refine V_getQ (n := 11) (ty := tyX4) 78 h29 cf_3 rfl wd_fl_X7_89 dX7_paper_75 rfl ?_
            refine V_iload 0 80 rfl dX7_paper_78 rfl ?_
            refine V_iconst 0 81 dX7_paper_80 rfl kiconst_0 ?_
            refine V_iload_n 2 82 rfl dX7_paper_81 rfl rfl ?_
            obtain ⟨s32, h31, hf⟩ := ob hf
            refine V_callV (rest := []) (T := TX5) (n := 4) (ci := 4) 0 0 85 [] (c_X5_set l G (d + 1) _ _ _ _ _ _ h31) (by omega) ok_X5_set okv_X5_set (gd_X5_set h31) rfl wd_ml_X7_82 rfl rfl (Nat.le_of_ble_eq_true rfl) rfl rfl (Or.inl ⟨rfl, rfl⟩) dX7_paper_82 rfl rfl ?_
            refine V_aload_n 1 86 rfl dX7_paper_85 rfl rfl ?_
            obtain ⟨q34, h33, hf⟩ := ob hf
            refine V_getQ (n := 10) (ty := tyX7) 89 h33 cf_6 rfl wd_fl_X7_12 dX7_paper_86 rfl ?_
            obtain ⟨q36, h35, hf⟩ := ob hf
            refine V_getQ (n := 11) (ty := tyX4) 92 h35 cf_3 rfl wd_fl_X7_89 dX7_paper_89 rfl ?_
            refine V_iload 0 94 rfl dX7_paper_92 rfl ?_
            refine V_iconst 1 95 dX7_paper_94 rfl kiconst_1 ?_
            refine V_iload_n 3 96 rfl dX7_paper_95 rfl rfl ?_
            obtain ⟨s38, h37, hf⟩ := ob hf
            refine V_callV (rest := []) (T := TX5) (n := 4) (ci := 4) 0 0 99 [] (c_X5_set l G (d + 1) _ _ _ _ _ _ h37) (by omega) ok_X5_set okv_X5_set (gd_X5_set h37) rfl wd_ml_X7_82 rfl rfl (Nat.le_of_ble_eq_true rfl) rfl rfl (Or.inl ⟨rfl, rfl⟩) dX7_paper_96 rfl rfl ?_
            refine V_aload_n 1 100 rfl dX7_paper_99 rfl rfl ?_
            obtain ⟨q40, h39, hf⟩ := ob hf
            refine V_getQ (n := 10) (ty := tyX7) 103 h39 cf_6 rfl wd_fl_X7_12 dX7_paper_100 rfl ?_
            obtain ⟨q42, h41, hf⟩ := ob hf
            refine V_getQ (n := 11) (ty := tyX4) 106 h41 cf_3 rfl wd_fl_X7_89 dX7_paper_103 rfl ?_
            refine V_iload 0 108 rfl dX7_paper_106 rfl ?_
            refine V_iconst 2 109 dX7_paper_108 rfl kiconst_2 ?_
            refine V_iload_n 4 110 rfl dX7_paper_109 rfl rfl ?_
            obtain ⟨s44, h43, hf⟩ := ob hf
            refine V_callV (rest := []) (T := TX5) (n := 4) (ci := 4) 0 0 113 [] (c_X5_set l G (d + 1) _ _ _ _ _ _ h43) (by omega) ok_X5_set okv_X5_set (gd_X5_set h43) rfl wd_ml_X7_82 rfl rfl (Nat.le_of_ble_eq_true rfl) rfl rfl (Or.inl ⟨rfl, rfl⟩) dX7_paper_110 rfl rfl ?_
            refine V_iload 0 115 rfl dX7_paper_113 rfl ?_
            have er := Option.some.inj hf
            obtain ⟨e1, e2⟩ := Prod.mk.inj er
            subst e1
            subst e2
            exact V_iret hQ rfl dX7_paper_115
          · rw [if_neg c20] at hf
            refine V_aload_n 0 53 rfl dX7_paper_52 rfl rfl ?_
            refine V_ldc (-1000004) 55 dX7_paper_53 rfl wd_kk_X7_96 ?_
            obtain ⟨p46, h45, hf⟩ := ob hf
            refine V_callV (rest := []) (T := TX7) (n := 10) (ci := 6) 0 0 58 [.int p46.1] (c_X7_fails l G (d + 0) _ _ _ _ _ h45) (by omega) ok_X7_fails okv_X7_fails (gd_X7_fails h45) rfl wd_ml_X7_68 rfl rfl (Nat.le_of_ble_eq_true rfl) rfl rfl (Or.inl ⟨rfl, rfl⟩) dX7_paper_55 rfl rfl ?_
            have er := Option.some.inj hf
            obtain ⟨e1, e2⟩ := Prod.mk.inj er
            subst e1
            subst e2
            exact V_iret hQ rfl dX7_paper_58
        · rw [if_neg c13] at hf
          refine V_aload_n 0 33 rfl dX7_paper_32 rfl rfl ?_
          refine V_ldc (-1000001) 35 dX7_paper_33 rfl wd_kk_X7_67 ?_
          obtain ⟨p48, h47, hf⟩ := ob hf
          refine V_callV (rest := []) (T := TX7) (n := 10) (ci := 6) 0 0 38 [.int p48.1] (c_X7_fails l G (d + 0) _ _ _ _ _ h47) (by omega) ok_X7_fails okv_X7_fails (gd_X7_fails h47) rfl wd_ml_X7_68 rfl rfl (Nat.le_of_ble_eq_true rfl) rfl rfl (Or.inl ⟨rfl, rfl⟩) dX7_paper_35 rfl rfl ?_
          have er := Option.some.inj hf
          obtain ⟨e1, e2⟩ := Prod.mk.inj er
          subst e1
          subst e2
          exact V_iret hQ rfl dX7_paper_38
  · rw [if_neg hg] at hf
    cases hf
abbrev mi_X7_paperIs : MI := (yX7_paperIs, cX7_paperIs, 3, some .int)
theorem ok_X7_paperIs : OkN mi_X7_paperIs 2 := ⟨wd_cd_X7_paperIs, wd_in_X7, ⟨by decide +kernel, by decide +kernel, by decide +kernel⟩, by decide⟩
theorem okv_X7_paperIs : Cond.instanceMethod (mi_X7_paperIs).1 ∈ tb ∧ Cond.selects (mi_X7_paperIs).1.cls (mi_X7_paperIs).1 (mi_X7_paperIs).1 ∈ tb := ⟨wd_im_X7_paperIs, wd_se_X7_paperIs⟩
def f_X7_paperIs (σ : St) (t : Nat) (a0 : Int32) (a1 : Int32) : Option (Int32 × St) := if isO σ 6 t = true then ((gQ σ 6 t 0).bind fun q2 => (gQ σ 3 q2 1).bind fun q4 => (f_X5_has σ q4 a0).bind fun v6 => if v6 = 0 then ((f_X7_fails σ t (-1000001)).bind fun p9 => some (p9.1, p9.2)) else ((f_X7_outside σ a1 0 5).bind fun v11 => if v11 = 0 then (if a1 = 5 then ((gQ σ 6 t 0).bind fun q21 => (f_X4_curvesIn σ q21 a0).bind fun v23 => some (v23, σ)) else ((gQ σ 6 t 0).bind fun q15 => (gQ σ 3 q15 1).bind fun q17 => (f_X5_at σ q17 a0 a1).bind fun v19 => some (v19, σ))) else ((f_X7_fails σ t (-1000001)).bind fun p25 => some (p25.1, p25.2)))) else none
theorem gd_X7_paperIs {σ : St} {t : Nat} {a0 : Int32} {a1 : Int32} {r : Int32 × St} (h : f_X7_paperIs σ t a0 a1 = some r) : isO σ 6 t = true := by
  unfold f_X7_paperIs at h
  by_cases hg : isO σ 6 t = true
  · exact hg
  · rw [if_neg hg] at h
    cases h
set_option maxRecDepth 100000 in
set_option maxHeartbeats 4000000 in
theorem c_X7_paperIs (l : Launch) (G : Gd) (d : Nat) (σ : St) (t : Nat) (a0 : Int32) (a1 : Int32) (r0 : Int32) (σ' : St) (hf : f_X7_paperIs σ t a0 a1 = some (r0, σ')) : MetV l G (d + 3) mi_X7_paperIs [.ref t, .int a0, .int a1] σ (some (.int r0)) σ' 0 0 := by
  unfold f_X7_paperIs at hf
  refine MetV.of [(0, .ref t), (1, .int a0), (2, .int a1)] (by decide +kernel) rfl (Nat.le_of_ble_eq_true rfl) ?_
  intro X hQ
  by_cases hg : isO σ 6 t = true
  · rw [if_pos hg] at hf
    refine V_aload_n 0 1 rfl dX7_paperIs_0 rfl rfl ?_
    obtain ⟨q2, h1, hf⟩ := ob hf
    refine V_getQ (n := 10) (ty := tyX7) 4 h1 cf_6 rfl wd_fl_X7_12 dX7_paperIs_1 rfl ?_
    obtain ⟨q4, h3, hf⟩ := ob hf
    refine V_getQ (n := 11) (ty := tyX4) 7 h3 cf_3 rfl wd_fl_X7_89 dX7_paperIs_4 rfl ?_
    refine V_iload_n 1 8 rfl dX7_paperIs_7 rfl rfl ?_
    obtain ⟨v6, h5, hf⟩ := ob hf
    refine V_callV (rest := []) (T := TX5) (n := 4) (ci := 4) 0 0 11 [.int v6] (c_X5_has l G (d + 1) _ _ _ _ h5) (by omega) ok_X5_has okv_X5_has (gd_X5_has h5) rfl wd_ml_X7_101 rfl rfl (Nat.le_of_ble_eq_true rfl) rfl rfl (Or.inl ⟨rfl, rfl⟩) dX7_paperIs_8 rfl rfl ?_
    refine V_if_eq 23 14 dX7_paperIs_11 (by decide) rfl (fun c7 => ?_) (fun c7 => ?_)
    · rw [if_pos c7] at hf
      refine V_aload_n 0 24 rfl dX7_paperIs_23 rfl rfl ?_
      refine V_ldc (-1000001) 26 dX7_paperIs_24 rfl wd_kk_X7_67 ?_
      obtain ⟨p9, h8, hf⟩ := ob hf
      refine V_callV (rest := []) (T := TX7) (n := 10) (ci := 6) 0 0 29 [.int p9.1] (c_X7_fails l G (d + 0) _ _ _ _ _ h8) (by omega) ok_X7_fails okv_X7_fails (gd_X7_fails h8) rfl wd_ml_X7_68 rfl rfl (Nat.le_of_ble_eq_true rfl) rfl rfl (Or.inl ⟨rfl, rfl⟩) dX7_paperIs_26 rfl rfl ?_
      have er := Option.some.inj hf
      obtain ⟨e1, e2⟩ := Prod.mk.inj er
      subst e1
      subst e2
      exact V_iret hQ rfl dX7_paperIs_29
    · rw [if_neg c7] at hf
      refine V_iload_n 2 15 rfl dX7_paperIs_14 rfl rfl ?_
      refine V_iconst 0 16 dX7_paperIs_15 rfl kiconst_0 ?_
      refine V_iconst 5 17 dX7_paperIs_16 rfl kiconst_5 ?_
      obtain ⟨v11, h10, hf⟩ := ob hf
      refine V_callS (rest := []) 0 0 20 [.int v11] (c_X7_outside l G (d + 1) _ _ _ _ _ h10) (by omega) ok_X7_outside oks_X7_outside wd_ml_X7_57 rfl rfl (Nat.le_of_ble_eq_true rfl) rfl rfl (Or.inl ⟨rfl, rfl⟩) dX7_paperIs_17 rfl rfl ?_
      refine V_if_eq 30 23 dX7_paperIs_20 (by decide) rfl (fun c12 => ?_) (fun c12 => ?_)
      · rw [if_pos c12] at hf
        refine V_iload_n 2 31 rfl dX7_paperIs_30 rfl rfl ?_
        refine V_iconst 5 32 dX7_paperIs_31 rfl kiconst_5 ?_
        refine V_icmp_ne 46 35 dX7_paperIs_32 (by decide) rfl (fun c13 => ?_) (fun c13 => ?_)
        · rw [if_neg c13] at hf
          refine V_aload_n 0 47 rfl dX7_paperIs_46 rfl rfl ?_
          obtain ⟨q15, h14, hf⟩ := ob hf
          refine V_getQ (n := 10) (ty := tyX7) 50 h14 cf_6 rfl wd_fl_X7_12 dX7_paperIs_47 rfl ?_
          obtain ⟨q17, h16, hf⟩ := ob hf
          refine V_getQ (n := 11) (ty := tyX4) 53 h16 cf_3 rfl wd_fl_X7_89 dX7_paperIs_50 rfl ?_
          refine V_iload_n 1 54 rfl dX7_paperIs_53 rfl rfl ?_
          refine V_iload_n 2 55 rfl dX7_paperIs_54 rfl rfl ?_
          obtain ⟨v19, h18, hf⟩ := ob hf
          refine V_callV (rest := []) (T := TX5) (n := 4) (ci := 4) 0 0 58 [.int v19] (c_X5_at l G (d + 1) _ _ _ _ _ h18) (by omega) ok_X5_at okv_X5_at (gd_X5_at h18) rfl wd_ml_X7_76 rfl rfl (Nat.le_of_ble_eq_true rfl) rfl rfl (Or.inl ⟨rfl, rfl⟩) dX7_paperIs_55 rfl rfl ?_
          have er := Option.some.inj hf
          obtain ⟨e1, e2⟩ := Prod.mk.inj er
          subst e1
          subst e2
          exact V_iret hQ rfl dX7_paperIs_58
        · rw [if_pos c13] at hf
          refine V_aload_n 0 36 rfl dX7_paperIs_35 rfl rfl ?_
          obtain ⟨q21, h20, hf⟩ := ob hf
          refine V_getQ (n := 10) (ty := tyX7) 39 h20 cf_6 rfl wd_fl_X7_12 dX7_paperIs_36 rfl ?_
          refine V_iload_n 1 40 rfl dX7_paperIs_39 rfl rfl ?_
          obtain ⟨v23, h22, hf⟩ := ob hf
          refine V_callV (rest := []) (T := TX4) (n := 11) (ci := 3) 0 0 43 [.int v23] (c_X4_curvesIn l G (d + 0) _ _ _ _ h22) (by omega) ok_X4_curvesIn okv_X4_curvesIn (gd_X4_curvesIn h22) rfl wd_ml_X7_105 rfl rfl (Nat.le_of_ble_eq_true rfl) rfl rfl (Or.inl ⟨rfl, rfl⟩) dX7_paperIs_40 rfl rfl ?_
          refine V_goto 58 dX7_paperIs_43 (by decide) ?_
          have er := Option.some.inj hf
          obtain ⟨e1, e2⟩ := Prod.mk.inj er
          subst e1
          subst e2
          exact V_iret hQ rfl dX7_paperIs_58
      · rw [if_neg c12] at hf
        refine V_aload_n 0 24 rfl dX7_paperIs_23 rfl rfl ?_
        refine V_ldc (-1000001) 26 dX7_paperIs_24 rfl wd_kk_X7_67 ?_
        obtain ⟨p25, h24, hf⟩ := ob hf
        refine V_callV (rest := []) (T := TX7) (n := 10) (ci := 6) 0 0 29 [.int p25.1] (c_X7_fails l G (d + 0) _ _ _ _ _ h24) (by omega) ok_X7_fails okv_X7_fails (gd_X7_fails h24) rfl wd_ml_X7_68 rfl rfl (Nat.le_of_ble_eq_true rfl) rfl rfl (Or.inl ⟨rfl, rfl⟩) dX7_paperIs_26 rfl rfl ?_
        have er := Option.some.inj hf
        obtain ⟨e1, e2⟩ := Prod.mk.inj er
        subst e1
        subst e2
        exact V_iret hQ rfl dX7_paperIs_29
  · rw [if_neg hg] at hf
    cases hf
abbrev mi_X7_isPlace : MI := (yX7_isPlace, cX7_isPlace, 2, some .boolean)
theorem ok_X7_isPlace : OkN mi_X7_isPlace 1 := ⟨wd_cd_X7_isPlace, wd_in_X7, ⟨by decide +kernel, by decide +kernel, by decide +kernel⟩, by decide⟩
theorem okv_X7_isPlace : Cond.instanceMethod (mi_X7_isPlace).1 ∈ tb ∧ Cond.selects (mi_X7_isPlace).1.cls (mi_X7_isPlace).1 (mi_X7_isPlace).1 ∈ tb := ⟨wd_im_X7_isPlace, wd_se_X7_isPlace⟩
def f_X7_isPlace (σ : St) (t : Nat) (a0 : Int32) : Option Int32 := if isO σ 6 t = true then (if a0 < 0 then (some 0) else ((gQ σ 6 t 0).bind fun q3 => (gQ σ 3 q3 1).bind fun q5 => (f_X5_has σ q5 (a0 / 10)).bind fun v7 => if v7 = 0 then (some 0) else ((zr (if 3 < (irm a0 10) then 0 else 1 : Int32)).bind fun z9 => some (if 3 < (irm a0 10) then 0 else 1 : Int32)))) else none
theorem gd_X7_isPlace {σ : St} {t : Nat} {a0 : Int32} {r : Int32} (h : f_X7_isPlace σ t a0 = some r) : isO σ 6 t = true := by
  unfold f_X7_isPlace at h
  by_cases hg : isO σ 6 t = true
  · exact hg
  · rw [if_neg hg] at h
    cases h
set_option maxRecDepth 100000 in
set_option maxHeartbeats 4000000 in
theorem c_X7_isPlace (l : Launch) (G : Gd) (d : Nat) (σ : St) (t : Nat) (a0 : Int32) (r0 : Int32) (hf : f_X7_isPlace σ t a0 = some r0) : MetV l G (d + 2) mi_X7_isPlace [.ref t, .int a0] σ (some (.int r0)) σ 0 0 := by
  unfold f_X7_isPlace at hf
  refine MetV.of [(0, .ref t), (1, .int a0)] (by decide +kernel) rfl (Nat.le_of_ble_eq_true rfl) ?_
  intro X hQ
  by_cases hg : isO σ 6 t = true
  · rw [if_pos hg] at hf
    refine V_iload_n 1 1 rfl dX7_isPlace_0 rfl rfl ?_
    refine V_if_lt 33 4 dX7_isPlace_1 (by decide) rfl (fun c1 => ?_) (fun c1 => ?_)
    · rw [if_pos c1] at hf
      refine V_iconst 0 34 dX7_isPlace_33 rfl kiconst_0 ?_
      have er := Option.some.inj hf
      subst er
      exact V_zret (by decide) hQ rfl dX7_isPlace_34
    · rw [if_neg c1] at hf
      refine V_aload_n 0 5 rfl dX7_isPlace_4 rfl rfl ?_
      obtain ⟨q3, h2, hf⟩ := ob hf
      refine V_getQ (n := 10) (ty := tyX7) 8 h2 cf_6 rfl wd_fl_X7_12 dX7_isPlace_5 rfl ?_
      obtain ⟨q5, h4, hf⟩ := ob hf
      refine V_getQ (n := 11) (ty := tyX4) 11 h4 cf_3 rfl wd_fl_X7_89 dX7_isPlace_8 rfl ?_
      refine V_iload_n 1 12 rfl dX7_isPlace_11 rfl rfl ?_
      refine V_bipush 10 14 dX7_isPlace_12 rfl kbipush_10 ?_
      refine V_idiv 15 dX7_isPlace_14 rfl (by decide) ?_
      obtain ⟨v7, h6, hf⟩ := ob hf
      refine V_callV (rest := []) (T := TX5) (n := 4) (ci := 4) 0 0 18 [.int v7] (c_X5_has l G (d + 0) _ _ _ _ h6) (by omega) ok_X5_has okv_X5_has (gd_X5_has h6) rfl wd_ml_X7_101 rfl rfl (Nat.le_of_ble_eq_true rfl) rfl rfl (Or.inl ⟨rfl, rfl⟩) dX7_isPlace_15 rfl rfl ?_
      refine V_if_eq 33 21 dX7_isPlace_18 (by decide) rfl (fun c8 => ?_) (fun c8 => ?_)
      · rw [if_pos c8] at hf
        refine V_iconst 0 34 dX7_isPlace_33 rfl kiconst_0 ?_
        have er := Option.some.inj hf
        subst er
        exact V_zret (by decide) hQ rfl dX7_isPlace_34
      · rw [if_neg c8] at hf
        refine V_iload_n 1 22 rfl dX7_isPlace_21 rfl rfl ?_
        refine V_bipush 10 24 dX7_isPlace_22 rfl kbipush_10 ?_
        refine V_irem 25 dX7_isPlace_24 rfl (by decide) ?_
        refine V_iconst 3 26 dX7_isPlace_25 rfl kiconst_3 ?_
        have kj11 : V mi_X7_isPlace l G (d + 2) 0 0 X 0 0 34 [(0, .ref t), (1, .int a0)] [.int (if 3 < (irm a0 10) then 0 else 1 : Int32)] σ := by
          obtain ⟨z9, h10, hf⟩ := ob hf
          have er := Option.some.inj hf
          subst er
          exact V_zret (zr_ok h10) hQ rfl dX7_isPlace_34
        refine V_icmp_gt 33 29 dX7_isPlace_26 (by decide) rfl (fun c12 => ?_) (fun c12 => ?_)
        · refine V_iconst 0 34 dX7_isPlace_33 rfl kiconst_0 ?_
          refine V_ls [(0, .ref t), (1, .int a0)] [0, 1] rfl ?_
          simp only [if_pos c12] at kj11
          exact kj11
        · refine V_iconst 1 30 dX7_isPlace_29 rfl kiconst_1 ?_
          refine V_goto 34 dX7_isPlace_30 (by decide) ?_
          refine V_ls [(0, .ref t), (1, .int a0)] [0, 1] rfl ?_
          simp only [if_neg c12] at kj11
          exact kj11
  · rw [if_neg hg] at hf
    cases hf
abbrev mi_X7_isLength : MI := (yX7_isLength, cX7_isLength, 1, some .boolean)
theorem ok_X7_isLength : OkN mi_X7_isLength 1 := ⟨wd_cd_X7_isLength, wd_in_X7, ⟨by decide +kernel, by decide +kernel, by decide +kernel⟩, by decide⟩
theorem oks_X7_isLength : Cond.static (mi_X7_isLength).1 ∈ tb := wd_sm_X7_isLength
def f_X7_isLength (σ : St) (a0 : Int32) : Option Int32 := (f_X7_outside σ a0 3 24).bind fun v2 => (zr (if v2 = 0 then 1 else 0 : Int32)).bind fun z3 => some (if v2 = 0 then 1 else 0 : Int32)
set_option maxRecDepth 100000 in
set_option maxHeartbeats 4000000 in
theorem c_X7_isLength (l : Launch) (G : Gd) (d : Nat) (σ : St) (a0 : Int32) (r0 : Int32) (hf : f_X7_isLength σ a0 = some r0) : MetV l G (d + 2) mi_X7_isLength [.int a0] σ (some (.int r0)) σ 0 0 := by
  unfold f_X7_isLength at hf
  refine MetV.of [(0, .int a0)] (by decide +kernel) rfl (Nat.le_of_ble_eq_true rfl) ?_
  intro X hQ
  refine V_iload_n 0 1 rfl dX7_isLength_0 rfl rfl ?_
  refine V_iconst 3 2 dX7_isLength_1 rfl kiconst_3 ?_
  refine V_bipush 24 4 dX7_isLength_2 rfl kbipush_24 ?_
  obtain ⟨v2, h1, hf⟩ := ob hf
  refine V_callS (rest := []) 0 0 7 [.int v2] (c_X7_outside l G (d + 0) _ _ _ _ _ h1) (by omega) ok_X7_outside oks_X7_outside wd_ml_X7_57 rfl rfl (Nat.le_of_ble_eq_true rfl) rfl rfl (Or.inl ⟨rfl, rfl⟩) dX7_isLength_4 rfl rfl ?_
  have kj5 : V mi_X7_isLength l G (d + 2) 0 0 X 0 0 15 [(0, .int a0)] [.int (if v2 = 0 then 1 else 0 : Int32)] σ := by
    obtain ⟨z3, h4, hf⟩ := ob hf
    have er := Option.some.inj hf
    subst er
    exact V_zret (zr_ok h4) hQ rfl dX7_isLength_15
  refine V_if_ne 14 10 dX7_isLength_7 (by decide) rfl (fun c6 => ?_) (fun c6 => ?_)
  · refine V_iconst 0 15 dX7_isLength_14 rfl kiconst_0 ?_
    refine V_ls [(0, .int a0)] [0] rfl ?_
    simp only [if_neg c6] at kj5
    exact kj5
  · refine V_iconst 1 11 dX7_isLength_10 rfl kiconst_1 ?_
    refine V_goto 15 dX7_isLength_11 (by decide) ?_
    refine V_ls [(0, .int a0)] [0] rfl ?_
    simp only [if_pos c6] at kj5
    exact kj5
abbrev mi_X7_arePoints : MI := (yX7_arePoints, cX7_arePoints, 4, some .boolean)
theorem ok_X7_arePoints : OkN mi_X7_arePoints 3 := ⟨wd_cd_X7_arePoints, wd_in_X7, ⟨by decide +kernel, by decide +kernel, by decide +kernel⟩, by decide⟩
theorem oks_X7_arePoints : Cond.static (mi_X7_arePoints).1 ∈ tb := wd_sm_X7_arePoints
def f_X7_arePoints_L2 (σ : St) (x0 : Nat) (x1 : Int32) (x2 : Int32) : Nat → Int32 → Option ((Int32) ⊕ (Int32))
  | 0, _ => none
  | n + 1, x3 => if x2 ≤ x3 then (some (.inr x3)) else ((f_X3_at σ x0 (x1 + x3)).bind fun v3 => (f_X7_outside σ v3 (-99999) 99999).bind fun v5 => if v5 = 0 then (f_X7_arePoints_L2 σ x0 x1 x2 n (x3 + 1)) else (some (.inl 0)))
def f_X7_arePoints (σ : St) (a0 : Nat) (a1 : Int32) (a2 : Int32) : Option Int32 := (f_X7_arePoints_L2 σ a0 a1 a2 3000 0).bind fun p7 => Sum.elim (some) (fun p9 => some 1) p7
set_option maxRecDepth 100000 in
set_option maxHeartbeats 4000000 in
theorem c_X7_arePoints (l : Launch) (G : Gd) (d : Nat) (σ : St) (a0 : Nat) (a1 : Int32) (a2 : Int32) (r0 : Int32) (hf : f_X7_arePoints σ a0 a1 a2 = some r0) : MetV l G (d + 3) mi_X7_arePoints [.ref a0, .int a1, .int a2] σ (some (.int r0)) σ 0 0 := by
  unfold f_X7_arePoints at hf
  refine MetV.of [(0, .ref a0), (1, .int a1), (2, .int a2)] (by decide +kernel) rfl (Nat.le_of_ble_eq_true rfl) ?_
  intro X hQ
  have L2 : ∀ (x0 : Nat) (x1 : Int32) (x2 : Int32) (n : Nat) (x3 : Int32) (p : (Int32) ⊕ (Int32)), f_X7_arePoints_L2 σ x0 x1 x2 n x3 = some p → (∀ v, p = .inl v → v = r0) → (∀ q, p = .inr q → V mi_X7_arePoints l G (d + 3) 0 0 X 0 0 33 [(3, .int q), (0, .ref x0), (1, .int x1), (2, .int x2)] [] σ) → V mi_X7_arePoints l G (d + 3) 0 0 X 0 0 2 [(3, .int x3), (0, .ref x0), (1, .int x1), (2, .int x2)] [] σ := by
    intro x0 x1 x2 n
    induction n with
    | zero =>
      intro x3 p hf
      exact absurd (show (none : Option _) = some p from hf) (by simp)
    | succ n ih =>
      intro x3 p hf hk1 hk
      rw [f_X7_arePoints_L2] at hf
      refine V_iload_n 0 3 rfl dX7_arePoints_2 rfl rfl ?_
      refine V_iload_n 3 4 rfl dX7_arePoints_3 rfl rfl ?_
      refine V_icmp_ge 33 7 dX7_arePoints_4 (by decide) rfl (fun c1 => ?_) (fun c1 => ?_)
      · rw [if_pos c1] at hf
        have ep := Option.some.inj hf
        subst ep
        refine V_ls [(3, .int x3), (0, .ref x0), (1, .int x1), (2, .int x2)] [0, 1, 2, 3] rfl ?_
        exact hk _ rfl
      · rw [if_neg c1] at hf
        refine V_aload_n 1 8 rfl dX7_arePoints_7 rfl rfl ?_
        refine V_iload_n 2 9 rfl dX7_arePoints_8 rfl rfl ?_
        refine V_iload_n 0 10 rfl dX7_arePoints_9 rfl rfl ?_
        refine V_iadd 11 dX7_arePoints_10 rfl ?_
        obtain ⟨v3, h2, hf⟩ := ob hf
        refine V_callV (rest := []) (T := TX3) (n := 3) (ci := 2) 0 0 14 [.int v3] (c_X3_at l G (d + 0) _ _ _ _ h2) (by omega) ok_X3_at okv_X3_at (gd_X3_at h2) rfl wd_ml_X7_133 rfl rfl (Nat.le_of_ble_eq_true rfl) rfl rfl (Or.inl ⟨rfl, rfl⟩) dX7_arePoints_11 rfl rfl ?_
        refine V_ldc_w (-99999) 17 dX7_arePoints_14 rfl wd_kk_X7_360 ?_
        refine V_ldc 99999 19 dX7_arePoints_17 rfl wd_kk_X7_240 ?_
        obtain ⟨v5, h4, hf⟩ := ob hf
        refine V_callS (rest := []) 0 0 22 [.int v5] (c_X7_outside l G (d + 1) _ _ _ _ _ h4) (by omega) ok_X7_outside oks_X7_outside wd_ml_X7_57 rfl rfl (Nat.le_of_ble_eq_true rfl) rfl rfl (Or.inl ⟨rfl, rfl⟩) dX7_arePoints_19 rfl rfl ?_
        refine V_if_eq 27 25 dX7_arePoints_22 (by decide) rfl (fun c6 => ?_) (fun c6 => ?_)
        · rw [if_pos c6] at hf
          refine V_iinc (x3 + 1) 0 [(3, .int (x3 + 1)), (0, .ref x0), (1, .int x1), (2, .int x2)] 30 dX7_arePoints_27 rfl (by rw [kiconst_1]) (by decide) rfl rfl ?_
          refine V_goto 2 dX7_arePoints_30 (by decide) ?_
          refine V_ls [(3, .int (x3 + 1)), (0, .ref x0), (1, .int x1), (2, .int x2)] [0, 1, 2, 3] rfl ?_
          exact ih _ _ hf hk1 hk
        · rw [if_neg c6] at hf
          refine V_iconst 0 26 dX7_arePoints_25 rfl kiconst_0 ?_
          have ep := Option.some.inj hf
          subst ep
          have er := hk1 _ rfl
          subst er
          exact V_zret (by decide) hQ rfl dX7_arePoints_26
  refine V_iconst 0 1 dX7_arePoints_0 rfl kiconst_0 ?_
  refine V_istore_n [(3, .int 0), (0, .ref a0), (1, .int a1), (2, .int a2)] 2 dX7_arePoints_1 rfl (by decide) rfl rfl ?_
  obtain ⟨p7, h8, hf⟩ := ob hf
  refine V_ls [(3, .int 0), (0, .ref a0), (1, .int a1), (2, .int a2)] [0, 1, 2, 3] rfl ?_
  refine L2 a0 a1 a2 3000 0 p7 h8 (fun v hv => ?_) (fun p9 hq => ?_)
  · subst hv
    cases hf
    rfl
  subst hq
  simp only [Sum.elim_inr] at hf
  refine V_iconst 1 34 dX7_arePoints_33 rfl kiconst_1 ?_
  have er := Option.some.inj hf
  subst er
  exact V_zret (by decide) hQ rfl dX7_arePoints_34
abbrev mi_X7_curve : MI := (yX7_curve, cX7_curve, 9, some .int)
theorem ok_X7_curve : OkN mi_X7_curve 5 := ⟨wd_cd_X7_curve, wd_in_X7, ⟨by decide +kernel, by decide +kernel, by decide +kernel⟩, by decide⟩
theorem okv_X7_curve : Cond.instanceMethod (mi_X7_curve).1 ∈ tb ∧ Cond.selects (mi_X7_curve).1.cls (mi_X7_curve).1 (mi_X7_curve).1 ∈ tb := ⟨wd_im_X7_curve, wd_se_X7_curve⟩
def f_X7_curve_L140 (x7 : Int32) (x6 : Nat) (t : Nat) (x4 : Int32) (x5 : Int32) : Nat → Int32 → St → Option (Int32 × St)
  | 0, _, _ => none
  | n + 1, x8, σ => if x5 ≤ x8 then (some (x8, σ)) else ((gQ σ 6 t 0).bind fun q47 => (f_X3_at σ x6 (x4 + x8)).bind fun v49 => (f_X4_setPoint σ q47 x7 x8 v49).bind fun s51 => f_X7_curve_L140 x7 x6 t x4 x5 n (x8 + 1) s51)
def f_X7_curve (σ : St) (t : Nat) (a0 : Int32) (a1 : Int32) (a2 : Int32) (a3 : Int32) (a4 : Int32) : Option (Int32 × St) := if isO σ 6 t = true then ((f_X7_outside σ a0 0 7).bind fun v2 => if v2 = 0 then ((f_X7_isPlace σ t a1).bind fun v7 => if v7 = 0 then ((f_X7_fails σ t (-1000001)).bind fun p10 => some (p10.1, p10.2)) else ((f_X7_outside σ a2 0 3).bind fun v12 => if v12 = 0 then ((f_X7_isLength σ a4).bind fun v17 => if v17 = 0 then ((f_X7_fails σ t (-1000001)).bind fun p61 => some (p61.1, p61.2)) else ((gQ σ 6 t 3).bind fun q20 => (aQ σ 3 q20 a2).bind fun q22 => (f_X3_isMissing σ q22).bind fun v24 => if v24 = 0 then ((f_X3_holds σ q22 a3 a4).bind fun v27 => if v27 = 0 then ((f_X7_fails σ t (-1000001)).bind fun p30 => some (p30.1, p30.2)) else ((f_X7_arePoints σ q22 a3 a4).bind fun v32 => if v32 = 0 then ((f_X7_fails σ t (-1000001)).bind fun p57 => some (p57.1, p57.2)) else ((gQ σ 6 t 0).bind fun q35 => (gQ σ 3 q35 2).bind fun q37 => (f_X5_isFull σ q37).bind fun v39 => if v39 = 0 then ((gQ σ 6 t 0).bind fun q42 => (f_X4_addCurve σ q42 a0 (a1 / 10) (irm a1 10) a4 (-1)).bind fun p44 => (f_X7_curve_L140 p44.1 q22 t a3 a4 3000 0 p44.2).bind fun p52 => some (p44.1, p52.2)) else ((f_X7_fails σ t (-1000004)).bind fun p55 => some (p55.1, p55.2))))) else ((f_X7_fails σ t (-1000002)).bind fun p59 => some (p59.1, p59.2)))) else ((f_X7_fails σ t (-1000001)).bind fun p15 => some (p15.1, p15.2)))) else ((f_X7_fails σ t (-1000001)).bind fun p5 => some (p5.1, p5.2))) else none
theorem gd_X7_curve {σ : St} {t : Nat} {a0 : Int32} {a1 : Int32} {a2 : Int32} {a3 : Int32} {a4 : Int32} {r : Int32 × St} (h : f_X7_curve σ t a0 a1 a2 a3 a4 = some r) : isO σ 6 t = true := by
  unfold f_X7_curve at h
  by_cases hg : isO σ 6 t = true
  · exact hg
  · rw [if_neg hg] at h
    cases h
set_option maxRecDepth 100000 in
set_option maxHeartbeats 4000000 in
theorem c_X7_curve (l : Launch) (G : Gd) (d : Nat) (σ : St) (t : Nat) (a0 : Int32) (a1 : Int32) (a2 : Int32) (a3 : Int32) (a4 : Int32) (r0 : Int32) (σ' : St) (hf : f_X7_curve σ t a0 a1 a2 a3 a4 = some (r0, σ')) : MetV l G (d + 4) mi_X7_curve [.ref t, .int a0, .int a1, .int a2, .int a3, .int a4] σ (some (.int r0)) σ' 0 0 := by
  unfold f_X7_curve at hf
  refine MetV.of [(0, .ref t), (1, .int a0), (2, .int a1), (3, .int a2), (4, .int a3), (5, .int a4)] (by decide +kernel) rfl (Nat.le_of_ble_eq_true rfl) ?_
  intro X hQ
  have L140 : ∀ (x7 : Int32) (x6 : Nat) (x4 : Int32) (x5 : Int32) (n : Nat) (x8 : Int32) (σ : St) (p : Int32 × St), f_X7_curve_L140 x7 x6 t x4 x5 n x8 σ = some p → V mi_X7_curve l G (d + 4) 0 0 X 0 0 174 [(8, .int p.1), (7, .int x7), (6, .ref x6), (0, .ref t), (4, .int x4), (5, .int x5)] [] p.2 → V mi_X7_curve l G (d + 4) 0 0 X 0 0 140 [(8, .int x8), (7, .int x7), (6, .ref x6), (0, .ref t), (4, .int x4), (5, .int x5)] [] σ := by
    intro x7 x6 x4 x5 n
    induction n with
    | zero =>
      intro x8 σ p hf
      exact absurd (show (none : Option _) = some p from hf) (by simp)
    | succ n ih =>
      intro x8 σ p hf hk
      rw [f_X7_curve_L140] at hf
      refine V_iload 0 142 rfl dX7_curve_140 rfl ?_
      refine V_iload 5 144 rfl dX7_curve_142 rfl ?_
      refine V_icmp_ge 174 147 dX7_curve_144 (by decide) rfl (fun c45 => ?_) (fun c45 => ?_)
      · rw [if_pos c45] at hf
        have ep := Option.some.inj hf
        subst ep
        refine V_ls [(8, .int x8), (7, .int x7), (6, .ref x6), (0, .ref t), (4, .int x4), (5, .int x5)] [0, 1, 2, 3, 4, 5] rfl ?_
        exact hk
      · rw [if_neg c45] at hf
        refine V_aload_n 3 148 rfl dX7_curve_147 rfl rfl ?_
        obtain ⟨q47, h46, hf⟩ := ob hf
        refine V_getQ (n := 10) (ty := tyX7) 151 h46 cf_6 rfl wd_fl_X7_12 dX7_curve_148 rfl ?_
        refine V_iload 1 153 rfl dX7_curve_151 rfl ?_
        refine V_iload 0 155 rfl dX7_curve_153 rfl ?_
        refine V_aload 2 157 rfl dX7_curve_155 rfl ?_
        refine V_iload 4 159 rfl dX7_curve_157 rfl ?_
        refine V_iload 0 161 rfl dX7_curve_159 rfl ?_
        refine V_iadd 162 dX7_curve_161 rfl ?_
        obtain ⟨v49, h48, hf⟩ := ob hf
        refine V_callV (rest := [.int x8, .int x7, .ref q47]) (T := TX3) (n := 3) (ci := 2) 0 0 165 [.int v49, .int x8, .int x7, .ref q47] (c_X3_at l G (d + 1) _ _ _ _ h48) (by omega) ok_X3_at okv_X3_at (gd_X3_at h48) rfl wd_ml_X7_133 rfl rfl (Nat.le_of_ble_eq_true rfl) rfl rfl (Or.inl ⟨rfl, rfl⟩) dX7_curve_162 rfl rfl ?_
        obtain ⟨s51, h50, hf⟩ := ob hf
        refine V_callV (rest := []) (T := TX4) (n := 11) (ci := 3) 0 0 168 [] (c_X4_setPoint l G (d + 2) _ _ _ _ _ _ h50) (by omega) ok_X4_setPoint okv_X4_setPoint (gd_X4_setPoint h50) rfl wd_ml_X7_135 rfl rfl (Nat.le_of_ble_eq_true rfl) rfl rfl (Or.inl ⟨rfl, rfl⟩) dX7_curve_165 rfl rfl ?_
        refine V_iinc (x8 + 1) 0 [(8, .int (x8 + 1)), (7, .int x7), (6, .ref x6), (0, .ref t), (4, .int x4), (5, .int x5)] 171 dX7_curve_168 rfl (by rw [kiconst_1]) (by decide) rfl rfl ?_
        refine V_goto 140 dX7_curve_171 (by decide) ?_
        refine V_ls [(8, .int (x8 + 1)), (7, .int x7), (6, .ref x6), (0, .ref t), (4, .int x4), (5, .int x5)] [0, 1, 2, 3, 4, 5] rfl ?_
        exact ih _ _ _ hf hk
  by_cases hg : isO σ 6 t = true
  · rw [if_pos hg] at hf
    refine V_iload_n 1 1 rfl dX7_curve_0 rfl rfl ?_
    refine V_iconst 0 2 dX7_curve_1 rfl kiconst_0 ?_
    refine V_bipush 7 4 dX7_curve_2 rfl kbipush_7 ?_
    obtain ⟨v2, h1, hf⟩ := ob hf
    refine V_callS (rest := []) 0 0 7 [.int v2] (c_X7_outside l G (d + 2) _ _ _ _ _ h1) (by omega) ok_X7_outside oks_X7_outside wd_ml_X7_57 rfl rfl (Nat.le_of_ble_eq_true rfl) rfl rfl (Or.inl ⟨rfl, rfl⟩) dX7_curve_4 rfl rfl ?_
    refine V_if_ne 35 10 dX7_curve_7 (by decide) rfl (fun c3 => ?_) (fun c3 => ?_)
    · rw [if_neg c3] at hf
      refine V_aload_n 0 36 rfl dX7_curve_35 rfl rfl ?_
      refine V_ldc (-1000001) 38 dX7_curve_36 rfl wd_kk_X7_67 ?_
      obtain ⟨p5, h4, hf⟩ := ob hf
      refine V_callV (rest := []) (T := TX7) (n := 10) (ci := 6) 0 0 41 [.int p5.1] (c_X7_fails l G (d + 1) _ _ _ _ _ h4) (by omega) ok_X7_fails okv_X7_fails (gd_X7_fails h4) rfl wd_ml_X7_68 rfl rfl (Nat.le_of_ble_eq_true rfl) rfl rfl (Or.inl ⟨rfl, rfl⟩) dX7_curve_38 rfl rfl ?_
      have er := Option.some.inj hf
      obtain ⟨e1, e2⟩ := Prod.mk.inj er
      subst e1
      subst e2
      exact V_iret hQ rfl dX7_curve_41
    · rw [if_pos c3] at hf
      refine V_aload_n 0 11 rfl dX7_curve_10 rfl rfl ?_
      refine V_iload_n 2 12 rfl dX7_curve_11 rfl rfl ?_
      obtain ⟨v7, h6, hf⟩ := ob hf
      refine V_callV (rest := []) (T := TX7) (n := 10) (ci := 6) 0 0 15 [.int v7] (c_X7_isPlace l G (d + 1) _ _ _ _ h6) (by omega) ok_X7_isPlace okv_X7_isPlace (gd_X7_isPlace h6) rfl wd_ml_X7_108 rfl rfl (Nat.le_of_ble_eq_true rfl) rfl rfl (Or.inl ⟨rfl, rfl⟩) dX7_curve_12 rfl rfl ?_
      refine V_if_eq 35 18 dX7_curve_15 (by decide) rfl (fun c8 => ?_) (fun c8 => ?_)
      · rw [if_pos c8] at hf
        refine V_aload_n 0 36 rfl dX7_curve_35 rfl rfl ?_
        refine V_ldc (-1000001) 38 dX7_curve_36 rfl wd_kk_X7_67 ?_
        obtain ⟨p10, h9, hf⟩ := ob hf
        refine V_callV (rest := []) (T := TX7) (n := 10) (ci := 6) 0 0 41 [.int p10.1] (c_X7_fails l G (d + 1) _ _ _ _ _ h9) (by omega) ok_X7_fails okv_X7_fails (gd_X7_fails h9) rfl wd_ml_X7_68 rfl rfl (Nat.le_of_ble_eq_true rfl) rfl rfl (Or.inl ⟨rfl, rfl⟩) dX7_curve_38 rfl rfl ?_
        have er := Option.some.inj hf
        obtain ⟨e1, e2⟩ := Prod.mk.inj er
        subst e1
        subst e2
        exact V_iret hQ rfl dX7_curve_41
      · rw [if_neg c8] at hf
        refine V_iload_n 3 19 rfl dX7_curve_18 rfl rfl ?_
        refine V_iconst 0 20 dX7_curve_19 rfl kiconst_0 ?_
        refine V_iconst 3 21 dX7_curve_20 rfl kiconst_3 ?_
        obtain ⟨v12, h11, hf⟩ := ob hf
        refine V_callS (rest := []) 0 0 24 [.int v12] (c_X7_outside l G (d + 2) _ _ _ _ _ h11) (by omega) ok_X7_outside oks_X7_outside wd_ml_X7_57 rfl rfl (Nat.le_of_ble_eq_true rfl) rfl rfl (Or.inl ⟨rfl, rfl⟩) dX7_curve_21 rfl rfl ?_
        refine V_if_ne 35 27 dX7_curve_24 (by decide) rfl (fun c13 => ?_) (fun c13 => ?_)
        · rw [if_neg c13] at hf
          refine V_aload_n 0 36 rfl dX7_curve_35 rfl rfl ?_
          refine V_ldc (-1000001) 38 dX7_curve_36 rfl wd_kk_X7_67 ?_
          obtain ⟨p15, h14, hf⟩ := ob hf
          refine V_callV (rest := []) (T := TX7) (n := 10) (ci := 6) 0 0 41 [.int p15.1] (c_X7_fails l G (d + 1) _ _ _ _ _ h14) (by omega) ok_X7_fails okv_X7_fails (gd_X7_fails h14) rfl wd_ml_X7_68 rfl rfl (Nat.le_of_ble_eq_true rfl) rfl rfl (Or.inl ⟨rfl, rfl⟩) dX7_curve_38 rfl rfl ?_
          have er := Option.some.inj hf
          obtain ⟨e1, e2⟩ := Prod.mk.inj er
          subst e1
          subst e2
          exact V_iret hQ rfl dX7_curve_41
        · rw [if_pos c13] at hf
          refine V_iload 5 29 rfl dX7_curve_27 rfl ?_
          obtain ⟨v17, h16, hf⟩ := ob hf
          refine V_callS (rest := []) 0 0 32 [.int v17] (c_X7_isLength l G (d + 1) _ _ _ h16) (by omega) ok_X7_isLength oks_X7_isLength wd_ml_X7_111 rfl rfl (Nat.le_of_ble_eq_true rfl) rfl rfl (Or.inl ⟨rfl, rfl⟩) dX7_curve_29 rfl rfl ?_
          refine V_if_ne 42 35 dX7_curve_32 (by decide) rfl (fun c18 => ?_) (fun c18 => ?_)
          · rw [if_neg c18] at hf
            refine V_aload_n 0 43 rfl dX7_curve_42 rfl rfl ?_
            obtain ⟨q20, h19, hf⟩ := ob hf
            refine V_getQ (n := 10) (ty := tyX7) 46 h19 cf_6 rfl wd_fl_X7_32 dX7_curve_43 rfl ?_
            refine V_iload_n 3 47 rfl dX7_curve_46 rfl rfl ?_
            obtain ⟨q22, h21, hf⟩ := ob hf
            refine V_aald (t := 3) 48 h21 (by decide) dX7_curve_47 rfl ?_
            refine V_astore [(6, .ref q22), (0, .ref t), (1, .int a0), (2, .int a1), (3, .int a2), (4, .int a3), (5, .int a4)] 50 dX7_curve_48 (by decide) rfl rfl ?_
            refine V_aload 0 52 rfl dX7_curve_50 rfl ?_
            obtain ⟨v24, h23, hf⟩ := ob hf
            refine V_callV (rest := []) (T := TX3) (n := 3) (ci := 2) 0 0 55 [.int v24] (c_X3_isMissing l G (d + 2) _ _ _ h23) (by omega) ok_X3_isMissing okv_X3_isMissing (gd_X3_isMissing h23) rfl wd_ml_X7_114 rfl rfl (Nat.le_of_ble_eq_true rfl) rfl rfl (Or.inl ⟨rfl, rfl⟩) dX7_curve_52 rfl rfl ?_
            refine V_if_eq 65 58 dX7_curve_55 (by decide) rfl (fun c25 => ?_) (fun c25 => ?_)
            · rw [if_pos c25] at hf
              refine V_aload 0 67 rfl dX7_curve_65 rfl ?_
              refine V_iload 5 69 rfl dX7_curve_67 rfl ?_
              refine V_iload 6 71 rfl dX7_curve_69 rfl ?_
              obtain ⟨v27, h26, hf⟩ := ob hf
              refine V_callV (rest := []) (T := TX3) (n := 3) (ci := 2) 0 0 74 [.int v27] (c_X3_holds l G (d + 2) _ _ _ _ _ h26) (by omega) ok_X3_holds okv_X3_holds (gd_X3_holds h26) rfl wd_ml_X7_118 rfl rfl (Nat.le_of_ble_eq_true rfl) rfl rfl (Or.inl ⟨rfl, rfl⟩) dX7_curve_71 rfl rfl ?_
              refine V_if_eq 89 77 dX7_curve_74 (by decide) rfl (fun c28 => ?_) (fun c28 => ?_)
              · rw [if_pos c28] at hf
                refine V_aload_n 1 90 rfl dX7_curve_89 rfl rfl ?_
                refine V_ldc (-1000001) 92 dX7_curve_90 rfl wd_kk_X7_67 ?_
                obtain ⟨p30, h29, hf⟩ := ob hf
                refine V_callV (rest := []) (T := TX7) (n := 10) (ci := 6) 0 0 95 [.int p30.1] (c_X7_fails l G (d + 1) _ _ _ _ _ h29) (by omega) ok_X7_fails okv_X7_fails (gd_X7_fails h29) rfl wd_ml_X7_68 rfl rfl (Nat.le_of_ble_eq_true rfl) rfl rfl (Or.inl ⟨rfl, rfl⟩) dX7_curve_92 rfl rfl ?_
                have er := Option.some.inj hf
                obtain ⟨e1, e2⟩ := Prod.mk.inj er
                subst e1
                subst e2
                exact V_iret hQ rfl dX7_curve_95
              · rw [if_neg c28] at hf
                refine V_aload 0 79 rfl dX7_curve_77 rfl ?_
                refine V_iload 5 81 rfl dX7_curve_79 rfl ?_
                refine V_iload 6 83 rfl dX7_curve_81 rfl ?_
                obtain ⟨v32, h31, hf⟩ := ob hf
                refine V_callS (rest := []) 0 0 86 [.int v32] (c_X7_arePoints l G (d + 0) _ _ _ _ _ h31) (by omega) ok_X7_arePoints oks_X7_arePoints wd_ml_X7_122 rfl rfl (Nat.le_of_ble_eq_true rfl) rfl rfl (Or.inl ⟨rfl, rfl⟩) dX7_curve_83 rfl rfl ?_
                refine V_if_ne 96 89 dX7_curve_86 (by decide) rfl (fun c33 => ?_) (fun c33 => ?_)
                · rw [if_neg c33] at hf
                  refine V_aload_n 1 97 rfl dX7_curve_96 rfl rfl ?_
                  obtain ⟨q35, h34, hf⟩ := ob hf
                  refine V_getQ (n := 10) (ty := tyX7) 100 h34 cf_6 rfl wd_fl_X7_12 dX7_curve_97 rfl ?_
                  obtain ⟨q37, h36, hf⟩ := ob hf
                  refine V_getQ (n := 11) (ty := tyX4) 103 h36 cf_3 rfl wd_fl_X7_126 dX7_curve_100 rfl ?_
                  obtain ⟨v39, h38, hf⟩ := ob hf
                  refine V_callV (rest := []) (T := TX5) (n := 4) (ci := 4) 0 0 106 [.int v39] (c_X5_isFull l G (d + 2) _ _ _ h38) (by omega) ok_X5_isFull okv_X5_isFull (gd_X5_isFull h38) rfl wd_ml_X7_92 rfl rfl (Nat.le_of_ble_eq_true rfl) rfl rfl (Or.inl ⟨rfl, rfl⟩) dX7_curve_103 rfl rfl ?_
                  refine V_if_eq 116 109 dX7_curve_106 (by decide) rfl (fun c40 => ?_) (fun c40 => ?_)
                  · rw [if_pos c40] at hf
                    refine V_aload_n 1 117 rfl dX7_curve_116 rfl rfl ?_
                    obtain ⟨q42, h41, hf⟩ := ob hf
                    refine V_getQ (n := 10) (ty := tyX7) 120 h41 cf_6 rfl wd_fl_X7_12 dX7_curve_117 rfl ?_
                    refine V_iload_n 2 121 rfl dX7_curve_120 rfl rfl ?_
                    refine V_iload_n 3 122 rfl dX7_curve_121 rfl rfl ?_
                    refine V_bipush 10 124 dX7_curve_122 rfl kbipush_10 ?_
                    refine V_idiv 125 dX7_curve_124 rfl (by decide) ?_
                    refine V_iload_n 3 126 rfl dX7_curve_125 rfl rfl ?_
                    refine V_bipush 10 128 dX7_curve_126 rfl kbipush_10 ?_
                    refine V_irem 129 dX7_curve_128 rfl (by decide) ?_
                    refine V_iload 6 131 rfl dX7_curve_129 rfl ?_
                    refine V_iconst (-1) 132 dX7_curve_131 rfl kiconst_m1 ?_
                    obtain ⟨p44, h43, hf⟩ := ob hf
                    refine V_callV (rest := []) (T := TX4) (n := 11) (ci := 3) 0 0 135 [.int p44.1] (c_X4_addCurve l G (d + 1) _ _ _ _ _ _ _ _ _ h43) (by omega) ok_X4_addCurve okv_X4_addCurve (gd_X4_addCurve h43) rfl wd_ml_X7_129 rfl rfl (Nat.le_of_ble_eq_true rfl) rfl rfl (Or.inl ⟨rfl, rfl⟩) dX7_curve_132 rfl rfl ?_
                    refine V_istore [(7, .int p44.1), (6, .ref q22), (0, .ref t), (1, .int a0), (2, .int a1), (3, .int a2), (4, .int a3), (5, .int a4)] 137 dX7_curve_135 (by decide) rfl rfl ?_
                    refine V_iconst 0 138 dX7_curve_137 rfl kiconst_0 ?_
                    refine V_istore [(8, .int 0), (7, .int p44.1), (6, .ref q22), (0, .ref t), (1, .int a0), (2, .int a1), (3, .int a2), (4, .int a3), (5, .int a4)] 140 dX7_curve_138 (by decide) rfl rfl ?_
                    obtain ⟨p52, h53, hf⟩ := ob hf
                    refine V_ls [(8, .int 0), (7, .int p44.1), (6, .ref q22), (0, .ref t), (4, .int a3), (5, .int a4)] [0, 1, 2, 3, 7, 8] rfl ?_
                    refine L140 p44.1 q22 a3 a4 3000 0 p44.2 p52 h53 ?_
                    refine V_iload 1 176 rfl dX7_curve_174 rfl ?_
                    have er := Option.some.inj hf
                    obtain ⟨e1, e2⟩ := Prod.mk.inj er
                    subst e1
                    subst e2
                    exact V_iret hQ rfl dX7_curve_176
                  · rw [if_neg c40] at hf
                    refine V_aload_n 1 110 rfl dX7_curve_109 rfl rfl ?_
                    refine V_ldc (-1000004) 112 dX7_curve_110 rfl wd_kk_X7_96 ?_
                    obtain ⟨p55, h54, hf⟩ := ob hf
                    refine V_callV (rest := []) (T := TX7) (n := 10) (ci := 6) 0 0 115 [.int p55.1] (c_X7_fails l G (d + 1) _ _ _ _ _ h54) (by omega) ok_X7_fails okv_X7_fails (gd_X7_fails h54) rfl wd_ml_X7_68 rfl rfl (Nat.le_of_ble_eq_true rfl) rfl rfl (Or.inl ⟨rfl, rfl⟩) dX7_curve_112 rfl rfl ?_
                    have er := Option.some.inj hf
                    obtain ⟨e1, e2⟩ := Prod.mk.inj er
                    subst e1
                    subst e2
                    exact V_iret hQ rfl dX7_curve_115
                · rw [if_pos c33] at hf
                  refine V_aload_n 1 90 rfl dX7_curve_89 rfl rfl ?_
                  refine V_ldc (-1000001) 92 dX7_curve_90 rfl wd_kk_X7_67 ?_
                  obtain ⟨p57, h56, hf⟩ := ob hf
                  refine V_callV (rest := []) (T := TX7) (n := 10) (ci := 6) 0 0 95 [.int p57.1] (c_X7_fails l G (d + 1) _ _ _ _ _ h56) (by omega) ok_X7_fails okv_X7_fails (gd_X7_fails h56) rfl wd_ml_X7_68 rfl rfl (Nat.le_of_ble_eq_true rfl) rfl rfl (Or.inl ⟨rfl, rfl⟩) dX7_curve_92 rfl rfl ?_
                  have er := Option.some.inj hf
                  obtain ⟨e1, e2⟩ := Prod.mk.inj er
                  subst e1
                  subst e2
                  exact V_iret hQ rfl dX7_curve_95
            · rw [if_neg c25] at hf
              refine V_aload_n 1 59 rfl dX7_curve_58 rfl rfl ?_
              refine V_ldc (-1000002) 61 dX7_curve_59 rfl wd_kk_X7_117 ?_
              obtain ⟨p59, h58, hf⟩ := ob hf
              refine V_callV (rest := []) (T := TX7) (n := 10) (ci := 6) 0 0 64 [.int p59.1] (c_X7_fails l G (d + 1) _ _ _ _ _ h58) (by omega) ok_X7_fails okv_X7_fails (gd_X7_fails h58) rfl wd_ml_X7_68 rfl rfl (Nat.le_of_ble_eq_true rfl) rfl rfl (Or.inl ⟨rfl, rfl⟩) dX7_curve_61 rfl rfl ?_
              have er := Option.some.inj hf
              obtain ⟨e1, e2⟩ := Prod.mk.inj er
              subst e1
              subst e2
              exact V_iret hQ rfl dX7_curve_64
          · rw [if_pos c18] at hf
            refine V_aload_n 0 36 rfl dX7_curve_35 rfl rfl ?_
            refine V_ldc (-1000001) 38 dX7_curve_36 rfl wd_kk_X7_67 ?_
            obtain ⟨p61, h60, hf⟩ := ob hf
            refine V_callV (rest := []) (T := TX7) (n := 10) (ci := 6) 0 0 41 [.int p61.1] (c_X7_fails l G (d + 1) _ _ _ _ _ h60) (by omega) ok_X7_fails okv_X7_fails (gd_X7_fails h60) rfl wd_ml_X7_68 rfl rfl (Nat.le_of_ble_eq_true rfl) rfl rfl (Or.inl ⟨rfl, rfl⟩) dX7_curve_38 rfl rfl ?_
            have er := Option.some.inj hf
            obtain ⟨e1, e2⟩ := Prod.mk.inj er
            subst e1
            subst e2
            exact V_iret hQ rfl dX7_curve_41
  · rw [if_neg hg] at hf
    cases hf
abbrev mi_X7_worth : MI := (yX7_worth, cX7_worth, 6, some .int)
theorem ok_X7_worth : OkN mi_X7_worth 4 := ⟨wd_cd_X7_worth, wd_in_X7, ⟨by decide +kernel, by decide +kernel, by decide +kernel⟩, by decide⟩
theorem okv_X7_worth : Cond.instanceMethod (mi_X7_worth).1 ∈ tb ∧ Cond.selects (mi_X7_worth).1.cls (mi_X7_worth).1 (mi_X7_worth).1 ∈ tb := ⟨wd_im_X7_worth, wd_se_X7_worth⟩
def f_X7_worth (σ : St) (t : Nat) (a0 : Int32) (a1 : Int32) (a2 : Int32) (a3 : Int32) : Option (Int32 × St) := if isO σ 6 t = true then ((gQ σ 6 t 0).bind fun q2 => (gQ σ 3 q2 9).bind fun q4 => (aQ σ 2 q4 a0).bind fun q6 => (gI σ 0 q6 1).bind fun v8 => if v8 ≤ 0 then (if a0 = 0 then (some ((10 : Int32) * a1, σ)) else (if a0 = 1 then (some ((if (irm a2 30) = 7 then 1 else 0 : Int32), σ)) else (some (1, σ)))) else ((gQ σ 6 t 1).bind fun q15 => (f_X2_read σ q15 q6 a0 a1 a2 a3).bind fun p17 => some (p17.1, p17.2))) else none
theorem gd_X7_worth {σ : St} {t : Nat} {a0 : Int32} {a1 : Int32} {a2 : Int32} {a3 : Int32} {r : Int32 × St} (h : f_X7_worth σ t a0 a1 a2 a3 = some r) : isO σ 6 t = true := by
  unfold f_X7_worth at h
  by_cases hg : isO σ 6 t = true
  · exact hg
  · rw [if_neg hg] at h
    cases h
set_option maxRecDepth 100000 in
set_option maxHeartbeats 4000000 in
theorem c_X7_worth (l : Launch) (G : Gd) (d : Nat) (σ : St) (t : Nat) (a0 : Int32) (a1 : Int32) (a2 : Int32) (a3 : Int32) (r0 : Int32) (σ' : St) (hf : f_X7_worth σ t a0 a1 a2 a3 = some (r0, σ')) : MetV l G (d + 302) mi_X7_worth [.ref t, .int a0, .int a1, .int a2, .int a3] σ (some (.int r0)) σ' 0 0 := by
  unfold f_X7_worth at hf
  refine MetV.of [(0, .ref t), (1, .int a0), (2, .int a1), (3, .int a2), (4, .int a3)] (by decide +kernel) rfl (Nat.le_of_ble_eq_true rfl) ?_
  intro X hQ
  by_cases hg : isO σ 6 t = true
  · rw [if_pos hg] at hf
    refine V_aload_n 0 1 rfl dX7_worth_0 rfl rfl ?_
    obtain ⟨q2, h1, hf⟩ := ob hf
    refine V_getQ (n := 10) (ty := tyX7) 4 h1 cf_6 rfl wd_fl_X7_12 dX7_worth_1 rfl ?_
    obtain ⟨q4, h3, hf⟩ := ob hf
    refine V_getQ (n := 11) (ty := tyX4) 7 h3 cf_3 rfl wd_fl_X7_191 dX7_worth_4 rfl ?_
    refine V_iload_n 1 8 rfl dX7_worth_7 rfl rfl ?_
    obtain ⟨q6, h5, hf⟩ := ob hf
    refine V_aald (t := 2) 9 h5 (by decide) dX7_worth_8 rfl ?_
    refine V_astore [(5, .ref q6), (0, .ref t), (1, .int a0), (2, .int a1), (3, .int a2), (4, .int a3)] 11 dX7_worth_9 (by decide) rfl rfl ?_
    refine V_aload 0 13 rfl dX7_worth_11 rfl ?_
    obtain ⟨v8, h7, hf⟩ := ob hf
    refine V_getI (n := 2) (ty := tyX1) 16 h7 cf_0 rfl wd_fl_X7_173 dX7_worth_13 rfl ?_
    refine V_if_le 34 19 dX7_worth_16 (by decide) rfl (fun c9 => ?_) (fun c9 => ?_)
    · rw [if_pos c9] at hf
      refine V_iload_n 2 35 rfl dX7_worth_34 rfl rfl ?_
      by_cases c10 : a0 = 0
      · rw [if_pos c10] at hf
        refine V_lsw 0 25 60 dX7_worth_35 c10 (by decide) (by decide) (by decide) ?_
        refine V_bipush 10 62 dX7_worth_60 rfl kbipush_10 ?_
        refine V_iload_n 3 63 rfl dX7_worth_62 rfl rfl ?_
        refine V_imul 64 dX7_worth_63 rfl ?_
        have er := Option.some.inj hf
        obtain ⟨e1, e2⟩ := Prod.mk.inj er
        subst e1
        subst e2
        exact V_iret hQ rfl dX7_worth_64
      rw [if_neg c10] at hf
      by_cases c11 : a0 = 1
      · rw [if_pos c11] at hf
        refine V_lsw 1 30 65 dX7_worth_35 c11 (by decide) (by decide) (by decide) ?_
        refine V_iload_n 4 66 rfl dX7_worth_65 rfl rfl ?_
        refine V_bipush 30 68 dX7_worth_66 rfl kbipush_30 ?_
        refine V_irem 69 dX7_worth_68 rfl (by decide) ?_
        refine V_bipush 7 71 dX7_worth_69 rfl kbipush_7 ?_
        have kj12 : V mi_X7_worth l G (d + 302) 0 0 X 0 0 79 [(5, .ref q6), (0, .ref t), (1, .int a0), (2, .int a1), (3, .int a2), (4, .int a3)] [.int (if (irm a2 30) = 7 then 1 else 0 : Int32)] σ := by
          have er := Option.some.inj hf
          obtain ⟨e1, e2⟩ := Prod.mk.inj er
          subst e1
          subst e2
          exact V_iret hQ rfl dX7_worth_79
        refine V_icmp_ne 78 74 dX7_worth_71 (by decide) rfl (fun c13 => ?_) (fun c13 => ?_)
        · refine V_iconst 0 79 dX7_worth_78 rfl kiconst_0 ?_
          refine V_ls [(5, .ref q6), (0, .ref t), (1, .int a0), (2, .int a1), (3, .int a2), (4, .int a3)] [0, 1, 2, 3, 4, 5] rfl ?_
          simp only [if_neg c13] at kj12
          exact kj12
        · refine V_iconst 1 75 dX7_worth_74 rfl kiconst_1 ?_
          refine V_goto 79 dX7_worth_75 (by decide) ?_
          refine V_ls [(5, .ref q6), (0, .ref t), (1, .int a0), (2, .int a1), (3, .int a2), (4, .int a3)] [0, 1, 2, 3, 4, 5] rfl ?_
          simp only [if_pos c13] at kj12
          exact kj12
      rw [if_neg c11] at hf
      refine V_lswD [0, 1] 80 dX7_worth_35 (fun q hq => by simp only [List.mem_cons, List.not_mem_nil, or_false] at hq; rcases hq with rfl | rfl <;> assumption) (by decide) (by decide) (by decide) ?_
      refine V_iconst 1 81 dX7_worth_80 rfl kiconst_1 ?_
      have er := Option.some.inj hf
      obtain ⟨e1, e2⟩ := Prod.mk.inj er
      subst e1
      subst e2
      exact V_iret hQ rfl dX7_worth_81
    · rw [if_neg c9] at hf
      refine V_aload_n 1 20 rfl dX7_worth_19 rfl rfl ?_
      obtain ⟨q15, h14, hf⟩ := ob hf
      refine V_getQ (n := 10) (ty := tyX7) 23 h14 cf_6 rfl wd_fl_X7_19 dX7_worth_20 rfl ?_
      refine V_aload 0 25 rfl dX7_worth_23 rfl ?_
      refine V_iload_n 2 26 rfl dX7_worth_25 rfl rfl ?_
      refine V_iload_n 3 27 rfl dX7_worth_26 rfl rfl ?_
      refine V_iload_n 4 28 rfl dX7_worth_27 rfl rfl ?_
      refine V_iload 5 30 rfl dX7_worth_28 rfl ?_
      obtain ⟨p17, h16, hf⟩ := ob hf
      refine V_callV (rest := []) (T := TX2) (n := 8) (ci := 1) 0 0 33 [.int p17.1] (c_X2_read l G (d + 0) _ _ _ _ _ _ _ _ _ h16) (by omega) ok_X2_read okv_X2_read (gd_X2_read h16) rfl wd_ml_X7_183 rfl rfl (Nat.le_of_ble_eq_true rfl) rfl rfl (Or.inl ⟨rfl, rfl⟩) dX7_worth_30 rfl rfl ?_
      have er := Option.some.inj hf
      obtain ⟨e1, e2⟩ := Prod.mk.inj er
      subst e1
      subst e2
      exact V_iret hQ rfl dX7_worth_33
  · rw [if_neg hg] at hf
    cases hf
abbrev mi_X7_lawAt : MI := (yX7_lawAt, cX7_lawAt, 3, some .long)
theorem ok_X7_lawAt : OkN mi_X7_lawAt 2 := ⟨wd_cd_X7_lawAt, wd_in_X7, ⟨by decide +kernel, by decide +kernel, by decide +kernel⟩, by decide⟩
theorem okv_X7_lawAt : Cond.instanceMethod (mi_X7_lawAt).1 ∈ tb ∧ Cond.selects (mi_X7_lawAt).1.cls (mi_X7_lawAt).1 (mi_X7_lawAt).1 ∈ tb := ⟨wd_im_X7_lawAt, wd_se_X7_lawAt⟩
def f_X7_lawAt (σ : St) (t : Nat) (a0 : Int32) (a1 : Int32) : Option (Int64 × St) := if isO σ 6 t = true then ((gQ σ 6 t 0).bind fun q2 => (gQ σ 3 q2 2).bind fun q4 => (f_X5_at σ q4 a0 2).bind fun v6 => (gQ σ 6 t 0).bind fun q8 => (f_X4_dayOf σ q8 a0).bind fun v10 => (f_X7_worth σ t 0 a1 v6 v10).bind fun p12 => some (p12.1.toInt64, p12.2)) else none
theorem gd_X7_lawAt {σ : St} {t : Nat} {a0 : Int32} {a1 : Int32} {r : Int64 × St} (h : f_X7_lawAt σ t a0 a1 = some r) : isO σ 6 t = true := by
  unfold f_X7_lawAt at h
  by_cases hg : isO σ 6 t = true
  · exact hg
  · rw [if_neg hg] at h
    cases h
set_option maxRecDepth 100000 in
set_option maxHeartbeats 4000000 in
theorem c_X7_lawAt (l : Launch) (G : Gd) (d : Nat) (σ : St) (t : Nat) (a0 : Int32) (a1 : Int32) (r0 : Int64) (σ' : St) (hf : f_X7_lawAt σ t a0 a1 = some (r0, σ')) : MetV l G (d + 303) mi_X7_lawAt [.ref t, .int a0, .int a1] σ (some (.long r0)) σ' 0 0 := by
  unfold f_X7_lawAt at hf
  refine MetV.of [(0, .ref t), (1, .int a0), (2, .int a1)] (by decide +kernel) rfl (Nat.le_of_ble_eq_true rfl) ?_
  intro X hQ
  by_cases hg : isO σ 6 t = true
  · rw [if_pos hg] at hf
    refine V_aload_n 0 1 rfl dX7_lawAt_0 rfl rfl ?_
    refine V_iconst 0 2 dX7_lawAt_1 rfl kiconst_0 ?_
    refine V_iload_n 2 3 rfl dX7_lawAt_2 rfl rfl ?_
    refine V_aload_n 0 4 rfl dX7_lawAt_3 rfl rfl ?_
    obtain ⟨q2, h1, hf⟩ := ob hf
    refine V_getQ (n := 10) (ty := tyX7) 7 h1 cf_6 rfl wd_fl_X7_12 dX7_lawAt_4 rfl ?_
    obtain ⟨q4, h3, hf⟩ := ob hf
    refine V_getQ (n := 11) (ty := tyX4) 10 h3 cf_3 rfl wd_fl_X7_126 dX7_lawAt_7 rfl ?_
    refine V_iload_n 1 11 rfl dX7_lawAt_10 rfl rfl ?_
    refine V_iconst 2 12 dX7_lawAt_11 rfl kiconst_2 ?_
    obtain ⟨v6, h5, hf⟩ := ob hf
    refine V_callV (rest := [.int a1, .int 0, .ref t]) (T := TX5) (n := 4) (ci := 4) 0 0 15 [.int v6, .int a1, .int 0, .ref t] (c_X5_at l G (d + 301) _ _ _ _ _ h5) (by omega) ok_X5_at okv_X5_at (gd_X5_at h5) rfl wd_ml_X7_76 rfl rfl (Nat.le_of_ble_eq_true rfl) rfl rfl (Or.inl ⟨rfl, rfl⟩) dX7_lawAt_12 rfl rfl ?_
    refine V_aload_n 0 16 rfl dX7_lawAt_15 rfl rfl ?_
    obtain ⟨q8, h7, hf⟩ := ob hf
    refine V_getQ (n := 10) (ty := tyX7) 19 h7 cf_6 rfl wd_fl_X7_12 dX7_lawAt_16 rfl ?_
    refine V_iload_n 1 20 rfl dX7_lawAt_19 rfl rfl ?_
    obtain ⟨v10, h9, hf⟩ := ob hf
    refine V_callV (rest := [.int v6, .int a1, .int 0, .ref t]) (T := TX4) (n := 11) (ci := 3) 0 0 23 [.int v10, .int v6, .int a1, .int 0, .ref t] (c_X4_dayOf l G (d + 300) _ _ _ _ h9) (by omega) ok_X4_dayOf okv_X4_dayOf (gd_X4_dayOf h9) rfl wd_ml_X7_368 rfl rfl (Nat.le_of_ble_eq_true rfl) rfl rfl (Or.inl ⟨rfl, rfl⟩) dX7_lawAt_20 rfl rfl ?_
    obtain ⟨p12, h11, hf⟩ := ob hf
    refine V_callV (rest := []) (T := TX7) (n := 10) (ci := 6) 0 0 26 [.int p12.1] (c_X7_worth l G (d + 0) _ _ _ _ _ _ _ _ h11) (by omega) ok_X7_worth okv_X7_worth (gd_X7_worth h11) rfl wd_ml_X7_207 rfl rfl (Nat.le_of_ble_eq_true rfl) rfl rfl (Or.inl ⟨rfl, rfl⟩) dX7_lawAt_23 rfl rfl ?_
    refine V_i2l 27 dX7_lawAt_26 rfl ?_
    have er := Option.some.inj hf
    obtain ⟨e1, e2⟩ := Prod.mk.inj er
    subst e1
    subst e2
    exact V_lret hQ rfl dX7_lawAt_27
  · rw [if_neg hg] at hf
    cases hf
abbrev mi_X7_held : MI := (yX7_held, cX7_held, 2, some .int)
theorem ok_X7_held : OkN mi_X7_held 1 := ⟨wd_cd_X7_held, wd_in_X7, ⟨by decide +kernel, by decide +kernel, by decide +kernel⟩, by decide⟩
theorem oks_X7_held : Cond.static (mi_X7_held).1 ∈ tb := wd_sm_X7_held
def f_X7_held (σ : St) (a0 : Int64) : Option Int32 := (f_J9_min_f86c9 σ 99999 a0).bind fun v2 => (f_J9_max_f86c9 σ (-99999) v2).bind fun v4 => some v4.toInt32
set_option maxRecDepth 100000 in
set_option maxHeartbeats 4000000 in
theorem c_X7_held (l : Launch) (G : Gd) (d : Nat) (σ : St) (a0 : Int64) (r0 : Int32) (hf : f_X7_held σ a0 = some r0) : MetV l G (d + 2) mi_X7_held [.long a0] σ (some (.int r0)) σ 0 0 := by
  unfold f_X7_held at hf
  refine MetV.of [(0, .long a0)] (by decide +kernel) rfl (Nat.le_of_ble_eq_true rfl) ?_
  intro X hQ
  refine V_ldc2 (-99999) 3 dX7_held_0 rfl wd_kl_X7_361 ?_
  refine V_ldc2 99999 6 dX7_held_3 rfl wd_kl_X7_363 ?_
  refine V_lload_n 0 7 rfl dX7_held_6 rfl rfl ?_
  obtain ⟨v2, h1, hf⟩ := ob hf
  refine V_callS (rest := [.long (-99999)]) 0 0 10 [.long v2, .long (-99999)] (c_J9_min_f86c9 l G (d + 0) _ _ _ _ h1) (by omega) ok_J9_min_f86c9 oks_J9_min_f86c9 wd_ml_X7_253 rfl rfl (Nat.le_of_ble_eq_true rfl) rfl rfl (Or.inl ⟨rfl, rfl⟩) dX7_held_7 rfl rfl ?_
  obtain ⟨v4, h3, hf⟩ := ob hf
  refine V_callS (rest := []) 0 0 13 [.long v4] (c_J9_max_f86c9 l G (d + 0) _ _ _ _ h3) (by omega) ok_J9_max_f86c9 oks_J9_max_f86c9 wd_ml_X7_248 rfl rfl (Nat.le_of_ble_eq_true rfl) rfl rfl (Or.inl ⟨rfl, rfl⟩) dX7_held_10 rfl rfl ?_
  refine V_l2i 14 dX7_held_13 rfl ?_
  have er := Option.some.inj hf
  subst er
  exact V_iret hQ rfl dX7_held_14
abbrev mi_X7_measure : MI := (yX7_measure, cX7_measure, 11, some .int)
theorem ok_X7_measure : OkN mi_X7_measure 2 := ⟨wd_cd_X7_measure, wd_in_X7, ⟨by decide +kernel, by decide +kernel, by decide +kernel⟩, by decide⟩
theorem okv_X7_measure : Cond.instanceMethod (mi_X7_measure).1 ∈ tb ∧ Cond.selects (mi_X7_measure).1.cls (mi_X7_measure).1 (mi_X7_measure).1 ∈ tb := ⟨wd_im_X7_measure, wd_se_X7_measure⟩
def f_X7_measure_L96 (x7 : Int32) (x5 : Int64) (x4 : Int32) (t : Nat) (x2 : Int32) : Nat → Int32 → St → Option (Int32 × St)
  | 0, _, _ => none
  | n + 1, x8, σ => if x2 ≤ x8 then (some (x8, σ)) else ((gQ σ 6 t 0).bind fun q34 => (f_X4_draw σ q34 (((2 : Int32) * x7) + 1)).bind fun p36 => (gQ p36.2 6 t 0).bind fun q38 => (f_X7_lawAt p36.2 t x4 x8).bind fun p40 => (f_X7_held p40.2 (p40.1 + (((p36.1 - x7).toInt64) * x5))).bind fun v42 => (f_X4_setPoint p40.2 q38 x4 x8 v42).bind fun s44 => f_X7_measure_L96 x7 x5 x4 t x2 n (x8 + 1) s44)
def f_X7_measure (σ : St) (t : Nat) (a0 : Int32) (a1 : Int32) : Option (Int32 × St) := if isO σ 6 t = true then ((f_X7_isPlace σ t a0).bind fun v2 => if v2 = 0 then ((f_X7_fails σ t (-1000001)).bind fun p5 => some (p5.1, p5.2)) else ((f_X7_isLength σ a1).bind fun v7 => if v7 = 0 then ((f_X7_fails σ t (-1000001)).bind fun p50 => some (p50.1, p50.2)) else ((gQ σ 6 t 0).bind fun q10 => (gQ σ 3 q10 2).bind fun q12 => (f_X5_isFull σ q12).bind fun v14 => if v14 = 0 then ((gQ σ 6 t 0).bind fun q17 => (f_X4_addCurve σ q17 1 (a0 / 10) (irm a0 10) a1 (-1)).bind fun p19 => (gQ p19.2 6 t 0).bind fun q21 => (gQ p19.2 3 q21 0).bind fun q23 => (f_X5_at p19.2 q23 (irm a0 10) 0).bind fun v25 => (gQ p19.2 6 t 0).bind fun q27 => (gQ p19.2 3 q27 0).bind fun q29 => (f_X5_at p19.2 q29 (irm a0 10) 1).bind fun v31 => (f_X7_measure_L96 v31 v25.toInt64 p19.1 t a1 3000 0 p19.2).bind fun p45 => some (p19.1, p45.2)) else ((f_X7_fails σ t (-1000004)).bind fun p48 => some (p48.1, p48.2))))) else none
theorem gd_X7_measure {σ : St} {t : Nat} {a0 : Int32} {a1 : Int32} {r : Int32 × St} (h : f_X7_measure σ t a0 a1 = some r) : isO σ 6 t = true := by
  unfold f_X7_measure at h
  by_cases hg : isO σ 6 t = true
  · exact hg
  · rw [if_neg hg] at h
    cases h
set_option maxRecDepth 100000 in
set_option maxHeartbeats 4000000 in
theorem c_X7_measure (l : Launch) (G : Gd) (d : Nat) (σ : St) (t : Nat) (a0 : Int32) (a1 : Int32) (r0 : Int32) (σ' : St) (hf : f_X7_measure σ t a0 a1 = some (r0, σ')) : MetV l G (d + 304) mi_X7_measure [.ref t, .int a0, .int a1] σ (some (.int r0)) σ' 0 0 := by
  unfold f_X7_measure at hf
  refine MetV.of [(0, .ref t), (1, .int a0), (2, .int a1)] (by decide +kernel) rfl (Nat.le_of_ble_eq_true rfl) ?_
  intro X hQ
  have L96 : ∀ (x7 : Int32) (x5 : Int64) (x4 : Int32) (x2 : Int32) (n : Nat) (x8 : Int32) (σ : St) (p : Int32 × St), f_X7_measure_L96 x7 x5 x4 t x2 n x8 σ = some p → V mi_X7_measure l G (d + 304) 0 0 X 0 0 155 [(8, .int p.1), (7, .int x7), (5, .long x5), (4, .int x4), (0, .ref t), (2, .int x2)] [] p.2 → V mi_X7_measure l G (d + 304) 0 0 X 0 0 96 [(8, .int x8), (7, .int x7), (5, .long x5), (4, .int x4), (0, .ref t), (2, .int x2)] [] σ := by
    intro x7 x5 x4 x2 n
    induction n with
    | zero =>
      intro x8 σ p hf
      exact absurd (show (none : Option _) = some p from hf) (by simp)
    | succ n ih =>
      intro x8 σ p hf hk
      rw [f_X7_measure_L96] at hf
      refine V_iload 0 98 rfl dX7_measure_96 rfl ?_
      refine V_iload_n 5 99 rfl dX7_measure_98 rfl rfl ?_
      refine V_icmp_ge 155 102 dX7_measure_99 (by decide) rfl (fun c32 => ?_) (fun c32 => ?_)
      · rw [if_pos c32] at hf
        have ep := Option.some.inj hf
        subst ep
        refine V_ls [(8, .int x8), (7, .int x7), (5, .long x5), (4, .int x4), (0, .ref t), (2, .int x2)] [0, 1, 2, 3, 4, 5] rfl ?_
        exact hk
      · rw [if_neg c32] at hf
        refine V_aload_n 4 103 rfl dX7_measure_102 rfl rfl ?_
        obtain ⟨q34, h33, hf⟩ := ob hf
        refine V_getQ (n := 10) (ty := tyX7) 106 h33 cf_6 rfl wd_fl_X7_12 dX7_measure_103 rfl ?_
        refine V_iconst 2 107 dX7_measure_106 rfl kiconst_2 ?_
        refine V_iload 1 109 rfl dX7_measure_107 rfl ?_
        refine V_imul 110 dX7_measure_109 rfl ?_
        refine V_iconst 1 111 dX7_measure_110 rfl kiconst_1 ?_
        refine V_iadd 112 dX7_measure_111 rfl ?_
        obtain ⟨p36, h35, hf⟩ := ob hf
        refine V_callV (rest := []) (T := TX4) (n := 11) (ci := 3) 0 0 115 [.int p36.1] (c_X4_draw l G (d + 302) _ _ _ _ _ h35) (by omega) ok_X4_draw okv_X4_draw (gd_X4_draw h35) rfl wd_ml_X7_138 rfl rfl (Nat.le_of_ble_eq_true rfl) rfl rfl (Or.inl ⟨rfl, rfl⟩) dX7_measure_112 rfl rfl ?_
        refine V_iload 1 117 rfl dX7_measure_115 rfl ?_
        refine V_isub 118 dX7_measure_117 rfl ?_
        refine V_i2l 119 dX7_measure_118 rfl ?_
        refine V_lstore [(9, .long ((p36.1 - x7).toInt64)), (8, .int x8), (7, .int x7), (5, .long x5), (4, .int x4), (0, .ref t), (2, .int x2)] 121 dX7_measure_119 (by decide) rfl rfl ?_
        refine V_aload_n 5 122 rfl dX7_measure_121 rfl rfl ?_
        obtain ⟨q38, h37, hf⟩ := ob hf
        refine V_getQ (n := 10) (ty := tyX7) 125 h37 cf_6 rfl wd_fl_X7_12 dX7_measure_122 rfl ?_
        refine V_iload 4 127 rfl dX7_measure_125 rfl ?_
        refine V_iload 1 129 rfl dX7_measure_127 rfl ?_
        refine V_aload_n 5 130 rfl dX7_measure_129 rfl rfl ?_
        refine V_iload 4 132 rfl dX7_measure_130 rfl ?_
        refine V_iload 1 134 rfl dX7_measure_132 rfl ?_
        obtain ⟨p40, h39, hf⟩ := ob hf
        refine V_callV (rest := [.int x8, .int x4, .ref q38]) (T := TX7) (n := 10) (ci := 6) 0 0 137 [.long p40.1, .int x8, .int x4, .ref q38] (c_X7_lawAt l G (d + 0) _ _ _ _ _ _ h39) (by omega) ok_X7_lawAt okv_X7_lawAt (gd_X7_lawAt h39) rfl wd_ml_X7_141 rfl rfl (Nat.le_of_ble_eq_true rfl) rfl rfl (Or.inl ⟨rfl, rfl⟩) dX7_measure_134 rfl rfl ?_
        refine V_lload 0 139 rfl dX7_measure_137 rfl ?_
        refine V_lload 3 141 rfl dX7_measure_139 rfl ?_
        refine V_lmul 142 dX7_measure_141 rfl ?_
        refine V_ladd 143 dX7_measure_142 rfl ?_
        obtain ⟨v42, h41, hf⟩ := ob hf
        refine V_callS (rest := [.int x8, .int x4, .ref q38]) 0 0 146 [.int v42, .int x8, .int x4, .ref q38] (c_X7_held l G (d + 301) _ _ _ h41) (by omega) ok_X7_held oks_X7_held wd_ml_X7_145 rfl rfl (Nat.le_of_ble_eq_true rfl) rfl rfl (Or.inl ⟨rfl, rfl⟩) dX7_measure_143 rfl rfl ?_
        obtain ⟨s44, h43, hf⟩ := ob hf
        refine V_callV (rest := []) (T := TX4) (n := 11) (ci := 3) 0 0 149 [] (c_X4_setPoint l G (d + 302) _ _ _ _ _ _ h43) (by omega) ok_X4_setPoint okv_X4_setPoint (gd_X4_setPoint h43) rfl wd_ml_X7_135 rfl rfl (Nat.le_of_ble_eq_true rfl) rfl rfl (Or.inl ⟨rfl, rfl⟩) dX7_measure_146 rfl rfl ?_
        refine V_iinc (x8 + 1) 1 [(8, .int (x8 + 1)), (9, .long ((p36.1 - x7).toInt64)), (7, .int x7), (5, .long x5), (4, .int x4), (0, .ref t), (2, .int x2)] 152 dX7_measure_149 rfl (by rw [kiconst_1]) (by decide) rfl rfl ?_
        refine V_goto 96 dX7_measure_152 (by decide) ?_
        refine V_ls [(8, .int (x8 + 1)), (7, .int x7), (5, .long x5), (4, .int x4), (0, .ref t), (2, .int x2)] [0, 2, 3, 4, 5, 6] rfl ?_
        exact ih _ _ _ hf hk
  by_cases hg : isO σ 6 t = true
  · rw [if_pos hg] at hf
    refine V_aload_n 0 1 rfl dX7_measure_0 rfl rfl ?_
    refine V_iload_n 1 2 rfl dX7_measure_1 rfl rfl ?_
    obtain ⟨v2, h1, hf⟩ := ob hf
    refine V_callV (rest := []) (T := TX7) (n := 10) (ci := 6) 0 0 5 [.int v2] (c_X7_isPlace l G (d + 301) _ _ _ _ h1) (by omega) ok_X7_isPlace okv_X7_isPlace (gd_X7_isPlace h1) rfl wd_ml_X7_108 rfl rfl (Nat.le_of_ble_eq_true rfl) rfl rfl (Or.inl ⟨rfl, rfl⟩) dX7_measure_2 rfl rfl ?_
    refine V_if_eq 15 8 dX7_measure_5 (by decide) rfl (fun c3 => ?_) (fun c3 => ?_)
    · rw [if_pos c3] at hf
      refine V_aload_n 0 16 rfl dX7_measure_15 rfl rfl ?_
      refine V_ldc (-1000001) 18 dX7_measure_16 rfl wd_kk_X7_67 ?_
      obtain ⟨p5, h4, hf⟩ := ob hf
      refine V_callV (rest := []) (T := TX7) (n := 10) (ci := 6) 0 0 21 [.int p5.1] (c_X7_fails l G (d + 301) _ _ _ _ _ h4) (by omega) ok_X7_fails okv_X7_fails (gd_X7_fails h4) rfl wd_ml_X7_68 rfl rfl (Nat.le_of_ble_eq_true rfl) rfl rfl (Or.inl ⟨rfl, rfl⟩) dX7_measure_18 rfl rfl ?_
      have er := Option.some.inj hf
      obtain ⟨e1, e2⟩ := Prod.mk.inj er
      subst e1
      subst e2
      exact V_iret hQ rfl dX7_measure_21
    · rw [if_neg c3] at hf
      refine V_iload_n 2 9 rfl dX7_measure_8 rfl rfl ?_
      obtain ⟨v7, h6, hf⟩ := ob hf
      refine V_callS (rest := []) 0 0 12 [.int v7] (c_X7_isLength l G (d + 301) _ _ _ h6) (by omega) ok_X7_isLength oks_X7_isLength wd_ml_X7_111 rfl rfl (Nat.le_of_ble_eq_true rfl) rfl rfl (Or.inl ⟨rfl, rfl⟩) dX7_measure_9 rfl rfl ?_
      refine V_if_ne 22 15 dX7_measure_12 (by decide) rfl (fun c8 => ?_) (fun c8 => ?_)
      · rw [if_neg c8] at hf
        refine V_aload_n 0 23 rfl dX7_measure_22 rfl rfl ?_
        obtain ⟨q10, h9, hf⟩ := ob hf
        refine V_getQ (n := 10) (ty := tyX7) 26 h9 cf_6 rfl wd_fl_X7_12 dX7_measure_23 rfl ?_
        obtain ⟨q12, h11, hf⟩ := ob hf
        refine V_getQ (n := 11) (ty := tyX4) 29 h11 cf_3 rfl wd_fl_X7_126 dX7_measure_26 rfl ?_
        obtain ⟨v14, h13, hf⟩ := ob hf
        refine V_callV (rest := []) (T := TX5) (n := 4) (ci := 4) 0 0 32 [.int v14] (c_X5_isFull l G (d + 302) _ _ _ h13) (by omega) ok_X5_isFull okv_X5_isFull (gd_X5_isFull h13) rfl wd_ml_X7_92 rfl rfl (Nat.le_of_ble_eq_true rfl) rfl rfl (Or.inl ⟨rfl, rfl⟩) dX7_measure_29 rfl rfl ?_
        refine V_if_eq 42 35 dX7_measure_32 (by decide) rfl (fun c15 => ?_) (fun c15 => ?_)
        · rw [if_pos c15] at hf
          refine V_iload_n 1 43 rfl dX7_measure_42 rfl rfl ?_
          refine V_bipush 10 45 dX7_measure_43 rfl kbipush_10 ?_
          refine V_irem 46 dX7_measure_45 rfl (by decide) ?_
          refine V_istore_n [(3, .int (irm a0 10)), (0, .ref t), (1, .int a0), (2, .int a1)] 47 dX7_measure_46 rfl (by decide) rfl rfl ?_
          refine V_aload_n 1 48 rfl dX7_measure_47 rfl rfl ?_
          obtain ⟨q17, h16, hf⟩ := ob hf
          refine V_getQ (n := 10) (ty := tyX7) 51 h16 cf_6 rfl wd_fl_X7_12 dX7_measure_48 rfl ?_
          refine V_iconst 1 52 dX7_measure_51 rfl kiconst_1 ?_
          refine V_iload_n 2 53 rfl dX7_measure_52 rfl rfl ?_
          refine V_bipush 10 55 dX7_measure_53 rfl kbipush_10 ?_
          refine V_idiv 56 dX7_measure_55 rfl (by decide) ?_
          refine V_iload_n 0 57 rfl dX7_measure_56 rfl rfl ?_
          refine V_iload_n 3 58 rfl dX7_measure_57 rfl rfl ?_
          refine V_iconst (-1) 59 dX7_measure_58 rfl kiconst_m1 ?_
          obtain ⟨p19, h18, hf⟩ := ob hf
          refine V_callV (rest := []) (T := TX4) (n := 11) (ci := 3) 0 0 62 [.int p19.1] (c_X4_addCurve l G (d + 301) _ _ _ _ _ _ _ _ _ h18) (by omega) ok_X4_addCurve okv_X4_addCurve (gd_X4_addCurve h18) rfl wd_ml_X7_129 rfl rfl (Nat.le_of_ble_eq_true rfl) rfl rfl (Or.inl ⟨rfl, rfl⟩) dX7_measure_59 rfl rfl ?_
          refine V_istore [(4, .int p19.1), (3, .int (irm a0 10)), (0, .ref t), (1, .int a0), (2, .int a1)] 64 dX7_measure_62 (by decide) rfl rfl ?_
          refine V_aload_n 2 65 rfl dX7_measure_64 rfl rfl ?_
          obtain ⟨q21, h20, hf⟩ := ob hf
          refine V_getQ (n := 10) (ty := tyX7) 68 h20 cf_6 rfl wd_fl_X7_12 dX7_measure_65 rfl ?_
          obtain ⟨q23, h22, hf⟩ := ob hf
          refine V_getQ (n := 11) (ty := tyX4) 71 h22 cf_3 rfl wd_fl_X7_72 dX7_measure_68 rfl ?_
          refine V_iload_n 1 72 rfl dX7_measure_71 rfl rfl ?_
          refine V_iconst 0 73 dX7_measure_72 rfl kiconst_0 ?_
          obtain ⟨v25, h24, hf⟩ := ob hf
          refine V_callV (rest := []) (T := TX5) (n := 4) (ci := 4) 0 0 76 [.int v25] (c_X5_at l G (d + 302) _ _ _ _ _ h24) (by omega) ok_X5_at okv_X5_at (gd_X5_at h24) rfl wd_ml_X7_76 rfl rfl (Nat.le_of_ble_eq_true rfl) rfl rfl (Or.inl ⟨rfl, rfl⟩) dX7_measure_73 rfl rfl ?_
          refine V_i2l 77 dX7_measure_76 rfl ?_
          refine V_lstore [(5, .long v25.toInt64), (4, .int p19.1), (3, .int (irm a0 10)), (0, .ref t), (1, .int a0), (2, .int a1)] 79 dX7_measure_77 (by decide) rfl rfl ?_
          refine V_aload_n 3 80 rfl dX7_measure_79 rfl rfl ?_
          obtain ⟨q27, h26, hf⟩ := ob hf
          refine V_getQ (n := 10) (ty := tyX7) 83 h26 cf_6 rfl wd_fl_X7_12 dX7_measure_80 rfl ?_
          obtain ⟨q29, h28, hf⟩ := ob hf
          refine V_getQ (n := 11) (ty := tyX4) 86 h28 cf_3 rfl wd_fl_X7_72 dX7_measure_83 rfl ?_
          refine V_iload_n 2 87 rfl dX7_measure_86 rfl rfl ?_
          refine V_iconst 1 88 dX7_measure_87 rfl kiconst_1 ?_
          obtain ⟨v31, h30, hf⟩ := ob hf
          refine V_callV (rest := []) (T := TX5) (n := 4) (ci := 4) 0 0 91 [.int v31] (c_X5_at l G (d + 302) _ _ _ _ _ h30) (by omega) ok_X5_at okv_X5_at (gd_X5_at h30) rfl wd_ml_X7_76 rfl rfl (Nat.le_of_ble_eq_true rfl) rfl rfl (Or.inl ⟨rfl, rfl⟩) dX7_measure_88 rfl rfl ?_
          refine V_istore [(7, .int v31), (5, .long v25.toInt64), (4, .int p19.1), (3, .int (irm a0 10)), (0, .ref t), (1, .int a0), (2, .int a1)] 93 dX7_measure_91 (by decide) rfl rfl ?_
          refine V_iconst 0 94 dX7_measure_93 rfl kiconst_0 ?_
          refine V_istore [(8, .int 0), (7, .int v31), (5, .long v25.toInt64), (4, .int p19.1), (3, .int (irm a0 10)), (0, .ref t), (1, .int a0), (2, .int a1)] 96 dX7_measure_94 (by decide) rfl rfl ?_
          obtain ⟨p45, h46, hf⟩ := ob hf
          refine V_ls [(8, .int 0), (7, .int v31), (5, .long v25.toInt64), (4, .int p19.1), (0, .ref t), (2, .int a1)] [0, 1, 2, 3, 5, 7] rfl ?_
          refine L96 v31 v25.toInt64 p19.1 a1 3000 0 p19.2 p45 h46 ?_
          refine V_iload 3 157 rfl dX7_measure_155 rfl ?_
          have er := Option.some.inj hf
          obtain ⟨e1, e2⟩ := Prod.mk.inj er
          subst e1
          subst e2
          exact V_iret hQ rfl dX7_measure_157
        · rw [if_neg c15] at hf
          refine V_aload_n 0 36 rfl dX7_measure_35 rfl rfl ?_
          refine V_ldc (-1000004) 38 dX7_measure_36 rfl wd_kk_X7_96 ?_
          obtain ⟨p48, h47, hf⟩ := ob hf
          refine V_callV (rest := []) (T := TX7) (n := 10) (ci := 6) 0 0 41 [.int p48.1] (c_X7_fails l G (d + 301) _ _ _ _ _ h47) (by omega) ok_X7_fails okv_X7_fails (gd_X7_fails h47) rfl wd_ml_X7_68 rfl rfl (Nat.le_of_ble_eq_true rfl) rfl rfl (Or.inl ⟨rfl, rfl⟩) dX7_measure_38 rfl rfl ?_
          have er := Option.some.inj hf
          obtain ⟨e1, e2⟩ := Prod.mk.inj er
          subst e1
          subst e2
          exact V_iret hQ rfl dX7_measure_41
      · rw [if_pos c8] at hf
        refine V_aload_n 0 16 rfl dX7_measure_15 rfl rfl ?_
        refine V_ldc (-1000001) 18 dX7_measure_16 rfl wd_kk_X7_67 ?_
        obtain ⟨p50, h49, hf⟩ := ob hf
        refine V_callV (rest := []) (T := TX7) (n := 10) (ci := 6) 0 0 21 [.int p50.1] (c_X7_fails l G (d + 301) _ _ _ _ _ h49) (by omega) ok_X7_fails okv_X7_fails (gd_X7_fails h49) rfl wd_ml_X7_68 rfl rfl (Nat.le_of_ble_eq_true rfl) rfl rfl (Or.inl ⟨rfl, rfl⟩) dX7_measure_18 rfl rfl ?_
        have er := Option.some.inj hf
        obtain ⟨e1, e2⟩ := Prod.mk.inj er
        subst e1
        subst e2
        exact V_iret hQ rfl dX7_measure_21
  · rw [if_neg hg] at hf
    cases hf
abbrev mi_X7_isFactor : MI := (yX7_isFactor, cX7_isFactor, 1, some .boolean)
theorem ok_X7_isFactor : OkN mi_X7_isFactor 1 := ⟨wd_cd_X7_isFactor, wd_in_X7, ⟨by decide +kernel, by decide +kernel, by decide +kernel⟩, by decide⟩
theorem oks_X7_isFactor : Cond.static (mi_X7_isFactor).1 ∈ tb := wd_sm_X7_isFactor
def f_X7_isFactor (σ : St) (a0 : Int32) : Option Int32 := (f_X7_outside σ a0 1 5).bind fun v2 => (zr (if v2 = 0 then 1 else 0 : Int32)).bind fun z3 => some (if v2 = 0 then 1 else 0 : Int32)
set_option maxRecDepth 100000 in
set_option maxHeartbeats 4000000 in
theorem c_X7_isFactor (l : Launch) (G : Gd) (d : Nat) (σ : St) (a0 : Int32) (r0 : Int32) (hf : f_X7_isFactor σ a0 = some r0) : MetV l G (d + 2) mi_X7_isFactor [.int a0] σ (some (.int r0)) σ 0 0 := by
  unfold f_X7_isFactor at hf
  refine MetV.of [(0, .int a0)] (by decide +kernel) rfl (Nat.le_of_ble_eq_true rfl) ?_
  intro X hQ
  refine V_iload_n 0 1 rfl dX7_isFactor_0 rfl rfl ?_
  refine V_iconst 1 2 dX7_isFactor_1 rfl kiconst_1 ?_
  refine V_iconst 5 3 dX7_isFactor_2 rfl kiconst_5 ?_
  obtain ⟨v2, h1, hf⟩ := ob hf
  refine V_callS (rest := []) 0 0 6 [.int v2] (c_X7_outside l G (d + 0) _ _ _ _ _ h1) (by omega) ok_X7_outside oks_X7_outside wd_ml_X7_57 rfl rfl (Nat.le_of_ble_eq_true rfl) rfl rfl (Or.inl ⟨rfl, rfl⟩) dX7_isFactor_3 rfl rfl ?_
  have kj5 : V mi_X7_isFactor l G (d + 2) 0 0 X 0 0 14 [(0, .int a0)] [.int (if v2 = 0 then 1 else 0 : Int32)] σ := by
    obtain ⟨z3, h4, hf⟩ := ob hf
    have er := Option.some.inj hf
    subst er
    exact V_zret (zr_ok h4) hQ rfl dX7_isFactor_14
  refine V_if_ne 13 9 dX7_isFactor_6 (by decide) rfl (fun c6 => ?_) (fun c6 => ?_)
  · refine V_iconst 0 14 dX7_isFactor_13 rfl kiconst_0 ?_
    refine V_ls [(0, .int a0)] [0] rfl ?_
    simp only [if_neg c6] at kj5
    exact kj5
  · refine V_iconst 1 10 dX7_isFactor_9 rfl kiconst_1 ?_
    refine V_goto 14 dX7_isFactor_10 (by decide) ?_
    refine V_ls [(0, .int a0)] [0] rfl ?_
    simp only [if_pos c6] at kj5
    exact kj5
abbrev mi_X7_make : MI := (yX7_make, cX7_make, 17, some .int)
theorem ok_X7_make : OkN mi_X7_make 5 := ⟨wd_cd_X7_make, wd_in_X7, ⟨by decide +kernel, by decide +kernel, by decide +kernel⟩, by decide⟩
theorem okv_X7_make : Cond.instanceMethod (mi_X7_make).1 ∈ tb ∧ Cond.selects (mi_X7_make).1.cls (mi_X7_make).1 (mi_X7_make).1 ∈ tb := ⟨wd_im_X7_make, wd_se_X7_make⟩
def f_X7_make_L207 (x13 : Int32) (x12 : Int32) (x11 : Int32) (x10 : Int32) (x9 : Int32) (x8 : Int32) (x6 : Int32) (t : Nat) (x2 : Int32) (x4 : Int32) : Nat → Int32 → St → Option (Int32 × St)
  | 0, _, _ => none
  | n + 1, x14, σ => if x11 ≤ x14 then (some (x14, σ)) else ((gQ σ 6 t 0).bind fun q68 => (f_X4_pointAt σ q68 x6 (x10 + (x13 * x14))).bind fun v70 => (ne0 x9).bind fun z71 => (gQ σ 6 t 0).bind fun q74 => (f_X7_held σ (((if (x2 &&& 2) = 2 then (-((v70 * x8) / x9)) else ((v70 * x8) / x9) : Int32) + x4).toInt64)).bind fun v76 => (f_X4_setPoint σ q74 x12 x14 v76).bind fun s78 => f_X7_make_L207 x13 x12 x11 x10 x9 x8 x6 t x2 x4 n (x14 + 1) s78)
def f_X7_make (σ : St) (t : Nat) (a0 : Int32) (a1 : Int32) (a2 : Int32) (a3 : Int32) (a4 : Int32) : Option (Int32 × St) := if isO σ 6 t = true then ((gQ σ 6 t 0).bind fun q2 => (gQ σ 3 q2 2).bind fun q4 => (f_X5_has σ q4 (irm a0 100)).bind fun v6 => if v6 = 0 then ((f_X7_fails σ t (-1000001)).bind fun p9 => some (p9.1, p9.2)) else ((gQ σ 6 t 0).bind fun q11 => (gQ σ 3 q11 1).bind fun q13 => (f_X5_has σ q13 (a0 / 100)).bind fun v15 => if v15 = 0 then ((f_X7_fails σ t (-1000001)).bind fun p18 => some (p18.1, p18.2)) else ((f_X7_outside σ a1 0 3).bind fun v20 => if v20 = 0 then ((f_X7_isFactor σ (a2 / 10)).bind fun v25 => if v25 = 0 then ((f_X7_fails σ t (-1000001)).bind fun p28 => some (p28.1, p28.2)) else ((f_X7_isFactor σ (irm a2 10)).bind fun v30 => if v30 = 0 then ((f_X7_fails σ t (-1000001)).bind fun p33 => some (p33.1, p33.2)) else ((f_X7_outside σ a3 (-999) 999).bind fun v35 => if v35 = 0 then ((f_X7_isLength σ (irm a4 100)).bind fun v40 => if v40 = 0 then ((f_X7_fails σ t (-1000001)).bind fun p43 => some (p43.1, p43.2)) else ((gQ σ 6 t 0).bind fun q45 => (f_X4_roomFrom σ q45 (irm a0 100) (a4 / 100) (a1 &&& 1)).bind fun v47 => if (irm a4 100) ≤ v47 then ((gQ σ 6 t 0).bind fun q50 => (gQ σ 3 q50 2).bind fun q52 => (f_X5_isFull σ q52).bind fun v54 => if v54 = 0 then ((gQ σ 6 t 0).bind fun q57 => (gQ σ 6 t 0).bind fun q59 => (gQ σ 3 q59 2).bind fun q61 => (f_X5_at σ q61 (irm a0 100) 2).bind fun v63 => (f_X4_addCurve σ q57 3 (a0 / 100) v63 (irm a4 100) (irm a0 100)).bind fun p65 => (f_X7_make_L207 (if (a1 &&& 1) = 1 then (-1) else 1 : Int32) p65.1 (irm a4 100) (a4 / 100) (irm a2 10) (a2 / 10) (irm a0 100) t a1 a3 3000 0 p65.2).bind fun p81 => some (p65.1, p81.2)) else ((f_X7_fails σ t (-1000004)).bind fun p86 => some (p86.1, p86.2))) else ((f_X7_fails σ t (-1000001)).bind fun p88 => some (p88.1, p88.2)))) else ((f_X7_fails σ t (-1000001)).bind fun p38 => some (p38.1, p38.2))))) else ((f_X7_fails σ t (-1000001)).bind fun p23 => some (p23.1, p23.2))))) else none
theorem gd_X7_make {σ : St} {t : Nat} {a0 : Int32} {a1 : Int32} {a2 : Int32} {a3 : Int32} {a4 : Int32} {r : Int32 × St} (h : f_X7_make σ t a0 a1 a2 a3 a4 = some r) : isO σ 6 t = true := by
  unfold f_X7_make at h
  by_cases hg : isO σ 6 t = true
  · exact hg
  · rw [if_neg hg] at h
    cases h
set_option maxRecDepth 100000 in
set_option maxHeartbeats 4000000 in
theorem c_X7_make (l : Launch) (G : Gd) (d : Nat) (σ : St) (t : Nat) (a0 : Int32) (a1 : Int32) (a2 : Int32) (a3 : Int32) (a4 : Int32) (r0 : Int32) (σ' : St) (hf : f_X7_make σ t a0 a1 a2 a3 a4 = some (r0, σ')) : MetV l G (d + 4) mi_X7_make [.ref t, .int a0, .int a1, .int a2, .int a3, .int a4] σ (some (.int r0)) σ' 0 0 := by
  unfold f_X7_make at hf
  refine MetV.of [(0, .ref t), (1, .int a0), (2, .int a1), (3, .int a2), (4, .int a3), (5, .int a4)] (by decide +kernel) rfl (Nat.le_of_ble_eq_true rfl) ?_
  intro X hQ
  have L207 : ∀ (x13 : Int32) (x12 : Int32) (x11 : Int32) (x10 : Int32) (x9 : Int32) (x8 : Int32) (x6 : Int32) (x2 : Int32) (x4 : Int32) (n : Nat) (x14 : Int32) (σ : St) (p : Int32 × St), f_X7_make_L207 x13 x12 x11 x10 x9 x8 x6 t x2 x4 n x14 σ = some p → V mi_X7_make l G (d + 4) 0 0 X 0 0 282 [(14, .int p.1), (13, .int x13), (12, .int x12), (11, .int x11), (10, .int x10), (9, .int x9), (8, .int x8), (6, .int x6), (0, .ref t), (2, .int x2), (4, .int x4)] [] p.2 → V mi_X7_make l G (d + 4) 0 0 X 0 0 207 [(14, .int x14), (13, .int x13), (12, .int x12), (11, .int x11), (10, .int x10), (9, .int x9), (8, .int x8), (6, .int x6), (0, .ref t), (2, .int x2), (4, .int x4)] [] σ := by
    intro x13 x12 x11 x10 x9 x8 x6 x2 x4 n
    induction n with
    | zero =>
      intro x14 σ p hf
      exact absurd (show (none : Option _) = some p from hf) (by simp)
    | succ n ih =>
      intro x14 σ p hf hk
      rw [f_X7_make_L207] at hf
      refine V_iload 0 209 rfl dX7_make_207 rfl ?_
      refine V_iload 3 211 rfl dX7_make_209 rfl ?_
      refine V_icmp_ge 282 214 dX7_make_211 (by decide) rfl (fun c66 => ?_) (fun c66 => ?_)
      · rw [if_pos c66] at hf
        have ep := Option.some.inj hf
        subst ep
        refine V_ls [(14, .int x14), (13, .int x13), (12, .int x12), (11, .int x11), (10, .int x10), (9, .int x9), (8, .int x8), (6, .int x6), (0, .ref t), (2, .int x2), (4, .int x4)] [0, 1, 2, 3, 4, 5, 6, 7, 8, 9, 10] rfl ?_
        exact hk
      · rw [if_neg c66] at hf
        refine V_aload_n 8 215 rfl dX7_make_214 rfl rfl ?_
        obtain ⟨q68, h67, hf⟩ := ob hf
        refine V_getQ (n := 10) (ty := tyX7) 218 h67 cf_6 rfl wd_fl_X7_12 dX7_make_215 rfl ?_
        refine V_iload 7 220 rfl dX7_make_218 rfl ?_
        refine V_iload 4 222 rfl dX7_make_220 rfl ?_
        refine V_iload 1 224 rfl dX7_make_222 rfl ?_
        refine V_iload 0 226 rfl dX7_make_224 rfl ?_
        refine V_imul 227 dX7_make_226 rfl ?_
        refine V_iadd 228 dX7_make_227 rfl ?_
        obtain ⟨v70, h69, hf⟩ := ob hf
        refine V_callV (rest := []) (T := TX4) (n := 11) (ci := 3) 0 0 231 [.int v70] (c_X4_pointAt l G (d + 2) _ _ _ _ _ h69) (by omega) ok_X4_pointAt okv_X4_pointAt (gd_X4_pointAt h69) rfl wd_ml_X7_156 rfl rfl (Nat.le_of_ble_eq_true rfl) rfl rfl (Or.inl ⟨rfl, rfl⟩) dX7_make_228 rfl rfl ?_
        refine V_iload 6 233 rfl dX7_make_231 rfl ?_
        refine V_imul 234 dX7_make_233 rfl ?_
        refine V_iload 5 236 rfl dX7_make_234 rfl ?_
        obtain ⟨z71, h72, hf⟩ := ob hf
        refine V_idiv 237 dX7_make_236 rfl (ne0_ne h72) ?_
        refine V_istore [(15, .int ((v70 * x8) / x9)), (14, .int x14), (13, .int x13), (12, .int x12), (11, .int x11), (10, .int x10), (9, .int x9), (8, .int x8), (6, .int x6), (0, .ref t), (2, .int x2), (4, .int x4)] 239 dX7_make_237 (by decide) rfl rfl ?_
        refine V_iload_n 10 240 rfl dX7_make_239 rfl rfl ?_
        refine V_iconst 2 241 dX7_make_240 rfl kiconst_2 ?_
        refine V_iand 242 dX7_make_241 rfl ?_
        refine V_iconst 2 243 dX7_make_242 rfl kiconst_2 ?_
        have kj79 : V mi_X7_make l G (d + 4) 0 0 X 0 0 254 [(15, .int ((v70 * x8) / x9)), (14, .int x14), (13, .int x13), (12, .int x12), (11, .int x11), (10, .int x10), (9, .int x9), (8, .int x8), (6, .int x6), (0, .ref t), (2, .int x2), (4, .int x4)] [.int (if (x2 &&& 2) = 2 then (-((v70 * x8) / x9)) else ((v70 * x8) / x9) : Int32)] σ := by
          refine V_istore [(16, .int (if (x2 &&& 2) = 2 then (-((v70 * x8) / x9)) else ((v70 * x8) / x9) : Int32)), (15, .int ((v70 * x8) / x9)), (14, .int x14), (13, .int x13), (12, .int x12), (11, .int x11), (10, .int x10), (9, .int x9), (8, .int x8), (6, .int x6), (0, .ref t), (2, .int x2), (4, .int x4)] 256 dX7_make_254 (by decide) rfl rfl ?_
          refine V_aload_n 10 257 rfl dX7_make_256 rfl rfl ?_
          obtain ⟨q74, h73, hf⟩ := ob hf
          refine V_getQ (n := 10) (ty := tyX7) 260 h73 cf_6 rfl wd_fl_X7_12 dX7_make_257 rfl ?_
          refine V_iload 4 262 rfl dX7_make_260 rfl ?_
          refine V_iload 2 264 rfl dX7_make_262 rfl ?_
          refine V_iload 0 266 rfl dX7_make_264 rfl ?_
          refine V_iload 12 268 rfl dX7_make_266 rfl ?_
          refine V_iadd 269 dX7_make_268 rfl ?_
          refine V_i2l 270 dX7_make_269 rfl ?_
          obtain ⟨v76, h75, hf⟩ := ob hf
          refine V_callS (rest := [.int x14, .int x12, .ref q74]) 0 0 273 [.int v76, .int x14, .int x12, .ref q74] (c_X7_held l G (d + 1) _ _ _ h75) (by omega) ok_X7_held oks_X7_held wd_ml_X7_145 rfl rfl (Nat.le_of_ble_eq_true rfl) rfl rfl (Or.inl ⟨rfl, rfl⟩) dX7_make_270 rfl rfl ?_
          obtain ⟨s78, h77, hf⟩ := ob hf
          refine V_callV (rest := []) (T := TX4) (n := 11) (ci := 3) 0 0 276 [] (c_X4_setPoint l G (d + 2) _ _ _ _ _ _ h77) (by omega) ok_X4_setPoint okv_X4_setPoint (gd_X4_setPoint h77) rfl wd_ml_X7_135 rfl rfl (Nat.le_of_ble_eq_true rfl) rfl rfl (Or.inl ⟨rfl, rfl⟩) dX7_make_273 rfl rfl ?_
          refine V_iinc (x14 + 1) 2 [(14, .int (x14 + 1)), (16, .int (if (x2 &&& 2) = 2 then (-((v70 * x8) / x9)) else ((v70 * x8) / x9) : Int32)), (15, .int ((v70 * x8) / x9)), (13, .int x13), (12, .int x12), (11, .int x11), (10, .int x10), (9, .int x9), (8, .int x8), (6, .int x6), (0, .ref t), (2, .int x2), (4, .int x4)] 279 dX7_make_276 rfl (by rw [kiconst_1]) (by decide) rfl rfl ?_
          refine V_goto 207 dX7_make_279 (by decide) ?_
          refine V_ls [(14, .int (x14 + 1)), (13, .int x13), (12, .int x12), (11, .int x11), (10, .int x10), (9, .int x9), (8, .int x8), (6, .int x6), (0, .ref t), (2, .int x2), (4, .int x4)] [0, 3, 4, 5, 6, 7, 8, 9, 10, 11, 12] rfl ?_
          exact ih _ _ _ hf hk
        refine V_icmp_ne 252 246 dX7_make_243 (by decide) rfl (fun c80 => ?_) (fun c80 => ?_)
        · refine V_iload 0 254 rfl dX7_make_252 rfl ?_
          refine V_ls [(15, .int ((v70 * x8) / x9)), (14, .int x14), (13, .int x13), (12, .int x12), (11, .int x11), (10, .int x10), (9, .int x9), (8, .int x8), (6, .int x6), (0, .ref t), (2, .int x2), (4, .int x4)] [0, 1, 2, 3, 4, 5, 6, 7, 8, 9, 10, 11] rfl ?_
          simp only [if_neg c80] at kj79
          exact kj79
        · refine V_iload 0 248 rfl dX7_make_246 rfl ?_
          refine V_ineg 249 dX7_make_248 rfl ?_
          refine V_goto 254 dX7_make_249 (by decide) ?_
          refine V_ls [(15, .int ((v70 * x8) / x9)), (14, .int x14), (13, .int x13), (12, .int x12), (11, .int x11), (10, .int x10), (9, .int x9), (8, .int x8), (6, .int x6), (0, .ref t), (2, .int x2), (4, .int x4)] [0, 1, 2, 3, 4, 5, 6, 7, 8, 9, 10, 11] rfl ?_
          simp only [if_pos c80] at kj79
          exact kj79
  by_cases hg : isO σ 6 t = true
  · rw [if_pos hg] at hf
    refine V_iload_n 1 1 rfl dX7_make_0 rfl rfl ?_
    refine V_bipush 100 3 dX7_make_1 rfl kbipush_100 ?_
    refine V_irem 4 dX7_make_3 rfl (by decide) ?_
    refine V_istore [(6, .int (irm a0 100)), (0, .ref t), (1, .int a0), (2, .int a1), (3, .int a2), (4, .int a3), (5, .int a4)] 6 dX7_make_4 (by decide) rfl rfl ?_
    refine V_iload_n 2 7 rfl dX7_make_6 rfl rfl ?_
    refine V_bipush 100 9 dX7_make_7 rfl kbipush_100 ?_
    refine V_idiv 10 dX7_make_9 rfl (by decide) ?_
    refine V_istore [(7, .int (a0 / 100)), (6, .int (irm a0 100)), (0, .ref t), (1, .int a0), (2, .int a1), (3, .int a2), (4, .int a3), (5, .int a4)] 12 dX7_make_10 (by decide) rfl rfl ?_
    refine V_iload_n 5 13 rfl dX7_make_12 rfl rfl ?_
    refine V_bipush 10 15 dX7_make_13 rfl kbipush_10 ?_
    refine V_idiv 16 dX7_make_15 rfl (by decide) ?_
    refine V_istore [(8, .int (a2 / 10)), (7, .int (a0 / 100)), (6, .int (irm a0 100)), (0, .ref t), (1, .int a0), (2, .int a1), (3, .int a2), (4, .int a3), (5, .int a4)] 18 dX7_make_16 (by decide) rfl rfl ?_
    refine V_iload_n 6 19 rfl dX7_make_18 rfl rfl ?_
    refine V_bipush 10 21 dX7_make_19 rfl kbipush_10 ?_
    refine V_irem 22 dX7_make_21 rfl (by decide) ?_
    refine V_istore [(9, .int (irm a2 10)), (8, .int (a2 / 10)), (7, .int (a0 / 100)), (6, .int (irm a0 100)), (0, .ref t), (1, .int a0), (2, .int a1), (3, .int a2), (4, .int a3), (5, .int a4)] 24 dX7_make_22 (by decide) rfl rfl ?_
    refine V_iload 9 26 rfl dX7_make_24 rfl ?_
    refine V_bipush 100 28 dX7_make_26 rfl kbipush_100 ?_
    refine V_idiv 29 dX7_make_28 rfl (by decide) ?_
    refine V_istore [(10, .int (a4 / 100)), (9, .int (irm a2 10)), (8, .int (a2 / 10)), (7, .int (a0 / 100)), (6, .int (irm a0 100)), (0, .ref t), (1, .int a0), (2, .int a1), (3, .int a2), (4, .int a3), (5, .int a4)] 31 dX7_make_29 (by decide) rfl rfl ?_
    refine V_iload 10 33 rfl dX7_make_31 rfl ?_
    refine V_bipush 100 35 dX7_make_33 rfl kbipush_100 ?_
    refine V_irem 36 dX7_make_35 rfl (by decide) ?_
    refine V_istore [(11, .int (irm a4 100)), (10, .int (a4 / 100)), (9, .int (irm a2 10)), (8, .int (a2 / 10)), (7, .int (a0 / 100)), (6, .int (irm a0 100)), (0, .ref t), (1, .int a0), (2, .int a1), (3, .int a2), (4, .int a3), (5, .int a4)] 38 dX7_make_36 (by decide) rfl rfl ?_
    refine V_aload_n 6 39 rfl dX7_make_38 rfl rfl ?_
    obtain ⟨q2, h1, hf⟩ := ob hf
    refine V_getQ (n := 10) (ty := tyX7) 42 h1 cf_6 rfl wd_fl_X7_12 dX7_make_39 rfl ?_
    obtain ⟨q4, h3, hf⟩ := ob hf
    refine V_getQ (n := 11) (ty := tyX4) 45 h3 cf_3 rfl wd_fl_X7_126 dX7_make_42 rfl ?_
    refine V_iload 5 47 rfl dX7_make_45 rfl ?_
    obtain ⟨v6, h5, hf⟩ := ob hf
    refine V_callV (rest := []) (T := TX5) (n := 4) (ci := 4) 0 0 50 [.int v6] (c_X5_has l G (d + 2) _ _ _ _ h5) (by omega) ok_X5_has okv_X5_has (gd_X5_has h5) rfl wd_ml_X7_101 rfl rfl (Nat.le_of_ble_eq_true rfl) rfl rfl (Or.inl ⟨rfl, rfl⟩) dX7_make_47 rfl rfl ?_
    refine V_if_eq 134 53 dX7_make_50 (by decide) rfl (fun c7 => ?_) (fun c7 => ?_)
    · rw [if_pos c7] at hf
      refine V_aload_n 6 135 rfl dX7_make_134 rfl rfl ?_
      refine V_ldc (-1000001) 137 dX7_make_135 rfl wd_kk_X7_67 ?_
      obtain ⟨p9, h8, hf⟩ := ob hf
      refine V_callV (rest := []) (T := TX7) (n := 10) (ci := 6) 0 0 140 [.int p9.1] (c_X7_fails l G (d + 1) _ _ _ _ _ h8) (by omega) ok_X7_fails okv_X7_fails (gd_X7_fails h8) rfl wd_ml_X7_68 rfl rfl (Nat.le_of_ble_eq_true rfl) rfl rfl (Or.inl ⟨rfl, rfl⟩) dX7_make_137 rfl rfl ?_
      have er := Option.some.inj hf
      obtain ⟨e1, e2⟩ := Prod.mk.inj er
      subst e1
      subst e2
      exact V_iret hQ rfl dX7_make_140
    · rw [if_neg c7] at hf
      refine V_aload_n 6 54 rfl dX7_make_53 rfl rfl ?_
      obtain ⟨q11, h10, hf⟩ := ob hf
      refine V_getQ (n := 10) (ty := tyX7) 57 h10 cf_6 rfl wd_fl_X7_12 dX7_make_54 rfl ?_
      obtain ⟨q13, h12, hf⟩ := ob hf
      refine V_getQ (n := 11) (ty := tyX4) 60 h12 cf_3 rfl wd_fl_X7_89 dX7_make_57 rfl ?_
      refine V_iload 4 62 rfl dX7_make_60 rfl ?_
      obtain ⟨v15, h14, hf⟩ := ob hf
      refine V_callV (rest := []) (T := TX5) (n := 4) (ci := 4) 0 0 65 [.int v15] (c_X5_has l G (d + 2) _ _ _ _ h14) (by omega) ok_X5_has okv_X5_has (gd_X5_has h14) rfl wd_ml_X7_101 rfl rfl (Nat.le_of_ble_eq_true rfl) rfl rfl (Or.inl ⟨rfl, rfl⟩) dX7_make_62 rfl rfl ?_
      refine V_if_eq 134 68 dX7_make_65 (by decide) rfl (fun c16 => ?_) (fun c16 => ?_)
      · rw [if_pos c16] at hf
        refine V_aload_n 6 135 rfl dX7_make_134 rfl rfl ?_
        refine V_ldc (-1000001) 137 dX7_make_135 rfl wd_kk_X7_67 ?_
        obtain ⟨p18, h17, hf⟩ := ob hf
        refine V_callV (rest := []) (T := TX7) (n := 10) (ci := 6) 0 0 140 [.int p18.1] (c_X7_fails l G (d + 1) _ _ _ _ _ h17) (by omega) ok_X7_fails okv_X7_fails (gd_X7_fails h17) rfl wd_ml_X7_68 rfl rfl (Nat.le_of_ble_eq_true rfl) rfl rfl (Or.inl ⟨rfl, rfl⟩) dX7_make_137 rfl rfl ?_
        have er := Option.some.inj hf
        obtain ⟨e1, e2⟩ := Prod.mk.inj er
        subst e1
        subst e2
        exact V_iret hQ rfl dX7_make_140
      · rw [if_neg c16] at hf
        refine V_iload_n 8 69 rfl dX7_make_68 rfl rfl ?_
        refine V_iconst 0 70 dX7_make_69 rfl kiconst_0 ?_
        refine V_iconst 3 71 dX7_make_70 rfl kiconst_3 ?_
        obtain ⟨v20, h19, hf⟩ := ob hf
        refine V_callS (rest := []) 0 0 74 [.int v20] (c_X7_outside l G (d + 2) _ _ _ _ _ h19) (by omega) ok_X7_outside oks_X7_outside wd_ml_X7_57 rfl rfl (Nat.le_of_ble_eq_true rfl) rfl rfl (Or.inl ⟨rfl, rfl⟩) dX7_make_71 rfl rfl ?_
        refine V_if_ne 134 77 dX7_make_74 (by decide) rfl (fun c21 => ?_) (fun c21 => ?_)
        · rw [if_neg c21] at hf
          refine V_aload_n 6 135 rfl dX7_make_134 rfl rfl ?_
          refine V_ldc (-1000001) 137 dX7_make_135 rfl wd_kk_X7_67 ?_
          obtain ⟨p23, h22, hf⟩ := ob hf
          refine V_callV (rest := []) (T := TX7) (n := 10) (ci := 6) 0 0 140 [.int p23.1] (c_X7_fails l G (d + 1) _ _ _ _ _ h22) (by omega) ok_X7_fails okv_X7_fails (gd_X7_fails h22) rfl wd_ml_X7_68 rfl rfl (Nat.le_of_ble_eq_true rfl) rfl rfl (Or.inl ⟨rfl, rfl⟩) dX7_make_137 rfl rfl ?_
          have er := Option.some.inj hf
          obtain ⟨e1, e2⟩ := Prod.mk.inj er
          subst e1
          subst e2
          exact V_iret hQ rfl dX7_make_140
        · rw [if_pos c21] at hf
          refine V_iload 3 79 rfl dX7_make_77 rfl ?_
          obtain ⟨v25, h24, hf⟩ := ob hf
          refine V_callS (rest := []) 0 0 82 [.int v25] (c_X7_isFactor l G (d + 1) _ _ _ h24) (by omega) ok_X7_isFactor oks_X7_isFactor wd_ml_X7_149 rfl rfl (Nat.le_of_ble_eq_true rfl) rfl rfl (Or.inl ⟨rfl, rfl⟩) dX7_make_79 rfl rfl ?_
          refine V_if_eq 134 85 dX7_make_82 (by decide) rfl (fun c26 => ?_) (fun c26 => ?_)
          · rw [if_pos c26] at hf
            refine V_aload_n 6 135 rfl dX7_make_134 rfl rfl ?_
            refine V_ldc (-1000001) 137 dX7_make_135 rfl wd_kk_X7_67 ?_
            obtain ⟨p28, h27, hf⟩ := ob hf
            refine V_callV (rest := []) (T := TX7) (n := 10) (ci := 6) 0 0 140 [.int p28.1] (c_X7_fails l G (d + 1) _ _ _ _ _ h27) (by omega) ok_X7_fails okv_X7_fails (gd_X7_fails h27) rfl wd_ml_X7_68 rfl rfl (Nat.le_of_ble_eq_true rfl) rfl rfl (Or.inl ⟨rfl, rfl⟩) dX7_make_137 rfl rfl ?_
            have er := Option.some.inj hf
            obtain ⟨e1, e2⟩ := Prod.mk.inj er
            subst e1
            subst e2
            exact V_iret hQ rfl dX7_make_140
          · rw [if_neg c26] at hf
            refine V_iload 2 87 rfl dX7_make_85 rfl ?_
            obtain ⟨v30, h29, hf⟩ := ob hf
            refine V_callS (rest := []) 0 0 90 [.int v30] (c_X7_isFactor l G (d + 1) _ _ _ h29) (by omega) ok_X7_isFactor oks_X7_isFactor wd_ml_X7_149 rfl rfl (Nat.le_of_ble_eq_true rfl) rfl rfl (Or.inl ⟨rfl, rfl⟩) dX7_make_87 rfl rfl ?_
            refine V_if_eq 134 93 dX7_make_90 (by decide) rfl (fun c31 => ?_) (fun c31 => ?_)
            · rw [if_pos c31] at hf
              refine V_aload_n 6 135 rfl dX7_make_134 rfl rfl ?_
              refine V_ldc (-1000001) 137 dX7_make_135 rfl wd_kk_X7_67 ?_
              obtain ⟨p33, h32, hf⟩ := ob hf
              refine V_callV (rest := []) (T := TX7) (n := 10) (ci := 6) 0 0 140 [.int p33.1] (c_X7_fails l G (d + 1) _ _ _ _ _ h32) (by omega) ok_X7_fails okv_X7_fails (gd_X7_fails h32) rfl wd_ml_X7_68 rfl rfl (Nat.le_of_ble_eq_true rfl) rfl rfl (Or.inl ⟨rfl, rfl⟩) dX7_make_137 rfl rfl ?_
              have er := Option.some.inj hf
              obtain ⟨e1, e2⟩ := Prod.mk.inj er
              subst e1
              subst e2
              exact V_iret hQ rfl dX7_make_140
            · rw [if_neg c31] at hf
              refine V_iload 10 95 rfl dX7_make_93 rfl ?_
              refine V_sipush (-999) 98 dX7_make_95 rfl ksipush_m999 ?_
              refine V_sipush 999 101 dX7_make_98 rfl ksipush_999 ?_
              obtain ⟨v35, h34, hf⟩ := ob hf
              refine V_callS (rest := []) 0 0 104 [.int v35] (c_X7_outside l G (d + 2) _ _ _ _ _ h34) (by omega) ok_X7_outside oks_X7_outside wd_ml_X7_57 rfl rfl (Nat.le_of_ble_eq_true rfl) rfl rfl (Or.inl ⟨rfl, rfl⟩) dX7_make_101 rfl rfl ?_
              refine V_if_ne 134 107 dX7_make_104 (by decide) rfl (fun c36 => ?_) (fun c36 => ?_)
              · rw [if_neg c36] at hf
                refine V_aload_n 6 135 rfl dX7_make_134 rfl rfl ?_
                refine V_ldc (-1000001) 137 dX7_make_135 rfl wd_kk_X7_67 ?_
                obtain ⟨p38, h37, hf⟩ := ob hf
                refine V_callV (rest := []) (T := TX7) (n := 10) (ci := 6) 0 0 140 [.int p38.1] (c_X7_fails l G (d + 1) _ _ _ _ _ h37) (by omega) ok_X7_fails okv_X7_fails (gd_X7_fails h37) rfl wd_ml_X7_68 rfl rfl (Nat.le_of_ble_eq_true rfl) rfl rfl (Or.inl ⟨rfl, rfl⟩) dX7_make_137 rfl rfl ?_
                have er := Option.some.inj hf
                obtain ⟨e1, e2⟩ := Prod.mk.inj er
                subst e1
                subst e2
                exact V_iret hQ rfl dX7_make_140
              · rw [if_pos c36] at hf
                refine V_iload 0 109 rfl dX7_make_107 rfl ?_
                obtain ⟨v40, h39, hf⟩ := ob hf
                refine V_callS (rest := []) 0 0 112 [.int v40] (c_X7_isLength l G (d + 1) _ _ _ h39) (by omega) ok_X7_isLength oks_X7_isLength wd_ml_X7_111 rfl rfl (Nat.le_of_ble_eq_true rfl) rfl rfl (Or.inl ⟨rfl, rfl⟩) dX7_make_109 rfl rfl ?_
                refine V_if_eq 134 115 dX7_make_112 (by decide) rfl (fun c41 => ?_) (fun c41 => ?_)
                · rw [if_pos c41] at hf
                  refine V_aload_n 6 135 rfl dX7_make_134 rfl rfl ?_
                  refine V_ldc (-1000001) 137 dX7_make_135 rfl wd_kk_X7_67 ?_
                  obtain ⟨p43, h42, hf⟩ := ob hf
                  refine V_callV (rest := []) (T := TX7) (n := 10) (ci := 6) 0 0 140 [.int p43.1] (c_X7_fails l G (d + 1) _ _ _ _ _ h42) (by omega) ok_X7_fails okv_X7_fails (gd_X7_fails h42) rfl wd_ml_X7_68 rfl rfl (Nat.le_of_ble_eq_true rfl) rfl rfl (Or.inl ⟨rfl, rfl⟩) dX7_make_137 rfl rfl ?_
                  have er := Option.some.inj hf
                  obtain ⟨e1, e2⟩ := Prod.mk.inj er
                  subst e1
                  subst e2
                  exact V_iret hQ rfl dX7_make_140
                · rw [if_neg c41] at hf
                  refine V_iload 0 117 rfl dX7_make_115 rfl ?_
                  refine V_aload_n 6 118 rfl dX7_make_117 rfl rfl ?_
                  obtain ⟨q45, h44, hf⟩ := ob hf
                  refine V_getQ (n := 10) (ty := tyX7) 121 h44 cf_6 rfl wd_fl_X7_12 dX7_make_118 rfl ?_
                  refine V_iload 5 123 rfl dX7_make_121 rfl ?_
                  refine V_iload 1 125 rfl dX7_make_123 rfl ?_
                  refine V_iload_n 8 126 rfl dX7_make_125 rfl rfl ?_
                  refine V_iconst 1 127 dX7_make_126 rfl kiconst_1 ?_
                  refine V_iand 128 dX7_make_127 rfl ?_
                  obtain ⟨v47, h46, hf⟩ := ob hf
                  refine V_callV (rest := [.int (irm a4 100)]) (T := TX4) (n := 11) (ci := 3) 0 0 131 [.int v47, .int (irm a4 100)] (c_X4_roomFrom l G (d + 0) _ _ _ _ _ _ h46) (by omega) ok_X4_roomFrom okv_X4_roomFrom (gd_X4_roomFrom h46) rfl wd_ml_X7_152 rfl rfl (Nat.le_of_ble_eq_true rfl) rfl rfl (Or.inl ⟨rfl, rfl⟩) dX7_make_128 rfl rfl ?_
                  refine V_icmp_le 141 134 dX7_make_131 (by decide) rfl (fun c48 => ?_) (fun c48 => ?_)
                  · rw [if_pos c48] at hf
                    refine V_aload_n 6 142 rfl dX7_make_141 rfl rfl ?_
                    obtain ⟨q50, h49, hf⟩ := ob hf
                    refine V_getQ (n := 10) (ty := tyX7) 145 h49 cf_6 rfl wd_fl_X7_12 dX7_make_142 rfl ?_
                    obtain ⟨q52, h51, hf⟩ := ob hf
                    refine V_getQ (n := 11) (ty := tyX4) 148 h51 cf_3 rfl wd_fl_X7_126 dX7_make_145 rfl ?_
                    obtain ⟨v54, h53, hf⟩ := ob hf
                    refine V_callV (rest := []) (T := TX5) (n := 4) (ci := 4) 0 0 151 [.int v54] (c_X5_isFull l G (d + 2) _ _ _ h53) (by omega) ok_X5_isFull okv_X5_isFull (gd_X5_isFull h53) rfl wd_ml_X7_92 rfl rfl (Nat.le_of_ble_eq_true rfl) rfl rfl (Or.inl ⟨rfl, rfl⟩) dX7_make_148 rfl rfl ?_
                    refine V_if_eq 161 154 dX7_make_151 (by decide) rfl (fun c55 => ?_) (fun c55 => ?_)
                    · rw [if_pos c55] at hf
                      refine V_aload_n 6 162 rfl dX7_make_161 rfl rfl ?_
                      obtain ⟨q57, h56, hf⟩ := ob hf
                      refine V_getQ (n := 10) (ty := tyX7) 165 h56 cf_6 rfl wd_fl_X7_12 dX7_make_162 rfl ?_
                      refine V_iconst 3 166 dX7_make_165 rfl kiconst_3 ?_
                      refine V_iload 4 168 rfl dX7_make_166 rfl ?_
                      refine V_aload_n 6 169 rfl dX7_make_168 rfl rfl ?_
                      obtain ⟨q59, h58, hf⟩ := ob hf
                      refine V_getQ (n := 10) (ty := tyX7) 172 h58 cf_6 rfl wd_fl_X7_12 dX7_make_169 rfl ?_
                      obtain ⟨q61, h60, hf⟩ := ob hf
                      refine V_getQ (n := 11) (ty := tyX4) 175 h60 cf_3 rfl wd_fl_X7_126 dX7_make_172 rfl ?_
                      refine V_iload 5 177 rfl dX7_make_175 rfl ?_
                      refine V_iconst 2 178 dX7_make_177 rfl kiconst_2 ?_
                      obtain ⟨v63, h62, hf⟩ := ob hf
                      refine V_callV (rest := [.int (a0 / 100), .int 3, .ref q57]) (T := TX5) (n := 4) (ci := 4) 0 0 181 [.int v63, .int (a0 / 100), .int 3, .ref q57] (c_X5_at l G (d + 2) _ _ _ _ _ h62) (by omega) ok_X5_at okv_X5_at (gd_X5_at h62) rfl wd_ml_X7_76 rfl rfl (Nat.le_of_ble_eq_true rfl) rfl rfl (Or.inl ⟨rfl, rfl⟩) dX7_make_178 rfl rfl ?_
                      refine V_iload 0 183 rfl dX7_make_181 rfl ?_
                      refine V_iload 5 185 rfl dX7_make_183 rfl ?_
                      obtain ⟨p65, h64, hf⟩ := ob hf
                      refine V_callV (rest := []) (T := TX4) (n := 11) (ci := 3) 0 0 188 [.int p65.1] (c_X4_addCurve l G (d + 1) _ _ _ _ _ _ _ _ _ h64) (by omega) ok_X4_addCurve okv_X4_addCurve (gd_X4_addCurve h64) rfl wd_ml_X7_129 rfl rfl (Nat.le_of_ble_eq_true rfl) rfl rfl (Or.inl ⟨rfl, rfl⟩) dX7_make_185 rfl rfl ?_
                      refine V_istore [(12, .int p65.1), (11, .int (irm a4 100)), (10, .int (a4 / 100)), (9, .int (irm a2 10)), (8, .int (a2 / 10)), (7, .int (a0 / 100)), (6, .int (irm a0 100)), (0, .ref t), (1, .int a0), (2, .int a1), (3, .int a2), (4, .int a3), (5, .int a4)] 190 dX7_make_188 (by decide) rfl rfl ?_
                      refine V_iload_n 9 191 rfl dX7_make_190 rfl rfl ?_
                      refine V_iconst 1 192 dX7_make_191 rfl kiconst_1 ?_
                      refine V_iand 193 dX7_make_192 rfl ?_
                      refine V_iconst 1 194 dX7_make_193 rfl kiconst_1 ?_
                      have kj83 : V mi_X7_make l G (d + 4) 0 0 X 0 0 202 [(12, .int p65.1), (11, .int (irm a4 100)), (10, .int (a4 / 100)), (9, .int (irm a2 10)), (8, .int (a2 / 10)), (7, .int (a0 / 100)), (6, .int (irm a0 100)), (0, .ref t), (1, .int a0), (2, .int a1), (3, .int a2), (4, .int a3), (5, .int a4)] [.int (if (a1 &&& 1) = 1 then (-1) else 1 : Int32)] p65.2 := by
                        refine V_istore [(13, .int (if (a1 &&& 1) = 1 then (-1) else 1 : Int32)), (12, .int p65.1), (11, .int (irm a4 100)), (10, .int (a4 / 100)), (9, .int (irm a2 10)), (8, .int (a2 / 10)), (7, .int (a0 / 100)), (6, .int (irm a0 100)), (0, .ref t), (1, .int a0), (2, .int a1), (3, .int a2), (4, .int a3), (5, .int a4)] 204 dX7_make_202 (by decide) rfl rfl ?_
                        refine V_iconst 0 205 dX7_make_204 rfl kiconst_0 ?_
                        refine V_istore [(14, .int 0), (13, .int (if (a1 &&& 1) = 1 then (-1) else 1 : Int32)), (12, .int p65.1), (11, .int (irm a4 100)), (10, .int (a4 / 100)), (9, .int (irm a2 10)), (8, .int (a2 / 10)), (7, .int (a0 / 100)), (6, .int (irm a0 100)), (0, .ref t), (1, .int a0), (2, .int a1), (3, .int a2), (4, .int a3), (5, .int a4)] 207 dX7_make_205 (by decide) rfl rfl ?_
                        obtain ⟨p81, h82, hf⟩ := ob hf
                        refine V_ls [(14, .int 0), (13, .int (if (a1 &&& 1) = 1 then (-1) else 1 : Int32)), (12, .int p65.1), (11, .int (irm a4 100)), (10, .int (a4 / 100)), (9, .int (irm a2 10)), (8, .int (a2 / 10)), (6, .int (irm a0 100)), (0, .ref t), (2, .int a1), (4, .int a3)] [0, 1, 2, 3, 4, 5, 6, 8, 9, 11, 13] rfl ?_
                        refine L207 (if (a1 &&& 1) = 1 then (-1) else 1 : Int32) p65.1 (irm a4 100) (a4 / 100) (irm a2 10) (a2 / 10) (irm a0 100) a1 a3 3000 0 p65.2 p81 h82 ?_
                        refine V_iload 2 284 rfl dX7_make_282 rfl ?_
                        have er := Option.some.inj hf
                        obtain ⟨e1, e2⟩ := Prod.mk.inj er
                        subst e1
                        subst e2
                        exact V_iret hQ rfl dX7_make_284
                      refine V_icmp_ne 201 197 dX7_make_194 (by decide) rfl (fun c84 => ?_) (fun c84 => ?_)
                      · refine V_iconst 1 202 dX7_make_201 rfl kiconst_1 ?_
                        refine V_ls [(12, .int p65.1), (11, .int (irm a4 100)), (10, .int (a4 / 100)), (9, .int (irm a2 10)), (8, .int (a2 / 10)), (7, .int (a0 / 100)), (6, .int (irm a0 100)), (0, .ref t), (1, .int a0), (2, .int a1), (3, .int a2), (4, .int a3), (5, .int a4)] [0, 1, 2, 3, 4, 5, 6, 7, 8, 9, 10, 11, 12] rfl ?_
                        simp only [if_neg c84] at kj83
                        exact kj83
                      · refine V_iconst (-1) 198 dX7_make_197 rfl kiconst_m1 ?_
                        refine V_goto 202 dX7_make_198 (by decide) ?_
                        refine V_ls [(12, .int p65.1), (11, .int (irm a4 100)), (10, .int (a4 / 100)), (9, .int (irm a2 10)), (8, .int (a2 / 10)), (7, .int (a0 / 100)), (6, .int (irm a0 100)), (0, .ref t), (1, .int a0), (2, .int a1), (3, .int a2), (4, .int a3), (5, .int a4)] [0, 1, 2, 3, 4, 5, 6, 7, 8, 9, 10, 11, 12] rfl ?_
                        simp only [if_pos c84] at kj83
                        exact kj83
                    · rw [if_neg c55] at hf
                      refine V_aload_n 6 155 rfl dX7_make_154 rfl rfl ?_
                      refine V_ldc (-1000004) 157 dX7_make_155 rfl wd_kk_X7_96 ?_
                      obtain ⟨p86, h85, hf⟩ := ob hf
                      refine V_callV (rest := []) (T := TX7) (n := 10) (ci := 6) 0 0 160 [.int p86.1] (c_X7_fails l G (d + 1) _ _ _ _ _ h85) (by omega) ok_X7_fails okv_X7_fails (gd_X7_fails h85) rfl wd_ml_X7_68 rfl rfl (Nat.le_of_ble_eq_true rfl) rfl rfl (Or.inl ⟨rfl, rfl⟩) dX7_make_157 rfl rfl ?_
                      have er := Option.some.inj hf
                      obtain ⟨e1, e2⟩ := Prod.mk.inj er
                      subst e1
                      subst e2
                      exact V_iret hQ rfl dX7_make_160
                  · rw [if_neg c48] at hf
                    refine V_aload_n 6 135 rfl dX7_make_134 rfl rfl ?_
                    refine V_ldc (-1000001) 137 dX7_make_135 rfl wd_kk_X7_67 ?_
                    obtain ⟨p88, h87, hf⟩ := ob hf
                    refine V_callV (rest := []) (T := TX7) (n := 10) (ci := 6) 0 0 140 [.int p88.1] (c_X7_fails l G (d + 1) _ _ _ _ _ h87) (by omega) ok_X7_fails okv_X7_fails (gd_X7_fails h87) rfl wd_ml_X7_68 rfl rfl (Nat.le_of_ble_eq_true rfl) rfl rfl (Or.inl ⟨rfl, rfl⟩) dX7_make_137 rfl rfl ?_
                    have er := Option.some.inj hf
                    obtain ⟨e1, e2⟩ := Prod.mk.inj er
                    subst e1
                    subst e2
                    exact V_iret hQ rfl dX7_make_140
  · rw [if_neg hg] at hf
    cases hf
abbrev mi_X7_curveIs : MI := (yX7_curveIs, cX7_curveIs, 3, some .int)
theorem ok_X7_curveIs : OkN mi_X7_curveIs 2 := ⟨wd_cd_X7_curveIs, wd_in_X7, ⟨by decide +kernel, by decide +kernel, by decide +kernel⟩, by decide⟩
theorem okv_X7_curveIs : Cond.instanceMethod (mi_X7_curveIs).1 ∈ tb ∧ Cond.selects (mi_X7_curveIs).1.cls (mi_X7_curveIs).1 (mi_X7_curveIs).1 ∈ tb := ⟨wd_im_X7_curveIs, wd_se_X7_curveIs⟩
def f_X7_curveIs (σ : St) (t : Nat) (a0 : Int32) (a1 : Int32) : Option (Int32 × St) := if isO σ 6 t = true then ((gQ σ 6 t 0).bind fun q2 => (gQ σ 3 q2 2).bind fun q4 => (f_X5_has σ q4 a0).bind fun v6 => if v6 = 0 then ((f_X7_fails σ t (-1000001)).bind fun p9 => some (p9.1, p9.2)) else ((f_X7_outside σ a1 0 4).bind fun v11 => if v11 = 0 then ((gQ σ 6 t 0).bind fun q14 => (gQ σ 3 q14 2).bind fun q16 => (f_X5_at σ q16 a0 a1).bind fun v18 => some (v18, σ)) else ((f_X7_fails σ t (-1000001)).bind fun p20 => some (p20.1, p20.2)))) else none
theorem gd_X7_curveIs {σ : St} {t : Nat} {a0 : Int32} {a1 : Int32} {r : Int32 × St} (h : f_X7_curveIs σ t a0 a1 = some r) : isO σ 6 t = true := by
  unfold f_X7_curveIs at h
  by_cases hg : isO σ 6 t = true
  · exact hg
  · rw [if_neg hg] at h
    cases h
set_option maxRecDepth 100000 in
set_option maxHeartbeats 4000000 in
theorem c_X7_curveIs (l : Launch) (G : Gd) (d : Nat) (σ : St) (t : Nat) (a0 : Int32) (a1 : Int32) (r0 : Int32) (σ' : St) (hf : f_X7_curveIs σ t a0 a1 = some (r0, σ')) : MetV l G (d + 3) mi_X7_curveIs [.ref t, .int a0, .int a1] σ (some (.int r0)) σ' 0 0 := by
  unfold f_X7_curveIs at hf
  refine MetV.of [(0, .ref t), (1, .int a0), (2, .int a1)] (by decide +kernel) rfl (Nat.le_of_ble_eq_true rfl) ?_
  intro X hQ
  by_cases hg : isO σ 6 t = true
  · rw [if_pos hg] at hf
    refine V_aload_n 0 1 rfl dX7_curveIs_0 rfl rfl ?_
    obtain ⟨q2, h1, hf⟩ := ob hf
    refine V_getQ (n := 10) (ty := tyX7) 4 h1 cf_6 rfl wd_fl_X7_12 dX7_curveIs_1 rfl ?_
    obtain ⟨q4, h3, hf⟩ := ob hf
    refine V_getQ (n := 11) (ty := tyX4) 7 h3 cf_3 rfl wd_fl_X7_126 dX7_curveIs_4 rfl ?_
    refine V_iload_n 1 8 rfl dX7_curveIs_7 rfl rfl ?_
    obtain ⟨v6, h5, hf⟩ := ob hf
    refine V_callV (rest := []) (T := TX5) (n := 4) (ci := 4) 0 0 11 [.int v6] (c_X5_has l G (d + 1) _ _ _ _ h5) (by omega) ok_X5_has okv_X5_has (gd_X5_has h5) rfl wd_ml_X7_101 rfl rfl (Nat.le_of_ble_eq_true rfl) rfl rfl (Or.inl ⟨rfl, rfl⟩) dX7_curveIs_8 rfl rfl ?_
    refine V_if_eq 23 14 dX7_curveIs_11 (by decide) rfl (fun c7 => ?_) (fun c7 => ?_)
    · rw [if_pos c7] at hf
      refine V_aload_n 0 24 rfl dX7_curveIs_23 rfl rfl ?_
      refine V_ldc (-1000001) 26 dX7_curveIs_24 rfl wd_kk_X7_67 ?_
      obtain ⟨p9, h8, hf⟩ := ob hf
      refine V_callV (rest := []) (T := TX7) (n := 10) (ci := 6) 0 0 29 [.int p9.1] (c_X7_fails l G (d + 0) _ _ _ _ _ h8) (by omega) ok_X7_fails okv_X7_fails (gd_X7_fails h8) rfl wd_ml_X7_68 rfl rfl (Nat.le_of_ble_eq_true rfl) rfl rfl (Or.inl ⟨rfl, rfl⟩) dX7_curveIs_26 rfl rfl ?_
      have er := Option.some.inj hf
      obtain ⟨e1, e2⟩ := Prod.mk.inj er
      subst e1
      subst e2
      exact V_iret hQ rfl dX7_curveIs_29
    · rw [if_neg c7] at hf
      refine V_iload_n 2 15 rfl dX7_curveIs_14 rfl rfl ?_
      refine V_iconst 0 16 dX7_curveIs_15 rfl kiconst_0 ?_
      refine V_iconst 4 17 dX7_curveIs_16 rfl kiconst_4 ?_
      obtain ⟨v11, h10, hf⟩ := ob hf
      refine V_callS (rest := []) 0 0 20 [.int v11] (c_X7_outside l G (d + 1) _ _ _ _ _ h10) (by omega) ok_X7_outside oks_X7_outside wd_ml_X7_57 rfl rfl (Nat.le_of_ble_eq_true rfl) rfl rfl (Or.inl ⟨rfl, rfl⟩) dX7_curveIs_17 rfl rfl ?_
      refine V_if_eq 30 23 dX7_curveIs_20 (by decide) rfl (fun c12 => ?_) (fun c12 => ?_)
      · rw [if_pos c12] at hf
        refine V_aload_n 0 31 rfl dX7_curveIs_30 rfl rfl ?_
        obtain ⟨q14, h13, hf⟩ := ob hf
        refine V_getQ (n := 10) (ty := tyX7) 34 h13 cf_6 rfl wd_fl_X7_12 dX7_curveIs_31 rfl ?_
        obtain ⟨q16, h15, hf⟩ := ob hf
        refine V_getQ (n := 11) (ty := tyX4) 37 h15 cf_3 rfl wd_fl_X7_126 dX7_curveIs_34 rfl ?_
        refine V_iload_n 1 38 rfl dX7_curveIs_37 rfl rfl ?_
        refine V_iload_n 2 39 rfl dX7_curveIs_38 rfl rfl ?_
        obtain ⟨v18, h17, hf⟩ := ob hf
        refine V_callV (rest := []) (T := TX5) (n := 4) (ci := 4) 0 0 42 [.int v18] (c_X5_at l G (d + 1) _ _ _ _ _ h17) (by omega) ok_X5_at okv_X5_at (gd_X5_at h17) rfl wd_ml_X7_76 rfl rfl (Nat.le_of_ble_eq_true rfl) rfl rfl (Or.inl ⟨rfl, rfl⟩) dX7_curveIs_39 rfl rfl ?_
        have er := Option.some.inj hf
        obtain ⟨e1, e2⟩ := Prod.mk.inj er
        subst e1
        subst e2
        exact V_iret hQ rfl dX7_curveIs_42
      · rw [if_neg c12] at hf
        refine V_aload_n 0 24 rfl dX7_curveIs_23 rfl rfl ?_
        refine V_ldc (-1000001) 26 dX7_curveIs_24 rfl wd_kk_X7_67 ?_
        obtain ⟨p20, h19, hf⟩ := ob hf
        refine V_callV (rest := []) (T := TX7) (n := 10) (ci := 6) 0 0 29 [.int p20.1] (c_X7_fails l G (d + 0) _ _ _ _ _ h19) (by omega) ok_X7_fails okv_X7_fails (gd_X7_fails h19) rfl wd_ml_X7_68 rfl rfl (Nat.le_of_ble_eq_true rfl) rfl rfl (Or.inl ⟨rfl, rfl⟩) dX7_curveIs_26 rfl rfl ?_
        have er := Option.some.inj hf
        obtain ⟨e1, e2⟩ := Prod.mk.inj er
        subst e1
        subst e2
        exact V_iret hQ rfl dX7_curveIs_29
  · rw [if_neg hg] at hf
    cases hf
abbrev mi_X7_as : MI := (yX7_as, cX7_as, 3, some .int)
theorem ok_X7_as : OkN mi_X7_as 2 := ⟨wd_cd_X7_as, wd_in_X7, ⟨by decide +kernel, by decide +kernel, by decide +kernel⟩, by decide⟩
theorem okv_X7_as : Cond.instanceMethod (mi_X7_as).1 ∈ tb ∧ Cond.selects (mi_X7_as).1.cls (mi_X7_as).1 (mi_X7_as).1 ∈ tb := ⟨wd_im_X7_as, wd_se_X7_as⟩
def f_X7_as (σ : St) (t : Nat) (a0 : Int32) (a1 : Int32) : Option (Int32 × St) := if isO σ 6 t = true then ((gQ σ 6 t 0).bind fun q2 => (gQ σ 3 q2 2).bind fun q4 => (f_X5_has σ q4 a0).bind fun v6 => if v6 = 0 then ((f_X7_fails σ t (-1000001)).bind fun p9 => some (p9.1, p9.2)) else ((f_X7_outside σ a1 0 7).bind fun v11 => if v11 = 0 then ((gQ σ 6 t 0).bind fun q14 => (gQ σ 3 q14 2).bind fun q16 => (f_X5_at σ q16 a0 0).bind fun v18 => (f_X6_isUnder σ v18 a1).bind fun v20 => if v20 = 0 then ((f_X7_fails σ t (-1000005)).bind fun p27 => some (p27.1, p27.2)) else ((gQ σ 6 t 0).bind fun q23 => (f_X4_size σ q23 a0).bind fun v25 => some (v25, σ))) else ((f_X7_fails σ t (-1000001)).bind fun p29 => some (p29.1, p29.2)))) else none
theorem gd_X7_as {σ : St} {t : Nat} {a0 : Int32} {a1 : Int32} {r : Int32 × St} (h : f_X7_as σ t a0 a1 = some r) : isO σ 6 t = true := by
  unfold f_X7_as at h
  by_cases hg : isO σ 6 t = true
  · exact hg
  · rw [if_neg hg] at h
    cases h
set_option maxRecDepth 100000 in
set_option maxHeartbeats 4000000 in
theorem c_X7_as (l : Launch) (G : Gd) (d : Nat) (σ : St) (t : Nat) (a0 : Int32) (a1 : Int32) (r0 : Int32) (σ' : St) (hf : f_X7_as σ t a0 a1 = some (r0, σ')) : MetV l G (d + 3) mi_X7_as [.ref t, .int a0, .int a1] σ (some (.int r0)) σ' 0 0 := by
  unfold f_X7_as at hf
  refine MetV.of [(0, .ref t), (1, .int a0), (2, .int a1)] (by decide +kernel) rfl (Nat.le_of_ble_eq_true rfl) ?_
  intro X hQ
  by_cases hg : isO σ 6 t = true
  · rw [if_pos hg] at hf
    refine V_aload_n 0 1 rfl dX7_as_0 rfl rfl ?_
    obtain ⟨q2, h1, hf⟩ := ob hf
    refine V_getQ (n := 10) (ty := tyX7) 4 h1 cf_6 rfl wd_fl_X7_12 dX7_as_1 rfl ?_
    obtain ⟨q4, h3, hf⟩ := ob hf
    refine V_getQ (n := 11) (ty := tyX4) 7 h3 cf_3 rfl wd_fl_X7_126 dX7_as_4 rfl ?_
    refine V_iload_n 1 8 rfl dX7_as_7 rfl rfl ?_
    obtain ⟨v6, h5, hf⟩ := ob hf
    refine V_callV (rest := []) (T := TX5) (n := 4) (ci := 4) 0 0 11 [.int v6] (c_X5_has l G (d + 1) _ _ _ _ h5) (by omega) ok_X5_has okv_X5_has (gd_X5_has h5) rfl wd_ml_X7_101 rfl rfl (Nat.le_of_ble_eq_true rfl) rfl rfl (Or.inl ⟨rfl, rfl⟩) dX7_as_8 rfl rfl ?_
    refine V_if_eq 24 14 dX7_as_11 (by decide) rfl (fun c7 => ?_) (fun c7 => ?_)
    · rw [if_pos c7] at hf
      refine V_aload_n 0 25 rfl dX7_as_24 rfl rfl ?_
      refine V_ldc (-1000001) 27 dX7_as_25 rfl wd_kk_X7_67 ?_
      obtain ⟨p9, h8, hf⟩ := ob hf
      refine V_callV (rest := []) (T := TX7) (n := 10) (ci := 6) 0 0 30 [.int p9.1] (c_X7_fails l G (d + 0) _ _ _ _ _ h8) (by omega) ok_X7_fails okv_X7_fails (gd_X7_fails h8) rfl wd_ml_X7_68 rfl rfl (Nat.le_of_ble_eq_true rfl) rfl rfl (Or.inl ⟨rfl, rfl⟩) dX7_as_27 rfl rfl ?_
      have er := Option.some.inj hf
      obtain ⟨e1, e2⟩ := Prod.mk.inj er
      subst e1
      subst e2
      exact V_iret hQ rfl dX7_as_30
    · rw [if_neg c7] at hf
      refine V_iload_n 2 15 rfl dX7_as_14 rfl rfl ?_
      refine V_iconst 0 16 dX7_as_15 rfl kiconst_0 ?_
      refine V_bipush 7 18 dX7_as_16 rfl kbipush_7 ?_
      obtain ⟨v11, h10, hf⟩ := ob hf
      refine V_callS (rest := []) 0 0 21 [.int v11] (c_X7_outside l G (d + 1) _ _ _ _ _ h10) (by omega) ok_X7_outside oks_X7_outside wd_ml_X7_57 rfl rfl (Nat.le_of_ble_eq_true rfl) rfl rfl (Or.inl ⟨rfl, rfl⟩) dX7_as_18 rfl rfl ?_
      refine V_if_eq 31 24 dX7_as_21 (by decide) rfl (fun c12 => ?_) (fun c12 => ?_)
      · rw [if_pos c12] at hf
        refine V_aload_n 0 32 rfl dX7_as_31 rfl rfl ?_
        obtain ⟨q14, h13, hf⟩ := ob hf
        refine V_getQ (n := 10) (ty := tyX7) 35 h13 cf_6 rfl wd_fl_X7_12 dX7_as_32 rfl ?_
        obtain ⟨q16, h15, hf⟩ := ob hf
        refine V_getQ (n := 11) (ty := tyX4) 38 h15 cf_3 rfl wd_fl_X7_126 dX7_as_35 rfl ?_
        refine V_iload_n 1 39 rfl dX7_as_38 rfl rfl ?_
        refine V_iconst 0 40 dX7_as_39 rfl kiconst_0 ?_
        obtain ⟨v18, h17, hf⟩ := ob hf
        refine V_callV (rest := []) (T := TX5) (n := 4) (ci := 4) 0 0 43 [.int v18] (c_X5_at l G (d + 1) _ _ _ _ _ h17) (by omega) ok_X5_at okv_X5_at (gd_X5_at h17) rfl wd_ml_X7_76 rfl rfl (Nat.le_of_ble_eq_true rfl) rfl rfl (Or.inl ⟨rfl, rfl⟩) dX7_as_40 rfl rfl ?_
        refine V_iload_n 2 44 rfl dX7_as_43 rfl rfl ?_
        obtain ⟨v20, h19, hf⟩ := ob hf
        refine V_callS (rest := []) 0 0 47 [.int v20] (c_X6_isUnder l G (d + 1) _ _ _ _ h19) (by omega) ok_X6_isUnder oks_X6_isUnder wd_ml_X7_159 rfl rfl (Nat.le_of_ble_eq_true rfl) rfl rfl (Or.inl ⟨rfl, rfl⟩) dX7_as_44 rfl rfl ?_
        refine V_if_ne 57 50 dX7_as_47 (by decide) rfl (fun c21 => ?_) (fun c21 => ?_)
        · rw [if_neg c21] at hf
          refine V_aload_n 0 58 rfl dX7_as_57 rfl rfl ?_
          obtain ⟨q23, h22, hf⟩ := ob hf
          refine V_getQ (n := 10) (ty := tyX7) 61 h22 cf_6 rfl wd_fl_X7_12 dX7_as_58 rfl ?_
          refine V_iload_n 1 62 rfl dX7_as_61 rfl rfl ?_
          obtain ⟨v25, h24, hf⟩ := ob hf
          refine V_callV (rest := []) (T := TX4) (n := 11) (ci := 3) 0 0 65 [.int v25] (c_X4_size l G (d + 0) _ _ _ _ h24) (by omega) ok_X4_size okv_X4_size (gd_X4_size h24) rfl wd_ml_X7_163 rfl rfl (Nat.le_of_ble_eq_true rfl) rfl rfl (Or.inl ⟨rfl, rfl⟩) dX7_as_62 rfl rfl ?_
          have er := Option.some.inj hf
          obtain ⟨e1, e2⟩ := Prod.mk.inj er
          subst e1
          subst e2
          exact V_iret hQ rfl dX7_as_65
        · rw [if_pos c21] at hf
          refine V_aload_n 0 51 rfl dX7_as_50 rfl rfl ?_
          refine V_ldc (-1000005) 53 dX7_as_51 rfl wd_kk_X7_162 ?_
          obtain ⟨p27, h26, hf⟩ := ob hf
          refine V_callV (rest := []) (T := TX7) (n := 10) (ci := 6) 0 0 56 [.int p27.1] (c_X7_fails l G (d + 0) _ _ _ _ _ h26) (by omega) ok_X7_fails okv_X7_fails (gd_X7_fails h26) rfl wd_ml_X7_68 rfl rfl (Nat.le_of_ble_eq_true rfl) rfl rfl (Or.inl ⟨rfl, rfl⟩) dX7_as_53 rfl rfl ?_
          have er := Option.some.inj hf
          obtain ⟨e1, e2⟩ := Prod.mk.inj er
          subst e1
          subst e2
          exact V_iret hQ rfl dX7_as_56
      · rw [if_neg c12] at hf
        refine V_aload_n 0 25 rfl dX7_as_24 rfl rfl ?_
        refine V_ldc (-1000001) 27 dX7_as_25 rfl wd_kk_X7_67 ?_
        obtain ⟨p29, h28, hf⟩ := ob hf
        refine V_callV (rest := []) (T := TX7) (n := 10) (ci := 6) 0 0 30 [.int p29.1] (c_X7_fails l G (d + 0) _ _ _ _ _ h28) (by omega) ok_X7_fails okv_X7_fails (gd_X7_fails h28) rfl wd_ml_X7_68 rfl rfl (Nat.le_of_ble_eq_true rfl) rfl rfl (Or.inl ⟨rfl, rfl⟩) dX7_as_27 rfl rfl ?_
        have er := Option.some.inj hf
        obtain ⟨e1, e2⟩ := Prod.mk.inj er
        subst e1
        subst e2
        exact V_iret hQ rfl dX7_as_30
  · rw [if_neg hg] at hf
    cases hf
abbrev mi_X7_point : MI := (yX7_point, cX7_point, 3, some .int)
theorem ok_X7_point : OkN mi_X7_point 2 := ⟨wd_cd_X7_point, wd_in_X7, ⟨by decide +kernel, by decide +kernel, by decide +kernel⟩, by decide⟩
theorem okv_X7_point : Cond.instanceMethod (mi_X7_point).1 ∈ tb ∧ Cond.selects (mi_X7_point).1.cls (mi_X7_point).1 (mi_X7_point).1 ∈ tb := ⟨wd_im_X7_point, wd_se_X7_point⟩
def f_X7_point (σ : St) (t : Nat) (a0 : Int32) (a1 : Int32) : Option (Int32 × St) := if isO σ 6 t = true then ((gQ σ 6 t 0).bind fun q2 => (gQ σ 3 q2 2).bind fun q4 => (f_X5_has σ q4 a0).bind fun v6 => if v6 = 0 then ((f_X7_fails σ t (-1000001)).bind fun p9 => some (p9.1, p9.2)) else ((gQ σ 6 t 0).bind fun q11 => (f_X4_size σ q11 a0).bind fun v13 => (f_X7_outside σ a1 0 (v13 - 1)).bind fun v15 => if v15 = 0 then ((gQ σ 6 t 0).bind fun q18 => (f_X4_pointAt σ q18 a0 a1).bind fun v20 => some (v20, σ)) else ((f_X7_fails σ t (-1000001)).bind fun p22 => some (p22.1, p22.2)))) else none
theorem gd_X7_point {σ : St} {t : Nat} {a0 : Int32} {a1 : Int32} {r : Int32 × St} (h : f_X7_point σ t a0 a1 = some r) : isO σ 6 t = true := by
  unfold f_X7_point at h
  by_cases hg : isO σ 6 t = true
  · exact hg
  · rw [if_neg hg] at h
    cases h
set_option maxRecDepth 100000 in
set_option maxHeartbeats 4000000 in
theorem c_X7_point (l : Launch) (G : Gd) (d : Nat) (σ : St) (t : Nat) (a0 : Int32) (a1 : Int32) (r0 : Int32) (σ' : St) (hf : f_X7_point σ t a0 a1 = some (r0, σ')) : MetV l G (d + 3) mi_X7_point [.ref t, .int a0, .int a1] σ (some (.int r0)) σ' 0 0 := by
  unfold f_X7_point at hf
  refine MetV.of [(0, .ref t), (1, .int a0), (2, .int a1)] (by decide +kernel) rfl (Nat.le_of_ble_eq_true rfl) ?_
  intro X hQ
  by_cases hg : isO σ 6 t = true
  · rw [if_pos hg] at hf
    refine V_aload_n 0 1 rfl dX7_point_0 rfl rfl ?_
    obtain ⟨q2, h1, hf⟩ := ob hf
    refine V_getQ (n := 10) (ty := tyX7) 4 h1 cf_6 rfl wd_fl_X7_12 dX7_point_1 rfl ?_
    obtain ⟨q4, h3, hf⟩ := ob hf
    refine V_getQ (n := 11) (ty := tyX4) 7 h3 cf_3 rfl wd_fl_X7_126 dX7_point_4 rfl ?_
    refine V_iload_n 1 8 rfl dX7_point_7 rfl rfl ?_
    obtain ⟨v6, h5, hf⟩ := ob hf
    refine V_callV (rest := []) (T := TX5) (n := 4) (ci := 4) 0 0 11 [.int v6] (c_X5_has l G (d + 1) _ _ _ _ h5) (by omega) ok_X5_has okv_X5_has (gd_X5_has h5) rfl wd_ml_X7_101 rfl rfl (Nat.le_of_ble_eq_true rfl) rfl rfl (Or.inl ⟨rfl, rfl⟩) dX7_point_8 rfl rfl ?_
    refine V_if_eq 32 14 dX7_point_11 (by decide) rfl (fun c7 => ?_) (fun c7 => ?_)
    · rw [if_pos c7] at hf
      refine V_aload_n 0 33 rfl dX7_point_32 rfl rfl ?_
      refine V_ldc (-1000001) 35 dX7_point_33 rfl wd_kk_X7_67 ?_
      obtain ⟨p9, h8, hf⟩ := ob hf
      refine V_callV (rest := []) (T := TX7) (n := 10) (ci := 6) 0 0 38 [.int p9.1] (c_X7_fails l G (d + 0) _ _ _ _ _ h8) (by omega) ok_X7_fails okv_X7_fails (gd_X7_fails h8) rfl wd_ml_X7_68 rfl rfl (Nat.le_of_ble_eq_true rfl) rfl rfl (Or.inl ⟨rfl, rfl⟩) dX7_point_35 rfl rfl ?_
      have er := Option.some.inj hf
      obtain ⟨e1, e2⟩ := Prod.mk.inj er
      subst e1
      subst e2
      exact V_iret hQ rfl dX7_point_38
    · rw [if_neg c7] at hf
      refine V_iload_n 2 15 rfl dX7_point_14 rfl rfl ?_
      refine V_iconst 0 16 dX7_point_15 rfl kiconst_0 ?_
      refine V_aload_n 0 17 rfl dX7_point_16 rfl rfl ?_
      obtain ⟨q11, h10, hf⟩ := ob hf
      refine V_getQ (n := 10) (ty := tyX7) 20 h10 cf_6 rfl wd_fl_X7_12 dX7_point_17 rfl ?_
      refine V_iload_n 1 21 rfl dX7_point_20 rfl rfl ?_
      obtain ⟨v13, h12, hf⟩ := ob hf
      refine V_callV (rest := [.int 0, .int a1]) (T := TX4) (n := 11) (ci := 3) 0 0 24 [.int v13, .int 0, .int a1] (c_X4_size l G (d + 0) _ _ _ _ h12) (by omega) ok_X4_size okv_X4_size (gd_X4_size h12) rfl wd_ml_X7_163 rfl rfl (Nat.le_of_ble_eq_true rfl) rfl rfl (Or.inl ⟨rfl, rfl⟩) dX7_point_21 rfl rfl ?_
      refine V_iconst 1 25 dX7_point_24 rfl kiconst_1 ?_
      refine V_isub 26 dX7_point_25 rfl ?_
      obtain ⟨v15, h14, hf⟩ := ob hf
      refine V_callS (rest := []) 0 0 29 [.int v15] (c_X7_outside l G (d + 1) _ _ _ _ _ h14) (by omega) ok_X7_outside oks_X7_outside wd_ml_X7_57 rfl rfl (Nat.le_of_ble_eq_true rfl) rfl rfl (Or.inl ⟨rfl, rfl⟩) dX7_point_26 rfl rfl ?_
      refine V_if_eq 39 32 dX7_point_29 (by decide) rfl (fun c16 => ?_) (fun c16 => ?_)
      · rw [if_pos c16] at hf
        refine V_aload_n 0 40 rfl dX7_point_39 rfl rfl ?_
        obtain ⟨q18, h17, hf⟩ := ob hf
        refine V_getQ (n := 10) (ty := tyX7) 43 h17 cf_6 rfl wd_fl_X7_12 dX7_point_40 rfl ?_
        refine V_iload_n 1 44 rfl dX7_point_43 rfl rfl ?_
        refine V_iload_n 2 45 rfl dX7_point_44 rfl rfl ?_
        obtain ⟨v20, h19, hf⟩ := ob hf
        refine V_callV (rest := []) (T := TX4) (n := 11) (ci := 3) 0 0 48 [.int v20] (c_X4_pointAt l G (d + 1) _ _ _ _ _ h19) (by omega) ok_X4_pointAt okv_X4_pointAt (gd_X4_pointAt h19) rfl wd_ml_X7_156 rfl rfl (Nat.le_of_ble_eq_true rfl) rfl rfl (Or.inl ⟨rfl, rfl⟩) dX7_point_45 rfl rfl ?_
        have er := Option.some.inj hf
        obtain ⟨e1, e2⟩ := Prod.mk.inj er
        subst e1
        subst e2
        exact V_iret hQ rfl dX7_point_48
      · rw [if_neg c16] at hf
        refine V_aload_n 0 33 rfl dX7_point_32 rfl rfl ?_
        refine V_ldc (-1000001) 35 dX7_point_33 rfl wd_kk_X7_67 ?_
        obtain ⟨p22, h21, hf⟩ := ob hf
        refine V_callV (rest := []) (T := TX7) (n := 10) (ci := 6) 0 0 38 [.int p22.1] (c_X7_fails l G (d + 0) _ _ _ _ _ h21) (by omega) ok_X7_fails okv_X7_fails (gd_X7_fails h21) rfl wd_ml_X7_68 rfl rfl (Nat.le_of_ble_eq_true rfl) rfl rfl (Or.inl ⟨rfl, rfl⟩) dX7_point_35 rfl rfl ?_
        have er := Option.some.inj hf
        obtain ⟨e1, e2⟩ := Prod.mk.inj er
        subst e1
        subst e2
        exact V_iret hQ rfl dX7_point_38
  · rw [if_neg hg] at hf
    cases hf
abbrev mi_X7_hair : MI := (yX7_hair, cX7_hair, 3, some .int)
theorem ok_X7_hair : OkN mi_X7_hair 2 := ⟨wd_cd_X7_hair, wd_in_X7, ⟨by decide +kernel, by decide +kernel, by decide +kernel⟩, by decide⟩
theorem okv_X7_hair : Cond.instanceMethod (mi_X7_hair).1 ∈ tb ∧ Cond.selects (mi_X7_hair).1.cls (mi_X7_hair).1 (mi_X7_hair).1 ∈ tb := ⟨wd_im_X7_hair, wd_se_X7_hair⟩
def f_X7_hair (σ : St) (t : Nat) (a0 : Int32) (a1 : Int32) : Option (Int32 × St) := if isO σ 6 t = true then ((gQ σ 6 t 0).bind fun q2 => (gQ σ 3 q2 2).bind fun q4 => (f_X5_has σ q4 a0).bind fun v6 => if v6 = 0 then ((f_X7_fails σ t (-1000001)).bind fun p9 => some (p9.1, p9.2)) else ((gQ σ 6 t 0).bind fun q11 => (f_X4_size σ q11 a0).bind fun v13 => (f_X7_outside σ a1 1 (v13 - 2)).bind fun v15 => if v15 = 0 then ((gQ σ 6 t 0).bind fun q18 => (f_X4_hairAt σ q18 a0 a1).bind fun v20 => some (v20, σ)) else ((f_X7_fails σ t (-1000001)).bind fun p22 => some (p22.1, p22.2)))) else none
theorem gd_X7_hair {σ : St} {t : Nat} {a0 : Int32} {a1 : Int32} {r : Int32 × St} (h : f_X7_hair σ t a0 a1 = some r) : isO σ 6 t = true := by
  unfold f_X7_hair at h
  by_cases hg : isO σ 6 t = true
  · exact hg
  · rw [if_neg hg] at h
    cases h
set_option maxRecDepth 100000 in
set_option maxHeartbeats 4000000 in
theorem c_X7_hair (l : Launch) (G : Gd) (d : Nat) (σ : St) (t : Nat) (a0 : Int32) (a1 : Int32) (r0 : Int32) (σ' : St) (hf : f_X7_hair σ t a0 a1 = some (r0, σ')) : MetV l G (d + 3) mi_X7_hair [.ref t, .int a0, .int a1] σ (some (.int r0)) σ' 0 0 := by
  unfold f_X7_hair at hf
  refine MetV.of [(0, .ref t), (1, .int a0), (2, .int a1)] (by decide +kernel) rfl (Nat.le_of_ble_eq_true rfl) ?_
  intro X hQ
  by_cases hg : isO σ 6 t = true
  · rw [if_pos hg] at hf
    refine V_aload_n 0 1 rfl dX7_hair_0 rfl rfl ?_
    obtain ⟨q2, h1, hf⟩ := ob hf
    refine V_getQ (n := 10) (ty := tyX7) 4 h1 cf_6 rfl wd_fl_X7_12 dX7_hair_1 rfl ?_
    obtain ⟨q4, h3, hf⟩ := ob hf
    refine V_getQ (n := 11) (ty := tyX4) 7 h3 cf_3 rfl wd_fl_X7_126 dX7_hair_4 rfl ?_
    refine V_iload_n 1 8 rfl dX7_hair_7 rfl rfl ?_
    obtain ⟨v6, h5, hf⟩ := ob hf
    refine V_callV (rest := []) (T := TX5) (n := 4) (ci := 4) 0 0 11 [.int v6] (c_X5_has l G (d + 1) _ _ _ _ h5) (by omega) ok_X5_has okv_X5_has (gd_X5_has h5) rfl wd_ml_X7_101 rfl rfl (Nat.le_of_ble_eq_true rfl) rfl rfl (Or.inl ⟨rfl, rfl⟩) dX7_hair_8 rfl rfl ?_
    refine V_if_eq 32 14 dX7_hair_11 (by decide) rfl (fun c7 => ?_) (fun c7 => ?_)
    · rw [if_pos c7] at hf
      refine V_aload_n 0 33 rfl dX7_hair_32 rfl rfl ?_
      refine V_ldc (-1000001) 35 dX7_hair_33 rfl wd_kk_X7_67 ?_
      obtain ⟨p9, h8, hf⟩ := ob hf
      refine V_callV (rest := []) (T := TX7) (n := 10) (ci := 6) 0 0 38 [.int p9.1] (c_X7_fails l G (d + 0) _ _ _ _ _ h8) (by omega) ok_X7_fails okv_X7_fails (gd_X7_fails h8) rfl wd_ml_X7_68 rfl rfl (Nat.le_of_ble_eq_true rfl) rfl rfl (Or.inl ⟨rfl, rfl⟩) dX7_hair_35 rfl rfl ?_
      have er := Option.some.inj hf
      obtain ⟨e1, e2⟩ := Prod.mk.inj er
      subst e1
      subst e2
      exact V_iret hQ rfl dX7_hair_38
    · rw [if_neg c7] at hf
      refine V_iload_n 2 15 rfl dX7_hair_14 rfl rfl ?_
      refine V_iconst 1 16 dX7_hair_15 rfl kiconst_1 ?_
      refine V_aload_n 0 17 rfl dX7_hair_16 rfl rfl ?_
      obtain ⟨q11, h10, hf⟩ := ob hf
      refine V_getQ (n := 10) (ty := tyX7) 20 h10 cf_6 rfl wd_fl_X7_12 dX7_hair_17 rfl ?_
      refine V_iload_n 1 21 rfl dX7_hair_20 rfl rfl ?_
      obtain ⟨v13, h12, hf⟩ := ob hf
      refine V_callV (rest := [.int 1, .int a1]) (T := TX4) (n := 11) (ci := 3) 0 0 24 [.int v13, .int 1, .int a1] (c_X4_size l G (d + 0) _ _ _ _ h12) (by omega) ok_X4_size okv_X4_size (gd_X4_size h12) rfl wd_ml_X7_163 rfl rfl (Nat.le_of_ble_eq_true rfl) rfl rfl (Or.inl ⟨rfl, rfl⟩) dX7_hair_21 rfl rfl ?_
      refine V_iconst 2 25 dX7_hair_24 rfl kiconst_2 ?_
      refine V_isub 26 dX7_hair_25 rfl ?_
      obtain ⟨v15, h14, hf⟩ := ob hf
      refine V_callS (rest := []) 0 0 29 [.int v15] (c_X7_outside l G (d + 1) _ _ _ _ _ h14) (by omega) ok_X7_outside oks_X7_outside wd_ml_X7_57 rfl rfl (Nat.le_of_ble_eq_true rfl) rfl rfl (Or.inl ⟨rfl, rfl⟩) dX7_hair_26 rfl rfl ?_
      refine V_if_eq 39 32 dX7_hair_29 (by decide) rfl (fun c16 => ?_) (fun c16 => ?_)
      · rw [if_pos c16] at hf
        refine V_aload_n 0 40 rfl dX7_hair_39 rfl rfl ?_
        obtain ⟨q18, h17, hf⟩ := ob hf
        refine V_getQ (n := 10) (ty := tyX7) 43 h17 cf_6 rfl wd_fl_X7_12 dX7_hair_40 rfl ?_
        refine V_iload_n 1 44 rfl dX7_hair_43 rfl rfl ?_
        refine V_iload_n 2 45 rfl dX7_hair_44 rfl rfl ?_
        obtain ⟨v20, h19, hf⟩ := ob hf
        refine V_callV (rest := []) (T := TX4) (n := 11) (ci := 3) 0 0 48 [.int v20] (c_X4_hairAt l G (d + 0) _ _ _ _ _ h19) (by omega) ok_X4_hairAt okv_X4_hairAt (gd_X4_hairAt h19) rfl wd_ml_X7_166 rfl rfl (Nat.le_of_ble_eq_true rfl) rfl rfl (Or.inl ⟨rfl, rfl⟩) dX7_hair_45 rfl rfl ?_
        have er := Option.some.inj hf
        obtain ⟨e1, e2⟩ := Prod.mk.inj er
        subst e1
        subst e2
        exact V_iret hQ rfl dX7_hair_48
      · rw [if_neg c16] at hf
        refine V_aload_n 0 33 rfl dX7_hair_32 rfl rfl ?_
        refine V_ldc (-1000001) 35 dX7_hair_33 rfl wd_kk_X7_67 ?_
        obtain ⟨p22, h21, hf⟩ := ob hf
        refine V_callV (rest := []) (T := TX7) (n := 10) (ci := 6) 0 0 38 [.int p22.1] (c_X7_fails l G (d + 0) _ _ _ _ _ h21) (by omega) ok_X7_fails okv_X7_fails (gd_X7_fails h21) rfl wd_ml_X7_68 rfl rfl (Nat.le_of_ble_eq_true rfl) rfl rfl (Or.inl ⟨rfl, rfl⟩) dX7_hair_35 rfl rfl ?_
        have er := Option.some.inj hf
        obtain ⟨e1, e2⟩ := Prod.mk.inj er
        subst e1
        subst e2
        exact V_iret hQ rfl dX7_hair_38
  · rw [if_neg hg] at hf
    cases hf
abbrev mi_X7_feed : MI := (yX7_feed, cX7_feed, 5, some .int)
theorem ok_X7_feed : OkN mi_X7_feed 2 := ⟨wd_cd_X7_feed, wd_in_X7, ⟨by decide +kernel, by decide +kernel, by decide +kernel⟩, by decide⟩
theorem okv_X7_feed : Cond.instanceMethod (mi_X7_feed).1 ∈ tb ∧ Cond.selects (mi_X7_feed).1.cls (mi_X7_feed).1 (mi_X7_feed).1 ∈ tb := ⟨wd_im_X7_feed, wd_se_X7_feed⟩
def f_X7_feed_L44 (t : Nat) (x1 : Int64) (x3 : Int32) : Nat → Int32 → St → Option (Int32 × St)
  | 0, _, _ => none
  | n + 1, x4, σ => if x3 ≤ x4 then (some (x4, σ)) else ((gQ σ 6 t 0).bind fun q13 => (gQ σ 3 q13 8).bind fun q15 => (f_X1_add σ q15 (((x1 >>> (((8 : Int32) * x4).toInt64 &&& 63)).toInt32).toInt8.toInt32)).bind fun s17 => f_X7_feed_L44 t x1 x3 n (x4 + 1) s17)
def f_X7_feed (σ : St) (t : Nat) (a0 : Int64) (a1 : Int32) : Option (Int32 × St) := if isO σ 6 t = true then ((f_X7_outside σ a1 1 8).bind fun v2 => if v2 = 0 then ((gQ σ 6 t 0).bind fun q5 => (gQ σ 3 q5 8).bind fun q7 => (gI σ 0 q7 1).bind fun v9 => if (v9 + a1) ≤ 56 then ((f_X7_feed_L44 t a0 a1 3000 0 σ).bind fun p18 => (gQ p18.2 6 t 0).bind fun q21 => (gQ p18.2 3 q21 8).bind fun q23 => (gI p18.2 0 q23 1).bind fun v25 => some (v25, p18.2)) else ((f_X7_fails σ t (-1000004)).bind fun p27 => some (p27.1, p27.2))) else ((f_X7_fails σ t (-1000001)).bind fun p29 => some (p29.1, p29.2))) else none
theorem gd_X7_feed {σ : St} {t : Nat} {a0 : Int64} {a1 : Int32} {r : Int32 × St} (h : f_X7_feed σ t a0 a1 = some r) : isO σ 6 t = true := by
  unfold f_X7_feed at h
  by_cases hg : isO σ 6 t = true
  · exact hg
  · rw [if_neg hg] at h
    cases h
set_option maxRecDepth 100000 in
set_option maxHeartbeats 4000000 in
theorem c_X7_feed (l : Launch) (G : Gd) (d : Nat) (σ : St) (t : Nat) (a0 : Int64) (a1 : Int32) (r0 : Int32) (σ' : St) (hf : f_X7_feed σ t a0 a1 = some (r0, σ')) : MetV l G (d + 3) mi_X7_feed [.ref t, .long a0, .int a1] σ (some (.int r0)) σ' 0 0 := by
  unfold f_X7_feed at hf
  refine MetV.of [(0, .ref t), (1, .long a0), (3, .int a1)] (by decide +kernel) rfl (Nat.le_of_ble_eq_true rfl) ?_
  intro X hQ
  have L44 : ∀ (x1 : Int64) (x3 : Int32) (n : Nat) (x4 : Int32) (σ : St) (p : Int32 × St), f_X7_feed_L44 t x1 x3 n x4 σ = some p → V mi_X7_feed l G (d + 3) 0 0 X 0 0 75 [(4, .int p.1), (0, .ref t), (1, .long x1), (3, .int x3)] [] p.2 → V mi_X7_feed l G (d + 3) 0 0 X 0 0 44 [(4, .int x4), (0, .ref t), (1, .long x1), (3, .int x3)] [] σ := by
    intro x1 x3 n
    induction n with
    | zero =>
      intro x4 σ p hf
      exact absurd (show (none : Option _) = some p from hf) (by simp)
    | succ n ih =>
      intro x4 σ p hf hk
      rw [f_X7_feed_L44] at hf
      refine V_iload 0 46 rfl dX7_feed_44 rfl ?_
      refine V_iload_n 3 47 rfl dX7_feed_46 rfl rfl ?_
      refine V_icmp_ge 75 50 dX7_feed_47 (by decide) rfl (fun c11 => ?_) (fun c11 => ?_)
      · rw [if_pos c11] at hf
        have ep := Option.some.inj hf
        subst ep
        refine V_ls [(4, .int x4), (0, .ref t), (1, .long x1), (3, .int x3)] [0, 1, 2, 3] rfl ?_
        exact hk
      · rw [if_neg c11] at hf
        refine V_aload_n 1 51 rfl dX7_feed_50 rfl rfl ?_
        obtain ⟨q13, h12, hf⟩ := ob hf
        refine V_getQ (n := 10) (ty := tyX7) 54 h12 cf_6 rfl wd_fl_X7_12 dX7_feed_51 rfl ?_
        obtain ⟨q15, h14, hf⟩ := ob hf
        refine V_getQ (n := 11) (ty := tyX4) 57 h14 cf_3 rfl wd_fl_X7_169 dX7_feed_54 rfl ?_
        refine V_lload_n 2 58 rfl dX7_feed_57 rfl rfl ?_
        refine V_bipush 8 60 dX7_feed_58 rfl kbipush_8 ?_
        refine V_iload 0 62 rfl dX7_feed_60 rfl ?_
        refine V_imul 63 dX7_feed_62 rfl ?_
        refine V_lshr 64 dX7_feed_63 rfl ?_
        refine V_l2i 65 dX7_feed_64 rfl ?_
        refine V_i2b 66 dX7_feed_65 rfl ?_
        obtain ⟨s17, h16, hf⟩ := ob hf
        refine V_callV (rest := []) (T := TX1) (n := 2) (ci := 0) 0 0 69 [] (c_X1_add l G (d + 1) _ _ _ _ h16) (by omega) ok_X1_add okv_X1_add (gd_X1_add h16) rfl wd_ml_X7_177 rfl rfl (Nat.le_of_ble_eq_true rfl) rfl rfl (Or.inl ⟨rfl, rfl⟩) dX7_feed_66 rfl rfl ?_
        refine V_iinc (x4 + 1) 0 [(4, .int (x4 + 1)), (0, .ref t), (1, .long x1), (3, .int x3)] 72 dX7_feed_69 rfl (by rw [kiconst_1]) (by decide) rfl rfl ?_
        refine V_goto 44 dX7_feed_72 (by decide) ?_
        refine V_ls [(4, .int (x4 + 1)), (0, .ref t), (1, .long x1), (3, .int x3)] [0, 1, 2, 3] rfl ?_
        exact ih _ _ _ hf hk
  by_cases hg : isO σ 6 t = true
  · rw [if_pos hg] at hf
    refine V_iload_n 2 1 rfl dX7_feed_0 rfl rfl ?_
    refine V_iconst 1 2 dX7_feed_1 rfl kiconst_1 ?_
    refine V_bipush 8 4 dX7_feed_2 rfl kbipush_8 ?_
    obtain ⟨v2, h1, hf⟩ := ob hf
    refine V_callS (rest := []) 0 0 7 [.int v2] (c_X7_outside l G (d + 1) _ _ _ _ _ h1) (by omega) ok_X7_outside oks_X7_outside wd_ml_X7_57 rfl rfl (Nat.le_of_ble_eq_true rfl) rfl rfl (Or.inl ⟨rfl, rfl⟩) dX7_feed_4 rfl rfl ?_
    refine V_if_eq 17 10 dX7_feed_7 (by decide) rfl (fun c3 => ?_) (fun c3 => ?_)
    · rw [if_pos c3] at hf
      refine V_aload_n 0 18 rfl dX7_feed_17 rfl rfl ?_
      obtain ⟨q5, h4, hf⟩ := ob hf
      refine V_getQ (n := 10) (ty := tyX7) 21 h4 cf_6 rfl wd_fl_X7_12 dX7_feed_18 rfl ?_
      obtain ⟨q7, h6, hf⟩ := ob hf
      refine V_getQ (n := 11) (ty := tyX4) 24 h6 cf_3 rfl wd_fl_X7_169 dX7_feed_21 rfl ?_
      obtain ⟨v9, h8, hf⟩ := ob hf
      refine V_getI (n := 2) (ty := tyX1) 27 h8 cf_0 rfl wd_fl_X7_173 dX7_feed_24 rfl ?_
      refine V_iload_n 2 28 rfl dX7_feed_27 rfl rfl ?_
      refine V_iadd 29 dX7_feed_28 rfl ?_
      refine V_bipush 56 31 dX7_feed_29 rfl kbipush_56 ?_
      refine V_icmp_le 41 34 dX7_feed_31 (by decide) rfl (fun c10 => ?_) (fun c10 => ?_)
      · rw [if_pos c10] at hf
        refine V_iconst 0 42 dX7_feed_41 rfl kiconst_0 ?_
        refine V_istore [(4, .int 0), (0, .ref t), (1, .long a0), (3, .int a1)] 44 dX7_feed_42 (by decide) rfl rfl ?_
        obtain ⟨p18, h19, hf⟩ := ob hf
        refine V_ls [(4, .int 0), (0, .ref t), (1, .long a0), (3, .int a1)] [0, 1, 2, 3] rfl ?_
        refine L44 a0 a1 3000 0 σ p18 h19 ?_
        refine V_aload_n 1 76 rfl dX7_feed_75 rfl rfl ?_
        obtain ⟨q21, h20, hf⟩ := ob hf
        refine V_getQ (n := 10) (ty := tyX7) 79 h20 cf_6 rfl wd_fl_X7_12 dX7_feed_76 rfl ?_
        obtain ⟨q23, h22, hf⟩ := ob hf
        refine V_getQ (n := 11) (ty := tyX4) 82 h22 cf_3 rfl wd_fl_X7_169 dX7_feed_79 rfl ?_
        obtain ⟨v25, h24, hf⟩ := ob hf
        refine V_getI (n := 2) (ty := tyX1) 85 h24 cf_0 rfl wd_fl_X7_173 dX7_feed_82 rfl ?_
        have er := Option.some.inj hf
        obtain ⟨e1, e2⟩ := Prod.mk.inj er
        subst e1
        subst e2
        exact V_iret hQ rfl dX7_feed_85
      · rw [if_neg c10] at hf
        refine V_aload_n 0 35 rfl dX7_feed_34 rfl rfl ?_
        refine V_ldc (-1000004) 37 dX7_feed_35 rfl wd_kk_X7_96 ?_
        obtain ⟨p27, h26, hf⟩ := ob hf
        refine V_callV (rest := []) (T := TX7) (n := 10) (ci := 6) 0 0 40 [.int p27.1] (c_X7_fails l G (d + 0) _ _ _ _ _ h26) (by omega) ok_X7_fails okv_X7_fails (gd_X7_fails h26) rfl wd_ml_X7_68 rfl rfl (Nat.le_of_ble_eq_true rfl) rfl rfl (Or.inl ⟨rfl, rfl⟩) dX7_feed_37 rfl rfl ?_
        have er := Option.some.inj hf
        obtain ⟨e1, e2⟩ := Prod.mk.inj er
        subst e1
        subst e2
        exact V_iret hQ rfl dX7_feed_40
    · rw [if_neg c3] at hf
      refine V_aload_n 0 11 rfl dX7_feed_10 rfl rfl ?_
      refine V_ldc (-1000001) 13 dX7_feed_11 rfl wd_kk_X7_67 ?_
      obtain ⟨p29, h28, hf⟩ := ob hf
      refine V_callV (rest := []) (T := TX7) (n := 10) (ci := 6) 0 0 16 [.int p29.1] (c_X7_fails l G (d + 0) _ _ _ _ _ h28) (by omega) ok_X7_fails okv_X7_fails (gd_X7_fails h28) rfl wd_ml_X7_68 rfl rfl (Nat.le_of_ble_eq_true rfl) rfl rfl (Or.inl ⟨rfl, rfl⟩) dX7_feed_13 rfl rfl ?_
      have er := Option.some.inj hf
      obtain ⟨e1, e2⟩ := Prod.mk.inj er
      subst e1
      subst e2
      exact V_iret hQ rfl dX7_feed_16
  · rw [if_neg hg] at hf
    cases hf
abbrev mi_X7_isUse : MI := (yX7_isUse, cX7_isUse, 1, some .boolean)
theorem ok_X7_isUse : OkN mi_X7_isUse 1 := ⟨wd_cd_X7_isUse, wd_in_X7, ⟨by decide +kernel, by decide +kernel, by decide +kernel⟩, by decide⟩
theorem oks_X7_isUse : Cond.static (mi_X7_isUse).1 ∈ tb := wd_sm_X7_isUse
def f_X7_isUse (σ : St) (a0 : Int32) : Option Int32 := (f_X7_outside σ a0 0 2).bind fun v2 => (zr (if v2 = 0 then 1 else 0 : Int32)).bind fun z3 => some (if v2 = 0 then 1 else 0 : Int32)
set_option maxRecDepth 100000 in
set_option maxHeartbeats 4000000 in
theorem c_X7_isUse (l : Launch) (G : Gd) (d : Nat) (σ : St) (a0 : Int32) (r0 : Int32) (hf : f_X7_isUse σ a0 = some r0) : MetV l G (d + 2) mi_X7_isUse [.int a0] σ (some (.int r0)) σ 0 0 := by
  unfold f_X7_isUse at hf
  refine MetV.of [(0, .int a0)] (by decide +kernel) rfl (Nat.le_of_ble_eq_true rfl) ?_
  intro X hQ
  refine V_iload_n 0 1 rfl dX7_isUse_0 rfl rfl ?_
  refine V_iconst 0 2 dX7_isUse_1 rfl kiconst_0 ?_
  refine V_iconst 2 3 dX7_isUse_2 rfl kiconst_2 ?_
  obtain ⟨v2, h1, hf⟩ := ob hf
  refine V_callS (rest := []) 0 0 6 [.int v2] (c_X7_outside l G (d + 0) _ _ _ _ _ h1) (by omega) ok_X7_outside oks_X7_outside wd_ml_X7_57 rfl rfl (Nat.le_of_ble_eq_true rfl) rfl rfl (Or.inl ⟨rfl, rfl⟩) dX7_isUse_3 rfl rfl ?_
  have kj5 : V mi_X7_isUse l G (d + 2) 0 0 X 0 0 14 [(0, .int a0)] [.int (if v2 = 0 then 1 else 0 : Int32)] σ := by
    obtain ⟨z3, h4, hf⟩ := ob hf
    have er := Option.some.inj hf
    subst er
    exact V_zret (zr_ok h4) hQ rfl dX7_isUse_14
  refine V_if_ne 13 9 dX7_isUse_6 (by decide) rfl (fun c6 => ?_) (fun c6 => ?_)
  · refine V_iconst 0 14 dX7_isUse_13 rfl kiconst_0 ?_
    refine V_ls [(0, .int a0)] [0] rfl ?_
    simp only [if_neg c6] at kj5
    exact kj5
  · refine V_iconst 1 10 dX7_isUse_9 rfl kiconst_1 ?_
    refine V_goto 14 dX7_isUse_10 (by decide) ?_
    refine V_ls [(0, .int a0)] [0] rfl ?_
    simp only [if_pos c6] at kj5
    exact kj5
abbrev mi_X7_text : MI := (yX7_text, cX7_text, 2, some .int)
theorem ok_X7_text : OkN mi_X7_text 1 := ⟨wd_cd_X7_text, wd_in_X7, ⟨by decide +kernel, by decide +kernel, by decide +kernel⟩, by decide⟩
theorem okv_X7_text : Cond.instanceMethod (mi_X7_text).1 ∈ tb ∧ Cond.selects (mi_X7_text).1.cls (mi_X7_text).1 (mi_X7_text).1 ∈ tb := ⟨wd_im_X7_text, wd_se_X7_text⟩
def f_X7_text (σ : St) (t : Nat) (a0 : Int32) : Option (Int32 × St) := if isO σ 6 t = true then ((f_X7_isUse σ a0).bind fun v2 => if v2 = 0 then ((f_X7_fails σ t (-1000001)).bind fun p68 => some (p68.1, p68.2)) else ((gQ σ 6 t 1).bind fun q5 => (gQ σ 6 t 0).bind fun q7 => (gQ σ 3 q7 8).bind fun q9 => (f_X2_read σ q5 q9 a0 0 0 0).bind fun p11 => (gQ p11.2 6 t 1).bind fun q13 => (gI p11.2 1 q13 7).bind fun v15 => if v15 = 0 then ((gQ p11.2 6 t 0).bind fun q37 => (gQ p11.2 3 q37 9).bind fun q39 => (aQ p11.2 2 q39 a0).bind fun q41 => (gQ p11.2 6 t 0).bind fun q43 => (gQ p11.2 3 q43 8).bind fun q45 => (f_X1_copyFrom p11.2 q41 q45).bind fun s47 => (gQ s47 6 t 0).bind fun q49 => (gQ s47 3 q49 8).bind fun q51 => (f_X1_clear s47 q51).bind fun s53 => (gQ s53 6 t 1).bind fun q55 => (gI s53 1 q55 7).bind fun v57 => if v57 = 0 then ((gQ s53 6 t 1).bind fun q60 => (gI s53 1 q60 6).bind fun v62 => some (v62, s53)) else ((gQ s53 6 t 1).bind fun q64 => (gI s53 1 q64 5).bind fun v66 => some ((-10 : Int32) - v66, s53))) else ((gQ p11.2 6 t 0).bind fun q18 => (gQ p11.2 3 q18 8).bind fun q20 => (f_X1_clear p11.2 q20).bind fun s22 => (gQ s22 6 t 1).bind fun q24 => (gI s22 1 q24 7).bind fun v26 => if v26 = 0 then ((gQ s22 6 t 1).bind fun q29 => (gI s22 1 q29 6).bind fun v31 => some (v31, s22)) else ((gQ s22 6 t 1).bind fun q33 => (gI s22 1 q33 5).bind fun v35 => some ((-10 : Int32) - v35, s22))))) else none
theorem gd_X7_text {σ : St} {t : Nat} {a0 : Int32} {r : Int32 × St} (h : f_X7_text σ t a0 = some r) : isO σ 6 t = true := by
  unfold f_X7_text at h
  by_cases hg : isO σ 6 t = true
  · exact hg
  · rw [if_neg hg] at h
    cases h
set_option maxRecDepth 100000 in
set_option maxHeartbeats 4000000 in
theorem c_X7_text (l : Launch) (G : Gd) (d : Nat) (σ : St) (t : Nat) (a0 : Int32) (r0 : Int32) (σ' : St) (hf : f_X7_text σ t a0 = some (r0, σ')) : MetV l G (d + 302) mi_X7_text [.ref t, .int a0] σ (some (.int r0)) σ' 0 0 := by
  unfold f_X7_text at hf
  refine MetV.of [(0, .ref t), (1, .int a0)] (by decide +kernel) rfl (Nat.le_of_ble_eq_true rfl) ?_
  intro X hQ
  by_cases hg : isO σ 6 t = true
  · rw [if_pos hg] at hf
    refine V_iload_n 1 1 rfl dX7_text_0 rfl rfl ?_
    obtain ⟨v2, h1, hf⟩ := ob hf
    refine V_callS (rest := []) 0 0 4 [.int v2] (c_X7_isUse l G (d + 299) _ _ _ h1) (by omega) ok_X7_isUse oks_X7_isUse wd_ml_X7_180 rfl rfl (Nat.le_of_ble_eq_true rfl) rfl rfl (Or.inl ⟨rfl, rfl⟩) dX7_text_1 rfl rfl ?_
    refine V_if_ne 14 7 dX7_text_4 (by decide) rfl (fun c3 => ?_) (fun c3 => ?_)
    · rw [if_neg c3] at hf
      refine V_aload_n 0 15 rfl dX7_text_14 rfl rfl ?_
      obtain ⟨q5, h4, hf⟩ := ob hf
      refine V_getQ (n := 10) (ty := tyX7) 18 h4 cf_6 rfl wd_fl_X7_19 dX7_text_15 rfl ?_
      refine V_aload_n 0 19 rfl dX7_text_18 rfl rfl ?_
      obtain ⟨q7, h6, hf⟩ := ob hf
      refine V_getQ (n := 10) (ty := tyX7) 22 h6 cf_6 rfl wd_fl_X7_12 dX7_text_19 rfl ?_
      obtain ⟨q9, h8, hf⟩ := ob hf
      refine V_getQ (n := 11) (ty := tyX4) 25 h8 cf_3 rfl wd_fl_X7_169 dX7_text_22 rfl ?_
      refine V_iload_n 1 26 rfl dX7_text_25 rfl rfl ?_
      refine V_iconst 0 27 dX7_text_26 rfl kiconst_0 ?_
      refine V_iconst 0 28 dX7_text_27 rfl kiconst_0 ?_
      refine V_iconst 0 29 dX7_text_28 rfl kiconst_0 ?_
      obtain ⟨p11, h10, hf⟩ := ob hf
      refine V_callV (rest := []) (T := TX2) (n := 8) (ci := 1) 0 0 32 [.int p11.1] (c_X2_read l G (d + 0) _ _ _ _ _ _ _ _ _ h10) (by omega) ok_X2_read okv_X2_read (gd_X2_read h10) rfl wd_ml_X7_183 rfl rfl (Nat.le_of_ble_eq_true rfl) rfl rfl (Or.inl ⟨rfl, rfl⟩) dX7_text_29 rfl rfl ?_
      refine V_pop 33 dX7_text_32 rfl rfl ?_
      refine V_aload_n 0 34 rfl dX7_text_33 rfl rfl ?_
      obtain ⟨q13, h12, hf⟩ := ob hf
      refine V_getQ (n := 10) (ty := tyX7) 37 h12 cf_6 rfl wd_fl_X7_19 dX7_text_34 rfl ?_
      obtain ⟨v15, h14, hf⟩ := ob hf
      refine V_getI (n := 8) (ty := tyX2) 40 h14 cf_1 rfl wd_fl_X7_187 dX7_text_37 rfl ?_
      refine V_if_ne 62 43 dX7_text_40 (by decide) rfl (fun c16 => ?_) (fun c16 => ?_)
      · rw [if_neg c16] at hf
        refine V_aload_n 0 63 rfl dX7_text_62 rfl rfl ?_
        obtain ⟨q18, h17, hf⟩ := ob hf
        refine V_getQ (n := 10) (ty := tyX7) 66 h17 cf_6 rfl wd_fl_X7_12 dX7_text_63 rfl ?_
        obtain ⟨q20, h19, hf⟩ := ob hf
        refine V_getQ (n := 11) (ty := tyX4) 69 h19 cf_3 rfl wd_fl_X7_169 dX7_text_66 rfl ?_
        obtain ⟨s22, h21, hf⟩ := ob hf
        refine V_callV (rest := []) (T := TX1) (n := 2) (ci := 0) 0 0 72 [] (c_X1_clear l G (d + 300) _ _ _ h21) (by omega) ok_X1_clear okv_X1_clear (gd_X1_clear h21) rfl wd_ml_X7_199 rfl rfl (Nat.le_of_ble_eq_true rfl) rfl rfl (Or.inl ⟨rfl, rfl⟩) dX7_text_69 rfl rfl ?_
        refine V_aload_n 0 73 rfl dX7_text_72 rfl rfl ?_
        obtain ⟨q24, h23, hf⟩ := ob hf
        refine V_getQ (n := 10) (ty := tyX7) 76 h23 cf_6 rfl wd_fl_X7_19 dX7_text_73 rfl ?_
        obtain ⟨v26, h25, hf⟩ := ob hf
        refine V_getI (n := 8) (ty := tyX2) 79 h25 cf_1 rfl wd_fl_X7_187 dX7_text_76 rfl ?_
        refine V_if_eq 95 82 dX7_text_79 (by decide) rfl (fun c27 => ?_) (fun c27 => ?_)
        · rw [if_pos c27] at hf
          refine V_aload_n 0 96 rfl dX7_text_95 rfl rfl ?_
          obtain ⟨q29, h28, hf⟩ := ob hf
          refine V_getQ (n := 10) (ty := tyX7) 99 h28 cf_6 rfl wd_fl_X7_19 dX7_text_96 rfl ?_
          obtain ⟨v31, h30, hf⟩ := ob hf
          refine V_getI (n := 8) (ty := tyX2) 102 h30 cf_1 rfl wd_fl_X7_204 dX7_text_99 rfl ?_
          have er := Option.some.inj hf
          obtain ⟨e1, e2⟩ := Prod.mk.inj er
          subst e1
          subst e2
          exact V_iret hQ rfl dX7_text_102
        · rw [if_neg c27] at hf
          refine V_bipush (-10) 84 dX7_text_82 rfl kbipush_m10 ?_
          refine V_aload_n 0 85 rfl dX7_text_84 rfl rfl ?_
          obtain ⟨q33, h32, hf⟩ := ob hf
          refine V_getQ (n := 10) (ty := tyX7) 88 h32 cf_6 rfl wd_fl_X7_19 dX7_text_85 rfl ?_
          obtain ⟨v35, h34, hf⟩ := ob hf
          refine V_getI (n := 8) (ty := tyX2) 91 h34 cf_1 rfl wd_fl_X7_202 dX7_text_88 rfl ?_
          refine V_isub 92 dX7_text_91 rfl ?_
          refine V_goto 102 dX7_text_92 (by decide) ?_
          have er := Option.some.inj hf
          obtain ⟨e1, e2⟩ := Prod.mk.inj er
          subst e1
          subst e2
          exact V_iret hQ rfl dX7_text_102
      · rw [if_pos c16] at hf
        refine V_aload_n 0 44 rfl dX7_text_43 rfl rfl ?_
        obtain ⟨q37, h36, hf⟩ := ob hf
        refine V_getQ (n := 10) (ty := tyX7) 47 h36 cf_6 rfl wd_fl_X7_12 dX7_text_44 rfl ?_
        obtain ⟨q39, h38, hf⟩ := ob hf
        refine V_getQ (n := 11) (ty := tyX4) 50 h38 cf_3 rfl wd_fl_X7_191 dX7_text_47 rfl ?_
        refine V_iload_n 1 51 rfl dX7_text_50 rfl rfl ?_
        obtain ⟨q41, h40, hf⟩ := ob hf
        refine V_aald (t := 2) 52 h40 (by decide) dX7_text_51 rfl ?_
        refine V_aload_n 0 53 rfl dX7_text_52 rfl rfl ?_
        obtain ⟨q43, h42, hf⟩ := ob hf
        refine V_getQ (n := 10) (ty := tyX7) 56 h42 cf_6 rfl wd_fl_X7_12 dX7_text_53 rfl ?_
        obtain ⟨q45, h44, hf⟩ := ob hf
        refine V_getQ (n := 11) (ty := tyX4) 59 h44 cf_3 rfl wd_fl_X7_169 dX7_text_56 rfl ?_
        obtain ⟨s47, h46, hf⟩ := ob hf
        refine V_callV (rest := []) (T := TX1) (n := 2) (ci := 0) 0 0 62 [] (c_X1_copyFrom l G (d + 299) _ _ _ _ h46) (by omega) ok_X1_copyFrom okv_X1_copyFrom (gd_X1_copyFrom h46) rfl wd_ml_X7_195 rfl rfl (Nat.le_of_ble_eq_true rfl) rfl rfl (Or.inl ⟨rfl, rfl⟩) dX7_text_59 rfl rfl ?_
        refine V_aload_n 0 63 rfl dX7_text_62 rfl rfl ?_
        obtain ⟨q49, h48, hf⟩ := ob hf
        refine V_getQ (n := 10) (ty := tyX7) 66 h48 cf_6 rfl wd_fl_X7_12 dX7_text_63 rfl ?_
        obtain ⟨q51, h50, hf⟩ := ob hf
        refine V_getQ (n := 11) (ty := tyX4) 69 h50 cf_3 rfl wd_fl_X7_169 dX7_text_66 rfl ?_
        obtain ⟨s53, h52, hf⟩ := ob hf
        refine V_callV (rest := []) (T := TX1) (n := 2) (ci := 0) 0 0 72 [] (c_X1_clear l G (d + 300) _ _ _ h52) (by omega) ok_X1_clear okv_X1_clear (gd_X1_clear h52) rfl wd_ml_X7_199 rfl rfl (Nat.le_of_ble_eq_true rfl) rfl rfl (Or.inl ⟨rfl, rfl⟩) dX7_text_69 rfl rfl ?_
        refine V_aload_n 0 73 rfl dX7_text_72 rfl rfl ?_
        obtain ⟨q55, h54, hf⟩ := ob hf
        refine V_getQ (n := 10) (ty := tyX7) 76 h54 cf_6 rfl wd_fl_X7_19 dX7_text_73 rfl ?_
        obtain ⟨v57, h56, hf⟩ := ob hf
        refine V_getI (n := 8) (ty := tyX2) 79 h56 cf_1 rfl wd_fl_X7_187 dX7_text_76 rfl ?_
        refine V_if_eq 95 82 dX7_text_79 (by decide) rfl (fun c58 => ?_) (fun c58 => ?_)
        · rw [if_pos c58] at hf
          refine V_aload_n 0 96 rfl dX7_text_95 rfl rfl ?_
          obtain ⟨q60, h59, hf⟩ := ob hf
          refine V_getQ (n := 10) (ty := tyX7) 99 h59 cf_6 rfl wd_fl_X7_19 dX7_text_96 rfl ?_
          obtain ⟨v62, h61, hf⟩ := ob hf
          refine V_getI (n := 8) (ty := tyX2) 102 h61 cf_1 rfl wd_fl_X7_204 dX7_text_99 rfl ?_
          have er := Option.some.inj hf
          obtain ⟨e1, e2⟩ := Prod.mk.inj er
          subst e1
          subst e2
          exact V_iret hQ rfl dX7_text_102
        · rw [if_neg c58] at hf
          refine V_bipush (-10) 84 dX7_text_82 rfl kbipush_m10 ?_
          refine V_aload_n 0 85 rfl dX7_text_84 rfl rfl ?_
          obtain ⟨q64, h63, hf⟩ := ob hf
          refine V_getQ (n := 10) (ty := tyX7) 88 h63 cf_6 rfl wd_fl_X7_19 dX7_text_85 rfl ?_
          obtain ⟨v66, h65, hf⟩ := ob hf
          refine V_getI (n := 8) (ty := tyX2) 91 h65 cf_1 rfl wd_fl_X7_202 dX7_text_88 rfl ?_
          refine V_isub 92 dX7_text_91 rfl ?_
          refine V_goto 102 dX7_text_92 (by decide) ?_
          have er := Option.some.inj hf
          obtain ⟨e1, e2⟩ := Prod.mk.inj er
          subst e1
          subst e2
          exact V_iret hQ rfl dX7_text_102
    · rw [if_pos c3] at hf
      refine V_aload_n 0 8 rfl dX7_text_7 rfl rfl ?_
      refine V_ldc (-1000001) 10 dX7_text_8 rfl wd_kk_X7_67 ?_
      obtain ⟨p68, h67, hf⟩ := ob hf
      refine V_callV (rest := []) (T := TX7) (n := 10) (ci := 6) 0 0 13 [.int p68.1] (c_X7_fails l G (d + 299) _ _ _ _ _ h67) (by omega) ok_X7_fails okv_X7_fails (gd_X7_fails h67) rfl wd_ml_X7_68 rfl rfl (Nat.le_of_ble_eq_true rfl) rfl rfl (Or.inl ⟨rfl, rfl⟩) dX7_text_10 rfl rfl ?_
      have er := Option.some.inj hf
      obtain ⟨e1, e2⟩ := Prod.mk.inj er
      subst e1
      subst e2
      exact V_iret hQ rfl dX7_text_13
  · rw [if_neg hg] at hf
    cases hf
abbrev mi_X7_law : MI := (yX7_law, cX7_law, 5, some .int)
theorem ok_X7_law : OkN mi_X7_law 4 := ⟨wd_cd_X7_law, wd_in_X7, ⟨by decide +kernel, by decide +kernel, by decide +kernel⟩, by decide⟩
theorem okv_X7_law : Cond.instanceMethod (mi_X7_law).1 ∈ tb ∧ Cond.selects (mi_X7_law).1.cls (mi_X7_law).1 (mi_X7_law).1 ∈ tb := ⟨wd_im_X7_law, wd_se_X7_law⟩
def f_X7_law (σ : St) (t : Nat) (a0 : Int32) (a1 : Int32) (a2 : Int32) (a3 : Int32) : Option (Int32 × St) := if isO σ 6 t = true then ((f_X7_isUse σ a0).bind fun v2 => if v2 = 0 then ((f_X7_fails σ t (-1000001)).bind fun p7 => some (p7.1, p7.2)) else ((f_X7_worth σ t a0 a1 a2 a3).bind fun p5 => some (p5.1, p5.2))) else none
theorem gd_X7_law {σ : St} {t : Nat} {a0 : Int32} {a1 : Int32} {a2 : Int32} {a3 : Int32} {r : Int32 × St} (h : f_X7_law σ t a0 a1 a2 a3 = some r) : isO σ 6 t = true := by
  unfold f_X7_law at h
  by_cases hg : isO σ 6 t = true
  · exact hg
  · rw [if_neg hg] at h
    cases h
set_option maxRecDepth 100000 in
set_option maxHeartbeats 4000000 in
theorem c_X7_law (l : Launch) (G : Gd) (d : Nat) (σ : St) (t : Nat) (a0 : Int32) (a1 : Int32) (a2 : Int32) (a3 : Int32) (r0 : Int32) (σ' : St) (hf : f_X7_law σ t a0 a1 a2 a3 = some (r0, σ')) : MetV l G (d + 303) mi_X7_law [.ref t, .int a0, .int a1, .int a2, .int a3] σ (some (.int r0)) σ' 0 0 := by
  unfold f_X7_law at hf
  refine MetV.of [(0, .ref t), (1, .int a0), (2, .int a1), (3, .int a2), (4, .int a3)] (by decide +kernel) rfl (Nat.le_of_ble_eq_true rfl) ?_
  intro X hQ
  by_cases hg : isO σ 6 t = true
  · rw [if_pos hg] at hf
    refine V_iload_n 1 1 rfl dX7_law_0 rfl rfl ?_
    obtain ⟨v2, h1, hf⟩ := ob hf
    refine V_callS (rest := []) 0 0 4 [.int v2] (c_X7_isUse l G (d + 300) _ _ _ h1) (by omega) ok_X7_isUse oks_X7_isUse wd_ml_X7_180 rfl rfl (Nat.le_of_ble_eq_true rfl) rfl rfl (Or.inl ⟨rfl, rfl⟩) dX7_law_1 rfl rfl ?_
    refine V_if_ne 14 7 dX7_law_4 (by decide) rfl (fun c3 => ?_) (fun c3 => ?_)
    · rw [if_neg c3] at hf
      refine V_aload_n 0 15 rfl dX7_law_14 rfl rfl ?_
      refine V_iload_n 1 16 rfl dX7_law_15 rfl rfl ?_
      refine V_iload_n 2 17 rfl dX7_law_16 rfl rfl ?_
      refine V_iload_n 3 18 rfl dX7_law_17 rfl rfl ?_
      refine V_iload 4 20 rfl dX7_law_18 rfl ?_
      obtain ⟨p5, h4, hf⟩ := ob hf
      refine V_callV (rest := []) (T := TX7) (n := 10) (ci := 6) 0 0 23 [.int p5.1] (c_X7_worth l G (d + 0) _ _ _ _ _ _ _ _ h4) (by omega) ok_X7_worth okv_X7_worth (gd_X7_worth h4) rfl wd_ml_X7_207 rfl rfl (Nat.le_of_ble_eq_true rfl) rfl rfl (Or.inl ⟨rfl, rfl⟩) dX7_law_20 rfl rfl ?_
      have er := Option.some.inj hf
      obtain ⟨e1, e2⟩ := Prod.mk.inj er
      subst e1
      subst e2
      exact V_iret hQ rfl dX7_law_23
    · rw [if_pos c3] at hf
      refine V_aload_n 0 8 rfl dX7_law_7 rfl rfl ?_
      refine V_ldc (-1000001) 10 dX7_law_8 rfl wd_kk_X7_67 ?_
      obtain ⟨p7, h6, hf⟩ := ob hf
      refine V_callV (rest := []) (T := TX7) (n := 10) (ci := 6) 0 0 13 [.int p7.1] (c_X7_fails l G (d + 300) _ _ _ _ _ h6) (by omega) ok_X7_fails okv_X7_fails (gd_X7_fails h6) rfl wd_ml_X7_68 rfl rfl (Nat.le_of_ble_eq_true rfl) rfl rfl (Or.inl ⟨rfl, rfl⟩) dX7_law_10 rfl rfl ?_
      have er := Option.some.inj hf
      obtain ⟨e1, e2⟩ := Prod.mk.inj er
      subst e1
      subst e2
      exact V_iret hQ rfl dX7_law_13
  · rw [if_neg hg] at hf
    cases hf
abbrev mi_X7_areTwo : MI := (yX7_areTwo, cX7_areTwo, 3, some .boolean)
theorem ok_X7_areTwo : OkN mi_X7_areTwo 2 := ⟨wd_cd_X7_areTwo, wd_in_X7, ⟨by decide +kernel, by decide +kernel, by decide +kernel⟩, by decide⟩
theorem okv_X7_areTwo : Cond.instanceMethod (mi_X7_areTwo).1 ∈ tb ∧ Cond.selects (mi_X7_areTwo).1.cls (mi_X7_areTwo).1 (mi_X7_areTwo).1 ∈ tb := ⟨wd_im_X7_areTwo, wd_se_X7_areTwo⟩
def f_X7_areTwo (σ : St) (t : Nat) (a0 : Int32) (a1 : Int32) : Option Int32 := if isO σ 6 t = true then ((gQ σ 6 t 0).bind fun q2 => (gQ σ 3 q2 2).bind fun q4 => (f_X5_has σ q4 a0).bind fun v6 => if v6 = 0 then (some 0) else ((gQ σ 6 t 0).bind fun q9 => (gQ σ 3 q9 2).bind fun q11 => (f_X5_has σ q11 a1).bind fun v13 => (zr (if v13 = 0 then 0 else (if a0 = a1 then 0 else 1) : Int32)).bind fun z14 => some (if v13 = 0 then 0 else (if a0 = a1 then 0 else 1) : Int32))) else none
theorem gd_X7_areTwo {σ : St} {t : Nat} {a0 : Int32} {a1 : Int32} {r : Int32} (h : f_X7_areTwo σ t a0 a1 = some r) : isO σ 6 t = true := by
  unfold f_X7_areTwo at h
  by_cases hg : isO σ 6 t = true
  · exact hg
  · rw [if_neg hg] at h
    cases h
set_option maxRecDepth 100000 in
set_option maxHeartbeats 4000000 in
theorem c_X7_areTwo (l : Launch) (G : Gd) (d : Nat) (σ : St) (t : Nat) (a0 : Int32) (a1 : Int32) (r0 : Int32) (hf : f_X7_areTwo σ t a0 a1 = some r0) : MetV l G (d + 2) mi_X7_areTwo [.ref t, .int a0, .int a1] σ (some (.int r0)) σ 0 0 := by
  unfold f_X7_areTwo at hf
  refine MetV.of [(0, .ref t), (1, .int a0), (2, .int a1)] (by decide +kernel) rfl (Nat.le_of_ble_eq_true rfl) ?_
  intro X hQ
  by_cases hg : isO σ 6 t = true
  · rw [if_pos hg] at hf
    refine V_aload_n 0 1 rfl dX7_areTwo_0 rfl rfl ?_
    obtain ⟨q2, h1, hf⟩ := ob hf
    refine V_getQ (n := 10) (ty := tyX7) 4 h1 cf_6 rfl wd_fl_X7_12 dX7_areTwo_1 rfl ?_
    obtain ⟨q4, h3, hf⟩ := ob hf
    refine V_getQ (n := 11) (ty := tyX4) 7 h3 cf_3 rfl wd_fl_X7_126 dX7_areTwo_4 rfl ?_
    refine V_iload_n 1 8 rfl dX7_areTwo_7 rfl rfl ?_
    obtain ⟨v6, h5, hf⟩ := ob hf
    refine V_callV (rest := []) (T := TX5) (n := 4) (ci := 4) 0 0 11 [.int v6] (c_X5_has l G (d + 0) _ _ _ _ h5) (by omega) ok_X5_has okv_X5_has (gd_X5_has h5) rfl wd_ml_X7_101 rfl rfl (Nat.le_of_ble_eq_true rfl) rfl rfl (Or.inl ⟨rfl, rfl⟩) dX7_areTwo_8 rfl rfl ?_
    refine V_if_eq 37 14 dX7_areTwo_11 (by decide) rfl (fun c7 => ?_) (fun c7 => ?_)
    · rw [if_pos c7] at hf
      refine V_iconst 0 38 dX7_areTwo_37 rfl kiconst_0 ?_
      have er := Option.some.inj hf
      subst er
      exact V_zret (by decide) hQ rfl dX7_areTwo_38
    · rw [if_neg c7] at hf
      refine V_aload_n 0 15 rfl dX7_areTwo_14 rfl rfl ?_
      obtain ⟨q9, h8, hf⟩ := ob hf
      refine V_getQ (n := 10) (ty := tyX7) 18 h8 cf_6 rfl wd_fl_X7_12 dX7_areTwo_15 rfl ?_
      obtain ⟨q11, h10, hf⟩ := ob hf
      refine V_getQ (n := 11) (ty := tyX4) 21 h10 cf_3 rfl wd_fl_X7_126 dX7_areTwo_18 rfl ?_
      refine V_iload_n 2 22 rfl dX7_areTwo_21 rfl rfl ?_
      obtain ⟨v13, h12, hf⟩ := ob hf
      refine V_callV (rest := []) (T := TX5) (n := 4) (ci := 4) 0 0 25 [.int v13] (c_X5_has l G (d + 0) _ _ _ _ h12) (by omega) ok_X5_has okv_X5_has (gd_X5_has h12) rfl wd_ml_X7_101 rfl rfl (Nat.le_of_ble_eq_true rfl) rfl rfl (Or.inl ⟨rfl, rfl⟩) dX7_areTwo_22 rfl rfl ?_
      have kj16 : V mi_X7_areTwo l G (d + 2) 0 0 X 0 0 38 [(0, .ref t), (1, .int a0), (2, .int a1)] [.int (if v13 = 0 then 0 else (if a0 = a1 then 0 else 1) : Int32)] σ := by
        obtain ⟨z14, h15, hf⟩ := ob hf
        have er := Option.some.inj hf
        subst er
        exact V_zret (zr_ok h15) hQ rfl dX7_areTwo_38
      refine V_if_eq 37 28 dX7_areTwo_25 (by decide) rfl (fun c17 => ?_) (fun c17 => ?_)
      · refine V_iconst 0 38 dX7_areTwo_37 rfl kiconst_0 ?_
        refine V_ls [(0, .ref t), (1, .int a0), (2, .int a1)] [0, 1, 2] rfl ?_
        simp only [if_pos c17] at kj16
        exact kj16
      · refine V_iload_n 1 29 rfl dX7_areTwo_28 rfl rfl ?_
        refine V_iload_n 2 30 rfl dX7_areTwo_29 rfl rfl ?_
        refine V_icmp_eq 37 33 dX7_areTwo_30 (by decide) rfl (fun c18 => ?_) (fun c18 => ?_)
        · refine V_iconst 0 38 dX7_areTwo_37 rfl kiconst_0 ?_
          refine V_ls [(0, .ref t), (1, .int a0), (2, .int a1)] [0, 1, 2] rfl ?_
          simp only [if_neg c17, if_pos c18] at kj16
          exact kj16
        · refine V_iconst 1 34 dX7_areTwo_33 rfl kiconst_1 ?_
          refine V_goto 38 dX7_areTwo_34 (by decide) ?_
          refine V_ls [(0, .ref t), (1, .int a0), (2, .int a1)] [0, 1, 2] rfl ?_
          simp only [if_neg c17, if_neg c18] at kj16
          exact kj16
  · rw [if_neg hg] at hf
    cases hf
abbrev mi_X7_alikeFrom : MI := (yX7_alikeFrom, cX7_alikeFrom, 7, some .int)
theorem ok_X7_alikeFrom : OkN mi_X7_alikeFrom 4 := ⟨wd_cd_X7_alikeFrom, wd_in_X7, ⟨by decide +kernel, by decide +kernel, by decide +kernel⟩, by decide⟩
theorem okv_X7_alikeFrom : Cond.instanceMethod (mi_X7_alikeFrom).1 ∈ tb ∧ Cond.selects (mi_X7_alikeFrom).1.cls (mi_X7_alikeFrom).1 (mi_X7_alikeFrom).1 ∈ tb := ⟨wd_im_X7_alikeFrom, wd_se_X7_alikeFrom⟩
def f_X7_alikeFrom_L33 (σ : St) (x5 : Int32) (t : Nat) (x1 : Int32) (x2 : Int32) (x3 : Int32) (x4 : Int32) : Nat → Int32 → Option (Int32)
  | 0, _ => none
  | n + 1, x6 => if x5 ≤ x6 then (some x6) else ((gQ σ 6 t 0).bind fun q13 => (f_X4_hairAt σ q13 x1 (x2 + x6)).bind fun v15 => (gQ σ 6 t 0).bind fun q17 => (f_X4_hairAt σ q17 x3 (x4 + x6)).bind fun v19 => if v15 = v19 then (f_X7_alikeFrom_L33 σ x5 t x1 x2 x3 x4 n (x6 + 1)) else (some x6))
def f_X7_alikeFrom (σ : St) (t : Nat) (a0 : Int32) (a1 : Int32) (a2 : Int32) (a3 : Int32) : Option Int32 := if isO σ 6 t = true then ((gQ σ 6 t 0).bind fun q2 => (f_X4_size σ q2 a0).bind fun v4 => (gQ σ 6 t 0).bind fun q6 => (f_X4_size σ q6 a2).bind fun v8 => (f_J9_min_7cf53 σ ((v4 - 1) - a1) ((v8 - 1) - a3)).bind fun v10 => (f_X7_alikeFrom_L33 σ v10 t a0 a1 a2 a3 3000 0).bind fun p21 => some p21) else none
theorem gd_X7_alikeFrom {σ : St} {t : Nat} {a0 : Int32} {a1 : Int32} {a2 : Int32} {a3 : Int32} {r : Int32} (h : f_X7_alikeFrom σ t a0 a1 a2 a3 = some r) : isO σ 6 t = true := by
  unfold f_X7_alikeFrom at h
  by_cases hg : isO σ 6 t = true
  · exact hg
  · rw [if_neg hg] at h
    cases h
set_option maxRecDepth 100000 in
set_option maxHeartbeats 4000000 in
theorem c_X7_alikeFrom (l : Launch) (G : Gd) (d : Nat) (σ : St) (t : Nat) (a0 : Int32) (a1 : Int32) (a2 : Int32) (a3 : Int32) (r0 : Int32) (hf : f_X7_alikeFrom σ t a0 a1 a2 a3 = some r0) : MetV l G (d + 3) mi_X7_alikeFrom [.ref t, .int a0, .int a1, .int a2, .int a3] σ (some (.int r0)) σ 0 0 := by
  unfold f_X7_alikeFrom at hf
  refine MetV.of [(0, .ref t), (1, .int a0), (2, .int a1), (3, .int a2), (4, .int a3)] (by decide +kernel) rfl (Nat.le_of_ble_eq_true rfl) ?_
  intro X hQ
  have L33 : ∀ (x5 : Int32) (x1 : Int32) (x2 : Int32) (x3 : Int32) (x4 : Int32) (n : Nat) (x6 : Int32) (p : Int32), f_X7_alikeFrom_L33 σ x5 t x1 x2 x3 x4 n x6 = some p → V mi_X7_alikeFrom l G (d + 3) 0 0 X 0 0 74 [(6, .int p), (5, .int x5), (0, .ref t), (1, .int x1), (2, .int x2), (3, .int x3), (4, .int x4)] [] σ → V mi_X7_alikeFrom l G (d + 3) 0 0 X 0 0 33 [(6, .int x6), (5, .int x5), (0, .ref t), (1, .int x1), (2, .int x2), (3, .int x3), (4, .int x4)] [] σ := by
    intro x5 x1 x2 x3 x4 n
    induction n with
    | zero =>
      intro x6 p hf
      exact absurd (show (none : Option _) = some p from hf) (by simp)
    | succ n ih =>
      intro x6 p hf hk
      rw [f_X7_alikeFrom_L33] at hf
      refine V_iload 0 35 rfl dX7_alikeFrom_33 rfl ?_
      refine V_iload 1 37 rfl dX7_alikeFrom_35 rfl ?_
      refine V_icmp_ge 74 40 dX7_alikeFrom_37 (by decide) rfl (fun c11 => ?_) (fun c11 => ?_)
      · rw [if_pos c11] at hf
        have ep := Option.some.inj hf
        subst ep
        refine V_ls [(6, .int x6), (5, .int x5), (0, .ref t), (1, .int x1), (2, .int x2), (3, .int x3), (4, .int x4)] [0, 1, 2, 3, 4, 5, 6] rfl ?_
        exact hk
      · rw [if_neg c11] at hf
        refine V_aload_n 2 41 rfl dX7_alikeFrom_40 rfl rfl ?_
        obtain ⟨q13, h12, hf⟩ := ob hf
        refine V_getQ (n := 10) (ty := tyX7) 44 h12 cf_6 rfl wd_fl_X7_12 dX7_alikeFrom_41 rfl ?_
        refine V_iload_n 3 45 rfl dX7_alikeFrom_44 rfl rfl ?_
        refine V_iload_n 4 46 rfl dX7_alikeFrom_45 rfl rfl ?_
        refine V_iload 0 48 rfl dX7_alikeFrom_46 rfl ?_
        refine V_iadd 49 dX7_alikeFrom_48 rfl ?_
        obtain ⟨v15, h14, hf⟩ := ob hf
        refine V_callV (rest := []) (T := TX4) (n := 11) (ci := 3) 0 0 52 [.int v15] (c_X4_hairAt l G (d + 0) _ _ _ _ _ h14) (by omega) ok_X4_hairAt okv_X4_hairAt (gd_X4_hairAt h14) rfl wd_ml_X7_166 rfl rfl (Nat.le_of_ble_eq_true rfl) rfl rfl (Or.inl ⟨rfl, rfl⟩) dX7_alikeFrom_49 rfl rfl ?_
        refine V_aload_n 2 53 rfl dX7_alikeFrom_52 rfl rfl ?_
        obtain ⟨q17, h16, hf⟩ := ob hf
        refine V_getQ (n := 10) (ty := tyX7) 56 h16 cf_6 rfl wd_fl_X7_12 dX7_alikeFrom_53 rfl ?_
        refine V_iload_n 5 57 rfl dX7_alikeFrom_56 rfl rfl ?_
        refine V_iload 6 59 rfl dX7_alikeFrom_57 rfl ?_
        refine V_iload 0 61 rfl dX7_alikeFrom_59 rfl ?_
        refine V_iadd 62 dX7_alikeFrom_61 rfl ?_
        obtain ⟨v19, h18, hf⟩ := ob hf
        refine V_callV (rest := [.int v15]) (T := TX4) (n := 11) (ci := 3) 0 0 65 [.int v19, .int v15] (c_X4_hairAt l G (d + 0) _ _ _ _ _ h18) (by omega) ok_X4_hairAt okv_X4_hairAt (gd_X4_hairAt h18) rfl wd_ml_X7_166 rfl rfl (Nat.le_of_ble_eq_true rfl) rfl rfl (Or.inl ⟨rfl, rfl⟩) dX7_alikeFrom_62 rfl rfl ?_
        refine V_icmp_ne 74 68 dX7_alikeFrom_65 (by decide) rfl (fun c20 => ?_) (fun c20 => ?_)
        · rw [if_neg c20] at hf
          have ep := Option.some.inj hf
          subst ep
          refine V_ls [(6, .int x6), (5, .int x5), (0, .ref t), (1, .int x1), (2, .int x2), (3, .int x3), (4, .int x4)] [0, 1, 2, 3, 4, 5, 6] rfl ?_
          exact hk
        · rw [if_pos c20] at hf
          refine V_iinc (x6 + 1) 0 [(6, .int (x6 + 1)), (5, .int x5), (0, .ref t), (1, .int x1), (2, .int x2), (3, .int x3), (4, .int x4)] 71 dX7_alikeFrom_68 rfl (by rw [kiconst_1]) (by decide) rfl rfl ?_
          refine V_goto 33 dX7_alikeFrom_71 (by decide) ?_
          refine V_ls [(6, .int (x6 + 1)), (5, .int x5), (0, .ref t), (1, .int x1), (2, .int x2), (3, .int x3), (4, .int x4)] [0, 1, 2, 3, 4, 5, 6] rfl ?_
          exact ih _ _ hf hk
  by_cases hg : isO σ 6 t = true
  · rw [if_pos hg] at hf
    refine V_aload_n 0 1 rfl dX7_alikeFrom_0 rfl rfl ?_
    obtain ⟨q2, h1, hf⟩ := ob hf
    refine V_getQ (n := 10) (ty := tyX7) 4 h1 cf_6 rfl wd_fl_X7_12 dX7_alikeFrom_1 rfl ?_
    refine V_iload_n 1 5 rfl dX7_alikeFrom_4 rfl rfl ?_
    obtain ⟨v4, h3, hf⟩ := ob hf
    refine V_callV (rest := []) (T := TX4) (n := 11) (ci := 3) 0 0 8 [.int v4] (c_X4_size l G (d + 0) _ _ _ _ h3) (by omega) ok_X4_size okv_X4_size (gd_X4_size h3) rfl wd_ml_X7_163 rfl rfl (Nat.le_of_ble_eq_true rfl) rfl rfl (Or.inl ⟨rfl, rfl⟩) dX7_alikeFrom_5 rfl rfl ?_
    refine V_iconst 1 9 dX7_alikeFrom_8 rfl kiconst_1 ?_
    refine V_isub 10 dX7_alikeFrom_9 rfl ?_
    refine V_iload_n 2 11 rfl dX7_alikeFrom_10 rfl rfl ?_
    refine V_isub 12 dX7_alikeFrom_11 rfl ?_
    refine V_aload_n 0 13 rfl dX7_alikeFrom_12 rfl rfl ?_
    obtain ⟨q6, h5, hf⟩ := ob hf
    refine V_getQ (n := 10) (ty := tyX7) 16 h5 cf_6 rfl wd_fl_X7_12 dX7_alikeFrom_13 rfl ?_
    refine V_iload_n 3 17 rfl dX7_alikeFrom_16 rfl rfl ?_
    obtain ⟨v8, h7, hf⟩ := ob hf
    refine V_callV (rest := [.int ((v4 - 1) - a1)]) (T := TX4) (n := 11) (ci := 3) 0 0 20 [.int v8, .int ((v4 - 1) - a1)] (c_X4_size l G (d + 0) _ _ _ _ h7) (by omega) ok_X4_size okv_X4_size (gd_X4_size h7) rfl wd_ml_X7_163 rfl rfl (Nat.le_of_ble_eq_true rfl) rfl rfl (Or.inl ⟨rfl, rfl⟩) dX7_alikeFrom_17 rfl rfl ?_
    refine V_iconst 1 21 dX7_alikeFrom_20 rfl kiconst_1 ?_
    refine V_isub 22 dX7_alikeFrom_21 rfl ?_
    refine V_iload 4 24 rfl dX7_alikeFrom_22 rfl ?_
    refine V_isub 25 dX7_alikeFrom_24 rfl ?_
    obtain ⟨v10, h9, hf⟩ := ob hf
    refine V_callS (rest := []) 0 0 28 [.int v10] (c_J9_min_7cf53 l G (d + 1) _ _ _ _ h9) (by omega) ok_J9_min_7cf53 oks_J9_min_7cf53 wd_ml_X7_232 rfl rfl (Nat.le_of_ble_eq_true rfl) rfl rfl (Or.inl ⟨rfl, rfl⟩) dX7_alikeFrom_25 rfl rfl ?_
    refine V_istore [(5, .int v10), (0, .ref t), (1, .int a0), (2, .int a1), (3, .int a2), (4, .int a3)] 30 dX7_alikeFrom_28 (by decide) rfl rfl ?_
    refine V_iconst 0 31 dX7_alikeFrom_30 rfl kiconst_0 ?_
    refine V_istore [(6, .int 0), (5, .int v10), (0, .ref t), (1, .int a0), (2, .int a1), (3, .int a2), (4, .int a3)] 33 dX7_alikeFrom_31 (by decide) rfl rfl ?_
    obtain ⟨p21, h22, hf⟩ := ob hf
    refine V_ls [(6, .int 0), (5, .int v10), (0, .ref t), (1, .int a0), (2, .int a1), (3, .int a2), (4, .int a3)] [0, 1, 2, 3, 4, 5, 6] rfl ?_
    refine L33 v10 a0 a1 a2 a3 3000 0 p21 h22 ?_
    refine V_iload 0 76 rfl dX7_alikeFrom_74 rfl ?_
    have er := Option.some.inj hf
    subst er
    exact V_iret hQ rfl dX7_alikeFrom_76
  · rw [if_neg hg] at hf
    cases hf
abbrev mi_X7_same : MI := (yX7_same, cX7_same, 10, some .int)
theorem ok_X7_same : OkN mi_X7_same 3 := ⟨wd_cd_X7_same, wd_in_X7, ⟨by decide +kernel, by decide +kernel, by decide +kernel⟩, by decide⟩
theorem okv_X7_same : Cond.instanceMethod (mi_X7_same).1 ∈ tb ∧ Cond.selects (mi_X7_same).1.cls (mi_X7_same).1 (mi_X7_same).1 ∈ tb := ⟨wd_im_X7_same, wd_se_X7_same⟩
def f_X7_same_L55 (σ : St) (x7 : Int32) (t : Nat) (x1 : Int32) (x2 : Int32) : Nat → Int32 → Int32 → Int32 → Int32 → Option (Int32 × Int32 × Int32 × Int32)
  | 0, _, _, _, _ => none
  | n + 1, x8, x6, x5, x4 => (gQ σ 6 t 0).bind fun q15 => (f_X4_size σ q15 x2).bind fun v17 => if (v17 - 2) < x8 then (some (x8, x6, x5, x4)) else ((f_X7_alikeFrom σ t x1 x7 x2 x8).bind fun v20 => f_X7_same_L55 σ x7 t x1 x2 n (x8 + 1) (if v20 ≤ x4 then x6 else x8 : Int32) (if v20 ≤ x4 then x5 else x7 : Int32) (if v20 ≤ x4 then x4 else v20 : Int32))
def f_X7_same_L37 (σ : St) (t : Nat) (x1 : Int32) (x2 : Int32) : Nat → Int32 → Int32 → Int32 → Int32 → Option (Int32 × Int32 × Int32 × Int32)
  | 0, _, _, _, _ => none
  | n + 1, x7, x6, x5, x4 => (gQ σ 6 t 0).bind fun q10 => (f_X4_size σ q10 x1).bind fun v12 => if (v12 - 2) < x7 then (some (x7, x6, x5, x4)) else ((f_X7_same_L55 σ x7 t x1 x2 3000 1 x6 x5 x4).bind fun p23 => f_X7_same_L37 σ t x1 x2 n (x7 + 1) p23.2.1 p23.2.2.1 p23.2.2.2)
def f_X7_same (σ : St) (t : Nat) (a0 : Int32) (a1 : Int32) (a2 : Int32) : Option (Int32 × St) := if isO σ 6 t = true then ((f_X7_areTwo σ t a0 a1).bind fun v2 => if v2 = 0 then ((f_X7_fails σ t (-1000001)).bind fun p5 => some (p5.1, p5.2)) else ((f_X7_outside σ a2 0 2).bind fun v7 => if v7 = 0 then ((f_X7_same_L37 σ t a0 a1 3000 1 0 0 0).bind fun p25 => some ((if a2 = 0 then (p25.2.2.2) else (if a2 = 1 then (p25.2.2.1) else (p25.2.1)) : Int32), σ)) else ((f_X7_fails σ t (-1000001)).bind fun p31 => some (p31.1, p31.2)))) else none
theorem gd_X7_same {σ : St} {t : Nat} {a0 : Int32} {a1 : Int32} {a2 : Int32} {r : Int32 × St} (h : f_X7_same σ t a0 a1 a2 = some r) : isO σ 6 t = true := by
  unfold f_X7_same at h
  by_cases hg : isO σ 6 t = true
  · exact hg
  · rw [if_neg hg] at h
    cases h
set_option maxRecDepth 100000 in
set_option maxHeartbeats 4000000 in
theorem c_X7_same (l : Launch) (G : Gd) (d : Nat) (σ : St) (t : Nat) (a0 : Int32) (a1 : Int32) (a2 : Int32) (r0 : Int32) (σ' : St) (hf : f_X7_same σ t a0 a1 a2 = some (r0, σ')) : MetV l G (d + 4) mi_X7_same [.ref t, .int a0, .int a1, .int a2] σ (some (.int r0)) σ' 0 0 := by
  unfold f_X7_same at hf
  refine MetV.of [(0, .ref t), (1, .int a0), (2, .int a1), (3, .int a2)] (by decide +kernel) rfl (Nat.le_of_ble_eq_true rfl) ?_
  intro X hQ
  have L55 : ∀ (σ : St) (x7 : Int32) (x1 : Int32) (x2 : Int32) (x3 : Int32) (n : Nat) (x8 : Int32) (x6 : Int32) (x5 : Int32) (x4 : Int32) (p : Int32 × Int32 × Int32 × Int32), f_X7_same_L55 σ x7 t x1 x2 n x8 x6 x5 x4 = some p → V mi_X7_same l G (d + 4) 0 0 X 0 0 107 [(8, .int p.1), (7, .int x7), (6, .int p.2.1), (5, .int p.2.2.1), (4, .int p.2.2.2), (0, .ref t), (1, .int x1), (2, .int x2), (3, .int x3)] [] σ → V mi_X7_same l G (d + 4) 0 0 X 0 0 55 [(8, .int x8), (7, .int x7), (6, .int x6), (5, .int x5), (4, .int x4), (0, .ref t), (1, .int x1), (2, .int x2), (3, .int x3)] [] σ := by
    intro σ x7 x1 x2 x3 n
    induction n with
    | zero =>
      intro x8 x6 x5 x4 p hf
      exact absurd (show (none : Option _) = some p from hf) (by simp)
    | succ n ih =>
      intro x8 x6 x5 x4 p hf hk
      rw [f_X7_same_L55] at hf
      refine V_iload 0 57 rfl dX7_same_55 rfl ?_
      refine V_aload_n 5 58 rfl dX7_same_57 rfl rfl ?_
      obtain ⟨q15, h14, hf⟩ := ob hf
      refine V_getQ (n := 10) (ty := tyX7) 61 h14 cf_6 rfl wd_fl_X7_12 dX7_same_58 rfl ?_
      refine V_iload_n 7 62 rfl dX7_same_61 rfl rfl ?_
      obtain ⟨v17, h16, hf⟩ := ob hf
      refine V_callV (rest := [.int x8]) (T := TX4) (n := 11) (ci := 3) 0 0 65 [.int v17, .int x8] (c_X4_size l G (d + 1) _ _ _ _ h16) (by omega) ok_X4_size okv_X4_size (gd_X4_size h16) rfl wd_ml_X7_163 rfl rfl (Nat.le_of_ble_eq_true rfl) rfl rfl (Or.inl ⟨rfl, rfl⟩) dX7_same_62 rfl rfl ?_
      refine V_iconst 2 66 dX7_same_65 rfl kiconst_2 ?_
      refine V_isub 67 dX7_same_66 rfl ?_
      refine V_icmp_gt 107 70 dX7_same_67 (by decide) rfl (fun c18 => ?_) (fun c18 => ?_)
      · rw [if_pos c18] at hf
        have ep := Option.some.inj hf
        subst ep
        refine V_ls [(8, .int x8), (7, .int x7), (6, .int x6), (5, .int x5), (4, .int x4), (0, .ref t), (1, .int x1), (2, .int x2), (3, .int x3)] [0, 1, 2, 3, 4, 5, 6, 7, 8] rfl ?_
        exact hk
      · rw [if_neg c18] at hf
        refine V_aload_n 5 71 rfl dX7_same_70 rfl rfl ?_
        refine V_iload_n 6 72 rfl dX7_same_71 rfl rfl ?_
        refine V_iload 1 74 rfl dX7_same_72 rfl ?_
        refine V_iload_n 7 75 rfl dX7_same_74 rfl rfl ?_
        refine V_iload 0 77 rfl dX7_same_75 rfl ?_
        obtain ⟨v20, h19, hf⟩ := ob hf
        refine V_callV (rest := []) (T := TX7) (n := 10) (ci := 6) 0 0 80 [.int v20] (c_X7_alikeFrom l G (d + 0) _ _ _ _ _ _ _ h19) (by omega) ok_X7_alikeFrom okv_X7_alikeFrom (gd_X7_alikeFrom h19) rfl wd_ml_X7_214 rfl rfl (Nat.le_of_ble_eq_true rfl) rfl rfl (Or.inl ⟨rfl, rfl⟩) dX7_same_77 rfl rfl ?_
        refine V_istore [(9, .int v20), (8, .int x8), (7, .int x7), (6, .int x6), (5, .int x5), (4, .int x4), (0, .ref t), (1, .int x1), (2, .int x2), (3, .int x3)] 82 dX7_same_80 (by decide) rfl rfl ?_
        refine V_iload 0 84 rfl dX7_same_82 rfl ?_
        refine V_iload 5 86 rfl dX7_same_84 rfl ?_
        have kj21 : V mi_X7_same l G (d + 4) 0 0 X 0 0 101 [(9, .int v20), (8, .int x8), (7, .int x7), (6, .int (if v20 ≤ x4 then x6 else x8 : Int32)), (5, .int (if v20 ≤ x4 then x5 else x7 : Int32)), (4, .int (if v20 ≤ x4 then x4 else v20 : Int32)), (0, .ref t), (1, .int x1), (2, .int x2), (3, .int x3)] [] σ := by
          refine V_iinc (x8 + 1) 1 [(8, .int (x8 + 1)), (9, .int v20), (7, .int x7), (6, .int (if v20 ≤ x4 then x6 else x8 : Int32)), (5, .int (if v20 ≤ x4 then x5 else x7 : Int32)), (4, .int (if v20 ≤ x4 then x4 else v20 : Int32)), (0, .ref t), (1, .int x1), (2, .int x2), (3, .int x3)] 104 dX7_same_101 rfl (by rw [kiconst_1]) (by decide) rfl rfl ?_
          refine V_goto 55 dX7_same_104 (by decide) ?_
          refine V_ls [(8, .int (x8 + 1)), (7, .int x7), (6, .int (if v20 ≤ x4 then x6 else x8 : Int32)), (5, .int (if v20 ≤ x4 then x5 else x7 : Int32)), (4, .int (if v20 ≤ x4 then x4 else v20 : Int32)), (0, .ref t), (1, .int x1), (2, .int x2), (3, .int x3)] [0, 2, 3, 4, 5, 6, 7, 8, 9] rfl ?_
          exact ih _ _ _ _ _ hf hk
        refine V_icmp_le 101 89 dX7_same_86 (by decide) rfl (fun c22 => ?_) (fun c22 => ?_)
        · refine V_ls [(9, .int v20), (8, .int x8), (7, .int x7), (6, .int x6), (5, .int x5), (4, .int x4), (0, .ref t), (1, .int x1), (2, .int x2), (3, .int x3)] [0, 1, 2, 3, 4, 5, 6, 7, 8, 9] rfl ?_
          simp only [if_pos c22] at kj21
          exact kj21
        · refine V_iload 0 91 rfl dX7_same_89 rfl ?_
          refine V_istore [(4, .int v20), (9, .int v20), (8, .int x8), (7, .int x7), (6, .int x6), (5, .int x5), (0, .ref t), (1, .int x1), (2, .int x2), (3, .int x3)] 93 dX7_same_91 (by decide) rfl rfl ?_
          refine V_iload 3 95 rfl dX7_same_93 rfl ?_
          refine V_istore [(5, .int x7), (4, .int v20), (9, .int v20), (8, .int x8), (7, .int x7), (6, .int x6), (0, .ref t), (1, .int x1), (2, .int x2), (3, .int x3)] 97 dX7_same_95 (by decide) rfl rfl ?_
          refine V_iload 3 99 rfl dX7_same_97 rfl ?_
          refine V_istore [(6, .int x8), (5, .int x7), (4, .int v20), (9, .int v20), (8, .int x8), (7, .int x7), (0, .ref t), (1, .int x1), (2, .int x2), (3, .int x3)] 101 dX7_same_99 (by decide) rfl rfl ?_
          refine V_ls [(9, .int v20), (8, .int x8), (7, .int x7), (6, .int x8), (5, .int x7), (4, .int v20), (0, .ref t), (1, .int x1), (2, .int x2), (3, .int x3)] [3, 4, 5, 0, 1, 2, 6, 7, 8, 9] rfl ?_
          simp only [if_neg c22] at kj21
          exact kj21
  have L37 : ∀ (σ : St) (x1 : Int32) (x2 : Int32) (x3 : Int32) (n : Nat) (x7 : Int32) (x6 : Int32) (x5 : Int32) (x4 : Int32) (p : Int32 × Int32 × Int32 × Int32), f_X7_same_L37 σ t x1 x2 n x7 x6 x5 x4 = some p → V mi_X7_same l G (d + 4) 0 0 X 0 0 113 [(7, .int p.1), (6, .int p.2.1), (5, .int p.2.2.1), (4, .int p.2.2.2), (0, .ref t), (1, .int x1), (2, .int x2), (3, .int x3)] [] σ → V mi_X7_same l G (d + 4) 0 0 X 0 0 37 [(7, .int x7), (6, .int x6), (5, .int x5), (4, .int x4), (0, .ref t), (1, .int x1), (2, .int x2), (3, .int x3)] [] σ := by
    intro σ x1 x2 x3 n
    induction n with
    | zero =>
      intro x7 x6 x5 x4 p hf
      exact absurd (show (none : Option _) = some p from hf) (by simp)
    | succ n ih =>
      intro x7 x6 x5 x4 p hf hk
      rw [f_X7_same_L37] at hf
      refine V_iload 0 39 rfl dX7_same_37 rfl ?_
      refine V_aload_n 4 40 rfl dX7_same_39 rfl rfl ?_
      obtain ⟨q10, h9, hf⟩ := ob hf
      refine V_getQ (n := 10) (ty := tyX7) 43 h9 cf_6 rfl wd_fl_X7_12 dX7_same_40 rfl ?_
      refine V_iload_n 5 44 rfl dX7_same_43 rfl rfl ?_
      obtain ⟨v12, h11, hf⟩ := ob hf
      refine V_callV (rest := [.int x7]) (T := TX4) (n := 11) (ci := 3) 0 0 47 [.int v12, .int x7] (c_X4_size l G (d + 1) _ _ _ _ h11) (by omega) ok_X4_size okv_X4_size (gd_X4_size h11) rfl wd_ml_X7_163 rfl rfl (Nat.le_of_ble_eq_true rfl) rfl rfl (Or.inl ⟨rfl, rfl⟩) dX7_same_44 rfl rfl ?_
      refine V_iconst 2 48 dX7_same_47 rfl kiconst_2 ?_
      refine V_isub 49 dX7_same_48 rfl ?_
      refine V_icmp_gt 113 52 dX7_same_49 (by decide) rfl (fun c13 => ?_) (fun c13 => ?_)
      · rw [if_pos c13] at hf
        have ep := Option.some.inj hf
        subst ep
        refine V_ls [(7, .int x7), (6, .int x6), (5, .int x5), (4, .int x4), (0, .ref t), (1, .int x1), (2, .int x2), (3, .int x3)] [0, 1, 2, 3, 4, 5, 6, 7] rfl ?_
        exact hk
      · rw [if_neg c13] at hf
        refine V_iconst 1 53 dX7_same_52 rfl kiconst_1 ?_
        refine V_istore [(8, .int 1), (7, .int x7), (6, .int x6), (5, .int x5), (4, .int x4), (0, .ref t), (1, .int x1), (2, .int x2), (3, .int x3)] 55 dX7_same_53 (by decide) rfl rfl ?_
        obtain ⟨p23, h24, hf⟩ := ob hf
        refine V_ls [(8, .int 1), (7, .int x7), (6, .int x6), (5, .int x5), (4, .int x4), (0, .ref t), (1, .int x1), (2, .int x2), (3, .int x3)] [0, 1, 2, 3, 4, 5, 6, 7, 8] rfl ?_
        refine L55 σ x7 x1 x2 x3 3000 1 x6 x5 x4 p23 h24 ?_
        refine V_iinc (x7 + 1) 1 [(7, .int (x7 + 1)), (8, .int p23.1), (6, .int p23.2.1), (5, .int p23.2.2.1), (4, .int p23.2.2.2), (0, .ref t), (1, .int x1), (2, .int x2), (3, .int x3)] 110 dX7_same_107 rfl (by rw [kiconst_1]) (by decide) rfl rfl ?_
        refine V_goto 37 dX7_same_110 (by decide) ?_
        refine V_ls [(7, .int (x7 + 1)), (6, .int p23.2.1), (5, .int p23.2.2.1), (4, .int p23.2.2.2), (0, .ref t), (1, .int x1), (2, .int x2), (3, .int x3)] [0, 2, 3, 4, 5, 6, 7, 8] rfl ?_
        exact ih _ _ _ _ _ hf hk
  by_cases hg : isO σ 6 t = true
  · rw [if_pos hg] at hf
    refine V_aload_n 0 1 rfl dX7_same_0 rfl rfl ?_
    refine V_iload_n 1 2 rfl dX7_same_1 rfl rfl ?_
    refine V_iload_n 2 3 rfl dX7_same_2 rfl rfl ?_
    obtain ⟨v2, h1, hf⟩ := ob hf
    refine V_callV (rest := []) (T := TX7) (n := 10) (ci := 6) 0 0 6 [.int v2] (c_X7_areTwo l G (d + 1) _ _ _ _ _ h1) (by omega) ok_X7_areTwo okv_X7_areTwo (gd_X7_areTwo h1) rfl wd_ml_X7_211 rfl rfl (Nat.le_of_ble_eq_true rfl) rfl rfl (Or.inl ⟨rfl, rfl⟩) dX7_same_3 rfl rfl ?_
    refine V_if_eq 18 9 dX7_same_6 (by decide) rfl (fun c3 => ?_) (fun c3 => ?_)
    · rw [if_pos c3] at hf
      refine V_aload_n 0 19 rfl dX7_same_18 rfl rfl ?_
      refine V_ldc (-1000001) 21 dX7_same_19 rfl wd_kk_X7_67 ?_
      obtain ⟨p5, h4, hf⟩ := ob hf
      refine V_callV (rest := []) (T := TX7) (n := 10) (ci := 6) 0 0 24 [.int p5.1] (c_X7_fails l G (d + 1) _ _ _ _ _ h4) (by omega) ok_X7_fails okv_X7_fails (gd_X7_fails h4) rfl wd_ml_X7_68 rfl rfl (Nat.le_of_ble_eq_true rfl) rfl rfl (Or.inl ⟨rfl, rfl⟩) dX7_same_21 rfl rfl ?_
      have er := Option.some.inj hf
      obtain ⟨e1, e2⟩ := Prod.mk.inj er
      subst e1
      subst e2
      exact V_iret hQ rfl dX7_same_24
    · rw [if_neg c3] at hf
      refine V_iload_n 3 10 rfl dX7_same_9 rfl rfl ?_
      refine V_iconst 0 11 dX7_same_10 rfl kiconst_0 ?_
      refine V_iconst 2 12 dX7_same_11 rfl kiconst_2 ?_
      obtain ⟨v7, h6, hf⟩ := ob hf
      refine V_callS (rest := []) 0 0 15 [.int v7] (c_X7_outside l G (d + 2) _ _ _ _ _ h6) (by omega) ok_X7_outside oks_X7_outside wd_ml_X7_57 rfl rfl (Nat.le_of_ble_eq_true rfl) rfl rfl (Or.inl ⟨rfl, rfl⟩) dX7_same_12 rfl rfl ?_
      refine V_if_eq 25 18 dX7_same_15 (by decide) rfl (fun c8 => ?_) (fun c8 => ?_)
      · rw [if_pos c8] at hf
        refine V_iconst 0 26 dX7_same_25 rfl kiconst_0 ?_
        refine V_istore [(4, .int 0), (0, .ref t), (1, .int a0), (2, .int a1), (3, .int a2)] 28 dX7_same_26 (by decide) rfl rfl ?_
        refine V_iconst 0 29 dX7_same_28 rfl kiconst_0 ?_
        refine V_istore [(5, .int 0), (4, .int 0), (0, .ref t), (1, .int a0), (2, .int a1), (3, .int a2)] 31 dX7_same_29 (by decide) rfl rfl ?_
        refine V_iconst 0 32 dX7_same_31 rfl kiconst_0 ?_
        refine V_istore [(6, .int 0), (5, .int 0), (4, .int 0), (0, .ref t), (1, .int a0), (2, .int a1), (3, .int a2)] 34 dX7_same_32 (by decide) rfl rfl ?_
        refine V_iconst 1 35 dX7_same_34 rfl kiconst_1 ?_
        refine V_istore [(7, .int 1), (6, .int 0), (5, .int 0), (4, .int 0), (0, .ref t), (1, .int a0), (2, .int a1), (3, .int a2)] 37 dX7_same_35 (by decide) rfl rfl ?_
        obtain ⟨p25, h26, hf⟩ := ob hf
        refine V_ls [(7, .int 1), (6, .int 0), (5, .int 0), (4, .int 0), (0, .ref t), (1, .int a0), (2, .int a1), (3, .int a2)] [0, 1, 2, 3, 4, 5, 6, 7] rfl ?_
        refine L37 σ a0 a1 a2 3000 1 0 0 0 p25 h26 ?_
        refine V_iload_n 7 114 rfl dX7_same_113 rfl rfl ?_
        have kj27 : V mi_X7_same l G (d + 4) 0 0 X 0 0 134 [(7, .int p25.1), (6, .int p25.2.1), (5, .int p25.2.2.1), (4, .int p25.2.2.2), (0, .ref t), (1, .int a0), (2, .int a1), (3, .int a2)] [.int (if a2 = 0 then (p25.2.2.2) else (if a2 = 1 then (p25.2.2.1) else (p25.2.1)) : Int32)] σ := by
          have er := Option.some.inj hf
          obtain ⟨e1, e2⟩ := Prod.mk.inj er
          subst e1
          subst e2
          exact V_iret hQ rfl dX7_same_134
        refine V_if_ne 122 117 dX7_same_114 (by decide) rfl (fun c28 => ?_) (fun c28 => ?_)
        · refine V_iload_n 7 123 rfl dX7_same_122 rfl rfl ?_
          refine V_iconst 1 124 dX7_same_123 rfl kiconst_1 ?_
          refine V_icmp_ne 132 127 dX7_same_124 (by decide) rfl (fun c29 => ?_) (fun c29 => ?_)
          · refine V_iload 1 134 rfl dX7_same_132 rfl ?_
            refine V_ls [(7, .int p25.1), (6, .int p25.2.1), (5, .int p25.2.2.1), (4, .int p25.2.2.2), (0, .ref t), (1, .int a0), (2, .int a1), (3, .int a2)] [0, 1, 2, 3, 4, 5, 6, 7] rfl ?_
            simp only [if_neg c28, if_neg c29] at kj27
            exact kj27
          · refine V_iload 2 129 rfl dX7_same_127 rfl ?_
            refine V_goto 134 dX7_same_129 (by decide) ?_
            refine V_ls [(7, .int p25.1), (6, .int p25.2.1), (5, .int p25.2.2.1), (4, .int p25.2.2.2), (0, .ref t), (1, .int a0), (2, .int a1), (3, .int a2)] [0, 1, 2, 3, 4, 5, 6, 7] rfl ?_
            simp only [if_neg c28, if_pos c29] at kj27
            exact kj27
        · refine V_iload 3 119 rfl dX7_same_117 rfl ?_
          refine V_goto 134 dX7_same_119 (by decide) ?_
          refine V_ls [(7, .int p25.1), (6, .int p25.2.1), (5, .int p25.2.2.1), (4, .int p25.2.2.2), (0, .ref t), (1, .int a0), (2, .int a1), (3, .int a2)] [0, 1, 2, 3, 4, 5, 6, 7] rfl ?_
          simp only [if_pos c28] at kj27
          exact kj27
      · rw [if_neg c8] at hf
        refine V_aload_n 0 19 rfl dX7_same_18 rfl rfl ?_
        refine V_ldc (-1000001) 21 dX7_same_19 rfl wd_kk_X7_67 ?_
        obtain ⟨p31, h30, hf⟩ := ob hf
        refine V_callV (rest := []) (T := TX7) (n := 10) (ci := 6) 0 0 24 [.int p31.1] (c_X7_fails l G (d + 1) _ _ _ _ _ h30) (by omega) ok_X7_fails okv_X7_fails (gd_X7_fails h30) rfl wd_ml_X7_68 rfl rfl (Nat.le_of_ble_eq_true rfl) rfl rfl (Or.inl ⟨rfl, rfl⟩) dX7_same_21 rfl rfl ?_
        have er := Option.some.inj hf
        obtain ⟨e1, e2⟩ := Prod.mk.inj er
        subst e1
        subst e2
        exact V_iret hQ rfl dX7_same_24
  · rw [if_neg hg] at hf
    cases hf
abbrev mi_X7_bent : MI := (yX7_bent, cX7_bent, 6, some .int)
theorem ok_X7_bent : OkN mi_X7_bent 4 := ⟨wd_cd_X7_bent, wd_in_X7, ⟨by decide +kernel, by decide +kernel, by decide +kernel⟩, by decide⟩
theorem okv_X7_bent : Cond.instanceMethod (mi_X7_bent).1 ∈ tb ∧ Cond.selects (mi_X7_bent).1.cls (mi_X7_bent).1 (mi_X7_bent).1 ∈ tb := ⟨wd_im_X7_bent, wd_se_X7_bent⟩
def f_X7_bent (σ : St) (t : Nat) (a0 : Int32) (a1 : Int32) (a2 : Int32) (a3 : Int32) : Option (Int32 × St) := if isO σ 6 t = true then ((f_X7_areTwo σ t a0 a1).bind fun v2 => if v2 = 0 then ((f_X7_fails σ t (-1000001)).bind fun p5 => some (p5.1, p5.2)) else ((f_X7_isFactor σ a2).bind fun v7 => if v7 = 0 then ((f_X7_fails σ t (-1000001)).bind fun p10 => some (p10.1, p10.2)) else ((f_X7_outside σ a3 0 5).bind fun v12 => if v12 = 0 then (if a3 = 0 then ((gQ σ 6 t 0).bind fun q25 => (f_X0_howMany σ q25 a0 a1 a2).bind fun v27 => some (v27, σ)) else ((gQ σ 6 t 0).bind fun q16 => (f_X0_first σ q16 a0 a1 a2).bind fun v18 => if 0 ≤ v18 then ((f_X0_part σ v18 a3).bind fun v21 => some (v21, σ)) else ((f_X7_fails σ t (-1000002)).bind fun p23 => some (p23.1, p23.2)))) else ((f_X7_fails σ t (-1000001)).bind fun p29 => some (p29.1, p29.2))))) else none
theorem gd_X7_bent {σ : St} {t : Nat} {a0 : Int32} {a1 : Int32} {a2 : Int32} {a3 : Int32} {r : Int32 × St} (h : f_X7_bent σ t a0 a1 a2 a3 = some r) : isO σ 6 t = true := by
  unfold f_X7_bent at h
  by_cases hg : isO σ 6 t = true
  · exact hg
  · rw [if_neg hg] at h
    cases h
set_option maxRecDepth 100000 in
set_option maxHeartbeats 4000000 in
theorem c_X7_bent (l : Launch) (G : Gd) (d : Nat) (σ : St) (t : Nat) (a0 : Int32) (a1 : Int32) (a2 : Int32) (a3 : Int32) (r0 : Int32) (σ' : St) (hf : f_X7_bent σ t a0 a1 a2 a3 = some (r0, σ')) : MetV l G (d + 5) mi_X7_bent [.ref t, .int a0, .int a1, .int a2, .int a3] σ (some (.int r0)) σ' 0 0 := by
  unfold f_X7_bent at hf
  refine MetV.of [(0, .ref t), (1, .int a0), (2, .int a1), (3, .int a2), (4, .int a3)] (by decide +kernel) rfl (Nat.le_of_ble_eq_true rfl) ?_
  intro X hQ
  by_cases hg : isO σ 6 t = true
  · rw [if_pos hg] at hf
    refine V_aload_n 0 1 rfl dX7_bent_0 rfl rfl ?_
    refine V_iload_n 1 2 rfl dX7_bent_1 rfl rfl ?_
    refine V_iload_n 2 3 rfl dX7_bent_2 rfl rfl ?_
    obtain ⟨v2, h1, hf⟩ := ob hf
    refine V_callV (rest := []) (T := TX7) (n := 10) (ci := 6) 0 0 6 [.int v2] (c_X7_areTwo l G (d + 2) _ _ _ _ _ h1) (by omega) ok_X7_areTwo okv_X7_areTwo (gd_X7_areTwo h1) rfl wd_ml_X7_211 rfl rfl (Nat.le_of_ble_eq_true rfl) rfl rfl (Or.inl ⟨rfl, rfl⟩) dX7_bent_3 rfl rfl ?_
    refine V_if_eq 26 9 dX7_bent_6 (by decide) rfl (fun c3 => ?_) (fun c3 => ?_)
    · rw [if_pos c3] at hf
      refine V_aload_n 0 27 rfl dX7_bent_26 rfl rfl ?_
      refine V_ldc (-1000001) 29 dX7_bent_27 rfl wd_kk_X7_67 ?_
      obtain ⟨p5, h4, hf⟩ := ob hf
      refine V_callV (rest := []) (T := TX7) (n := 10) (ci := 6) 0 0 32 [.int p5.1] (c_X7_fails l G (d + 2) _ _ _ _ _ h4) (by omega) ok_X7_fails okv_X7_fails (gd_X7_fails h4) rfl wd_ml_X7_68 rfl rfl (Nat.le_of_ble_eq_true rfl) rfl rfl (Or.inl ⟨rfl, rfl⟩) dX7_bent_29 rfl rfl ?_
      have er := Option.some.inj hf
      obtain ⟨e1, e2⟩ := Prod.mk.inj er
      subst e1
      subst e2
      exact V_iret hQ rfl dX7_bent_32
    · rw [if_neg c3] at hf
      refine V_iload_n 3 10 rfl dX7_bent_9 rfl rfl ?_
      obtain ⟨v7, h6, hf⟩ := ob hf
      refine V_callS (rest := []) 0 0 13 [.int v7] (c_X7_isFactor l G (d + 2) _ _ _ h6) (by omega) ok_X7_isFactor oks_X7_isFactor wd_ml_X7_149 rfl rfl (Nat.le_of_ble_eq_true rfl) rfl rfl (Or.inl ⟨rfl, rfl⟩) dX7_bent_10 rfl rfl ?_
      refine V_if_eq 26 16 dX7_bent_13 (by decide) rfl (fun c8 => ?_) (fun c8 => ?_)
      · rw [if_pos c8] at hf
        refine V_aload_n 0 27 rfl dX7_bent_26 rfl rfl ?_
        refine V_ldc (-1000001) 29 dX7_bent_27 rfl wd_kk_X7_67 ?_
        obtain ⟨p10, h9, hf⟩ := ob hf
        refine V_callV (rest := []) (T := TX7) (n := 10) (ci := 6) 0 0 32 [.int p10.1] (c_X7_fails l G (d + 2) _ _ _ _ _ h9) (by omega) ok_X7_fails okv_X7_fails (gd_X7_fails h9) rfl wd_ml_X7_68 rfl rfl (Nat.le_of_ble_eq_true rfl) rfl rfl (Or.inl ⟨rfl, rfl⟩) dX7_bent_29 rfl rfl ?_
        have er := Option.some.inj hf
        obtain ⟨e1, e2⟩ := Prod.mk.inj er
        subst e1
        subst e2
        exact V_iret hQ rfl dX7_bent_32
      · rw [if_neg c8] at hf
        refine V_iload 4 18 rfl dX7_bent_16 rfl ?_
        refine V_iconst 0 19 dX7_bent_18 rfl kiconst_0 ?_
        refine V_iconst 5 20 dX7_bent_19 rfl kiconst_5 ?_
        obtain ⟨v12, h11, hf⟩ := ob hf
        refine V_callS (rest := []) 0 0 23 [.int v12] (c_X7_outside l G (d + 3) _ _ _ _ _ h11) (by omega) ok_X7_outside oks_X7_outside wd_ml_X7_57 rfl rfl (Nat.le_of_ble_eq_true rfl) rfl rfl (Or.inl ⟨rfl, rfl⟩) dX7_bent_20 rfl rfl ?_
        refine V_if_eq 33 26 dX7_bent_23 (by decide) rfl (fun c13 => ?_) (fun c13 => ?_)
        · rw [if_pos c13] at hf
          refine V_iload 4 35 rfl dX7_bent_33 rfl ?_
          refine V_if_ne 49 38 dX7_bent_35 (by decide) rfl (fun c14 => ?_) (fun c14 => ?_)
          · rw [if_neg c14] at hf
            refine V_aload_n 0 50 rfl dX7_bent_49 rfl rfl ?_
            obtain ⟨q16, h15, hf⟩ := ob hf
            refine V_getQ (n := 10) (ty := tyX7) 53 h15 cf_6 rfl wd_fl_X7_12 dX7_bent_50 rfl ?_
            refine V_iload_n 1 54 rfl dX7_bent_53 rfl rfl ?_
            refine V_iload_n 2 55 rfl dX7_bent_54 rfl rfl ?_
            refine V_iload_n 3 56 rfl dX7_bent_55 rfl rfl ?_
            obtain ⟨v18, h17, hf⟩ := ob hf
            refine V_callS (rest := []) 0 0 59 [.int v18] (c_X0_first l G (d + 0) _ _ _ _ _ _ h17) (by omega) ok_X0_first oks_X0_first wd_ml_X7_223 rfl rfl (Nat.le_of_ble_eq_true rfl) rfl rfl (Or.inl ⟨rfl, rfl⟩) dX7_bent_56 rfl rfl ?_
            refine V_istore [(5, .int v18), (0, .ref t), (1, .int a0), (2, .int a1), (3, .int a2), (4, .int a3)] 61 dX7_bent_59 (by decide) rfl rfl ?_
            refine V_iload 0 63 rfl dX7_bent_61 rfl ?_
            refine V_if_ge 75 66 dX7_bent_63 (by decide) rfl (fun c19 => ?_) (fun c19 => ?_)
            · rw [if_pos c19] at hf
              refine V_iload 0 77 rfl dX7_bent_75 rfl ?_
              refine V_iload 5 79 rfl dX7_bent_77 rfl ?_
              obtain ⟨v21, h20, hf⟩ := ob hf
              refine V_callS (rest := []) 0 0 82 [.int v21] (c_X0_part l G (d + 3) _ _ _ _ h20) (by omega) ok_X0_part oks_X0_part wd_ml_X7_226 rfl rfl (Nat.le_of_ble_eq_true rfl) rfl rfl (Or.inl ⟨rfl, rfl⟩) dX7_bent_79 rfl rfl ?_
              have er := Option.some.inj hf
              obtain ⟨e1, e2⟩ := Prod.mk.inj er
              subst e1
              subst e2
              exact V_iret hQ rfl dX7_bent_82
            · rw [if_neg c19] at hf
              refine V_aload_n 1 67 rfl dX7_bent_66 rfl rfl ?_
              refine V_ldc (-1000002) 69 dX7_bent_67 rfl wd_kk_X7_117 ?_
              obtain ⟨p23, h22, hf⟩ := ob hf
              refine V_callV (rest := []) (T := TX7) (n := 10) (ci := 6) 0 0 72 [.int p23.1] (c_X7_fails l G (d + 2) _ _ _ _ _ h22) (by omega) ok_X7_fails okv_X7_fails (gd_X7_fails h22) rfl wd_ml_X7_68 rfl rfl (Nat.le_of_ble_eq_true rfl) rfl rfl (Or.inl ⟨rfl, rfl⟩) dX7_bent_69 rfl rfl ?_
              refine V_goto 82 dX7_bent_72 (by decide) ?_
              have er := Option.some.inj hf
              obtain ⟨e1, e2⟩ := Prod.mk.inj er
              subst e1
              subst e2
              exact V_iret hQ rfl dX7_bent_82
          · rw [if_pos c14] at hf
            refine V_aload_n 0 39 rfl dX7_bent_38 rfl rfl ?_
            obtain ⟨q25, h24, hf⟩ := ob hf
            refine V_getQ (n := 10) (ty := tyX7) 42 h24 cf_6 rfl wd_fl_X7_12 dX7_bent_39 rfl ?_
            refine V_iload_n 1 43 rfl dX7_bent_42 rfl rfl ?_
            refine V_iload_n 2 44 rfl dX7_bent_43 rfl rfl ?_
            refine V_iload_n 3 45 rfl dX7_bent_44 rfl rfl ?_
            obtain ⟨v27, h26, hf⟩ := ob hf
            refine V_callS (rest := []) 0 0 48 [.int v27] (c_X0_howMany l G (d + 0) _ _ _ _ _ _ h26) (by omega) ok_X0_howMany oks_X0_howMany wd_ml_X7_217 rfl rfl (Nat.le_of_ble_eq_true rfl) rfl rfl (Or.inl ⟨rfl, rfl⟩) dX7_bent_45 rfl rfl ?_
            have er := Option.some.inj hf
            obtain ⟨e1, e2⟩ := Prod.mk.inj er
            subst e1
            subst e2
            exact V_iret hQ rfl dX7_bent_48
        · rw [if_neg c13] at hf
          refine V_aload_n 0 27 rfl dX7_bent_26 rfl rfl ?_
          refine V_ldc (-1000001) 29 dX7_bent_27 rfl wd_kk_X7_67 ?_
          obtain ⟨p29, h28, hf⟩ := ob hf
          refine V_callV (rest := []) (T := TX7) (n := 10) (ci := 6) 0 0 32 [.int p29.1] (c_X7_fails l G (d + 2) _ _ _ _ _ h28) (by omega) ok_X7_fails okv_X7_fails (gd_X7_fails h28) rfl wd_ml_X7_68 rfl rfl (Nat.le_of_ble_eq_true rfl) rfl rfl (Or.inl ⟨rfl, rfl⟩) dX7_bent_29 rfl rfl ?_
          have er := Option.some.inj hf
          obtain ⟨e1, e2⟩ := Prod.mk.inj er
          subst e1
          subst e2
          exact V_iret hQ rfl dX7_bent_32
  · rw [if_neg hg] at hf
    cases hf
abbrev mi_X7_pairs : MI := (yX7_pairs, cX7_pairs, 5, some .int)
theorem ok_X7_pairs : OkN mi_X7_pairs 1 := ⟨wd_cd_X7_pairs, wd_in_X7, ⟨by decide +kernel, by decide +kernel, by decide +kernel⟩, by decide⟩
theorem okv_X7_pairs : Cond.instanceMethod (mi_X7_pairs).1 ∈ tb ∧ Cond.selects (mi_X7_pairs).1.cls (mi_X7_pairs).1 (mi_X7_pairs).1 ∈ tb := ⟨wd_im_X7_pairs, wd_se_X7_pairs⟩
def f_X7_pairs_L35 (σ : St) (x3 : Int32) (t : Nat) (x1 : Int32) : Nat → Int32 → Int32 → Option (Int32 × Int32)
  | 0, _, _ => none
  | n + 1, x4, x2 => (gQ σ 6 t 0).bind fun q12 => (gQ σ 3 q12 2).bind fun q14 => (gI σ 4 q14 3).bind fun v16 => if v16 ≤ x4 then (some (x4, x2)) else (if x3 = x4 then (f_X7_pairs_L35 σ x3 t x1 n (x4 + 1) x2) else ((gQ σ 6 t 0).bind fun q20 => (f_X0_first σ q20 x3 x4 x1).bind fun v22 => if v22 < 0 then (f_X7_pairs_L35 σ x3 t x1 n (x4 + 1) x2) else (f_X7_pairs_L35 σ x3 t x1 n (x4 + 1) (x2 + 1))))
def f_X7_pairs_L18 (σ : St) (t : Nat) (x1 : Int32) : Nat → Int32 → Int32 → Option (Int32 × Int32)
  | 0, _, _ => none
  | n + 1, x3, x2 => (gQ σ 6 t 0).bind fun q5 => (gQ σ 3 q5 2).bind fun q7 => (gI σ 4 q7 3).bind fun v9 => if v9 ≤ x3 then (some (x3, x2)) else ((f_X7_pairs_L35 σ x3 t x1 3000 0 x2).bind fun p24 => f_X7_pairs_L18 σ t x1 n (x3 + 1) p24.2)
def f_X7_pairs (σ : St) (t : Nat) (a0 : Int32) : Option (Int32 × St) := if isO σ 6 t = true then ((f_X7_isFactor σ a0).bind fun v2 => if v2 = 0 then ((f_X7_fails σ t (-1000001)).bind fun p29 => some (p29.1, p29.2)) else ((f_X7_pairs_L18 σ t a0 3000 0 0).bind fun p26 => some (p26.2, σ))) else none
theorem gd_X7_pairs {σ : St} {t : Nat} {a0 : Int32} {r : Int32 × St} (h : f_X7_pairs σ t a0 = some r) : isO σ 6 t = true := by
  unfold f_X7_pairs at h
  by_cases hg : isO σ 6 t = true
  · exact hg
  · rw [if_neg hg] at h
    cases h
set_option maxRecDepth 100000 in
set_option maxHeartbeats 4000000 in
theorem c_X7_pairs (l : Launch) (G : Gd) (d : Nat) (σ : St) (t : Nat) (a0 : Int32) (r0 : Int32) (σ' : St) (hf : f_X7_pairs σ t a0 = some (r0, σ')) : MetV l G (d + 5) mi_X7_pairs [.ref t, .int a0] σ (some (.int r0)) σ' 0 0 := by
  unfold f_X7_pairs at hf
  refine MetV.of [(0, .ref t), (1, .int a0)] (by decide +kernel) rfl (Nat.le_of_ble_eq_true rfl) ?_
  intro X hQ
  have L35 : ∀ (σ : St) (x3 : Int32) (x1 : Int32) (n : Nat) (x4 : Int32) (x2 : Int32) (p : Int32 × Int32), f_X7_pairs_L35 σ x3 t x1 n x4 x2 = some p → V mi_X7_pairs l G (d + 5) 0 0 X 0 0 79 [(4, .int p.1), (3, .int x3), (2, .int p.2), (0, .ref t), (1, .int x1)] [] σ → V mi_X7_pairs l G (d + 5) 0 0 X 0 0 35 [(4, .int x4), (3, .int x3), (2, .int x2), (0, .ref t), (1, .int x1)] [] σ := by
    intro σ x3 x1 n
    induction n with
    | zero =>
      intro x4 x2 p hf
      exact absurd (show (none : Option _) = some p from hf) (by simp)
    | succ n ih =>
      intro x4 x2 p hf hk
      rw [f_X7_pairs_L35] at hf
      refine V_iload 0 37 rfl dX7_pairs_35 rfl ?_
      refine V_aload_n 3 38 rfl dX7_pairs_37 rfl rfl ?_
      obtain ⟨q12, h11, hf⟩ := ob hf
      refine V_getQ (n := 10) (ty := tyX7) 41 h11 cf_6 rfl wd_fl_X7_12 dX7_pairs_38 rfl ?_
      obtain ⟨q14, h13, hf⟩ := ob hf
      refine V_getQ (n := 11) (ty := tyX4) 44 h13 cf_3 rfl wd_fl_X7_126 dX7_pairs_41 rfl ?_
      obtain ⟨v16, h15, hf⟩ := ob hf
      refine V_getI (n := 4) (ty := tyX5) 47 h15 cf_4 rfl wd_fl_X7_229 dX7_pairs_44 rfl ?_
      refine V_icmp_ge 79 50 dX7_pairs_47 (by decide) rfl (fun c17 => ?_) (fun c17 => ?_)
      · rw [if_pos c17] at hf
        have ep := Option.some.inj hf
        subst ep
        refine V_ls [(4, .int x4), (3, .int x3), (2, .int x2), (0, .ref t), (1, .int x1)] [0, 1, 2, 3, 4] rfl ?_
        exact hk
      · rw [if_neg c17] at hf
        refine V_iload_n 1 51 rfl dX7_pairs_50 rfl rfl ?_
        refine V_iload 0 53 rfl dX7_pairs_51 rfl ?_
        refine V_icmp_eq 73 56 dX7_pairs_53 (by decide) rfl (fun c18 => ?_) (fun c18 => ?_)
        · rw [if_pos c18] at hf
          refine V_iinc (x4 + 1) 0 [(4, .int (x4 + 1)), (3, .int x3), (2, .int x2), (0, .ref t), (1, .int x1)] 76 dX7_pairs_73 rfl (by rw [kiconst_1]) (by decide) rfl rfl ?_
          refine V_goto 35 dX7_pairs_76 (by decide) ?_
          refine V_ls [(4, .int (x4 + 1)), (3, .int x3), (2, .int x2), (0, .ref t), (1, .int x1)] [0, 1, 2, 3, 4] rfl ?_
          exact ih _ _ _ hf hk
        · rw [if_neg c18] at hf
          refine V_aload_n 3 57 rfl dX7_pairs_56 rfl rfl ?_
          obtain ⟨q20, h19, hf⟩ := ob hf
          refine V_getQ (n := 10) (ty := tyX7) 60 h19 cf_6 rfl wd_fl_X7_12 dX7_pairs_57 rfl ?_
          refine V_iload_n 1 61 rfl dX7_pairs_60 rfl rfl ?_
          refine V_iload 0 63 rfl dX7_pairs_61 rfl ?_
          refine V_iload_n 4 64 rfl dX7_pairs_63 rfl rfl ?_
          obtain ⟨v22, h21, hf⟩ := ob hf
          refine V_callS (rest := []) 0 0 67 [.int v22] (c_X0_first l G (d + 0) _ _ _ _ _ _ h21) (by omega) ok_X0_first oks_X0_first wd_ml_X7_223 rfl rfl (Nat.le_of_ble_eq_true rfl) rfl rfl (Or.inl ⟨rfl, rfl⟩) dX7_pairs_64 rfl rfl ?_
          refine V_if_lt 73 70 dX7_pairs_67 (by decide) rfl (fun c23 => ?_) (fun c23 => ?_)
          · rw [if_pos c23] at hf
            refine V_iinc (x4 + 1) 0 [(4, .int (x4 + 1)), (3, .int x3), (2, .int x2), (0, .ref t), (1, .int x1)] 76 dX7_pairs_73 rfl (by rw [kiconst_1]) (by decide) rfl rfl ?_
            refine V_goto 35 dX7_pairs_76 (by decide) ?_
            refine V_ls [(4, .int (x4 + 1)), (3, .int x3), (2, .int x2), (0, .ref t), (1, .int x1)] [0, 1, 2, 3, 4] rfl ?_
            exact ih _ _ _ hf hk
          · rw [if_neg c23] at hf
            refine V_iinc (x2 + 1) 2 [(2, .int (x2 + 1)), (4, .int x4), (3, .int x3), (0, .ref t), (1, .int x1)] 73 dX7_pairs_70 rfl (by rw [kiconst_1]) (by decide) rfl rfl ?_
            refine V_iinc (x4 + 1) 1 [(4, .int (x4 + 1)), (2, .int (x2 + 1)), (3, .int x3), (0, .ref t), (1, .int x1)] 76 dX7_pairs_73 rfl (by rw [kiconst_1]) (by decide) rfl rfl ?_
            refine V_goto 35 dX7_pairs_76 (by decide) ?_
            refine V_ls [(4, .int (x4 + 1)), (3, .int x3), (2, .int (x2 + 1)), (0, .ref t), (1, .int x1)] [0, 2, 1, 3, 4] rfl ?_
            exact ih _ _ _ hf hk
  have L18 : ∀ (σ : St) (x1 : Int32) (n : Nat) (x3 : Int32) (x2 : Int32) (p : Int32 × Int32), f_X7_pairs_L18 σ t x1 n x3 x2 = some p → V mi_X7_pairs l G (d + 5) 0 0 X 0 0 85 [(3, .int p.1), (2, .int p.2), (0, .ref t), (1, .int x1)] [] σ → V mi_X7_pairs l G (d + 5) 0 0 X 0 0 18 [(3, .int x3), (2, .int x2), (0, .ref t), (1, .int x1)] [] σ := by
    intro σ x1 n
    induction n with
    | zero =>
      intro x3 x2 p hf
      exact absurd (show (none : Option _) = some p from hf) (by simp)
    | succ n ih =>
      intro x3 x2 p hf hk
      rw [f_X7_pairs_L18] at hf
      refine V_iload_n 0 19 rfl dX7_pairs_18 rfl rfl ?_
      refine V_aload_n 2 20 rfl dX7_pairs_19 rfl rfl ?_
      obtain ⟨q5, h4, hf⟩ := ob hf
      refine V_getQ (n := 10) (ty := tyX7) 23 h4 cf_6 rfl wd_fl_X7_12 dX7_pairs_20 rfl ?_
      obtain ⟨q7, h6, hf⟩ := ob hf
      refine V_getQ (n := 11) (ty := tyX4) 26 h6 cf_3 rfl wd_fl_X7_126 dX7_pairs_23 rfl ?_
      obtain ⟨v9, h8, hf⟩ := ob hf
      refine V_getI (n := 4) (ty := tyX5) 29 h8 cf_4 rfl wd_fl_X7_229 dX7_pairs_26 rfl ?_
      refine V_icmp_ge 85 32 dX7_pairs_29 (by decide) rfl (fun c10 => ?_) (fun c10 => ?_)
      · rw [if_pos c10] at hf
        have ep := Option.some.inj hf
        subst ep
        refine V_ls [(3, .int x3), (2, .int x2), (0, .ref t), (1, .int x1)] [0, 1, 2, 3] rfl ?_
        exact hk
      · rw [if_neg c10] at hf
        refine V_iconst 0 33 dX7_pairs_32 rfl kiconst_0 ?_
        refine V_istore [(4, .int 0), (3, .int x3), (2, .int x2), (0, .ref t), (1, .int x1)] 35 dX7_pairs_33 (by decide) rfl rfl ?_
        obtain ⟨p24, h25, hf⟩ := ob hf
        refine V_ls [(4, .int 0), (3, .int x3), (2, .int x2), (0, .ref t), (1, .int x1)] [0, 1, 2, 3, 4] rfl ?_
        refine L35 σ x3 x1 3000 0 x2 p24 h25 ?_
        refine V_iinc (x3 + 1) 1 [(3, .int (x3 + 1)), (4, .int p24.1), (2, .int p24.2), (0, .ref t), (1, .int x1)] 82 dX7_pairs_79 rfl (by rw [kiconst_1]) (by decide) rfl rfl ?_
        refine V_goto 18 dX7_pairs_82 (by decide) ?_
        refine V_ls [(3, .int (x3 + 1)), (2, .int p24.2), (0, .ref t), (1, .int x1)] [0, 2, 3, 4] rfl ?_
        exact ih _ _ _ hf hk
  by_cases hg : isO σ 6 t = true
  · rw [if_pos hg] at hf
    refine V_iload_n 1 1 rfl dX7_pairs_0 rfl rfl ?_
    obtain ⟨v2, h1, hf⟩ := ob hf
    refine V_callS (rest := []) 0 0 4 [.int v2] (c_X7_isFactor l G (d + 2) _ _ _ h1) (by omega) ok_X7_isFactor oks_X7_isFactor wd_ml_X7_149 rfl rfl (Nat.le_of_ble_eq_true rfl) rfl rfl (Or.inl ⟨rfl, rfl⟩) dX7_pairs_1 rfl rfl ?_
    refine V_if_ne 14 7 dX7_pairs_4 (by decide) rfl (fun c3 => ?_) (fun c3 => ?_)
    · rw [if_neg c3] at hf
      refine V_iconst 0 15 dX7_pairs_14 rfl kiconst_0 ?_
      refine V_istore_n [(2, .int 0), (0, .ref t), (1, .int a0)] 16 dX7_pairs_15 rfl (by decide) rfl rfl ?_
      refine V_iconst 0 17 dX7_pairs_16 rfl kiconst_0 ?_
      refine V_istore_n [(3, .int 0), (2, .int 0), (0, .ref t), (1, .int a0)] 18 dX7_pairs_17 rfl (by decide) rfl rfl ?_
      obtain ⟨p26, h27, hf⟩ := ob hf
      refine V_ls [(3, .int 0), (2, .int 0), (0, .ref t), (1, .int a0)] [0, 1, 2, 3] rfl ?_
      refine L18 σ a0 3000 0 0 p26 h27 ?_
      refine V_iload_n 1 86 rfl dX7_pairs_85 rfl rfl ?_
      have er := Option.some.inj hf
      obtain ⟨e1, e2⟩ := Prod.mk.inj er
      subst e1
      subst e2
      exact V_iret hQ rfl dX7_pairs_86
    · rw [if_pos c3] at hf
      refine V_aload_n 0 8 rfl dX7_pairs_7 rfl rfl ?_
      refine V_ldc (-1000001) 10 dX7_pairs_8 rfl wd_kk_X7_67 ?_
      obtain ⟨p29, h28, hf⟩ := ob hf
      refine V_callV (rest := []) (T := TX7) (n := 10) (ci := 6) 0 0 13 [.int p29.1] (c_X7_fails l G (d + 2) _ _ _ _ _ h28) (by omega) ok_X7_fails okv_X7_fails (gd_X7_fails h28) rfl wd_ml_X7_68 rfl rfl (Nat.le_of_ble_eq_true rfl) rfl rfl (Or.inl ⟨rfl, rfl⟩) dX7_pairs_10 rfl rfl ?_
      have er := Option.some.inj hf
      obtain ⟨e1, e2⟩ := Prod.mk.inj er
      subst e1
      subst e2
      exact V_iret hQ rfl dX7_pairs_13
  · rw [if_neg hg] at hf
    cases hf
abbrev mi_X7_prints : MI := (yX7_prints, cX7_prints, 7, some .int)
theorem ok_X7_prints : OkN mi_X7_prints 3 := ⟨wd_cd_X7_prints, wd_in_X7, ⟨by decide +kernel, by decide +kernel, by decide +kernel⟩, by decide⟩
theorem okv_X7_prints : Cond.instanceMethod (mi_X7_prints).1 ∈ tb ∧ Cond.selects (mi_X7_prints).1.cls (mi_X7_prints).1 (mi_X7_prints).1 ∈ tb := ⟨wd_im_X7_prints, wd_se_X7_prints⟩
def f_X7_prints_L54 (σ : St) (x5 : Int32) (t : Nat) (x1 : Int32) (x2 : Int32) (x3 : Int32) : Nat → Int32 → Int32 → Option (Int32 × Int32)
  | 0, _, _ => none
  | n + 1, x6, x4 => if x5 ≤ x6 then (some (x6, x4)) else ((gQ σ 6 t 0).bind fun q21 => (f_X4_pointAt σ q21 x1 x6).bind fun v23 => (f_J9_floorDiv_7cf53 σ v23 x3).bind fun v25 => (gQ σ 6 t 0).bind fun q27 => (f_X4_pointAt σ q27 x2 x6).bind fun v29 => (f_J9_floorDiv_7cf53 σ v29 x3).bind fun v31 => if v25 = v31 then (f_X7_prints_L54 σ x5 t x1 x2 x3 n (x6 + 1) x4) else (f_X7_prints_L54 σ x5 t x1 x2 x3 n (x6 + 1) (x4 + 1)))
def f_X7_prints (σ : St) (t : Nat) (a0 : Int32) (a1 : Int32) (a2 : Int32) : Option (Int32 × St) := if isO σ 6 t = true then ((f_X7_areTwo σ t a0 a1).bind fun v2 => if v2 = 0 then ((f_X7_fails σ t (-1000001)).bind fun p5 => some (p5.1, p5.2)) else ((f_X7_outside σ a2 1 9999).bind fun v7 => if v7 = 0 then ((gQ σ 6 t 0).bind fun q10 => (f_X4_size σ q10 a0).bind fun v12 => (gQ σ 6 t 0).bind fun q14 => (f_X4_size σ q14 a1).bind fun v16 => (f_J9_min_7cf53 σ v12 v16).bind fun v18 => (f_X7_prints_L54 σ v18 t a0 a1 a2 3000 0 0).bind fun p33 => some (p33.2, σ)) else ((f_X7_fails σ t (-1000001)).bind fun p36 => some (p36.1, p36.2)))) else none
theorem gd_X7_prints {σ : St} {t : Nat} {a0 : Int32} {a1 : Int32} {a2 : Int32} {r : Int32 × St} (h : f_X7_prints σ t a0 a1 a2 = some r) : isO σ 6 t = true := by
  unfold f_X7_prints at h
  by_cases hg : isO σ 6 t = true
  · exact hg
  · rw [if_neg hg] at h
    cases h
set_option maxRecDepth 100000 in
set_option maxHeartbeats 4000000 in
theorem c_X7_prints (l : Launch) (G : Gd) (d : Nat) (σ : St) (t : Nat) (a0 : Int32) (a1 : Int32) (a2 : Int32) (r0 : Int32) (σ' : St) (hf : f_X7_prints σ t a0 a1 a2 = some (r0, σ')) : MetV l G (d + 3) mi_X7_prints [.ref t, .int a0, .int a1, .int a2] σ (some (.int r0)) σ' 0 0 := by
  unfold f_X7_prints at hf
  refine MetV.of [(0, .ref t), (1, .int a0), (2, .int a1), (3, .int a2)] (by decide +kernel) rfl (Nat.le_of_ble_eq_true rfl) ?_
  intro X hQ
  have L54 : ∀ (σ : St) (x5 : Int32) (x1 : Int32) (x2 : Int32) (x3 : Int32) (n : Nat) (x6 : Int32) (x4 : Int32) (p : Int32 × Int32), f_X7_prints_L54 σ x5 t x1 x2 x3 n x6 x4 = some p → V mi_X7_prints l G (d + 3) 0 0 X 0 0 101 [(6, .int p.1), (5, .int x5), (4, .int p.2), (0, .ref t), (1, .int x1), (2, .int x2), (3, .int x3)] [] σ → V mi_X7_prints l G (d + 3) 0 0 X 0 0 54 [(6, .int x6), (5, .int x5), (4, .int x4), (0, .ref t), (1, .int x1), (2, .int x2), (3, .int x3)] [] σ := by
    intro σ x5 x1 x2 x3 n
    induction n with
    | zero =>
      intro x6 x4 p hf
      exact absurd (show (none : Option _) = some p from hf) (by simp)
    | succ n ih =>
      intro x6 x4 p hf hk
      rw [f_X7_prints_L54] at hf
      refine V_iload 0 56 rfl dX7_prints_54 rfl ?_
      refine V_iload 1 58 rfl dX7_prints_56 rfl ?_
      refine V_icmp_ge 101 61 dX7_prints_58 (by decide) rfl (fun c19 => ?_) (fun c19 => ?_)
      · rw [if_pos c19] at hf
        have ep := Option.some.inj hf
        subst ep
        refine V_ls [(6, .int x6), (5, .int x5), (4, .int x4), (0, .ref t), (1, .int x1), (2, .int x2), (3, .int x3)] [0, 1, 2, 3, 4, 5, 6] rfl ?_
        exact hk
      · rw [if_neg c19] at hf
        refine V_aload_n 3 62 rfl dX7_prints_61 rfl rfl ?_
        obtain ⟨q21, h20, hf⟩ := ob hf
        refine V_getQ (n := 10) (ty := tyX7) 65 h20 cf_6 rfl wd_fl_X7_12 dX7_prints_62 rfl ?_
        refine V_iload_n 4 66 rfl dX7_prints_65 rfl rfl ?_
        refine V_iload 0 68 rfl dX7_prints_66 rfl ?_
        obtain ⟨v23, h22, hf⟩ := ob hf
        refine V_callV (rest := []) (T := TX4) (n := 11) (ci := 3) 0 0 71 [.int v23] (c_X4_pointAt l G (d + 1) _ _ _ _ _ h22) (by omega) ok_X4_pointAt okv_X4_pointAt (gd_X4_pointAt h22) rfl wd_ml_X7_156 rfl rfl (Nat.le_of_ble_eq_true rfl) rfl rfl (Or.inl ⟨rfl, rfl⟩) dX7_prints_68 rfl rfl ?_
        refine V_iload_n 6 72 rfl dX7_prints_71 rfl rfl ?_
        obtain ⟨v25, h24, hf⟩ := ob hf
        refine V_callS (rest := []) 0 0 75 [.int v25] (c_J9_floorDiv_7cf53 l G (d + 1) _ _ _ _ h24) (by omega) ok_J9_floorDiv_7cf53 oks_J9_floorDiv_7cf53 wd_ml_X7_237 rfl rfl (Nat.le_of_ble_eq_true rfl) rfl rfl (Or.inl ⟨rfl, rfl⟩) dX7_prints_72 rfl rfl ?_
        refine V_aload_n 3 76 rfl dX7_prints_75 rfl rfl ?_
        obtain ⟨q27, h26, hf⟩ := ob hf
        refine V_getQ (n := 10) (ty := tyX7) 79 h26 cf_6 rfl wd_fl_X7_12 dX7_prints_76 rfl ?_
        refine V_iload_n 5 80 rfl dX7_prints_79 rfl rfl ?_
        refine V_iload 0 82 rfl dX7_prints_80 rfl ?_
        obtain ⟨v29, h28, hf⟩ := ob hf
        refine V_callV (rest := [.int v25]) (T := TX4) (n := 11) (ci := 3) 0 0 85 [.int v29, .int v25] (c_X4_pointAt l G (d + 1) _ _ _ _ _ h28) (by omega) ok_X4_pointAt okv_X4_pointAt (gd_X4_pointAt h28) rfl wd_ml_X7_156 rfl rfl (Nat.le_of_ble_eq_true rfl) rfl rfl (Or.inl ⟨rfl, rfl⟩) dX7_prints_82 rfl rfl ?_
        refine V_iload_n 6 86 rfl dX7_prints_85 rfl rfl ?_
        obtain ⟨v31, h30, hf⟩ := ob hf
        refine V_callS (rest := [.int v25]) 0 0 89 [.int v31, .int v25] (c_J9_floorDiv_7cf53 l G (d + 1) _ _ _ _ h30) (by omega) ok_J9_floorDiv_7cf53 oks_J9_floorDiv_7cf53 wd_ml_X7_237 rfl rfl (Nat.le_of_ble_eq_true rfl) rfl rfl (Or.inl ⟨rfl, rfl⟩) dX7_prints_86 rfl rfl ?_
        refine V_icmp_eq 95 92 dX7_prints_89 (by decide) rfl (fun c32 => ?_) (fun c32 => ?_)
        · rw [if_pos c32] at hf
          refine V_iinc (x6 + 1) 0 [(6, .int (x6 + 1)), (5, .int x5), (4, .int x4), (0, .ref t), (1, .int x1), (2, .int x2), (3, .int x3)] 98 dX7_prints_95 rfl (by rw [kiconst_1]) (by decide) rfl rfl ?_
          refine V_goto 54 dX7_prints_98 (by decide) ?_
          refine V_ls [(6, .int (x6 + 1)), (5, .int x5), (4, .int x4), (0, .ref t), (1, .int x1), (2, .int x2), (3, .int x3)] [0, 1, 2, 3, 4, 5, 6] rfl ?_
          exact ih _ _ _ hf hk
        · rw [if_neg c32] at hf
          refine V_iinc (x4 + 1) 2 [(4, .int (x4 + 1)), (6, .int x6), (5, .int x5), (0, .ref t), (1, .int x1), (2, .int x2), (3, .int x3)] 95 dX7_prints_92 rfl (by rw [kiconst_1]) (by decide) rfl rfl ?_
          refine V_iinc (x6 + 1) 1 [(6, .int (x6 + 1)), (4, .int (x4 + 1)), (5, .int x5), (0, .ref t), (1, .int x1), (2, .int x2), (3, .int x3)] 98 dX7_prints_95 rfl (by rw [kiconst_1]) (by decide) rfl rfl ?_
          refine V_goto 54 dX7_prints_98 (by decide) ?_
          refine V_ls [(6, .int (x6 + 1)), (5, .int x5), (4, .int (x4 + 1)), (0, .ref t), (1, .int x1), (2, .int x2), (3, .int x3)] [0, 2, 1, 3, 4, 5, 6] rfl ?_
          exact ih _ _ _ hf hk
  by_cases hg : isO σ 6 t = true
  · rw [if_pos hg] at hf
    refine V_aload_n 0 1 rfl dX7_prints_0 rfl rfl ?_
    refine V_iload_n 1 2 rfl dX7_prints_1 rfl rfl ?_
    refine V_iload_n 2 3 rfl dX7_prints_2 rfl rfl ?_
    obtain ⟨v2, h1, hf⟩ := ob hf
    refine V_callV (rest := []) (T := TX7) (n := 10) (ci := 6) 0 0 6 [.int v2] (c_X7_areTwo l G (d + 0) _ _ _ _ _ h1) (by omega) ok_X7_areTwo okv_X7_areTwo (gd_X7_areTwo h1) rfl wd_ml_X7_211 rfl rfl (Nat.le_of_ble_eq_true rfl) rfl rfl (Or.inl ⟨rfl, rfl⟩) dX7_prints_3 rfl rfl ?_
    refine V_if_eq 20 9 dX7_prints_6 (by decide) rfl (fun c3 => ?_) (fun c3 => ?_)
    · rw [if_pos c3] at hf
      refine V_aload_n 0 21 rfl dX7_prints_20 rfl rfl ?_
      refine V_ldc (-1000001) 23 dX7_prints_21 rfl wd_kk_X7_67 ?_
      obtain ⟨p5, h4, hf⟩ := ob hf
      refine V_callV (rest := []) (T := TX7) (n := 10) (ci := 6) 0 0 26 [.int p5.1] (c_X7_fails l G (d + 0) _ _ _ _ _ h4) (by omega) ok_X7_fails okv_X7_fails (gd_X7_fails h4) rfl wd_ml_X7_68 rfl rfl (Nat.le_of_ble_eq_true rfl) rfl rfl (Or.inl ⟨rfl, rfl⟩) dX7_prints_23 rfl rfl ?_
      have er := Option.some.inj hf
      obtain ⟨e1, e2⟩ := Prod.mk.inj er
      subst e1
      subst e2
      exact V_iret hQ rfl dX7_prints_26
    · rw [if_neg c3] at hf
      refine V_iload_n 3 10 rfl dX7_prints_9 rfl rfl ?_
      refine V_iconst 1 11 dX7_prints_10 rfl kiconst_1 ?_
      refine V_sipush 9999 14 dX7_prints_11 rfl ksipush_9999 ?_
      obtain ⟨v7, h6, hf⟩ := ob hf
      refine V_callS (rest := []) 0 0 17 [.int v7] (c_X7_outside l G (d + 1) _ _ _ _ _ h6) (by omega) ok_X7_outside oks_X7_outside wd_ml_X7_57 rfl rfl (Nat.le_of_ble_eq_true rfl) rfl rfl (Or.inl ⟨rfl, rfl⟩) dX7_prints_14 rfl rfl ?_
      refine V_if_eq 27 20 dX7_prints_17 (by decide) rfl (fun c8 => ?_) (fun c8 => ?_)
      · rw [if_pos c8] at hf
        refine V_iconst 0 28 dX7_prints_27 rfl kiconst_0 ?_
        refine V_istore [(4, .int 0), (0, .ref t), (1, .int a0), (2, .int a1), (3, .int a2)] 30 dX7_prints_28 (by decide) rfl rfl ?_
        refine V_aload_n 1 31 rfl dX7_prints_30 rfl rfl ?_
        obtain ⟨q10, h9, hf⟩ := ob hf
        refine V_getQ (n := 10) (ty := tyX7) 34 h9 cf_6 rfl wd_fl_X7_12 dX7_prints_31 rfl ?_
        refine V_iload_n 2 35 rfl dX7_prints_34 rfl rfl ?_
        obtain ⟨v12, h11, hf⟩ := ob hf
        refine V_callV (rest := []) (T := TX4) (n := 11) (ci := 3) 0 0 38 [.int v12] (c_X4_size l G (d + 0) _ _ _ _ h11) (by omega) ok_X4_size okv_X4_size (gd_X4_size h11) rfl wd_ml_X7_163 rfl rfl (Nat.le_of_ble_eq_true rfl) rfl rfl (Or.inl ⟨rfl, rfl⟩) dX7_prints_35 rfl rfl ?_
        refine V_aload_n 1 39 rfl dX7_prints_38 rfl rfl ?_
        obtain ⟨q14, h13, hf⟩ := ob hf
        refine V_getQ (n := 10) (ty := tyX7) 42 h13 cf_6 rfl wd_fl_X7_12 dX7_prints_39 rfl ?_
        refine V_iload_n 3 43 rfl dX7_prints_42 rfl rfl ?_
        obtain ⟨v16, h15, hf⟩ := ob hf
        refine V_callV (rest := [.int v12]) (T := TX4) (n := 11) (ci := 3) 0 0 46 [.int v16, .int v12] (c_X4_size l G (d + 0) _ _ _ _ h15) (by omega) ok_X4_size okv_X4_size (gd_X4_size h15) rfl wd_ml_X7_163 rfl rfl (Nat.le_of_ble_eq_true rfl) rfl rfl (Or.inl ⟨rfl, rfl⟩) dX7_prints_43 rfl rfl ?_
        obtain ⟨v18, h17, hf⟩ := ob hf
        refine V_callS (rest := []) 0 0 49 [.int v18] (c_J9_min_7cf53 l G (d + 1) _ _ _ _ h17) (by omega) ok_J9_min_7cf53 oks_J9_min_7cf53 wd_ml_X7_232 rfl rfl (Nat.le_of_ble_eq_true rfl) rfl rfl (Or.inl ⟨rfl, rfl⟩) dX7_prints_46 rfl rfl ?_
        refine V_istore [(5, .int v18), (4, .int 0), (0, .ref t), (1, .int a0), (2, .int a1), (3, .int a2)] 51 dX7_prints_49 (by decide) rfl rfl ?_
        refine V_iconst 0 52 dX7_prints_51 rfl kiconst_0 ?_
        refine V_istore [(6, .int 0), (5, .int v18), (4, .int 0), (0, .ref t), (1, .int a0), (2, .int a1), (3, .int a2)] 54 dX7_prints_52 (by decide) rfl rfl ?_
        obtain ⟨p33, h34, hf⟩ := ob hf
        refine V_ls [(6, .int 0), (5, .int v18), (4, .int 0), (0, .ref t), (1, .int a0), (2, .int a1), (3, .int a2)] [0, 1, 2, 3, 4, 5, 6] rfl ?_
        refine L54 σ v18 a0 a1 a2 3000 0 0 p33 h34 ?_
        refine V_iload 2 103 rfl dX7_prints_101 rfl ?_
        have er := Option.some.inj hf
        obtain ⟨e1, e2⟩ := Prod.mk.inj er
        subst e1
        subst e2
        exact V_iret hQ rfl dX7_prints_103
      · rw [if_neg c8] at hf
        refine V_aload_n 0 21 rfl dX7_prints_20 rfl rfl ?_
        refine V_ldc (-1000001) 23 dX7_prints_21 rfl wd_kk_X7_67 ?_
        obtain ⟨p36, h35, hf⟩ := ob hf
        refine V_callV (rest := []) (T := TX7) (n := 10) (ci := 6) 0 0 26 [.int p36.1] (c_X7_fails l G (d + 0) _ _ _ _ _ h35) (by omega) ok_X7_fails okv_X7_fails (gd_X7_fails h35) rfl wd_ml_X7_68 rfl rfl (Nat.le_of_ble_eq_true rfl) rfl rfl (Or.inl ⟨rfl, rfl⟩) dX7_prints_23 rfl rfl ?_
        have er := Option.some.inj hf
        obtain ⟨e1, e2⟩ := Prod.mk.inj er
        subst e1
        subst e2
        exact V_iret hQ rfl dX7_prints_26
  · rw [if_neg hg] at hf
    cases hf
abbrev mi_X7_worked : MI := (yX7_worked, cX7_worked, 13, some .int)
theorem ok_X7_worked : OkN mi_X7_worked 3 := ⟨wd_cd_X7_worked, wd_in_X7, ⟨by decide +kernel, by decide +kernel, by decide +kernel⟩, by decide⟩
theorem okv_X7_worked : Cond.instanceMethod (mi_X7_worked).1 ∈ tb ∧ Cond.selects (mi_X7_worked).1.cls (mi_X7_worked).1 (mi_X7_worked).1 ∈ tb := ⟨wd_im_X7_worked, wd_se_X7_worked⟩
def f_X7_worked_L82 (x4 : Int64) (t : Nat) (x1 : Int32) (x2 : Int32) : Nat → Int32 → Int64 → Int32 → Int32 → St → Option (Int32 × Int64 × Int32 × Int32 × St)
  | 0, _, _, _, _, _ => none
  | n + 1, x10, x8, x7, x6, σ => (gQ σ 6 t 0).bind fun q33 => (f_X4_size σ q33 x1).bind fun v35 => if v35 ≤ x10 then (some (x10, x8, x7, x6, σ)) else ((gQ σ 6 t 0).bind fun q38 => (f_X4_pointAt σ q38 x1 x10).bind fun v40 => (f_X7_lawAt σ t x1 x10).bind fun p42 => (f_J9_abs_067f4 p42.2 (v40.toInt64 - p42.1)).bind fun v44 => (f_J9_max_f86c9 p42.2 x8 v44).bind fun v46 => (neL x4).bind fun z47 => f_X7_worked_L82 x4 t x1 x2 n (x10 + 1) v46 (x7 + (if (lg_cmp (lrm v44 x4) 0) = 0 then 0 else 1 : Int32)) (x6 + (if 0 < (lg_cmp v44 x2.toInt64) then 0 else 1 : Int32)) p42.2)
def f_X7_worked (σ : St) (t : Nat) (a0 : Int32) (a1 : Int32) (a2 : Int32) : Option (Int32 × St) := if isO σ 6 t = true then ((gQ σ 6 t 0).bind fun q2 => (gQ σ 3 q2 2).bind fun q4 => (f_X5_has σ q4 a0).bind fun v6 => if v6 = 0 then ((f_X7_fails σ t (-1000001)).bind fun p9 => some (p9.1, p9.2)) else ((f_X7_outside σ a1 0 99999).bind fun v11 => if v11 = 0 then ((f_X7_outside σ a2 0 2).bind fun v16 => if v16 = 0 then ((gQ σ 6 t 0).bind fun q19 => (gQ σ 3 q19 0).bind fun q21 => (gQ σ 6 t 0).bind fun q23 => (gQ σ 3 q23 2).bind fun q25 => (f_X5_at σ q25 a0 2).bind fun v27 => (f_X5_at σ q21 v27 0).bind fun v29 => (f_J9_max_7cf53 σ 1 v29).bind fun v31 => (f_X7_worked_L82 v31.toInt64 t a0 a1 3000 0 0 0 0 σ).bind fun p53 => if a2 = 0 then (some (p53.2.2.2.1, p53.2.2.2.2)) else (if a2 = 1 then ((f_J9_min_f86c9 p53.2.2.2.2 p53.2.1 2000000000).bind fun v58 => some (v58.toInt32, p53.2.2.2.2)) else (some (p53.2.2.1, p53.2.2.2.2)))) else ((f_X7_fails σ t (-1000001)).bind fun p60 => some (p60.1, p60.2))) else ((f_X7_fails σ t (-1000001)).bind fun p14 => some (p14.1, p14.2)))) else none
theorem gd_X7_worked {σ : St} {t : Nat} {a0 : Int32} {a1 : Int32} {a2 : Int32} {r : Int32 × St} (h : f_X7_worked σ t a0 a1 a2 = some r) : isO σ 6 t = true := by
  unfold f_X7_worked at h
  by_cases hg : isO σ 6 t = true
  · exact hg
  · rw [if_neg hg] at h
    cases h
set_option maxRecDepth 100000 in
set_option maxHeartbeats 4000000 in
theorem c_X7_worked (l : Launch) (G : Gd) (d : Nat) (σ : St) (t : Nat) (a0 : Int32) (a1 : Int32) (a2 : Int32) (r0 : Int32) (σ' : St) (hf : f_X7_worked σ t a0 a1 a2 = some (r0, σ')) : MetV l G (d + 304) mi_X7_worked [.ref t, .int a0, .int a1, .int a2] σ (some (.int r0)) σ' 0 0 := by
  unfold f_X7_worked at hf
  refine MetV.of [(0, .ref t), (1, .int a0), (2, .int a1), (3, .int a2)] (by decide +kernel) rfl (Nat.le_of_ble_eq_true rfl) ?_
  intro X hQ
  have L82 : ∀ (x4 : Int64) (x1 : Int32) (x2 : Int32) (x3 : Int32) (n : Nat) (x10 : Int32) (x8 : Int64) (x7 : Int32) (x6 : Int32) (σ : St) (p : Int32 × Int64 × Int32 × Int32 × St), f_X7_worked_L82 x4 t x1 x2 n x10 x8 x7 x6 σ = some p → V mi_X7_worked l G (d + 304) 0 0 X 0 0 172 [(10, .int p.1), (8, .long p.2.1), (7, .int p.2.2.1), (6, .int p.2.2.2.1), (4, .long x4), (0, .ref t), (1, .int x1), (2, .int x2), (3, .int x3)] [] p.2.2.2.2 → V mi_X7_worked l G (d + 304) 0 0 X 0 0 82 [(10, .int x10), (8, .long x8), (7, .int x7), (6, .int x6), (4, .long x4), (0, .ref t), (1, .int x1), (2, .int x2), (3, .int x3)] [] σ := by
    intro x4 x1 x2 x3 n
    induction n with
    | zero =>
      intro x10 x8 x7 x6 σ p hf
      exact absurd (show (none : Option _) = some p from hf) (by simp)
    | succ n ih =>
      intro x10 x8 x7 x6 σ p hf hk
      rw [f_X7_worked_L82] at hf
      refine V_iload 0 84 rfl dX7_worked_82 rfl ?_
      refine V_aload_n 5 85 rfl dX7_worked_84 rfl rfl ?_
      obtain ⟨q33, h32, hf⟩ := ob hf
      refine V_getQ (n := 10) (ty := tyX7) 88 h32 cf_6 rfl wd_fl_X7_12 dX7_worked_85 rfl ?_
      refine V_iload_n 6 89 rfl dX7_worked_88 rfl rfl ?_
      obtain ⟨v35, h34, hf⟩ := ob hf
      refine V_callV (rest := [.int x10]) (T := TX4) (n := 11) (ci := 3) 0 0 92 [.int v35, .int x10] (c_X4_size l G (d + 301) _ _ _ _ h34) (by omega) ok_X4_size okv_X4_size (gd_X4_size h34) rfl wd_ml_X7_163 rfl rfl (Nat.le_of_ble_eq_true rfl) rfl rfl (Or.inl ⟨rfl, rfl⟩) dX7_worked_89 rfl rfl ?_
      refine V_icmp_ge 172 95 dX7_worked_92 (by decide) rfl (fun c36 => ?_) (fun c36 => ?_)
      · rw [if_pos c36] at hf
        have ep := Option.some.inj hf
        subst ep
        refine V_ls [(10, .int x10), (8, .long x8), (7, .int x7), (6, .int x6), (4, .long x4), (0, .ref t), (1, .int x1), (2, .int x2), (3, .int x3)] [0, 1, 2, 3, 4, 5, 6, 7, 8] rfl ?_
        exact hk
      · rw [if_neg c36] at hf
        refine V_aload_n 5 96 rfl dX7_worked_95 rfl rfl ?_
        obtain ⟨q38, h37, hf⟩ := ob hf
        refine V_getQ (n := 10) (ty := tyX7) 99 h37 cf_6 rfl wd_fl_X7_12 dX7_worked_96 rfl ?_
        refine V_iload_n 6 100 rfl dX7_worked_99 rfl rfl ?_
        refine V_iload 0 102 rfl dX7_worked_100 rfl ?_
        obtain ⟨v40, h39, hf⟩ := ob hf
        refine V_callV (rest := []) (T := TX4) (n := 11) (ci := 3) 0 0 105 [.int v40] (c_X4_pointAt l G (d + 302) _ _ _ _ _ h39) (by omega) ok_X4_pointAt okv_X4_pointAt (gd_X4_pointAt h39) rfl wd_ml_X7_156 rfl rfl (Nat.le_of_ble_eq_true rfl) rfl rfl (Or.inl ⟨rfl, rfl⟩) dX7_worked_102 rfl rfl ?_
        refine V_i2l 106 dX7_worked_105 rfl ?_
        refine V_aload_n 5 107 rfl dX7_worked_106 rfl rfl ?_
        refine V_iload_n 6 108 rfl dX7_worked_107 rfl rfl ?_
        refine V_iload 0 110 rfl dX7_worked_108 rfl ?_
        obtain ⟨p42, h41, hf⟩ := ob hf
        refine V_callV (rest := [.long v40.toInt64]) (T := TX7) (n := 10) (ci := 6) 0 0 113 [.long p42.1, .long v40.toInt64] (c_X7_lawAt l G (d + 0) _ _ _ _ _ _ h41) (by omega) ok_X7_lawAt okv_X7_lawAt (gd_X7_lawAt h41) rfl wd_ml_X7_141 rfl rfl (Nat.le_of_ble_eq_true rfl) rfl rfl (Or.inl ⟨rfl, rfl⟩) dX7_worked_110 rfl rfl ?_
        refine V_lsub 114 dX7_worked_113 rfl ?_
        obtain ⟨v44, h43, hf⟩ := ob hf
        refine V_callS (rest := []) 0 0 117 [.long v44] (c_J9_abs_067f4 l G (d + 302) _ _ _ h43) (by omega) ok_J9_abs_067f4 oks_J9_abs_067f4 wd_ml_X7_244 rfl rfl (Nat.le_of_ble_eq_true rfl) rfl rfl (Or.inl ⟨rfl, rfl⟩) dX7_worked_114 rfl rfl ?_
        refine V_lstore [(11, .long v44), (10, .int x10), (8, .long x8), (7, .int x7), (6, .int x6), (4, .long x4), (0, .ref t), (1, .int x1), (2, .int x2), (3, .int x3)] 119 dX7_worked_117 (by decide) rfl rfl ?_
        refine V_lload 2 121 rfl dX7_worked_119 rfl ?_
        refine V_lload 0 123 rfl dX7_worked_121 rfl ?_
        obtain ⟨v46, h45, hf⟩ := ob hf
        refine V_callS (rest := []) 0 0 126 [.long v46] (c_J9_max_f86c9 l G (d + 302) _ _ _ _ h45) (by omega) ok_J9_max_f86c9 oks_J9_max_f86c9 wd_ml_X7_248 rfl rfl (Nat.le_of_ble_eq_true rfl) rfl rfl (Or.inl ⟨rfl, rfl⟩) dX7_worked_123 rfl rfl ?_
        refine V_lstore [(8, .long v46), (11, .long v44), (10, .int x10), (7, .int x7), (6, .int x6), (4, .long x4), (0, .ref t), (1, .int x1), (2, .int x2), (3, .int x3)] 128 dX7_worked_126 (by decide) rfl rfl ?_
        refine V_iload 4 130 rfl dX7_worked_128 rfl ?_
        refine V_lload 1 132 rfl dX7_worked_130 rfl ?_
        refine V_iload_n 8 133 rfl dX7_worked_132 rfl rfl ?_
        refine V_i2l 134 dX7_worked_133 rfl ?_
        refine V_lcmp 135 dX7_worked_134 rfl ?_
        have kj51 : V mi_X7_worked l G (d + 304) 0 0 X 0 0 143 [(8, .long v46), (11, .long v44), (10, .int x10), (7, .int x7), (6, .int x6), (4, .long x4), (0, .ref t), (1, .int x1), (2, .int x2), (3, .int x3)] [.int (if 0 < (lg_cmp v44 x2.toInt64) then 0 else 1 : Int32), .int x6] p42.2 := by
          refine V_iadd 144 dX7_worked_143 rfl ?_
          refine V_istore [(6, .int (x6 + (if 0 < (lg_cmp v44 x2.toInt64) then 0 else 1 : Int32))), (8, .long v46), (11, .long v44), (10, .int x10), (7, .int x7), (4, .long x4), (0, .ref t), (1, .int x1), (2, .int x2), (3, .int x3)] 146 dX7_worked_144 (by decide) rfl rfl ?_
          refine V_iload 4 148 rfl dX7_worked_146 rfl ?_
          refine V_lload 2 150 rfl dX7_worked_148 rfl ?_
          refine V_lload 5 152 rfl dX7_worked_150 rfl ?_
          obtain ⟨z47, h48, hf⟩ := ob hf
          refine V_lrem 153 dX7_worked_152 rfl (neL_ne h48) ?_
          refine V_lconst 0 154 dX7_worked_153 rfl klconst_0 ?_
          refine V_lcmp 155 dX7_worked_154 rfl ?_
          have kj49 : V mi_X7_worked l G (d + 304) 0 0 X 0 0 163 [(6, .int (x6 + (if 0 < (lg_cmp v44 x2.toInt64) then 0 else 1 : Int32))), (8, .long v46), (11, .long v44), (10, .int x10), (7, .int x7), (4, .long x4), (0, .ref t), (1, .int x1), (2, .int x2), (3, .int x3)] [.int (if (lg_cmp (lrm v44 x4) 0) = 0 then 0 else 1 : Int32), .int x7] p42.2 := by
            refine V_iadd 164 dX7_worked_163 rfl ?_
            refine V_istore [(7, .int (x7 + (if (lg_cmp (lrm v44 x4) 0) = 0 then 0 else 1 : Int32))), (6, .int (x6 + (if 0 < (lg_cmp v44 x2.toInt64) then 0 else 1 : Int32))), (8, .long v46), (11, .long v44), (10, .int x10), (4, .long x4), (0, .ref t), (1, .int x1), (2, .int x2), (3, .int x3)] 166 dX7_worked_164 (by decide) rfl rfl ?_
            refine V_iinc (x10 + 1) 4 [(10, .int (x10 + 1)), (7, .int (x7 + (if (lg_cmp (lrm v44 x4) 0) = 0 then 0 else 1 : Int32))), (6, .int (x6 + (if 0 < (lg_cmp v44 x2.toInt64) then 0 else 1 : Int32))), (8, .long v46), (11, .long v44), (4, .long x4), (0, .ref t), (1, .int x1), (2, .int x2), (3, .int x3)] 169 dX7_worked_166 rfl (by rw [kiconst_1]) (by decide) rfl rfl ?_
            refine V_goto 82 dX7_worked_169 (by decide) ?_
            refine V_ls [(10, .int (x10 + 1)), (8, .long v46), (7, .int (x7 + (if (lg_cmp (lrm v44 x4) 0) = 0 then 0 else 1 : Int32))), (6, .int (x6 + (if 0 < (lg_cmp v44 x2.toInt64) then 0 else 1 : Int32))), (4, .long x4), (0, .ref t), (1, .int x1), (2, .int x2), (3, .int x3)] [0, 3, 1, 2, 5, 6, 7, 8, 9] rfl ?_
            exact ih _ _ _ _ _ _ hf hk
          refine V_if_eq 162 158 dX7_worked_155 (by decide) rfl (fun c50 => ?_) (fun c50 => ?_)
          · refine V_iconst 0 163 dX7_worked_162 rfl kiconst_0 ?_
            refine V_ls [(6, .int (x6 + (if 0 < (lg_cmp v44 x2.toInt64) then 0 else 1 : Int32))), (8, .long v46), (11, .long v44), (10, .int x10), (7, .int x7), (4, .long x4), (0, .ref t), (1, .int x1), (2, .int x2), (3, .int x3)] [0, 1, 2, 3, 4, 5, 6, 7, 8, 9] rfl ?_
            simp only [if_pos c50] at kj49
            exact kj49
          · refine V_iconst 1 159 dX7_worked_158 rfl kiconst_1 ?_
            refine V_goto 163 dX7_worked_159 (by decide) ?_
            refine V_ls [(6, .int (x6 + (if 0 < (lg_cmp v44 x2.toInt64) then 0 else 1 : Int32))), (8, .long v46), (11, .long v44), (10, .int x10), (7, .int x7), (4, .long x4), (0, .ref t), (1, .int x1), (2, .int x2), (3, .int x3)] [0, 1, 2, 3, 4, 5, 6, 7, 8, 9] rfl ?_
            simp only [if_neg c50] at kj49
            exact kj49
        refine V_if_gt 142 138 dX7_worked_135 (by decide) rfl (fun c52 => ?_) (fun c52 => ?_)
        · refine V_iconst 0 143 dX7_worked_142 rfl kiconst_0 ?_
          refine V_ls [(8, .long v46), (11, .long v44), (10, .int x10), (7, .int x7), (6, .int x6), (4, .long x4), (0, .ref t), (1, .int x1), (2, .int x2), (3, .int x3)] [0, 1, 2, 3, 4, 5, 6, 7, 8, 9] rfl ?_
          simp only [if_pos c52] at kj51
          exact kj51
        · refine V_iconst 1 139 dX7_worked_138 rfl kiconst_1 ?_
          refine V_goto 143 dX7_worked_139 (by decide) ?_
          refine V_ls [(8, .long v46), (11, .long v44), (10, .int x10), (7, .int x7), (6, .int x6), (4, .long x4), (0, .ref t), (1, .int x1), (2, .int x2), (3, .int x3)] [0, 1, 2, 3, 4, 5, 6, 7, 8, 9] rfl ?_
          simp only [if_neg c52] at kj51
          exact kj51
  by_cases hg : isO σ 6 t = true
  · rw [if_pos hg] at hf
    refine V_aload_n 0 1 rfl dX7_worked_0 rfl rfl ?_
    obtain ⟨q2, h1, hf⟩ := ob hf
    refine V_getQ (n := 10) (ty := tyX7) 4 h1 cf_6 rfl wd_fl_X7_12 dX7_worked_1 rfl ?_
    obtain ⟨q4, h3, hf⟩ := ob hf
    refine V_getQ (n := 11) (ty := tyX4) 7 h3 cf_3 rfl wd_fl_X7_126 dX7_worked_4 rfl ?_
    refine V_iload_n 1 8 rfl dX7_worked_7 rfl rfl ?_
    obtain ⟨v6, h5, hf⟩ := ob hf
    refine V_callV (rest := []) (T := TX5) (n := 4) (ci := 4) 0 0 11 [.int v6] (c_X5_has l G (d + 302) _ _ _ _ h5) (by omega) ok_X5_has okv_X5_has (gd_X5_has h5) rfl wd_ml_X7_101 rfl rfl (Nat.le_of_ble_eq_true rfl) rfl rfl (Or.inl ⟨rfl, rfl⟩) dX7_worked_8 rfl rfl ?_
    refine V_if_eq 33 14 dX7_worked_11 (by decide) rfl (fun c7 => ?_) (fun c7 => ?_)
    · rw [if_pos c7] at hf
      refine V_aload_n 0 34 rfl dX7_worked_33 rfl rfl ?_
      refine V_ldc (-1000001) 36 dX7_worked_34 rfl wd_kk_X7_67 ?_
      obtain ⟨p9, h8, hf⟩ := ob hf
      refine V_callV (rest := []) (T := TX7) (n := 10) (ci := 6) 0 0 39 [.int p9.1] (c_X7_fails l G (d + 301) _ _ _ _ _ h8) (by omega) ok_X7_fails okv_X7_fails (gd_X7_fails h8) rfl wd_ml_X7_68 rfl rfl (Nat.le_of_ble_eq_true rfl) rfl rfl (Or.inl ⟨rfl, rfl⟩) dX7_worked_36 rfl rfl ?_
      have er := Option.some.inj hf
      obtain ⟨e1, e2⟩ := Prod.mk.inj er
      subst e1
      subst e2
      exact V_iret hQ rfl dX7_worked_39
    · rw [if_neg c7] at hf
      refine V_iload_n 2 15 rfl dX7_worked_14 rfl rfl ?_
      refine V_iconst 0 16 dX7_worked_15 rfl kiconst_0 ?_
      refine V_ldc 99999 18 dX7_worked_16 rfl wd_kk_X7_240 ?_
      obtain ⟨v11, h10, hf⟩ := ob hf
      refine V_callS (rest := []) 0 0 21 [.int v11] (c_X7_outside l G (d + 302) _ _ _ _ _ h10) (by omega) ok_X7_outside oks_X7_outside wd_ml_X7_57 rfl rfl (Nat.le_of_ble_eq_true rfl) rfl rfl (Or.inl ⟨rfl, rfl⟩) dX7_worked_18 rfl rfl ?_
      refine V_if_ne 33 24 dX7_worked_21 (by decide) rfl (fun c12 => ?_) (fun c12 => ?_)
      · rw [if_neg c12] at hf
        refine V_aload_n 0 34 rfl dX7_worked_33 rfl rfl ?_
        refine V_ldc (-1000001) 36 dX7_worked_34 rfl wd_kk_X7_67 ?_
        obtain ⟨p14, h13, hf⟩ := ob hf
        refine V_callV (rest := []) (T := TX7) (n := 10) (ci := 6) 0 0 39 [.int p14.1] (c_X7_fails l G (d + 301) _ _ _ _ _ h13) (by omega) ok_X7_fails okv_X7_fails (gd_X7_fails h13) rfl wd_ml_X7_68 rfl rfl (Nat.le_of_ble_eq_true rfl) rfl rfl (Or.inl ⟨rfl, rfl⟩) dX7_worked_36 rfl rfl ?_
        have er := Option.some.inj hf
        obtain ⟨e1, e2⟩ := Prod.mk.inj er
        subst e1
        subst e2
        exact V_iret hQ rfl dX7_worked_39
      · rw [if_pos c12] at hf
        refine V_iload_n 3 25 rfl dX7_worked_24 rfl rfl ?_
        refine V_iconst 0 26 dX7_worked_25 rfl kiconst_0 ?_
        refine V_iconst 2 27 dX7_worked_26 rfl kiconst_2 ?_
        obtain ⟨v16, h15, hf⟩ := ob hf
        refine V_callS (rest := []) 0 0 30 [.int v16] (c_X7_outside l G (d + 302) _ _ _ _ _ h15) (by omega) ok_X7_outside oks_X7_outside wd_ml_X7_57 rfl rfl (Nat.le_of_ble_eq_true rfl) rfl rfl (Or.inl ⟨rfl, rfl⟩) dX7_worked_27 rfl rfl ?_
        refine V_if_eq 40 33 dX7_worked_30 (by decide) rfl (fun c17 => ?_) (fun c17 => ?_)
        · rw [if_pos c17] at hf
          refine V_iconst 1 41 dX7_worked_40 rfl kiconst_1 ?_
          refine V_aload_n 0 42 rfl dX7_worked_41 rfl rfl ?_
          obtain ⟨q19, h18, hf⟩ := ob hf
          refine V_getQ (n := 10) (ty := tyX7) 45 h18 cf_6 rfl wd_fl_X7_12 dX7_worked_42 rfl ?_
          obtain ⟨q21, h20, hf⟩ := ob hf
          refine V_getQ (n := 11) (ty := tyX4) 48 h20 cf_3 rfl wd_fl_X7_72 dX7_worked_45 rfl ?_
          refine V_aload_n 0 49 rfl dX7_worked_48 rfl rfl ?_
          obtain ⟨q23, h22, hf⟩ := ob hf
          refine V_getQ (n := 10) (ty := tyX7) 52 h22 cf_6 rfl wd_fl_X7_12 dX7_worked_49 rfl ?_
          obtain ⟨q25, h24, hf⟩ := ob hf
          refine V_getQ (n := 11) (ty := tyX4) 55 h24 cf_3 rfl wd_fl_X7_126 dX7_worked_52 rfl ?_
          refine V_iload_n 1 56 rfl dX7_worked_55 rfl rfl ?_
          refine V_iconst 2 57 dX7_worked_56 rfl kiconst_2 ?_
          obtain ⟨v27, h26, hf⟩ := ob hf
          refine V_callV (rest := [.ref q21, .int 1]) (T := TX5) (n := 4) (ci := 4) 0 0 60 [.int v27, .ref q21, .int 1] (c_X5_at l G (d + 302) _ _ _ _ _ h26) (by omega) ok_X5_at okv_X5_at (gd_X5_at h26) rfl wd_ml_X7_76 rfl rfl (Nat.le_of_ble_eq_true rfl) rfl rfl (Or.inl ⟨rfl, rfl⟩) dX7_worked_57 rfl rfl ?_
          refine V_iconst 0 61 dX7_worked_60 rfl kiconst_0 ?_
          obtain ⟨v29, h28, hf⟩ := ob hf
          refine V_callV (rest := [.int 1]) (T := TX5) (n := 4) (ci := 4) 0 0 64 [.int v29, .int 1] (c_X5_at l G (d + 302) _ _ _ _ _ h28) (by omega) ok_X5_at okv_X5_at (gd_X5_at h28) rfl wd_ml_X7_76 rfl rfl (Nat.le_of_ble_eq_true rfl) rfl rfl (Or.inl ⟨rfl, rfl⟩) dX7_worked_61 rfl rfl ?_
          obtain ⟨v31, h30, hf⟩ := ob hf
          refine V_callS (rest := []) 0 0 67 [.int v31] (c_J9_max_7cf53 l G (d + 302) _ _ _ _ h30) (by omega) ok_J9_max_7cf53 oks_J9_max_7cf53 wd_ml_X7_241 rfl rfl (Nat.le_of_ble_eq_true rfl) rfl rfl (Or.inl ⟨rfl, rfl⟩) dX7_worked_64 rfl rfl ?_
          refine V_i2l 68 dX7_worked_67 rfl ?_
          refine V_lstore [(4, .long v31.toInt64), (0, .ref t), (1, .int a0), (2, .int a1), (3, .int a2)] 70 dX7_worked_68 (by decide) rfl rfl ?_
          refine V_iconst 0 71 dX7_worked_70 rfl kiconst_0 ?_
          refine V_istore [(6, .int 0), (4, .long v31.toInt64), (0, .ref t), (1, .int a0), (2, .int a1), (3, .int a2)] 73 dX7_worked_71 (by decide) rfl rfl ?_
          refine V_iconst 0 74 dX7_worked_73 rfl kiconst_0 ?_
          refine V_istore [(7, .int 0), (6, .int 0), (4, .long v31.toInt64), (0, .ref t), (1, .int a0), (2, .int a1), (3, .int a2)] 76 dX7_worked_74 (by decide) rfl rfl ?_
          refine V_lconst 0 77 dX7_worked_76 rfl klconst_0 ?_
          refine V_lstore [(8, .long 0), (7, .int 0), (6, .int 0), (4, .long v31.toInt64), (0, .ref t), (1, .int a0), (2, .int a1), (3, .int a2)] 79 dX7_worked_77 (by decide) rfl rfl ?_
          refine V_iconst 0 80 dX7_worked_79 rfl kiconst_0 ?_
          refine V_istore [(10, .int 0), (8, .long 0), (7, .int 0), (6, .int 0), (4, .long v31.toInt64), (0, .ref t), (1, .int a0), (2, .int a1), (3, .int a2)] 82 dX7_worked_80 (by decide) rfl rfl ?_
          obtain ⟨p53, h54, hf⟩ := ob hf
          refine V_ls [(10, .int 0), (8, .long 0), (7, .int 0), (6, .int 0), (4, .long v31.toInt64), (0, .ref t), (1, .int a0), (2, .int a1), (3, .int a2)] [0, 1, 2, 3, 4, 5, 6, 7, 8] rfl ?_
          refine L82 v31.toInt64 a0 a1 a2 3000 0 0 0 0 σ p53 h54 ?_
          refine V_iload_n 8 173 rfl dX7_worked_172 rfl rfl ?_
          refine V_if_ne 181 176 dX7_worked_173 (by decide) rfl (fun c55 => ?_) (fun c55 => ?_)
          · rw [if_neg c55] at hf
            refine V_iload_n 8 182 rfl dX7_worked_181 rfl rfl ?_
            refine V_iconst 1 183 dX7_worked_182 rfl kiconst_1 ?_
            refine V_icmp_ne 198 186 dX7_worked_183 (by decide) rfl (fun c56 => ?_) (fun c56 => ?_)
            · rw [if_neg c56] at hf
              refine V_iload 2 200 rfl dX7_worked_198 rfl ?_
              have er := Option.some.inj hf
              obtain ⟨e1, e2⟩ := Prod.mk.inj er
              subst e1
              subst e2
              exact V_iret hQ rfl dX7_worked_200
            · rw [if_pos c56] at hf
              refine V_lload 1 188 rfl dX7_worked_186 rfl ?_
              refine V_ldc2 2000000000 191 dX7_worked_188 rfl wd_kl_X7_251 ?_
              obtain ⟨v58, h57, hf⟩ := ob hf
              refine V_callS (rest := []) 0 0 194 [.long v58] (c_J9_min_f86c9 l G (d + 302) _ _ _ _ h57) (by omega) ok_J9_min_f86c9 oks_J9_min_f86c9 wd_ml_X7_253 rfl rfl (Nat.le_of_ble_eq_true rfl) rfl rfl (Or.inl ⟨rfl, rfl⟩) dX7_worked_191 rfl rfl ?_
              refine V_l2i 195 dX7_worked_194 rfl ?_
              refine V_goto 200 dX7_worked_195 (by decide) ?_
              have er := Option.some.inj hf
              obtain ⟨e1, e2⟩ := Prod.mk.inj er
              subst e1
              subst e2
              exact V_iret hQ rfl dX7_worked_200
          · rw [if_pos c55] at hf
            refine V_iload 3 178 rfl dX7_worked_176 rfl ?_
            refine V_goto 200 dX7_worked_178 (by decide) ?_
            have er := Option.some.inj hf
            obtain ⟨e1, e2⟩ := Prod.mk.inj er
            subst e1
            subst e2
            exact V_iret hQ rfl dX7_worked_200
        · rw [if_neg c17] at hf
          refine V_aload_n 0 34 rfl dX7_worked_33 rfl rfl ?_
          refine V_ldc (-1000001) 36 dX7_worked_34 rfl wd_kk_X7_67 ?_
          obtain ⟨p60, h59, hf⟩ := ob hf
          refine V_callV (rest := []) (T := TX7) (n := 10) (ci := 6) 0 0 39 [.int p60.1] (c_X7_fails l G (d + 301) _ _ _ _ _ h59) (by omega) ok_X7_fails okv_X7_fails (gd_X7_fails h59) rfl wd_ml_X7_68 rfl rfl (Nat.le_of_ble_eq_true rfl) rfl rfl (Or.inl ⟨rfl, rfl⟩) dX7_worked_36 rfl rfl ?_
          have er := Option.some.inj hf
          obtain ⟨e1, e2⟩ := Prod.mk.inj er
          subst e1
          subst e2
          exact V_iret hQ rfl dX7_worked_39
  · rw [if_neg hg] at hf
    cases hf
abbrev mi_X7_signOf : MI := (yX7_signOf, cX7_signOf, 5, some .int)
theorem ok_X7_signOf : OkN mi_X7_signOf 1 := ⟨wd_cd_X7_signOf, wd_in_X7, ⟨by decide +kernel, by decide +kernel, by decide +kernel⟩, by decide⟩
theorem okv_X7_signOf : Cond.instanceMethod (mi_X7_signOf).1 ∈ tb ∧ Cond.selects (mi_X7_signOf).1.cls (mi_X7_signOf).1 (mi_X7_signOf).1 ∈ tb := ⟨wd_im_X7_signOf, wd_se_X7_signOf⟩
def f_X7_signOf_L49 (σ : St) (x3 : Int32) (t : Nat) (x1 : Int32) : Nat → Int32 → Option ((Int32 × St) ⊕ (Int32))
  | 0, _ => none
  | n + 1, x4 => (gQ σ 6 t 0).bind fun q21 => (f_X4_size σ q21 x1).bind fun v23 => if (v23 - 2) < x4 then (some (.inr x4)) else ((gQ σ 6 t 0).bind fun q26 => (f_X4_hairAt σ q26 x1 x4).bind fun v28 => (f_J9_abs_0f7a4 σ v28).bind fun v30 => if v30 ≤ x3 then (f_X7_signOf_L49 σ x3 t x1 n (x4 + 1)) else (some (.inl (1, σ))))
def f_X7_signOf (σ : St) (t : Nat) (a0 : Int32) : Option (Int32 × St) := if isO σ 6 t = true then ((gQ σ 6 t 0).bind fun q2 => (gQ σ 3 q2 2).bind fun q4 => (f_X5_at σ q4 a0 2).bind fun v6 => (gQ σ 6 t 0).bind fun q8 => (f_X4_dayOf σ q8 a0).bind fun v10 => (f_X7_worth σ t 1 v6 v10 0).bind fun p12 => if p12.1 = 0 then (some (0, p12.2)) else ((gQ p12.2 6 t 0).bind fun q15 => (gQ p12.2 3 q15 0).bind fun q17 => (f_X5_at p12.2 q17 v6 2).bind fun v19 => (f_X7_signOf_L49 p12.2 v19 t a0 3000 1).bind fun p32 => Sum.elim (some) (fun p34 => some (2, p12.2)) p32)) else none
theorem gd_X7_signOf {σ : St} {t : Nat} {a0 : Int32} {r : Int32 × St} (h : f_X7_signOf σ t a0 = some r) : isO σ 6 t = true := by
  unfold f_X7_signOf at h
  by_cases hg : isO σ 6 t = true
  · exact hg
  · rw [if_neg hg] at h
    cases h
set_option maxRecDepth 100000 in
set_option maxHeartbeats 4000000 in
theorem c_X7_signOf (l : Launch) (G : Gd) (d : Nat) (σ : St) (t : Nat) (a0 : Int32) (r0 : Int32) (σ' : St) (hf : f_X7_signOf σ t a0 = some (r0, σ')) : MetV l G (d + 303) mi_X7_signOf [.ref t, .int a0] σ (some (.int r0)) σ' 0 0 := by
  unfold f_X7_signOf at hf
  refine MetV.of [(0, .ref t), (1, .int a0)] (by decide +kernel) rfl (Nat.le_of_ble_eq_true rfl) ?_
  intro X hQ
  have L49 : ∀ (σ : St) (x3 : Int32) (x1 : Int32) (n : Nat) (x4 : Int32) (p : (Int32 × St) ⊕ (Int32)), f_X7_signOf_L49 σ x3 t x1 n x4 = some p → (∀ v, p = .inl v → v = (r0, σ')) → (∀ q, p = .inr q → V mi_X7_signOf l G (d + 303) 0 0 X 0 0 89 [(4, .int q), (3, .int x3), (0, .ref t), (1, .int x1)] [] σ) → V mi_X7_signOf l G (d + 303) 0 0 X 0 0 49 [(4, .int x4), (3, .int x3), (0, .ref t), (1, .int x1)] [] σ := by
    intro σ x3 x1 n
    induction n with
    | zero =>
      intro x4 p hf
      exact absurd (show (none : Option _) = some p from hf) (by simp)
    | succ n ih =>
      intro x4 p hf hk1 hk
      rw [f_X7_signOf_L49] at hf
      refine V_iload 0 51 rfl dX7_signOf_49 rfl ?_
      refine V_aload_n 2 52 rfl dX7_signOf_51 rfl rfl ?_
      obtain ⟨q21, h20, hf⟩ := ob hf
      refine V_getQ (n := 10) (ty := tyX7) 55 h20 cf_6 rfl wd_fl_X7_12 dX7_signOf_52 rfl ?_
      refine V_iload_n 3 56 rfl dX7_signOf_55 rfl rfl ?_
      obtain ⟨v23, h22, hf⟩ := ob hf
      refine V_callV (rest := [.int x4]) (T := TX4) (n := 11) (ci := 3) 0 0 59 [.int v23, .int x4] (c_X4_size l G (d + 300) _ _ _ _ h22) (by omega) ok_X4_size okv_X4_size (gd_X4_size h22) rfl wd_ml_X7_163 rfl rfl (Nat.le_of_ble_eq_true rfl) rfl rfl (Or.inl ⟨rfl, rfl⟩) dX7_signOf_56 rfl rfl ?_
      refine V_iconst 2 60 dX7_signOf_59 rfl kiconst_2 ?_
      refine V_isub 61 dX7_signOf_60 rfl ?_
      refine V_icmp_gt 89 64 dX7_signOf_61 (by decide) rfl (fun c24 => ?_) (fun c24 => ?_)
      · rw [if_pos c24] at hf
        have ep := Option.some.inj hf
        subst ep
        refine V_ls [(4, .int x4), (3, .int x3), (0, .ref t), (1, .int x1)] [0, 1, 2, 3] rfl ?_
        exact hk _ rfl
      · rw [if_neg c24] at hf
        refine V_aload_n 2 65 rfl dX7_signOf_64 rfl rfl ?_
        obtain ⟨q26, h25, hf⟩ := ob hf
        refine V_getQ (n := 10) (ty := tyX7) 68 h25 cf_6 rfl wd_fl_X7_12 dX7_signOf_65 rfl ?_
        refine V_iload_n 3 69 rfl dX7_signOf_68 rfl rfl ?_
        refine V_iload 0 71 rfl dX7_signOf_69 rfl ?_
        obtain ⟨v28, h27, hf⟩ := ob hf
        refine V_callV (rest := []) (T := TX4) (n := 11) (ci := 3) 0 0 74 [.int v28] (c_X4_hairAt l G (d + 300) _ _ _ _ _ h27) (by omega) ok_X4_hairAt okv_X4_hairAt (gd_X4_hairAt h27) rfl wd_ml_X7_166 rfl rfl (Nat.le_of_ble_eq_true rfl) rfl rfl (Or.inl ⟨rfl, rfl⟩) dX7_signOf_71 rfl rfl ?_
        obtain ⟨v30, h29, hf⟩ := ob hf
        refine V_callS (rest := []) 0 0 77 [.int v30] (c_J9_abs_0f7a4 l G (d + 301) _ _ _ h29) (by omega) ok_J9_abs_0f7a4 oks_J9_abs_0f7a4 wd_ml_X7_371 rfl rfl (Nat.le_of_ble_eq_true rfl) rfl rfl (Or.inl ⟨rfl, rfl⟩) dX7_signOf_74 rfl rfl ?_
        refine V_iload_n 1 78 rfl dX7_signOf_77 rfl rfl ?_
        refine V_icmp_le 83 81 dX7_signOf_78 (by decide) rfl (fun c31 => ?_) (fun c31 => ?_)
        · rw [if_pos c31] at hf
          refine V_iinc (x4 + 1) 0 [(4, .int (x4 + 1)), (3, .int x3), (0, .ref t), (1, .int x1)] 86 dX7_signOf_83 rfl (by rw [kiconst_1]) (by decide) rfl rfl ?_
          refine V_goto 49 dX7_signOf_86 (by decide) ?_
          refine V_ls [(4, .int (x4 + 1)), (3, .int x3), (0, .ref t), (1, .int x1)] [0, 1, 2, 3] rfl ?_
          exact ih _ _ hf hk1 hk
        · rw [if_neg c31] at hf
          refine V_iconst 1 82 dX7_signOf_81 rfl kiconst_1 ?_
          have ep := Option.some.inj hf
          subst ep
          have er := hk1 _ rfl
          obtain ⟨e1, e2⟩ := Prod.mk.inj er
          subst e1
          subst e2
          exact V_iret hQ rfl dX7_signOf_82
  by_cases hg : isO σ 6 t = true
  · rw [if_pos hg] at hf
    refine V_aload_n 0 1 rfl dX7_signOf_0 rfl rfl ?_
    obtain ⟨q2, h1, hf⟩ := ob hf
    refine V_getQ (n := 10) (ty := tyX7) 4 h1 cf_6 rfl wd_fl_X7_12 dX7_signOf_1 rfl ?_
    obtain ⟨q4, h3, hf⟩ := ob hf
    refine V_getQ (n := 11) (ty := tyX4) 7 h3 cf_3 rfl wd_fl_X7_126 dX7_signOf_4 rfl ?_
    refine V_iload_n 1 8 rfl dX7_signOf_7 rfl rfl ?_
    refine V_iconst 2 9 dX7_signOf_8 rfl kiconst_2 ?_
    obtain ⟨v6, h5, hf⟩ := ob hf
    refine V_callV (rest := []) (T := TX5) (n := 4) (ci := 4) 0 0 12 [.int v6] (c_X5_at l G (d + 301) _ _ _ _ _ h5) (by omega) ok_X5_at okv_X5_at (gd_X5_at h5) rfl wd_ml_X7_76 rfl rfl (Nat.le_of_ble_eq_true rfl) rfl rfl (Or.inl ⟨rfl, rfl⟩) dX7_signOf_9 rfl rfl ?_
    refine V_istore_n [(2, .int v6), (0, .ref t), (1, .int a0)] 13 dX7_signOf_12 rfl (by decide) rfl rfl ?_
    refine V_aload_n 1 14 rfl dX7_signOf_13 rfl rfl ?_
    refine V_iconst 1 15 dX7_signOf_14 rfl kiconst_1 ?_
    refine V_iload_n 0 16 rfl dX7_signOf_15 rfl rfl ?_
    refine V_aload_n 1 17 rfl dX7_signOf_16 rfl rfl ?_
    obtain ⟨q8, h7, hf⟩ := ob hf
    refine V_getQ (n := 10) (ty := tyX7) 20 h7 cf_6 rfl wd_fl_X7_12 dX7_signOf_17 rfl ?_
    refine V_iload_n 2 21 rfl dX7_signOf_20 rfl rfl ?_
    obtain ⟨v10, h9, hf⟩ := ob hf
    refine V_callV (rest := [.int v6, .int 1, .ref t]) (T := TX4) (n := 11) (ci := 3) 0 0 24 [.int v10, .int v6, .int 1, .ref t] (c_X4_dayOf l G (d + 300) _ _ _ _ h9) (by omega) ok_X4_dayOf okv_X4_dayOf (gd_X4_dayOf h9) rfl wd_ml_X7_368 rfl rfl (Nat.le_of_ble_eq_true rfl) rfl rfl (Or.inl ⟨rfl, rfl⟩) dX7_signOf_21 rfl rfl ?_
    refine V_iconst 0 25 dX7_signOf_24 rfl kiconst_0 ?_
    obtain ⟨p12, h11, hf⟩ := ob hf
    refine V_callV (rest := []) (T := TX7) (n := 10) (ci := 6) 0 0 28 [.int p12.1] (c_X7_worth l G (d + 0) _ _ _ _ _ _ _ _ h11) (by omega) ok_X7_worth okv_X7_worth (gd_X7_worth h11) rfl wd_ml_X7_207 rfl rfl (Nat.le_of_ble_eq_true rfl) rfl rfl (Or.inl ⟨rfl, rfl⟩) dX7_signOf_25 rfl rfl ?_
    refine V_if_ne 33 31 dX7_signOf_28 (by decide) rfl (fun c13 => ?_) (fun c13 => ?_)
    · rw [if_neg c13] at hf
      refine V_aload_n 1 34 rfl dX7_signOf_33 rfl rfl ?_
      obtain ⟨q15, h14, hf⟩ := ob hf
      refine V_getQ (n := 10) (ty := tyX7) 37 h14 cf_6 rfl wd_fl_X7_12 dX7_signOf_34 rfl ?_
      obtain ⟨q17, h16, hf⟩ := ob hf
      refine V_getQ (n := 11) (ty := tyX4) 40 h16 cf_3 rfl wd_fl_X7_72 dX7_signOf_37 rfl ?_
      refine V_iload_n 0 41 rfl dX7_signOf_40 rfl rfl ?_
      refine V_iconst 2 42 dX7_signOf_41 rfl kiconst_2 ?_
      obtain ⟨v19, h18, hf⟩ := ob hf
      refine V_callV (rest := []) (T := TX5) (n := 4) (ci := 4) 0 0 45 [.int v19] (c_X5_at l G (d + 301) _ _ _ _ _ h18) (by omega) ok_X5_at okv_X5_at (gd_X5_at h18) rfl wd_ml_X7_76 rfl rfl (Nat.le_of_ble_eq_true rfl) rfl rfl (Or.inl ⟨rfl, rfl⟩) dX7_signOf_42 rfl rfl ?_
      refine V_istore_n [(3, .int v19), (2, .int v6), (0, .ref t), (1, .int a0)] 46 dX7_signOf_45 rfl (by decide) rfl rfl ?_
      refine V_iconst 1 47 dX7_signOf_46 rfl kiconst_1 ?_
      refine V_istore [(4, .int 1), (3, .int v19), (2, .int v6), (0, .ref t), (1, .int a0)] 49 dX7_signOf_47 (by decide) rfl rfl ?_
      obtain ⟨p32, h33, hf⟩ := ob hf
      refine V_ls [(4, .int 1), (3, .int v19), (0, .ref t), (1, .int a0)] [0, 1, 3, 4] rfl ?_
      refine L49 p12.2 v19 a0 3000 1 p32 h33 (fun v hv => ?_) (fun p34 hq => ?_)
      · subst hv
        cases hf
        rfl
      subst hq
      simp only [Sum.elim_inr] at hf
      refine V_iconst 2 90 dX7_signOf_89 rfl kiconst_2 ?_
      have er := Option.some.inj hf
      obtain ⟨e1, e2⟩ := Prod.mk.inj er
      subst e1
      subst e2
      exact V_iret hQ rfl dX7_signOf_90
    · rw [if_pos c13] at hf
      refine V_iconst 0 32 dX7_signOf_31 rfl kiconst_0 ?_
      have er := Option.some.inj hf
      obtain ⟨e1, e2⟩ := Prod.mk.inj er
      subst e1
      subst e2
      exact V_iret hQ rfl dX7_signOf_32
  · rw [if_neg hg] at hf
    cases hf
abbrev mi_X7_sign : MI := (yX7_sign, cX7_sign, 2, some .int)
theorem ok_X7_sign : OkN mi_X7_sign 1 := ⟨wd_cd_X7_sign, wd_in_X7, ⟨by decide +kernel, by decide +kernel, by decide +kernel⟩, by decide⟩
theorem okv_X7_sign : Cond.instanceMethod (mi_X7_sign).1 ∈ tb ∧ Cond.selects (mi_X7_sign).1.cls (mi_X7_sign).1 (mi_X7_sign).1 ∈ tb := ⟨wd_im_X7_sign, wd_se_X7_sign⟩
def f_X7_sign (σ : St) (t : Nat) (a0 : Int32) : Option (Int32 × St) := if isO σ 6 t = true then ((gQ σ 6 t 0).bind fun q2 => (gQ σ 3 q2 2).bind fun q4 => (f_X5_has σ q4 a0).bind fun v6 => if v6 = 0 then ((f_X7_fails σ t (-1000001)).bind fun p11 => some (p11.1, p11.2)) else ((f_X7_signOf σ t a0).bind fun p9 => some (p9.1, p9.2))) else none
theorem gd_X7_sign {σ : St} {t : Nat} {a0 : Int32} {r : Int32 × St} (h : f_X7_sign σ t a0 = some r) : isO σ 6 t = true := by
  unfold f_X7_sign at h
  by_cases hg : isO σ 6 t = true
  · exact hg
  · rw [if_neg hg] at h
    cases h
set_option maxRecDepth 100000 in
set_option maxHeartbeats 4000000 in
theorem c_X7_sign (l : Launch) (G : Gd) (d : Nat) (σ : St) (t : Nat) (a0 : Int32) (r0 : Int32) (σ' : St) (hf : f_X7_sign σ t a0 = some (r0, σ')) : MetV l G (d + 304) mi_X7_sign [.ref t, .int a0] σ (some (.int r0)) σ' 0 0 := by
  unfold f_X7_sign at hf
  refine MetV.of [(0, .ref t), (1, .int a0)] (by decide +kernel) rfl (Nat.le_of_ble_eq_true rfl) ?_
  intro X hQ
  by_cases hg : isO σ 6 t = true
  · rw [if_pos hg] at hf
    refine V_aload_n 0 1 rfl dX7_sign_0 rfl rfl ?_
    obtain ⟨q2, h1, hf⟩ := ob hf
    refine V_getQ (n := 10) (ty := tyX7) 4 h1 cf_6 rfl wd_fl_X7_12 dX7_sign_1 rfl ?_
    obtain ⟨q4, h3, hf⟩ := ob hf
    refine V_getQ (n := 11) (ty := tyX4) 7 h3 cf_3 rfl wd_fl_X7_126 dX7_sign_4 rfl ?_
    refine V_iload_n 1 8 rfl dX7_sign_7 rfl rfl ?_
    obtain ⟨v6, h5, hf⟩ := ob hf
    refine V_callV (rest := []) (T := TX5) (n := 4) (ci := 4) 0 0 11 [.int v6] (c_X5_has l G (d + 302) _ _ _ _ h5) (by omega) ok_X5_has okv_X5_has (gd_X5_has h5) rfl wd_ml_X7_101 rfl rfl (Nat.le_of_ble_eq_true rfl) rfl rfl (Or.inl ⟨rfl, rfl⟩) dX7_sign_8 rfl rfl ?_
    refine V_if_ne 21 14 dX7_sign_11 (by decide) rfl (fun c7 => ?_) (fun c7 => ?_)
    · rw [if_neg c7] at hf
      refine V_aload_n 0 22 rfl dX7_sign_21 rfl rfl ?_
      refine V_iload_n 1 23 rfl dX7_sign_22 rfl rfl ?_
      obtain ⟨p9, h8, hf⟩ := ob hf
      refine V_callV (rest := []) (T := TX7) (n := 10) (ci := 6) 0 0 26 [.int p9.1] (c_X7_signOf l G (d + 0) _ _ _ _ _ h8) (by omega) ok_X7_signOf okv_X7_signOf (gd_X7_signOf h8) rfl wd_ml_X7_255 rfl rfl (Nat.le_of_ble_eq_true rfl) rfl rfl (Or.inl ⟨rfl, rfl⟩) dX7_sign_23 rfl rfl ?_
      have er := Option.some.inj hf
      obtain ⟨e1, e2⟩ := Prod.mk.inj er
      subst e1
      subst e2
      exact V_iret hQ rfl dX7_sign_26
    · rw [if_pos c7] at hf
      refine V_aload_n 0 15 rfl dX7_sign_14 rfl rfl ?_
      refine V_ldc (-1000001) 17 dX7_sign_15 rfl wd_kk_X7_67 ?_
      obtain ⟨p11, h10, hf⟩ := ob hf
      refine V_callV (rest := []) (T := TX7) (n := 10) (ci := 6) 0 0 20 [.int p11.1] (c_X7_fails l G (d + 301) _ _ _ _ _ h10) (by omega) ok_X7_fails okv_X7_fails (gd_X7_fails h10) rfl wd_ml_X7_68 rfl rfl (Nat.le_of_ble_eq_true rfl) rfl rfl (Or.inl ⟨rfl, rfl⟩) dX7_sign_17 rfl rfl ?_
      have er := Option.some.inj hf
      obtain ⟨e1, e2⟩ := Prod.mk.inj er
      subst e1
      subst e2
      exact V_iret hQ rfl dX7_sign_20
  · rw [if_neg hg] at hf
    cases hf
abbrev mi_X7_unsigned : MI := (yX7_unsigned, cX7_unsigned, 3, some .int)
theorem ok_X7_unsigned : OkN mi_X7_unsigned 0 := ⟨wd_cd_X7_unsigned, wd_in_X7, ⟨by decide +kernel, by decide +kernel, by decide +kernel⟩, by decide⟩
theorem okv_X7_unsigned : Cond.instanceMethod (mi_X7_unsigned).1 ∈ tb ∧ Cond.selects (mi_X7_unsigned).1.cls (mi_X7_unsigned).1 (mi_X7_unsigned).1 ∈ tb := ⟨wd_im_X7_unsigned, wd_se_X7_unsigned⟩
def f_X7_unsigned_L4 (t : Nat) : Nat → Int32 → Int32 → St → Option (Int32 × Int32 × St)
  | 0, _, _, _ => none
  | n + 1, x2, x1, σ => (gQ σ 6 t 0).bind fun q2 => (gQ σ 3 q2 2).bind fun q4 => (gI σ 4 q4 3).bind fun v6 => if v6 ≤ x2 then (some (x2, x1, σ)) else ((f_X7_signOf σ t x2).bind fun p9 => f_X7_unsigned_L4 t n (x2 + 1) (if p9.1 = 2 then (x1 ||| ((1 : Int32) <<< (x2 &&& 31))) else x1 : Int32) p9.2)
def f_X7_unsigned (σ : St) (t : Nat) : Option (Int32 × St) := if isO σ 6 t = true then ((f_X7_unsigned_L4 t 3000 0 0 σ).bind fun p12 => some (p12.2.1, p12.2.2)) else none
theorem gd_X7_unsigned {σ : St} {t : Nat} {r : Int32 × St} (h : f_X7_unsigned σ t = some r) : isO σ 6 t = true := by
  unfold f_X7_unsigned at h
  by_cases hg : isO σ 6 t = true
  · exact hg
  · rw [if_neg hg] at h
    cases h
set_option maxRecDepth 100000 in
set_option maxHeartbeats 4000000 in
theorem c_X7_unsigned (l : Launch) (G : Gd) (d : Nat) (σ : St) (t : Nat) (r0 : Int32) (σ' : St) (hf : f_X7_unsigned σ t = some (r0, σ')) : MetV l G (d + 304) mi_X7_unsigned [.ref t] σ (some (.int r0)) σ' 0 0 := by
  unfold f_X7_unsigned at hf
  refine MetV.of [(0, .ref t)] (by decide +kernel) rfl (Nat.le_of_ble_eq_true rfl) ?_
  intro X hQ
  have L4 : ∀  (n : Nat) (x2 : Int32) (x1 : Int32) (σ : St) (p : Int32 × Int32 × St), f_X7_unsigned_L4 t n x2 x1 σ = some p → V mi_X7_unsigned l G (d + 304) 0 0 X 0 0 39 [(2, .int p.1), (1, .int p.2.1), (0, .ref t)] [] p.2.2 → V mi_X7_unsigned l G (d + 304) 0 0 X 0 0 4 [(2, .int x2), (1, .int x1), (0, .ref t)] [] σ := by
    intro  n
    induction n with
    | zero =>
      intro x2 x1 σ p hf
      exact absurd (show (none : Option _) = some p from hf) (by simp)
    | succ n ih =>
      intro x2 x1 σ p hf hk
      rw [f_X7_unsigned_L4] at hf
      refine V_iload_n 0 5 rfl dX7_unsigned_4 rfl rfl ?_
      refine V_aload_n 2 6 rfl dX7_unsigned_5 rfl rfl ?_
      obtain ⟨q2, h1, hf⟩ := ob hf
      refine V_getQ (n := 10) (ty := tyX7) 9 h1 cf_6 rfl wd_fl_X7_12 dX7_unsigned_6 rfl ?_
      obtain ⟨q4, h3, hf⟩ := ob hf
      refine V_getQ (n := 11) (ty := tyX4) 12 h3 cf_3 rfl wd_fl_X7_126 dX7_unsigned_9 rfl ?_
      obtain ⟨v6, h5, hf⟩ := ob hf
      refine V_getI (n := 4) (ty := tyX5) 15 h5 cf_4 rfl wd_fl_X7_229 dX7_unsigned_12 rfl ?_
      refine V_icmp_ge 39 18 dX7_unsigned_15 (by decide) rfl (fun c7 => ?_) (fun c7 => ?_)
      · rw [if_pos c7] at hf
        have ep := Option.some.inj hf
        subst ep
        refine V_ls [(2, .int x2), (1, .int x1), (0, .ref t)] [0, 1, 2] rfl ?_
        exact hk
      · rw [if_neg c7] at hf
        refine V_aload_n 2 19 rfl dX7_unsigned_18 rfl rfl ?_
        refine V_iload_n 0 20 rfl dX7_unsigned_19 rfl rfl ?_
        obtain ⟨p9, h8, hf⟩ := ob hf
        refine V_callV (rest := []) (T := TX7) (n := 10) (ci := 6) 0 0 23 [.int p9.1] (c_X7_signOf l G (d + 0) _ _ _ _ _ h8) (by omega) ok_X7_signOf okv_X7_signOf (gd_X7_signOf h8) rfl wd_ml_X7_255 rfl rfl (Nat.le_of_ble_eq_true rfl) rfl rfl (Or.inl ⟨rfl, rfl⟩) dX7_unsigned_20 rfl rfl ?_
        refine V_iconst 2 24 dX7_unsigned_23 rfl kiconst_2 ?_
        have kj10 : V mi_X7_unsigned l G (d + 304) 0 0 X 0 0 33 [(2, .int x2), (1, .int (if p9.1 = 2 then (x1 ||| ((1 : Int32) <<< (x2 &&& 31))) else x1 : Int32)), (0, .ref t)] [] p9.2 := by
          refine V_iinc (x2 + 1) 0 [(2, .int (x2 + 1)), (1, .int (if p9.1 = 2 then (x1 ||| ((1 : Int32) <<< (x2 &&& 31))) else x1 : Int32)), (0, .ref t)] 36 dX7_unsigned_33 rfl (by rw [kiconst_1]) (by decide) rfl rfl ?_
          refine V_goto 4 dX7_unsigned_36 (by decide) ?_
          refine V_ls [(2, .int (x2 + 1)), (1, .int (if p9.1 = 2 then (x1 ||| ((1 : Int32) <<< (x2 &&& 31))) else x1 : Int32)), (0, .ref t)] [0, 1, 2] rfl ?_
          exact ih _ _ _ _ hf hk
        refine V_icmp_ne 33 27 dX7_unsigned_24 (by decide) rfl (fun c11 => ?_) (fun c11 => ?_)
        · refine V_ls [(2, .int x2), (1, .int x1), (0, .ref t)] [0, 1, 2] rfl ?_
          simp only [if_neg c11] at kj10
          exact kj10
        · refine V_iload_n 1 28 rfl dX7_unsigned_27 rfl rfl ?_
          refine V_iconst 1 29 dX7_unsigned_28 rfl kiconst_1 ?_
          refine V_iload_n 0 30 rfl dX7_unsigned_29 rfl rfl ?_
          refine V_ishl 31 dX7_unsigned_30 rfl ?_
          refine V_ior 32 dX7_unsigned_31 rfl ?_
          refine V_istore_n [(1, .int (x1 ||| ((1 : Int32) <<< (x2 &&& 31)))), (2, .int x2), (0, .ref t)] 33 dX7_unsigned_32 rfl (by decide) rfl rfl ?_
          refine V_ls [(2, .int x2), (1, .int (x1 ||| ((1 : Int32) <<< (x2 &&& 31)))), (0, .ref t)] [1, 0, 2] rfl ?_
          simp only [if_pos c11] at kj10
          exact kj10
  by_cases hg : isO σ 6 t = true
  · rw [if_pos hg] at hf
    refine V_iconst 0 1 dX7_unsigned_0 rfl kiconst_0 ?_
    refine V_istore_n [(1, .int 0), (0, .ref t)] 2 dX7_unsigned_1 rfl (by decide) rfl rfl ?_
    refine V_iconst 0 3 dX7_unsigned_2 rfl kiconst_0 ?_
    refine V_istore_n [(2, .int 0), (1, .int 0), (0, .ref t)] 4 dX7_unsigned_3 rfl (by decide) rfl rfl ?_
    obtain ⟨p12, h13, hf⟩ := ob hf
    refine V_ls [(2, .int 0), (1, .int 0), (0, .ref t)] [0, 1, 2] rfl ?_
    refine L4 3000 0 0 σ p12 h13 ?_
    refine V_iload_n 1 40 rfl dX7_unsigned_39 rfl rfl ?_
    have er := Option.some.inj hf
    obtain ⟨e1, e2⟩ := Prod.mk.inj er
    subst e1
    subst e2
    exact V_iret hQ rfl dX7_unsigned_40
  · rw [if_neg hg] at hf
    cases hf
