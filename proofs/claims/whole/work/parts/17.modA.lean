abbrev mi_X8_init : MI := (yX8_init, cX8_init, 2, none)
theorem ok_X8_init : OkN mi_X8_init 0 := ⟨wd_cd_X8_init, wd_in_X8, ⟨by decide +kernel, by decide +kernel, by decide +kernel⟩, by decide⟩
theorem oki_X8_init : (mi_X8_init).1.name = "<init>" ∧ Cond.instanceMethod (mi_X8_init).1 ∈ tb ∧ (mi_X8_init).2.2.2 = none := ⟨rfl, wd_im_X8_init, rfl⟩
def f_X8_init_L155 (t : Nat) : Nat → Int32 → St → Option (Int32 × St)
  | 0, _, _ => none
  | n + 1, x1, σ => if 4 ≤ x1 then (some (x1, σ)) else ((gQ σ 7 t 0).bind fun q77 => (sI σ q77 ((10 : Int32) + ((3 : Int32) * x1)) 1).bind fun s79 => f_X8_init_L155 t n (x1 + 1) s79)
def f_X8_init (σ : St) (t : Nat) : Option St := if isO σ 7 t = true then ((nwA σ 0 1234).bind fun s2 => (pQ s2 7 t 0 σ.2.2).bind fun s4 => (nwA s4 0 1234).bind fun s6 => (pQ s6 7 t 1 s4.2.2).bind fun s8 => (nwA s8 0 7).bind fun s10 => (pQ s10 7 t 3 s8.2.2).bind fun s12 => (nwA s12 4 3).bind fun s14 => (sS s14 s12.2.2 0 1004).bind fun s16 => (sS s16 s12.2.2 1 1005).bind fun s18 => (sS s18 s12.2.2 2 1006).bind fun s20 => (pQ s20 7 t 4 s12.2.2).bind fun s22 => (nwA s22 0 57).bind fun s24 => (pQ s24 7 t 11 s22.2.2).bind fun s26 => (nwA s26 0 3).bind fun s28 => (pQ s28 7 t 12 s26.2.2).bind fun s30 => (nwA s30 0 57).bind fun s32 => (pQ s32 7 t 13 s30.2.2).bind fun s34 => (nwA s34 0 5).bind fun s36 => (pQ s36 7 t 15 s34.2.2).bind fun s38 => (nwA s38 0 24).bind fun s40 => (pQ s40 7 t 16 s38.2.2).bind fun s42 => (nwA s42 0 8).bind fun s44 => (pQ s44 7 t 17 s42.2.2).bind fun s46 => (nwA s46 0 30).bind fun s48 => (pQ s48 7 t 18 s46.2.2).bind fun s50 => (nwA s50 0 30).bind fun s52 => (pQ s52 7 t 19 s50.2.2).bind fun s54 => (nwA s54 0 4).bind fun s56 => (pQ s56 7 t 23 s54.2.2).bind fun s58 => (nwA s58 0 4).bind fun s60 => (pQ s60 7 t 24 s58.2.2).bind fun s62 => (nwA s62 0 96).bind fun s64 => (pQ s64 7 t 25 s62.2.2).bind fun s66 => (nwA s66 0 24).bind fun s68 => (pQ s68 7 t 26 s66.2.2).bind fun s70 => (gQ s70 7 t 0).bind fun q72 => (sI s70 q72 7 1).bind fun s74 => (f_X8_init_L155 t 3000 0 s74).bind fun p80 => some p80.2) else none
theorem gd_X8_init {σ : St} {t : Nat} {r : St} (h : f_X8_init σ t = some r) : isO σ 7 t = true := by
  unfold f_X8_init at h
  by_cases hg : isO σ 7 t = true
  · exact hg
  · rw [if_neg hg] at h
    cases h
set_option maxRecDepth 100000 in
set_option maxHeartbeats 4000000 in
theorem c_X8_init (l : Launch) (G : Gd) (d : Nat) (σ : St) (t : Nat) (σ' : St) (hf : f_X8_init σ t = some σ') : MetV l G (d + 2) mi_X8_init [.ref t] σ none σ' 16 2820 := by
  unfold f_X8_init at hf
  obtain ⟨mc0, emc⟩ : ∃ z : Nat, z = 16 := ⟨_, rfl⟩
  obtain ⟨ms0, ems⟩ : ∃ z : Nat, z = 2820 := ⟨_, rfl⟩
  rw [← emc, ← ems]
  refine MetV.of [(0, .ref t)] (by decide +kernel) rfl (Nat.le_of_ble_eq_true rfl) ?_
  intro X hQ
  have L155 : ∀  (ce sl : Nat) (n : Nat) (x1 : Int32) (σ : St) (p : Int32 × St), f_X8_init_L155 t n x1 σ = some p → V mi_X8_init l G (d + 2) mc0 ms0 X ce sl 178 [(1, .int p.1), (0, .ref t)] [] p.2 → V mi_X8_init l G (d + 2) mc0 ms0 X ce sl 155 [(1, .int x1), (0, .ref t)] [] σ := by
    intro  ce sl n
    induction n with
    | zero =>
      intro x1 σ p hf
      exact absurd (show (none : Option _) = some p from hf) (by simp)
    | succ n ih =>
      intro x1 σ p hf hk
      rw [f_X8_init_L155] at hf
      refine V_iload_n 0 156 rfl dX8_init_155 rfl rfl ?_
      refine V_iconst 4 157 dX8_init_156 rfl kiconst_4 ?_
      refine V_icmp_ge 178 160 dX8_init_157 (by decide) rfl (fun c75 => ?_) (fun c75 => ?_)
      · rw [if_pos c75] at hf
        have ep := Option.some.inj hf
        subst ep
        refine V_ls [(1, .int x1), (0, .ref t)] [0, 1] rfl ?_
        exact hk
      · rw [if_neg c75] at hf
        refine V_aload_n 1 161 rfl dX8_init_160 rfl rfl ?_
        obtain ⟨q77, h76, hf⟩ := ob hf
        refine V_getQ (n := 27) (ty := tyX8) 164 h76 cf_7 rfl wd_fl_X8_9 dX8_init_161 rfl ?_
        refine V_bipush 10 166 dX8_init_164 rfl kbipush_10 ?_
        refine V_iconst 3 167 dX8_init_166 rfl kiconst_3 ?_
        refine V_iload_n 0 168 rfl dX8_init_167 rfl rfl ?_
        refine V_imul 169 dX8_init_168 rfl ?_
        refine V_iadd 170 dX8_init_169 rfl ?_
        refine V_iconst 1 171 dX8_init_170 rfl kiconst_1 ?_
        obtain ⟨s79, h78, hf⟩ := ob hf
        refine V_iast 172 h78 dX8_init_171 rfl ?_
        refine V_iinc (x1 + 1) 0 [(1, .int (x1 + 1)), (0, .ref t)] 175 dX8_init_172 rfl (by rw [kiconst_1]) (by decide) rfl rfl ?_
        refine V_goto 155 dX8_init_175 (by decide) ?_
        refine V_ls [(1, .int (x1 + 1)), (0, .ref t)] [0, 1] rfl ?_
        exact ih _ _ _ hf hk
  by_cases hg : isO σ 7 t = true
  · rw [if_pos hg] at hf
    refine V_aload_n 0 1 rfl dX8_init_0 rfl rfl ?_
    refine V_objInit 4 wd_ml_X8_3 wd_im_java_lang_Object__init_ wd_objc (by omega) (Nat.le_of_ble_eq_true rfl) dX8_init_1 rfl ?_
    refine V_aload_n 0 5 rfl dX8_init_4 rfl rfl ?_
    refine V_sipush 1234 8 dX8_init_5 rfl ksipush_1234 ?_
    obtain ⟨s2, h1, hf⟩ := ob hf
    refine V_newa (fty := .int) 10 h1 (by decide) wd_ac_int (by omega) (by rw [show (1234 : Int32).toNatClampNeg = 1234 from by decide]; omega) dX8_init_8 rfl ?_
    refine V_cnt (ce1 := (0 + 1)) (sl1 := (0 + 1234)) (by omega) (by rw [show (1234 : Int32).toNatClampNeg = 1234 from by decide]; omega) ?_
    obtain ⟨s4, h3, hf⟩ := ob hf
    refine V_putQ (n := 27) (T := TX8) (ty := tyX8) (f := 0) 13 h3 cf_7 rfl (Or.inr ⟨_, rfl⟩) (Or.inr ⟨rfl, rfl, rfl⟩) wd_fl_X8_9 dX8_init_10 rfl ?_
    refine V_aload_n 0 14 rfl dX8_init_13 rfl rfl ?_
    refine V_sipush 1234 17 dX8_init_14 rfl ksipush_1234 ?_
    obtain ⟨s6, h5, hf⟩ := ob hf
    refine V_newa (fty := .int) 19 h5 (by decide) wd_ac_int (by omega) (by rw [show (1234 : Int32).toNatClampNeg = 1234 from by decide]; omega) dX8_init_17 rfl ?_
    refine V_cnt (ce1 := ((0 + 1) + 1)) (sl1 := ((0 + 1234) + 1234)) (by omega) (by rw [show (1234 : Int32).toNatClampNeg = 1234 from by decide]; omega) ?_
    obtain ⟨s8, h7, hf⟩ := ob hf
    refine V_putQ (n := 27) (T := TX8) (ty := tyX8) (f := 1) 22 h7 cf_7 rfl (Or.inr ⟨_, rfl⟩) (Or.inr ⟨rfl, rfl, rfl⟩) wd_fl_X8_13 dX8_init_19 rfl ?_
    refine V_aload_n 0 23 rfl dX8_init_22 rfl rfl ?_
    refine V_bipush 7 25 dX8_init_23 rfl kbipush_7 ?_
    obtain ⟨s10, h9, hf⟩ := ob hf
    refine V_newa (fty := .int) 27 h9 (by decide) wd_ac_int (by omega) (by rw [show (7 : Int32).toNatClampNeg = 7 from by decide]; omega) dX8_init_25 rfl ?_
    refine V_cnt (ce1 := (((0 + 1) + 1) + 1)) (sl1 := (((0 + 1234) + 1234) + 7)) (by omega) (by rw [show (7 : Int32).toNatClampNeg = 7 from by decide]; omega) ?_
    obtain ⟨s12, h11, hf⟩ := ob hf
    refine V_putQ (n := 27) (T := TX8) (ty := tyX8) (f := 3) 30 h11 cf_7 rfl (Or.inr ⟨_, rfl⟩) (Or.inr ⟨rfl, rfl, rfl⟩) wd_fl_X8_16 dX8_init_27 rfl ?_
    refine V_aload_n 0 31 rfl dX8_init_30 rfl rfl ?_
    refine V_iconst 3 32 dX8_init_31 rfl kiconst_3 ?_
    obtain ⟨s14, h13, hf⟩ := ob hf
    refine V_anew (t := 4) 35 h13 (by decide) wd_cl_X8_19 (by omega) (by rw [show (3 : Int32).toNatClampNeg = 3 from by decide]; omega) dX8_init_32 rfl ?_
    refine V_cnt (ce1 := ((((0 + 1) + 1) + 1) + 1)) (sl1 := ((((0 + 1234) + 1234) + 7) + 3)) (by omega) (by rw [show (3 : Int32).toNatClampNeg = 3 from by decide]; omega) ?_
    refine V_dup 36 dX8_init_35 rfl rfl ?_
    refine V_iconst 0 37 dX8_init_36 rfl kiconst_0 ?_
    refine V_ldcS 39 (j := 4) (tx := "xmd") (fun s h => h.2.2.2.2.2.1.1) (by decide) dX8_init_37 rfl ?_
    obtain ⟨s16, h15, hf⟩ := ob hf
    refine V_aastS 40 h15 dX8_init_39 rfl ?_
    refine V_dup 41 dX8_init_40 rfl rfl ?_
    refine V_iconst 1 42 dX8_init_41 rfl kiconst_1 ?_
    refine V_ldcS 44 (j := 5) (tx := "md") (fun s h => h.2.2.2.2.2.1.2.1) (by decide) dX8_init_42 rfl ?_
    obtain ⟨s18, h17, hf⟩ := ob hf
    refine V_aastS 45 h17 dX8_init_44 rfl ?_
    refine V_dup 46 dX8_init_45 rfl rfl ?_
    refine V_iconst 2 47 dX8_init_46 rfl kiconst_2 ?_
    refine V_ldcS 49 (j := 6) (tx := "hpd") (fun s h => h.2.2.2.2.2.1.2.2) (by decide) dX8_init_47 rfl ?_
    obtain ⟨s20, h19, hf⟩ := ob hf
    refine V_aastS 50 h19 dX8_init_49 rfl ?_
    obtain ⟨s22, h21, hf⟩ := ob hf
    refine V_putQ (n := 27) (T := TX8) (ty := tyX8) (f := 4) 53 h21 cf_7 rfl (Or.inr ⟨_, rfl⟩) (Or.inr ⟨rfl, rfl, rfl⟩) wd_fl_X8_27 dX8_init_50 rfl ?_
    refine V_aload_n 0 54 rfl dX8_init_53 rfl rfl ?_
    refine V_bipush 57 56 dX8_init_54 rfl kbipush_57 ?_
    obtain ⟨s24, h23, hf⟩ := ob hf
    refine V_newa (fty := .int) 58 h23 (by decide) wd_ac_int (by omega) (by rw [show (57 : Int32).toNatClampNeg = 57 from by decide]; omega) dX8_init_56 rfl ?_
    refine V_cnt (ce1 := (((((0 + 1) + 1) + 1) + 1) + 1)) (sl1 := (((((0 + 1234) + 1234) + 7) + 3) + 57)) (by omega) (by rw [show (57 : Int32).toNatClampNeg = 57 from by decide]; omega) ?_
    obtain ⟨s26, h25, hf⟩ := ob hf
    refine V_putQ (n := 27) (T := TX8) (ty := tyX8) (f := 11) 61 h25 cf_7 rfl (Or.inr ⟨_, rfl⟩) (Or.inr ⟨rfl, rfl, rfl⟩) wd_fl_X8_31 dX8_init_58 rfl ?_
    refine V_aload_n 0 62 rfl dX8_init_61 rfl rfl ?_
    refine V_iconst 3 63 dX8_init_62 rfl kiconst_3 ?_
    obtain ⟨s28, h27, hf⟩ := ob hf
    refine V_newa (fty := .int) 65 h27 (by decide) wd_ac_int (by omega) (by rw [show (3 : Int32).toNatClampNeg = 3 from by decide]; omega) dX8_init_63 rfl ?_
    refine V_cnt (ce1 := ((((((0 + 1) + 1) + 1) + 1) + 1) + 1)) (sl1 := ((((((0 + 1234) + 1234) + 7) + 3) + 57) + 3)) (by omega) (by rw [show (3 : Int32).toNatClampNeg = 3 from by decide]; omega) ?_
    obtain ⟨s30, h29, hf⟩ := ob hf
    refine V_putQ (n := 27) (T := TX8) (ty := tyX8) (f := 12) 68 h29 cf_7 rfl (Or.inr ⟨_, rfl⟩) (Or.inr ⟨rfl, rfl, rfl⟩) wd_fl_X8_34 dX8_init_65 rfl ?_
    refine V_aload_n 0 69 rfl dX8_init_68 rfl rfl ?_
    refine V_bipush 57 71 dX8_init_69 rfl kbipush_57 ?_
    obtain ⟨s32, h31, hf⟩ := ob hf
    refine V_newa (fty := .int) 73 h31 (by decide) wd_ac_int (by omega) (by rw [show (57 : Int32).toNatClampNeg = 57 from by decide]; omega) dX8_init_71 rfl ?_
    refine V_cnt (ce1 := (((((((0 + 1) + 1) + 1) + 1) + 1) + 1) + 1)) (sl1 := (((((((0 + 1234) + 1234) + 7) + 3) + 57) + 3) + 57)) (by omega) (by rw [show (57 : Int32).toNatClampNeg = 57 from by decide]; omega) ?_
    obtain ⟨s34, h33, hf⟩ := ob hf
    refine V_putQ (n := 27) (T := TX8) (ty := tyX8) (f := 13) 76 h33 cf_7 rfl (Or.inr ⟨_, rfl⟩) (Or.inr ⟨rfl, rfl, rfl⟩) wd_fl_X8_37 dX8_init_73 rfl ?_
    refine V_aload_n 0 77 rfl dX8_init_76 rfl rfl ?_
    refine V_iconst 5 78 dX8_init_77 rfl kiconst_5 ?_
    obtain ⟨s36, h35, hf⟩ := ob hf
    refine V_newa (fty := .int) 80 h35 (by decide) wd_ac_int (by omega) (by rw [show (5 : Int32).toNatClampNeg = 5 from by decide]; omega) dX8_init_78 rfl ?_
    refine V_cnt (ce1 := ((((((((0 + 1) + 1) + 1) + 1) + 1) + 1) + 1) + 1)) (sl1 := ((((((((0 + 1234) + 1234) + 7) + 3) + 57) + 3) + 57) + 5)) (by omega) (by rw [show (5 : Int32).toNatClampNeg = 5 from by decide]; omega) ?_
    obtain ⟨s38, h37, hf⟩ := ob hf
    refine V_putQ (n := 27) (T := TX8) (ty := tyX8) (f := 15) 83 h37 cf_7 rfl (Or.inr ⟨_, rfl⟩) (Or.inr ⟨rfl, rfl, rfl⟩) wd_fl_X8_40 dX8_init_80 rfl ?_
    refine V_aload_n 0 84 rfl dX8_init_83 rfl rfl ?_
    refine V_bipush 24 86 dX8_init_84 rfl kbipush_24 ?_
    obtain ⟨s40, h39, hf⟩ := ob hf
    refine V_newa (fty := .int) 88 h39 (by decide) wd_ac_int (by omega) (by rw [show (24 : Int32).toNatClampNeg = 24 from by decide]; omega) dX8_init_86 rfl ?_
    refine V_cnt (ce1 := (((((((((0 + 1) + 1) + 1) + 1) + 1) + 1) + 1) + 1) + 1)) (sl1 := (((((((((0 + 1234) + 1234) + 7) + 3) + 57) + 3) + 57) + 5) + 24)) (by omega) (by rw [show (24 : Int32).toNatClampNeg = 24 from by decide]; omega) ?_
    obtain ⟨s42, h41, hf⟩ := ob hf
    refine V_putQ (n := 27) (T := TX8) (ty := tyX8) (f := 16) 91 h41 cf_7 rfl (Or.inr ⟨_, rfl⟩) (Or.inr ⟨rfl, rfl, rfl⟩) wd_fl_X8_43 dX8_init_88 rfl ?_
    refine V_aload_n 0 92 rfl dX8_init_91 rfl rfl ?_
    refine V_bipush 8 94 dX8_init_92 rfl kbipush_8 ?_
    obtain ⟨s44, h43, hf⟩ := ob hf
    refine V_newa (fty := .int) 96 h43 (by decide) wd_ac_int (by omega) (by rw [show (8 : Int32).toNatClampNeg = 8 from by decide]; omega) dX8_init_94 rfl ?_
    refine V_cnt (ce1 := ((((((((((0 + 1) + 1) + 1) + 1) + 1) + 1) + 1) + 1) + 1) + 1)) (sl1 := ((((((((((0 + 1234) + 1234) + 7) + 3) + 57) + 3) + 57) + 5) + 24) + 8)) (by omega) (by rw [show (8 : Int32).toNatClampNeg = 8 from by decide]; omega) ?_
    obtain ⟨s46, h45, hf⟩ := ob hf
    refine V_putQ (n := 27) (T := TX8) (ty := tyX8) (f := 17) 99 h45 cf_7 rfl (Or.inr ⟨_, rfl⟩) (Or.inr ⟨rfl, rfl, rfl⟩) wd_fl_X8_46 dX8_init_96 rfl ?_
    refine V_aload_n 0 100 rfl dX8_init_99 rfl rfl ?_
    refine V_bipush 30 102 dX8_init_100 rfl kbipush_30 ?_
    obtain ⟨s48, h47, hf⟩ := ob hf
    refine V_newa (fty := .int) 104 h47 (by decide) wd_ac_int (by omega) (by rw [show (30 : Int32).toNatClampNeg = 30 from by decide]; omega) dX8_init_102 rfl ?_
    refine V_cnt (ce1 := (((((((((((0 + 1) + 1) + 1) + 1) + 1) + 1) + 1) + 1) + 1) + 1) + 1)) (sl1 := (((((((((((0 + 1234) + 1234) + 7) + 3) + 57) + 3) + 57) + 5) + 24) + 8) + 30)) (by omega) (by rw [show (30 : Int32).toNatClampNeg = 30 from by decide]; omega) ?_
    obtain ⟨s50, h49, hf⟩ := ob hf
    refine V_putQ (n := 27) (T := TX8) (ty := tyX8) (f := 18) 107 h49 cf_7 rfl (Or.inr ⟨_, rfl⟩) (Or.inr ⟨rfl, rfl, rfl⟩) wd_fl_X8_49 dX8_init_104 rfl ?_
    refine V_aload_n 0 108 rfl dX8_init_107 rfl rfl ?_
    refine V_bipush 30 110 dX8_init_108 rfl kbipush_30 ?_
    obtain ⟨s52, h51, hf⟩ := ob hf
    refine V_newa (fty := .int) 112 h51 (by decide) wd_ac_int (by omega) (by rw [show (30 : Int32).toNatClampNeg = 30 from by decide]; omega) dX8_init_110 rfl ?_
    refine V_cnt (ce1 := ((((((((((((0 + 1) + 1) + 1) + 1) + 1) + 1) + 1) + 1) + 1) + 1) + 1) + 1)) (sl1 := ((((((((((((0 + 1234) + 1234) + 7) + 3) + 57) + 3) + 57) + 5) + 24) + 8) + 30) + 30)) (by omega) (by rw [show (30 : Int32).toNatClampNeg = 30 from by decide]; omega) ?_
    obtain ⟨s54, h53, hf⟩ := ob hf
    refine V_putQ (n := 27) (T := TX8) (ty := tyX8) (f := 19) 115 h53 cf_7 rfl (Or.inr ⟨_, rfl⟩) (Or.inr ⟨rfl, rfl, rfl⟩) wd_fl_X8_52 dX8_init_112 rfl ?_
    refine V_aload_n 0 116 rfl dX8_init_115 rfl rfl ?_
    refine V_iconst 4 117 dX8_init_116 rfl kiconst_4 ?_
    obtain ⟨s56, h55, hf⟩ := ob hf
    refine V_newa (fty := .int) 119 h55 (by decide) wd_ac_int (by omega) (by rw [show (4 : Int32).toNatClampNeg = 4 from by decide]; omega) dX8_init_117 rfl ?_
    refine V_cnt (ce1 := (((((((((((((0 + 1) + 1) + 1) + 1) + 1) + 1) + 1) + 1) + 1) + 1) + 1) + 1) + 1)) (sl1 := (((((((((((((0 + 1234) + 1234) + 7) + 3) + 57) + 3) + 57) + 5) + 24) + 8) + 30) + 30) + 4)) (by omega) (by rw [show (4 : Int32).toNatClampNeg = 4 from by decide]; omega) ?_
    obtain ⟨s58, h57, hf⟩ := ob hf
    refine V_putQ (n := 27) (T := TX8) (ty := tyX8) (f := 23) 122 h57 cf_7 rfl (Or.inr ⟨_, rfl⟩) (Or.inr ⟨rfl, rfl, rfl⟩) wd_fl_X8_55 dX8_init_119 rfl ?_
    refine V_aload_n 0 123 rfl dX8_init_122 rfl rfl ?_
    refine V_iconst 4 124 dX8_init_123 rfl kiconst_4 ?_
    obtain ⟨s60, h59, hf⟩ := ob hf
    refine V_newa (fty := .int) 126 h59 (by decide) wd_ac_int (by omega) (by rw [show (4 : Int32).toNatClampNeg = 4 from by decide]; omega) dX8_init_124 rfl ?_
    refine V_cnt (ce1 := ((((((((((((((0 + 1) + 1) + 1) + 1) + 1) + 1) + 1) + 1) + 1) + 1) + 1) + 1) + 1) + 1)) (sl1 := ((((((((((((((0 + 1234) + 1234) + 7) + 3) + 57) + 3) + 57) + 5) + 24) + 8) + 30) + 30) + 4) + 4)) (by omega) (by rw [show (4 : Int32).toNatClampNeg = 4 from by decide]; omega) ?_
    obtain ⟨s62, h61, hf⟩ := ob hf
    refine V_putQ (n := 27) (T := TX8) (ty := tyX8) (f := 24) 129 h61 cf_7 rfl (Or.inr ⟨_, rfl⟩) (Or.inr ⟨rfl, rfl, rfl⟩) wd_fl_X8_58 dX8_init_126 rfl ?_
    refine V_aload_n 0 130 rfl dX8_init_129 rfl rfl ?_
    refine V_bipush 96 132 dX8_init_130 rfl kbipush_96 ?_
    obtain ⟨s64, h63, hf⟩ := ob hf
    refine V_newa (fty := .int) 134 h63 (by decide) wd_ac_int (by omega) (by rw [show (96 : Int32).toNatClampNeg = 96 from by decide]; omega) dX8_init_132 rfl ?_
    refine V_cnt (ce1 := (((((((((((((((0 + 1) + 1) + 1) + 1) + 1) + 1) + 1) + 1) + 1) + 1) + 1) + 1) + 1) + 1) + 1)) (sl1 := (((((((((((((((0 + 1234) + 1234) + 7) + 3) + 57) + 3) + 57) + 5) + 24) + 8) + 30) + 30) + 4) + 4) + 96)) (by omega) (by rw [show (96 : Int32).toNatClampNeg = 96 from by decide]; omega) ?_
    obtain ⟨s66, h65, hf⟩ := ob hf
    refine V_putQ (n := 27) (T := TX8) (ty := tyX8) (f := 25) 137 h65 cf_7 rfl (Or.inr ⟨_, rfl⟩) (Or.inr ⟨rfl, rfl, rfl⟩) wd_fl_X8_61 dX8_init_134 rfl ?_
    refine V_aload_n 0 138 rfl dX8_init_137 rfl rfl ?_
    refine V_bipush 24 140 dX8_init_138 rfl kbipush_24 ?_
    obtain ⟨s68, h67, hf⟩ := ob hf
    refine V_newa (fty := .int) 142 h67 (by decide) wd_ac_int (by omega) (by rw [show (24 : Int32).toNatClampNeg = 24 from by decide]; omega) dX8_init_140 rfl ?_
    refine V_cnt (ce1 := ((((((((((((((((0 + 1) + 1) + 1) + 1) + 1) + 1) + 1) + 1) + 1) + 1) + 1) + 1) + 1) + 1) + 1) + 1)) (sl1 := ((((((((((((((((0 + 1234) + 1234) + 7) + 3) + 57) + 3) + 57) + 5) + 24) + 8) + 30) + 30) + 4) + 4) + 96) + 24)) (by omega) (by rw [show (24 : Int32).toNatClampNeg = 24 from by decide]; omega) ?_
    obtain ⟨s70, h69, hf⟩ := ob hf
    refine V_putQ (n := 27) (T := TX8) (ty := tyX8) (f := 26) 145 h69 cf_7 rfl (Or.inr ⟨_, rfl⟩) (Or.inr ⟨rfl, rfl, rfl⟩) wd_fl_X8_64 dX8_init_142 rfl ?_
    refine V_aload_n 0 146 rfl dX8_init_145 rfl rfl ?_
    obtain ⟨q72, h71, hf⟩ := ob hf
    refine V_getQ (n := 27) (ty := tyX8) 149 h71 cf_7 rfl wd_fl_X8_9 dX8_init_146 rfl ?_
    refine V_bipush 7 151 dX8_init_149 rfl kbipush_7 ?_
    refine V_iconst 1 152 dX8_init_151 rfl kiconst_1 ?_
    obtain ⟨s74, h73, hf⟩ := ob hf
    refine V_iast 153 h73 dX8_init_152 rfl ?_
    refine V_iconst 0 154 dX8_init_153 rfl kiconst_0 ?_
    refine V_istore_n [(1, .int 0), (0, .ref t)] 155 dX8_init_154 rfl (by decide) rfl rfl ?_
    obtain ⟨p80, h81, hf⟩ := ob hf
    refine V_ls [(1, .int 0), (0, .ref t)] [0, 1] rfl ?_
    refine L155 ((((((((((((((((0 + 1) + 1) + 1) + 1) + 1) + 1) + 1) + 1) + 1) + 1) + 1) + 1) + 1) + 1) + 1) + 1) ((((((((((((((((0 + 1234) + 1234) + 7) + 3) + 57) + 3) + 57) + 5) + 24) + 8) + 30) + 30) + 4) + 4) + 96) + 24) 3000 0 s74 p80 h81 ?_
    have er := Option.some.inj hf
    subst er
    exact V_vret hQ rfl dX8_init_178
  · rw [if_neg hg] at hf
    cases hf
abbrev mi_X8_within : MI := (yX8_within, cX8_within, 3, some .boolean)
theorem ok_X8_within : OkN mi_X8_within 3 := ⟨wd_cd_X8_within, wd_in_X8, ⟨by decide +kernel, by decide +kernel, by decide +kernel⟩, by decide⟩
theorem oks_X8_within : Cond.static (mi_X8_within).1 ∈ tb := wd_sm_X8_within
def f_X8_within (σ : St) (a0 : Int32) (a1 : Int32) (a2 : Int32) : Option Int32 := (zr (if a0 < a1 then 0 else (if a2 < a0 then 0 else 1) : Int32)).bind fun z1 => some (if a0 < a1 then 0 else (if a2 < a0 then 0 else 1) : Int32)
set_option maxRecDepth 100000 in
set_option maxHeartbeats 4000000 in
theorem c_X8_within (l : Launch) (G : Gd) (d : Nat) (σ : St) (a0 : Int32) (a1 : Int32) (a2 : Int32) (r0 : Int32) (hf : f_X8_within σ a0 a1 a2 = some r0) : MetV l G (d + 1) mi_X8_within [.int a0, .int a1, .int a2] σ (some (.int r0)) σ 0 0 := by
  unfold f_X8_within at hf
  refine MetV.of [(0, .int a0), (1, .int a1), (2, .int a2)] (by decide +kernel) rfl (Nat.le_of_ble_eq_true rfl) ?_
  intro X hQ
  refine V_iload_n 0 1 rfl dX8_within_0 rfl rfl ?_
  refine V_iload_n 1 2 rfl dX8_within_1 rfl rfl ?_
  have kj3 : V mi_X8_within l G (d + 1) 0 0 X 0 0 15 [(0, .int a0), (1, .int a1), (2, .int a2)] [.int (if a0 < a1 then 0 else (if a2 < a0 then 0 else 1) : Int32)] σ := by
    obtain ⟨z1, h2, hf⟩ := ob hf
    have er := Option.some.inj hf
    subst er
    exact V_zret (zr_ok h2) hQ rfl dX8_within_15
  refine V_icmp_lt 14 5 dX8_within_2 (by decide) rfl (fun c4 => ?_) (fun c4 => ?_)
  · refine V_iconst 0 15 dX8_within_14 rfl kiconst_0 ?_
    refine V_ls [(0, .int a0), (1, .int a1), (2, .int a2)] [0, 1, 2] rfl ?_
    simp only [if_pos c4] at kj3
    exact kj3
  · refine V_iload_n 0 6 rfl dX8_within_5 rfl rfl ?_
    refine V_iload_n 2 7 rfl dX8_within_6 rfl rfl ?_
    refine V_icmp_gt 14 10 dX8_within_7 (by decide) rfl (fun c5 => ?_) (fun c5 => ?_)
    · refine V_iconst 0 15 dX8_within_14 rfl kiconst_0 ?_
      refine V_ls [(0, .int a0), (1, .int a1), (2, .int a2)] [0, 1, 2] rfl ?_
      simp only [if_neg c4, if_pos c5] at kj3
      exact kj3
    · refine V_iconst 1 11 dX8_within_10 rfl kiconst_1 ?_
      refine V_goto 15 dX8_within_11 (by decide) ?_
      refine V_ls [(0, .int a0), (1, .int a1), (2, .int a2)] [0, 1, 2] rfl ?_
      simp only [if_neg c4, if_neg c5] at kj3
      exact kj3
abbrev mi_X8_become : MI := (yX8_become, cX8_become, 4, some .int)
theorem ok_X8_become : OkN mi_X8_become 2 := ⟨wd_cd_X8_become, wd_in_X8, ⟨by decide +kernel, by decide +kernel, by decide +kernel⟩, by decide⟩
theorem okv_X8_become : Cond.instanceMethod (mi_X8_become).1 ∈ tb ∧ Cond.selects (mi_X8_become).1.cls (mi_X8_become).1 (mi_X8_become).1 ∈ tb := ⟨wd_im_X8_become, wd_se_X8_become⟩
def f_X8_become (σ : St) (t : Nat) (a0 : Int32) (a1 : Int32) : Option (Int32 × St) := if isO σ 7 t = true then ((gQ σ 7 t 0).bind fun q2 => (aI σ 0 q2 a0).bind fun v4 => (gQ σ 7 t 0).bind fun q6 => (sI σ q6 a0 a1).bind fun s8 => some (v4, s8)) else none
theorem gd_X8_become {σ : St} {t : Nat} {a0 : Int32} {a1 : Int32} {r : Int32 × St} (h : f_X8_become σ t a0 a1 = some r) : isO σ 7 t = true := by
  unfold f_X8_become at h
  by_cases hg : isO σ 7 t = true
  · exact hg
  · rw [if_neg hg] at h
    cases h
set_option maxRecDepth 100000 in
set_option maxHeartbeats 4000000 in
theorem c_X8_become (l : Launch) (G : Gd) (d : Nat) (σ : St) (t : Nat) (a0 : Int32) (a1 : Int32) (r0 : Int32) (σ' : St) (hf : f_X8_become σ t a0 a1 = some (r0, σ')) : MetV l G (d + 1) mi_X8_become [.ref t, .int a0, .int a1] σ (some (.int r0)) σ' 0 0 := by
  unfold f_X8_become at hf
  refine MetV.of [(0, .ref t), (1, .int a0), (2, .int a1)] (by decide +kernel) rfl (Nat.le_of_ble_eq_true rfl) ?_
  intro X hQ
  by_cases hg : isO σ 7 t = true
  · rw [if_pos hg] at hf
    refine V_aload_n 0 1 rfl dX8_become_0 rfl rfl ?_
    obtain ⟨q2, h1, hf⟩ := ob hf
    refine V_getQ (n := 27) (ty := tyX8) 4 h1 cf_7 rfl wd_fl_X8_9 dX8_become_1 rfl ?_
    refine V_iload_n 1 5 rfl dX8_become_4 rfl rfl ?_
    obtain ⟨v4, h3, hf⟩ := ob hf
    refine V_iald 6 h3 dX8_become_5 rfl ?_
    refine V_istore_n [(3, .int v4), (0, .ref t), (1, .int a0), (2, .int a1)] 7 dX8_become_6 rfl (by decide) rfl rfl ?_
    refine V_aload_n 1 8 rfl dX8_become_7 rfl rfl ?_
    obtain ⟨q6, h5, hf⟩ := ob hf
    refine V_getQ (n := 27) (ty := tyX8) 11 h5 cf_7 rfl wd_fl_X8_9 dX8_become_8 rfl ?_
    refine V_iload_n 2 12 rfl dX8_become_11 rfl rfl ?_
    refine V_iload_n 3 13 rfl dX8_become_12 rfl rfl ?_
    obtain ⟨s8, h7, hf⟩ := ob hf
    refine V_iast 14 h7 dX8_become_13 rfl ?_
    refine V_iload_n 0 15 rfl dX8_become_14 rfl rfl ?_
    have er := Option.some.inj hf
    obtain ⟨e1, e2⟩ := Prod.mk.inj er
    subst e1
    subst e2
    exact V_iret hQ rfl dX8_become_15
  · rw [if_neg hg] at hf
    cases hf
abbrev mi_X8_finding : MI := (yX8_finding, cX8_finding, 2, some .int)
theorem ok_X8_finding : OkN mi_X8_finding 1 := ⟨wd_cd_X8_finding, wd_in_X8, ⟨by decide +kernel, by decide +kernel, by decide +kernel⟩, by decide⟩
theorem okv_X8_finding : Cond.instanceMethod (mi_X8_finding).1 ∈ tb ∧ Cond.selects (mi_X8_finding).1.cls (mi_X8_finding).1 (mi_X8_finding).1 ∈ tb := ⟨wd_im_X8_finding, wd_se_X8_finding⟩
def f_X8_finding (σ : St) (t : Nat) (a0 : Int32) : Option (Int32 × St) := if isO σ 7 t = true then ((gQ σ 7 t 3).bind fun q2 => (aI σ 0 q2 ((-1000000 : Int32) - a0)).bind fun v4 => (sI σ q2 ((-1000000 : Int32) - a0) (v4 + 1)).bind fun s6 => some (a0, s6)) else none
theorem gd_X8_finding {σ : St} {t : Nat} {a0 : Int32} {r : Int32 × St} (h : f_X8_finding σ t a0 = some r) : isO σ 7 t = true := by
  unfold f_X8_finding at h
  by_cases hg : isO σ 7 t = true
  · exact hg
  · rw [if_neg hg] at h
    cases h
set_option maxRecDepth 100000 in
set_option maxHeartbeats 4000000 in
theorem c_X8_finding (l : Launch) (G : Gd) (d : Nat) (σ : St) (t : Nat) (a0 : Int32) (r0 : Int32) (σ' : St) (hf : f_X8_finding σ t a0 = some (r0, σ')) : MetV l G (d + 1) mi_X8_finding [.ref t, .int a0] σ (some (.int r0)) σ' 0 0 := by
  unfold f_X8_finding at hf
  refine MetV.of [(0, .ref t), (1, .int a0)] (by decide +kernel) rfl (Nat.le_of_ble_eq_true rfl) ?_
  intro X hQ
  by_cases hg : isO σ 7 t = true
  · rw [if_pos hg] at hf
    refine V_aload_n 0 1 rfl dX8_finding_0 rfl rfl ?_
    obtain ⟨q2, h1, hf⟩ := ob hf
    refine V_getQ (n := 27) (ty := tyX8) 4 h1 cf_7 rfl wd_fl_X8_16 dX8_finding_1 rfl ?_
    refine V_ldc (-1000000) 6 dX8_finding_4 rfl wd_kk_X8_67 ?_
    refine V_iload_n 1 7 rfl dX8_finding_6 rfl rfl ?_
    refine V_isub 8 dX8_finding_7 rfl ?_
    refine V_dup2 9 dX8_finding_8 rfl rfl rfl ?_
    obtain ⟨v4, h3, hf⟩ := ob hf
    refine V_iald 10 h3 dX8_finding_9 rfl ?_
    refine V_iconst 1 11 dX8_finding_10 rfl kiconst_1 ?_
    refine V_iadd 12 dX8_finding_11 rfl ?_
    obtain ⟨s6, h5, hf⟩ := ob hf
    refine V_iast 13 h5 dX8_finding_12 rfl ?_
    refine V_iload_n 1 14 rfl dX8_finding_13 rfl rfl ?_
    have er := Option.some.inj hf
    obtain ⟨e1, e2⟩ := Prod.mk.inj er
    subst e1
    subst e2
    exact V_iret hQ rfl dX8_finding_14
  · rw [if_neg hg] at hf
    cases hf
abbrev mi_X8_machine : MI := (yX8_machine, cX8_machine, 5, some .int)
theorem ok_X8_machine : OkN mi_X8_machine 3 := ⟨wd_cd_X8_machine, wd_in_X8, ⟨by decide +kernel, by decide +kernel, by decide +kernel⟩, by decide⟩
theorem okv_X8_machine : Cond.instanceMethod (mi_X8_machine).1 ∈ tb ∧ Cond.selects (mi_X8_machine).1.cls (mi_X8_machine).1 (mi_X8_machine).1 ∈ tb := ⟨wd_im_X8_machine, wd_se_X8_machine⟩
def f_X8_machine (σ : St) (t : Nat) (a0 : Int32) (a1 : Int32) (a2 : Int32) : Option (Int32 × St) := if isO σ 7 t = true then ((f_X8_within σ a0 0 3).bind fun v2 => if v2 = 0 then ((f_X8_finding σ t (-1000001)).bind fun p5 => some (p5.1, p5.2)) else (if a1 = 0 then ((f_X8_within σ a2 1 99).bind fun v30 => if (if v30 = 0 then 0 else 1 : Int32) = 0 then ((f_X8_finding σ t (-1000001)).bind fun p33 => some (p33.1, p33.2)) else ((f_X8_become σ t (((10 : Int32) + ((3 : Int32) * a0)) + a1) a2).bind fun p35 => some (p35.1, p35.2))) else (if a1 = 1 then ((f_X8_within σ a2 0 50).bind fun v21 => if (if v21 = 0 then 0 else 1 : Int32) = 0 then ((f_X8_finding σ t (-1000001)).bind fun p24 => some (p24.1, p24.2)) else ((f_X8_become σ t (((10 : Int32) + ((3 : Int32) * a0)) + a1) a2).bind fun p26 => some (p26.1, p26.2))) else (if a1 = 2 then ((f_X8_within σ a2 0 9999).bind fun v12 => if (if v12 = 0 then 0 else 1 : Int32) = 0 then ((f_X8_finding σ t (-1000001)).bind fun p15 => some (p15.1, p15.2)) else ((f_X8_become σ t (((10 : Int32) + ((3 : Int32) * a0)) + a1) a2).bind fun p17 => some (p17.1, p17.2))) else ((f_X8_finding σ t (-1000001)).bind fun p10 => some (p10.1, p10.2)))))) else none
theorem gd_X8_machine {σ : St} {t : Nat} {a0 : Int32} {a1 : Int32} {a2 : Int32} {r : Int32 × St} (h : f_X8_machine σ t a0 a1 a2 = some r) : isO σ 7 t = true := by
  unfold f_X8_machine at h
  by_cases hg : isO σ 7 t = true
  · exact hg
  · rw [if_neg hg] at h
    cases h
set_option maxRecDepth 100000 in
set_option maxHeartbeats 4000000 in
theorem c_X8_machine (l : Launch) (G : Gd) (d : Nat) (σ : St) (t : Nat) (a0 : Int32) (a1 : Int32) (a2 : Int32) (r0 : Int32) (σ' : St) (hf : f_X8_machine σ t a0 a1 a2 = some (r0, σ')) : MetV l G (d + 2) mi_X8_machine [.ref t, .int a0, .int a1, .int a2] σ (some (.int r0)) σ' 0 0 := by
  unfold f_X8_machine at hf
  refine MetV.of [(0, .ref t), (1, .int a0), (2, .int a1), (3, .int a2)] (by decide +kernel) rfl (Nat.le_of_ble_eq_true rfl) ?_
  intro X hQ
  by_cases hg : isO σ 7 t = true
  · rw [if_pos hg] at hf
    refine V_iload_n 1 1 rfl dX8_machine_0 rfl rfl ?_
    refine V_iconst 0 2 dX8_machine_1 rfl kiconst_0 ?_
    refine V_iconst 3 3 dX8_machine_2 rfl kiconst_3 ?_
    obtain ⟨v2, h1, hf⟩ := ob hf
    refine V_callS (rest := []) 0 0 6 [.int v2] (c_X8_within l G (d + 0) _ _ _ _ _ h1) (by omega) ok_X8_within oks_X8_within wd_ml_X8_68 rfl rfl (Nat.le_of_ble_eq_true rfl) rfl rfl (Or.inl ⟨rfl, rfl⟩) dX8_machine_3 rfl rfl ?_
    refine V_if_eq 64 9 dX8_machine_6 (by decide) rfl (fun c3 => ?_) (fun c3 => ?_)
    · rw [if_pos c3] at hf
      refine V_iconst 0 65 dX8_machine_64 rfl kiconst_0 ?_
      refine V_istore [(4, .int 0), (0, .ref t), (1, .int a0), (2, .int a1), (3, .int a2)] 67 dX8_machine_65 (by decide) rfl rfl ?_
      refine V_iload 0 69 rfl dX8_machine_67 rfl ?_
      refine V_if_eq 88 72 dX8_machine_69 (by decide) rfl (fun _ => ?_) (fun hc => absurd hc (by decide))
      refine V_aload_n 1 89 rfl dX8_machine_88 rfl rfl ?_
      refine V_ldc (-1000001) 91 dX8_machine_89 rfl wd_kk_X8_76 ?_
      obtain ⟨p5, h4, hf⟩ := ob hf
      refine V_callV (rest := []) (T := TX8) (n := 27) (ci := 7) 0 0 94 [.int p5.1] (c_X8_finding l G (d + 0) _ _ _ _ _ h4) (by omega) ok_X8_finding okv_X8_finding (gd_X8_finding h4) rfl wd_ml_X8_77 rfl rfl (Nat.le_of_ble_eq_true rfl) rfl rfl (Or.inl ⟨rfl, rfl⟩) dX8_machine_91 rfl rfl ?_
      have er := Option.some.inj hf
      obtain ⟨e1, e2⟩ := Prod.mk.inj er
      subst e1
      subst e2
      exact V_iret hQ rfl dX8_machine_94
    · rw [if_neg c3] at hf
      refine V_iload_n 2 10 rfl dX8_machine_9 rfl rfl ?_
      refine V_if_ne 26 13 dX8_machine_10 (by decide) rfl (fun c6 => ?_) (fun c6 => ?_)
      · rw [if_neg c6] at hf
        refine V_iload_n 2 27 rfl dX8_machine_26 rfl rfl ?_
        refine V_iconst 1 28 dX8_machine_27 rfl kiconst_1 ?_
        refine V_icmp_ne 44 31 dX8_machine_28 (by decide) rfl (fun c7 => ?_) (fun c7 => ?_)
        · rw [if_neg c7] at hf
          refine V_iload_n 2 45 rfl dX8_machine_44 rfl rfl ?_
          refine V_iconst 2 46 dX8_machine_45 rfl kiconst_2 ?_
          refine V_icmp_ne 64 49 dX8_machine_46 (by decide) rfl (fun c8 => ?_) (fun c8 => ?_)
          · rw [if_neg c8] at hf
            refine V_iconst 0 65 dX8_machine_64 rfl kiconst_0 ?_
            refine V_istore [(4, .int 0), (0, .ref t), (1, .int a0), (2, .int a1), (3, .int a2)] 67 dX8_machine_65 (by decide) rfl rfl ?_
            refine V_iload 0 69 rfl dX8_machine_67 rfl ?_
            refine V_if_eq 88 72 dX8_machine_69 (by decide) rfl (fun _ => ?_) (fun hc => absurd hc (by decide))
            refine V_aload_n 1 89 rfl dX8_machine_88 rfl rfl ?_
            refine V_ldc (-1000001) 91 dX8_machine_89 rfl wd_kk_X8_76 ?_
            obtain ⟨p10, h9, hf⟩ := ob hf
            refine V_callV (rest := []) (T := TX8) (n := 27) (ci := 7) 0 0 94 [.int p10.1] (c_X8_finding l G (d + 0) _ _ _ _ _ h9) (by omega) ok_X8_finding okv_X8_finding (gd_X8_finding h9) rfl wd_ml_X8_77 rfl rfl (Nat.le_of_ble_eq_true rfl) rfl rfl (Or.inl ⟨rfl, rfl⟩) dX8_machine_91 rfl rfl ?_
            have er := Option.some.inj hf
            obtain ⟨e1, e2⟩ := Prod.mk.inj er
            subst e1
            subst e2
            exact V_iret hQ rfl dX8_machine_94
          · rw [if_pos c8] at hf
            refine V_iload_n 3 50 rfl dX8_machine_49 rfl rfl ?_
            refine V_iconst 0 51 dX8_machine_50 rfl kiconst_0 ?_
            refine V_sipush 9999 54 dX8_machine_51 rfl ksipush_9999 ?_
            obtain ⟨v12, h11, hf⟩ := ob hf
            refine V_callS (rest := []) 0 0 57 [.int v12] (c_X8_within l G (d + 0) _ _ _ _ _ h11) (by omega) ok_X8_within oks_X8_within wd_ml_X8_68 rfl rfl (Nat.le_of_ble_eq_true rfl) rfl rfl (Or.inl ⟨rfl, rfl⟩) dX8_machine_54 rfl rfl ?_
            have kj18 : V mi_X8_machine l G (d + 2) 0 0 X 0 0 65 [(0, .ref t), (1, .int a0), (2, .int a1), (3, .int a2)] [.int (if v12 = 0 then 0 else 1 : Int32)] σ := by
              refine V_istore [(4, .int (if v12 = 0 then 0 else 1 : Int32)), (0, .ref t), (1, .int a0), (2, .int a1), (3, .int a2)] 67 dX8_machine_65 (by decide) rfl rfl ?_
              refine V_iload 0 69 rfl dX8_machine_67 rfl ?_
              refine V_if_eq 88 72 dX8_machine_69 (by decide) rfl (fun c13 => ?_) (fun c13 => ?_)
              · rw [if_pos c13] at hf
                refine V_aload_n 1 89 rfl dX8_machine_88 rfl rfl ?_
                refine V_ldc (-1000001) 91 dX8_machine_89 rfl wd_kk_X8_76 ?_
                obtain ⟨p15, h14, hf⟩ := ob hf
                refine V_callV (rest := []) (T := TX8) (n := 27) (ci := 7) 0 0 94 [.int p15.1] (c_X8_finding l G (d + 0) _ _ _ _ _ h14) (by omega) ok_X8_finding okv_X8_finding (gd_X8_finding h14) rfl wd_ml_X8_77 rfl rfl (Nat.le_of_ble_eq_true rfl) rfl rfl (Or.inl ⟨rfl, rfl⟩) dX8_machine_91 rfl rfl ?_
                have er := Option.some.inj hf
                obtain ⟨e1, e2⟩ := Prod.mk.inj er
                subst e1
                subst e2
                exact V_iret hQ rfl dX8_machine_94
              · rw [if_neg c13] at hf
                refine V_aload_n 1 73 rfl dX8_machine_72 rfl rfl ?_
                refine V_bipush 10 75 dX8_machine_73 rfl kbipush_10 ?_
                refine V_iconst 3 76 dX8_machine_75 rfl kiconst_3 ?_
                refine V_iload_n 2 77 rfl dX8_machine_76 rfl rfl ?_
                refine V_imul 78 dX8_machine_77 rfl ?_
                refine V_iadd 79 dX8_machine_78 rfl ?_
                refine V_iload_n 3 80 rfl dX8_machine_79 rfl rfl ?_
                refine V_iadd 81 dX8_machine_80 rfl ?_
                refine V_iload_n 4 82 rfl dX8_machine_81 rfl rfl ?_
                obtain ⟨p17, h16, hf⟩ := ob hf
                refine V_callV (rest := []) (T := TX8) (n := 27) (ci := 7) 0 0 85 [.int p17.1] (c_X8_become l G (d + 0) _ _ _ _ _ _ h16) (by omega) ok_X8_become okv_X8_become (gd_X8_become h16) rfl wd_ml_X8_72 rfl rfl (Nat.le_of_ble_eq_true rfl) rfl rfl (Or.inl ⟨rfl, rfl⟩) dX8_machine_82 rfl rfl ?_
                refine V_goto 94 dX8_machine_85 (by decide) ?_
                have er := Option.some.inj hf
                obtain ⟨e1, e2⟩ := Prod.mk.inj er
                subst e1
                subst e2
                exact V_iret hQ rfl dX8_machine_94
            refine V_if_eq 64 60 dX8_machine_57 (by decide) rfl (fun c19 => ?_) (fun c19 => ?_)
            · refine V_iconst 0 65 dX8_machine_64 rfl kiconst_0 ?_
              refine V_ls [(0, .ref t), (1, .int a0), (2, .int a1), (3, .int a2)] [0, 1, 2, 3] rfl ?_
              simp only [if_pos c19] at kj18
              exact kj18
            · refine V_iconst 1 61 dX8_machine_60 rfl kiconst_1 ?_
              refine V_goto 65 dX8_machine_61 (by decide) ?_
              refine V_ls [(0, .ref t), (1, .int a0), (2, .int a1), (3, .int a2)] [0, 1, 2, 3] rfl ?_
              simp only [if_neg c19] at kj18
              exact kj18
        · rw [if_pos c7] at hf
          refine V_iload_n 3 32 rfl dX8_machine_31 rfl rfl ?_
          refine V_iconst 0 33 dX8_machine_32 rfl kiconst_0 ?_
          refine V_bipush 50 35 dX8_machine_33 rfl kbipush_50 ?_
          obtain ⟨v21, h20, hf⟩ := ob hf
          refine V_callS (rest := []) 0 0 38 [.int v21] (c_X8_within l G (d + 0) _ _ _ _ _ h20) (by omega) ok_X8_within oks_X8_within wd_ml_X8_68 rfl rfl (Nat.le_of_ble_eq_true rfl) rfl rfl (Or.inl ⟨rfl, rfl⟩) dX8_machine_35 rfl rfl ?_
          have kj27 : V mi_X8_machine l G (d + 2) 0 0 X 0 0 65 [(0, .ref t), (1, .int a0), (2, .int a1), (3, .int a2)] [.int (if v21 = 0 then 0 else 1 : Int32)] σ := by
            refine V_istore [(4, .int (if v21 = 0 then 0 else 1 : Int32)), (0, .ref t), (1, .int a0), (2, .int a1), (3, .int a2)] 67 dX8_machine_65 (by decide) rfl rfl ?_
            refine V_iload 0 69 rfl dX8_machine_67 rfl ?_
            refine V_if_eq 88 72 dX8_machine_69 (by decide) rfl (fun c22 => ?_) (fun c22 => ?_)
            · rw [if_pos c22] at hf
              refine V_aload_n 1 89 rfl dX8_machine_88 rfl rfl ?_
              refine V_ldc (-1000001) 91 dX8_machine_89 rfl wd_kk_X8_76 ?_
              obtain ⟨p24, h23, hf⟩ := ob hf
              refine V_callV (rest := []) (T := TX8) (n := 27) (ci := 7) 0 0 94 [.int p24.1] (c_X8_finding l G (d + 0) _ _ _ _ _ h23) (by omega) ok_X8_finding okv_X8_finding (gd_X8_finding h23) rfl wd_ml_X8_77 rfl rfl (Nat.le_of_ble_eq_true rfl) rfl rfl (Or.inl ⟨rfl, rfl⟩) dX8_machine_91 rfl rfl ?_
              have er := Option.some.inj hf
              obtain ⟨e1, e2⟩ := Prod.mk.inj er
              subst e1
              subst e2
              exact V_iret hQ rfl dX8_machine_94
            · rw [if_neg c22] at hf
              refine V_aload_n 1 73 rfl dX8_machine_72 rfl rfl ?_
              refine V_bipush 10 75 dX8_machine_73 rfl kbipush_10 ?_
              refine V_iconst 3 76 dX8_machine_75 rfl kiconst_3 ?_
              refine V_iload_n 2 77 rfl dX8_machine_76 rfl rfl ?_
              refine V_imul 78 dX8_machine_77 rfl ?_
              refine V_iadd 79 dX8_machine_78 rfl ?_
              refine V_iload_n 3 80 rfl dX8_machine_79 rfl rfl ?_
              refine V_iadd 81 dX8_machine_80 rfl ?_
              refine V_iload_n 4 82 rfl dX8_machine_81 rfl rfl ?_
              obtain ⟨p26, h25, hf⟩ := ob hf
              refine V_callV (rest := []) (T := TX8) (n := 27) (ci := 7) 0 0 85 [.int p26.1] (c_X8_become l G (d + 0) _ _ _ _ _ _ h25) (by omega) ok_X8_become okv_X8_become (gd_X8_become h25) rfl wd_ml_X8_72 rfl rfl (Nat.le_of_ble_eq_true rfl) rfl rfl (Or.inl ⟨rfl, rfl⟩) dX8_machine_82 rfl rfl ?_
              refine V_goto 94 dX8_machine_85 (by decide) ?_
              have er := Option.some.inj hf
              obtain ⟨e1, e2⟩ := Prod.mk.inj er
              subst e1
              subst e2
              exact V_iret hQ rfl dX8_machine_94
          refine V_if_eq 64 41 dX8_machine_38 (by decide) rfl (fun c28 => ?_) (fun c28 => ?_)
          · refine V_iconst 0 65 dX8_machine_64 rfl kiconst_0 ?_
            refine V_ls [(0, .ref t), (1, .int a0), (2, .int a1), (3, .int a2)] [0, 1, 2, 3] rfl ?_
            simp only [if_pos c28] at kj27
            exact kj27
          · refine V_goto 60 dX8_machine_41 (by decide) ?_
            refine V_iconst 1 61 dX8_machine_60 rfl kiconst_1 ?_
            refine V_goto 65 dX8_machine_61 (by decide) ?_
            refine V_ls [(0, .ref t), (1, .int a0), (2, .int a1), (3, .int a2)] [0, 1, 2, 3] rfl ?_
            simp only [if_neg c28] at kj27
            exact kj27
      · rw [if_pos c6] at hf
        refine V_iload_n 3 14 rfl dX8_machine_13 rfl rfl ?_
        refine V_iconst 1 15 dX8_machine_14 rfl kiconst_1 ?_
        refine V_bipush 99 17 dX8_machine_15 rfl kbipush_99 ?_
        obtain ⟨v30, h29, hf⟩ := ob hf
        refine V_callS (rest := []) 0 0 20 [.int v30] (c_X8_within l G (d + 0) _ _ _ _ _ h29) (by omega) ok_X8_within oks_X8_within wd_ml_X8_68 rfl rfl (Nat.le_of_ble_eq_true rfl) rfl rfl (Or.inl ⟨rfl, rfl⟩) dX8_machine_17 rfl rfl ?_
        have kj36 : V mi_X8_machine l G (d + 2) 0 0 X 0 0 65 [(0, .ref t), (1, .int a0), (2, .int a1), (3, .int a2)] [.int (if v30 = 0 then 0 else 1 : Int32)] σ := by
          refine V_istore [(4, .int (if v30 = 0 then 0 else 1 : Int32)), (0, .ref t), (1, .int a0), (2, .int a1), (3, .int a2)] 67 dX8_machine_65 (by decide) rfl rfl ?_
          refine V_iload 0 69 rfl dX8_machine_67 rfl ?_
          refine V_if_eq 88 72 dX8_machine_69 (by decide) rfl (fun c31 => ?_) (fun c31 => ?_)
          · rw [if_pos c31] at hf
            refine V_aload_n 1 89 rfl dX8_machine_88 rfl rfl ?_
            refine V_ldc (-1000001) 91 dX8_machine_89 rfl wd_kk_X8_76 ?_
            obtain ⟨p33, h32, hf⟩ := ob hf
            refine V_callV (rest := []) (T := TX8) (n := 27) (ci := 7) 0 0 94 [.int p33.1] (c_X8_finding l G (d + 0) _ _ _ _ _ h32) (by omega) ok_X8_finding okv_X8_finding (gd_X8_finding h32) rfl wd_ml_X8_77 rfl rfl (Nat.le_of_ble_eq_true rfl) rfl rfl (Or.inl ⟨rfl, rfl⟩) dX8_machine_91 rfl rfl ?_
            have er := Option.some.inj hf
            obtain ⟨e1, e2⟩ := Prod.mk.inj er
            subst e1
            subst e2
            exact V_iret hQ rfl dX8_machine_94
          · rw [if_neg c31] at hf
            refine V_aload_n 1 73 rfl dX8_machine_72 rfl rfl ?_
            refine V_bipush 10 75 dX8_machine_73 rfl kbipush_10 ?_
            refine V_iconst 3 76 dX8_machine_75 rfl kiconst_3 ?_
            refine V_iload_n 2 77 rfl dX8_machine_76 rfl rfl ?_
            refine V_imul 78 dX8_machine_77 rfl ?_
            refine V_iadd 79 dX8_machine_78 rfl ?_
            refine V_iload_n 3 80 rfl dX8_machine_79 rfl rfl ?_
            refine V_iadd 81 dX8_machine_80 rfl ?_
            refine V_iload_n 4 82 rfl dX8_machine_81 rfl rfl ?_
            obtain ⟨p35, h34, hf⟩ := ob hf
            refine V_callV (rest := []) (T := TX8) (n := 27) (ci := 7) 0 0 85 [.int p35.1] (c_X8_become l G (d + 0) _ _ _ _ _ _ h34) (by omega) ok_X8_become okv_X8_become (gd_X8_become h34) rfl wd_ml_X8_72 rfl rfl (Nat.le_of_ble_eq_true rfl) rfl rfl (Or.inl ⟨rfl, rfl⟩) dX8_machine_82 rfl rfl ?_
            refine V_goto 94 dX8_machine_85 (by decide) ?_
            have er := Option.some.inj hf
            obtain ⟨e1, e2⟩ := Prod.mk.inj er
            subst e1
            subst e2
            exact V_iret hQ rfl dX8_machine_94
        refine V_if_eq 64 23 dX8_machine_20 (by decide) rfl (fun c37 => ?_) (fun c37 => ?_)
        · refine V_iconst 0 65 dX8_machine_64 rfl kiconst_0 ?_
          refine V_ls [(0, .ref t), (1, .int a0), (2, .int a1), (3, .int a2)] [0, 1, 2, 3] rfl ?_
          simp only [if_pos c37] at kj36
          exact kj36
        · refine V_goto 60 dX8_machine_23 (by decide) ?_
          refine V_iconst 1 61 dX8_machine_60 rfl kiconst_1 ?_
          refine V_goto 65 dX8_machine_61 (by decide) ?_
          refine V_ls [(0, .ref t), (1, .int a0), (2, .int a1), (3, .int a2)] [0, 1, 2, 3] rfl ?_
          simp only [if_neg c37] at kj36
          exact kj36
  · rw [if_neg hg] at hf
    cases hf
abbrev mi_X8_draws : MI := (yX8_draws, cX8_draws, 2, some .int)
theorem ok_X8_draws : OkN mi_X8_draws 1 := ⟨wd_cd_X8_draws, wd_in_X8, ⟨by decide +kernel, by decide +kernel, by decide +kernel⟩, by decide⟩
theorem okv_X8_draws : Cond.instanceMethod (mi_X8_draws).1 ∈ tb ∧ Cond.selects (mi_X8_draws).1.cls (mi_X8_draws).1 (mi_X8_draws).1 ∈ tb := ⟨wd_im_X8_draws, wd_se_X8_draws⟩
def f_X8_draws (σ : St) (t : Nat) (a0 : Int32) : Option (Int32 × St) := if isO σ 7 t = true then ((f_X8_become σ t 7 a0).bind fun p2 => some (p2.1, p2.2)) else none
theorem gd_X8_draws {σ : St} {t : Nat} {a0 : Int32} {r : Int32 × St} (h : f_X8_draws σ t a0 = some r) : isO σ 7 t = true := by
  unfold f_X8_draws at h
  by_cases hg : isO σ 7 t = true
  · exact hg
  · rw [if_neg hg] at h
    cases h
set_option maxRecDepth 100000 in
set_option maxHeartbeats 4000000 in
theorem c_X8_draws (l : Launch) (G : Gd) (d : Nat) (σ : St) (t : Nat) (a0 : Int32) (r0 : Int32) (σ' : St) (hf : f_X8_draws σ t a0 = some (r0, σ')) : MetV l G (d + 2) mi_X8_draws [.ref t, .int a0] σ (some (.int r0)) σ' 0 0 := by
  unfold f_X8_draws at hf
  refine MetV.of [(0, .ref t), (1, .int a0)] (by decide +kernel) rfl (Nat.le_of_ble_eq_true rfl) ?_
  intro X hQ
  by_cases hg : isO σ 7 t = true
  · rw [if_pos hg] at hf
    refine V_aload_n 0 1 rfl dX8_draws_0 rfl rfl ?_
    refine V_bipush 7 3 dX8_draws_1 rfl kbipush_7 ?_
    refine V_iload_n 1 4 rfl dX8_draws_3 rfl rfl ?_
    obtain ⟨p2, h1, hf⟩ := ob hf
    refine V_callV (rest := []) (T := TX8) (n := 27) (ci := 7) 0 0 7 [.int p2.1] (c_X8_become l G (d + 0) _ _ _ _ _ _ h1) (by omega) ok_X8_become okv_X8_become (gd_X8_become h1) rfl wd_ml_X8_72 rfl rfl (Nat.le_of_ble_eq_true rfl) rfl rfl (Or.inl ⟨rfl, rfl⟩) dX8_draws_4 rfl rfl ?_
    have er := Option.some.inj hf
    obtain ⟨e1, e2⟩ := Prod.mk.inj er
    subst e1
    subst e2
    exact V_iret hQ rfl dX8_draws_7
  · rw [if_neg hg] at hf
    cases hf
abbrev mi_X8_paper_ : MI := (yX8_paper_, cX8_paper_, 6, some .int)
theorem ok_X8_paper_ : OkN mi_X8_paper_ 3 := ⟨wd_cd_X8_paper_, wd_in_X8, ⟨by decide +kernel, by decide +kernel, by decide +kernel⟩, by decide⟩
theorem okv_X8_paper_ : Cond.instanceMethod (mi_X8_paper_).1 ∈ tb ∧ Cond.selects (mi_X8_paper_).1.cls (mi_X8_paper_).1 (mi_X8_paper_).1 ∈ tb := ⟨wd_im_X8_paper_, wd_se_X8_paper_⟩
def f_X8_paper_ (σ : St) (t : Nat) (a0 : Int32) (a1 : Int32) (a2 : Int32) : Option (Int32 × St) := if isO σ 7 t = true then ((f_X8_within σ a0 0 999).bind fun v2 => if v2 = 0 then ((f_X8_finding σ t (-1000001)).bind fun p5 => some (p5.1, p5.2)) else ((f_X8_within σ a1 1 255).bind fun v7 => if v7 = 0 then ((f_X8_finding σ t (-1000001)).bind fun p10 => some (p10.1, p10.2)) else ((f_X8_within σ a2 1 99).bind fun v12 => if v12 = 0 then ((f_X8_finding σ t (-1000001)).bind fun p48 => some (p48.1, p48.2)) else ((gQ σ 7 t 0).bind fun q15 => (aI σ 0 q15 0).bind fun v17 => if v17 = 12 then ((f_X8_finding σ t (-1000004)).bind fun p46 => some (p46.1, p46.2)) else ((gQ σ 7 t 0).bind fun q20 => (sI σ q20 (((22 : Int32) + ((5 : Int32) * v17)) + 0) a0).bind fun s22 => (gQ s22 7 t 0).bind fun q24 => (sI s22 q24 (((22 : Int32) + ((5 : Int32) * v17)) + 1) a1).bind fun s26 => (gQ s26 7 t 0).bind fun q28 => (sI s26 q28 (((22 : Int32) + ((5 : Int32) * v17)) + 2) a2).bind fun s30 => (gQ s30 7 t 0).bind fun q32 => (sI s30 q32 (((22 : Int32) + ((5 : Int32) * v17)) + 3) 0).bind fun s34 => (gQ s34 7 t 0).bind fun q36 => (sI s34 q36 (((22 : Int32) + ((5 : Int32) * v17)) + 4) 0).bind fun s38 => (gQ s38 7 t 0).bind fun q40 => (aI s38 0 q40 0).bind fun v42 => (sI s38 q40 0 (v42 + 1)).bind fun s44 => some (v17, s44)))))) else none
theorem gd_X8_paper_ {σ : St} {t : Nat} {a0 : Int32} {a1 : Int32} {a2 : Int32} {r : Int32 × St} (h : f_X8_paper_ σ t a0 a1 a2 = some r) : isO σ 7 t = true := by
  unfold f_X8_paper_ at h
  by_cases hg : isO σ 7 t = true
  · exact hg
  · rw [if_neg hg] at h
    cases h
set_option maxRecDepth 100000 in
set_option maxHeartbeats 4000000 in
theorem c_X8_paper_ (l : Launch) (G : Gd) (d : Nat) (σ : St) (t : Nat) (a0 : Int32) (a1 : Int32) (a2 : Int32) (r0 : Int32) (σ' : St) (hf : f_X8_paper_ σ t a0 a1 a2 = some (r0, σ')) : MetV l G (d + 2) mi_X8_paper_ [.ref t, .int a0, .int a1, .int a2] σ (some (.int r0)) σ' 0 0 := by
  unfold f_X8_paper_ at hf
  refine MetV.of [(0, .ref t), (1, .int a0), (2, .int a1), (3, .int a2)] (by decide +kernel) rfl (Nat.le_of_ble_eq_true rfl) ?_
  intro X hQ
  by_cases hg : isO σ 7 t = true
  · rw [if_pos hg] at hf
    refine V_iload_n 1 1 rfl dX8_paper__0 rfl rfl ?_
    refine V_iconst 0 2 dX8_paper__1 rfl kiconst_0 ?_
    refine V_sipush 999 5 dX8_paper__2 rfl ksipush_999 ?_
    obtain ⟨v2, h1, hf⟩ := ob hf
    refine V_callS (rest := []) 0 0 8 [.int v2] (c_X8_within l G (d + 0) _ _ _ _ _ h1) (by omega) ok_X8_within oks_X8_within wd_ml_X8_68 rfl rfl (Nat.le_of_ble_eq_true rfl) rfl rfl (Or.inl ⟨rfl, rfl⟩) dX8_paper__5 rfl rfl ?_
    refine V_if_eq 32 11 dX8_paper__8 (by decide) rfl (fun c3 => ?_) (fun c3 => ?_)
    · rw [if_pos c3] at hf
      refine V_aload_n 0 33 rfl dX8_paper__32 rfl rfl ?_
      refine V_ldc (-1000001) 35 dX8_paper__33 rfl wd_kk_X8_76 ?_
      obtain ⟨p5, h4, hf⟩ := ob hf
      refine V_callV (rest := []) (T := TX8) (n := 27) (ci := 7) 0 0 38 [.int p5.1] (c_X8_finding l G (d + 0) _ _ _ _ _ h4) (by omega) ok_X8_finding okv_X8_finding (gd_X8_finding h4) rfl wd_ml_X8_77 rfl rfl (Nat.le_of_ble_eq_true rfl) rfl rfl (Or.inl ⟨rfl, rfl⟩) dX8_paper__35 rfl rfl ?_
      have er := Option.some.inj hf
      obtain ⟨e1, e2⟩ := Prod.mk.inj er
      subst e1
      subst e2
      exact V_iret hQ rfl dX8_paper__38
    · rw [if_neg c3] at hf
      refine V_iload_n 2 12 rfl dX8_paper__11 rfl rfl ?_
      refine V_iconst 1 13 dX8_paper__12 rfl kiconst_1 ?_
      refine V_sipush 255 16 dX8_paper__13 rfl ksipush_255 ?_
      obtain ⟨v7, h6, hf⟩ := ob hf
      refine V_callS (rest := []) 0 0 19 [.int v7] (c_X8_within l G (d + 0) _ _ _ _ _ h6) (by omega) ok_X8_within oks_X8_within wd_ml_X8_68 rfl rfl (Nat.le_of_ble_eq_true rfl) rfl rfl (Or.inl ⟨rfl, rfl⟩) dX8_paper__16 rfl rfl ?_
      refine V_if_eq 32 22 dX8_paper__19 (by decide) rfl (fun c8 => ?_) (fun c8 => ?_)
      · rw [if_pos c8] at hf
        refine V_aload_n 0 33 rfl dX8_paper__32 rfl rfl ?_
        refine V_ldc (-1000001) 35 dX8_paper__33 rfl wd_kk_X8_76 ?_
        obtain ⟨p10, h9, hf⟩ := ob hf
        refine V_callV (rest := []) (T := TX8) (n := 27) (ci := 7) 0 0 38 [.int p10.1] (c_X8_finding l G (d + 0) _ _ _ _ _ h9) (by omega) ok_X8_finding okv_X8_finding (gd_X8_finding h9) rfl wd_ml_X8_77 rfl rfl (Nat.le_of_ble_eq_true rfl) rfl rfl (Or.inl ⟨rfl, rfl⟩) dX8_paper__35 rfl rfl ?_
        have er := Option.some.inj hf
        obtain ⟨e1, e2⟩ := Prod.mk.inj er
        subst e1
        subst e2
        exact V_iret hQ rfl dX8_paper__38
      · rw [if_neg c8] at hf
        refine V_iload_n 3 23 rfl dX8_paper__22 rfl rfl ?_
        refine V_iconst 1 24 dX8_paper__23 rfl kiconst_1 ?_
        refine V_bipush 99 26 dX8_paper__24 rfl kbipush_99 ?_
        obtain ⟨v12, h11, hf⟩ := ob hf
        refine V_callS (rest := []) 0 0 29 [.int v12] (c_X8_within l G (d + 0) _ _ _ _ _ h11) (by omega) ok_X8_within oks_X8_within wd_ml_X8_68 rfl rfl (Nat.le_of_ble_eq_true rfl) rfl rfl (Or.inl ⟨rfl, rfl⟩) dX8_paper__26 rfl rfl ?_
        refine V_if_ne 39 32 dX8_paper__29 (by decide) rfl (fun c13 => ?_) (fun c13 => ?_)
        · rw [if_neg c13] at hf
          refine V_aload_n 0 40 rfl dX8_paper__39 rfl rfl ?_
          obtain ⟨q15, h14, hf⟩ := ob hf
          refine V_getQ (n := 27) (ty := tyX8) 43 h14 cf_7 rfl wd_fl_X8_9 dX8_paper__40 rfl ?_
          refine V_iconst 0 44 dX8_paper__43 rfl kiconst_0 ?_
          obtain ⟨v17, h16, hf⟩ := ob hf
          refine V_iald 45 h16 dX8_paper__44 rfl ?_
          refine V_istore [(4, .int v17), (0, .ref t), (1, .int a0), (2, .int a1), (3, .int a2)] 47 dX8_paper__45 (by decide) rfl rfl ?_
          refine V_iload 0 49 rfl dX8_paper__47 rfl ?_
          refine V_bipush 12 51 dX8_paper__49 rfl kbipush_12 ?_
          refine V_icmp_ne 61 54 dX8_paper__51 (by decide) rfl (fun c18 => ?_) (fun c18 => ?_)
          · rw [if_neg c18] at hf
            refine V_bipush 22 63 dX8_paper__61 rfl kbipush_22 ?_
            refine V_iconst 5 64 dX8_paper__63 rfl kiconst_5 ?_
            refine V_iload 0 66 rfl dX8_paper__64 rfl ?_
            refine V_imul 67 dX8_paper__66 rfl ?_
            refine V_iadd 68 dX8_paper__67 rfl ?_
            refine V_istore [(5, .int ((22 : Int32) + ((5 : Int32) * v17))), (4, .int v17), (0, .ref t), (1, .int a0), (2, .int a1), (3, .int a2)] 70 dX8_paper__68 (by decide) rfl rfl ?_
            refine V_aload_n 2 71 rfl dX8_paper__70 rfl rfl ?_
            obtain ⟨q20, h19, hf⟩ := ob hf
            refine V_getQ (n := 27) (ty := tyX8) 74 h19 cf_7 rfl wd_fl_X8_9 dX8_paper__71 rfl ?_
            refine V_iload 0 76 rfl dX8_paper__74 rfl ?_
            refine V_iconst 0 77 dX8_paper__76 rfl kiconst_0 ?_
            refine V_iadd 78 dX8_paper__77 rfl ?_
            refine V_iload_n 3 79 rfl dX8_paper__78 rfl rfl ?_
            obtain ⟨s22, h21, hf⟩ := ob hf
            refine V_iast 80 h21 dX8_paper__79 rfl ?_
            refine V_aload_n 2 81 rfl dX8_paper__80 rfl rfl ?_
            obtain ⟨q24, h23, hf⟩ := ob hf
            refine V_getQ (n := 27) (ty := tyX8) 84 h23 cf_7 rfl wd_fl_X8_9 dX8_paper__81 rfl ?_
            refine V_iload 0 86 rfl dX8_paper__84 rfl ?_
            refine V_iconst 1 87 dX8_paper__86 rfl kiconst_1 ?_
            refine V_iadd 88 dX8_paper__87 rfl ?_
            refine V_iload_n 4 89 rfl dX8_paper__88 rfl rfl ?_
            obtain ⟨s26, h25, hf⟩ := ob hf
            refine V_iast 90 h25 dX8_paper__89 rfl ?_
            refine V_aload_n 2 91 rfl dX8_paper__90 rfl rfl ?_
            obtain ⟨q28, h27, hf⟩ := ob hf
            refine V_getQ (n := 27) (ty := tyX8) 94 h27 cf_7 rfl wd_fl_X8_9 dX8_paper__91 rfl ?_
            refine V_iload 0 96 rfl dX8_paper__94 rfl ?_
            refine V_iconst 2 97 dX8_paper__96 rfl kiconst_2 ?_
            refine V_iadd 98 dX8_paper__97 rfl ?_
            refine V_iload_n 5 99 rfl dX8_paper__98 rfl rfl ?_
            obtain ⟨s30, h29, hf⟩ := ob hf
            refine V_iast 100 h29 dX8_paper__99 rfl ?_
            refine V_aload_n 2 101 rfl dX8_paper__100 rfl rfl ?_
            obtain ⟨q32, h31, hf⟩ := ob hf
            refine V_getQ (n := 27) (ty := tyX8) 104 h31 cf_7 rfl wd_fl_X8_9 dX8_paper__101 rfl ?_
            refine V_iload 0 106 rfl dX8_paper__104 rfl ?_
            refine V_iconst 3 107 dX8_paper__106 rfl kiconst_3 ?_
            refine V_iadd 108 dX8_paper__107 rfl ?_
            refine V_iconst 0 109 dX8_paper__108 rfl kiconst_0 ?_
            obtain ⟨s34, h33, hf⟩ := ob hf
            refine V_iast 110 h33 dX8_paper__109 rfl ?_
            refine V_aload_n 2 111 rfl dX8_paper__110 rfl rfl ?_
            obtain ⟨q36, h35, hf⟩ := ob hf
            refine V_getQ (n := 27) (ty := tyX8) 114 h35 cf_7 rfl wd_fl_X8_9 dX8_paper__111 rfl ?_
            refine V_iload 0 116 rfl dX8_paper__114 rfl ?_
            refine V_iconst 4 117 dX8_paper__116 rfl kiconst_4 ?_
            refine V_iadd 118 dX8_paper__117 rfl ?_
            refine V_iconst 0 119 dX8_paper__118 rfl kiconst_0 ?_
            obtain ⟨s38, h37, hf⟩ := ob hf
            refine V_iast 120 h37 dX8_paper__119 rfl ?_
            refine V_aload_n 2 121 rfl dX8_paper__120 rfl rfl ?_
            obtain ⟨q40, h39, hf⟩ := ob hf
            refine V_getQ (n := 27) (ty := tyX8) 124 h39 cf_7 rfl wd_fl_X8_9 dX8_paper__121 rfl ?_
            refine V_iconst 0 125 dX8_paper__124 rfl kiconst_0 ?_
            refine V_dup2 126 dX8_paper__125 rfl rfl rfl ?_
            obtain ⟨v42, h41, hf⟩ := ob hf
            refine V_iald 127 h41 dX8_paper__126 rfl ?_
            refine V_iconst 1 128 dX8_paper__127 rfl kiconst_1 ?_
            refine V_iadd 129 dX8_paper__128 rfl ?_
            obtain ⟨s44, h43, hf⟩ := ob hf
            refine V_iast 130 h43 dX8_paper__129 rfl ?_
            refine V_iload 1 132 rfl dX8_paper__130 rfl ?_
            have er := Option.some.inj hf
            obtain ⟨e1, e2⟩ := Prod.mk.inj er
            subst e1
            subst e2
            exact V_iret hQ rfl dX8_paper__132
          · rw [if_pos c18] at hf
            refine V_aload_n 1 55 rfl dX8_paper__54 rfl rfl ?_
            refine V_ldc (-1000004) 57 dX8_paper__55 rfl wd_kk_X8_82 ?_
            obtain ⟨p46, h45, hf⟩ := ob hf
            refine V_callV (rest := []) (T := TX8) (n := 27) (ci := 7) 0 0 60 [.int p46.1] (c_X8_finding l G (d + 0) _ _ _ _ _ h45) (by omega) ok_X8_finding okv_X8_finding (gd_X8_finding h45) rfl wd_ml_X8_77 rfl rfl (Nat.le_of_ble_eq_true rfl) rfl rfl (Or.inl ⟨rfl, rfl⟩) dX8_paper__57 rfl rfl ?_
            have er := Option.some.inj hf
            obtain ⟨e1, e2⟩ := Prod.mk.inj er
            subst e1
            subst e2
            exact V_iret hQ rfl dX8_paper__60
        · rw [if_pos c13] at hf
          refine V_aload_n 0 33 rfl dX8_paper__32 rfl rfl ?_
          refine V_ldc (-1000001) 35 dX8_paper__33 rfl wd_kk_X8_76 ?_
          obtain ⟨p48, h47, hf⟩ := ob hf
          refine V_callV (rest := []) (T := TX8) (n := 27) (ci := 7) 0 0 38 [.int p48.1] (c_X8_finding l G (d + 0) _ _ _ _ _ h47) (by omega) ok_X8_finding okv_X8_finding (gd_X8_finding h47) rfl wd_ml_X8_77 rfl rfl (Nat.le_of_ble_eq_true rfl) rfl rfl (Or.inl ⟨rfl, rfl⟩) dX8_paper__35 rfl rfl ?_
          have er := Option.some.inj hf
          obtain ⟨e1, e2⟩ := Prod.mk.inj er
          subst e1
          subst e2
          exact V_iret hQ rfl dX8_paper__38
  · rw [if_neg hg] at hf
    cases hf
abbrev mi_X8_is : MI := (yX8_is, cX8_is, 3, some .boolean)
theorem ok_X8_is : OkN mi_X8_is 2 := ⟨wd_cd_X8_is, wd_in_X8, ⟨by decide +kernel, by decide +kernel, by decide +kernel⟩, by decide⟩
theorem okv_X8_is : Cond.instanceMethod (mi_X8_is).1 ∈ tb ∧ Cond.selects (mi_X8_is).1.cls (mi_X8_is).1 (mi_X8_is).1 ∈ tb := ⟨wd_im_X8_is, wd_se_X8_is⟩
def f_X8_is (σ : St) (t : Nat) (a0 : Int32) (a1 : Int32) : Option Int32 := if isO σ 7 t = true then ((gQ σ 7 t 0).bind fun q2 => (aI σ 0 q2 a1).bind fun v4 => (f_X8_within σ a0 0 (v4 - 1)).bind fun v6 => (zr v6).bind fun z7 => some v6) else none
theorem gd_X8_is {σ : St} {t : Nat} {a0 : Int32} {a1 : Int32} {r : Int32} (h : f_X8_is σ t a0 a1 = some r) : isO σ 7 t = true := by
  unfold f_X8_is at h
  by_cases hg : isO σ 7 t = true
  · exact hg
  · rw [if_neg hg] at h
    cases h
set_option maxRecDepth 100000 in
set_option maxHeartbeats 4000000 in
theorem c_X8_is (l : Launch) (G : Gd) (d : Nat) (σ : St) (t : Nat) (a0 : Int32) (a1 : Int32) (r0 : Int32) (hf : f_X8_is σ t a0 a1 = some r0) : MetV l G (d + 2) mi_X8_is [.ref t, .int a0, .int a1] σ (some (.int r0)) σ 0 0 := by
  unfold f_X8_is at hf
  refine MetV.of [(0, .ref t), (1, .int a0), (2, .int a1)] (by decide +kernel) rfl (Nat.le_of_ble_eq_true rfl) ?_
  intro X hQ
  by_cases hg : isO σ 7 t = true
  · rw [if_pos hg] at hf
    refine V_iload_n 1 1 rfl dX8_is_0 rfl rfl ?_
    refine V_iconst 0 2 dX8_is_1 rfl kiconst_0 ?_
    refine V_aload_n 0 3 rfl dX8_is_2 rfl rfl ?_
    obtain ⟨q2, h1, hf⟩ := ob hf
    refine V_getQ (n := 27) (ty := tyX8) 6 h1 cf_7 rfl wd_fl_X8_9 dX8_is_3 rfl ?_
    refine V_iload_n 2 7 rfl dX8_is_6 rfl rfl ?_
    obtain ⟨v4, h3, hf⟩ := ob hf
    refine V_iald 8 h3 dX8_is_7 rfl ?_
    refine V_iconst 1 9 dX8_is_8 rfl kiconst_1 ?_
    refine V_isub 10 dX8_is_9 rfl ?_
    obtain ⟨v6, h5, hf⟩ := ob hf
    refine V_callS (rest := []) 0 0 13 [.int v6] (c_X8_within l G (d + 0) _ _ _ _ _ h5) (by omega) ok_X8_within oks_X8_within wd_ml_X8_68 rfl rfl (Nat.le_of_ble_eq_true rfl) rfl rfl (Or.inl ⟨rfl, rfl⟩) dX8_is_10 rfl rfl ?_
    obtain ⟨z7, h8, hf⟩ := ob hf
    have er := Option.some.inj hf
    subst er
    exact V_zret (zr_ok h8) hQ rfl dX8_is_13
  · rw [if_neg hg] at hf
    cases hf
abbrev mi_X8_curve : MI := (yX8_curve, cX8_curve, 3, some .int)
theorem ok_X8_curve : OkN mi_X8_curve 2 := ⟨wd_cd_X8_curve, wd_in_X8, ⟨by decide +kernel, by decide +kernel, by decide +kernel⟩, by decide⟩
theorem okv_X8_curve : Cond.instanceMethod (mi_X8_curve).1 ∈ tb ∧ Cond.selects (mi_X8_curve).1.cls (mi_X8_curve).1 (mi_X8_curve).1 ∈ tb := ⟨wd_im_X8_curve, wd_se_X8_curve⟩
def f_X8_curve (σ : St) (t : Nat) (a0 : Int32) (a1 : Int32) : Option Int32 := if isO σ 7 t = true then ((gQ σ 7 t 0).bind fun q2 => (aI σ 0 q2 (((82 : Int32) + ((29 : Int32) * a0)) + a1)).bind fun v4 => some v4) else none
theorem gd_X8_curve {σ : St} {t : Nat} {a0 : Int32} {a1 : Int32} {r : Int32} (h : f_X8_curve σ t a0 a1 = some r) : isO σ 7 t = true := by
  unfold f_X8_curve at h
  by_cases hg : isO σ 7 t = true
  · exact hg
  · rw [if_neg hg] at h
    cases h
set_option maxRecDepth 100000 in
set_option maxHeartbeats 4000000 in
theorem c_X8_curve (l : Launch) (G : Gd) (d : Nat) (σ : St) (t : Nat) (a0 : Int32) (a1 : Int32) (r0 : Int32) (hf : f_X8_curve σ t a0 a1 = some r0) : MetV l G (d + 1) mi_X8_curve [.ref t, .int a0, .int a1] σ (some (.int r0)) σ 0 0 := by
  unfold f_X8_curve at hf
  refine MetV.of [(0, .ref t), (1, .int a0), (2, .int a1)] (by decide +kernel) rfl (Nat.le_of_ble_eq_true rfl) ?_
  intro X hQ
  by_cases hg : isO σ 7 t = true
  · rw [if_pos hg] at hf
    refine V_aload_n 0 1 rfl dX8_curve_0 rfl rfl ?_
    obtain ⟨q2, h1, hf⟩ := ob hf
    refine V_getQ (n := 27) (ty := tyX8) 4 h1 cf_7 rfl wd_fl_X8_9 dX8_curve_1 rfl ?_
    refine V_bipush 82 6 dX8_curve_4 rfl kbipush_82 ?_
    refine V_bipush 29 8 dX8_curve_6 rfl kbipush_29 ?_
    refine V_iload_n 1 9 rfl dX8_curve_8 rfl rfl ?_
    refine V_imul 10 dX8_curve_9 rfl ?_
    refine V_iadd 11 dX8_curve_10 rfl ?_
    refine V_iload_n 2 12 rfl dX8_curve_11 rfl rfl ?_
    refine V_iadd 13 dX8_curve_12 rfl ?_
    obtain ⟨v4, h3, hf⟩ := ob hf
    refine V_iald 14 h3 dX8_curve_13 rfl ?_
    have er := Option.some.inj hf
    subst er
    exact V_iret hQ rfl dX8_curve_14
  · rw [if_neg hg] at hf
    cases hf
abbrev mi_X8_paper : MI := (yX8_paper, cX8_paper, 3, some .int)
theorem ok_X8_paper : OkN mi_X8_paper 2 := ⟨wd_cd_X8_paper, wd_in_X8, ⟨by decide +kernel, by decide +kernel, by decide +kernel⟩, by decide⟩
theorem okv_X8_paper : Cond.instanceMethod (mi_X8_paper).1 ∈ tb ∧ Cond.selects (mi_X8_paper).1.cls (mi_X8_paper).1 (mi_X8_paper).1 ∈ tb := ⟨wd_im_X8_paper, wd_se_X8_paper⟩
def f_X8_paper (σ : St) (t : Nat) (a0 : Int32) (a1 : Int32) : Option Int32 := if isO σ 7 t = true then ((gQ σ 7 t 0).bind fun q2 => (aI σ 0 q2 (((22 : Int32) + ((5 : Int32) * a0)) + a1)).bind fun v4 => some v4) else none
theorem gd_X8_paper {σ : St} {t : Nat} {a0 : Int32} {a1 : Int32} {r : Int32} (h : f_X8_paper σ t a0 a1 = some r) : isO σ 7 t = true := by
  unfold f_X8_paper at h
  by_cases hg : isO σ 7 t = true
  · exact hg
  · rw [if_neg hg] at h
    cases h
set_option maxRecDepth 100000 in
set_option maxHeartbeats 4000000 in
theorem c_X8_paper (l : Launch) (G : Gd) (d : Nat) (σ : St) (t : Nat) (a0 : Int32) (a1 : Int32) (r0 : Int32) (hf : f_X8_paper σ t a0 a1 = some r0) : MetV l G (d + 1) mi_X8_paper [.ref t, .int a0, .int a1] σ (some (.int r0)) σ 0 0 := by
  unfold f_X8_paper at hf
  refine MetV.of [(0, .ref t), (1, .int a0), (2, .int a1)] (by decide +kernel) rfl (Nat.le_of_ble_eq_true rfl) ?_
  intro X hQ
  by_cases hg : isO σ 7 t = true
  · rw [if_pos hg] at hf
    refine V_aload_n 0 1 rfl dX8_paper_0 rfl rfl ?_
    obtain ⟨q2, h1, hf⟩ := ob hf
    refine V_getQ (n := 27) (ty := tyX8) 4 h1 cf_7 rfl wd_fl_X8_9 dX8_paper_1 rfl ?_
    refine V_bipush 22 6 dX8_paper_4 rfl kbipush_22 ?_
    refine V_iconst 5 7 dX8_paper_6 rfl kiconst_5 ?_
    refine V_iload_n 1 8 rfl dX8_paper_7 rfl rfl ?_
    refine V_imul 9 dX8_paper_8 rfl ?_
    refine V_iadd 10 dX8_paper_9 rfl ?_
    refine V_iload_n 2 11 rfl dX8_paper_10 rfl rfl ?_
    refine V_iadd 12 dX8_paper_11 rfl ?_
    obtain ⟨v4, h3, hf⟩ := ob hf
    refine V_iald 13 h3 dX8_paper_12 rfl ?_
    have er := Option.some.inj hf
    subst er
    exact V_iret hQ rfl dX8_paper_13
  · rw [if_neg hg] at hf
    cases hf
abbrev mi_X8_paperIs : MI := (yX8_paperIs, cX8_paperIs, 5, some .int)
theorem ok_X8_paperIs : OkN mi_X8_paperIs 2 := ⟨wd_cd_X8_paperIs, wd_in_X8, ⟨by decide +kernel, by decide +kernel, by decide +kernel⟩, by decide⟩
theorem okv_X8_paperIs : Cond.instanceMethod (mi_X8_paperIs).1 ∈ tb ∧ Cond.selects (mi_X8_paperIs).1.cls (mi_X8_paperIs).1 (mi_X8_paperIs).1 ∈ tb := ⟨wd_im_X8_paperIs, wd_se_X8_paperIs⟩
def f_X8_paperIs_L30 (σ : St) (t : Nat) (x1 : Int32) : Nat → Int32 → Int32 → Option (Int32 × Int32)
  | 0, _, _ => none
  | n + 1, x4, x3 => (gQ σ 7 t 0).bind fun q10 => (aI σ 0 q10 1).bind fun v12 => if v12 ≤ x4 then (some (x4, x3)) else ((f_X8_curve σ t x4 1).bind fun v15 => f_X8_paperIs_L30 σ t x1 n (x4 + 1) (x3 + (if v15 = x1 then 1 else 0 : Int32)))
def f_X8_paperIs (σ : St) (t : Nat) (a0 : Int32) (a1 : Int32) : Option (Int32 × St) := if isO σ 7 t = true then ((f_X8_is σ t a0 0).bind fun v2 => if v2 = 0 then ((f_X8_finding σ t (-1000001)).bind fun p5 => some (p5.1, p5.2)) else ((f_X8_within σ a1 0 5).bind fun v7 => if v7 = 0 then ((f_X8_finding σ t (-1000001)).bind fun p24 => some (p24.1, p24.2)) else ((f_X8_paperIs_L30 σ t a0 3000 0 0).bind fun p18 => if 5 ≤ a1 then (some (p18.2, σ)) else ((f_X8_paper σ t a0 a1).bind fun v22 => some (v22, σ))))) else none
theorem gd_X8_paperIs {σ : St} {t : Nat} {a0 : Int32} {a1 : Int32} {r : Int32 × St} (h : f_X8_paperIs σ t a0 a1 = some r) : isO σ 7 t = true := by
  unfold f_X8_paperIs at h
  by_cases hg : isO σ 7 t = true
  · exact hg
  · rw [if_neg hg] at h
    cases h
set_option maxRecDepth 100000 in
set_option maxHeartbeats 4000000 in
theorem c_X8_paperIs (l : Launch) (G : Gd) (d : Nat) (σ : St) (t : Nat) (a0 : Int32) (a1 : Int32) (r0 : Int32) (σ' : St) (hf : f_X8_paperIs σ t a0 a1 = some (r0, σ')) : MetV l G (d + 3) mi_X8_paperIs [.ref t, .int a0, .int a1] σ (some (.int r0)) σ' 0 0 := by
  unfold f_X8_paperIs at hf
  refine MetV.of [(0, .ref t), (1, .int a0), (2, .int a1)] (by decide +kernel) rfl (Nat.le_of_ble_eq_true rfl) ?_
  intro X hQ
  have L30 : ∀ (σ : St) (x1 : Int32) (x2 : Int32) (n : Nat) (x4 : Int32) (x3 : Int32) (p : Int32 × Int32), f_X8_paperIs_L30 σ t x1 n x4 x3 = some p → V mi_X8_paperIs l G (d + 3) 0 0 X 0 0 66 [(4, .int p.1), (3, .int p.2), (0, .ref t), (1, .int x1), (2, .int x2)] [] σ → V mi_X8_paperIs l G (d + 3) 0 0 X 0 0 30 [(4, .int x4), (3, .int x3), (0, .ref t), (1, .int x1), (2, .int x2)] [] σ := by
    intro σ x1 x2 n
    induction n with
    | zero =>
      intro x4 x3 p hf
      exact absurd (show (none : Option _) = some p from hf) (by simp)
    | succ n ih =>
      intro x4 x3 p hf hk
      rw [f_X8_paperIs_L30] at hf
      refine V_iload 0 32 rfl dX8_paperIs_30 rfl ?_
      refine V_aload_n 2 33 rfl dX8_paperIs_32 rfl rfl ?_
      obtain ⟨q10, h9, hf⟩ := ob hf
      refine V_getQ (n := 27) (ty := tyX8) 36 h9 cf_7 rfl wd_fl_X8_9 dX8_paperIs_33 rfl ?_
      refine V_iconst 1 37 dX8_paperIs_36 rfl kiconst_1 ?_
      obtain ⟨v12, h11, hf⟩ := ob hf
      refine V_iald 38 h11 dX8_paperIs_37 rfl ?_
      refine V_icmp_ge 66 41 dX8_paperIs_38 (by decide) rfl (fun c13 => ?_) (fun c13 => ?_)
      · rw [if_pos c13] at hf
        have ep := Option.some.inj hf
        subst ep
        refine V_ls [(4, .int x4), (3, .int x3), (0, .ref t), (1, .int x1), (2, .int x2)] [0, 1, 2, 3, 4] rfl ?_
        exact hk
      · rw [if_neg c13] at hf
        refine V_iload_n 1 42 rfl dX8_paperIs_41 rfl rfl ?_
        refine V_aload_n 2 43 rfl dX8_paperIs_42 rfl rfl ?_
        refine V_iload 0 45 rfl dX8_paperIs_43 rfl ?_
        refine V_iconst 1 46 dX8_paperIs_45 rfl kiconst_1 ?_
        obtain ⟨v15, h14, hf⟩ := ob hf
        refine V_callV (rest := [.int x3]) (T := TX8) (n := 27) (ci := 7) 0 0 49 [.int v15, .int x3] (c_X8_curve l G (d + 1) _ _ _ _ _ h14) (by omega) ok_X8_curve okv_X8_curve (gd_X8_curve h14) rfl wd_ml_X8_87 rfl rfl (Nat.le_of_ble_eq_true rfl) rfl rfl (Or.inl ⟨rfl, rfl⟩) dX8_paperIs_46 rfl rfl ?_
        refine V_iload_n 3 50 rfl dX8_paperIs_49 rfl rfl ?_
        have kj16 : V mi_X8_paperIs l G (d + 3) 0 0 X 0 0 58 [(4, .int x4), (3, .int x3), (0, .ref t), (1, .int x1), (2, .int x2)] [.int (if v15 = x1 then 1 else 0 : Int32), .int x3] σ := by
          refine V_iadd 59 dX8_paperIs_58 rfl ?_
          refine V_istore_n [(3, .int (x3 + (if v15 = x1 then 1 else 0 : Int32))), (4, .int x4), (0, .ref t), (1, .int x1), (2, .int x2)] 60 dX8_paperIs_59 rfl (by decide) rfl rfl ?_
          refine V_iinc (x4 + 1) 1 [(4, .int (x4 + 1)), (3, .int (x3 + (if v15 = x1 then 1 else 0 : Int32))), (0, .ref t), (1, .int x1), (2, .int x2)] 63 dX8_paperIs_60 rfl (by rw [kiconst_1]) (by decide) rfl rfl ?_
          refine V_goto 30 dX8_paperIs_63 (by decide) ?_
          refine V_ls [(4, .int (x4 + 1)), (3, .int (x3 + (if v15 = x1 then 1 else 0 : Int32))), (0, .ref t), (1, .int x1), (2, .int x2)] [0, 1, 2, 3, 4] rfl ?_
          exact ih _ _ _ hf hk
        refine V_icmp_ne 57 53 dX8_paperIs_50 (by decide) rfl (fun c17 => ?_) (fun c17 => ?_)
        · refine V_iconst 0 58 dX8_paperIs_57 rfl kiconst_0 ?_
          refine V_ls [(4, .int x4), (3, .int x3), (0, .ref t), (1, .int x1), (2, .int x2)] [0, 1, 2, 3, 4] rfl ?_
          simp only [if_neg c17] at kj16
          exact kj16
        · refine V_iconst 1 54 dX8_paperIs_53 rfl kiconst_1 ?_
          refine V_goto 58 dX8_paperIs_54 (by decide) ?_
          refine V_ls [(4, .int x4), (3, .int x3), (0, .ref t), (1, .int x1), (2, .int x2)] [0, 1, 2, 3, 4] rfl ?_
          simp only [if_pos c17] at kj16
          exact kj16
  by_cases hg : isO σ 7 t = true
  · rw [if_pos hg] at hf
    refine V_aload_n 0 1 rfl dX8_paperIs_0 rfl rfl ?_
    refine V_iload_n 1 2 rfl dX8_paperIs_1 rfl rfl ?_
    refine V_iconst 0 3 dX8_paperIs_2 rfl kiconst_0 ?_
    obtain ⟨v2, h1, hf⟩ := ob hf
    refine V_callV (rest := []) (T := TX8) (n := 27) (ci := 7) 0 0 6 [.int v2] (c_X8_is l G (d + 0) _ _ _ _ _ h1) (by omega) ok_X8_is okv_X8_is (gd_X8_is h1) rfl wd_ml_X8_83 rfl rfl (Nat.le_of_ble_eq_true rfl) rfl rfl (Or.inl ⟨rfl, rfl⟩) dX8_paperIs_3 rfl rfl ?_
    refine V_if_eq 18 9 dX8_paperIs_6 (by decide) rfl (fun c3 => ?_) (fun c3 => ?_)
    · rw [if_pos c3] at hf
      refine V_aload_n 0 19 rfl dX8_paperIs_18 rfl rfl ?_
      refine V_ldc (-1000001) 21 dX8_paperIs_19 rfl wd_kk_X8_76 ?_
      obtain ⟨p5, h4, hf⟩ := ob hf
      refine V_callV (rest := []) (T := TX8) (n := 27) (ci := 7) 0 0 24 [.int p5.1] (c_X8_finding l G (d + 1) _ _ _ _ _ h4) (by omega) ok_X8_finding okv_X8_finding (gd_X8_finding h4) rfl wd_ml_X8_77 rfl rfl (Nat.le_of_ble_eq_true rfl) rfl rfl (Or.inl ⟨rfl, rfl⟩) dX8_paperIs_21 rfl rfl ?_
      have er := Option.some.inj hf
      obtain ⟨e1, e2⟩ := Prod.mk.inj er
      subst e1
      subst e2
      exact V_iret hQ rfl dX8_paperIs_24
    · rw [if_neg c3] at hf
      refine V_iload_n 2 10 rfl dX8_paperIs_9 rfl rfl ?_
      refine V_iconst 0 11 dX8_paperIs_10 rfl kiconst_0 ?_
      refine V_iconst 5 12 dX8_paperIs_11 rfl kiconst_5 ?_
      obtain ⟨v7, h6, hf⟩ := ob hf
      refine V_callS (rest := []) 0 0 15 [.int v7] (c_X8_within l G (d + 1) _ _ _ _ _ h6) (by omega) ok_X8_within oks_X8_within wd_ml_X8_68 rfl rfl (Nat.le_of_ble_eq_true rfl) rfl rfl (Or.inl ⟨rfl, rfl⟩) dX8_paperIs_12 rfl rfl ?_
      refine V_if_ne 25 18 dX8_paperIs_15 (by decide) rfl (fun c8 => ?_) (fun c8 => ?_)
      · rw [if_neg c8] at hf
        refine V_iconst 0 26 dX8_paperIs_25 rfl kiconst_0 ?_
        refine V_istore_n [(3, .int 0), (0, .ref t), (1, .int a0), (2, .int a1)] 27 dX8_paperIs_26 rfl (by decide) rfl rfl ?_
        refine V_iconst 0 28 dX8_paperIs_27 rfl kiconst_0 ?_
        refine V_istore [(4, .int 0), (3, .int 0), (0, .ref t), (1, .int a0), (2, .int a1)] 30 dX8_paperIs_28 (by decide) rfl rfl ?_
        obtain ⟨p18, h19, hf⟩ := ob hf
        refine V_ls [(4, .int 0), (3, .int 0), (0, .ref t), (1, .int a0), (2, .int a1)] [0, 1, 2, 3, 4] rfl ?_
        refine L30 σ a0 a1 3000 0 0 p18 h19 ?_
        refine V_iload_n 4 67 rfl dX8_paperIs_66 rfl rfl ?_
        refine V_iconst 5 68 dX8_paperIs_67 rfl kiconst_5 ?_
        refine V_icmp_ge 80 71 dX8_paperIs_68 (by decide) rfl (fun c20 => ?_) (fun c20 => ?_)
        · rw [if_pos c20] at hf
          refine V_iload_n 1 81 rfl dX8_paperIs_80 rfl rfl ?_
          have er := Option.some.inj hf
          obtain ⟨e1, e2⟩ := Prod.mk.inj er
          subst e1
          subst e2
          exact V_iret hQ rfl dX8_paperIs_81
        · rw [if_neg c20] at hf
          refine V_aload_n 2 72 rfl dX8_paperIs_71 rfl rfl ?_
          refine V_iload_n 3 73 rfl dX8_paperIs_72 rfl rfl ?_
          refine V_iload_n 4 74 rfl dX8_paperIs_73 rfl rfl ?_
          obtain ⟨v22, h21, hf⟩ := ob hf
          refine V_callV (rest := []) (T := TX8) (n := 27) (ci := 7) 0 0 77 [.int v22] (c_X8_paper l G (d + 1) _ _ _ _ _ h21) (by omega) ok_X8_paper okv_X8_paper (gd_X8_paper h21) rfl wd_ml_X8_90 rfl rfl (Nat.le_of_ble_eq_true rfl) rfl rfl (Or.inl ⟨rfl, rfl⟩) dX8_paperIs_74 rfl rfl ?_
          refine V_goto 81 dX8_paperIs_77 (by decide) ?_
          have er := Option.some.inj hf
          obtain ⟨e1, e2⟩ := Prod.mk.inj er
          subst e1
          subst e2
          exact V_iret hQ rfl dX8_paperIs_81
      · rw [if_pos c8] at hf
        refine V_aload_n 0 19 rfl dX8_paperIs_18 rfl rfl ?_
        refine V_ldc (-1000001) 21 dX8_paperIs_19 rfl wd_kk_X8_76 ?_
        obtain ⟨p24, h23, hf⟩ := ob hf
        refine V_callV (rest := []) (T := TX8) (n := 27) (ci := 7) 0 0 24 [.int p24.1] (c_X8_finding l G (d + 1) _ _ _ _ _ h23) (by omega) ok_X8_finding okv_X8_finding (gd_X8_finding h23) rfl wd_ml_X8_77 rfl rfl (Nat.le_of_ble_eq_true rfl) rfl rfl (Or.inl ⟨rfl, rfl⟩) dX8_paperIs_21 rfl rfl ?_
        have er := Option.some.inj hf
        obtain ⟨e1, e2⟩ := Prod.mk.inj er
        subst e1
        subst e2
        exact V_iret hQ rfl dX8_paperIs_24
  · rw [if_neg hg] at hf
    cases hf
abbrev mi_X8_isPlace : MI := (yX8_isPlace, cX8_isPlace, 2, some .boolean)
theorem ok_X8_isPlace : OkN mi_X8_isPlace 1 := ⟨wd_cd_X8_isPlace, wd_in_X8, ⟨by decide +kernel, by decide +kernel, by decide +kernel⟩, by decide⟩
theorem okv_X8_isPlace : Cond.instanceMethod (mi_X8_isPlace).1 ∈ tb ∧ Cond.selects (mi_X8_isPlace).1.cls (mi_X8_isPlace).1 (mi_X8_isPlace).1 ∈ tb := ⟨wd_im_X8_isPlace, wd_se_X8_isPlace⟩
def f_X8_isPlace (σ : St) (t : Nat) (a0 : Int32) : Option Int32 := if isO σ 7 t = true then (if a0 < 0 then (some 0) else ((f_X8_is σ t (a0 / 10) 0).bind fun v3 => if v3 = 0 then (some 0) else ((zr (if 4 ≤ (irm a0 10) then 0 else 1 : Int32)).bind fun z5 => some (if 4 ≤ (irm a0 10) then 0 else 1 : Int32)))) else none
theorem gd_X8_isPlace {σ : St} {t : Nat} {a0 : Int32} {r : Int32} (h : f_X8_isPlace σ t a0 = some r) : isO σ 7 t = true := by
  unfold f_X8_isPlace at h
  by_cases hg : isO σ 7 t = true
  · exact hg
  · rw [if_neg hg] at h
    cases h
set_option maxRecDepth 100000 in
set_option maxHeartbeats 4000000 in
theorem c_X8_isPlace (l : Launch) (G : Gd) (d : Nat) (σ : St) (t : Nat) (a0 : Int32) (r0 : Int32) (hf : f_X8_isPlace σ t a0 = some r0) : MetV l G (d + 3) mi_X8_isPlace [.ref t, .int a0] σ (some (.int r0)) σ 0 0 := by
  unfold f_X8_isPlace at hf
  refine MetV.of [(0, .ref t), (1, .int a0)] (by decide +kernel) rfl (Nat.le_of_ble_eq_true rfl) ?_
  intro X hQ
  by_cases hg : isO σ 7 t = true
  · rw [if_pos hg] at hf
    refine V_iload_n 1 1 rfl dX8_isPlace_0 rfl rfl ?_
    refine V_if_lt 28 4 dX8_isPlace_1 (by decide) rfl (fun c1 => ?_) (fun c1 => ?_)
    · rw [if_pos c1] at hf
      refine V_iconst 0 29 dX8_isPlace_28 rfl kiconst_0 ?_
      have er := Option.some.inj hf
      subst er
      exact V_zret (by decide) hQ rfl dX8_isPlace_29
    · rw [if_neg c1] at hf
      refine V_aload_n 0 5 rfl dX8_isPlace_4 rfl rfl ?_
      refine V_iload_n 1 6 rfl dX8_isPlace_5 rfl rfl ?_
      refine V_bipush 10 8 dX8_isPlace_6 rfl kbipush_10 ?_
      refine V_idiv 9 dX8_isPlace_8 rfl (by decide) ?_
      refine V_iconst 0 10 dX8_isPlace_9 rfl kiconst_0 ?_
      obtain ⟨v3, h2, hf⟩ := ob hf
      refine V_callV (rest := []) (T := TX8) (n := 27) (ci := 7) 0 0 13 [.int v3] (c_X8_is l G (d + 0) _ _ _ _ _ h2) (by omega) ok_X8_is okv_X8_is (gd_X8_is h2) rfl wd_ml_X8_83 rfl rfl (Nat.le_of_ble_eq_true rfl) rfl rfl (Or.inl ⟨rfl, rfl⟩) dX8_isPlace_10 rfl rfl ?_
      refine V_if_eq 28 16 dX8_isPlace_13 (by decide) rfl (fun c4 => ?_) (fun c4 => ?_)
      · rw [if_pos c4] at hf
        refine V_iconst 0 29 dX8_isPlace_28 rfl kiconst_0 ?_
        have er := Option.some.inj hf
        subst er
        exact V_zret (by decide) hQ rfl dX8_isPlace_29
      · rw [if_neg c4] at hf
        refine V_iload_n 1 17 rfl dX8_isPlace_16 rfl rfl ?_
        refine V_bipush 10 19 dX8_isPlace_17 rfl kbipush_10 ?_
        refine V_irem 20 dX8_isPlace_19 rfl (by decide) ?_
        refine V_iconst 4 21 dX8_isPlace_20 rfl kiconst_4 ?_
        have kj7 : V mi_X8_isPlace l G (d + 3) 0 0 X 0 0 29 [(0, .ref t), (1, .int a0)] [.int (if 4 ≤ (irm a0 10) then 0 else 1 : Int32)] σ := by
          obtain ⟨z5, h6, hf⟩ := ob hf
          have er := Option.some.inj hf
          subst er
          exact V_zret (zr_ok h6) hQ rfl dX8_isPlace_29
        refine V_icmp_ge 28 24 dX8_isPlace_21 (by decide) rfl (fun c8 => ?_) (fun c8 => ?_)
        · refine V_iconst 0 29 dX8_isPlace_28 rfl kiconst_0 ?_
          refine V_ls [(0, .ref t), (1, .int a0)] [0, 1] rfl ?_
          simp only [if_pos c8] at kj7
          exact kj7
        · refine V_iconst 1 25 dX8_isPlace_24 rfl kiconst_1 ?_
          refine V_goto 29 dX8_isPlace_25 (by decide) ?_
          refine V_ls [(0, .ref t), (1, .int a0)] [0, 1] rfl ?_
          simp only [if_neg c8] at kj7
          exact kj7
  · rw [if_neg hg] at hf
    cases hf
abbrev mi_X8_isSheet : MI := (yX8_isSheet, cX8_isSheet, 1, some .boolean)
theorem ok_X8_isSheet : OkN mi_X8_isSheet 1 := ⟨wd_cd_X8_isSheet, wd_in_X8, ⟨by decide +kernel, by decide +kernel, by decide +kernel⟩, by decide⟩
theorem oks_X8_isSheet : Cond.static (mi_X8_isSheet).1 ∈ tb := wd_sm_X8_isSheet
def f_X8_isSheet (σ : St) (a0 : Int32) : Option Int32 := (f_X8_within σ a0 0 3).bind fun v2 => (zr v2).bind fun z3 => some v2
set_option maxRecDepth 100000 in
set_option maxHeartbeats 4000000 in
theorem c_X8_isSheet (l : Launch) (G : Gd) (d : Nat) (σ : St) (a0 : Int32) (r0 : Int32) (hf : f_X8_isSheet σ a0 = some r0) : MetV l G (d + 2) mi_X8_isSheet [.int a0] σ (some (.int r0)) σ 0 0 := by
  unfold f_X8_isSheet at hf
  refine MetV.of [(0, .int a0)] (by decide +kernel) rfl (Nat.le_of_ble_eq_true rfl) ?_
  intro X hQ
  refine V_iload_n 0 1 rfl dX8_isSheet_0 rfl rfl ?_
  refine V_iconst 0 2 dX8_isSheet_1 rfl kiconst_0 ?_
  refine V_iconst 3 3 dX8_isSheet_2 rfl kiconst_3 ?_
  obtain ⟨v2, h1, hf⟩ := ob hf
  refine V_callS (rest := []) 0 0 6 [.int v2] (c_X8_within l G (d + 0) _ _ _ _ _ h1) (by omega) ok_X8_within oks_X8_within wd_ml_X8_68 rfl rfl (Nat.le_of_ble_eq_true rfl) rfl rfl (Or.inl ⟨rfl, rfl⟩) dX8_isSheet_3 rfl rfl ?_
  obtain ⟨z3, h4, hf⟩ := ob hf
  have er := Option.some.inj hf
  subst er
  exact V_zret (zr_ok h4) hQ rfl dX8_isSheet_6
abbrev mi_X8_begin : MI := (yX8_begin, cX8_begin, 8, some .int)
theorem ok_X8_begin : OkN mi_X8_begin 5 := ⟨wd_cd_X8_begin, wd_in_X8, ⟨by decide +kernel, by decide +kernel, by decide +kernel⟩, by decide⟩
theorem okv_X8_begin : Cond.instanceMethod (mi_X8_begin).1 ∈ tb ∧ Cond.selects (mi_X8_begin).1.cls (mi_X8_begin).1 (mi_X8_begin).1 ∈ tb := ⟨wd_im_X8_begin, wd_se_X8_begin⟩
def f_X8_begin (σ : St) (t : Nat) (a0 : Int32) (a1 : Int32) (a2 : Int32) (a3 : Int32) (a4 : Int32) : Option (Int32 × St) := if isO σ 7 t = true then ((gQ σ 7 t 0).bind fun q2 => (aI σ 0 q2 1).bind fun v4 => (gQ σ 7 t 0).bind fun q6 => (sI σ q6 (((82 : Int32) + ((29 : Int32) * v4)) + 0) a0).bind fun s8 => (gQ s8 7 t 0).bind fun q10 => (sI s8 q10 (((82 : Int32) + ((29 : Int32) * v4)) + 1) a1).bind fun s12 => (gQ s12 7 t 0).bind fun q14 => (sI s12 q14 (((82 : Int32) + ((29 : Int32) * v4)) + 2) a2).bind fun s16 => (gQ s16 7 t 0).bind fun q18 => (sI s16 q18 (((82 : Int32) + ((29 : Int32) * v4)) + 3) a3).bind fun s20 => (gQ s20 7 t 0).bind fun q22 => (sI s20 q22 (((82 : Int32) + ((29 : Int32) * v4)) + 4) a4).bind fun s24 => (gQ s24 7 t 0).bind fun q26 => (aI s24 0 q26 1).bind fun v28 => (sI s24 q26 1 (v28 + 1)).bind fun s30 => some (v4, s30)) else none
theorem gd_X8_begin {σ : St} {t : Nat} {a0 : Int32} {a1 : Int32} {a2 : Int32} {a3 : Int32} {a4 : Int32} {r : Int32 × St} (h : f_X8_begin σ t a0 a1 a2 a3 a4 = some r) : isO σ 7 t = true := by
  unfold f_X8_begin at h
  by_cases hg : isO σ 7 t = true
  · exact hg
  · rw [if_neg hg] at h
    cases h
set_option maxRecDepth 100000 in
set_option maxHeartbeats 4000000 in
theorem c_X8_begin (l : Launch) (G : Gd) (d : Nat) (σ : St) (t : Nat) (a0 : Int32) (a1 : Int32) (a2 : Int32) (a3 : Int32) (a4 : Int32) (r0 : Int32) (σ' : St) (hf : f_X8_begin σ t a0 a1 a2 a3 a4 = some (r0, σ')) : MetV l G (d + 1) mi_X8_begin [.ref t, .int a0, .int a1, .int a2, .int a3, .int a4] σ (some (.int r0)) σ' 0 0 := by
  unfold f_X8_begin at hf
  refine MetV.of [(0, .ref t), (1, .int a0), (2, .int a1), (3, .int a2), (4, .int a3), (5, .int a4)] (by decide +kernel) rfl (Nat.le_of_ble_eq_true rfl) ?_
  intro X hQ
  by_cases hg : isO σ 7 t = true
  · rw [if_pos hg] at hf
    refine V_aload_n 0 1 rfl dX8_begin_0 rfl rfl ?_
    obtain ⟨q2, h1, hf⟩ := ob hf
    refine V_getQ (n := 27) (ty := tyX8) 4 h1 cf_7 rfl wd_fl_X8_9 dX8_begin_1 rfl ?_
    refine V_iconst 1 5 dX8_begin_4 rfl kiconst_1 ?_
    obtain ⟨v4, h3, hf⟩ := ob hf
    refine V_iald 6 h3 dX8_begin_5 rfl ?_
    refine V_istore [(6, .int v4), (0, .ref t), (1, .int a0), (2, .int a1), (3, .int a2), (4, .int a3), (5, .int a4)] 8 dX8_begin_6 (by decide) rfl rfl ?_
    refine V_bipush 82 10 dX8_begin_8 rfl kbipush_82 ?_
    refine V_bipush 29 12 dX8_begin_10 rfl kbipush_29 ?_
    refine V_iload 0 14 rfl dX8_begin_12 rfl ?_
    refine V_imul 15 dX8_begin_14 rfl ?_
    refine V_iadd 16 dX8_begin_15 rfl ?_
    refine V_istore [(7, .int ((82 : Int32) + ((29 : Int32) * v4))), (6, .int v4), (0, .ref t), (1, .int a0), (2, .int a1), (3, .int a2), (4, .int a3), (5, .int a4)] 18 dX8_begin_16 (by decide) rfl rfl ?_
    refine V_aload_n 2 19 rfl dX8_begin_18 rfl rfl ?_
    obtain ⟨q6, h5, hf⟩ := ob hf
    refine V_getQ (n := 27) (ty := tyX8) 22 h5 cf_7 rfl wd_fl_X8_9 dX8_begin_19 rfl ?_
    refine V_iload 0 24 rfl dX8_begin_22 rfl ?_
    refine V_iconst 0 25 dX8_begin_24 rfl kiconst_0 ?_
    refine V_iadd 26 dX8_begin_25 rfl ?_
    refine V_iload_n 3 27 rfl dX8_begin_26 rfl rfl ?_
    obtain ⟨s8, h7, hf⟩ := ob hf
    refine V_iast 28 h7 dX8_begin_27 rfl ?_
    refine V_aload_n 2 29 rfl dX8_begin_28 rfl rfl ?_
    obtain ⟨q10, h9, hf⟩ := ob hf
    refine V_getQ (n := 27) (ty := tyX8) 32 h9 cf_7 rfl wd_fl_X8_9 dX8_begin_29 rfl ?_
    refine V_iload 0 34 rfl dX8_begin_32 rfl ?_
    refine V_iconst 1 35 dX8_begin_34 rfl kiconst_1 ?_
    refine V_iadd 36 dX8_begin_35 rfl ?_
    refine V_iload_n 4 37 rfl dX8_begin_36 rfl rfl ?_
    obtain ⟨s12, h11, hf⟩ := ob hf
    refine V_iast 38 h11 dX8_begin_37 rfl ?_
    refine V_aload_n 2 39 rfl dX8_begin_38 rfl rfl ?_
    obtain ⟨q14, h13, hf⟩ := ob hf
    refine V_getQ (n := 27) (ty := tyX8) 42 h13 cf_7 rfl wd_fl_X8_9 dX8_begin_39 rfl ?_
    refine V_iload 0 44 rfl dX8_begin_42 rfl ?_
    refine V_iconst 2 45 dX8_begin_44 rfl kiconst_2 ?_
    refine V_iadd 46 dX8_begin_45 rfl ?_
    refine V_iload_n 5 47 rfl dX8_begin_46 rfl rfl ?_
    obtain ⟨s16, h15, hf⟩ := ob hf
    refine V_iast 48 h15 dX8_begin_47 rfl ?_
    refine V_aload_n 2 49 rfl dX8_begin_48 rfl rfl ?_
    obtain ⟨q18, h17, hf⟩ := ob hf
    refine V_getQ (n := 27) (ty := tyX8) 52 h17 cf_7 rfl wd_fl_X8_9 dX8_begin_49 rfl ?_
    refine V_iload 0 54 rfl dX8_begin_52 rfl ?_
    refine V_iconst 3 55 dX8_begin_54 rfl kiconst_3 ?_
    refine V_iadd 56 dX8_begin_55 rfl ?_
    refine V_iload 6 58 rfl dX8_begin_56 rfl ?_
    obtain ⟨s20, h19, hf⟩ := ob hf
    refine V_iast 59 h19 dX8_begin_58 rfl ?_
    refine V_aload_n 2 60 rfl dX8_begin_59 rfl rfl ?_
    obtain ⟨q22, h21, hf⟩ := ob hf
    refine V_getQ (n := 27) (ty := tyX8) 63 h21 cf_7 rfl wd_fl_X8_9 dX8_begin_60 rfl ?_
    refine V_iload 0 65 rfl dX8_begin_63 rfl ?_
    refine V_iconst 4 66 dX8_begin_65 rfl kiconst_4 ?_
    refine V_iadd 67 dX8_begin_66 rfl ?_
    refine V_iload 7 69 rfl dX8_begin_67 rfl ?_
    obtain ⟨s24, h23, hf⟩ := ob hf
    refine V_iast 70 h23 dX8_begin_69 rfl ?_
    refine V_aload_n 2 71 rfl dX8_begin_70 rfl rfl ?_
    obtain ⟨q26, h25, hf⟩ := ob hf
    refine V_getQ (n := 27) (ty := tyX8) 74 h25 cf_7 rfl wd_fl_X8_9 dX8_begin_71 rfl ?_
    refine V_iconst 1 75 dX8_begin_74 rfl kiconst_1 ?_
    refine V_dup2 76 dX8_begin_75 rfl rfl rfl ?_
    obtain ⟨v28, h27, hf⟩ := ob hf
    refine V_iald 77 h27 dX8_begin_76 rfl ?_
    refine V_iconst 1 78 dX8_begin_77 rfl kiconst_1 ?_
    refine V_iadd 79 dX8_begin_78 rfl ?_
    obtain ⟨s30, h29, hf⟩ := ob hf
    refine V_iast 80 h29 dX8_begin_79 rfl ?_
    refine V_iload 1 82 rfl dX8_begin_80 rfl ?_
    have er := Option.some.inj hf
    obtain ⟨e1, e2⟩ := Prod.mk.inj er
    subst e1
    subst e2
    exact V_iret hQ rfl dX8_begin_82
  · rw [if_neg hg] at hf
    cases hf
abbrev mi_X8_lay : MI := (yX8_lay, cX8_lay, 4, none)
theorem ok_X8_lay : OkN mi_X8_lay 3 := ⟨wd_cd_X8_lay, wd_in_X8, ⟨by decide +kernel, by decide +kernel, by decide +kernel⟩, by decide⟩
theorem okv_X8_lay : Cond.instanceMethod (mi_X8_lay).1 ∈ tb ∧ Cond.selects (mi_X8_lay).1.cls (mi_X8_lay).1 (mi_X8_lay).1 ∈ tb := ⟨wd_im_X8_lay, wd_se_X8_lay⟩
def f_X8_lay (σ : St) (t : Nat) (a0 : Int32) (a1 : Int32) (a2 : Int32) : Option St := if isO σ 7 t = true then ((gQ σ 7 t 0).bind fun q2 => (sI σ q2 ((((82 : Int32) + ((29 : Int32) * a0)) + 5) + a1) a2).bind fun s4 => some s4) else none
theorem gd_X8_lay {σ : St} {t : Nat} {a0 : Int32} {a1 : Int32} {a2 : Int32} {r : St} (h : f_X8_lay σ t a0 a1 a2 = some r) : isO σ 7 t = true := by
  unfold f_X8_lay at h
  by_cases hg : isO σ 7 t = true
  · exact hg
  · rw [if_neg hg] at h
    cases h
set_option maxRecDepth 100000 in
set_option maxHeartbeats 4000000 in
theorem c_X8_lay (l : Launch) (G : Gd) (d : Nat) (σ : St) (t : Nat) (a0 : Int32) (a1 : Int32) (a2 : Int32) (σ' : St) (hf : f_X8_lay σ t a0 a1 a2 = some σ') : MetV l G (d + 1) mi_X8_lay [.ref t, .int a0, .int a1, .int a2] σ none σ' 0 0 := by
  unfold f_X8_lay at hf
  refine MetV.of [(0, .ref t), (1, .int a0), (2, .int a1), (3, .int a2)] (by decide +kernel) rfl (Nat.le_of_ble_eq_true rfl) ?_
  intro X hQ
  by_cases hg : isO σ 7 t = true
  · rw [if_pos hg] at hf
    refine V_aload_n 0 1 rfl dX8_lay_0 rfl rfl ?_
    obtain ⟨q2, h1, hf⟩ := ob hf
    refine V_getQ (n := 27) (ty := tyX8) 4 h1 cf_7 rfl wd_fl_X8_9 dX8_lay_1 rfl ?_
    refine V_bipush 82 6 dX8_lay_4 rfl kbipush_82 ?_
    refine V_bipush 29 8 dX8_lay_6 rfl kbipush_29 ?_
    refine V_iload_n 1 9 rfl dX8_lay_8 rfl rfl ?_
    refine V_imul 10 dX8_lay_9 rfl ?_
    refine V_iadd 11 dX8_lay_10 rfl ?_
    refine V_iconst 5 12 dX8_lay_11 rfl kiconst_5 ?_
    refine V_iadd 13 dX8_lay_12 rfl ?_
    refine V_iload_n 2 14 rfl dX8_lay_13 rfl rfl ?_
    refine V_iadd 15 dX8_lay_14 rfl ?_
    refine V_iload_n 3 16 rfl dX8_lay_15 rfl rfl ?_
    obtain ⟨s4, h3, hf⟩ := ob hf
    refine V_iast 17 h3 dX8_lay_16 rfl ?_
    have er := Option.some.inj hf
    subst er
    exact V_vret hQ rfl dX8_lay_17
  · rw [if_neg hg] at hf
    cases hf
abbrev mi_X8_curve_ : MI := (yX8_curve_, cX8_curve_, 9, some .int)
theorem ok_X8_curve_ : OkN mi_X8_curve_ 5 := ⟨wd_cd_X8_curve_, wd_in_X8, ⟨by decide +kernel, by decide +kernel, by decide +kernel⟩, by decide⟩
theorem okv_X8_curve_ : Cond.instanceMethod (mi_X8_curve_).1 ∈ tb ∧ Cond.selects (mi_X8_curve_).1.cls (mi_X8_curve_).1 (mi_X8_curve_).1 ∈ tb := ⟨wd_im_X8_curve_, wd_se_X8_curve_⟩
def f_X8_curve__L88 (σ : St) (t : Nat) (x3 : Int32) (x4 : Int32) (x5 : Int32) : Nat → Int32 → Int32 → Option (Int32 × Int32)
  | 0, _, _ => none
  | n + 1, x7, x6 => if x5 ≤ x7 then (some (x7, x6)) else (if x6 = 0 then (some (x7, x6)) else ((gQ σ 7 t 25).bind fun q28 => (aI σ 0 q28 ((((24 : Int32) * x3) + x4) + x7)).bind fun v30 => (f_X8_within σ v30 (-99999) 99999).bind fun v32 => f_X8_curve__L88 σ t x3 x4 x5 n (x7 + 1) v32))
def f_X8_curve__L181 (x7 : Int32) (t : Nat) (x3 : Int32) (x4 : Int32) (x5 : Int32) : Nat → Int32 → St → Option (Int32 × St)
  | 0, _, _ => none
  | n + 1, x8, σ => if x5 ≤ x8 then (some (x8, σ)) else ((gQ σ 7 t 25).bind fun q45 => (aI σ 0 q45 ((((24 : Int32) * x3) + x4) + x8)).bind fun v47 => (f_X8_lay σ t x7 x8 v47).bind fun s49 => f_X8_curve__L181 x7 t x3 x4 x5 n (x8 + 1) s49)
def f_X8_curve_ (σ : St) (t : Nat) (a0 : Int32) (a1 : Int32) (a2 : Int32) (a3 : Int32) (a4 : Int32) : Option (Int32 × St) := if isO σ 7 t = true then ((f_X8_within σ a0 0 7).bind fun v2 => if v2 = 0 then ((f_X8_finding σ t (-1000001)).bind fun p5 => some (p5.1, p5.2)) else ((f_X8_isPlace σ t a1).bind fun v7 => if v7 = 0 then ((f_X8_finding σ t (-1000001)).bind fun p10 => some (p10.1, p10.2)) else ((f_X8_isSheet σ a2).bind fun v12 => if v12 = 0 then ((f_X8_finding σ t (-1000001)).bind fun p15 => some (p15.1, p15.2)) else ((f_X8_within σ a4 3 24).bind fun v17 => if v17 = 0 then ((f_X8_finding σ t (-1000001)).bind fun p81 => some (p81.1, p81.2)) else ((gQ σ 7 t 23).bind fun q20 => (aI σ 0 q20 a2).bind fun v22 => if v22 = 0 then ((f_X8_finding σ t (-1000002)).bind fun p79 => some (p79.1, p79.2)) else (if a3 < 0 then ((f_X8_curve__L88 σ t a2 a3 a4 3000 0 0).bind fun p33 => if p33.2 = 0 then ((f_X8_finding σ t (-1000001)).bind fun p55 => some (p55.1, p55.2)) else ((gQ σ 7 t 0).bind fun q37 => (aI σ 0 q37 1).bind fun v39 => if v39 = 24 then ((f_X8_finding σ t (-1000004)).bind fun p53 => some (p53.1, p53.2)) else ((f_X8_begin σ t a0 (a1 / 10) (irm a1 10) a4 (-1)).bind fun p42 => (f_X8_curve__L181 p42.1 t a2 a3 a4 3000 0 p42.2).bind fun p50 => some (p42.1, p50.2)))) else ((gQ σ 7 t 24).bind fun q57 => (aI σ 0 q57 a2).bind fun v59 => (f_X8_curve__L88 σ t a2 a3 a4 3000 0 (if (v59 - a4) < a3 then 0 else 1 : Int32)).bind fun p60 => if p60.2 = 0 then ((f_X8_finding σ t (-1000001)).bind fun p75 => some (p75.1, p75.2)) else ((gQ σ 7 t 0).bind fun q64 => (aI σ 0 q64 1).bind fun v66 => if v66 = 24 then ((f_X8_finding σ t (-1000004)).bind fun p73 => some (p73.1, p73.2)) else ((f_X8_begin σ t a0 (a1 / 10) (irm a1 10) a4 (-1)).bind fun p69 => (f_X8_curve__L181 p69.1 t a2 a3 a4 3000 0 p69.2).bind fun p70 => some (p69.1, p70.2)))))))))) else none
theorem gd_X8_curve_ {σ : St} {t : Nat} {a0 : Int32} {a1 : Int32} {a2 : Int32} {a3 : Int32} {a4 : Int32} {r : Int32 × St} (h : f_X8_curve_ σ t a0 a1 a2 a3 a4 = some r) : isO σ 7 t = true := by
  unfold f_X8_curve_ at h
  by_cases hg : isO σ 7 t = true
  · exact hg
  · rw [if_neg hg] at h
    cases h
set_option maxRecDepth 100000 in
set_option maxHeartbeats 4000000 in
theorem c_X8_curve_ (l : Launch) (G : Gd) (d : Nat) (σ : St) (t : Nat) (a0 : Int32) (a1 : Int32) (a2 : Int32) (a3 : Int32) (a4 : Int32) (r0 : Int32) (σ' : St) (hf : f_X8_curve_ σ t a0 a1 a2 a3 a4 = some (r0, σ')) : MetV l G (d + 4) mi_X8_curve_ [.ref t, .int a0, .int a1, .int a2, .int a3, .int a4] σ (some (.int r0)) σ' 0 0 := by
  unfold f_X8_curve_ at hf
  refine MetV.of [(0, .ref t), (1, .int a0), (2, .int a1), (3, .int a2), (4, .int a3), (5, .int a4)] (by decide +kernel) rfl (Nat.le_of_ble_eq_true rfl) ?_
  intro X hQ
  have L88 : ∀ (σ : St) (x1 : Int32) (x2 : Int32) (x3 : Int32) (x4 : Int32) (x5 : Int32) (n : Nat) (x7 : Int32) (x6 : Int32) (p : Int32 × Int32), f_X8_curve__L88 σ t x3 x4 x5 n x7 x6 = some p → V mi_X8_curve_ l G (d + 4) 0 0 X 0 0 130 [(7, .int p.1), (6, .int p.2), (0, .ref t), (1, .int x1), (2, .int x2), (3, .int x3), (4, .int x4), (5, .int x5)] [] σ → V mi_X8_curve_ l G (d + 4) 0 0 X 0 0 88 [(7, .int x7), (6, .int x6), (0, .ref t), (1, .int x1), (2, .int x2), (3, .int x3), (4, .int x4), (5, .int x5)] [] σ := by
    intro σ x1 x2 x3 x4 x5 n
    induction n with
    | zero =>
      intro x7 x6 p hf
      exact absurd (show (none : Option _) = some p from hf) (by simp)
    | succ n ih =>
      intro x7 x6 p hf hk
      rw [f_X8_curve__L88] at hf
      refine V_iload 0 90 rfl dX8_curve__88 rfl ?_
      refine V_iload 7 92 rfl dX8_curve__90 rfl ?_
      refine V_icmp_ge 130 95 dX8_curve__92 (by decide) rfl (fun c25 => ?_) (fun c25 => ?_)
      · rw [if_pos c25] at hf
        have ep := Option.some.inj hf
        subst ep
        refine V_ls [(7, .int x7), (6, .int x6), (0, .ref t), (1, .int x1), (2, .int x2), (3, .int x3), (4, .int x4), (5, .int x5)] [0, 1, 2, 3, 4, 5, 6, 7] rfl ?_
        exact hk
      · rw [if_neg c25] at hf
        refine V_iload 1 97 rfl dX8_curve__95 rfl ?_
        refine V_if_eq 130 100 dX8_curve__97 (by decide) rfl (fun c26 => ?_) (fun c26 => ?_)
        · rw [if_pos c26] at hf
          have ep := Option.some.inj hf
          subst ep
          refine V_ls [(7, .int x7), (6, .int x6), (0, .ref t), (1, .int x1), (2, .int x2), (3, .int x3), (4, .int x4), (5, .int x5)] [0, 1, 2, 3, 4, 5, 6, 7] rfl ?_
          exact hk
        · rw [if_neg c26] at hf
          refine V_aload_n 2 101 rfl dX8_curve__100 rfl rfl ?_
          obtain ⟨q28, h27, hf⟩ := ob hf
          refine V_getQ (n := 27) (ty := tyX8) 104 h27 cf_7 rfl wd_fl_X8_61 dX8_curve__101 rfl ?_
          refine V_bipush 24 106 dX8_curve__104 rfl kbipush_24 ?_
          refine V_iload_n 5 107 rfl dX8_curve__106 rfl rfl ?_
          refine V_imul 108 dX8_curve__107 rfl ?_
          refine V_iload 6 110 rfl dX8_curve__108 rfl ?_
          refine V_iadd 111 dX8_curve__110 rfl ?_
          refine V_iload 0 113 rfl dX8_curve__111 rfl ?_
          refine V_iadd 114 dX8_curve__113 rfl ?_
          obtain ⟨v30, h29, hf⟩ := ob hf
          refine V_iald 115 h29 dX8_curve__114 rfl ?_
          refine V_ldc (-99999) 117 dX8_curve__115 rfl wd_kk_X8_114 ?_
          refine V_ldc 99999 119 dX8_curve__117 rfl wd_kk_X8_115 ?_
          obtain ⟨v32, h31, hf⟩ := ob hf
          refine V_callS (rest := []) 0 0 122 [.int v32] (c_X8_within l G (d + 2) _ _ _ _ _ h31) (by omega) ok_X8_within oks_X8_within wd_ml_X8_68 rfl rfl (Nat.le_of_ble_eq_true rfl) rfl rfl (Or.inl ⟨rfl, rfl⟩) dX8_curve__119 rfl rfl ?_
          refine V_istore [(6, .int v32), (7, .int x7), (0, .ref t), (1, .int x1), (2, .int x2), (3, .int x3), (4, .int x4), (5, .int x5)] 124 dX8_curve__122 (by decide) rfl rfl ?_
          refine V_iinc (x7 + 1) 1 [(7, .int (x7 + 1)), (6, .int v32), (0, .ref t), (1, .int x1), (2, .int x2), (3, .int x3), (4, .int x4), (5, .int x5)] 127 dX8_curve__124 rfl (by rw [kiconst_1]) (by decide) rfl rfl ?_
          refine V_goto 88 dX8_curve__127 (by decide) ?_
          refine V_ls [(7, .int (x7 + 1)), (6, .int v32), (0, .ref t), (1, .int x1), (2, .int x2), (3, .int x3), (4, .int x4), (5, .int x5)] [0, 1, 2, 3, 4, 5, 6, 7] rfl ?_
          exact ih _ _ _ hf hk
  have L181 : ∀ (x7 : Int32) (x3 : Int32) (x4 : Int32) (x5 : Int32) (n : Nat) (x8 : Int32) (σ : St) (p : Int32 × St), f_X8_curve__L181 x7 t x3 x4 x5 n x8 σ = some p → V mi_X8_curve_ l G (d + 4) 0 0 X 0 0 217 [(8, .int p.1), (7, .int x7), (0, .ref t), (3, .int x3), (4, .int x4), (5, .int x5)] [] p.2 → V mi_X8_curve_ l G (d + 4) 0 0 X 0 0 181 [(8, .int x8), (7, .int x7), (0, .ref t), (3, .int x3), (4, .int x4), (5, .int x5)] [] σ := by
    intro x7 x3 x4 x5 n
    induction n with
    | zero =>
      intro x8 σ p hf
      exact absurd (show (none : Option _) = some p from hf) (by simp)
    | succ n ih =>
      intro x8 σ p hf hk
      rw [f_X8_curve__L181] at hf
      refine V_iload 0 183 rfl dX8_curve__181 rfl ?_
      refine V_iload 5 185 rfl dX8_curve__183 rfl ?_
      refine V_icmp_ge 217 188 dX8_curve__185 (by decide) rfl (fun c43 => ?_) (fun c43 => ?_)
      · rw [if_pos c43] at hf
        have ep := Option.some.inj hf
        subst ep
        refine V_ls [(8, .int x8), (7, .int x7), (0, .ref t), (3, .int x3), (4, .int x4), (5, .int x5)] [0, 1, 2, 3, 4, 5] rfl ?_
        exact hk
      · rw [if_neg c43] at hf
        refine V_aload_n 2 189 rfl dX8_curve__188 rfl rfl ?_
        refine V_iload 1 191 rfl dX8_curve__189 rfl ?_
        refine V_iload 0 193 rfl dX8_curve__191 rfl ?_
        refine V_aload_n 2 194 rfl dX8_curve__193 rfl rfl ?_
        obtain ⟨q45, h44, hf⟩ := ob hf
        refine V_getQ (n := 27) (ty := tyX8) 197 h44 cf_7 rfl wd_fl_X8_61 dX8_curve__194 rfl ?_
        refine V_bipush 24 199 dX8_curve__197 rfl kbipush_24 ?_
        refine V_iload_n 3 200 rfl dX8_curve__199 rfl rfl ?_
        refine V_imul 201 dX8_curve__200 rfl ?_
        refine V_iload 4 203 rfl dX8_curve__201 rfl ?_
        refine V_iadd 204 dX8_curve__203 rfl ?_
        refine V_iload 0 206 rfl dX8_curve__204 rfl ?_
        refine V_iadd 207 dX8_curve__206 rfl ?_
        obtain ⟨v47, h46, hf⟩ := ob hf
        refine V_iald 208 h46 dX8_curve__207 rfl ?_
        obtain ⟨s49, h48, hf⟩ := ob hf
        refine V_callV (rest := []) (T := TX8) (n := 27) (ci := 7) 0 0 211 [] (c_X8_lay l G (d + 2) _ _ _ _ _ _ h48) (by omega) ok_X8_lay okv_X8_lay (gd_X8_lay h48) rfl wd_ml_X8_120 rfl rfl (Nat.le_of_ble_eq_true rfl) rfl rfl (Or.inl ⟨rfl, rfl⟩) dX8_curve__208 rfl rfl ?_
        refine V_iinc (x8 + 1) 0 [(8, .int (x8 + 1)), (7, .int x7), (0, .ref t), (3, .int x3), (4, .int x4), (5, .int x5)] 214 dX8_curve__211 rfl (by rw [kiconst_1]) (by decide) rfl rfl ?_
        refine V_goto 181 dX8_curve__214 (by decide) ?_
        refine V_ls [(8, .int (x8 + 1)), (7, .int x7), (0, .ref t), (3, .int x3), (4, .int x4), (5, .int x5)] [0, 1, 2, 3, 4, 5] rfl ?_
        exact ih _ _ _ hf hk
  by_cases hg : isO σ 7 t = true
  · rw [if_pos hg] at hf
    refine V_iload_n 1 1 rfl dX8_curve__0 rfl rfl ?_
    refine V_iconst 0 2 dX8_curve__1 rfl kiconst_0 ?_
    refine V_bipush 7 4 dX8_curve__2 rfl kbipush_7 ?_
    obtain ⟨v2, h1, hf⟩ := ob hf
    refine V_callS (rest := []) 0 0 7 [.int v2] (c_X8_within l G (d + 2) _ _ _ _ _ h1) (by omega) ok_X8_within oks_X8_within wd_ml_X8_68 rfl rfl (Nat.le_of_ble_eq_true rfl) rfl rfl (Or.inl ⟨rfl, rfl⟩) dX8_curve__4 rfl rfl ?_
    refine V_if_eq 36 10 dX8_curve__7 (by decide) rfl (fun c3 => ?_) (fun c3 => ?_)
    · rw [if_pos c3] at hf
      refine V_aload_n 0 37 rfl dX8_curve__36 rfl rfl ?_
      refine V_ldc (-1000001) 39 dX8_curve__37 rfl wd_kk_X8_76 ?_
      obtain ⟨p5, h4, hf⟩ := ob hf
      refine V_callV (rest := []) (T := TX8) (n := 27) (ci := 7) 0 0 42 [.int p5.1] (c_X8_finding l G (d + 2) _ _ _ _ _ h4) (by omega) ok_X8_finding okv_X8_finding (gd_X8_finding h4) rfl wd_ml_X8_77 rfl rfl (Nat.le_of_ble_eq_true rfl) rfl rfl (Or.inl ⟨rfl, rfl⟩) dX8_curve__39 rfl rfl ?_
      have er := Option.some.inj hf
      obtain ⟨e1, e2⟩ := Prod.mk.inj er
      subst e1
      subst e2
      exact V_iret hQ rfl dX8_curve__42
    · rw [if_neg c3] at hf
      refine V_aload_n 0 11 rfl dX8_curve__10 rfl rfl ?_
      refine V_iload_n 2 12 rfl dX8_curve__11 rfl rfl ?_
      obtain ⟨v7, h6, hf⟩ := ob hf
      refine V_callV (rest := []) (T := TX8) (n := 27) (ci := 7) 0 0 15 [.int v7] (c_X8_isPlace l G (d + 0) _ _ _ _ h6) (by omega) ok_X8_isPlace okv_X8_isPlace (gd_X8_isPlace h6) rfl wd_ml_X8_106 rfl rfl (Nat.le_of_ble_eq_true rfl) rfl rfl (Or.inl ⟨rfl, rfl⟩) dX8_curve__12 rfl rfl ?_
      refine V_if_eq 36 18 dX8_curve__15 (by decide) rfl (fun c8 => ?_) (fun c8 => ?_)
      · rw [if_pos c8] at hf
        refine V_aload_n 0 37 rfl dX8_curve__36 rfl rfl ?_
        refine V_ldc (-1000001) 39 dX8_curve__37 rfl wd_kk_X8_76 ?_
        obtain ⟨p10, h9, hf⟩ := ob hf
        refine V_callV (rest := []) (T := TX8) (n := 27) (ci := 7) 0 0 42 [.int p10.1] (c_X8_finding l G (d + 2) _ _ _ _ _ h9) (by omega) ok_X8_finding okv_X8_finding (gd_X8_finding h9) rfl wd_ml_X8_77 rfl rfl (Nat.le_of_ble_eq_true rfl) rfl rfl (Or.inl ⟨rfl, rfl⟩) dX8_curve__39 rfl rfl ?_
        have er := Option.some.inj hf
        obtain ⟨e1, e2⟩ := Prod.mk.inj er
        subst e1
        subst e2
        exact V_iret hQ rfl dX8_curve__42
      · rw [if_neg c8] at hf
        refine V_iload_n 3 19 rfl dX8_curve__18 rfl rfl ?_
        obtain ⟨v12, h11, hf⟩ := ob hf
        refine V_callS (rest := []) 0 0 22 [.int v12] (c_X8_isSheet l G (d + 1) _ _ _ h11) (by omega) ok_X8_isSheet oks_X8_isSheet wd_ml_X8_110 rfl rfl (Nat.le_of_ble_eq_true rfl) rfl rfl (Or.inl ⟨rfl, rfl⟩) dX8_curve__19 rfl rfl ?_
        refine V_if_eq 36 25 dX8_curve__22 (by decide) rfl (fun c13 => ?_) (fun c13 => ?_)
        · rw [if_pos c13] at hf
          refine V_aload_n 0 37 rfl dX8_curve__36 rfl rfl ?_
          refine V_ldc (-1000001) 39 dX8_curve__37 rfl wd_kk_X8_76 ?_
          obtain ⟨p15, h14, hf⟩ := ob hf
          refine V_callV (rest := []) (T := TX8) (n := 27) (ci := 7) 0 0 42 [.int p15.1] (c_X8_finding l G (d + 2) _ _ _ _ _ h14) (by omega) ok_X8_finding okv_X8_finding (gd_X8_finding h14) rfl wd_ml_X8_77 rfl rfl (Nat.le_of_ble_eq_true rfl) rfl rfl (Or.inl ⟨rfl, rfl⟩) dX8_curve__39 rfl rfl ?_
          have er := Option.some.inj hf
          obtain ⟨e1, e2⟩ := Prod.mk.inj er
          subst e1
          subst e2
          exact V_iret hQ rfl dX8_curve__42
        · rw [if_neg c13] at hf
          refine V_iload 5 27 rfl dX8_curve__25 rfl ?_
          refine V_iconst 3 28 dX8_curve__27 rfl kiconst_3 ?_
          refine V_bipush 24 30 dX8_curve__28 rfl kbipush_24 ?_
          obtain ⟨v17, h16, hf⟩ := ob hf
          refine V_callS (rest := []) 0 0 33 [.int v17] (c_X8_within l G (d + 2) _ _ _ _ _ h16) (by omega) ok_X8_within oks_X8_within wd_ml_X8_68 rfl rfl (Nat.le_of_ble_eq_true rfl) rfl rfl (Or.inl ⟨rfl, rfl⟩) dX8_curve__30 rfl rfl ?_
          refine V_if_ne 43 36 dX8_curve__33 (by decide) rfl (fun c18 => ?_) (fun c18 => ?_)
          · rw [if_neg c18] at hf
            refine V_aload_n 0 44 rfl dX8_curve__43 rfl rfl ?_
            obtain ⟨q20, h19, hf⟩ := ob hf
            refine V_getQ (n := 27) (ty := tyX8) 47 h19 cf_7 rfl wd_fl_X8_55 dX8_curve__44 rfl ?_
            refine V_iload_n 3 48 rfl dX8_curve__47 rfl rfl ?_
            obtain ⟨v22, h21, hf⟩ := ob hf
            refine V_iald 49 h21 dX8_curve__48 rfl ?_
            refine V_if_ne 59 52 dX8_curve__49 (by decide) rfl (fun c23 => ?_) (fun c23 => ?_)
            · rw [if_neg c23] at hf
              refine V_iload 4 61 rfl dX8_curve__59 rfl ?_
              refine V_if_lt 82 64 dX8_curve__61 (by decide) rfl (fun c24 => ?_) (fun c24 => ?_)
              · rw [if_pos c24] at hf
                refine V_iconst 0 83 dX8_curve__82 rfl kiconst_0 ?_
                refine V_istore [(6, .int 0), (0, .ref t), (1, .int a0), (2, .int a1), (3, .int a2), (4, .int a3), (5, .int a4)] 85 dX8_curve__83 (by decide) rfl rfl ?_
                refine V_iconst 0 86 dX8_curve__85 rfl kiconst_0 ?_
                refine V_istore [(7, .int 0), (6, .int 0), (0, .ref t), (1, .int a0), (2, .int a1), (3, .int a2), (4, .int a3), (5, .int a4)] 88 dX8_curve__86 (by decide) rfl rfl ?_
                obtain ⟨p33, h34, hf⟩ := ob hf
                refine V_ls [(7, .int 0), (6, .int 0), (0, .ref t), (1, .int a0), (2, .int a1), (3, .int a2), (4, .int a3), (5, .int a4)] [0, 1, 2, 3, 4, 5, 6, 7] rfl ?_
                refine L88 σ a0 a1 a2 a3 a4 3000 0 0 p33 h34 ?_
                refine V_iload 1 132 rfl dX8_curve__130 rfl ?_
                refine V_if_ne 142 135 dX8_curve__132 (by decide) rfl (fun c35 => ?_) (fun c35 => ?_)
                · rw [if_neg c35] at hf
                  refine V_aload_n 2 143 rfl dX8_curve__142 rfl rfl ?_
                  obtain ⟨q37, h36, hf⟩ := ob hf
                  refine V_getQ (n := 27) (ty := tyX8) 146 h36 cf_7 rfl wd_fl_X8_9 dX8_curve__143 rfl ?_
                  refine V_iconst 1 147 dX8_curve__146 rfl kiconst_1 ?_
                  obtain ⟨v39, h38, hf⟩ := ob hf
                  refine V_iald 148 h38 dX8_curve__147 rfl ?_
                  refine V_bipush 24 150 dX8_curve__148 rfl kbipush_24 ?_
                  refine V_icmp_ne 160 153 dX8_curve__150 (by decide) rfl (fun c40 => ?_) (fun c40 => ?_)
                  · rw [if_neg c40] at hf
                    refine V_aload_n 2 161 rfl dX8_curve__160 rfl rfl ?_
                    refine V_iload_n 3 162 rfl dX8_curve__161 rfl rfl ?_
                    refine V_iload_n 4 163 rfl dX8_curve__162 rfl rfl ?_
                    refine V_bipush 10 165 dX8_curve__163 rfl kbipush_10 ?_
                    refine V_idiv 166 dX8_curve__165 rfl (by decide) ?_
                    refine V_iload_n 4 167 rfl dX8_curve__166 rfl rfl ?_
                    refine V_bipush 10 169 dX8_curve__167 rfl kbipush_10 ?_
                    refine V_irem 170 dX8_curve__169 rfl (by decide) ?_
                    refine V_iload 7 172 rfl dX8_curve__170 rfl ?_
                    refine V_iconst (-1) 173 dX8_curve__172 rfl kiconst_m1 ?_
                    obtain ⟨p42, h41, hf⟩ := ob hf
                    refine V_callV (rest := []) (T := TX8) (n := 27) (ci := 7) 0 0 176 [.int p42.1] (c_X8_begin l G (d + 2) _ _ _ _ _ _ _ _ _ h41) (by omega) ok_X8_begin okv_X8_begin (gd_X8_begin h41) rfl wd_ml_X8_116 rfl rfl (Nat.le_of_ble_eq_true rfl) rfl rfl (Or.inl ⟨rfl, rfl⟩) dX8_curve__173 rfl rfl ?_
                    refine V_istore [(7, .int p42.1), (6, .int p33.2), (0, .ref t), (1, .int a0), (2, .int a1), (3, .int a2), (4, .int a3), (5, .int a4)] 178 dX8_curve__176 (by decide) rfl rfl ?_
                    refine V_iconst 0 179 dX8_curve__178 rfl kiconst_0 ?_
                    refine V_istore [(8, .int 0), (7, .int p42.1), (6, .int p33.2), (0, .ref t), (1, .int a0), (2, .int a1), (3, .int a2), (4, .int a3), (5, .int a4)] 181 dX8_curve__179 (by decide) rfl rfl ?_
                    obtain ⟨p50, h51, hf⟩ := ob hf
                    refine V_ls [(8, .int 0), (7, .int p42.1), (0, .ref t), (3, .int a2), (4, .int a3), (5, .int a4)] [0, 1, 3, 6, 7, 8] rfl ?_
                    refine L181 p42.1 a2 a3 a4 3000 0 p42.2 p50 h51 ?_
                    refine V_iload 1 219 rfl dX8_curve__217 rfl ?_
                    have er := Option.some.inj hf
                    obtain ⟨e1, e2⟩ := Prod.mk.inj er
                    subst e1
                    subst e2
                    exact V_iret hQ rfl dX8_curve__219
                  · rw [if_pos c40] at hf
                    refine V_aload_n 2 154 rfl dX8_curve__153 rfl rfl ?_
                    refine V_ldc (-1000004) 156 dX8_curve__154 rfl wd_kk_X8_82 ?_
                    obtain ⟨p53, h52, hf⟩ := ob hf
                    refine V_callV (rest := []) (T := TX8) (n := 27) (ci := 7) 0 0 159 [.int p53.1] (c_X8_finding l G (d + 2) _ _ _ _ _ h52) (by omega) ok_X8_finding okv_X8_finding (gd_X8_finding h52) rfl wd_ml_X8_77 rfl rfl (Nat.le_of_ble_eq_true rfl) rfl rfl (Or.inl ⟨rfl, rfl⟩) dX8_curve__156 rfl rfl ?_
                    have er := Option.some.inj hf
                    obtain ⟨e1, e2⟩ := Prod.mk.inj er
                    subst e1
                    subst e2
                    exact V_iret hQ rfl dX8_curve__159
                · rw [if_pos c35] at hf
                  refine V_aload_n 2 136 rfl dX8_curve__135 rfl rfl ?_
                  refine V_ldc (-1000001) 138 dX8_curve__136 rfl wd_kk_X8_76 ?_
                  obtain ⟨p55, h54, hf⟩ := ob hf
                  refine V_callV (rest := []) (T := TX8) (n := 27) (ci := 7) 0 0 141 [.int p55.1] (c_X8_finding l G (d + 2) _ _ _ _ _ h54) (by omega) ok_X8_finding okv_X8_finding (gd_X8_finding h54) rfl wd_ml_X8_77 rfl rfl (Nat.le_of_ble_eq_true rfl) rfl rfl (Or.inl ⟨rfl, rfl⟩) dX8_curve__138 rfl rfl ?_
                  have er := Option.some.inj hf
                  obtain ⟨e1, e2⟩ := Prod.mk.inj er
                  subst e1
                  subst e2
                  exact V_iret hQ rfl dX8_curve__141
              · rw [if_neg c24] at hf
                refine V_iload 4 66 rfl dX8_curve__64 rfl ?_
                refine V_aload_n 0 67 rfl dX8_curve__66 rfl rfl ?_
                obtain ⟨q57, h56, hf⟩ := ob hf
                refine V_getQ (n := 27) (ty := tyX8) 70 h56 cf_7 rfl wd_fl_X8_58 dX8_curve__67 rfl ?_
                refine V_iload_n 3 71 rfl dX8_curve__70 rfl rfl ?_
                obtain ⟨v59, h58, hf⟩ := ob hf
                refine V_iald 72 h58 dX8_curve__71 rfl ?_
                refine V_iload 5 74 rfl dX8_curve__72 rfl ?_
                refine V_isub 75 dX8_curve__74 rfl ?_
                have kj76 : V mi_X8_curve_ l G (d + 4) 0 0 X 0 0 83 [(0, .ref t), (1, .int a0), (2, .int a1), (3, .int a2), (4, .int a3), (5, .int a4)] [.int (if (v59 - a4) < a3 then 0 else 1 : Int32)] σ := by
                  refine V_istore [(6, .int (if (v59 - a4) < a3 then 0 else 1 : Int32)), (0, .ref t), (1, .int a0), (2, .int a1), (3, .int a2), (4, .int a3), (5, .int a4)] 85 dX8_curve__83 (by decide) rfl rfl ?_
                  refine V_iconst 0 86 dX8_curve__85 rfl kiconst_0 ?_
                  refine V_istore [(7, .int 0), (6, .int (if (v59 - a4) < a3 then 0 else 1 : Int32)), (0, .ref t), (1, .int a0), (2, .int a1), (3, .int a2), (4, .int a3), (5, .int a4)] 88 dX8_curve__86 (by decide) rfl rfl ?_
                  obtain ⟨p60, h61, hf⟩ := ob hf
                  refine V_ls [(7, .int 0), (6, .int (if (v59 - a4) < a3 then 0 else 1 : Int32)), (0, .ref t), (1, .int a0), (2, .int a1), (3, .int a2), (4, .int a3), (5, .int a4)] [0, 1, 2, 3, 4, 5, 6, 7] rfl ?_
                  refine L88 σ a0 a1 a2 a3 a4 3000 0 (if (v59 - a4) < a3 then 0 else 1 : Int32) p60 h61 ?_
                  refine V_iload 1 132 rfl dX8_curve__130 rfl ?_
                  refine V_if_ne 142 135 dX8_curve__132 (by decide) rfl (fun c62 => ?_) (fun c62 => ?_)
                  · rw [if_neg c62] at hf
                    refine V_aload_n 2 143 rfl dX8_curve__142 rfl rfl ?_
                    obtain ⟨q64, h63, hf⟩ := ob hf
                    refine V_getQ (n := 27) (ty := tyX8) 146 h63 cf_7 rfl wd_fl_X8_9 dX8_curve__143 rfl ?_
                    refine V_iconst 1 147 dX8_curve__146 rfl kiconst_1 ?_
                    obtain ⟨v66, h65, hf⟩ := ob hf
                    refine V_iald 148 h65 dX8_curve__147 rfl ?_
                    refine V_bipush 24 150 dX8_curve__148 rfl kbipush_24 ?_
                    refine V_icmp_ne 160 153 dX8_curve__150 (by decide) rfl (fun c67 => ?_) (fun c67 => ?_)
                    · rw [if_neg c67] at hf
                      refine V_aload_n 2 161 rfl dX8_curve__160 rfl rfl ?_
                      refine V_iload_n 3 162 rfl dX8_curve__161 rfl rfl ?_
                      refine V_iload_n 4 163 rfl dX8_curve__162 rfl rfl ?_
                      refine V_bipush 10 165 dX8_curve__163 rfl kbipush_10 ?_
                      refine V_idiv 166 dX8_curve__165 rfl (by decide) ?_
                      refine V_iload_n 4 167 rfl dX8_curve__166 rfl rfl ?_
                      refine V_bipush 10 169 dX8_curve__167 rfl kbipush_10 ?_
                      refine V_irem 170 dX8_curve__169 rfl (by decide) ?_
                      refine V_iload 7 172 rfl dX8_curve__170 rfl ?_
                      refine V_iconst (-1) 173 dX8_curve__172 rfl kiconst_m1 ?_
                      obtain ⟨p69, h68, hf⟩ := ob hf
                      refine V_callV (rest := []) (T := TX8) (n := 27) (ci := 7) 0 0 176 [.int p69.1] (c_X8_begin l G (d + 2) _ _ _ _ _ _ _ _ _ h68) (by omega) ok_X8_begin okv_X8_begin (gd_X8_begin h68) rfl wd_ml_X8_116 rfl rfl (Nat.le_of_ble_eq_true rfl) rfl rfl (Or.inl ⟨rfl, rfl⟩) dX8_curve__173 rfl rfl ?_
                      refine V_istore [(7, .int p69.1), (6, .int p60.2), (0, .ref t), (1, .int a0), (2, .int a1), (3, .int a2), (4, .int a3), (5, .int a4)] 178 dX8_curve__176 (by decide) rfl rfl ?_
                      refine V_iconst 0 179 dX8_curve__178 rfl kiconst_0 ?_
                      refine V_istore [(8, .int 0), (7, .int p69.1), (6, .int p60.2), (0, .ref t), (1, .int a0), (2, .int a1), (3, .int a2), (4, .int a3), (5, .int a4)] 181 dX8_curve__179 (by decide) rfl rfl ?_
                      obtain ⟨p70, h71, hf⟩ := ob hf
                      refine V_ls [(8, .int 0), (7, .int p69.1), (0, .ref t), (3, .int a2), (4, .int a3), (5, .int a4)] [0, 1, 3, 6, 7, 8] rfl ?_
                      refine L181 p69.1 a2 a3 a4 3000 0 p69.2 p70 h71 ?_
                      refine V_iload 1 219 rfl dX8_curve__217 rfl ?_
                      have er := Option.some.inj hf
                      obtain ⟨e1, e2⟩ := Prod.mk.inj er
                      subst e1
                      subst e2
                      exact V_iret hQ rfl dX8_curve__219
                    · rw [if_pos c67] at hf
                      refine V_aload_n 2 154 rfl dX8_curve__153 rfl rfl ?_
                      refine V_ldc (-1000004) 156 dX8_curve__154 rfl wd_kk_X8_82 ?_
                      obtain ⟨p73, h72, hf⟩ := ob hf
                      refine V_callV (rest := []) (T := TX8) (n := 27) (ci := 7) 0 0 159 [.int p73.1] (c_X8_finding l G (d + 2) _ _ _ _ _ h72) (by omega) ok_X8_finding okv_X8_finding (gd_X8_finding h72) rfl wd_ml_X8_77 rfl rfl (Nat.le_of_ble_eq_true rfl) rfl rfl (Or.inl ⟨rfl, rfl⟩) dX8_curve__156 rfl rfl ?_
                      have er := Option.some.inj hf
                      obtain ⟨e1, e2⟩ := Prod.mk.inj er
                      subst e1
                      subst e2
                      exact V_iret hQ rfl dX8_curve__159
                  · rw [if_pos c62] at hf
                    refine V_aload_n 2 136 rfl dX8_curve__135 rfl rfl ?_
                    refine V_ldc (-1000001) 138 dX8_curve__136 rfl wd_kk_X8_76 ?_
                    obtain ⟨p75, h74, hf⟩ := ob hf
                    refine V_callV (rest := []) (T := TX8) (n := 27) (ci := 7) 0 0 141 [.int p75.1] (c_X8_finding l G (d + 2) _ _ _ _ _ h74) (by omega) ok_X8_finding okv_X8_finding (gd_X8_finding h74) rfl wd_ml_X8_77 rfl rfl (Nat.le_of_ble_eq_true rfl) rfl rfl (Or.inl ⟨rfl, rfl⟩) dX8_curve__138 rfl rfl ?_
                    have er := Option.some.inj hf
                    obtain ⟨e1, e2⟩ := Prod.mk.inj er
                    subst e1
                    subst e2
                    exact V_iret hQ rfl dX8_curve__141
                refine V_icmp_gt 82 78 dX8_curve__75 (by decide) rfl (fun c77 => ?_) (fun c77 => ?_)
                · refine V_iconst 0 83 dX8_curve__82 rfl kiconst_0 ?_
                  refine V_ls [(0, .ref t), (1, .int a0), (2, .int a1), (3, .int a2), (4, .int a3), (5, .int a4)] [0, 1, 2, 3, 4, 5] rfl ?_
                  simp only [if_pos c77] at kj76
                  exact kj76
                · refine V_iconst 1 79 dX8_curve__78 rfl kiconst_1 ?_
                  refine V_goto 83 dX8_curve__79 (by decide) ?_
                  refine V_ls [(0, .ref t), (1, .int a0), (2, .int a1), (3, .int a2), (4, .int a3), (5, .int a4)] [0, 1, 2, 3, 4, 5] rfl ?_
                  simp only [if_neg c77] at kj76
                  exact kj76
            · rw [if_pos c23] at hf
              refine V_aload_n 0 53 rfl dX8_curve__52 rfl rfl ?_
              refine V_ldc (-1000002) 55 dX8_curve__53 rfl wd_kk_X8_113 ?_
              obtain ⟨p79, h78, hf⟩ := ob hf
              refine V_callV (rest := []) (T := TX8) (n := 27) (ci := 7) 0 0 58 [.int p79.1] (c_X8_finding l G (d + 2) _ _ _ _ _ h78) (by omega) ok_X8_finding okv_X8_finding (gd_X8_finding h78) rfl wd_ml_X8_77 rfl rfl (Nat.le_of_ble_eq_true rfl) rfl rfl (Or.inl ⟨rfl, rfl⟩) dX8_curve__55 rfl rfl ?_
              have er := Option.some.inj hf
              obtain ⟨e1, e2⟩ := Prod.mk.inj er
              subst e1
              subst e2
              exact V_iret hQ rfl dX8_curve__58
          · rw [if_pos c18] at hf
            refine V_aload_n 0 37 rfl dX8_curve__36 rfl rfl ?_
            refine V_ldc (-1000001) 39 dX8_curve__37 rfl wd_kk_X8_76 ?_
            obtain ⟨p81, h80, hf⟩ := ob hf
            refine V_callV (rest := []) (T := TX8) (n := 27) (ci := 7) 0 0 42 [.int p81.1] (c_X8_finding l G (d + 2) _ _ _ _ _ h80) (by omega) ok_X8_finding okv_X8_finding (gd_X8_finding h80) rfl wd_ml_X8_77 rfl rfl (Nat.le_of_ble_eq_true rfl) rfl rfl (Or.inl ⟨rfl, rfl⟩) dX8_curve__39 rfl rfl ?_
            have er := Option.some.inj hf
            obtain ⟨e1, e2⟩ := Prod.mk.inj er
            subst e1
            subst e2
            exact V_iret hQ rfl dX8_curve__42
  · rw [if_neg hg] at hf
    cases hf
abbrev mi_X8_dayOf : MI := (yX8_dayOf, cX8_dayOf, 2, some .int)
theorem ok_X8_dayOf : OkN mi_X8_dayOf 1 := ⟨wd_cd_X8_dayOf, wd_in_X8, ⟨by decide +kernel, by decide +kernel, by decide +kernel⟩, by decide⟩
theorem okv_X8_dayOf : Cond.instanceMethod (mi_X8_dayOf).1 ∈ tb ∧ Cond.selects (mi_X8_dayOf).1.cls (mi_X8_dayOf).1 (mi_X8_dayOf).1 ∈ tb := ⟨wd_im_X8_dayOf, wd_se_X8_dayOf⟩
def f_X8_dayOf (σ : St) (t : Nat) (a0 : Int32) : Option Int32 := if isO σ 7 t = true then ((f_X8_curve σ t a0 1).bind fun v2 => (f_X8_paper σ t v2 0).bind fun v4 => some v4) else none
theorem gd_X8_dayOf {σ : St} {t : Nat} {a0 : Int32} {r : Int32} (h : f_X8_dayOf σ t a0 = some r) : isO σ 7 t = true := by
  unfold f_X8_dayOf at h
  by_cases hg : isO σ 7 t = true
  · exact hg
  · rw [if_neg hg] at h
    cases h
set_option maxRecDepth 100000 in
set_option maxHeartbeats 4000000 in
theorem c_X8_dayOf (l : Launch) (G : Gd) (d : Nat) (σ : St) (t : Nat) (a0 : Int32) (r0 : Int32) (hf : f_X8_dayOf σ t a0 = some r0) : MetV l G (d + 2) mi_X8_dayOf [.ref t, .int a0] σ (some (.int r0)) σ 0 0 := by
  unfold f_X8_dayOf at hf
  refine MetV.of [(0, .ref t), (1, .int a0)] (by decide +kernel) rfl (Nat.le_of_ble_eq_true rfl) ?_
  intro X hQ
  by_cases hg : isO σ 7 t = true
  · rw [if_pos hg] at hf
    refine V_aload_n 0 1 rfl dX8_dayOf_0 rfl rfl ?_
    refine V_aload_n 0 2 rfl dX8_dayOf_1 rfl rfl ?_
    refine V_iload_n 1 3 rfl dX8_dayOf_2 rfl rfl ?_
    refine V_iconst 1 4 dX8_dayOf_3 rfl kiconst_1 ?_
    obtain ⟨v2, h1, hf⟩ := ob hf
    refine V_callV (rest := [.ref t]) (T := TX8) (n := 27) (ci := 7) 0 0 7 [.int v2, .ref t] (c_X8_curve l G (d + 0) _ _ _ _ _ h1) (by omega) ok_X8_curve okv_X8_curve (gd_X8_curve h1) rfl wd_ml_X8_87 rfl rfl (Nat.le_of_ble_eq_true rfl) rfl rfl (Or.inl ⟨rfl, rfl⟩) dX8_dayOf_4 rfl rfl ?_
    refine V_iconst 0 8 dX8_dayOf_7 rfl kiconst_0 ?_
    obtain ⟨v4, h3, hf⟩ := ob hf
    refine V_callV (rest := []) (T := TX8) (n := 27) (ci := 7) 0 0 11 [.int v4] (c_X8_paper l G (d + 0) _ _ _ _ _ h3) (by omega) ok_X8_paper okv_X8_paper (gd_X8_paper h3) rfl wd_ml_X8_90 rfl rfl (Nat.le_of_ble_eq_true rfl) rfl rfl (Or.inl ⟨rfl, rfl⟩) dX8_dayOf_8 rfl rfl ?_
    have er := Option.some.inj hf
    subst er
    exact V_iret hQ rfl dX8_dayOf_11
  · rw [if_neg hg] at hf
    cases hf
abbrev mi_X8_done : MI := (yX8_done, cX8_done, 3, some .int)
theorem ok_X8_done : OkN mi_X8_done 3 := ⟨wd_cd_X8_done, wd_in_X8, ⟨by decide +kernel, by decide +kernel, by decide +kernel⟩, by decide⟩
theorem oks_X8_done : Cond.static (mi_X8_done).1 ∈ tb := wd_sm_X8_done
def f_X8_done (σ : St) (a0 : Int32) (a1 : Int32) (a2 : Int32) : Option Int32 := if a0 = 20000 then (some (if a1 = 0 then 0 else (if a2 = 0 then 0 else 1) : Int32)) else (if a0 = 20001 then (some (if a1 = 0 then (if a2 = 0 then 0 else 1) else 1 : Int32)) else (if a0 = 20002 then (some (if a2 ≤ a1 then 0 else 1 : Int32)) else (if a0 = 20003 then (some (if a1 = a2 then 1 else 0 : Int32)) else (if a0 = 20004 then (some (if a1 ≤ a2 then 0 else 1 : Int32)) else (if a0 = 20005 then (some (a1 + a2)) else (if a0 = 20006 then (some (a1 - a2)) else (if a0 = 20007 then (some (a1 * a2)) else (if a0 = 20008 then (if a2 = 0 then (some 0) else ((ne0 a2).bind fun z23 => some (a1 / a2))) else (if a2 = 0 then (some 0) else ((ne0 a2).bind fun z26 => some (irm a1 a2)))))))))))
set_option maxRecDepth 100000 in
set_option maxHeartbeats 4000000 in
theorem c_X8_done (l : Launch) (G : Gd) (d : Nat) (σ : St) (a0 : Int32) (a1 : Int32) (a2 : Int32) (r0 : Int32) (hf : f_X8_done σ a0 a1 a2 = some r0) : MetV l G (d + 1) mi_X8_done [.int a0, .int a1, .int a2] σ (some (.int r0)) σ 0 0 := by
  unfold f_X8_done at hf
  refine MetV.of [(0, .int a0), (1, .int a1), (2, .int a2)] (by decide +kernel) rfl (Nat.le_of_ble_eq_true rfl) ?_
  intro X hQ
  refine V_iload_n 0 1 rfl dX8_done_0 rfl rfl ?_
  by_cases c1 : a0 = 20000
  · rw [if_pos c1] at hf
    refine V_tsw 20000 51 52 dX8_done_1 c1 (by decide) (by decide) (by decide) (by decide) ?_
    refine V_iload_n 1 53 rfl dX8_done_52 rfl rfl ?_
    have kj2 : V mi_X8_done l G (d + 1) 0 0 X 0 0 65 [(0, .int a0), (1, .int a1), (2, .int a2)] [.int (if a1 = 0 then 0 else (if a2 = 0 then 0 else 1) : Int32)] σ := by
      have er := Option.some.inj hf
      subst er
      exact V_iret hQ rfl dX8_done_65
    refine V_if_eq 64 56 dX8_done_53 (by decide) rfl (fun c3 => ?_) (fun c3 => ?_)
    · refine V_iconst 0 65 dX8_done_64 rfl kiconst_0 ?_
      refine V_ls [(0, .int a0), (1, .int a1), (2, .int a2)] [0, 1, 2] rfl ?_
      simp only [if_pos c3] at kj2
      exact kj2
    · refine V_iload_n 2 57 rfl dX8_done_56 rfl rfl ?_
      refine V_if_eq 64 60 dX8_done_57 (by decide) rfl (fun c4 => ?_) (fun c4 => ?_)
      · refine V_iconst 0 65 dX8_done_64 rfl kiconst_0 ?_
        refine V_ls [(0, .int a0), (1, .int a1), (2, .int a2)] [0, 1, 2] rfl ?_
        simp only [if_neg c3, if_pos c4] at kj2
        exact kj2
      · refine V_iconst 1 61 dX8_done_60 rfl kiconst_1 ?_
        refine V_goto 65 dX8_done_61 (by decide) ?_
        refine V_ls [(0, .int a0), (1, .int a1), (2, .int a2)] [0, 1, 2] rfl ?_
        simp only [if_neg c3, if_neg c4] at kj2
        exact kj2
  rw [if_neg c1] at hf
  by_cases c5 : a0 = 20001
  · rw [if_pos c5] at hf
    refine V_tsw 20001 65 66 dX8_done_1 c5 (by decide) (by decide) (by decide) (by decide) ?_
    refine V_iload_n 1 67 rfl dX8_done_66 rfl rfl ?_
    have kj6 : V mi_X8_done l G (d + 1) 0 0 X 0 0 79 [(0, .int a0), (1, .int a1), (2, .int a2)] [.int (if a1 = 0 then (if a2 = 0 then 0 else 1) else 1 : Int32)] σ := by
      have er := Option.some.inj hf
      subst er
      exact V_iret hQ rfl dX8_done_79
    refine V_if_ne 74 70 dX8_done_67 (by decide) rfl (fun c7 => ?_) (fun c7 => ?_)
    · refine V_iconst 1 75 dX8_done_74 rfl kiconst_1 ?_
      refine V_goto 79 dX8_done_75 (by decide) ?_
      refine V_ls [(0, .int a0), (1, .int a1), (2, .int a2)] [0, 1, 2] rfl ?_
      simp only [if_neg c7] at kj6
      exact kj6
    · refine V_iload_n 2 71 rfl dX8_done_70 rfl rfl ?_
      refine V_if_eq 78 74 dX8_done_71 (by decide) rfl (fun c8 => ?_) (fun c8 => ?_)
      · refine V_iconst 0 79 dX8_done_78 rfl kiconst_0 ?_
        refine V_ls [(0, .int a0), (1, .int a1), (2, .int a2)] [0, 1, 2] rfl ?_
        simp only [if_pos c7, if_pos c8] at kj6
        exact kj6
      · refine V_iconst 1 75 dX8_done_74 rfl kiconst_1 ?_
        refine V_goto 79 dX8_done_75 (by decide) ?_
        refine V_ls [(0, .int a0), (1, .int a1), (2, .int a2)] [0, 1, 2] rfl ?_
        simp only [if_pos c7, if_neg c8] at kj6
        exact kj6
  rw [if_neg c5] at hf
  by_cases c9 : a0 = 20002
  · rw [if_pos c9] at hf
    refine V_tsw 20002 79 80 dX8_done_1 c9 (by decide) (by decide) (by decide) (by decide) ?_
    refine V_iload_n 1 81 rfl dX8_done_80 rfl rfl ?_
    refine V_iload_n 2 82 rfl dX8_done_81 rfl rfl ?_
    have kj10 : V mi_X8_done l G (d + 1) 0 0 X 0 0 90 [(0, .int a0), (1, .int a1), (2, .int a2)] [.int (if a2 ≤ a1 then 0 else 1 : Int32)] σ := by
      have er := Option.some.inj hf
      subst er
      exact V_iret hQ rfl dX8_done_90
    refine V_icmp_ge 89 85 dX8_done_82 (by decide) rfl (fun c11 => ?_) (fun c11 => ?_)
    · refine V_iconst 0 90 dX8_done_89 rfl kiconst_0 ?_
      refine V_ls [(0, .int a0), (1, .int a1), (2, .int a2)] [0, 1, 2] rfl ?_
      simp only [if_pos c11] at kj10
      exact kj10
    · refine V_iconst 1 86 dX8_done_85 rfl kiconst_1 ?_
      refine V_goto 90 dX8_done_86 (by decide) ?_
      refine V_ls [(0, .int a0), (1, .int a1), (2, .int a2)] [0, 1, 2] rfl ?_
      simp only [if_neg c11] at kj10
      exact kj10
  rw [if_neg c9] at hf
  by_cases c12 : a0 = 20003
  · rw [if_pos c12] at hf
    refine V_tsw 20003 90 91 dX8_done_1 c12 (by decide) (by decide) (by decide) (by decide) ?_
    refine V_iload_n 1 92 rfl dX8_done_91 rfl rfl ?_
    refine V_iload_n 2 93 rfl dX8_done_92 rfl rfl ?_
    have kj13 : V mi_X8_done l G (d + 1) 0 0 X 0 0 101 [(0, .int a0), (1, .int a1), (2, .int a2)] [.int (if a1 = a2 then 1 else 0 : Int32)] σ := by
      have er := Option.some.inj hf
      subst er
      exact V_iret hQ rfl dX8_done_101
    refine V_icmp_ne 100 96 dX8_done_93 (by decide) rfl (fun c14 => ?_) (fun c14 => ?_)
    · refine V_iconst 0 101 dX8_done_100 rfl kiconst_0 ?_
      refine V_ls [(0, .int a0), (1, .int a1), (2, .int a2)] [0, 1, 2] rfl ?_
      simp only [if_neg c14] at kj13
      exact kj13
    · refine V_iconst 1 97 dX8_done_96 rfl kiconst_1 ?_
      refine V_goto 101 dX8_done_97 (by decide) ?_
      refine V_ls [(0, .int a0), (1, .int a1), (2, .int a2)] [0, 1, 2] rfl ?_
      simp only [if_pos c14] at kj13
      exact kj13
  rw [if_neg c12] at hf
  by_cases c15 : a0 = 20004
  · rw [if_pos c15] at hf
    refine V_tsw 20004 101 102 dX8_done_1 c15 (by decide) (by decide) (by decide) (by decide) ?_
    refine V_iload_n 1 103 rfl dX8_done_102 rfl rfl ?_
    refine V_iload_n 2 104 rfl dX8_done_103 rfl rfl ?_
    have kj16 : V mi_X8_done l G (d + 1) 0 0 X 0 0 112 [(0, .int a0), (1, .int a1), (2, .int a2)] [.int (if a1 ≤ a2 then 0 else 1 : Int32)] σ := by
      have er := Option.some.inj hf
      subst er
      exact V_iret hQ rfl dX8_done_112
    refine V_icmp_le 111 107 dX8_done_104 (by decide) rfl (fun c17 => ?_) (fun c17 => ?_)
    · refine V_iconst 0 112 dX8_done_111 rfl kiconst_0 ?_
      refine V_ls [(0, .int a0), (1, .int a1), (2, .int a2)] [0, 1, 2] rfl ?_
      simp only [if_pos c17] at kj16
      exact kj16
    · refine V_iconst 1 108 dX8_done_107 rfl kiconst_1 ?_
      refine V_goto 112 dX8_done_108 (by decide) ?_
      refine V_ls [(0, .int a0), (1, .int a1), (2, .int a2)] [0, 1, 2] rfl ?_
      simp only [if_neg c17] at kj16
      exact kj16
  rw [if_neg c15] at hf
  by_cases c18 : a0 = 20005
  · rw [if_pos c18] at hf
    refine V_tsw 20005 112 113 dX8_done_1 c18 (by decide) (by decide) (by decide) (by decide) ?_
    refine V_iload_n 1 114 rfl dX8_done_113 rfl rfl ?_
    refine V_iload_n 2 115 rfl dX8_done_114 rfl rfl ?_
    refine V_iadd 116 dX8_done_115 rfl ?_
    have er := Option.some.inj hf
    subst er
    exact V_iret hQ rfl dX8_done_116
  rw [if_neg c18] at hf
  by_cases c19 : a0 = 20006
  · rw [if_pos c19] at hf
    refine V_tsw 20006 116 117 dX8_done_1 c19 (by decide) (by decide) (by decide) (by decide) ?_
    refine V_iload_n 1 118 rfl dX8_done_117 rfl rfl ?_
    refine V_iload_n 2 119 rfl dX8_done_118 rfl rfl ?_
    refine V_isub 120 dX8_done_119 rfl ?_
    have er := Option.some.inj hf
    subst er
    exact V_iret hQ rfl dX8_done_120
  rw [if_neg c19] at hf
  by_cases c20 : a0 = 20007
  · rw [if_pos c20] at hf
    refine V_tsw 20007 120 121 dX8_done_1 c20 (by decide) (by decide) (by decide) (by decide) ?_
    refine V_iload_n 1 122 rfl dX8_done_121 rfl rfl ?_
    refine V_iload_n 2 123 rfl dX8_done_122 rfl rfl ?_
    refine V_imul 124 dX8_done_123 rfl ?_
    have er := Option.some.inj hf
    subst er
    exact V_iret hQ rfl dX8_done_124
  rw [if_neg c20] at hf
  by_cases c21 : a0 = 20008
  · rw [if_pos c21] at hf
    refine V_tsw 20008 124 125 dX8_done_1 c21 (by decide) (by decide) (by decide) (by decide) ?_
    refine V_iload_n 2 126 rfl dX8_done_125 rfl rfl ?_
    refine V_if_ne 133 129 dX8_done_126 (by decide) rfl (fun c22 => ?_) (fun c22 => ?_)
    · rw [if_neg c22] at hf
      refine V_iload_n 1 134 rfl dX8_done_133 rfl rfl ?_
      refine V_iload_n 2 135 rfl dX8_done_134 rfl rfl ?_
      obtain ⟨z23, h24, hf⟩ := ob hf
      refine V_idiv 136 dX8_done_135 rfl (ne0_ne h24) ?_
      have er := Option.some.inj hf
      subst er
      exact V_iret hQ rfl dX8_done_136
    · rw [if_pos c22] at hf
      refine V_iconst 0 130 dX8_done_129 rfl kiconst_0 ?_
      refine V_goto 136 dX8_done_130 (by decide) ?_
      have er := Option.some.inj hf
      subst er
      exact V_iret hQ rfl dX8_done_136
  rw [if_neg c21] at hf
  refine V_tswD [20000, 20001, 20002, 20003, 20004, 20005, 20006, 20007, 20008] 137 dX8_done_1 (fun q hq => by simp only [List.mem_cons, List.not_mem_nil, or_false] at hq; rcases hq with rfl | rfl | rfl | rfl | rfl | rfl | rfl | rfl | rfl <;> assumption) (by decide) (by decide) (by decide) ?_
  refine V_iload_n 2 138 rfl dX8_done_137 rfl rfl ?_
  refine V_if_ne 145 141 dX8_done_138 (by decide) rfl (fun c25 => ?_) (fun c25 => ?_)
  · rw [if_neg c25] at hf
    refine V_iload_n 1 146 rfl dX8_done_145 rfl rfl ?_
    refine V_iload_n 2 147 rfl dX8_done_146 rfl rfl ?_
    obtain ⟨z26, h27, hf⟩ := ob hf
    refine V_irem 148 dX8_done_147 rfl (ne0_ne h27) ?_
    have er := Option.some.inj hf
    subst er
    exact V_iret hQ rfl dX8_done_148
  · rw [if_pos c25] at hf
    refine V_iconst 0 142 dX8_done_141 rfl kiconst_0 ?_
    refine V_goto 148 dX8_done_142 (by decide) ?_
    have er := Option.some.inj hf
    subst er
    exact V_iret hQ rfl dX8_done_148
abbrev mi_X8_given : MI := (yX8_given, cX8_given, 9, some .int)
theorem ok_X8_given : OkN mi_X8_given 4 := ⟨wd_cd_X8_given, wd_in_X8, ⟨by decide +kernel, by decide +kernel, by decide +kernel⟩, by decide⟩
theorem okv_X8_given : Cond.instanceMethod (mi_X8_given).1 ∈ tb ∧ Cond.selects (mi_X8_given).1.cls (mi_X8_given).1 (mi_X8_given).1 ∈ tb := ⟨wd_im_X8_given, wd_se_X8_given⟩
def f_X8_given_L84 (x5 : Int32) (t : Nat) : Nat → Int32 → Int32 → St → Option (Int32 × Int32 × St)
  | 0, _, _, _ => none
  | n + 1, x7, x6, σ => (gQ σ 7 t 0).bind fun q19 => (aI σ 0 q19 (x5 - 1)).bind fun v21 => if (x5 + v21) ≤ x7 then (some (x7, x6, σ)) else ((gQ σ 7 t 0).bind fun q24 => (aI σ 0 q24 x7).bind fun v26 => if 20000 ≤ v26 then (if v26 = 20010 then ((gQ σ 7 t 13).bind fun q64 => (gQ σ 7 t 13).bind fun q66 => (aI σ 0 q66 (x6 - 1)).bind fun v68 => (sI σ q64 (x6 - 1) (-v68)).bind fun s70 => f_X8_given_L84 x5 t n (x7 + 1) x6 s70) else (if v26 = 20011 then ((gQ σ 7 t 13).bind fun q45 => (gQ σ 7 t 13).bind fun q47 => (aI σ 0 q47 ((x6 + (-2)) - 1)).bind fun v49 => if v49 = 0 then ((gQ σ 7 t 13).bind fun q52 => (aI σ 0 q52 ((x6 + (-2)) + 1)).bind fun v54 => (sI σ q45 ((x6 + (-2)) - 1) v54).bind fun s56 => f_X8_given_L84 x5 t n (x7 + 1) (x6 + (-2)) s56) else ((gQ σ 7 t 13).bind fun q58 => (aI σ 0 q58 (x6 + (-2))).bind fun v60 => (sI σ q45 ((x6 + (-2)) - 1) v60).bind fun s62 => f_X8_given_L84 x5 t n (x7 + 1) (x6 + (-2)) s62)) else ((gQ σ 7 t 13).bind fun q31 => (gQ σ 7 t 13).bind fun q33 => (aI σ 0 q33 ((x6 + (-1)) - 1)).bind fun v35 => (gQ σ 7 t 13).bind fun q37 => (aI σ 0 q37 (x6 + (-1))).bind fun v39 => (f_X8_done σ v26 v35 v39).bind fun v41 => (sI σ q31 ((x6 + (-1)) - 1) v41).bind fun s43 => f_X8_given_L84 x5 t n (x7 + 1) (x6 + (-1)) s43))) else ((gQ σ 7 t 13).bind fun q72 => if 10000 ≤ v26 then ((gQ σ 7 t 12).bind fun q75 => (aI σ 0 q75 (v26 - 10000)).bind fun v77 => (sI σ q72 x6 v77).bind fun s79 => f_X8_given_L84 x5 t n (x7 + 1) (x6 + 1) s79) else ((sI σ q72 x6 v26).bind fun s81 => f_X8_given_L84 x5 t n (x7 + 1) (x6 + 1) s81)))
def f_X8_given (σ : St) (t : Nat) (a0 : Int32) (a1 : Int32) (a2 : Int32) (a3 : Int32) : Option (Int32 × St) := if isO σ 7 t = true then ((gQ σ 7 t 0).bind fun q2 => (aI σ 0 q2 ((((1054 : Int32) + ((60 : Int32) * a0)) + 1) - 1)).bind fun v4 => if v4 = 0 then (if a0 = 0 then (some ((10 : Int32) * a1, σ)) else (if a0 = 2 then (some (1, σ)) else (some ((if (irm a2 30) = 7 then 1 else 0 : Int32), σ)))) else ((gQ σ 7 t 12).bind fun q7 => (sI σ q7 0 a1).bind fun s9 => (gQ s9 7 t 12).bind fun q11 => (sI s9 q11 1 a2).bind fun s13 => (gQ s13 7 t 12).bind fun q15 => (sI s13 q15 2 a3).bind fun s17 => (f_X8_given_L84 (((1054 : Int32) + ((60 : Int32) * a0)) + 1) t 3000 (((1054 : Int32) + ((60 : Int32) * a0)) + 1) 0 s17).bind fun p82 => (gQ p82.2.2 7 t 13).bind fun q85 => (aI p82.2.2 0 q85 0).bind fun v87 => some (v87, p82.2.2))) else none
theorem gd_X8_given {σ : St} {t : Nat} {a0 : Int32} {a1 : Int32} {a2 : Int32} {a3 : Int32} {r : Int32 × St} (h : f_X8_given σ t a0 a1 a2 a3 = some r) : isO σ 7 t = true := by
  unfold f_X8_given at h
  by_cases hg : isO σ 7 t = true
  · exact hg
  · rw [if_neg hg] at h
    cases h
set_option maxRecDepth 100000 in
set_option maxHeartbeats 4000000 in
theorem c_X8_given (l : Launch) (G : Gd) (d : Nat) (σ : St) (t : Nat) (a0 : Int32) (a1 : Int32) (a2 : Int32) (a3 : Int32) (r0 : Int32) (σ' : St) (hf : f_X8_given σ t a0 a1 a2 a3 = some (r0, σ')) : MetV l G (d + 2) mi_X8_given [.ref t, .int a0, .int a1, .int a2, .int a3] σ (some (.int r0)) σ' 0 0 := by
  unfold f_X8_given at hf
  refine MetV.of [(0, .ref t), (1, .int a0), (2, .int a1), (3, .int a2), (4, .int a3)] (by decide +kernel) rfl (Nat.le_of_ble_eq_true rfl) ?_
  intro X hQ
  have L84 : ∀ (x5 : Int32) (n : Nat) (x7 : Int32) (x6 : Int32) (σ : St) (p : Int32 × Int32 × St), f_X8_given_L84 x5 t n x7 x6 σ = some p → V mi_X8_given l G (d + 2) 0 0 X 0 0 278 [(7, .int p.1), (6, .int p.2.1), (5, .int x5), (0, .ref t)] [] p.2.2 → V mi_X8_given l G (d + 2) 0 0 X 0 0 84 [(7, .int x7), (6, .int x6), (5, .int x5), (0, .ref t)] [] σ := by
    intro x5 n
    induction n with
    | zero =>
      intro x7 x6 σ p hf
      exact absurd (show (none : Option _) = some p from hf) (by simp)
    | succ n ih =>
      intro x7 x6 σ p hf hk
      rw [f_X8_given_L84] at hf
      refine V_iload 0 86 rfl dX8_given_84 rfl ?_
      refine V_iload 2 88 rfl dX8_given_86 rfl ?_
      refine V_aload_n 3 89 rfl dX8_given_88 rfl rfl ?_
      obtain ⟨q19, h18, hf⟩ := ob hf
      refine V_getQ (n := 27) (ty := tyX8) 92 h18 cf_7 rfl wd_fl_X8_9 dX8_given_89 rfl ?_
      refine V_iload 2 94 rfl dX8_given_92 rfl ?_
      refine V_iconst 1 95 dX8_given_94 rfl kiconst_1 ?_
      refine V_isub 96 dX8_given_95 rfl ?_
      obtain ⟨v21, h20, hf⟩ := ob hf
      refine V_iald 97 h20 dX8_given_96 rfl ?_
      refine V_iadd 98 dX8_given_97 rfl ?_
      refine V_icmp_ge 278 101 dX8_given_98 (by decide) rfl (fun c22 => ?_) (fun c22 => ?_)
      · rw [if_pos c22] at hf
        have ep := Option.some.inj hf
        subst ep
        refine V_ls [(7, .int x7), (6, .int x6), (5, .int x5), (0, .ref t)] [0, 1, 2, 3] rfl ?_
        exact hk
      · rw [if_neg c22] at hf
        refine V_aload_n 3 102 rfl dX8_given_101 rfl rfl ?_
        obtain ⟨q24, h23, hf⟩ := ob hf
        refine V_getQ (n := 27) (ty := tyX8) 105 h23 cf_7 rfl wd_fl_X8_9 dX8_given_102 rfl ?_
        refine V_iload 0 107 rfl dX8_given_105 rfl ?_
        obtain ⟨v26, h25, hf⟩ := ob hf
        refine V_iald 108 h25 dX8_given_107 rfl ?_
        refine V_istore [(8, .int v26), (7, .int x7), (6, .int x6), (5, .int x5), (0, .ref t)] 110 dX8_given_108 (by decide) rfl rfl ?_
        refine V_iload 0 112 rfl dX8_given_110 rfl ?_
        refine V_sipush 20000 115 dX8_given_112 rfl ksipush_20000 ?_
        refine V_icmp_ge 155 118 dX8_given_115 (by decide) rfl (fun c27 => ?_) (fun c27 => ?_)
        · rw [if_pos c27] at hf
          refine V_iload 0 157 rfl dX8_given_155 rfl ?_
          refine V_sipush 20010 160 dX8_given_157 rfl ksipush_20010 ?_
          refine V_icmp_ne 185 163 dX8_given_160 (by decide) rfl (fun c28 => ?_) (fun c28 => ?_)
          · rw [if_neg c28] at hf
            refine V_iload 0 187 rfl dX8_given_185 rfl ?_
            refine V_sipush 20011 190 dX8_given_187 rfl ksipush_20011 ?_
            refine V_icmp_ne 239 193 dX8_given_190 (by decide) rfl (fun c29 => ?_) (fun c29 => ?_)
            · rw [if_neg c29] at hf
              refine V_iinc (x6 + (-1)) 2 [(6, .int (x6 + (-1))), (8, .int v26), (7, .int x7), (5, .int x5), (0, .ref t)] 242 dX8_given_239 rfl (by rw [kiconst_m1]) (by decide) rfl rfl ?_
              refine V_aload_n 4 243 rfl dX8_given_242 rfl rfl ?_
              obtain ⟨q31, h30, hf⟩ := ob hf
              refine V_getQ (n := 27) (ty := tyX8) 246 h30 cf_7 rfl wd_fl_X8_37 dX8_given_243 rfl ?_
              refine V_iload 0 248 rfl dX8_given_246 rfl ?_
              refine V_iconst 1 249 dX8_given_248 rfl kiconst_1 ?_
              refine V_isub 250 dX8_given_249 rfl ?_
              refine V_iload 1 252 rfl dX8_given_250 rfl ?_
              refine V_aload_n 4 253 rfl dX8_given_252 rfl rfl ?_
              obtain ⟨q33, h32, hf⟩ := ob hf
              refine V_getQ (n := 27) (ty := tyX8) 256 h32 cf_7 rfl wd_fl_X8_37 dX8_given_253 rfl ?_
              refine V_iload 0 258 rfl dX8_given_256 rfl ?_
              refine V_iconst 1 259 dX8_given_258 rfl kiconst_1 ?_
              refine V_isub 260 dX8_given_259 rfl ?_
              obtain ⟨v35, h34, hf⟩ := ob hf
              refine V_iald 261 h34 dX8_given_260 rfl ?_
              refine V_aload_n 4 262 rfl dX8_given_261 rfl rfl ?_
              obtain ⟨q37, h36, hf⟩ := ob hf
              refine V_getQ (n := 27) (ty := tyX8) 265 h36 cf_7 rfl wd_fl_X8_37 dX8_given_262 rfl ?_
              refine V_iload 0 267 rfl dX8_given_265 rfl ?_
              obtain ⟨v39, h38, hf⟩ := ob hf
              refine V_iald 268 h38 dX8_given_267 rfl ?_
              obtain ⟨v41, h40, hf⟩ := ob hf
              refine V_callS (rest := [.int ((x6 + (-1)) - 1), .ref q31]) 0 0 271 [.int v41, .int ((x6 + (-1)) - 1), .ref q31] (c_X8_done l G (d + 0) _ _ _ _ _ h40) (by omega) ok_X8_done oks_X8_done wd_ml_X8_214 rfl rfl (Nat.le_of_ble_eq_true rfl) rfl rfl (Or.inl ⟨rfl, rfl⟩) dX8_given_268 rfl rfl ?_
              obtain ⟨s43, h42, hf⟩ := ob hf
              refine V_iast 272 h42 dX8_given_271 rfl ?_
              refine V_iinc (x7 + 1) 2 [(7, .int (x7 + 1)), (6, .int (x6 + (-1))), (8, .int v26), (5, .int x5), (0, .ref t)] 275 dX8_given_272 rfl (by rw [kiconst_1]) (by decide) rfl rfl ?_
              refine V_goto 84 dX8_given_275 (by decide) ?_
              refine V_ls [(7, .int (x7 + 1)), (6, .int (x6 + (-1))), (5, .int x5), (0, .ref t)] [0, 1, 3, 4] rfl ?_
              exact ih _ _ _ _ hf hk
            · rw [if_pos c29] at hf
              refine V_iinc (x6 + (-2)) 2 [(6, .int (x6 + (-2))), (8, .int v26), (7, .int x7), (5, .int x5), (0, .ref t)] 196 dX8_given_193 rfl (by rw [kiconst_m2]) (by decide) rfl rfl ?_
              refine V_aload_n 4 197 rfl dX8_given_196 rfl rfl ?_
              obtain ⟨q45, h44, hf⟩ := ob hf
              refine V_getQ (n := 27) (ty := tyX8) 200 h44 cf_7 rfl wd_fl_X8_37 dX8_given_197 rfl ?_
              refine V_iload 0 202 rfl dX8_given_200 rfl ?_
              refine V_iconst 1 203 dX8_given_202 rfl kiconst_1 ?_
              refine V_isub 204 dX8_given_203 rfl ?_
              refine V_aload_n 4 205 rfl dX8_given_204 rfl rfl ?_
              obtain ⟨q47, h46, hf⟩ := ob hf
              refine V_getQ (n := 27) (ty := tyX8) 208 h46 cf_7 rfl wd_fl_X8_37 dX8_given_205 rfl ?_
              refine V_iload 0 210 rfl dX8_given_208 rfl ?_
              refine V_iconst 1 211 dX8_given_210 rfl kiconst_1 ?_
              refine V_isub 212 dX8_given_211 rfl ?_
              obtain ⟨v49, h48, hf⟩ := ob hf
              refine V_iald 213 h48 dX8_given_212 rfl ?_
              refine V_if_eq 226 216 dX8_given_213 (by decide) rfl (fun c50 => ?_) (fun c50 => ?_)
              · rw [if_pos c50] at hf
                refine V_aload_n 4 227 rfl dX8_given_226 rfl rfl ?_
                obtain ⟨q52, h51, hf⟩ := ob hf
                refine V_getQ (n := 27) (ty := tyX8) 230 h51 cf_7 rfl wd_fl_X8_37 dX8_given_227 rfl ?_
                refine V_iload 0 232 rfl dX8_given_230 rfl ?_
                refine V_iconst 1 233 dX8_given_232 rfl kiconst_1 ?_
                refine V_iadd 234 dX8_given_233 rfl ?_
                obtain ⟨v54, h53, hf⟩ := ob hf
                refine V_iald 235 h53 dX8_given_234 rfl ?_
                obtain ⟨s56, h55, hf⟩ := ob hf
                refine V_iast 236 h55 dX8_given_235 rfl ?_
                refine V_goto 272 dX8_given_236 (by decide) ?_
                refine V_iinc (x7 + 1) 2 [(7, .int (x7 + 1)), (6, .int (x6 + (-2))), (8, .int v26), (5, .int x5), (0, .ref t)] 275 dX8_given_272 rfl (by rw [kiconst_1]) (by decide) rfl rfl ?_
                refine V_goto 84 dX8_given_275 (by decide) ?_
                refine V_ls [(7, .int (x7 + 1)), (6, .int (x6 + (-2))), (5, .int x5), (0, .ref t)] [0, 1, 3, 4] rfl ?_
                exact ih _ _ _ _ hf hk
              · rw [if_neg c50] at hf
                refine V_aload_n 4 217 rfl dX8_given_216 rfl rfl ?_
                obtain ⟨q58, h57, hf⟩ := ob hf
                refine V_getQ (n := 27) (ty := tyX8) 220 h57 cf_7 rfl wd_fl_X8_37 dX8_given_217 rfl ?_
                refine V_iload 0 222 rfl dX8_given_220 rfl ?_
                obtain ⟨v60, h59, hf⟩ := ob hf
                refine V_iald 223 h59 dX8_given_222 rfl ?_
                refine V_goto 235 dX8_given_223 (by decide) ?_
                obtain ⟨s62, h61, hf⟩ := ob hf
                refine V_iast 236 h61 dX8_given_235 rfl ?_
                refine V_goto 272 dX8_given_236 (by decide) ?_
                refine V_iinc (x7 + 1) 2 [(7, .int (x7 + 1)), (6, .int (x6 + (-2))), (8, .int v26), (5, .int x5), (0, .ref t)] 275 dX8_given_272 rfl (by rw [kiconst_1]) (by decide) rfl rfl ?_
                refine V_goto 84 dX8_given_275 (by decide) ?_
                refine V_ls [(7, .int (x7 + 1)), (6, .int (x6 + (-2))), (5, .int x5), (0, .ref t)] [0, 1, 3, 4] rfl ?_
                exact ih _ _ _ _ hf hk
          · rw [if_pos c28] at hf
            refine V_aload_n 4 164 rfl dX8_given_163 rfl rfl ?_
            obtain ⟨q64, h63, hf⟩ := ob hf
            refine V_getQ (n := 27) (ty := tyX8) 167 h63 cf_7 rfl wd_fl_X8_37 dX8_given_164 rfl ?_
            refine V_iload 2 169 rfl dX8_given_167 rfl ?_
            refine V_iconst 1 170 dX8_given_169 rfl kiconst_1 ?_
            refine V_isub 171 dX8_given_170 rfl ?_
            refine V_aload_n 4 172 rfl dX8_given_171 rfl rfl ?_
            obtain ⟨q66, h65, hf⟩ := ob hf
            refine V_getQ (n := 27) (ty := tyX8) 175 h65 cf_7 rfl wd_fl_X8_37 dX8_given_172 rfl ?_
            refine V_iload 2 177 rfl dX8_given_175 rfl ?_
            refine V_iconst 1 178 dX8_given_177 rfl kiconst_1 ?_
            refine V_isub 179 dX8_given_178 rfl ?_
            obtain ⟨v68, h67, hf⟩ := ob hf
            refine V_iald 180 h67 dX8_given_179 rfl ?_
            refine V_ineg 181 dX8_given_180 rfl ?_
            obtain ⟨s70, h69, hf⟩ := ob hf
            refine V_iast 182 h69 dX8_given_181 rfl ?_
            refine V_goto 272 dX8_given_182 (by decide) ?_
            refine V_iinc (x7 + 1) 1 [(7, .int (x7 + 1)), (8, .int v26), (6, .int x6), (5, .int x5), (0, .ref t)] 275 dX8_given_272 rfl (by rw [kiconst_1]) (by decide) rfl rfl ?_
            refine V_goto 84 dX8_given_275 (by decide) ?_
            refine V_ls [(7, .int (x7 + 1)), (6, .int x6), (5, .int x5), (0, .ref t)] [0, 2, 3, 4] rfl ?_
            exact ih _ _ _ _ hf hk
        · rw [if_neg c27] at hf
          refine V_aload_n 4 119 rfl dX8_given_118 rfl rfl ?_
          obtain ⟨q72, h71, hf⟩ := ob hf
          refine V_getQ (n := 27) (ty := tyX8) 122 h71 cf_7 rfl wd_fl_X8_37 dX8_given_119 rfl ?_
          refine V_iload 2 124 rfl dX8_given_122 rfl ?_
          refine V_iload 0 126 rfl dX8_given_124 rfl ?_
          refine V_sipush 10000 129 dX8_given_126 rfl ksipush_10000 ?_
          refine V_icmp_ge 137 132 dX8_given_129 (by decide) rfl (fun c73 => ?_) (fun c73 => ?_)
          · rw [if_pos c73] at hf
            refine V_aload_n 4 138 rfl dX8_given_137 rfl rfl ?_
            obtain ⟨q75, h74, hf⟩ := ob hf
            refine V_getQ (n := 27) (ty := tyX8) 141 h74 cf_7 rfl wd_fl_X8_34 dX8_given_138 rfl ?_
            refine V_iload 0 143 rfl dX8_given_141 rfl ?_
            refine V_sipush 10000 146 dX8_given_143 rfl ksipush_10000 ?_
            refine V_isub 147 dX8_given_146 rfl ?_
            obtain ⟨v77, h76, hf⟩ := ob hf
            refine V_iald 148 h76 dX8_given_147 rfl ?_
            obtain ⟨s79, h78, hf⟩ := ob hf
            refine V_iast 149 h78 dX8_given_148 rfl ?_
            refine V_iinc (x6 + 1) 2 [(6, .int (x6 + 1)), (8, .int v26), (7, .int x7), (5, .int x5), (0, .ref t)] 152 dX8_given_149 rfl (by rw [kiconst_1]) (by decide) rfl rfl ?_
            refine V_goto 272 dX8_given_152 (by decide) ?_
            refine V_iinc (x7 + 1) 2 [(7, .int (x7 + 1)), (6, .int (x6 + 1)), (8, .int v26), (5, .int x5), (0, .ref t)] 275 dX8_given_272 rfl (by rw [kiconst_1]) (by decide) rfl rfl ?_
            refine V_goto 84 dX8_given_275 (by decide) ?_
            refine V_ls [(7, .int (x7 + 1)), (6, .int (x6 + 1)), (5, .int x5), (0, .ref t)] [0, 1, 3, 4] rfl ?_
            exact ih _ _ _ _ hf hk
          · rw [if_neg c73] at hf
            refine V_iload 0 134 rfl dX8_given_132 rfl ?_
            refine V_goto 148 dX8_given_134 (by decide) ?_
            obtain ⟨s81, h80, hf⟩ := ob hf
            refine V_iast 149 h80 dX8_given_148 rfl ?_
            refine V_iinc (x6 + 1) 2 [(6, .int (x6 + 1)), (8, .int v26), (7, .int x7), (5, .int x5), (0, .ref t)] 152 dX8_given_149 rfl (by rw [kiconst_1]) (by decide) rfl rfl ?_
            refine V_goto 272 dX8_given_152 (by decide) ?_
            refine V_iinc (x7 + 1) 2 [(7, .int (x7 + 1)), (6, .int (x6 + 1)), (8, .int v26), (5, .int x5), (0, .ref t)] 275 dX8_given_272 rfl (by rw [kiconst_1]) (by decide) rfl rfl ?_
            refine V_goto 84 dX8_given_275 (by decide) ?_
            refine V_ls [(7, .int (x7 + 1)), (6, .int (x6 + 1)), (5, .int x5), (0, .ref t)] [0, 1, 3, 4] rfl ?_
            exact ih _ _ _ _ hf hk
  by_cases hg : isO σ 7 t = true
  · rw [if_pos hg] at hf
    refine V_sipush 1054 3 dX8_given_0 rfl ksipush_1054 ?_
    refine V_bipush 60 5 dX8_given_3 rfl kbipush_60 ?_
    refine V_iload_n 1 6 rfl dX8_given_5 rfl rfl ?_
    refine V_imul 7 dX8_given_6 rfl ?_
    refine V_iadd 8 dX8_given_7 rfl ?_
    refine V_iconst 1 9 dX8_given_8 rfl kiconst_1 ?_
    refine V_iadd 10 dX8_given_9 rfl ?_
    refine V_istore [(5, .int (((1054 : Int32) + ((60 : Int32) * a0)) + 1)), (0, .ref t), (1, .int a0), (2, .int a1), (3, .int a2), (4, .int a3)] 12 dX8_given_10 (by decide) rfl rfl ?_
    refine V_aload_n 1 13 rfl dX8_given_12 rfl rfl ?_
    obtain ⟨q2, h1, hf⟩ := ob hf
    refine V_getQ (n := 27) (ty := tyX8) 16 h1 cf_7 rfl wd_fl_X8_9 dX8_given_13 rfl ?_
    refine V_iload 0 18 rfl dX8_given_16 rfl ?_
    refine V_iconst 1 19 dX8_given_18 rfl kiconst_1 ?_
    refine V_isub 20 dX8_given_19 rfl ?_
    obtain ⟨v4, h3, hf⟩ := ob hf
    refine V_iald 21 h3 dX8_given_20 rfl ?_
    refine V_if_ne 55 24 dX8_given_21 (by decide) rfl (fun c5 => ?_) (fun c5 => ?_)
    · rw [if_neg c5] at hf
      refine V_aload_n 1 56 rfl dX8_given_55 rfl rfl ?_
      obtain ⟨q7, h6, hf⟩ := ob hf
      refine V_getQ (n := 27) (ty := tyX8) 59 h6 cf_7 rfl wd_fl_X8_34 dX8_given_56 rfl ?_
      refine V_iconst 0 60 dX8_given_59 rfl kiconst_0 ?_
      refine V_iload_n 3 61 rfl dX8_given_60 rfl rfl ?_
      obtain ⟨s9, h8, hf⟩ := ob hf
      refine V_iast 62 h8 dX8_given_61 rfl ?_
      refine V_aload_n 1 63 rfl dX8_given_62 rfl rfl ?_
      obtain ⟨q11, h10, hf⟩ := ob hf
      refine V_getQ (n := 27) (ty := tyX8) 66 h10 cf_7 rfl wd_fl_X8_34 dX8_given_63 rfl ?_
      refine V_iconst 1 67 dX8_given_66 rfl kiconst_1 ?_
      refine V_iload_n 4 68 rfl dX8_given_67 rfl rfl ?_
      obtain ⟨s13, h12, hf⟩ := ob hf
      refine V_iast 69 h12 dX8_given_68 rfl ?_
      refine V_aload_n 1 70 rfl dX8_given_69 rfl rfl ?_
      obtain ⟨q15, h14, hf⟩ := ob hf
      refine V_getQ (n := 27) (ty := tyX8) 73 h14 cf_7 rfl wd_fl_X8_34 dX8_given_70 rfl ?_
      refine V_iconst 2 74 dX8_given_73 rfl kiconst_2 ?_
      refine V_iload 5 76 rfl dX8_given_74 rfl ?_
      obtain ⟨s17, h16, hf⟩ := ob hf
      refine V_iast 77 h16 dX8_given_76 rfl ?_
      refine V_iconst 0 78 dX8_given_77 rfl kiconst_0 ?_
      refine V_istore [(6, .int 0), (5, .int (((1054 : Int32) + ((60 : Int32) * a0)) + 1)), (0, .ref t), (1, .int a0), (2, .int a1), (3, .int a2), (4, .int a3)] 80 dX8_given_78 (by decide) rfl rfl ?_
      refine V_iload 1 82 rfl dX8_given_80 rfl ?_
      refine V_istore [(7, .int (((1054 : Int32) + ((60 : Int32) * a0)) + 1)), (6, .int 0), (5, .int (((1054 : Int32) + ((60 : Int32) * a0)) + 1)), (0, .ref t), (1, .int a0), (2, .int a1), (3, .int a2), (4, .int a3)] 84 dX8_given_82 (by decide) rfl rfl ?_
      obtain ⟨p82, h83, hf⟩ := ob hf
      refine V_ls [(7, .int (((1054 : Int32) + ((60 : Int32) * a0)) + 1)), (6, .int 0), (5, .int (((1054 : Int32) + ((60 : Int32) * a0)) + 1)), (0, .ref t)] [0, 1, 2, 3] rfl ?_
      refine L84 (((1054 : Int32) + ((60 : Int32) * a0)) + 1) 3000 (((1054 : Int32) + ((60 : Int32) * a0)) + 1) 0 s17 p82 h83 ?_
      refine V_aload_n 3 279 rfl dX8_given_278 rfl rfl ?_
      obtain ⟨q85, h84, hf⟩ := ob hf
      refine V_getQ (n := 27) (ty := tyX8) 282 h84 cf_7 rfl wd_fl_X8_37 dX8_given_279 rfl ?_
      refine V_iconst 0 283 dX8_given_282 rfl kiconst_0 ?_
      obtain ⟨v87, h86, hf⟩ := ob hf
      refine V_iald 284 h86 dX8_given_283 rfl ?_
      have er := Option.some.inj hf
      obtain ⟨e1, e2⟩ := Prod.mk.inj er
      subst e1
      subst e2
      exact V_iret hQ rfl dX8_given_284
    · rw [if_pos c5] at hf
      refine V_iload_n 2 25 rfl dX8_given_24 rfl rfl ?_
      refine V_if_ne 35 28 dX8_given_25 (by decide) rfl (fun c88 => ?_) (fun c88 => ?_)
      · rw [if_neg c88] at hf
        refine V_iload_n 2 36 rfl dX8_given_35 rfl rfl ?_
        refine V_iconst 2 37 dX8_given_36 rfl kiconst_2 ?_
        refine V_icmp_eq 49 40 dX8_given_37 (by decide) rfl (fun c89 => ?_) (fun c89 => ?_)
        · rw [if_pos c89] at hf
          refine V_iconst 1 50 dX8_given_49 rfl kiconst_1 ?_
          refine V_goto 54 dX8_given_50 (by decide) ?_
          have er := Option.some.inj hf
          obtain ⟨e1, e2⟩ := Prod.mk.inj er
          subst e1
          subst e2
          exact V_iret hQ rfl dX8_given_54
        · rw [if_neg c89] at hf
          refine V_iload_n 4 41 rfl dX8_given_40 rfl rfl ?_
          refine V_bipush 30 43 dX8_given_41 rfl kbipush_30 ?_
          refine V_irem 44 dX8_given_43 rfl (by decide) ?_
          refine V_bipush 7 46 dX8_given_44 rfl kbipush_7 ?_
          have kj90 : V mi_X8_given l G (d + 2) 0 0 X 0 0 54 [(5, .int (((1054 : Int32) + ((60 : Int32) * a0)) + 1)), (0, .ref t), (1, .int a0), (2, .int a1), (3, .int a2), (4, .int a3)] [.int (if (irm a2 30) = 7 then 1 else 0 : Int32)] σ := by
            have er := Option.some.inj hf
            obtain ⟨e1, e2⟩ := Prod.mk.inj er
            subst e1
            subst e2
            exact V_iret hQ rfl dX8_given_54
          refine V_icmp_ne 53 49 dX8_given_46 (by decide) rfl (fun c91 => ?_) (fun c91 => ?_)
          · refine V_iconst 0 54 dX8_given_53 rfl kiconst_0 ?_
            refine V_ls [(5, .int (((1054 : Int32) + ((60 : Int32) * a0)) + 1)), (0, .ref t), (1, .int a0), (2, .int a1), (3, .int a2), (4, .int a3)] [0, 1, 2, 3, 4, 5] rfl ?_
            simp only [if_neg c91] at kj90
            exact kj90
          · refine V_iconst 1 50 dX8_given_49 rfl kiconst_1 ?_
            refine V_goto 54 dX8_given_50 (by decide) ?_
            refine V_ls [(5, .int (((1054 : Int32) + ((60 : Int32) * a0)) + 1)), (0, .ref t), (1, .int a0), (2, .int a1), (3, .int a2), (4, .int a3)] [0, 1, 2, 3, 4, 5] rfl ?_
            simp only [if_pos c91] at kj90
            exact kj90
      · rw [if_pos c88] at hf
        refine V_bipush 10 30 dX8_given_28 rfl kbipush_10 ?_
        refine V_iload_n 3 31 rfl dX8_given_30 rfl rfl ?_
        refine V_imul 32 dX8_given_31 rfl ?_
        refine V_goto 54 dX8_given_32 (by decide) ?_
        have er := Option.some.inj hf
        obtain ⟨e1, e2⟩ := Prod.mk.inj er
        subst e1
        subst e2
        exact V_iret hQ rfl dX8_given_54
  · rw [if_neg hg] at hf
    cases hf
abbrev mi_X8_lawAt : MI := (yX8_lawAt, cX8_lawAt, 3, some .int)
theorem ok_X8_lawAt : OkN mi_X8_lawAt 2 := ⟨wd_cd_X8_lawAt, wd_in_X8, ⟨by decide +kernel, by decide +kernel, by decide +kernel⟩, by decide⟩
theorem okv_X8_lawAt : Cond.instanceMethod (mi_X8_lawAt).1 ∈ tb ∧ Cond.selects (mi_X8_lawAt).1.cls (mi_X8_lawAt).1 (mi_X8_lawAt).1 ∈ tb := ⟨wd_im_X8_lawAt, wd_se_X8_lawAt⟩
def f_X8_lawAt (σ : St) (t : Nat) (a0 : Int32) (a1 : Int32) : Option (Int32 × St) := if isO σ 7 t = true then ((f_X8_curve σ t a0 2).bind fun v2 => (f_X8_dayOf σ t a0).bind fun v4 => (f_X8_given σ t 0 a1 v2 v4).bind fun p6 => some (p6.1, p6.2)) else none
theorem gd_X8_lawAt {σ : St} {t : Nat} {a0 : Int32} {a1 : Int32} {r : Int32 × St} (h : f_X8_lawAt σ t a0 a1 = some r) : isO σ 7 t = true := by
  unfold f_X8_lawAt at h
  by_cases hg : isO σ 7 t = true
  · exact hg
  · rw [if_neg hg] at h
    cases h
set_option maxRecDepth 100000 in
set_option maxHeartbeats 4000000 in
theorem c_X8_lawAt (l : Launch) (G : Gd) (d : Nat) (σ : St) (t : Nat) (a0 : Int32) (a1 : Int32) (r0 : Int32) (σ' : St) (hf : f_X8_lawAt σ t a0 a1 = some (r0, σ')) : MetV l G (d + 3) mi_X8_lawAt [.ref t, .int a0, .int a1] σ (some (.int r0)) σ' 0 0 := by
  unfold f_X8_lawAt at hf
  refine MetV.of [(0, .ref t), (1, .int a0), (2, .int a1)] (by decide +kernel) rfl (Nat.le_of_ble_eq_true rfl) ?_
  intro X hQ
  by_cases hg : isO σ 7 t = true
  · rw [if_pos hg] at hf
    refine V_aload_n 0 1 rfl dX8_lawAt_0 rfl rfl ?_
    refine V_iconst 0 2 dX8_lawAt_1 rfl kiconst_0 ?_
    refine V_iload_n 2 3 rfl dX8_lawAt_2 rfl rfl ?_
    refine V_aload_n 0 4 rfl dX8_lawAt_3 rfl rfl ?_
    refine V_iload_n 1 5 rfl dX8_lawAt_4 rfl rfl ?_
    refine V_iconst 2 6 dX8_lawAt_5 rfl kiconst_2 ?_
    obtain ⟨v2, h1, hf⟩ := ob hf
    refine V_callV (rest := [.int a1, .int 0, .ref t]) (T := TX8) (n := 27) (ci := 7) 0 0 9 [.int v2, .int a1, .int 0, .ref t] (c_X8_curve l G (d + 1) _ _ _ _ _ h1) (by omega) ok_X8_curve okv_X8_curve (gd_X8_curve h1) rfl wd_ml_X8_87 rfl rfl (Nat.le_of_ble_eq_true rfl) rfl rfl (Or.inl ⟨rfl, rfl⟩) dX8_lawAt_6 rfl rfl ?_
    refine V_aload_n 0 10 rfl dX8_lawAt_9 rfl rfl ?_
    refine V_iload_n 1 11 rfl dX8_lawAt_10 rfl rfl ?_
    obtain ⟨v4, h3, hf⟩ := ob hf
    refine V_callV (rest := [.int v2, .int a1, .int 0, .ref t]) (T := TX8) (n := 27) (ci := 7) 0 0 14 [.int v4, .int v2, .int a1, .int 0, .ref t] (c_X8_dayOf l G (d + 0) _ _ _ _ h3) (by omega) ok_X8_dayOf okv_X8_dayOf (gd_X8_dayOf h3) rfl wd_ml_X8_222 rfl rfl (Nat.le_of_ble_eq_true rfl) rfl rfl (Or.inl ⟨rfl, rfl⟩) dX8_lawAt_11 rfl rfl ?_
    obtain ⟨p6, h5, hf⟩ := ob hf
    refine V_callV (rest := []) (T := TX8) (n := 27) (ci := 7) 0 0 17 [.int p6.1] (c_X8_given l G (d + 0) _ _ _ _ _ _ _ _ h5) (by omega) ok_X8_given okv_X8_given (gd_X8_given h5) rfl wd_ml_X8_218 rfl rfl (Nat.le_of_ble_eq_true rfl) rfl rfl (Or.inl ⟨rfl, rfl⟩) dX8_lawAt_14 rfl rfl ?_
    have er := Option.some.inj hf
    obtain ⟨e1, e2⟩ := Prod.mk.inj er
    subst e1
    subst e2
    exact V_iret hQ rfl dX8_lawAt_17
  · rw [if_neg hg] at hf
    cases hf
abbrev mi_X8_drawn : MI := (yX8_drawn, cX8_drawn, 2, some .int)
theorem ok_X8_drawn : OkN mi_X8_drawn 1 := ⟨wd_cd_X8_drawn, wd_in_X8, ⟨by decide +kernel, by decide +kernel, by decide +kernel⟩, by decide⟩
theorem okv_X8_drawn : Cond.instanceMethod (mi_X8_drawn).1 ∈ tb ∧ Cond.selects (mi_X8_drawn).1.cls (mi_X8_drawn).1 (mi_X8_drawn).1 ∈ tb := ⟨wd_im_X8_drawn, wd_se_X8_drawn⟩
def f_X8_drawn (σ : St) (t : Nat) (a0 : Int32) : Option (Int32 × St) := if isO σ 7 t = true then ((gQ σ 7 t 0).bind fun q2 => (gQ σ 7 t 0).bind fun q4 => (aI σ 0 q4 7).bind fun v6 => (sI σ q2 7 ((v6 * 1103515245) + 12345)).bind fun s8 => (gQ s8 7 t 0).bind fun q10 => (aI s8 0 q10 7).bind fun v12 => (ne0 a0).bind fun z13 => some (irm (ush v12 16) a0, s8)) else none
theorem gd_X8_drawn {σ : St} {t : Nat} {a0 : Int32} {r : Int32 × St} (h : f_X8_drawn σ t a0 = some r) : isO σ 7 t = true := by
  unfold f_X8_drawn at h
  by_cases hg : isO σ 7 t = true
  · exact hg
  · rw [if_neg hg] at h
    cases h
set_option maxRecDepth 100000 in
set_option maxHeartbeats 4000000 in
theorem c_X8_drawn (l : Launch) (G : Gd) (d : Nat) (σ : St) (t : Nat) (a0 : Int32) (r0 : Int32) (σ' : St) (hf : f_X8_drawn σ t a0 = some (r0, σ')) : MetV l G (d + 1) mi_X8_drawn [.ref t, .int a0] σ (some (.int r0)) σ' 0 0 := by
  unfold f_X8_drawn at hf
  refine MetV.of [(0, .ref t), (1, .int a0)] (by decide +kernel) rfl (Nat.le_of_ble_eq_true rfl) ?_
  intro X hQ
  by_cases hg : isO σ 7 t = true
  · rw [if_pos hg] at hf
    refine V_aload_n 0 1 rfl dX8_drawn_0 rfl rfl ?_
    obtain ⟨q2, h1, hf⟩ := ob hf
    refine V_getQ (n := 27) (ty := tyX8) 4 h1 cf_7 rfl wd_fl_X8_9 dX8_drawn_1 rfl ?_
    refine V_bipush 7 6 dX8_drawn_4 rfl kbipush_7 ?_
    refine V_aload_n 0 7 rfl dX8_drawn_6 rfl rfl ?_
    obtain ⟨q4, h3, hf⟩ := ob hf
    refine V_getQ (n := 27) (ty := tyX8) 10 h3 cf_7 rfl wd_fl_X8_9 dX8_drawn_7 rfl ?_
    refine V_bipush 7 12 dX8_drawn_10 rfl kbipush_7 ?_
    obtain ⟨v6, h5, hf⟩ := ob hf
    refine V_iald 13 h5 dX8_drawn_12 rfl ?_
    refine V_ldc 1103515245 15 dX8_drawn_13 rfl wd_kk_X8_81 ?_
    refine V_imul 16 dX8_drawn_15 rfl ?_
    refine V_sipush 12345 19 dX8_drawn_16 rfl ksipush_12345 ?_
    refine V_iadd 20 dX8_drawn_19 rfl ?_
    obtain ⟨s8, h7, hf⟩ := ob hf
    refine V_iast 21 h7 dX8_drawn_20 rfl ?_
    refine V_aload_n 0 22 rfl dX8_drawn_21 rfl rfl ?_
    obtain ⟨q10, h9, hf⟩ := ob hf
    refine V_getQ (n := 27) (ty := tyX8) 25 h9 cf_7 rfl wd_fl_X8_9 dX8_drawn_22 rfl ?_
    refine V_bipush 7 27 dX8_drawn_25 rfl kbipush_7 ?_
    obtain ⟨v12, h11, hf⟩ := ob hf
    refine V_iald 28 h11 dX8_drawn_27 rfl ?_
    refine V_bipush 16 30 dX8_drawn_28 rfl kbipush_16 ?_
    refine V_iushr 31 dX8_drawn_30 rfl ?_
    refine V_iload_n 1 32 rfl dX8_drawn_31 rfl rfl ?_
    obtain ⟨z13, h14, hf⟩ := ob hf
    refine V_irem 33 dX8_drawn_32 rfl (ne0_ne h14) ?_
    have er := Option.some.inj hf
    obtain ⟨e1, e2⟩ := Prod.mk.inj er
    subst e1
    subst e2
    exact V_iret hQ rfl dX8_drawn_33
  · rw [if_neg hg] at hf
    cases hf
abbrev mi_X8_held : MI := (yX8_held, cX8_held, 2, some .int)
theorem ok_X8_held : OkN mi_X8_held 1 := ⟨wd_cd_X8_held, wd_in_X8, ⟨by decide +kernel, by decide +kernel, by decide +kernel⟩, by decide⟩
theorem oks_X8_held : Cond.static (mi_X8_held).1 ∈ tb := wd_sm_X8_held
def f_X8_held (σ : St) (a0 : Int64) : Option Int32 := (f_J9_min_f86c9 σ 99999 a0).bind fun v2 => (f_J9_max_f86c9 σ (-99999) v2).bind fun v4 => some v4.toInt32
set_option maxRecDepth 100000 in
set_option maxHeartbeats 4000000 in
theorem c_X8_held (l : Launch) (G : Gd) (d : Nat) (σ : St) (a0 : Int64) (r0 : Int32) (hf : f_X8_held σ a0 = some r0) : MetV l G (d + 2) mi_X8_held [.long a0] σ (some (.int r0)) σ 0 0 := by
  unfold f_X8_held at hf
  refine MetV.of [(0, .long a0)] (by decide +kernel) rfl (Nat.le_of_ble_eq_true rfl) ?_
  intro X hQ
  refine V_ldc2 (-99999) 3 dX8_held_0 rfl wd_kl_X8_93 ?_
  refine V_ldc2 99999 6 dX8_held_3 rfl wd_kl_X8_95 ?_
  refine V_lload_n 0 7 rfl dX8_held_6 rfl rfl ?_
  obtain ⟨v2, h1, hf⟩ := ob hf
  refine V_callS (rest := [.long (-99999)]) 0 0 10 [.long v2, .long (-99999)] (c_J9_min_f86c9 l G (d + 0) _ _ _ _ h1) (by omega) ok_J9_min_f86c9 oks_J9_min_f86c9 wd_ml_X8_97 rfl rfl (Nat.le_of_ble_eq_true rfl) rfl rfl (Or.inl ⟨rfl, rfl⟩) dX8_held_7 rfl rfl ?_
  obtain ⟨v4, h3, hf⟩ := ob hf
  refine V_callS (rest := []) 0 0 13 [.long v4] (c_J9_max_f86c9 l G (d + 0) _ _ _ _ h3) (by omega) ok_J9_max_f86c9 oks_J9_max_f86c9 wd_ml_X8_103 rfl rfl (Nat.le_of_ble_eq_true rfl) rfl rfl (Or.inl ⟨rfl, rfl⟩) dX8_held_10 rfl rfl ?_
  refine V_l2i 14 dX8_held_13 rfl ?_
  have er := Option.some.inj hf
  subst er
  exact V_iret hQ rfl dX8_held_14
abbrev mi_X8_measure : MI := (yX8_measure, cX8_measure, 9, some .int)
theorem ok_X8_measure : OkN mi_X8_measure 2 := ⟨wd_cd_X8_measure, wd_in_X8, ⟨by decide +kernel, by decide +kernel, by decide +kernel⟩, by decide⟩
theorem okv_X8_measure : Cond.instanceMethod (mi_X8_measure).1 ∈ tb ∧ Cond.selects (mi_X8_measure).1.cls (mi_X8_measure).1 (mi_X8_measure).1 ∈ tb := ⟨wd_im_X8_measure, wd_se_X8_measure⟩
def f_X8_measure_L65 (x4 : Int32) (x3 : Int32) (t : Nat) (x2 : Int32) : Nat → Int32 → St → Option (Int32 × St)
  | 0, _, _ => none
  | n + 1, x5, σ => if x2 ≤ x5 then (some (x5, σ)) else ((f_X8_lawAt σ t x4 x5).bind fun p18 => (gQ p18.2 7 t 0).bind fun q20 => (aI p18.2 0 q20 (((10 : Int32) + ((3 : Int32) * x3)) + 1)).bind fun v22 => (gQ p18.2 7 t 0).bind fun q24 => (aI p18.2 0 q24 ((10 : Int32) + ((3 : Int32) * x3))).bind fun v26 => (f_X8_drawn p18.2 t (((2 : Int32) * v22) + 1)).bind fun p28 => (f_X8_held p28.2 (p18.1.toInt64 + ((v26 * (p28.1 - v22)).toInt64))).bind fun v30 => (f_X8_lay p28.2 t x4 x5 v30).bind fun s32 => f_X8_measure_L65 x4 x3 t x2 n (x5 + 1) s32)
def f_X8_measure (σ : St) (t : Nat) (a0 : Int32) (a1 : Int32) : Option (Int32 × St) := if isO σ 7 t = true then ((f_X8_isPlace σ t a0).bind fun v2 => if v2 = 0 then ((f_X8_finding σ t (-1000001)).bind fun p5 => some (p5.1, p5.2)) else ((f_X8_within σ a1 3 24).bind fun v7 => if v7 = 0 then ((f_X8_finding σ t (-1000001)).bind fun p38 => some (p38.1, p38.2)) else ((gQ σ 7 t 0).bind fun q10 => (aI σ 0 q10 1).bind fun v12 => if v12 = 24 then ((f_X8_finding σ t (-1000004)).bind fun p36 => some (p36.1, p36.2)) else ((f_X8_begin σ t 1 (a0 / 10) (irm a0 10) a1 (-1)).bind fun p15 => (f_X8_measure_L65 p15.1 (irm a0 10) t a1 3000 0 p15.2).bind fun p33 => some (p15.1, p33.2))))) else none
theorem gd_X8_measure {σ : St} {t : Nat} {a0 : Int32} {a1 : Int32} {r : Int32 × St} (h : f_X8_measure σ t a0 a1 = some r) : isO σ 7 t = true := by
  unfold f_X8_measure at h
  by_cases hg : isO σ 7 t = true
  · exact hg
  · rw [if_neg hg] at h
    cases h
set_option maxRecDepth 100000 in
set_option maxHeartbeats 4000000 in
theorem c_X8_measure (l : Launch) (G : Gd) (d : Nat) (σ : St) (t : Nat) (a0 : Int32) (a1 : Int32) (r0 : Int32) (σ' : St) (hf : f_X8_measure σ t a0 a1 = some (r0, σ')) : MetV l G (d + 4) mi_X8_measure [.ref t, .int a0, .int a1] σ (some (.int r0)) σ' 0 0 := by
  unfold f_X8_measure at hf
  refine MetV.of [(0, .ref t), (1, .int a0), (2, .int a1)] (by decide +kernel) rfl (Nat.le_of_ble_eq_true rfl) ?_
  intro X hQ
  have L65 : ∀ (x4 : Int32) (x3 : Int32) (x2 : Int32) (n : Nat) (x5 : Int32) (σ : St) (p : Int32 × St), f_X8_measure_L65 x4 x3 t x2 n x5 σ = some p → V mi_X8_measure l G (d + 4) 0 0 X 0 0 143 [(5, .int p.1), (4, .int x4), (3, .int x3), (0, .ref t), (2, .int x2)] [] p.2 → V mi_X8_measure l G (d + 4) 0 0 X 0 0 65 [(5, .int x5), (4, .int x4), (3, .int x3), (0, .ref t), (2, .int x2)] [] σ := by
    intro x4 x3 x2 n
    induction n with
    | zero =>
      intro x5 σ p hf
      exact absurd (show (none : Option _) = some p from hf) (by simp)
    | succ n ih =>
      intro x5 σ p hf hk
      rw [f_X8_measure_L65] at hf
      refine V_iload 0 67 rfl dX8_measure_65 rfl ?_
      refine V_iload_n 4 68 rfl dX8_measure_67 rfl rfl ?_
      refine V_icmp_ge 143 71 dX8_measure_68 (by decide) rfl (fun c16 => ?_) (fun c16 => ?_)
      · rw [if_pos c16] at hf
        have ep := Option.some.inj hf
        subst ep
        refine V_ls [(5, .int x5), (4, .int x4), (3, .int x3), (0, .ref t), (2, .int x2)] [0, 1, 2, 3, 4] rfl ?_
        exact hk
      · rw [if_neg c16] at hf
        refine V_aload_n 3 72 rfl dX8_measure_71 rfl rfl ?_
        refine V_iload 1 74 rfl dX8_measure_72 rfl ?_
        refine V_iload 0 76 rfl dX8_measure_74 rfl ?_
        obtain ⟨p18, h17, hf⟩ := ob hf
        refine V_callV (rest := []) (T := TX8) (n := 27) (ci := 7) 0 0 79 [.int p18.1] (c_X8_lawAt l G (d + 0) _ _ _ _ _ _ h17) (by omega) ok_X8_lawAt okv_X8_lawAt (gd_X8_lawAt h17) rfl wd_ml_X8_124 rfl rfl (Nat.le_of_ble_eq_true rfl) rfl rfl (Or.inl ⟨rfl, rfl⟩) dX8_measure_76 rfl rfl ?_
        refine V_i2l 80 dX8_measure_79 rfl ?_
        refine V_lstore [(6, .long p18.1.toInt64), (5, .int x5), (4, .int x4), (3, .int x3), (0, .ref t), (2, .int x2)] 82 dX8_measure_80 (by decide) rfl rfl ?_
        refine V_aload_n 4 83 rfl dX8_measure_82 rfl rfl ?_
        obtain ⟨q20, h19, hf⟩ := ob hf
        refine V_getQ (n := 27) (ty := tyX8) 86 h19 cf_7 rfl wd_fl_X8_9 dX8_measure_83 rfl ?_
        refine V_bipush 10 88 dX8_measure_86 rfl kbipush_10 ?_
        refine V_iconst 3 89 dX8_measure_88 rfl kiconst_3 ?_
        refine V_iload_n 3 90 rfl dX8_measure_89 rfl rfl ?_
        refine V_imul 91 dX8_measure_90 rfl ?_
        refine V_iadd 92 dX8_measure_91 rfl ?_
        refine V_iconst 1 93 dX8_measure_92 rfl kiconst_1 ?_
        refine V_iadd 94 dX8_measure_93 rfl ?_
        obtain ⟨v22, h21, hf⟩ := ob hf
        refine V_iald 95 h21 dX8_measure_94 rfl ?_
        refine V_istore [(8, .int v22), (6, .long p18.1.toInt64), (5, .int x5), (4, .int x4), (3, .int x3), (0, .ref t), (2, .int x2)] 97 dX8_measure_95 (by decide) rfl rfl ?_
        refine V_aload_n 5 98 rfl dX8_measure_97 rfl rfl ?_
        refine V_iload 3 100 rfl dX8_measure_98 rfl ?_
        refine V_iload 2 102 rfl dX8_measure_100 rfl ?_
        refine V_lload 1 104 rfl dX8_measure_102 rfl ?_
        refine V_aload_n 5 105 rfl dX8_measure_104 rfl rfl ?_
        obtain ⟨q24, h23, hf⟩ := ob hf
        refine V_getQ (n := 27) (ty := tyX8) 108 h23 cf_7 rfl wd_fl_X8_9 dX8_measure_105 rfl ?_
        refine V_bipush 10 110 dX8_measure_108 rfl kbipush_10 ?_
        refine V_iconst 3 111 dX8_measure_110 rfl kiconst_3 ?_
        refine V_iload_n 4 112 rfl dX8_measure_111 rfl rfl ?_
        refine V_imul 113 dX8_measure_112 rfl ?_
        refine V_iadd 114 dX8_measure_113 rfl ?_
        obtain ⟨v26, h25, hf⟩ := ob hf
        refine V_iald 115 h25 dX8_measure_114 rfl ?_
        refine V_aload_n 5 116 rfl dX8_measure_115 rfl rfl ?_
        refine V_iconst 2 117 dX8_measure_116 rfl kiconst_2 ?_
        refine V_iload 0 119 rfl dX8_measure_117 rfl ?_
        refine V_imul 120 dX8_measure_119 rfl ?_
        refine V_iconst 1 121 dX8_measure_120 rfl kiconst_1 ?_
        refine V_iadd 122 dX8_measure_121 rfl ?_
        obtain ⟨p28, h27, hf⟩ := ob hf
        refine V_callV (rest := [.int v26, .long p18.1.toInt64, .int x5, .int x4, .ref t]) (T := TX8) (n := 27) (ci := 7) 0 0 125 [.int p28.1, .int v26, .long p18.1.toInt64, .int x5, .int x4, .ref t] (c_X8_drawn l G (d + 2) _ _ _ _ _ h27) (by omega) ok_X8_drawn okv_X8_drawn (gd_X8_drawn h27) rfl wd_ml_X8_127 rfl rfl (Nat.le_of_ble_eq_true rfl) rfl rfl (Or.inl ⟨rfl, rfl⟩) dX8_measure_122 rfl rfl ?_
        refine V_iload 0 127 rfl dX8_measure_125 rfl ?_
        refine V_isub 128 dX8_measure_127 rfl ?_
        refine V_imul 129 dX8_measure_128 rfl ?_
        refine V_i2l 130 dX8_measure_129 rfl ?_
        refine V_ladd 131 dX8_measure_130 rfl ?_
        obtain ⟨v30, h29, hf⟩ := ob hf
        refine V_callS (rest := [.int x5, .int x4, .ref t]) 0 0 134 [.int v30, .int x5, .int x4, .ref t] (c_X8_held l G (d + 1) _ _ _ h29) (by omega) ok_X8_held oks_X8_held wd_ml_X8_130 rfl rfl (Nat.le_of_ble_eq_true rfl) rfl rfl (Or.inl ⟨rfl, rfl⟩) dX8_measure_131 rfl rfl ?_
        obtain ⟨s32, h31, hf⟩ := ob hf
        refine V_callV (rest := []) (T := TX8) (n := 27) (ci := 7) 0 0 137 [] (c_X8_lay l G (d + 2) _ _ _ _ _ _ h31) (by omega) ok_X8_lay okv_X8_lay (gd_X8_lay h31) rfl wd_ml_X8_120 rfl rfl (Nat.le_of_ble_eq_true rfl) rfl rfl (Or.inl ⟨rfl, rfl⟩) dX8_measure_134 rfl rfl ?_
        refine V_iinc (x5 + 1) 2 [(5, .int (x5 + 1)), (8, .int v22), (6, .long p18.1.toInt64), (4, .int x4), (3, .int x3), (0, .ref t), (2, .int x2)] 140 dX8_measure_137 rfl (by rw [kiconst_1]) (by decide) rfl rfl ?_
        refine V_goto 65 dX8_measure_140 (by decide) ?_
        refine V_ls [(5, .int (x5 + 1)), (4, .int x4), (3, .int x3), (0, .ref t), (2, .int x2)] [0, 3, 4, 5, 6] rfl ?_
        exact ih _ _ _ hf hk
  by_cases hg : isO σ 7 t = true
  · rw [if_pos hg] at hf
    refine V_aload_n 0 1 rfl dX8_measure_0 rfl rfl ?_
    refine V_iload_n 1 2 rfl dX8_measure_1 rfl rfl ?_
    obtain ⟨v2, h1, hf⟩ := ob hf
    refine V_callV (rest := []) (T := TX8) (n := 27) (ci := 7) 0 0 5 [.int v2] (c_X8_isPlace l G (d + 0) _ _ _ _ h1) (by omega) ok_X8_isPlace okv_X8_isPlace (gd_X8_isPlace h1) rfl wd_ml_X8_106 rfl rfl (Nat.le_of_ble_eq_true rfl) rfl rfl (Or.inl ⟨rfl, rfl⟩) dX8_measure_2 rfl rfl ?_
    refine V_if_eq 18 8 dX8_measure_5 (by decide) rfl (fun c3 => ?_) (fun c3 => ?_)
    · rw [if_pos c3] at hf
      refine V_aload_n 0 19 rfl dX8_measure_18 rfl rfl ?_
      refine V_ldc (-1000001) 21 dX8_measure_19 rfl wd_kk_X8_76 ?_
      obtain ⟨p5, h4, hf⟩ := ob hf
      refine V_callV (rest := []) (T := TX8) (n := 27) (ci := 7) 0 0 24 [.int p5.1] (c_X8_finding l G (d + 2) _ _ _ _ _ h4) (by omega) ok_X8_finding okv_X8_finding (gd_X8_finding h4) rfl wd_ml_X8_77 rfl rfl (Nat.le_of_ble_eq_true rfl) rfl rfl (Or.inl ⟨rfl, rfl⟩) dX8_measure_21 rfl rfl ?_
      have er := Option.some.inj hf
      obtain ⟨e1, e2⟩ := Prod.mk.inj er
      subst e1
      subst e2
      exact V_iret hQ rfl dX8_measure_24
    · rw [if_neg c3] at hf
      refine V_iload_n 2 9 rfl dX8_measure_8 rfl rfl ?_
      refine V_iconst 3 10 dX8_measure_9 rfl kiconst_3 ?_
      refine V_bipush 24 12 dX8_measure_10 rfl kbipush_24 ?_
      obtain ⟨v7, h6, hf⟩ := ob hf
      refine V_callS (rest := []) 0 0 15 [.int v7] (c_X8_within l G (d + 2) _ _ _ _ _ h6) (by omega) ok_X8_within oks_X8_within wd_ml_X8_68 rfl rfl (Nat.le_of_ble_eq_true rfl) rfl rfl (Or.inl ⟨rfl, rfl⟩) dX8_measure_12 rfl rfl ?_
      refine V_if_ne 25 18 dX8_measure_15 (by decide) rfl (fun c8 => ?_) (fun c8 => ?_)
      · rw [if_neg c8] at hf
        refine V_aload_n 0 26 rfl dX8_measure_25 rfl rfl ?_
        obtain ⟨q10, h9, hf⟩ := ob hf
        refine V_getQ (n := 27) (ty := tyX8) 29 h9 cf_7 rfl wd_fl_X8_9 dX8_measure_26 rfl ?_
        refine V_iconst 1 30 dX8_measure_29 rfl kiconst_1 ?_
        obtain ⟨v12, h11, hf⟩ := ob hf
        refine V_iald 31 h11 dX8_measure_30 rfl ?_
        refine V_bipush 24 33 dX8_measure_31 rfl kbipush_24 ?_
        refine V_icmp_ne 43 36 dX8_measure_33 (by decide) rfl (fun c13 => ?_) (fun c13 => ?_)
        · rw [if_neg c13] at hf
          refine V_iload_n 1 44 rfl dX8_measure_43 rfl rfl ?_
          refine V_bipush 10 46 dX8_measure_44 rfl kbipush_10 ?_
          refine V_irem 47 dX8_measure_46 rfl (by decide) ?_
          refine V_istore_n [(3, .int (irm a0 10)), (0, .ref t), (1, .int a0), (2, .int a1)] 48 dX8_measure_47 rfl (by decide) rfl rfl ?_
          refine V_aload_n 1 49 rfl dX8_measure_48 rfl rfl ?_
          refine V_iconst 1 50 dX8_measure_49 rfl kiconst_1 ?_
          refine V_iload_n 2 51 rfl dX8_measure_50 rfl rfl ?_
          refine V_bipush 10 53 dX8_measure_51 rfl kbipush_10 ?_
          refine V_idiv 54 dX8_measure_53 rfl (by decide) ?_
          refine V_iload_n 0 55 rfl dX8_measure_54 rfl rfl ?_
          refine V_iload_n 3 56 rfl dX8_measure_55 rfl rfl ?_
          refine V_iconst (-1) 57 dX8_measure_56 rfl kiconst_m1 ?_
          obtain ⟨p15, h14, hf⟩ := ob hf
          refine V_callV (rest := []) (T := TX8) (n := 27) (ci := 7) 0 0 60 [.int p15.1] (c_X8_begin l G (d + 2) _ _ _ _ _ _ _ _ _ h14) (by omega) ok_X8_begin okv_X8_begin (gd_X8_begin h14) rfl wd_ml_X8_116 rfl rfl (Nat.le_of_ble_eq_true rfl) rfl rfl (Or.inl ⟨rfl, rfl⟩) dX8_measure_57 rfl rfl ?_
          refine V_istore [(4, .int p15.1), (3, .int (irm a0 10)), (0, .ref t), (1, .int a0), (2, .int a1)] 62 dX8_measure_60 (by decide) rfl rfl ?_
          refine V_iconst 0 63 dX8_measure_62 rfl kiconst_0 ?_
          refine V_istore [(5, .int 0), (4, .int p15.1), (3, .int (irm a0 10)), (0, .ref t), (1, .int a0), (2, .int a1)] 65 dX8_measure_63 (by decide) rfl rfl ?_
          obtain ⟨p33, h34, hf⟩ := ob hf
          refine V_ls [(5, .int 0), (4, .int p15.1), (3, .int (irm a0 10)), (0, .ref t), (2, .int a1)] [0, 1, 2, 3, 5] rfl ?_
          refine L65 p15.1 (irm a0 10) a1 3000 0 p15.2 p33 h34 ?_
          refine V_iload 1 145 rfl dX8_measure_143 rfl ?_
          have er := Option.some.inj hf
          obtain ⟨e1, e2⟩ := Prod.mk.inj er
          subst e1
          subst e2
          exact V_iret hQ rfl dX8_measure_145
        · rw [if_pos c13] at hf
          refine V_aload_n 0 37 rfl dX8_measure_36 rfl rfl ?_
          refine V_ldc (-1000004) 39 dX8_measure_37 rfl wd_kk_X8_82 ?_
          obtain ⟨p36, h35, hf⟩ := ob hf
          refine V_callV (rest := []) (T := TX8) (n := 27) (ci := 7) 0 0 42 [.int p36.1] (c_X8_finding l G (d + 2) _ _ _ _ _ h35) (by omega) ok_X8_finding okv_X8_finding (gd_X8_finding h35) rfl wd_ml_X8_77 rfl rfl (Nat.le_of_ble_eq_true rfl) rfl rfl (Or.inl ⟨rfl, rfl⟩) dX8_measure_39 rfl rfl ?_
          have er := Option.some.inj hf
          obtain ⟨e1, e2⟩ := Prod.mk.inj er
          subst e1
          subst e2
          exact V_iret hQ rfl dX8_measure_42
      · rw [if_pos c8] at hf
        refine V_aload_n 0 19 rfl dX8_measure_18 rfl rfl ?_
        refine V_ldc (-1000001) 21 dX8_measure_19 rfl wd_kk_X8_76 ?_
        obtain ⟨p38, h37, hf⟩ := ob hf
        refine V_callV (rest := []) (T := TX8) (n := 27) (ci := 7) 0 0 24 [.int p38.1] (c_X8_finding l G (d + 2) _ _ _ _ _ h37) (by omega) ok_X8_finding okv_X8_finding (gd_X8_finding h37) rfl wd_ml_X8_77 rfl rfl (Nat.le_of_ble_eq_true rfl) rfl rfl (Or.inl ⟨rfl, rfl⟩) dX8_measure_21 rfl rfl ?_
        have er := Option.some.inj hf
        obtain ⟨e1, e2⟩ := Prod.mk.inj er
        subst e1
        subst e2
        exact V_iret hQ rfl dX8_measure_24
  · rw [if_neg hg] at hf
    cases hf
abbrev mi_X8_many : MI := (yX8_many, cX8_many, 2, some .int)
theorem ok_X8_many : OkN mi_X8_many 1 := ⟨wd_cd_X8_many, wd_in_X8, ⟨by decide +kernel, by decide +kernel, by decide +kernel⟩, by decide⟩
theorem okv_X8_many : Cond.instanceMethod (mi_X8_many).1 ∈ tb ∧ Cond.selects (mi_X8_many).1.cls (mi_X8_many).1 (mi_X8_many).1 ∈ tb := ⟨wd_im_X8_many, wd_se_X8_many⟩
def f_X8_many (σ : St) (t : Nat) (a0 : Int32) : Option Int32 := if isO σ 7 t = true then ((f_X8_curve σ t a0 3).bind fun v2 => some v2) else none
theorem gd_X8_many {σ : St} {t : Nat} {a0 : Int32} {r : Int32} (h : f_X8_many σ t a0 = some r) : isO σ 7 t = true := by
  unfold f_X8_many at h
  by_cases hg : isO σ 7 t = true
  · exact hg
  · rw [if_neg hg] at h
    cases h
set_option maxRecDepth 100000 in
set_option maxHeartbeats 4000000 in
theorem c_X8_many (l : Launch) (G : Gd) (d : Nat) (σ : St) (t : Nat) (a0 : Int32) (r0 : Int32) (hf : f_X8_many σ t a0 = some r0) : MetV l G (d + 2) mi_X8_many [.ref t, .int a0] σ (some (.int r0)) σ 0 0 := by
  unfold f_X8_many at hf
  refine MetV.of [(0, .ref t), (1, .int a0)] (by decide +kernel) rfl (Nat.le_of_ble_eq_true rfl) ?_
  intro X hQ
  by_cases hg : isO σ 7 t = true
  · rw [if_pos hg] at hf
    refine V_aload_n 0 1 rfl dX8_many_0 rfl rfl ?_
    refine V_iload_n 1 2 rfl dX8_many_1 rfl rfl ?_
    refine V_iconst 3 3 dX8_many_2 rfl kiconst_3 ?_
    obtain ⟨v2, h1, hf⟩ := ob hf
    refine V_callV (rest := []) (T := TX8) (n := 27) (ci := 7) 0 0 6 [.int v2] (c_X8_curve l G (d + 0) _ _ _ _ _ h1) (by omega) ok_X8_curve okv_X8_curve (gd_X8_curve h1) rfl wd_ml_X8_87 rfl rfl (Nat.le_of_ble_eq_true rfl) rfl rfl (Or.inl ⟨rfl, rfl⟩) dX8_many_3 rfl rfl ?_
    have er := Option.some.inj hf
    subst er
    exact V_iret hQ rfl dX8_many_6
  · rw [if_neg hg] at hf
    cases hf
abbrev mi_X8_has : MI := (yX8_has, cX8_has, 2, some .boolean)
theorem ok_X8_has : OkN mi_X8_has 2 := ⟨wd_cd_X8_has, wd_in_X8, ⟨by decide +kernel, by decide +kernel, by decide +kernel⟩, by decide⟩
theorem oks_X8_has : Cond.static (mi_X8_has).1 ∈ tb := wd_sm_X8_has
def f_X8_has (σ : St) (a0 : Int32) (a1 : Int32) : Option Int32 := (zr (if ((a0 >>> (a1 &&& 31)) &&& 1) = 1 then 1 else 0 : Int32)).bind fun z1 => some (if ((a0 >>> (a1 &&& 31)) &&& 1) = 1 then 1 else 0 : Int32)
set_option maxRecDepth 100000 in
set_option maxHeartbeats 4000000 in
theorem c_X8_has (l : Launch) (G : Gd) (d : Nat) (σ : St) (a0 : Int32) (a1 : Int32) (r0 : Int32) (hf : f_X8_has σ a0 a1 = some r0) : MetV l G (d + 1) mi_X8_has [.int a0, .int a1] σ (some (.int r0)) σ 0 0 := by
  unfold f_X8_has at hf
  refine MetV.of [(0, .int a0), (1, .int a1)] (by decide +kernel) rfl (Nat.le_of_ble_eq_true rfl) ?_
  intro X hQ
  refine V_iload_n 0 1 rfl dX8_has_0 rfl rfl ?_
  refine V_iload_n 1 2 rfl dX8_has_1 rfl rfl ?_
  refine V_ishr 3 dX8_has_2 rfl ?_
  refine V_iconst 1 4 dX8_has_3 rfl kiconst_1 ?_
  refine V_iand 5 dX8_has_4 rfl ?_
  refine V_iconst 1 6 dX8_has_5 rfl kiconst_1 ?_
  have kj3 : V mi_X8_has l G (d + 1) 0 0 X 0 0 14 [(0, .int a0), (1, .int a1)] [.int (if ((a0 >>> (a1 &&& 31)) &&& 1) = 1 then 1 else 0 : Int32)] σ := by
    obtain ⟨z1, h2, hf⟩ := ob hf
    have er := Option.some.inj hf
    subst er
    exact V_zret (zr_ok h2) hQ rfl dX8_has_14
  refine V_icmp_ne 13 9 dX8_has_6 (by decide) rfl (fun c4 => ?_) (fun c4 => ?_)
  · refine V_iconst 0 14 dX8_has_13 rfl kiconst_0 ?_
    refine V_ls [(0, .int a0), (1, .int a1)] [0, 1] rfl ?_
    simp only [if_neg c4] at kj3
    exact kj3
  · refine V_iconst 1 10 dX8_has_9 rfl kiconst_1 ?_
    refine V_goto 14 dX8_has_10 (by decide) ?_
    refine V_ls [(0, .int a0), (1, .int a1)] [0, 1] rfl ?_
    simp only [if_pos c4] at kj3
    exact kj3
abbrev mi_X8_dot : MI := (yX8_dot, cX8_dot, 3, some .int)
theorem ok_X8_dot : OkN mi_X8_dot 2 := ⟨wd_cd_X8_dot, wd_in_X8, ⟨by decide +kernel, by decide +kernel, by decide +kernel⟩, by decide⟩
theorem okv_X8_dot : Cond.instanceMethod (mi_X8_dot).1 ∈ tb ∧ Cond.selects (mi_X8_dot).1.cls (mi_X8_dot).1 (mi_X8_dot).1 ∈ tb := ⟨wd_im_X8_dot, wd_se_X8_dot⟩
def f_X8_dot (σ : St) (t : Nat) (a0 : Int32) (a1 : Int32) : Option Int32 := if isO σ 7 t = true then ((f_X8_curve σ t a0 ((5 : Int32) + a1)).bind fun v2 => some v2) else none
theorem gd_X8_dot {σ : St} {t : Nat} {a0 : Int32} {a1 : Int32} {r : Int32} (h : f_X8_dot σ t a0 a1 = some r) : isO σ 7 t = true := by
  unfold f_X8_dot at h
  by_cases hg : isO σ 7 t = true
  · exact hg
  · rw [if_neg hg] at h
    cases h
set_option maxRecDepth 100000 in
set_option maxHeartbeats 4000000 in
theorem c_X8_dot (l : Launch) (G : Gd) (d : Nat) (σ : St) (t : Nat) (a0 : Int32) (a1 : Int32) (r0 : Int32) (hf : f_X8_dot σ t a0 a1 = some r0) : MetV l G (d + 2) mi_X8_dot [.ref t, .int a0, .int a1] σ (some (.int r0)) σ 0 0 := by
  unfold f_X8_dot at hf
  refine MetV.of [(0, .ref t), (1, .int a0), (2, .int a1)] (by decide +kernel) rfl (Nat.le_of_ble_eq_true rfl) ?_
  intro X hQ
  by_cases hg : isO σ 7 t = true
  · rw [if_pos hg] at hf
    refine V_aload_n 0 1 rfl dX8_dot_0 rfl rfl ?_
    refine V_iload_n 1 2 rfl dX8_dot_1 rfl rfl ?_
    refine V_iconst 5 3 dX8_dot_2 rfl kiconst_5 ?_
    refine V_iload_n 2 4 rfl dX8_dot_3 rfl rfl ?_
    refine V_iadd 5 dX8_dot_4 rfl ?_
    obtain ⟨v2, h1, hf⟩ := ob hf
    refine V_callV (rest := []) (T := TX8) (n := 27) (ci := 7) 0 0 8 [.int v2] (c_X8_curve l G (d + 0) _ _ _ _ _ h1) (by omega) ok_X8_curve okv_X8_curve (gd_X8_curve h1) rfl wd_ml_X8_87 rfl rfl (Nat.le_of_ble_eq_true rfl) rfl rfl (Or.inl ⟨rfl, rfl⟩) dX8_dot_5 rfl rfl ?_
    have er := Option.some.inj hf
    subst er
    exact V_iret hQ rfl dX8_dot_8
  · rw [if_neg hg] at hf
    cases hf
abbrev mi_X8_make : MI := (yX8_make, cX8_make, 13, some .int)
theorem ok_X8_make : OkN mi_X8_make 5 := ⟨wd_cd_X8_make, wd_in_X8, ⟨by decide +kernel, by decide +kernel, by decide +kernel⟩, by decide⟩
theorem okv_X8_make : Cond.instanceMethod (mi_X8_make).1 ∈ tb ∧ Cond.selects (mi_X8_make).1.cls (mi_X8_make).1 (mi_X8_make).1 ∈ tb := ⟨wd_im_X8_make, wd_se_X8_make⟩
def f_X8_make_L227 (x10 : Int32) (x8 : Int32) (x7 : Int32) (x6 : Int32) (t : Nat) (x2 : Int32) (x3 : Int32) (x4 : Int32) : Nat → Int32 → St → Option (Int32 × St)
  | 0, _, _ => none
  | n + 1, x11, σ => if x8 ≤ x11 then (some (x11, σ)) else ((f_X8_has σ x2 0).bind fun v64 => (f_X8_dot σ t x6 (if v64 = 0 then (x7 + x11) else (x7 - x11) : Int32)).bind fun v66 => (ne0 (irm x3 10)).bind fun z67 => (f_X8_has σ x2 1).bind fun v70 => (f_X8_held σ (((if v70 = 0 then ((x3 / 10) * v66) / (irm x3 10) else (-(((x3 / 10) * v66) / (irm x3 10))) : Int32) + x4).toInt64)).bind fun v72 => (f_X8_lay σ t x10 x11 v72).bind fun s74 => f_X8_make_L227 x10 x8 x7 x6 t x2 x3 x4 n (x11 + 1) s74)
def f_X8_make (σ : St) (t : Nat) (a0 : Int32) (a1 : Int32) (a2 : Int32) (a3 : Int32) (a4 : Int32) : Option (Int32 × St) := if isO σ 7 t = true then (if a0 < 0 then ((f_X8_finding σ t (-1000001)).bind fun p3 => some (p3.1, p3.2)) else ((f_X8_is σ t (a0 / 100) 0).bind fun v5 => if v5 = 0 then ((f_X8_finding σ t (-1000001)).bind fun p8 => some (p8.1, p8.2)) else ((f_X8_is σ t (irm a0 100) 1).bind fun v10 => if v10 = 0 then ((f_X8_finding σ t (-1000001)).bind fun p13 => some (p13.1, p13.2)) else ((f_X8_within σ a1 0 3).bind fun v15 => if v15 = 0 then ((f_X8_finding σ t (-1000001)).bind fun p18 => some (p18.1, p18.2)) else ((f_X8_within σ a2 11 55).bind fun v20 => if v20 = 0 then ((f_X8_finding σ t (-1000001)).bind fun p23 => some (p23.1, p23.2)) else ((f_X8_within σ (irm a2 10) 1 5).bind fun v25 => if v25 = 0 then ((f_X8_finding σ t (-1000001)).bind fun p28 => some (p28.1, p28.2)) else ((f_X8_within σ a3 (-999) 999).bind fun v30 => if v30 = 0 then ((f_X8_finding σ t (-1000001)).bind fun p33 => some (p33.1, p33.2)) else (if a4 < 0 then ((f_X8_finding σ t (-1000001)).bind fun p36 => some (p36.1, p36.2)) else ((f_X8_within σ (irm a4 100) 3 24).bind fun v38 => if (if v38 = 0 then 0 else 1 : Int32) = 0 then ((f_X8_finding σ t (-1000001)).bind fun p41 => some (p41.1, p41.2)) else ((f_X8_many σ t (irm a0 100)).bind fun v43 => if v43 ≤ (a4 / 100) then ((f_X8_finding σ t (-1000001)).bind fun p46 => some (p46.1, p46.2)) else ((f_X8_has σ a1 0).bind fun v48 => if v48 = 0 then ((f_X8_many σ t (irm a0 100)).bind fun v51 => if (if (v51 - (irm a4 100)) < (a4 / 100) then 0 else 1 : Int32) = 0 then ((f_X8_finding σ t (-1000001)).bind fun p84 => some (p84.1, p84.2)) else ((gQ σ 7 t 0).bind fun q54 => (aI σ 0 q54 1).bind fun v56 => if v56 = 24 then ((f_X8_finding σ t (-1000004)).bind fun p82 => some (p82.1, p82.2)) else ((f_X8_curve σ t (irm a0 100) 2).bind fun v59 => (f_X8_begin σ t 3 (a0 / 100) v59 (irm a4 100) (irm a0 100)).bind fun p61 => (f_X8_make_L227 p61.1 (irm a4 100) (a4 / 100) (irm a0 100) t a1 a2 a3 3000 0 p61.2).bind fun p79 => some (p61.1, p79.2)))) else (if (if (a4 / 100) < ((irm a4 100) - 1) then 0 else 1 : Int32) = 0 then ((f_X8_finding σ t (-1000001)).bind fun p102 => some (p102.1, p102.2)) else ((gQ σ 7 t 0).bind fun q89 => (aI σ 0 q89 1).bind fun v91 => if v91 = 24 then ((f_X8_finding σ t (-1000004)).bind fun p100 => some (p100.1, p100.2)) else ((f_X8_curve σ t (irm a0 100) 2).bind fun v94 => (f_X8_begin σ t 3 (a0 / 100) v94 (irm a4 100) (irm a0 100)).bind fun p96 => (f_X8_make_L227 p96.1 (irm a4 100) (a4 / 100) (irm a0 100) t a1 a2 a3 3000 0 p96.2).bind fun p97 => some (p96.1, p97.2))))))))))))))) else none
theorem gd_X8_make {σ : St} {t : Nat} {a0 : Int32} {a1 : Int32} {a2 : Int32} {a3 : Int32} {a4 : Int32} {r : Int32 × St} (h : f_X8_make σ t a0 a1 a2 a3 a4 = some r) : isO σ 7 t = true := by
  unfold f_X8_make at h
  by_cases hg : isO σ 7 t = true
  · exact hg
  · rw [if_neg hg] at h
    cases h
set_option maxRecDepth 100000 in
set_option maxHeartbeats 4000000 in
theorem c_X8_make (l : Launch) (G : Gd) (d : Nat) (σ : St) (t : Nat) (a0 : Int32) (a1 : Int32) (a2 : Int32) (a3 : Int32) (a4 : Int32) (r0 : Int32) (σ' : St) (hf : f_X8_make σ t a0 a1 a2 a3 a4 = some (r0, σ')) : MetV l G (d + 3) mi_X8_make [.ref t, .int a0, .int a1, .int a2, .int a3, .int a4] σ (some (.int r0)) σ' 0 0 := by
  unfold f_X8_make at hf
  refine MetV.of [(0, .ref t), (1, .int a0), (2, .int a1), (3, .int a2), (4, .int a3), (5, .int a4)] (by decide +kernel) rfl (Nat.le_of_ble_eq_true rfl) ?_
  intro X hQ
  have L227 : ∀ (x10 : Int32) (x8 : Int32) (x7 : Int32) (x6 : Int32) (x2 : Int32) (x3 : Int32) (x4 : Int32) (n : Nat) (x11 : Int32) (σ : St) (p : Int32 × St), f_X8_make_L227 x10 x8 x7 x6 t x2 x3 x4 n x11 σ = some p → V mi_X8_make l G (d + 3) 0 0 X 0 0 310 [(11, .int p.1), (10, .int x10), (8, .int x8), (7, .int x7), (6, .int x6), (0, .ref t), (2, .int x2), (3, .int x3), (4, .int x4)] [] p.2 → V mi_X8_make l G (d + 3) 0 0 X 0 0 227 [(11, .int x11), (10, .int x10), (8, .int x8), (7, .int x7), (6, .int x6), (0, .ref t), (2, .int x2), (3, .int x3), (4, .int x4)] [] σ := by
    intro x10 x8 x7 x6 x2 x3 x4 n
    induction n with
    | zero =>
      intro x11 σ p hf
      exact absurd (show (none : Option _) = some p from hf) (by simp)
    | succ n ih =>
      intro x11 σ p hf hk
      rw [f_X8_make_L227] at hf
      refine V_iload 0 229 rfl dX8_make_227 rfl ?_
      refine V_iload 2 231 rfl dX8_make_229 rfl ?_
      refine V_icmp_ge 310 234 dX8_make_231 (by decide) rfl (fun c62 => ?_) (fun c62 => ?_)
      · rw [if_pos c62] at hf
        have ep := Option.some.inj hf
        subst ep
        refine V_ls [(11, .int x11), (10, .int x10), (8, .int x8), (7, .int x7), (6, .int x6), (0, .ref t), (2, .int x2), (3, .int x3), (4, .int x4)] [0, 1, 2, 3, 4, 5, 6, 7, 8] rfl ?_
        exact hk
      · rw [if_neg c62] at hf
        refine V_iload_n 7 235 rfl dX8_make_234 rfl rfl ?_
        refine V_bipush 10 237 dX8_make_235 rfl kbipush_10 ?_
        refine V_idiv 238 dX8_make_237 rfl (by decide) ?_
        refine V_aload_n 5 239 rfl dX8_make_238 rfl rfl ?_
        refine V_iload 4 241 rfl dX8_make_239 rfl ?_
        refine V_iload_n 6 242 rfl dX8_make_241 rfl rfl ?_
        refine V_iconst 0 243 dX8_make_242 rfl kiconst_0 ?_
        obtain ⟨v64, h63, hf⟩ := ob hf
        refine V_callS (rest := [.int x6, .ref t, .int (x3 / 10)]) 0 0 246 [.int v64, .int x6, .ref t, .int (x3 / 10)] (c_X8_has l G (d + 1) _ _ _ _ h63) (by omega) ok_X8_has oks_X8_has wd_ml_X8_137 rfl rfl (Nat.le_of_ble_eq_true rfl) rfl rfl (Or.inl ⟨rfl, rfl⟩) dX8_make_243 rfl rfl ?_
        have kj77 : V mi_X8_make l G (d + 3) 0 0 X 0 0 262 [(11, .int x11), (10, .int x10), (8, .int x8), (7, .int x7), (6, .int x6), (0, .ref t), (2, .int x2), (3, .int x3), (4, .int x4)] [.int (if v64 = 0 then (x7 + x11) else (x7 - x11) : Int32), .int x6, .ref t, .int (x3 / 10)] σ := by
          obtain ⟨v66, h65, hf⟩ := ob hf
          refine V_callV (rest := [.int (x3 / 10)]) (T := TX8) (n := 27) (ci := 7) 0 0 265 [.int v66, .int (x3 / 10)] (c_X8_dot l G (d + 0) _ _ _ _ _ h65) (by omega) ok_X8_dot okv_X8_dot (gd_X8_dot h65) rfl wd_ml_X8_140 rfl rfl (Nat.le_of_ble_eq_true rfl) rfl rfl (Or.inl ⟨rfl, rfl⟩) dX8_make_262 rfl rfl ?_
          refine V_imul 266 dX8_make_265 rfl ?_
          refine V_iload_n 7 267 rfl dX8_make_266 rfl rfl ?_
          refine V_bipush 10 269 dX8_make_267 rfl kbipush_10 ?_
          refine V_irem 270 dX8_make_269 rfl (by decide) ?_
          obtain ⟨z67, h68, hf⟩ := ob hf
          refine V_idiv 271 dX8_make_270 rfl (ne0_ne h68) ?_
          refine V_istore [(12, .int (((x3 / 10) * v66) / (irm x3 10))), (11, .int x11), (10, .int x10), (8, .int x8), (7, .int x7), (6, .int x6), (0, .ref t), (2, .int x2), (3, .int x3), (4, .int x4)] 273 dX8_make_271 (by decide) rfl rfl ?_
          refine V_aload_n 6 274 rfl dX8_make_273 rfl rfl ?_
          refine V_iload 2 276 rfl dX8_make_274 rfl ?_
          refine V_iload 1 278 rfl dX8_make_276 rfl ?_
          refine V_iload_n 7 279 rfl dX8_make_278 rfl rfl ?_
          refine V_iconst 1 280 dX8_make_279 rfl kiconst_1 ?_
          obtain ⟨v70, h69, hf⟩ := ob hf
          refine V_callS (rest := [.int x11, .int x10, .ref t]) 0 0 283 [.int v70, .int x11, .int x10, .ref t] (c_X8_has l G (d + 1) _ _ _ _ h69) (by omega) ok_X8_has oks_X8_has wd_ml_X8_137 rfl rfl (Nat.le_of_ble_eq_true rfl) rfl rfl (Or.inl ⟨rfl, rfl⟩) dX8_make_280 rfl rfl ?_
          have kj75 : V mi_X8_make l G (d + 3) 0 0 X 0 0 294 [(12, .int (((x3 / 10) * v66) / (irm x3 10))), (11, .int x11), (10, .int x10), (8, .int x8), (7, .int x7), (6, .int x6), (0, .ref t), (2, .int x2), (3, .int x3), (4, .int x4)] [.int (if v70 = 0 then ((x3 / 10) * v66) / (irm x3 10) else (-(((x3 / 10) * v66) / (irm x3 10))) : Int32), .int x11, .int x10, .ref t] σ := by
            refine V_iload 9 296 rfl dX8_make_294 rfl ?_
            refine V_iadd 297 dX8_make_296 rfl ?_
            refine V_i2l 298 dX8_make_297 rfl ?_
            obtain ⟨v72, h71, hf⟩ := ob hf
            refine V_callS (rest := [.int x11, .int x10, .ref t]) 0 0 301 [.int v72, .int x11, .int x10, .ref t] (c_X8_held l G (d + 0) _ _ _ h71) (by omega) ok_X8_held oks_X8_held wd_ml_X8_130 rfl rfl (Nat.le_of_ble_eq_true rfl) rfl rfl (Or.inl ⟨rfl, rfl⟩) dX8_make_298 rfl rfl ?_
            obtain ⟨s74, h73, hf⟩ := ob hf
            refine V_callV (rest := []) (T := TX8) (n := 27) (ci := 7) 0 0 304 [] (c_X8_lay l G (d + 1) _ _ _ _ _ _ h73) (by omega) ok_X8_lay okv_X8_lay (gd_X8_lay h73) rfl wd_ml_X8_120 rfl rfl (Nat.le_of_ble_eq_true rfl) rfl rfl (Or.inl ⟨rfl, rfl⟩) dX8_make_301 rfl rfl ?_
            refine V_iinc (x11 + 1) 1 [(11, .int (x11 + 1)), (12, .int (((x3 / 10) * v66) / (irm x3 10))), (10, .int x10), (8, .int x8), (7, .int x7), (6, .int x6), (0, .ref t), (2, .int x2), (3, .int x3), (4, .int x4)] 307 dX8_make_304 rfl (by rw [kiconst_1]) (by decide) rfl rfl ?_
            refine V_goto 227 dX8_make_307 (by decide) ?_
            refine V_ls [(11, .int (x11 + 1)), (10, .int x10), (8, .int x8), (7, .int x7), (6, .int x6), (0, .ref t), (2, .int x2), (3, .int x3), (4, .int x4)] [0, 2, 3, 4, 5, 6, 7, 8, 9] rfl ?_
            exact ih _ _ _ hf hk
          refine V_if_eq 292 286 dX8_make_283 (by decide) rfl (fun c76 => ?_) (fun c76 => ?_)
          · refine V_iload 0 294 rfl dX8_make_292 rfl ?_
            refine V_ls [(12, .int (((x3 / 10) * v66) / (irm x3 10))), (11, .int x11), (10, .int x10), (8, .int x8), (7, .int x7), (6, .int x6), (0, .ref t), (2, .int x2), (3, .int x3), (4, .int x4)] [0, 1, 2, 3, 4, 5, 6, 7, 8, 9] rfl ?_
            simp only [if_pos c76] at kj75
            exact kj75
          · refine V_iload 0 288 rfl dX8_make_286 rfl ?_
            refine V_ineg 289 dX8_make_288 rfl ?_
            refine V_goto 294 dX8_make_289 (by decide) ?_
            refine V_ls [(12, .int (((x3 / 10) * v66) / (irm x3 10))), (11, .int x11), (10, .int x10), (8, .int x8), (7, .int x7), (6, .int x6), (0, .ref t), (2, .int x2), (3, .int x3), (4, .int x4)] [0, 1, 2, 3, 4, 5, 6, 7, 8, 9] rfl ?_
            simp only [if_neg c76] at kj75
            exact kj75
        refine V_if_eq 257 249 dX8_make_246 (by decide) rfl (fun c78 => ?_) (fun c78 => ?_)
        · refine V_iload 3 259 rfl dX8_make_257 rfl ?_
          refine V_iload 0 261 rfl dX8_make_259 rfl ?_
          refine V_iadd 262 dX8_make_261 rfl ?_
          refine V_ls [(11, .int x11), (10, .int x10), (8, .int x8), (7, .int x7), (6, .int x6), (0, .ref t), (2, .int x2), (3, .int x3), (4, .int x4)] [0, 1, 2, 3, 4, 5, 6, 7, 8] rfl ?_
          simp only [if_pos c78] at kj77
          exact kj77
        · refine V_iload 3 251 rfl dX8_make_249 rfl ?_
          refine V_iload 0 253 rfl dX8_make_251 rfl ?_
          refine V_isub 254 dX8_make_253 rfl ?_
          refine V_goto 262 dX8_make_254 (by decide) ?_
          refine V_ls [(11, .int x11), (10, .int x10), (8, .int x8), (7, .int x7), (6, .int x6), (0, .ref t), (2, .int x2), (3, .int x3), (4, .int x4)] [0, 1, 2, 3, 4, 5, 6, 7, 8] rfl ?_
          simp only [if_neg c78] at kj77
          exact kj77
  by_cases hg : isO σ 7 t = true
  · rw [if_pos hg] at hf
    refine V_iload_n 1 1 rfl dX8_make_0 rfl rfl ?_
    refine V_bipush 100 3 dX8_make_1 rfl kbipush_100 ?_
    refine V_irem 4 dX8_make_3 rfl (by decide) ?_
    refine V_istore [(6, .int (irm a0 100)), (0, .ref t), (1, .int a0), (2, .int a1), (3, .int a2), (4, .int a3), (5, .int a4)] 6 dX8_make_4 (by decide) rfl rfl ?_
    refine V_iload 6 8 rfl dX8_make_6 rfl ?_
    refine V_bipush 100 10 dX8_make_8 rfl kbipush_100 ?_
    refine V_idiv 11 dX8_make_10 rfl (by decide) ?_
    refine V_istore [(7, .int (a4 / 100)), (6, .int (irm a0 100)), (0, .ref t), (1, .int a0), (2, .int a1), (3, .int a2), (4, .int a3), (5, .int a4)] 13 dX8_make_11 (by decide) rfl rfl ?_
    refine V_iload 7 15 rfl dX8_make_13 rfl ?_
    refine V_bipush 100 17 dX8_make_15 rfl kbipush_100 ?_
    refine V_irem 18 dX8_make_17 rfl (by decide) ?_
    refine V_istore [(8, .int (irm a4 100)), (7, .int (a4 / 100)), (6, .int (irm a0 100)), (0, .ref t), (1, .int a0), (2, .int a1), (3, .int a2), (4, .int a3), (5, .int a4)] 20 dX8_make_18 (by decide) rfl rfl ?_
    refine V_iload_n 4 21 rfl dX8_make_20 rfl rfl ?_
    refine V_if_lt 112 24 dX8_make_21 (by decide) rfl (fun c1 => ?_) (fun c1 => ?_)
    · rw [if_pos c1] at hf
      refine V_iconst 0 113 dX8_make_112 rfl kiconst_0 ?_
      refine V_istore [(9, .int 0), (8, .int (irm a4 100)), (7, .int (a4 / 100)), (6, .int (irm a0 100)), (0, .ref t), (1, .int a0), (2, .int a1), (3, .int a2), (4, .int a3), (5, .int a4)] 115 dX8_make_113 (by decide) rfl rfl ?_
      refine V_iload 0 117 rfl dX8_make_115 rfl ?_
      refine V_if_eq 169 120 dX8_make_117 (by decide) rfl (fun _ => ?_) (fun hc => absurd hc (by decide))
      refine V_iconst 0 170 dX8_make_169 rfl kiconst_0 ?_
      refine V_istore [(9, .int 0), (8, .int (irm a4 100)), (7, .int (a4 / 100)), (6, .int (irm a0 100)), (0, .ref t), (1, .int a0), (2, .int a1), (3, .int a2), (4, .int a3), (5, .int a4)] 172 dX8_make_170 (by decide) rfl rfl ?_
      refine V_iload 0 174 rfl dX8_make_172 rfl ?_
      refine V_if_ne 184 177 dX8_make_174 (by decide) rfl (fun hc => absurd hc (by decide)) (fun _ => ?_)
      refine V_aload_n 4 178 rfl dX8_make_177 rfl rfl ?_
      refine V_ldc (-1000001) 180 dX8_make_178 rfl wd_kk_X8_76 ?_
      obtain ⟨p3, h2, hf⟩ := ob hf
      refine V_callV (rest := []) (T := TX8) (n := 27) (ci := 7) 0 0 183 [.int p3.1] (c_X8_finding l G (d + 1) _ _ _ _ _ h2) (by omega) ok_X8_finding okv_X8_finding (gd_X8_finding h2) rfl wd_ml_X8_77 rfl rfl (Nat.le_of_ble_eq_true rfl) rfl rfl (Or.inl ⟨rfl, rfl⟩) dX8_make_180 rfl rfl ?_
      have er := Option.some.inj hf
      obtain ⟨e1, e2⟩ := Prod.mk.inj er
      subst e1
      subst e2
      exact V_iret hQ rfl dX8_make_183
    · rw [if_neg c1] at hf
      refine V_aload_n 3 25 rfl dX8_make_24 rfl rfl ?_
      refine V_iload_n 4 26 rfl dX8_make_25 rfl rfl ?_
      refine V_bipush 100 28 dX8_make_26 rfl kbipush_100 ?_
      refine V_idiv 29 dX8_make_28 rfl (by decide) ?_
      refine V_iconst 0 30 dX8_make_29 rfl kiconst_0 ?_
      obtain ⟨v5, h4, hf⟩ := ob hf
      refine V_callV (rest := []) (T := TX8) (n := 27) (ci := 7) 0 0 33 [.int v5] (c_X8_is l G (d + 0) _ _ _ _ _ h4) (by omega) ok_X8_is okv_X8_is (gd_X8_is h4) rfl wd_ml_X8_83 rfl rfl (Nat.le_of_ble_eq_true rfl) rfl rfl (Or.inl ⟨rfl, rfl⟩) dX8_make_30 rfl rfl ?_
      refine V_if_eq 112 36 dX8_make_33 (by decide) rfl (fun c6 => ?_) (fun c6 => ?_)
      · rw [if_pos c6] at hf
        refine V_iconst 0 113 dX8_make_112 rfl kiconst_0 ?_
        refine V_istore [(9, .int 0), (8, .int (irm a4 100)), (7, .int (a4 / 100)), (6, .int (irm a0 100)), (0, .ref t), (1, .int a0), (2, .int a1), (3, .int a2), (4, .int a3), (5, .int a4)] 115 dX8_make_113 (by decide) rfl rfl ?_
        refine V_iload 0 117 rfl dX8_make_115 rfl ?_
        refine V_if_eq 169 120 dX8_make_117 (by decide) rfl (fun _ => ?_) (fun hc => absurd hc (by decide))
        refine V_iconst 0 170 dX8_make_169 rfl kiconst_0 ?_
        refine V_istore [(9, .int 0), (8, .int (irm a4 100)), (7, .int (a4 / 100)), (6, .int (irm a0 100)), (0, .ref t), (1, .int a0), (2, .int a1), (3, .int a2), (4, .int a3), (5, .int a4)] 172 dX8_make_170 (by decide) rfl rfl ?_
        refine V_iload 0 174 rfl dX8_make_172 rfl ?_
        refine V_if_ne 184 177 dX8_make_174 (by decide) rfl (fun hc => absurd hc (by decide)) (fun _ => ?_)
        refine V_aload_n 4 178 rfl dX8_make_177 rfl rfl ?_
        refine V_ldc (-1000001) 180 dX8_make_178 rfl wd_kk_X8_76 ?_
        obtain ⟨p8, h7, hf⟩ := ob hf
        refine V_callV (rest := []) (T := TX8) (n := 27) (ci := 7) 0 0 183 [.int p8.1] (c_X8_finding l G (d + 1) _ _ _ _ _ h7) (by omega) ok_X8_finding okv_X8_finding (gd_X8_finding h7) rfl wd_ml_X8_77 rfl rfl (Nat.le_of_ble_eq_true rfl) rfl rfl (Or.inl ⟨rfl, rfl⟩) dX8_make_180 rfl rfl ?_
        have er := Option.some.inj hf
        obtain ⟨e1, e2⟩ := Prod.mk.inj er
        subst e1
        subst e2
        exact V_iret hQ rfl dX8_make_183
      · rw [if_neg c6] at hf
        refine V_aload_n 3 37 rfl dX8_make_36 rfl rfl ?_
        refine V_iload 2 39 rfl dX8_make_37 rfl ?_
        refine V_iconst 1 40 dX8_make_39 rfl kiconst_1 ?_
        obtain ⟨v10, h9, hf⟩ := ob hf
        refine V_callV (rest := []) (T := TX8) (n := 27) (ci := 7) 0 0 43 [.int v10] (c_X8_is l G (d + 0) _ _ _ _ _ h9) (by omega) ok_X8_is okv_X8_is (gd_X8_is h9) rfl wd_ml_X8_83 rfl rfl (Nat.le_of_ble_eq_true rfl) rfl rfl (Or.inl ⟨rfl, rfl⟩) dX8_make_40 rfl rfl ?_
        refine V_if_eq 112 46 dX8_make_43 (by decide) rfl (fun c11 => ?_) (fun c11 => ?_)
        · rw [if_pos c11] at hf
          refine V_iconst 0 113 dX8_make_112 rfl kiconst_0 ?_
          refine V_istore [(9, .int 0), (8, .int (irm a4 100)), (7, .int (a4 / 100)), (6, .int (irm a0 100)), (0, .ref t), (1, .int a0), (2, .int a1), (3, .int a2), (4, .int a3), (5, .int a4)] 115 dX8_make_113 (by decide) rfl rfl ?_
          refine V_iload 0 117 rfl dX8_make_115 rfl ?_
          refine V_if_eq 169 120 dX8_make_117 (by decide) rfl (fun _ => ?_) (fun hc => absurd hc (by decide))
          refine V_iconst 0 170 dX8_make_169 rfl kiconst_0 ?_
          refine V_istore [(9, .int 0), (8, .int (irm a4 100)), (7, .int (a4 / 100)), (6, .int (irm a0 100)), (0, .ref t), (1, .int a0), (2, .int a1), (3, .int a2), (4, .int a3), (5, .int a4)] 172 dX8_make_170 (by decide) rfl rfl ?_
          refine V_iload 0 174 rfl dX8_make_172 rfl ?_
          refine V_if_ne 184 177 dX8_make_174 (by decide) rfl (fun hc => absurd hc (by decide)) (fun _ => ?_)
          refine V_aload_n 4 178 rfl dX8_make_177 rfl rfl ?_
          refine V_ldc (-1000001) 180 dX8_make_178 rfl wd_kk_X8_76 ?_
          obtain ⟨p13, h12, hf⟩ := ob hf
          refine V_callV (rest := []) (T := TX8) (n := 27) (ci := 7) 0 0 183 [.int p13.1] (c_X8_finding l G (d + 1) _ _ _ _ _ h12) (by omega) ok_X8_finding okv_X8_finding (gd_X8_finding h12) rfl wd_ml_X8_77 rfl rfl (Nat.le_of_ble_eq_true rfl) rfl rfl (Or.inl ⟨rfl, rfl⟩) dX8_make_180 rfl rfl ?_
          have er := Option.some.inj hf
          obtain ⟨e1, e2⟩ := Prod.mk.inj er
          subst e1
          subst e2
          exact V_iret hQ rfl dX8_make_183
        · rw [if_neg c11] at hf
          refine V_iload_n 5 47 rfl dX8_make_46 rfl rfl ?_
          refine V_iconst 0 48 dX8_make_47 rfl kiconst_0 ?_
          refine V_iconst 3 49 dX8_make_48 rfl kiconst_3 ?_
          obtain ⟨v15, h14, hf⟩ := ob hf
          refine V_callS (rest := []) 0 0 52 [.int v15] (c_X8_within l G (d + 1) _ _ _ _ _ h14) (by omega) ok_X8_within oks_X8_within wd_ml_X8_68 rfl rfl (Nat.le_of_ble_eq_true rfl) rfl rfl (Or.inl ⟨rfl, rfl⟩) dX8_make_49 rfl rfl ?_
          refine V_if_eq 112 55 dX8_make_52 (by decide) rfl (fun c16 => ?_) (fun c16 => ?_)
          · rw [if_pos c16] at hf
            refine V_iconst 0 113 dX8_make_112 rfl kiconst_0 ?_
            refine V_istore [(9, .int 0), (8, .int (irm a4 100)), (7, .int (a4 / 100)), (6, .int (irm a0 100)), (0, .ref t), (1, .int a0), (2, .int a1), (3, .int a2), (4, .int a3), (5, .int a4)] 115 dX8_make_113 (by decide) rfl rfl ?_
            refine V_iload 0 117 rfl dX8_make_115 rfl ?_
            refine V_if_eq 169 120 dX8_make_117 (by decide) rfl (fun _ => ?_) (fun hc => absurd hc (by decide))
            refine V_iconst 0 170 dX8_make_169 rfl kiconst_0 ?_
            refine V_istore [(9, .int 0), (8, .int (irm a4 100)), (7, .int (a4 / 100)), (6, .int (irm a0 100)), (0, .ref t), (1, .int a0), (2, .int a1), (3, .int a2), (4, .int a3), (5, .int a4)] 172 dX8_make_170 (by decide) rfl rfl ?_
            refine V_iload 0 174 rfl dX8_make_172 rfl ?_
            refine V_if_ne 184 177 dX8_make_174 (by decide) rfl (fun hc => absurd hc (by decide)) (fun _ => ?_)
            refine V_aload_n 4 178 rfl dX8_make_177 rfl rfl ?_
            refine V_ldc (-1000001) 180 dX8_make_178 rfl wd_kk_X8_76 ?_
            obtain ⟨p18, h17, hf⟩ := ob hf
            refine V_callV (rest := []) (T := TX8) (n := 27) (ci := 7) 0 0 183 [.int p18.1] (c_X8_finding l G (d + 1) _ _ _ _ _ h17) (by omega) ok_X8_finding okv_X8_finding (gd_X8_finding h17) rfl wd_ml_X8_77 rfl rfl (Nat.le_of_ble_eq_true rfl) rfl rfl (Or.inl ⟨rfl, rfl⟩) dX8_make_180 rfl rfl ?_
            have er := Option.some.inj hf
            obtain ⟨e1, e2⟩ := Prod.mk.inj er
            subst e1
            subst e2
            exact V_iret hQ rfl dX8_make_183
          · rw [if_neg c16] at hf
            refine V_iload_n 6 56 rfl dX8_make_55 rfl rfl ?_
            refine V_bipush 11 58 dX8_make_56 rfl kbipush_11 ?_
            refine V_bipush 55 60 dX8_make_58 rfl kbipush_55 ?_
            obtain ⟨v20, h19, hf⟩ := ob hf
            refine V_callS (rest := []) 0 0 63 [.int v20] (c_X8_within l G (d + 1) _ _ _ _ _ h19) (by omega) ok_X8_within oks_X8_within wd_ml_X8_68 rfl rfl (Nat.le_of_ble_eq_true rfl) rfl rfl (Or.inl ⟨rfl, rfl⟩) dX8_make_60 rfl rfl ?_
            refine V_if_eq 112 66 dX8_make_63 (by decide) rfl (fun c21 => ?_) (fun c21 => ?_)
            · rw [if_pos c21] at hf
              refine V_iconst 0 113 dX8_make_112 rfl kiconst_0 ?_
              refine V_istore [(9, .int 0), (8, .int (irm a4 100)), (7, .int (a4 / 100)), (6, .int (irm a0 100)), (0, .ref t), (1, .int a0), (2, .int a1), (3, .int a2), (4, .int a3), (5, .int a4)] 115 dX8_make_113 (by decide) rfl rfl ?_
              refine V_iload 0 117 rfl dX8_make_115 rfl ?_
              refine V_if_eq 169 120 dX8_make_117 (by decide) rfl (fun _ => ?_) (fun hc => absurd hc (by decide))
              refine V_iconst 0 170 dX8_make_169 rfl kiconst_0 ?_
              refine V_istore [(9, .int 0), (8, .int (irm a4 100)), (7, .int (a4 / 100)), (6, .int (irm a0 100)), (0, .ref t), (1, .int a0), (2, .int a1), (3, .int a2), (4, .int a3), (5, .int a4)] 172 dX8_make_170 (by decide) rfl rfl ?_
              refine V_iload 0 174 rfl dX8_make_172 rfl ?_
              refine V_if_ne 184 177 dX8_make_174 (by decide) rfl (fun hc => absurd hc (by decide)) (fun _ => ?_)
              refine V_aload_n 4 178 rfl dX8_make_177 rfl rfl ?_
              refine V_ldc (-1000001) 180 dX8_make_178 rfl wd_kk_X8_76 ?_
              obtain ⟨p23, h22, hf⟩ := ob hf
              refine V_callV (rest := []) (T := TX8) (n := 27) (ci := 7) 0 0 183 [.int p23.1] (c_X8_finding l G (d + 1) _ _ _ _ _ h22) (by omega) ok_X8_finding okv_X8_finding (gd_X8_finding h22) rfl wd_ml_X8_77 rfl rfl (Nat.le_of_ble_eq_true rfl) rfl rfl (Or.inl ⟨rfl, rfl⟩) dX8_make_180 rfl rfl ?_
              have er := Option.some.inj hf
              obtain ⟨e1, e2⟩ := Prod.mk.inj er
              subst e1
              subst e2
              exact V_iret hQ rfl dX8_make_183
            · rw [if_neg c21] at hf
              refine V_iload_n 6 67 rfl dX8_make_66 rfl rfl ?_
              refine V_bipush 10 69 dX8_make_67 rfl kbipush_10 ?_
              refine V_irem 70 dX8_make_69 rfl (by decide) ?_
              refine V_iconst 1 71 dX8_make_70 rfl kiconst_1 ?_
              refine V_iconst 5 72 dX8_make_71 rfl kiconst_5 ?_
              obtain ⟨v25, h24, hf⟩ := ob hf
              refine V_callS (rest := []) 0 0 75 [.int v25] (c_X8_within l G (d + 1) _ _ _ _ _ h24) (by omega) ok_X8_within oks_X8_within wd_ml_X8_68 rfl rfl (Nat.le_of_ble_eq_true rfl) rfl rfl (Or.inl ⟨rfl, rfl⟩) dX8_make_72 rfl rfl ?_
              refine V_if_eq 112 78 dX8_make_75 (by decide) rfl (fun c26 => ?_) (fun c26 => ?_)
              · rw [if_pos c26] at hf
                refine V_iconst 0 113 dX8_make_112 rfl kiconst_0 ?_
                refine V_istore [(9, .int 0), (8, .int (irm a4 100)), (7, .int (a4 / 100)), (6, .int (irm a0 100)), (0, .ref t), (1, .int a0), (2, .int a1), (3, .int a2), (4, .int a3), (5, .int a4)] 115 dX8_make_113 (by decide) rfl rfl ?_
                refine V_iload 0 117 rfl dX8_make_115 rfl ?_
                refine V_if_eq 169 120 dX8_make_117 (by decide) rfl (fun _ => ?_) (fun hc => absurd hc (by decide))
                refine V_iconst 0 170 dX8_make_169 rfl kiconst_0 ?_
                refine V_istore [(9, .int 0), (8, .int (irm a4 100)), (7, .int (a4 / 100)), (6, .int (irm a0 100)), (0, .ref t), (1, .int a0), (2, .int a1), (3, .int a2), (4, .int a3), (5, .int a4)] 172 dX8_make_170 (by decide) rfl rfl ?_
                refine V_iload 0 174 rfl dX8_make_172 rfl ?_
                refine V_if_ne 184 177 dX8_make_174 (by decide) rfl (fun hc => absurd hc (by decide)) (fun _ => ?_)
                refine V_aload_n 4 178 rfl dX8_make_177 rfl rfl ?_
                refine V_ldc (-1000001) 180 dX8_make_178 rfl wd_kk_X8_76 ?_
                obtain ⟨p28, h27, hf⟩ := ob hf
                refine V_callV (rest := []) (T := TX8) (n := 27) (ci := 7) 0 0 183 [.int p28.1] (c_X8_finding l G (d + 1) _ _ _ _ _ h27) (by omega) ok_X8_finding okv_X8_finding (gd_X8_finding h27) rfl wd_ml_X8_77 rfl rfl (Nat.le_of_ble_eq_true rfl) rfl rfl (Or.inl ⟨rfl, rfl⟩) dX8_make_180 rfl rfl ?_
                have er := Option.some.inj hf
                obtain ⟨e1, e2⟩ := Prod.mk.inj er
                subst e1
                subst e2
                exact V_iret hQ rfl dX8_make_183
              · rw [if_neg c26] at hf
                refine V_iload 7 80 rfl dX8_make_78 rfl ?_
                refine V_sipush (-999) 83 dX8_make_80 rfl ksipush_m999 ?_
                refine V_sipush 999 86 dX8_make_83 rfl ksipush_999 ?_
                obtain ⟨v30, h29, hf⟩ := ob hf
                refine V_callS (rest := []) 0 0 89 [.int v30] (c_X8_within l G (d + 1) _ _ _ _ _ h29) (by omega) ok_X8_within oks_X8_within wd_ml_X8_68 rfl rfl (Nat.le_of_ble_eq_true rfl) rfl rfl (Or.inl ⟨rfl, rfl⟩) dX8_make_86 rfl rfl ?_
                refine V_if_eq 112 92 dX8_make_89 (by decide) rfl (fun c31 => ?_) (fun c31 => ?_)
                · rw [if_pos c31] at hf
                  refine V_iconst 0 113 dX8_make_112 rfl kiconst_0 ?_
                  refine V_istore [(9, .int 0), (8, .int (irm a4 100)), (7, .int (a4 / 100)), (6, .int (irm a0 100)), (0, .ref t), (1, .int a0), (2, .int a1), (3, .int a2), (4, .int a3), (5, .int a4)] 115 dX8_make_113 (by decide) rfl rfl ?_
                  refine V_iload 0 117 rfl dX8_make_115 rfl ?_
                  refine V_if_eq 169 120 dX8_make_117 (by decide) rfl (fun _ => ?_) (fun hc => absurd hc (by decide))
                  refine V_iconst 0 170 dX8_make_169 rfl kiconst_0 ?_
                  refine V_istore [(9, .int 0), (8, .int (irm a4 100)), (7, .int (a4 / 100)), (6, .int (irm a0 100)), (0, .ref t), (1, .int a0), (2, .int a1), (3, .int a2), (4, .int a3), (5, .int a4)] 172 dX8_make_170 (by decide) rfl rfl ?_
                  refine V_iload 0 174 rfl dX8_make_172 rfl ?_
                  refine V_if_ne 184 177 dX8_make_174 (by decide) rfl (fun hc => absurd hc (by decide)) (fun _ => ?_)
                  refine V_aload_n 4 178 rfl dX8_make_177 rfl rfl ?_
                  refine V_ldc (-1000001) 180 dX8_make_178 rfl wd_kk_X8_76 ?_
                  obtain ⟨p33, h32, hf⟩ := ob hf
                  refine V_callV (rest := []) (T := TX8) (n := 27) (ci := 7) 0 0 183 [.int p33.1] (c_X8_finding l G (d + 1) _ _ _ _ _ h32) (by omega) ok_X8_finding okv_X8_finding (gd_X8_finding h32) rfl wd_ml_X8_77 rfl rfl (Nat.le_of_ble_eq_true rfl) rfl rfl (Or.inl ⟨rfl, rfl⟩) dX8_make_180 rfl rfl ?_
                  have er := Option.some.inj hf
                  obtain ⟨e1, e2⟩ := Prod.mk.inj er
                  subst e1
                  subst e2
                  exact V_iret hQ rfl dX8_make_183
                · rw [if_neg c31] at hf
                  refine V_iload 8 94 rfl dX8_make_92 rfl ?_
                  refine V_if_lt 112 97 dX8_make_94 (by decide) rfl (fun c34 => ?_) (fun c34 => ?_)
                  · rw [if_pos c34] at hf
                    refine V_iconst 0 113 dX8_make_112 rfl kiconst_0 ?_
                    refine V_istore [(9, .int 0), (8, .int (irm a4 100)), (7, .int (a4 / 100)), (6, .int (irm a0 100)), (0, .ref t), (1, .int a0), (2, .int a1), (3, .int a2), (4, .int a3), (5, .int a4)] 115 dX8_make_113 (by decide) rfl rfl ?_
                    refine V_iload 0 117 rfl dX8_make_115 rfl ?_
                    refine V_if_eq 169 120 dX8_make_117 (by decide) rfl (fun _ => ?_) (fun hc => absurd hc (by decide))
                    refine V_iconst 0 170 dX8_make_169 rfl kiconst_0 ?_
                    refine V_istore [(9, .int 0), (8, .int (irm a4 100)), (7, .int (a4 / 100)), (6, .int (irm a0 100)), (0, .ref t), (1, .int a0), (2, .int a1), (3, .int a2), (4, .int a3), (5, .int a4)] 172 dX8_make_170 (by decide) rfl rfl ?_
                    refine V_iload 0 174 rfl dX8_make_172 rfl ?_
                    refine V_if_ne 184 177 dX8_make_174 (by decide) rfl (fun hc => absurd hc (by decide)) (fun _ => ?_)
                    refine V_aload_n 4 178 rfl dX8_make_177 rfl rfl ?_
                    refine V_ldc (-1000001) 180 dX8_make_178 rfl wd_kk_X8_76 ?_
                    obtain ⟨p36, h35, hf⟩ := ob hf
                    refine V_callV (rest := []) (T := TX8) (n := 27) (ci := 7) 0 0 183 [.int p36.1] (c_X8_finding l G (d + 1) _ _ _ _ _ h35) (by omega) ok_X8_finding okv_X8_finding (gd_X8_finding h35) rfl wd_ml_X8_77 rfl rfl (Nat.le_of_ble_eq_true rfl) rfl rfl (Or.inl ⟨rfl, rfl⟩) dX8_make_180 rfl rfl ?_
                    have er := Option.some.inj hf
                    obtain ⟨e1, e2⟩ := Prod.mk.inj er
                    subst e1
                    subst e2
                    exact V_iret hQ rfl dX8_make_183
                  · rw [if_neg c34] at hf
                    refine V_iload 0 99 rfl dX8_make_97 rfl ?_
                    refine V_iconst 3 100 dX8_make_99 rfl kiconst_3 ?_
                    refine V_bipush 24 102 dX8_make_100 rfl kbipush_24 ?_
                    obtain ⟨v38, h37, hf⟩ := ob hf
                    refine V_callS (rest := []) 0 0 105 [.int v38] (c_X8_within l G (d + 1) _ _ _ _ _ h37) (by omega) ok_X8_within oks_X8_within wd_ml_X8_68 rfl rfl (Nat.le_of_ble_eq_true rfl) rfl rfl (Or.inl ⟨rfl, rfl⟩) dX8_make_102 rfl rfl ?_
                    have kj105 : V mi_X8_make l G (d + 3) 0 0 X 0 0 113 [(8, .int (irm a4 100)), (7, .int (a4 / 100)), (6, .int (irm a0 100)), (0, .ref t), (1, .int a0), (2, .int a1), (3, .int a2), (4, .int a3), (5, .int a4)] [.int (if v38 = 0 then 0 else 1 : Int32)] σ := by
                      refine V_istore [(9, .int (if v38 = 0 then 0 else 1 : Int32)), (8, .int (irm a4 100)), (7, .int (a4 / 100)), (6, .int (irm a0 100)), (0, .ref t), (1, .int a0), (2, .int a1), (3, .int a2), (4, .int a3), (5, .int a4)] 115 dX8_make_113 (by decide) rfl rfl ?_
                      refine V_iload 0 117 rfl dX8_make_115 rfl ?_
                      refine V_if_eq 169 120 dX8_make_117 (by decide) rfl (fun c39 => ?_) (fun c39 => ?_)
                      · rw [if_pos c39] at hf
                        refine V_iconst 0 170 dX8_make_169 rfl kiconst_0 ?_
                        refine V_istore [(9, .int 0), (8, .int (irm a4 100)), (7, .int (a4 / 100)), (6, .int (irm a0 100)), (0, .ref t), (1, .int a0), (2, .int a1), (3, .int a2), (4, .int a3), (5, .int a4)] 172 dX8_make_170 (by decide) rfl rfl ?_
                        refine V_iload 0 174 rfl dX8_make_172 rfl ?_
                        refine V_if_ne 184 177 dX8_make_174 (by decide) rfl (fun hc => absurd hc (by decide)) (fun _ => ?_)
                        refine V_aload_n 4 178 rfl dX8_make_177 rfl rfl ?_
                        refine V_ldc (-1000001) 180 dX8_make_178 rfl wd_kk_X8_76 ?_
                        obtain ⟨p41, h40, hf⟩ := ob hf
                        refine V_callV (rest := []) (T := TX8) (n := 27) (ci := 7) 0 0 183 [.int p41.1] (c_X8_finding l G (d + 1) _ _ _ _ _ h40) (by omega) ok_X8_finding okv_X8_finding (gd_X8_finding h40) rfl wd_ml_X8_77 rfl rfl (Nat.le_of_ble_eq_true rfl) rfl rfl (Or.inl ⟨rfl, rfl⟩) dX8_make_180 rfl rfl ?_
                        have er := Option.some.inj hf
                        obtain ⟨e1, e2⟩ := Prod.mk.inj er
                        subst e1
                        subst e2
                        exact V_iret hQ rfl dX8_make_183
                      · rw [if_neg c39] at hf
                        refine V_iload 2 122 rfl dX8_make_120 rfl ?_
                        refine V_aload_n 4 123 rfl dX8_make_122 rfl rfl ?_
                        refine V_iload 3 125 rfl dX8_make_123 rfl ?_
                        obtain ⟨v43, h42, hf⟩ := ob hf
                        refine V_callV (rest := [.int (a4 / 100)]) (T := TX8) (n := 27) (ci := 7) 0 0 128 [.int v43, .int (a4 / 100)] (c_X8_many l G (d + 0) _ _ _ _ h42) (by omega) ok_X8_many okv_X8_many (gd_X8_many h42) rfl wd_ml_X8_134 rfl rfl (Nat.le_of_ble_eq_true rfl) rfl rfl (Or.inl ⟨rfl, rfl⟩) dX8_make_125 rfl rfl ?_
                        refine V_icmp_ge 169 131 dX8_make_128 (by decide) rfl (fun c44 => ?_) (fun c44 => ?_)
                        · rw [if_pos c44] at hf
                          refine V_iconst 0 170 dX8_make_169 rfl kiconst_0 ?_
                          refine V_istore [(9, .int 0), (8, .int (irm a4 100)), (7, .int (a4 / 100)), (6, .int (irm a0 100)), (0, .ref t), (1, .int a0), (2, .int a1), (3, .int a2), (4, .int a3), (5, .int a4)] 172 dX8_make_170 (by decide) rfl rfl ?_
                          refine V_iload 0 174 rfl dX8_make_172 rfl ?_
                          refine V_if_ne 184 177 dX8_make_174 (by decide) rfl (fun hc => absurd hc (by decide)) (fun _ => ?_)
                          refine V_aload_n 4 178 rfl dX8_make_177 rfl rfl ?_
                          refine V_ldc (-1000001) 180 dX8_make_178 rfl wd_kk_X8_76 ?_
                          obtain ⟨p46, h45, hf⟩ := ob hf
                          refine V_callV (rest := []) (T := TX8) (n := 27) (ci := 7) 0 0 183 [.int p46.1] (c_X8_finding l G (d + 1) _ _ _ _ _ h45) (by omega) ok_X8_finding okv_X8_finding (gd_X8_finding h45) rfl wd_ml_X8_77 rfl rfl (Nat.le_of_ble_eq_true rfl) rfl rfl (Or.inl ⟨rfl, rfl⟩) dX8_make_180 rfl rfl ?_
                          have er := Option.some.inj hf
                          obtain ⟨e1, e2⟩ := Prod.mk.inj er
                          subst e1
                          subst e2
                          exact V_iret hQ rfl dX8_make_183
                        · rw [if_neg c44] at hf
                          refine V_iload_n 6 132 rfl dX8_make_131 rfl rfl ?_
                          refine V_iconst 0 133 dX8_make_132 rfl kiconst_0 ?_
                          obtain ⟨v48, h47, hf⟩ := ob hf
                          refine V_callS (rest := []) 0 0 136 [.int v48] (c_X8_has l G (d + 1) _ _ _ _ h47) (by omega) ok_X8_has oks_X8_has wd_ml_X8_137 rfl rfl (Nat.le_of_ble_eq_true rfl) rfl rfl (Or.inl ⟨rfl, rfl⟩) dX8_make_133 rfl rfl ?_
                          refine V_if_eq 151 139 dX8_make_136 (by decide) rfl (fun c49 => ?_) (fun c49 => ?_)
                          · rw [if_pos c49] at hf
                            refine V_iload 2 153 rfl dX8_make_151 rfl ?_
                            refine V_aload_n 4 154 rfl dX8_make_153 rfl rfl ?_
                            refine V_iload 3 156 rfl dX8_make_154 rfl ?_
                            obtain ⟨v51, h50, hf⟩ := ob hf
                            refine V_callV (rest := [.int (a4 / 100)]) (T := TX8) (n := 27) (ci := 7) 0 0 159 [.int v51, .int (a4 / 100)] (c_X8_many l G (d + 0) _ _ _ _ h50) (by omega) ok_X8_many okv_X8_many (gd_X8_many h50) rfl wd_ml_X8_134 rfl rfl (Nat.le_of_ble_eq_true rfl) rfl rfl (Or.inl ⟨rfl, rfl⟩) dX8_make_156 rfl rfl ?_
                            refine V_iload 1 161 rfl dX8_make_159 rfl ?_
                            refine V_isub 162 dX8_make_161 rfl ?_
                            have kj85 : V mi_X8_make l G (d + 3) 0 0 X 0 0 170 [(9, .int (if v38 = 0 then 0 else 1 : Int32)), (8, .int (irm a4 100)), (7, .int (a4 / 100)), (6, .int (irm a0 100)), (0, .ref t), (1, .int a0), (2, .int a1), (3, .int a2), (4, .int a3), (5, .int a4)] [.int (if (v51 - (irm a4 100)) < (a4 / 100) then 0 else 1 : Int32)] σ := by
                              refine V_istore [(9, .int (if (v51 - (irm a4 100)) < (a4 / 100) then 0 else 1 : Int32)), (8, .int (irm a4 100)), (7, .int (a4 / 100)), (6, .int (irm a0 100)), (0, .ref t), (1, .int a0), (2, .int a1), (3, .int a2), (4, .int a3), (5, .int a4)] 172 dX8_make_170 (by decide) rfl rfl ?_
                              refine V_iload 0 174 rfl dX8_make_172 rfl ?_
                              refine V_if_ne 184 177 dX8_make_174 (by decide) rfl (fun c52 => ?_) (fun c52 => ?_)
                              · rw [if_neg c52] at hf
                                refine V_aload_n 4 185 rfl dX8_make_184 rfl rfl ?_
                                obtain ⟨q54, h53, hf⟩ := ob hf
                                refine V_getQ (n := 27) (ty := tyX8) 188 h53 cf_7 rfl wd_fl_X8_9 dX8_make_185 rfl ?_
                                refine V_iconst 1 189 dX8_make_188 rfl kiconst_1 ?_
                                obtain ⟨v56, h55, hf⟩ := ob hf
                                refine V_iald 190 h55 dX8_make_189 rfl ?_
                                refine V_bipush 24 192 dX8_make_190 rfl kbipush_24 ?_
                                refine V_icmp_ne 202 195 dX8_make_192 (by decide) rfl (fun c57 => ?_) (fun c57 => ?_)
                                · rw [if_neg c57] at hf
                                  refine V_aload_n 4 203 rfl dX8_make_202 rfl rfl ?_
                                  refine V_iconst 3 204 dX8_make_203 rfl kiconst_3 ?_
                                  refine V_iload_n 5 205 rfl dX8_make_204 rfl rfl ?_
                                  refine V_bipush 100 207 dX8_make_205 rfl kbipush_100 ?_
                                  refine V_idiv 208 dX8_make_207 rfl (by decide) ?_
                                  refine V_aload_n 4 209 rfl dX8_make_208 rfl rfl ?_
                                  refine V_iload 3 211 rfl dX8_make_209 rfl ?_
                                  refine V_iconst 2 212 dX8_make_211 rfl kiconst_2 ?_
                                  obtain ⟨v59, h58, hf⟩ := ob hf
                                  refine V_callV (rest := [.int (a0 / 100), .int 3, .ref t]) (T := TX8) (n := 27) (ci := 7) 0 0 215 [.int v59, .int (a0 / 100), .int 3, .ref t] (c_X8_curve l G (d + 1) _ _ _ _ _ h58) (by omega) ok_X8_curve okv_X8_curve (gd_X8_curve h58) rfl wd_ml_X8_87 rfl rfl (Nat.le_of_ble_eq_true rfl) rfl rfl (Or.inl ⟨rfl, rfl⟩) dX8_make_212 rfl rfl ?_
                                  refine V_iload 1 217 rfl dX8_make_215 rfl ?_
                                  refine V_iload 3 219 rfl dX8_make_217 rfl ?_
                                  obtain ⟨p61, h60, hf⟩ := ob hf
                                  refine V_callV (rest := []) (T := TX8) (n := 27) (ci := 7) 0 0 222 [.int p61.1] (c_X8_begin l G (d + 1) _ _ _ _ _ _ _ _ _ h60) (by omega) ok_X8_begin okv_X8_begin (gd_X8_begin h60) rfl wd_ml_X8_116 rfl rfl (Nat.le_of_ble_eq_true rfl) rfl rfl (Or.inl ⟨rfl, rfl⟩) dX8_make_219 rfl rfl ?_
                                  refine V_istore [(10, .int p61.1), (9, .int (if (v51 - (irm a4 100)) < (a4 / 100) then 0 else 1 : Int32)), (8, .int (irm a4 100)), (7, .int (a4 / 100)), (6, .int (irm a0 100)), (0, .ref t), (1, .int a0), (2, .int a1), (3, .int a2), (4, .int a3), (5, .int a4)] 224 dX8_make_222 (by decide) rfl rfl ?_
                                  refine V_iconst 0 225 dX8_make_224 rfl kiconst_0 ?_
                                  refine V_istore [(11, .int 0), (10, .int p61.1), (9, .int (if (v51 - (irm a4 100)) < (a4 / 100) then 0 else 1 : Int32)), (8, .int (irm a4 100)), (7, .int (a4 / 100)), (6, .int (irm a0 100)), (0, .ref t), (1, .int a0), (2, .int a1), (3, .int a2), (4, .int a3), (5, .int a4)] 227 dX8_make_225 (by decide) rfl rfl ?_
                                  obtain ⟨p79, h80, hf⟩ := ob hf
                                  refine V_ls [(11, .int 0), (10, .int p61.1), (8, .int (irm a4 100)), (7, .int (a4 / 100)), (6, .int (irm a0 100)), (0, .ref t), (2, .int a1), (3, .int a2), (4, .int a3)] [0, 1, 3, 4, 5, 6, 8, 9, 10] rfl ?_
                                  refine L227 p61.1 (irm a4 100) (a4 / 100) (irm a0 100) a1 a2 a3 3000 0 p61.2 p79 h80 ?_
                                  refine V_iload 1 312 rfl dX8_make_310 rfl ?_
                                  have er := Option.some.inj hf
                                  obtain ⟨e1, e2⟩ := Prod.mk.inj er
                                  subst e1
                                  subst e2
                                  exact V_iret hQ rfl dX8_make_312
                                · rw [if_pos c57] at hf
                                  refine V_aload_n 4 196 rfl dX8_make_195 rfl rfl ?_
                                  refine V_ldc (-1000004) 198 dX8_make_196 rfl wd_kk_X8_82 ?_
                                  obtain ⟨p82, h81, hf⟩ := ob hf
                                  refine V_callV (rest := []) (T := TX8) (n := 27) (ci := 7) 0 0 201 [.int p82.1] (c_X8_finding l G (d + 1) _ _ _ _ _ h81) (by omega) ok_X8_finding okv_X8_finding (gd_X8_finding h81) rfl wd_ml_X8_77 rfl rfl (Nat.le_of_ble_eq_true rfl) rfl rfl (Or.inl ⟨rfl, rfl⟩) dX8_make_198 rfl rfl ?_
                                  have er := Option.some.inj hf
                                  obtain ⟨e1, e2⟩ := Prod.mk.inj er
                                  subst e1
                                  subst e2
                                  exact V_iret hQ rfl dX8_make_201
                              · rw [if_pos c52] at hf
                                refine V_aload_n 4 178 rfl dX8_make_177 rfl rfl ?_
                                refine V_ldc (-1000001) 180 dX8_make_178 rfl wd_kk_X8_76 ?_
                                obtain ⟨p84, h83, hf⟩ := ob hf
                                refine V_callV (rest := []) (T := TX8) (n := 27) (ci := 7) 0 0 183 [.int p84.1] (c_X8_finding l G (d + 1) _ _ _ _ _ h83) (by omega) ok_X8_finding okv_X8_finding (gd_X8_finding h83) rfl wd_ml_X8_77 rfl rfl (Nat.le_of_ble_eq_true rfl) rfl rfl (Or.inl ⟨rfl, rfl⟩) dX8_make_180 rfl rfl ?_
                                have er := Option.some.inj hf
                                obtain ⟨e1, e2⟩ := Prod.mk.inj er
                                subst e1
                                subst e2
                                exact V_iret hQ rfl dX8_make_183
                            refine V_icmp_gt 169 165 dX8_make_162 (by decide) rfl (fun c86 => ?_) (fun c86 => ?_)
                            · refine V_iconst 0 170 dX8_make_169 rfl kiconst_0 ?_
                              refine V_ls [(9, .int (if v38 = 0 then 0 else 1 : Int32)), (8, .int (irm a4 100)), (7, .int (a4 / 100)), (6, .int (irm a0 100)), (0, .ref t), (1, .int a0), (2, .int a1), (3, .int a2), (4, .int a3), (5, .int a4)] [0, 1, 2, 3, 4, 5, 6, 7, 8, 9] rfl ?_
                              simp only [if_pos c86] at kj85
                              exact kj85
                            · refine V_iconst 1 166 dX8_make_165 rfl kiconst_1 ?_
                              refine V_goto 170 dX8_make_166 (by decide) ?_
                              refine V_ls [(9, .int (if v38 = 0 then 0 else 1 : Int32)), (8, .int (irm a4 100)), (7, .int (a4 / 100)), (6, .int (irm a0 100)), (0, .ref t), (1, .int a0), (2, .int a1), (3, .int a2), (4, .int a3), (5, .int a4)] [0, 1, 2, 3, 4, 5, 6, 7, 8, 9] rfl ?_
                              simp only [if_neg c86] at kj85
                              exact kj85
                          · rw [if_neg c49] at hf
                            refine V_iload 2 141 rfl dX8_make_139 rfl ?_
                            refine V_iload 1 143 rfl dX8_make_141 rfl ?_
                            refine V_iconst 1 144 dX8_make_143 rfl kiconst_1 ?_
                            refine V_isub 145 dX8_make_144 rfl ?_
                            have kj103 : V mi_X8_make l G (d + 3) 0 0 X 0 0 170 [(9, .int (if v38 = 0 then 0 else 1 : Int32)), (8, .int (irm a4 100)), (7, .int (a4 / 100)), (6, .int (irm a0 100)), (0, .ref t), (1, .int a0), (2, .int a1), (3, .int a2), (4, .int a3), (5, .int a4)] [.int (if (a4 / 100) < ((irm a4 100) - 1) then 0 else 1 : Int32)] σ := by
                              refine V_istore [(9, .int (if (a4 / 100) < ((irm a4 100) - 1) then 0 else 1 : Int32)), (8, .int (irm a4 100)), (7, .int (a4 / 100)), (6, .int (irm a0 100)), (0, .ref t), (1, .int a0), (2, .int a1), (3, .int a2), (4, .int a3), (5, .int a4)] 172 dX8_make_170 (by decide) rfl rfl ?_
                              refine V_iload 0 174 rfl dX8_make_172 rfl ?_
                              refine V_if_ne 184 177 dX8_make_174 (by decide) rfl (fun c87 => ?_) (fun c87 => ?_)
                              · rw [if_neg c87] at hf
                                refine V_aload_n 4 185 rfl dX8_make_184 rfl rfl ?_
                                obtain ⟨q89, h88, hf⟩ := ob hf
                                refine V_getQ (n := 27) (ty := tyX8) 188 h88 cf_7 rfl wd_fl_X8_9 dX8_make_185 rfl ?_
                                refine V_iconst 1 189 dX8_make_188 rfl kiconst_1 ?_
                                obtain ⟨v91, h90, hf⟩ := ob hf
                                refine V_iald 190 h90 dX8_make_189 rfl ?_
                                refine V_bipush 24 192 dX8_make_190 rfl kbipush_24 ?_
                                refine V_icmp_ne 202 195 dX8_make_192 (by decide) rfl (fun c92 => ?_) (fun c92 => ?_)
                                · rw [if_neg c92] at hf
                                  refine V_aload_n 4 203 rfl dX8_make_202 rfl rfl ?_
                                  refine V_iconst 3 204 dX8_make_203 rfl kiconst_3 ?_
                                  refine V_iload_n 5 205 rfl dX8_make_204 rfl rfl ?_
                                  refine V_bipush 100 207 dX8_make_205 rfl kbipush_100 ?_
                                  refine V_idiv 208 dX8_make_207 rfl (by decide) ?_
                                  refine V_aload_n 4 209 rfl dX8_make_208 rfl rfl ?_
                                  refine V_iload 3 211 rfl dX8_make_209 rfl ?_
                                  refine V_iconst 2 212 dX8_make_211 rfl kiconst_2 ?_
                                  obtain ⟨v94, h93, hf⟩ := ob hf
                                  refine V_callV (rest := [.int (a0 / 100), .int 3, .ref t]) (T := TX8) (n := 27) (ci := 7) 0 0 215 [.int v94, .int (a0 / 100), .int 3, .ref t] (c_X8_curve l G (d + 1) _ _ _ _ _ h93) (by omega) ok_X8_curve okv_X8_curve (gd_X8_curve h93) rfl wd_ml_X8_87 rfl rfl (Nat.le_of_ble_eq_true rfl) rfl rfl (Or.inl ⟨rfl, rfl⟩) dX8_make_212 rfl rfl ?_
                                  refine V_iload 1 217 rfl dX8_make_215 rfl ?_
                                  refine V_iload 3 219 rfl dX8_make_217 rfl ?_
                                  obtain ⟨p96, h95, hf⟩ := ob hf
                                  refine V_callV (rest := []) (T := TX8) (n := 27) (ci := 7) 0 0 222 [.int p96.1] (c_X8_begin l G (d + 1) _ _ _ _ _ _ _ _ _ h95) (by omega) ok_X8_begin okv_X8_begin (gd_X8_begin h95) rfl wd_ml_X8_116 rfl rfl (Nat.le_of_ble_eq_true rfl) rfl rfl (Or.inl ⟨rfl, rfl⟩) dX8_make_219 rfl rfl ?_
                                  refine V_istore [(10, .int p96.1), (9, .int (if (a4 / 100) < ((irm a4 100) - 1) then 0 else 1 : Int32)), (8, .int (irm a4 100)), (7, .int (a4 / 100)), (6, .int (irm a0 100)), (0, .ref t), (1, .int a0), (2, .int a1), (3, .int a2), (4, .int a3), (5, .int a4)] 224 dX8_make_222 (by decide) rfl rfl ?_
                                  refine V_iconst 0 225 dX8_make_224 rfl kiconst_0 ?_
                                  refine V_istore [(11, .int 0), (10, .int p96.1), (9, .int (if (a4 / 100) < ((irm a4 100) - 1) then 0 else 1 : Int32)), (8, .int (irm a4 100)), (7, .int (a4 / 100)), (6, .int (irm a0 100)), (0, .ref t), (1, .int a0), (2, .int a1), (3, .int a2), (4, .int a3), (5, .int a4)] 227 dX8_make_225 (by decide) rfl rfl ?_
                                  obtain ⟨p97, h98, hf⟩ := ob hf
                                  refine V_ls [(11, .int 0), (10, .int p96.1), (8, .int (irm a4 100)), (7, .int (a4 / 100)), (6, .int (irm a0 100)), (0, .ref t), (2, .int a1), (3, .int a2), (4, .int a3)] [0, 1, 3, 4, 5, 6, 8, 9, 10] rfl ?_
                                  refine L227 p96.1 (irm a4 100) (a4 / 100) (irm a0 100) a1 a2 a3 3000 0 p96.2 p97 h98 ?_
                                  refine V_iload 1 312 rfl dX8_make_310 rfl ?_
                                  have er := Option.some.inj hf
                                  obtain ⟨e1, e2⟩ := Prod.mk.inj er
                                  subst e1
                                  subst e2
                                  exact V_iret hQ rfl dX8_make_312
                                · rw [if_pos c92] at hf
                                  refine V_aload_n 4 196 rfl dX8_make_195 rfl rfl ?_
                                  refine V_ldc (-1000004) 198 dX8_make_196 rfl wd_kk_X8_82 ?_
                                  obtain ⟨p100, h99, hf⟩ := ob hf
                                  refine V_callV (rest := []) (T := TX8) (n := 27) (ci := 7) 0 0 201 [.int p100.1] (c_X8_finding l G (d + 1) _ _ _ _ _ h99) (by omega) ok_X8_finding okv_X8_finding (gd_X8_finding h99) rfl wd_ml_X8_77 rfl rfl (Nat.le_of_ble_eq_true rfl) rfl rfl (Or.inl ⟨rfl, rfl⟩) dX8_make_198 rfl rfl ?_
                                  have er := Option.some.inj hf
                                  obtain ⟨e1, e2⟩ := Prod.mk.inj er
                                  subst e1
                                  subst e2
                                  exact V_iret hQ rfl dX8_make_201
                              · rw [if_pos c87] at hf
                                refine V_aload_n 4 178 rfl dX8_make_177 rfl rfl ?_
                                refine V_ldc (-1000001) 180 dX8_make_178 rfl wd_kk_X8_76 ?_
                                obtain ⟨p102, h101, hf⟩ := ob hf
                                refine V_callV (rest := []) (T := TX8) (n := 27) (ci := 7) 0 0 183 [.int p102.1] (c_X8_finding l G (d + 1) _ _ _ _ _ h101) (by omega) ok_X8_finding okv_X8_finding (gd_X8_finding h101) rfl wd_ml_X8_77 rfl rfl (Nat.le_of_ble_eq_true rfl) rfl rfl (Or.inl ⟨rfl, rfl⟩) dX8_make_180 rfl rfl ?_
                                have er := Option.some.inj hf
                                obtain ⟨e1, e2⟩ := Prod.mk.inj er
                                subst e1
                                subst e2
                                exact V_iret hQ rfl dX8_make_183
                            refine V_icmp_lt 169 148 dX8_make_145 (by decide) rfl (fun c104 => ?_) (fun c104 => ?_)
                            · refine V_iconst 0 170 dX8_make_169 rfl kiconst_0 ?_
                              refine V_ls [(9, .int (if v38 = 0 then 0 else 1 : Int32)), (8, .int (irm a4 100)), (7, .int (a4 / 100)), (6, .int (irm a0 100)), (0, .ref t), (1, .int a0), (2, .int a1), (3, .int a2), (4, .int a3), (5, .int a4)] [0, 1, 2, 3, 4, 5, 6, 7, 8, 9] rfl ?_
                              simp only [if_pos c104] at kj103
                              exact kj103
                            · refine V_goto 165 dX8_make_148 (by decide) ?_
                              refine V_iconst 1 166 dX8_make_165 rfl kiconst_1 ?_
                              refine V_goto 170 dX8_make_166 (by decide) ?_
                              refine V_ls [(9, .int (if v38 = 0 then 0 else 1 : Int32)), (8, .int (irm a4 100)), (7, .int (a4 / 100)), (6, .int (irm a0 100)), (0, .ref t), (1, .int a0), (2, .int a1), (3, .int a2), (4, .int a3), (5, .int a4)] [0, 1, 2, 3, 4, 5, 6, 7, 8, 9] rfl ?_
                              simp only [if_neg c104] at kj103
                              exact kj103
                    refine V_if_eq 112 108 dX8_make_105 (by decide) rfl (fun c106 => ?_) (fun c106 => ?_)
                    · refine V_iconst 0 113 dX8_make_112 rfl kiconst_0 ?_
                      refine V_ls [(8, .int (irm a4 100)), (7, .int (a4 / 100)), (6, .int (irm a0 100)), (0, .ref t), (1, .int a0), (2, .int a1), (3, .int a2), (4, .int a3), (5, .int a4)] [0, 1, 2, 3, 4, 5, 6, 7, 8] rfl ?_
                      simp only [if_pos c106] at kj105
                      exact kj105
                    · refine V_iconst 1 109 dX8_make_108 rfl kiconst_1 ?_
                      refine V_goto 113 dX8_make_109 (by decide) ?_
                      refine V_ls [(8, .int (irm a4 100)), (7, .int (a4 / 100)), (6, .int (irm a0 100)), (0, .ref t), (1, .int a0), (2, .int a1), (3, .int a2), (4, .int a3), (5, .int a4)] [0, 1, 2, 3, 4, 5, 6, 7, 8] rfl ?_
                      simp only [if_neg c106] at kj105
                      exact kj105
  · rw [if_neg hg] at hf
    cases hf
abbrev mi_X8_curveIs : MI := (yX8_curveIs, cX8_curveIs, 3, some .int)
theorem ok_X8_curveIs : OkN mi_X8_curveIs 2 := ⟨wd_cd_X8_curveIs, wd_in_X8, ⟨by decide +kernel, by decide +kernel, by decide +kernel⟩, by decide⟩
theorem okv_X8_curveIs : Cond.instanceMethod (mi_X8_curveIs).1 ∈ tb ∧ Cond.selects (mi_X8_curveIs).1.cls (mi_X8_curveIs).1 (mi_X8_curveIs).1 ∈ tb := ⟨wd_im_X8_curveIs, wd_se_X8_curveIs⟩
def f_X8_curveIs (σ : St) (t : Nat) (a0 : Int32) (a1 : Int32) : Option (Int32 × St) := if isO σ 7 t = true then ((f_X8_is σ t a0 1).bind fun v2 => if v2 = 0 then ((f_X8_finding σ t (-1000001)).bind fun p5 => some (p5.1, p5.2)) else ((f_X8_within σ a1 0 4).bind fun v7 => if v7 = 0 then ((f_X8_finding σ t (-1000001)).bind fun p10 => some (p10.1, p10.2)) else ((f_X8_curve σ t a0 a1).bind fun v12 => some (v12, σ)))) else none
theorem gd_X8_curveIs {σ : St} {t : Nat} {a0 : Int32} {a1 : Int32} {r : Int32 × St} (h : f_X8_curveIs σ t a0 a1 = some r) : isO σ 7 t = true := by
  unfold f_X8_curveIs at h
  by_cases hg : isO σ 7 t = true
  · exact hg
  · rw [if_neg hg] at h
    cases h
set_option maxRecDepth 100000 in
set_option maxHeartbeats 4000000 in
theorem c_X8_curveIs (l : Launch) (G : Gd) (d : Nat) (σ : St) (t : Nat) (a0 : Int32) (a1 : Int32) (r0 : Int32) (σ' : St) (hf : f_X8_curveIs σ t a0 a1 = some (r0, σ')) : MetV l G (d + 3) mi_X8_curveIs [.ref t, .int a0, .int a1] σ (some (.int r0)) σ' 0 0 := by
  unfold f_X8_curveIs at hf
  refine MetV.of [(0, .ref t), (1, .int a0), (2, .int a1)] (by decide +kernel) rfl (Nat.le_of_ble_eq_true rfl) ?_
  intro X hQ
  by_cases hg : isO σ 7 t = true
  · rw [if_pos hg] at hf
    refine V_aload_n 0 1 rfl dX8_curveIs_0 rfl rfl ?_
    refine V_iload_n 1 2 rfl dX8_curveIs_1 rfl rfl ?_
    refine V_iconst 1 3 dX8_curveIs_2 rfl kiconst_1 ?_
    obtain ⟨v2, h1, hf⟩ := ob hf
    refine V_callV (rest := []) (T := TX8) (n := 27) (ci := 7) 0 0 6 [.int v2] (c_X8_is l G (d + 0) _ _ _ _ _ h1) (by omega) ok_X8_is okv_X8_is (gd_X8_is h1) rfl wd_ml_X8_83 rfl rfl (Nat.le_of_ble_eq_true rfl) rfl rfl (Or.inl ⟨rfl, rfl⟩) dX8_curveIs_3 rfl rfl ?_
    refine V_if_eq 27 9 dX8_curveIs_6 (by decide) rfl (fun c3 => ?_) (fun c3 => ?_)
    · rw [if_pos c3] at hf
      refine V_aload_n 0 28 rfl dX8_curveIs_27 rfl rfl ?_
      refine V_ldc (-1000001) 30 dX8_curveIs_28 rfl wd_kk_X8_76 ?_
      obtain ⟨p5, h4, hf⟩ := ob hf
      refine V_callV (rest := []) (T := TX8) (n := 27) (ci := 7) 0 0 33 [.int p5.1] (c_X8_finding l G (d + 1) _ _ _ _ _ h4) (by omega) ok_X8_finding okv_X8_finding (gd_X8_finding h4) rfl wd_ml_X8_77 rfl rfl (Nat.le_of_ble_eq_true rfl) rfl rfl (Or.inl ⟨rfl, rfl⟩) dX8_curveIs_30 rfl rfl ?_
      have er := Option.some.inj hf
      obtain ⟨e1, e2⟩ := Prod.mk.inj er
      subst e1
      subst e2
      exact V_iret hQ rfl dX8_curveIs_33
    · rw [if_neg c3] at hf
      refine V_iload_n 2 10 rfl dX8_curveIs_9 rfl rfl ?_
      refine V_iconst 0 11 dX8_curveIs_10 rfl kiconst_0 ?_
      refine V_iconst 4 12 dX8_curveIs_11 rfl kiconst_4 ?_
      obtain ⟨v7, h6, hf⟩ := ob hf
      refine V_callS (rest := []) 0 0 15 [.int v7] (c_X8_within l G (d + 1) _ _ _ _ _ h6) (by omega) ok_X8_within oks_X8_within wd_ml_X8_68 rfl rfl (Nat.le_of_ble_eq_true rfl) rfl rfl (Or.inl ⟨rfl, rfl⟩) dX8_curveIs_12 rfl rfl ?_
      refine V_if_eq 27 18 dX8_curveIs_15 (by decide) rfl (fun c8 => ?_) (fun c8 => ?_)
      · rw [if_pos c8] at hf
        refine V_aload_n 0 28 rfl dX8_curveIs_27 rfl rfl ?_
        refine V_ldc (-1000001) 30 dX8_curveIs_28 rfl wd_kk_X8_76 ?_
        obtain ⟨p10, h9, hf⟩ := ob hf
        refine V_callV (rest := []) (T := TX8) (n := 27) (ci := 7) 0 0 33 [.int p10.1] (c_X8_finding l G (d + 1) _ _ _ _ _ h9) (by omega) ok_X8_finding okv_X8_finding (gd_X8_finding h9) rfl wd_ml_X8_77 rfl rfl (Nat.le_of_ble_eq_true rfl) rfl rfl (Or.inl ⟨rfl, rfl⟩) dX8_curveIs_30 rfl rfl ?_
        have er := Option.some.inj hf
        obtain ⟨e1, e2⟩ := Prod.mk.inj er
        subst e1
        subst e2
        exact V_iret hQ rfl dX8_curveIs_33
      · rw [if_neg c8] at hf
        refine V_aload_n 0 19 rfl dX8_curveIs_18 rfl rfl ?_
        refine V_iload_n 1 20 rfl dX8_curveIs_19 rfl rfl ?_
        refine V_iload_n 2 21 rfl dX8_curveIs_20 rfl rfl ?_
        obtain ⟨v12, h11, hf⟩ := ob hf
        refine V_callV (rest := []) (T := TX8) (n := 27) (ci := 7) 0 0 24 [.int v12] (c_X8_curve l G (d + 1) _ _ _ _ _ h11) (by omega) ok_X8_curve okv_X8_curve (gd_X8_curve h11) rfl wd_ml_X8_87 rfl rfl (Nat.le_of_ble_eq_true rfl) rfl rfl (Or.inl ⟨rfl, rfl⟩) dX8_curveIs_21 rfl rfl ?_
        refine V_goto 33 dX8_curveIs_24 (by decide) ?_
        have er := Option.some.inj hf
        obtain ⟨e1, e2⟩ := Prod.mk.inj er
        subst e1
        subst e2
        exact V_iret hQ rfl dX8_curveIs_33
  · rw [if_neg hg] at hf
    cases hf
abbrev mi_X8_above : MI := (yX8_above, cX8_above, 1, some .int)
theorem ok_X8_above : OkN mi_X8_above 1 := ⟨wd_cd_X8_above, wd_in_X8, ⟨by decide +kernel, by decide +kernel, by decide +kernel⟩, by decide⟩
theorem oks_X8_above : Cond.static (mi_X8_above).1 ∈ tb := wd_sm_X8_above
def f_X8_above (σ : St) (a0 : Int32) : Option Int32 := some (if a0 = 0 then (-1) else (if a0 = 2 then 1 else (if a0 = 6 then 1 else (if a0 = 5 then 3 else (if a0 = 7 then 4 else 0)))) : Int32)
set_option maxRecDepth 100000 in
set_option maxHeartbeats 4000000 in
theorem c_X8_above (l : Launch) (G : Gd) (d : Nat) (σ : St) (a0 : Int32) (r0 : Int32) (hf : f_X8_above σ a0 = some r0) : MetV l G (d + 1) mi_X8_above [.int a0] σ (some (.int r0)) σ 0 0 := by
  unfold f_X8_above at hf
  refine MetV.of [(0, .int a0)] (by decide +kernel) rfl (Nat.le_of_ble_eq_true rfl) ?_
  intro X hQ
  refine V_iload_n 0 1 rfl dX8_above_0 rfl rfl ?_
  have kj1 : V mi_X8_above l G (d + 1) 0 0 X 0 0 43 [(0, .int a0)] [.int (if a0 = 0 then (-1) else (if a0 = 2 then 1 else (if a0 = 6 then 1 else (if a0 = 5 then 3 else (if a0 = 7 then 4 else 0)))) : Int32)] σ := by
    have er := Option.some.inj hf
    subst er
    exact V_iret hQ rfl dX8_above_43
  refine V_if_ne 8 4 dX8_above_1 (by decide) rfl (fun c2 => ?_) (fun c2 => ?_)
  · refine V_iload_n 0 9 rfl dX8_above_8 rfl rfl ?_
    refine V_iconst 2 10 dX8_above_9 rfl kiconst_2 ?_
    refine V_icmp_eq 19 13 dX8_above_10 (by decide) rfl (fun c3 => ?_) (fun c3 => ?_)
    · refine V_iconst 1 20 dX8_above_19 rfl kiconst_1 ?_
      refine V_goto 43 dX8_above_20 (by decide) ?_
      refine V_ls [(0, .int a0)] [0] rfl ?_
      simp only [if_neg c2, if_pos c3] at kj1
      exact kj1
    · refine V_iload_n 0 14 rfl dX8_above_13 rfl rfl ?_
      refine V_bipush 6 16 dX8_above_14 rfl kbipush_6 ?_
      refine V_icmp_ne 23 19 dX8_above_16 (by decide) rfl (fun c4 => ?_) (fun c4 => ?_)
      · refine V_iload_n 0 24 rfl dX8_above_23 rfl rfl ?_
        refine V_iconst 5 25 dX8_above_24 rfl kiconst_5 ?_
        refine V_icmp_ne 32 28 dX8_above_25 (by decide) rfl (fun c5 => ?_) (fun c5 => ?_)
        · refine V_iload_n 0 33 rfl dX8_above_32 rfl rfl ?_
          refine V_bipush 7 35 dX8_above_33 rfl kbipush_7 ?_
          refine V_icmp_ne 42 38 dX8_above_35 (by decide) rfl (fun c6 => ?_) (fun c6 => ?_)
          · refine V_iconst 0 43 dX8_above_42 rfl kiconst_0 ?_
            refine V_ls [(0, .int a0)] [0] rfl ?_
            simp only [if_neg c2, if_neg c3, if_neg c4, if_neg c5, if_neg c6] at kj1
            exact kj1
          · refine V_iconst 4 39 dX8_above_38 rfl kiconst_4 ?_
            refine V_goto 43 dX8_above_39 (by decide) ?_
            refine V_ls [(0, .int a0)] [0] rfl ?_
            simp only [if_neg c2, if_neg c3, if_neg c4, if_neg c5, if_pos c6] at kj1
            exact kj1
        · refine V_iconst 3 29 dX8_above_28 rfl kiconst_3 ?_
          refine V_goto 43 dX8_above_29 (by decide) ?_
          refine V_ls [(0, .int a0)] [0] rfl ?_
          simp only [if_neg c2, if_neg c3, if_neg c4, if_pos c5] at kj1
          exact kj1
      · refine V_iconst 1 20 dX8_above_19 rfl kiconst_1 ?_
        refine V_goto 43 dX8_above_20 (by decide) ?_
        refine V_ls [(0, .int a0)] [0] rfl ?_
        simp only [if_neg c2, if_neg c3, if_pos c4] at kj1
        exact kj1
  · refine V_iconst (-1) 5 dX8_above_4 rfl kiconst_m1 ?_
    refine V_goto 43 dX8_above_5 (by decide) ?_
    refine V_ls [(0, .int a0)] [0] rfl ?_
    simp only [if_pos c2] at kj1
    exact kj1
abbrev mi_X8_as : MI := (yX8_as, cX8_as, 4, some .int)
theorem ok_X8_as : OkN mi_X8_as 2 := ⟨wd_cd_X8_as, wd_in_X8, ⟨by decide +kernel, by decide +kernel, by decide +kernel⟩, by decide⟩
theorem okv_X8_as : Cond.instanceMethod (mi_X8_as).1 ∈ tb ∧ Cond.selects (mi_X8_as).1.cls (mi_X8_as).1 (mi_X8_as).1 ∈ tb := ⟨wd_im_X8_as, wd_se_X8_as⟩
def f_X8_as_L33 (σ : St) (x2 : Int32) : Nat → Int32 → Option (Int32)
  | 0, _ => none
  | n + 1, x3 => if x3 < 0 then (some x3) else (if x3 = x2 then (some x3) else ((f_X8_above σ x3).bind fun v14 => f_X8_as_L33 σ x2 n v14))
def f_X8_as (σ : St) (t : Nat) (a0 : Int32) (a1 : Int32) : Option (Int32 × St) := if isO σ 7 t = true then ((f_X8_is σ t a0 1).bind fun v2 => if v2 = 0 then ((f_X8_finding σ t (-1000001)).bind fun p5 => some (p5.1, p5.2)) else ((f_X8_within σ a1 0 7).bind fun v7 => if v7 = 0 then ((f_X8_finding σ t (-1000001)).bind fun p23 => some (p23.1, p23.2)) else ((f_X8_curve σ t a0 0).bind fun v10 => (f_X8_as_L33 σ a1 3000 v10).bind fun p15 => if 0 ≤ p15 then ((f_X8_many σ t a0).bind fun v19 => some (v19, σ)) else ((f_X8_finding σ t (-1000005)).bind fun p21 => some (p21.1, p21.2))))) else none
theorem gd_X8_as {σ : St} {t : Nat} {a0 : Int32} {a1 : Int32} {r : Int32 × St} (h : f_X8_as σ t a0 a1 = some r) : isO σ 7 t = true := by
  unfold f_X8_as at h
  by_cases hg : isO σ 7 t = true
  · exact hg
  · rw [if_neg hg] at h
    cases h
set_option maxRecDepth 100000 in
set_option maxHeartbeats 4000000 in
theorem c_X8_as (l : Launch) (G : Gd) (d : Nat) (σ : St) (t : Nat) (a0 : Int32) (a1 : Int32) (r0 : Int32) (σ' : St) (hf : f_X8_as σ t a0 a1 = some (r0, σ')) : MetV l G (d + 3) mi_X8_as [.ref t, .int a0, .int a1] σ (some (.int r0)) σ' 0 0 := by
  unfold f_X8_as at hf
  refine MetV.of [(0, .ref t), (1, .int a0), (2, .int a1)] (by decide +kernel) rfl (Nat.le_of_ble_eq_true rfl) ?_
  intro X hQ
  have L33 : ∀ (σ : St) (x1 : Int32) (x2 : Int32) (n : Nat) (x3 : Int32) (p : Int32), f_X8_as_L33 σ x2 n x3 = some p → V mi_X8_as l G (d + 3) 0 0 X 0 0 50 [(3, .int p), (0, .ref t), (1, .int x1), (2, .int x2)] [] σ → V mi_X8_as l G (d + 3) 0 0 X 0 0 33 [(3, .int x3), (0, .ref t), (1, .int x1), (2, .int x2)] [] σ := by
    intro σ x1 x2 n
    induction n with
    | zero =>
      intro x3 p hf
      exact absurd (show (none : Option _) = some p from hf) (by simp)
    | succ n ih =>
      intro x3 p hf hk
      rw [f_X8_as_L33] at hf
      refine V_iload_n 0 34 rfl dX8_as_33 rfl rfl ?_
      refine V_if_lt 50 37 dX8_as_34 (by decide) rfl (fun c11 => ?_) (fun c11 => ?_)
      · rw [if_pos c11] at hf
        have ep := Option.some.inj hf
        subst ep
        refine V_ls [(3, .int x3), (0, .ref t), (1, .int x1), (2, .int x2)] [0, 1, 2, 3] rfl ?_
        exact hk
      · rw [if_neg c11] at hf
        refine V_iload_n 0 38 rfl dX8_as_37 rfl rfl ?_
        refine V_iload_n 3 39 rfl dX8_as_38 rfl rfl ?_
        refine V_icmp_eq 50 42 dX8_as_39 (by decide) rfl (fun c12 => ?_) (fun c12 => ?_)
        · rw [if_pos c12] at hf
          have ep := Option.some.inj hf
          subst ep
          refine V_ls [(3, .int x3), (0, .ref t), (1, .int x1), (2, .int x2)] [0, 1, 2, 3] rfl ?_
          exact hk
        · rw [if_neg c12] at hf
          refine V_iload_n 0 43 rfl dX8_as_42 rfl rfl ?_
          obtain ⟨v14, h13, hf⟩ := ob hf
          refine V_callS (rest := []) 0 0 46 [.int v14] (c_X8_above l G (d + 1) _ _ _ h13) (by omega) ok_X8_above oks_X8_above wd_ml_X8_143 rfl rfl (Nat.le_of_ble_eq_true rfl) rfl rfl (Or.inl ⟨rfl, rfl⟩) dX8_as_43 rfl rfl ?_
          refine V_istore_n [(3, .int v14), (0, .ref t), (1, .int x1), (2, .int x2)] 47 dX8_as_46 rfl (by decide) rfl rfl ?_
          refine V_goto 33 dX8_as_47 (by decide) ?_
          refine V_ls [(3, .int v14), (0, .ref t), (1, .int x1), (2, .int x2)] [0, 1, 2, 3] rfl ?_
          exact ih _ _ hf hk
  by_cases hg : isO σ 7 t = true
  · rw [if_pos hg] at hf
    refine V_aload_n 0 1 rfl dX8_as_0 rfl rfl ?_
    refine V_iload_n 1 2 rfl dX8_as_1 rfl rfl ?_
    refine V_iconst 1 3 dX8_as_2 rfl kiconst_1 ?_
    obtain ⟨v2, h1, hf⟩ := ob hf
    refine V_callV (rest := []) (T := TX8) (n := 27) (ci := 7) 0 0 6 [.int v2] (c_X8_is l G (d + 0) _ _ _ _ _ h1) (by omega) ok_X8_is okv_X8_is (gd_X8_is h1) rfl wd_ml_X8_83 rfl rfl (Nat.le_of_ble_eq_true rfl) rfl rfl (Or.inl ⟨rfl, rfl⟩) dX8_as_3 rfl rfl ?_
    refine V_if_eq 19 9 dX8_as_6 (by decide) rfl (fun c3 => ?_) (fun c3 => ?_)
    · rw [if_pos c3] at hf
      refine V_aload_n 0 20 rfl dX8_as_19 rfl rfl ?_
      refine V_ldc (-1000001) 22 dX8_as_20 rfl wd_kk_X8_76 ?_
      obtain ⟨p5, h4, hf⟩ := ob hf
      refine V_callV (rest := []) (T := TX8) (n := 27) (ci := 7) 0 0 25 [.int p5.1] (c_X8_finding l G (d + 1) _ _ _ _ _ h4) (by omega) ok_X8_finding okv_X8_finding (gd_X8_finding h4) rfl wd_ml_X8_77 rfl rfl (Nat.le_of_ble_eq_true rfl) rfl rfl (Or.inl ⟨rfl, rfl⟩) dX8_as_22 rfl rfl ?_
      have er := Option.some.inj hf
      obtain ⟨e1, e2⟩ := Prod.mk.inj er
      subst e1
      subst e2
      exact V_iret hQ rfl dX8_as_25
    · rw [if_neg c3] at hf
      refine V_iload_n 2 10 rfl dX8_as_9 rfl rfl ?_
      refine V_iconst 0 11 dX8_as_10 rfl kiconst_0 ?_
      refine V_bipush 7 13 dX8_as_11 rfl kbipush_7 ?_
      obtain ⟨v7, h6, hf⟩ := ob hf
      refine V_callS (rest := []) 0 0 16 [.int v7] (c_X8_within l G (d + 1) _ _ _ _ _ h6) (by omega) ok_X8_within oks_X8_within wd_ml_X8_68 rfl rfl (Nat.le_of_ble_eq_true rfl) rfl rfl (Or.inl ⟨rfl, rfl⟩) dX8_as_13 rfl rfl ?_
      refine V_if_ne 26 19 dX8_as_16 (by decide) rfl (fun c8 => ?_) (fun c8 => ?_)
      · rw [if_neg c8] at hf
        refine V_aload_n 0 27 rfl dX8_as_26 rfl rfl ?_
        refine V_iload_n 1 28 rfl dX8_as_27 rfl rfl ?_
        refine V_iconst 0 29 dX8_as_28 rfl kiconst_0 ?_
        obtain ⟨v10, h9, hf⟩ := ob hf
        refine V_callV (rest := []) (T := TX8) (n := 27) (ci := 7) 0 0 32 [.int v10] (c_X8_curve l G (d + 1) _ _ _ _ _ h9) (by omega) ok_X8_curve okv_X8_curve (gd_X8_curve h9) rfl wd_ml_X8_87 rfl rfl (Nat.le_of_ble_eq_true rfl) rfl rfl (Or.inl ⟨rfl, rfl⟩) dX8_as_29 rfl rfl ?_
        refine V_istore_n [(3, .int v10), (0, .ref t), (1, .int a0), (2, .int a1)] 33 dX8_as_32 rfl (by decide) rfl rfl ?_
        obtain ⟨p15, h16, hf⟩ := ob hf
        refine V_ls [(3, .int v10), (0, .ref t), (1, .int a0), (2, .int a1)] [0, 1, 2, 3] rfl ?_
        refine L33 σ a0 a1 3000 v10 p15 h16 ?_
        refine V_iload_n 0 51 rfl dX8_as_50 rfl rfl ?_
        refine V_if_ge 63 54 dX8_as_51 (by decide) rfl (fun c17 => ?_) (fun c17 => ?_)
        · rw [if_pos c17] at hf
          refine V_aload_n 1 64 rfl dX8_as_63 rfl rfl ?_
          refine V_iload_n 2 65 rfl dX8_as_64 rfl rfl ?_
          obtain ⟨v19, h18, hf⟩ := ob hf
          refine V_callV (rest := []) (T := TX8) (n := 27) (ci := 7) 0 0 68 [.int v19] (c_X8_many l G (d + 0) _ _ _ _ h18) (by omega) ok_X8_many okv_X8_many (gd_X8_many h18) rfl wd_ml_X8_134 rfl rfl (Nat.le_of_ble_eq_true rfl) rfl rfl (Or.inl ⟨rfl, rfl⟩) dX8_as_65 rfl rfl ?_
          have er := Option.some.inj hf
          obtain ⟨e1, e2⟩ := Prod.mk.inj er
          subst e1
          subst e2
          exact V_iret hQ rfl dX8_as_68
        · rw [if_neg c17] at hf
          refine V_aload_n 1 55 rfl dX8_as_54 rfl rfl ?_
          refine V_ldc (-1000005) 57 dX8_as_55 rfl wd_kk_X8_146 ?_
          obtain ⟨p21, h20, hf⟩ := ob hf
          refine V_callV (rest := []) (T := TX8) (n := 27) (ci := 7) 0 0 60 [.int p21.1] (c_X8_finding l G (d + 1) _ _ _ _ _ h20) (by omega) ok_X8_finding okv_X8_finding (gd_X8_finding h20) rfl wd_ml_X8_77 rfl rfl (Nat.le_of_ble_eq_true rfl) rfl rfl (Or.inl ⟨rfl, rfl⟩) dX8_as_57 rfl rfl ?_
          refine V_goto 68 dX8_as_60 (by decide) ?_
          have er := Option.some.inj hf
          obtain ⟨e1, e2⟩ := Prod.mk.inj er
          subst e1
          subst e2
          exact V_iret hQ rfl dX8_as_68
      · rw [if_pos c8] at hf
        refine V_aload_n 0 20 rfl dX8_as_19 rfl rfl ?_
        refine V_ldc (-1000001) 22 dX8_as_20 rfl wd_kk_X8_76 ?_
        obtain ⟨p23, h22, hf⟩ := ob hf
        refine V_callV (rest := []) (T := TX8) (n := 27) (ci := 7) 0 0 25 [.int p23.1] (c_X8_finding l G (d + 1) _ _ _ _ _ h22) (by omega) ok_X8_finding okv_X8_finding (gd_X8_finding h22) rfl wd_ml_X8_77 rfl rfl (Nat.le_of_ble_eq_true rfl) rfl rfl (Or.inl ⟨rfl, rfl⟩) dX8_as_22 rfl rfl ?_
        have er := Option.some.inj hf
        obtain ⟨e1, e2⟩ := Prod.mk.inj er
        subst e1
        subst e2
        exact V_iret hQ rfl dX8_as_25
  · rw [if_neg hg] at hf
    cases hf
abbrev mi_X8_point : MI := (yX8_point, cX8_point, 3, some .int)
theorem ok_X8_point : OkN mi_X8_point 2 := ⟨wd_cd_X8_point, wd_in_X8, ⟨by decide +kernel, by decide +kernel, by decide +kernel⟩, by decide⟩
theorem okv_X8_point : Cond.instanceMethod (mi_X8_point).1 ∈ tb ∧ Cond.selects (mi_X8_point).1.cls (mi_X8_point).1 (mi_X8_point).1 ∈ tb := ⟨wd_im_X8_point, wd_se_X8_point⟩
def f_X8_point (σ : St) (t : Nat) (a0 : Int32) (a1 : Int32) : Option (Int32 × St) := if isO σ 7 t = true then ((f_X8_is σ t a0 1).bind fun v2 => if v2 = 0 then ((f_X8_finding σ t (-1000001)).bind fun p5 => some (p5.1, p5.2)) else ((f_X8_many σ t a0).bind fun v7 => (f_X8_within σ a1 0 (v7 - 1)).bind fun v9 => if v9 = 0 then ((f_X8_finding σ t (-1000001)).bind fun p12 => some (p12.1, p12.2)) else ((f_X8_dot σ t a0 a1).bind fun v14 => some (v14, σ)))) else none
theorem gd_X8_point {σ : St} {t : Nat} {a0 : Int32} {a1 : Int32} {r : Int32 × St} (h : f_X8_point σ t a0 a1 = some r) : isO σ 7 t = true := by
  unfold f_X8_point at h
  by_cases hg : isO σ 7 t = true
  · exact hg
  · rw [if_neg hg] at h
    cases h
set_option maxRecDepth 100000 in
set_option maxHeartbeats 4000000 in
theorem c_X8_point (l : Launch) (G : Gd) (d : Nat) (σ : St) (t : Nat) (a0 : Int32) (a1 : Int32) (r0 : Int32) (σ' : St) (hf : f_X8_point σ t a0 a1 = some (r0, σ')) : MetV l G (d + 3) mi_X8_point [.ref t, .int a0, .int a1] σ (some (.int r0)) σ' 0 0 := by
  unfold f_X8_point at hf
  refine MetV.of [(0, .ref t), (1, .int a0), (2, .int a1)] (by decide +kernel) rfl (Nat.le_of_ble_eq_true rfl) ?_
  intro X hQ
  by_cases hg : isO σ 7 t = true
  · rw [if_pos hg] at hf
    refine V_aload_n 0 1 rfl dX8_point_0 rfl rfl ?_
    refine V_iload_n 1 2 rfl dX8_point_1 rfl rfl ?_
    refine V_iconst 1 3 dX8_point_2 rfl kiconst_1 ?_
    obtain ⟨v2, h1, hf⟩ := ob hf
    refine V_callV (rest := []) (T := TX8) (n := 27) (ci := 7) 0 0 6 [.int v2] (c_X8_is l G (d + 0) _ _ _ _ _ h1) (by omega) ok_X8_is okv_X8_is (gd_X8_is h1) rfl wd_ml_X8_83 rfl rfl (Nat.le_of_ble_eq_true rfl) rfl rfl (Or.inl ⟨rfl, rfl⟩) dX8_point_3 rfl rfl ?_
    refine V_if_eq 33 9 dX8_point_6 (by decide) rfl (fun c3 => ?_) (fun c3 => ?_)
    · rw [if_pos c3] at hf
      refine V_aload_n 0 34 rfl dX8_point_33 rfl rfl ?_
      refine V_ldc (-1000001) 36 dX8_point_34 rfl wd_kk_X8_76 ?_
      obtain ⟨p5, h4, hf⟩ := ob hf
      refine V_callV (rest := []) (T := TX8) (n := 27) (ci := 7) 0 0 39 [.int p5.1] (c_X8_finding l G (d + 1) _ _ _ _ _ h4) (by omega) ok_X8_finding okv_X8_finding (gd_X8_finding h4) rfl wd_ml_X8_77 rfl rfl (Nat.le_of_ble_eq_true rfl) rfl rfl (Or.inl ⟨rfl, rfl⟩) dX8_point_36 rfl rfl ?_
      have er := Option.some.inj hf
      obtain ⟨e1, e2⟩ := Prod.mk.inj er
      subst e1
      subst e2
      exact V_iret hQ rfl dX8_point_39
    · rw [if_neg c3] at hf
      refine V_iload_n 2 10 rfl dX8_point_9 rfl rfl ?_
      refine V_iconst 0 11 dX8_point_10 rfl kiconst_0 ?_
      refine V_aload_n 0 12 rfl dX8_point_11 rfl rfl ?_
      refine V_iload_n 1 13 rfl dX8_point_12 rfl rfl ?_
      obtain ⟨v7, h6, hf⟩ := ob hf
      refine V_callV (rest := [.int 0, .int a1]) (T := TX8) (n := 27) (ci := 7) 0 0 16 [.int v7, .int 0, .int a1] (c_X8_many l G (d + 0) _ _ _ _ h6) (by omega) ok_X8_many okv_X8_many (gd_X8_many h6) rfl wd_ml_X8_134 rfl rfl (Nat.le_of_ble_eq_true rfl) rfl rfl (Or.inl ⟨rfl, rfl⟩) dX8_point_13 rfl rfl ?_
      refine V_iconst 1 17 dX8_point_16 rfl kiconst_1 ?_
      refine V_isub 18 dX8_point_17 rfl ?_
      obtain ⟨v9, h8, hf⟩ := ob hf
      refine V_callS (rest := []) 0 0 21 [.int v9] (c_X8_within l G (d + 1) _ _ _ _ _ h8) (by omega) ok_X8_within oks_X8_within wd_ml_X8_68 rfl rfl (Nat.le_of_ble_eq_true rfl) rfl rfl (Or.inl ⟨rfl, rfl⟩) dX8_point_18 rfl rfl ?_
      refine V_if_eq 33 24 dX8_point_21 (by decide) rfl (fun c10 => ?_) (fun c10 => ?_)
      · rw [if_pos c10] at hf
        refine V_aload_n 0 34 rfl dX8_point_33 rfl rfl ?_
        refine V_ldc (-1000001) 36 dX8_point_34 rfl wd_kk_X8_76 ?_
        obtain ⟨p12, h11, hf⟩ := ob hf
        refine V_callV (rest := []) (T := TX8) (n := 27) (ci := 7) 0 0 39 [.int p12.1] (c_X8_finding l G (d + 1) _ _ _ _ _ h11) (by omega) ok_X8_finding okv_X8_finding (gd_X8_finding h11) rfl wd_ml_X8_77 rfl rfl (Nat.le_of_ble_eq_true rfl) rfl rfl (Or.inl ⟨rfl, rfl⟩) dX8_point_36 rfl rfl ?_
        have er := Option.some.inj hf
        obtain ⟨e1, e2⟩ := Prod.mk.inj er
        subst e1
        subst e2
        exact V_iret hQ rfl dX8_point_39
      · rw [if_neg c10] at hf
        refine V_aload_n 0 25 rfl dX8_point_24 rfl rfl ?_
        refine V_iload_n 1 26 rfl dX8_point_25 rfl rfl ?_
        refine V_iload_n 2 27 rfl dX8_point_26 rfl rfl ?_
        obtain ⟨v14, h13, hf⟩ := ob hf
        refine V_callV (rest := []) (T := TX8) (n := 27) (ci := 7) 0 0 30 [.int v14] (c_X8_dot l G (d + 0) _ _ _ _ _ h13) (by omega) ok_X8_dot okv_X8_dot (gd_X8_dot h13) rfl wd_ml_X8_140 rfl rfl (Nat.le_of_ble_eq_true rfl) rfl rfl (Or.inl ⟨rfl, rfl⟩) dX8_point_27 rfl rfl ?_
        refine V_goto 39 dX8_point_30 (by decide) ?_
        have er := Option.some.inj hf
        obtain ⟨e1, e2⟩ := Prod.mk.inj er
        subst e1
        subst e2
        exact V_iret hQ rfl dX8_point_39
  · rw [if_neg hg] at hf
    cases hf
abbrev mi_X8_hairOf : MI := (yX8_hairOf, cX8_hairOf, 3, some .int)
theorem ok_X8_hairOf : OkN mi_X8_hairOf 2 := ⟨wd_cd_X8_hairOf, wd_in_X8, ⟨by decide +kernel, by decide +kernel, by decide +kernel⟩, by decide⟩
theorem okv_X8_hairOf : Cond.instanceMethod (mi_X8_hairOf).1 ∈ tb ∧ Cond.selects (mi_X8_hairOf).1.cls (mi_X8_hairOf).1 (mi_X8_hairOf).1 ∈ tb := ⟨wd_im_X8_hairOf, wd_se_X8_hairOf⟩
def f_X8_hairOf (σ : St) (t : Nat) (a0 : Int32) (a1 : Int32) : Option Int32 := if isO σ 7 t = true then ((f_X8_dot σ t a0 (a1 - 1)).bind fun v2 => (f_X8_dot σ t a0 (a1 + 1)).bind fun v4 => (f_X8_dot σ t a0 a1).bind fun v6 => some ((v2 + v4) - ((2 : Int32) * v6))) else none
theorem gd_X8_hairOf {σ : St} {t : Nat} {a0 : Int32} {a1 : Int32} {r : Int32} (h : f_X8_hairOf σ t a0 a1 = some r) : isO σ 7 t = true := by
  unfold f_X8_hairOf at h
  by_cases hg : isO σ 7 t = true
  · exact hg
  · rw [if_neg hg] at h
    cases h
set_option maxRecDepth 100000 in
set_option maxHeartbeats 4000000 in
theorem c_X8_hairOf (l : Launch) (G : Gd) (d : Nat) (σ : St) (t : Nat) (a0 : Int32) (a1 : Int32) (r0 : Int32) (hf : f_X8_hairOf σ t a0 a1 = some r0) : MetV l G (d + 3) mi_X8_hairOf [.ref t, .int a0, .int a1] σ (some (.int r0)) σ 0 0 := by
  unfold f_X8_hairOf at hf
  refine MetV.of [(0, .ref t), (1, .int a0), (2, .int a1)] (by decide +kernel) rfl (Nat.le_of_ble_eq_true rfl) ?_
  intro X hQ
  by_cases hg : isO σ 7 t = true
  · rw [if_pos hg] at hf
    refine V_aload_n 0 1 rfl dX8_hairOf_0 rfl rfl ?_
    refine V_iload_n 1 2 rfl dX8_hairOf_1 rfl rfl ?_
    refine V_iload_n 2 3 rfl dX8_hairOf_2 rfl rfl ?_
    refine V_iconst 1 4 dX8_hairOf_3 rfl kiconst_1 ?_
    refine V_isub 5 dX8_hairOf_4 rfl ?_
    obtain ⟨v2, h1, hf⟩ := ob hf
    refine V_callV (rest := []) (T := TX8) (n := 27) (ci := 7) 0 0 8 [.int v2] (c_X8_dot l G (d + 0) _ _ _ _ _ h1) (by omega) ok_X8_dot okv_X8_dot (gd_X8_dot h1) rfl wd_ml_X8_140 rfl rfl (Nat.le_of_ble_eq_true rfl) rfl rfl (Or.inl ⟨rfl, rfl⟩) dX8_hairOf_5 rfl rfl ?_
    refine V_aload_n 0 9 rfl dX8_hairOf_8 rfl rfl ?_
    refine V_iload_n 1 10 rfl dX8_hairOf_9 rfl rfl ?_
    refine V_iload_n 2 11 rfl dX8_hairOf_10 rfl rfl ?_
    refine V_iconst 1 12 dX8_hairOf_11 rfl kiconst_1 ?_
    refine V_iadd 13 dX8_hairOf_12 rfl ?_
    obtain ⟨v4, h3, hf⟩ := ob hf
    refine V_callV (rest := [.int v2]) (T := TX8) (n := 27) (ci := 7) 0 0 16 [.int v4, .int v2] (c_X8_dot l G (d + 0) _ _ _ _ _ h3) (by omega) ok_X8_dot okv_X8_dot (gd_X8_dot h3) rfl wd_ml_X8_140 rfl rfl (Nat.le_of_ble_eq_true rfl) rfl rfl (Or.inl ⟨rfl, rfl⟩) dX8_hairOf_13 rfl rfl ?_
    refine V_iadd 17 dX8_hairOf_16 rfl ?_
    refine V_iconst 2 18 dX8_hairOf_17 rfl kiconst_2 ?_
    refine V_aload_n 0 19 rfl dX8_hairOf_18 rfl rfl ?_
    refine V_iload_n 1 20 rfl dX8_hairOf_19 rfl rfl ?_
    refine V_iload_n 2 21 rfl dX8_hairOf_20 rfl rfl ?_
    obtain ⟨v6, h5, hf⟩ := ob hf
    refine V_callV (rest := [.int 2, .int (v2 + v4)]) (T := TX8) (n := 27) (ci := 7) 0 0 24 [.int v6, .int 2, .int (v2 + v4)] (c_X8_dot l G (d + 0) _ _ _ _ _ h5) (by omega) ok_X8_dot okv_X8_dot (gd_X8_dot h5) rfl wd_ml_X8_140 rfl rfl (Nat.le_of_ble_eq_true rfl) rfl rfl (Or.inl ⟨rfl, rfl⟩) dX8_hairOf_21 rfl rfl ?_
    refine V_imul 25 dX8_hairOf_24 rfl ?_
    refine V_isub 26 dX8_hairOf_25 rfl ?_
    have er := Option.some.inj hf
    subst er
    exact V_iret hQ rfl dX8_hairOf_26
  · rw [if_neg hg] at hf
    cases hf
abbrev mi_X8_hair : MI := (yX8_hair, cX8_hair, 3, some .int)
theorem ok_X8_hair : OkN mi_X8_hair 2 := ⟨wd_cd_X8_hair, wd_in_X8, ⟨by decide +kernel, by decide +kernel, by decide +kernel⟩, by decide⟩
theorem okv_X8_hair : Cond.instanceMethod (mi_X8_hair).1 ∈ tb ∧ Cond.selects (mi_X8_hair).1.cls (mi_X8_hair).1 (mi_X8_hair).1 ∈ tb := ⟨wd_im_X8_hair, wd_se_X8_hair⟩
def f_X8_hair (σ : St) (t : Nat) (a0 : Int32) (a1 : Int32) : Option (Int32 × St) := if isO σ 7 t = true then ((f_X8_is σ t a0 1).bind fun v2 => if v2 = 0 then ((f_X8_finding σ t (-1000001)).bind fun p5 => some (p5.1, p5.2)) else ((f_X8_many σ t a0).bind fun v7 => (f_X8_within σ a1 1 (v7 - 2)).bind fun v9 => if v9 = 0 then ((f_X8_finding σ t (-1000001)).bind fun p12 => some (p12.1, p12.2)) else ((f_X8_hairOf σ t a0 a1).bind fun v14 => some (v14, σ)))) else none
theorem gd_X8_hair {σ : St} {t : Nat} {a0 : Int32} {a1 : Int32} {r : Int32 × St} (h : f_X8_hair σ t a0 a1 = some r) : isO σ 7 t = true := by
  unfold f_X8_hair at h
  by_cases hg : isO σ 7 t = true
  · exact hg
  · rw [if_neg hg] at h
    cases h
set_option maxRecDepth 100000 in
set_option maxHeartbeats 4000000 in
theorem c_X8_hair (l : Launch) (G : Gd) (d : Nat) (σ : St) (t : Nat) (a0 : Int32) (a1 : Int32) (r0 : Int32) (σ' : St) (hf : f_X8_hair σ t a0 a1 = some (r0, σ')) : MetV l G (d + 4) mi_X8_hair [.ref t, .int a0, .int a1] σ (some (.int r0)) σ' 0 0 := by
  unfold f_X8_hair at hf
  refine MetV.of [(0, .ref t), (1, .int a0), (2, .int a1)] (by decide +kernel) rfl (Nat.le_of_ble_eq_true rfl) ?_
  intro X hQ
  by_cases hg : isO σ 7 t = true
  · rw [if_pos hg] at hf
    refine V_aload_n 0 1 rfl dX8_hair_0 rfl rfl ?_
    refine V_iload_n 1 2 rfl dX8_hair_1 rfl rfl ?_
    refine V_iconst 1 3 dX8_hair_2 rfl kiconst_1 ?_
    obtain ⟨v2, h1, hf⟩ := ob hf
    refine V_callV (rest := []) (T := TX8) (n := 27) (ci := 7) 0 0 6 [.int v2] (c_X8_is l G (d + 1) _ _ _ _ _ h1) (by omega) ok_X8_is okv_X8_is (gd_X8_is h1) rfl wd_ml_X8_83 rfl rfl (Nat.le_of_ble_eq_true rfl) rfl rfl (Or.inl ⟨rfl, rfl⟩) dX8_hair_3 rfl rfl ?_
    refine V_if_eq 33 9 dX8_hair_6 (by decide) rfl (fun c3 => ?_) (fun c3 => ?_)
    · rw [if_pos c3] at hf
      refine V_aload_n 0 34 rfl dX8_hair_33 rfl rfl ?_
      refine V_ldc (-1000001) 36 dX8_hair_34 rfl wd_kk_X8_76 ?_
      obtain ⟨p5, h4, hf⟩ := ob hf
      refine V_callV (rest := []) (T := TX8) (n := 27) (ci := 7) 0 0 39 [.int p5.1] (c_X8_finding l G (d + 2) _ _ _ _ _ h4) (by omega) ok_X8_finding okv_X8_finding (gd_X8_finding h4) rfl wd_ml_X8_77 rfl rfl (Nat.le_of_ble_eq_true rfl) rfl rfl (Or.inl ⟨rfl, rfl⟩) dX8_hair_36 rfl rfl ?_
      have er := Option.some.inj hf
      obtain ⟨e1, e2⟩ := Prod.mk.inj er
      subst e1
      subst e2
      exact V_iret hQ rfl dX8_hair_39
    · rw [if_neg c3] at hf
      refine V_iload_n 2 10 rfl dX8_hair_9 rfl rfl ?_
      refine V_iconst 1 11 dX8_hair_10 rfl kiconst_1 ?_
      refine V_aload_n 0 12 rfl dX8_hair_11 rfl rfl ?_
      refine V_iload_n 1 13 rfl dX8_hair_12 rfl rfl ?_
      obtain ⟨v7, h6, hf⟩ := ob hf
      refine V_callV (rest := [.int 1, .int a1]) (T := TX8) (n := 27) (ci := 7) 0 0 16 [.int v7, .int 1, .int a1] (c_X8_many l G (d + 1) _ _ _ _ h6) (by omega) ok_X8_many okv_X8_many (gd_X8_many h6) rfl wd_ml_X8_134 rfl rfl (Nat.le_of_ble_eq_true rfl) rfl rfl (Or.inl ⟨rfl, rfl⟩) dX8_hair_13 rfl rfl ?_
      refine V_iconst 2 17 dX8_hair_16 rfl kiconst_2 ?_
      refine V_isub 18 dX8_hair_17 rfl ?_
      obtain ⟨v9, h8, hf⟩ := ob hf
      refine V_callS (rest := []) 0 0 21 [.int v9] (c_X8_within l G (d + 2) _ _ _ _ _ h8) (by omega) ok_X8_within oks_X8_within wd_ml_X8_68 rfl rfl (Nat.le_of_ble_eq_true rfl) rfl rfl (Or.inl ⟨rfl, rfl⟩) dX8_hair_18 rfl rfl ?_
      refine V_if_eq 33 24 dX8_hair_21 (by decide) rfl (fun c10 => ?_) (fun c10 => ?_)
      · rw [if_pos c10] at hf
        refine V_aload_n 0 34 rfl dX8_hair_33 rfl rfl ?_
        refine V_ldc (-1000001) 36 dX8_hair_34 rfl wd_kk_X8_76 ?_
        obtain ⟨p12, h11, hf⟩ := ob hf
        refine V_callV (rest := []) (T := TX8) (n := 27) (ci := 7) 0 0 39 [.int p12.1] (c_X8_finding l G (d + 2) _ _ _ _ _ h11) (by omega) ok_X8_finding okv_X8_finding (gd_X8_finding h11) rfl wd_ml_X8_77 rfl rfl (Nat.le_of_ble_eq_true rfl) rfl rfl (Or.inl ⟨rfl, rfl⟩) dX8_hair_36 rfl rfl ?_
        have er := Option.some.inj hf
        obtain ⟨e1, e2⟩ := Prod.mk.inj er
        subst e1
        subst e2
        exact V_iret hQ rfl dX8_hair_39
      · rw [if_neg c10] at hf
        refine V_aload_n 0 25 rfl dX8_hair_24 rfl rfl ?_
        refine V_iload_n 1 26 rfl dX8_hair_25 rfl rfl ?_
        refine V_iload_n 2 27 rfl dX8_hair_26 rfl rfl ?_
        obtain ⟨v14, h13, hf⟩ := ob hf
        refine V_callV (rest := []) (T := TX8) (n := 27) (ci := 7) 0 0 30 [.int v14] (c_X8_hairOf l G (d + 0) _ _ _ _ _ h13) (by omega) ok_X8_hairOf okv_X8_hairOf (gd_X8_hairOf h13) rfl wd_ml_X8_147 rfl rfl (Nat.le_of_ble_eq_true rfl) rfl rfl (Or.inl ⟨rfl, rfl⟩) dX8_hair_27 rfl rfl ?_
        refine V_goto 39 dX8_hair_30 (by decide) ?_
        have er := Option.some.inj hf
        obtain ⟨e1, e2⟩ := Prod.mk.inj er
        subst e1
        subst e2
        exact V_iret hQ rfl dX8_hair_39
  · rw [if_neg hg] at hf
    cases hf
abbrev mi_X8_feed : MI := (yX8_feed, cX8_feed, 5, some .int)
theorem ok_X8_feed : OkN mi_X8_feed 2 := ⟨wd_cd_X8_feed, wd_in_X8, ⟨by decide +kernel, by decide +kernel, by decide +kernel⟩, by decide⟩
theorem okv_X8_feed : Cond.instanceMethod (mi_X8_feed).1 ∈ tb ∧ Cond.selects (mi_X8_feed).1.cls (mi_X8_feed).1 (mi_X8_feed).1 ∈ tb := ⟨wd_im_X8_feed, wd_se_X8_feed⟩
def f_X8_feed_L40 (t : Nat) (x1 : Int64) (x3 : Int32) : Nat → Int32 → St → Option (Int32 × St)
  | 0, _, _ => none
  | n + 1, x4, σ => if x3 ≤ x4 then (some (x4, σ)) else ((gQ σ 7 t 0).bind fun q11 => (gQ σ 7 t 0).bind fun q13 => (aI σ 0 q13 5).bind fun v15 => (sI σ q11 ((974 : Int32) + v15) (((x1 >>> (((8 : Int32) * x4).toInt64 &&& 63)) &&& 255).toInt32)).bind fun s17 => (gQ s17 7 t 0).bind fun q19 => (aI s17 0 q19 5).bind fun v21 => (sI s17 q19 5 (v21 + 1)).bind fun s23 => f_X8_feed_L40 t x1 x3 n (x4 + 1) s23)
def f_X8_feed (σ : St) (t : Nat) (a0 : Int64) (a1 : Int32) : Option (Int32 × St) := if isO σ 7 t = true then ((f_X8_within σ a1 1 8).bind fun v2 => if v2 = 0 then ((f_X8_finding σ t (-1000001)).bind fun p33 => some (p33.1, p33.2)) else ((gQ σ 7 t 0).bind fun q5 => (aI σ 0 q5 5).bind fun v7 => if (v7 + a1) ≤ 56 then ((f_X8_feed_L40 t a0 a1 3000 0 σ).bind fun p24 => (gQ p24.2 7 t 0).bind fun q27 => (aI p24.2 0 q27 5).bind fun v29 => some (v29, p24.2)) else ((f_X8_finding σ t (-1000004)).bind fun p31 => some (p31.1, p31.2)))) else none
theorem gd_X8_feed {σ : St} {t : Nat} {a0 : Int64} {a1 : Int32} {r : Int32 × St} (h : f_X8_feed σ t a0 a1 = some r) : isO σ 7 t = true := by
  unfold f_X8_feed at h
  by_cases hg : isO σ 7 t = true
  · exact hg
  · rw [if_neg hg] at h
    cases h
set_option maxRecDepth 100000 in
set_option maxHeartbeats 4000000 in
theorem c_X8_feed (l : Launch) (G : Gd) (d : Nat) (σ : St) (t : Nat) (a0 : Int64) (a1 : Int32) (r0 : Int32) (σ' : St) (hf : f_X8_feed σ t a0 a1 = some (r0, σ')) : MetV l G (d + 2) mi_X8_feed [.ref t, .long a0, .int a1] σ (some (.int r0)) σ' 0 0 := by
  unfold f_X8_feed at hf
  refine MetV.of [(0, .ref t), (1, .long a0), (3, .int a1)] (by decide +kernel) rfl (Nat.le_of_ble_eq_true rfl) ?_
  intro X hQ
  have L40 : ∀ (x1 : Int64) (x3 : Int32) (n : Nat) (x4 : Int32) (σ : St) (p : Int32 × St), f_X8_feed_L40 t x1 x3 n x4 σ = some p → V mi_X8_feed l G (d + 2) 0 0 X 0 0 89 [(4, .int p.1), (0, .ref t), (1, .long x1), (3, .int x3)] [] p.2 → V mi_X8_feed l G (d + 2) 0 0 X 0 0 40 [(4, .int x4), (0, .ref t), (1, .long x1), (3, .int x3)] [] σ := by
    intro x1 x3 n
    induction n with
    | zero =>
      intro x4 σ p hf
      exact absurd (show (none : Option _) = some p from hf) (by simp)
    | succ n ih =>
      intro x4 σ p hf hk
      rw [f_X8_feed_L40] at hf
      refine V_iload 0 42 rfl dX8_feed_40 rfl ?_
      refine V_iload_n 3 43 rfl dX8_feed_42 rfl rfl ?_
      refine V_icmp_ge 89 46 dX8_feed_43 (by decide) rfl (fun c9 => ?_) (fun c9 => ?_)
      · rw [if_pos c9] at hf
        have ep := Option.some.inj hf
        subst ep
        refine V_ls [(4, .int x4), (0, .ref t), (1, .long x1), (3, .int x3)] [0, 1, 2, 3] rfl ?_
        exact hk
      · rw [if_neg c9] at hf
        refine V_aload_n 1 47 rfl dX8_feed_46 rfl rfl ?_
        obtain ⟨q11, h10, hf⟩ := ob hf
        refine V_getQ (n := 27) (ty := tyX8) 50 h10 cf_7 rfl wd_fl_X8_9 dX8_feed_47 rfl ?_
        refine V_sipush 974 53 dX8_feed_50 rfl ksipush_974 ?_
        refine V_aload_n 1 54 rfl dX8_feed_53 rfl rfl ?_
        obtain ⟨q13, h12, hf⟩ := ob hf
        refine V_getQ (n := 27) (ty := tyX8) 57 h12 cf_7 rfl wd_fl_X8_9 dX8_feed_54 rfl ?_
        refine V_iconst 5 58 dX8_feed_57 rfl kiconst_5 ?_
        obtain ⟨v15, h14, hf⟩ := ob hf
        refine V_iald 59 h14 dX8_feed_58 rfl ?_
        refine V_iadd 60 dX8_feed_59 rfl ?_
        refine V_lload_n 2 61 rfl dX8_feed_60 rfl rfl ?_
        refine V_bipush 8 63 dX8_feed_61 rfl kbipush_8 ?_
        refine V_iload 0 65 rfl dX8_feed_63 rfl ?_
        refine V_imul 66 dX8_feed_65 rfl ?_
        refine V_lshr 67 dX8_feed_66 rfl ?_
        refine V_ldc2 255 70 dX8_feed_67 rfl wd_kl_X8_150 ?_
        refine V_land 71 dX8_feed_70 rfl ?_
        refine V_l2i 72 dX8_feed_71 rfl ?_
        obtain ⟨s17, h16, hf⟩ := ob hf
        refine V_iast 73 h16 dX8_feed_72 rfl ?_
        refine V_aload_n 1 74 rfl dX8_feed_73 rfl rfl ?_
        obtain ⟨q19, h18, hf⟩ := ob hf
        refine V_getQ (n := 27) (ty := tyX8) 77 h18 cf_7 rfl wd_fl_X8_9 dX8_feed_74 rfl ?_
        refine V_iconst 5 78 dX8_feed_77 rfl kiconst_5 ?_
        refine V_dup2 79 dX8_feed_78 rfl rfl rfl ?_
        obtain ⟨v21, h20, hf⟩ := ob hf
        refine V_iald 80 h20 dX8_feed_79 rfl ?_
        refine V_iconst 1 81 dX8_feed_80 rfl kiconst_1 ?_
        refine V_iadd 82 dX8_feed_81 rfl ?_
        obtain ⟨s23, h22, hf⟩ := ob hf
        refine V_iast 83 h22 dX8_feed_82 rfl ?_
        refine V_iinc (x4 + 1) 0 [(4, .int (x4 + 1)), (0, .ref t), (1, .long x1), (3, .int x3)] 86 dX8_feed_83 rfl (by rw [kiconst_1]) (by decide) rfl rfl ?_
        refine V_goto 40 dX8_feed_86 (by decide) ?_
        refine V_ls [(4, .int (x4 + 1)), (0, .ref t), (1, .long x1), (3, .int x3)] [0, 1, 2, 3] rfl ?_
        exact ih _ _ _ hf hk
  by_cases hg : isO σ 7 t = true
  · rw [if_pos hg] at hf
    refine V_iload_n 2 1 rfl dX8_feed_0 rfl rfl ?_
    refine V_iconst 1 2 dX8_feed_1 rfl kiconst_1 ?_
    refine V_bipush 8 4 dX8_feed_2 rfl kbipush_8 ?_
    obtain ⟨v2, h1, hf⟩ := ob hf
    refine V_callS (rest := []) 0 0 7 [.int v2] (c_X8_within l G (d + 0) _ _ _ _ _ h1) (by omega) ok_X8_within oks_X8_within wd_ml_X8_68 rfl rfl (Nat.le_of_ble_eq_true rfl) rfl rfl (Or.inl ⟨rfl, rfl⟩) dX8_feed_4 rfl rfl ?_
    refine V_if_ne 17 10 dX8_feed_7 (by decide) rfl (fun c3 => ?_) (fun c3 => ?_)
    · rw [if_neg c3] at hf
      refine V_aload_n 0 18 rfl dX8_feed_17 rfl rfl ?_
      obtain ⟨q5, h4, hf⟩ := ob hf
      refine V_getQ (n := 27) (ty := tyX8) 21 h4 cf_7 rfl wd_fl_X8_9 dX8_feed_18 rfl ?_
      refine V_iconst 5 22 dX8_feed_21 rfl kiconst_5 ?_
      obtain ⟨v7, h6, hf⟩ := ob hf
      refine V_iald 23 h6 dX8_feed_22 rfl ?_
      refine V_iload_n 2 24 rfl dX8_feed_23 rfl rfl ?_
      refine V_iadd 25 dX8_feed_24 rfl ?_
      refine V_bipush 56 27 dX8_feed_25 rfl kbipush_56 ?_
      refine V_icmp_le 37 30 dX8_feed_27 (by decide) rfl (fun c8 => ?_) (fun c8 => ?_)
      · rw [if_pos c8] at hf
        refine V_iconst 0 38 dX8_feed_37 rfl kiconst_0 ?_
        refine V_istore [(4, .int 0), (0, .ref t), (1, .long a0), (3, .int a1)] 40 dX8_feed_38 (by decide) rfl rfl ?_
        obtain ⟨p24, h25, hf⟩ := ob hf
        refine V_ls [(4, .int 0), (0, .ref t), (1, .long a0), (3, .int a1)] [0, 1, 2, 3] rfl ?_
        refine L40 a0 a1 3000 0 σ p24 h25 ?_
        refine V_aload_n 1 90 rfl dX8_feed_89 rfl rfl ?_
        obtain ⟨q27, h26, hf⟩ := ob hf
        refine V_getQ (n := 27) (ty := tyX8) 93 h26 cf_7 rfl wd_fl_X8_9 dX8_feed_90 rfl ?_
        refine V_iconst 5 94 dX8_feed_93 rfl kiconst_5 ?_
        obtain ⟨v29, h28, hf⟩ := ob hf
        refine V_iald 95 h28 dX8_feed_94 rfl ?_
        have er := Option.some.inj hf
        obtain ⟨e1, e2⟩ := Prod.mk.inj er
        subst e1
        subst e2
        exact V_iret hQ rfl dX8_feed_95
      · rw [if_neg c8] at hf
        refine V_aload_n 0 31 rfl dX8_feed_30 rfl rfl ?_
        refine V_ldc (-1000004) 33 dX8_feed_31 rfl wd_kk_X8_82 ?_
        obtain ⟨p31, h30, hf⟩ := ob hf
        refine V_callV (rest := []) (T := TX8) (n := 27) (ci := 7) 0 0 36 [.int p31.1] (c_X8_finding l G (d + 0) _ _ _ _ _ h30) (by omega) ok_X8_finding okv_X8_finding (gd_X8_finding h30) rfl wd_ml_X8_77 rfl rfl (Nat.le_of_ble_eq_true rfl) rfl rfl (Or.inl ⟨rfl, rfl⟩) dX8_feed_33 rfl rfl ?_
        have er := Option.some.inj hf
        obtain ⟨e1, e2⟩ := Prod.mk.inj er
        subst e1
        subst e2
        exact V_iret hQ rfl dX8_feed_36
    · rw [if_pos c3] at hf
      refine V_aload_n 0 11 rfl dX8_feed_10 rfl rfl ?_
      refine V_ldc (-1000001) 13 dX8_feed_11 rfl wd_kk_X8_76 ?_
      obtain ⟨p33, h32, hf⟩ := ob hf
      refine V_callV (rest := []) (T := TX8) (n := 27) (ci := 7) 0 0 16 [.int p33.1] (c_X8_finding l G (d + 0) _ _ _ _ _ h32) (by omega) ok_X8_finding okv_X8_finding (gd_X8_finding h32) rfl wd_ml_X8_77 rfl rfl (Nat.le_of_ble_eq_true rfl) rfl rfl (Or.inl ⟨rfl, rfl⟩) dX8_feed_13 rfl rfl ?_
      have er := Option.some.inj hf
      obtain ⟨e1, e2⟩ := Prod.mk.inj er
      subst e1
      subst e2
      exact V_iret hQ rfl dX8_feed_16
  · rw [if_neg hg] at hf
    cases hf
abbrev mi_X8_here : MI := (yX8_here, cX8_here, 1, some .int)
theorem ok_X8_here : OkN mi_X8_here 0 := ⟨wd_cd_X8_here, wd_in_X8, ⟨by decide +kernel, by decide +kernel, by decide +kernel⟩, by decide⟩
theorem okv_X8_here : Cond.instanceMethod (mi_X8_here).1 ∈ tb ∧ Cond.selects (mi_X8_here).1.cls (mi_X8_here).1 (mi_X8_here).1 ∈ tb := ⟨wd_im_X8_here, wd_se_X8_here⟩
def f_X8_here (σ : St) (t : Nat) : Option Int32 := if isO σ 7 t = true then ((gI σ 7 t 9).bind fun v2 => if v2 = 0 then ((gI σ 7 t 5).bind fun v5 => (gQ σ 7 t 0).bind fun q7 => (aI σ 0 q7 5).bind fun v9 => if v9 ≤ v5 then (some (-1)) else ((gQ σ 7 t 0).bind fun q12 => (gI σ 7 t 5).bind fun v14 => (aI σ 0 q12 ((974 : Int32) + v14)).bind fun v16 => some v16)) else (some (-1))) else none
theorem gd_X8_here {σ : St} {t : Nat} {r : Int32} (h : f_X8_here σ t = some r) : isO σ 7 t = true := by
  unfold f_X8_here at h
  by_cases hg : isO σ 7 t = true
  · exact hg
  · rw [if_neg hg] at h
    cases h
set_option maxRecDepth 100000 in
set_option maxHeartbeats 4000000 in
theorem c_X8_here (l : Launch) (G : Gd) (d : Nat) (σ : St) (t : Nat) (r0 : Int32) (hf : f_X8_here σ t = some r0) : MetV l G (d + 1) mi_X8_here [.ref t] σ (some (.int r0)) σ 0 0 := by
  unfold f_X8_here at hf
  refine MetV.of [(0, .ref t)] (by decide +kernel) rfl (Nat.le_of_ble_eq_true rfl) ?_
  intro X hQ
  by_cases hg : isO σ 7 t = true
  · rw [if_pos hg] at hf
    refine V_aload_n 0 1 rfl dX8_here_0 rfl rfl ?_
    obtain ⟨v2, h1, hf⟩ := ob hf
    refine V_getI (n := 27) (ty := tyX8) 4 h1 cf_7 rfl wd_fl_X8_152 dX8_here_1 rfl ?_
    refine V_if_ne 36 7 dX8_here_4 (by decide) rfl (fun c3 => ?_) (fun c3 => ?_)
    · rw [if_neg c3] at hf
      refine V_iconst (-1) 37 dX8_here_36 rfl kiconst_m1 ?_
      have er := Option.some.inj hf
      subst er
      exact V_iret hQ rfl dX8_here_37
    · rw [if_pos c3] at hf
      refine V_aload_n 0 8 rfl dX8_here_7 rfl rfl ?_
      obtain ⟨v5, h4, hf⟩ := ob hf
      refine V_getI (n := 27) (ty := tyX8) 11 h4 cf_7 rfl wd_fl_X8_156 dX8_here_8 rfl ?_
      refine V_aload_n 0 12 rfl dX8_here_11 rfl rfl ?_
      obtain ⟨q7, h6, hf⟩ := ob hf
      refine V_getQ (n := 27) (ty := tyX8) 15 h6 cf_7 rfl wd_fl_X8_9 dX8_here_12 rfl ?_
      refine V_iconst 5 16 dX8_here_15 rfl kiconst_5 ?_
      obtain ⟨v9, h8, hf⟩ := ob hf
      refine V_iald 17 h8 dX8_here_16 rfl ?_
      refine V_icmp_ge 36 20 dX8_here_17 (by decide) rfl (fun c10 => ?_) (fun c10 => ?_)
      · rw [if_pos c10] at hf
        refine V_iconst (-1) 37 dX8_here_36 rfl kiconst_m1 ?_
        have er := Option.some.inj hf
        subst er
        exact V_iret hQ rfl dX8_here_37
      · rw [if_neg c10] at hf
        refine V_aload_n 0 21 rfl dX8_here_20 rfl rfl ?_
        obtain ⟨q12, h11, hf⟩ := ob hf
        refine V_getQ (n := 27) (ty := tyX8) 24 h11 cf_7 rfl wd_fl_X8_9 dX8_here_21 rfl ?_
        refine V_sipush 974 27 dX8_here_24 rfl ksipush_974 ?_
        refine V_aload_n 0 28 rfl dX8_here_27 rfl rfl ?_
        obtain ⟨v14, h13, hf⟩ := ob hf
        refine V_getI (n := 27) (ty := tyX8) 31 h13 cf_7 rfl wd_fl_X8_156 dX8_here_28 rfl ?_
        refine V_iadd 32 dX8_here_31 rfl ?_
        obtain ⟨v16, h15, hf⟩ := ob hf
        refine V_iald 33 h15 dX8_here_32 rfl ?_
        refine V_goto 37 dX8_here_33 (by decide) ?_
        have er := Option.some.inj hf
        subst er
        exact V_iret hQ rfl dX8_here_37
  · rw [if_neg hg] at hf
    cases hf
abbrev mi_X8_codes : MI := (yX8_codes, cX8_codes, 2, none)
theorem ok_X8_codes : OkN mi_X8_codes 1 := ⟨wd_cd_X8_codes, wd_in_X8, ⟨by decide +kernel, by decide +kernel, by decide +kernel⟩, by decide⟩
theorem okv_X8_codes : Cond.instanceMethod (mi_X8_codes).1 ∈ tb ∧ Cond.selects (mi_X8_codes).1.cls (mi_X8_codes).1 (mi_X8_codes).1 ∈ tb := ⟨wd_im_X8_codes, wd_se_X8_codes⟩
def f_X8_codes (σ : St) (t : Nat) (a0 : Int32) : Option St := if isO σ 7 t = true then ((gI σ 7 t 9).bind fun v2 => if v2 = 0 then ((gQ σ 7 t 11).bind fun q5 => (gI σ 7 t 10).bind fun v7 => (sI σ q5 v7 a0).bind fun s9 => (gI s9 7 t 10).bind fun v11 => (pI s9 7 t 10 (v11 + 1)).bind fun s13 => (gI s13 7 t 8).bind fun v15 => (pI s13 7 t 8 (v15 + (if a0 < 20000 then 0 else 1 : Int32))).bind fun s17 => some s17) else (some σ)) else none
theorem gd_X8_codes {σ : St} {t : Nat} {a0 : Int32} {r : St} (h : f_X8_codes σ t a0 = some r) : isO σ 7 t = true := by
  unfold f_X8_codes at h
  by_cases hg : isO σ 7 t = true
  · exact hg
  · rw [if_neg hg] at h
    cases h
set_option maxRecDepth 100000 in
set_option maxHeartbeats 4000000 in
theorem c_X8_codes (l : Launch) (G : Gd) (d : Nat) (σ : St) (t : Nat) (a0 : Int32) (σ' : St) (hf : f_X8_codes σ t a0 = some σ') : MetV l G (d + 1) mi_X8_codes [.ref t, .int a0] σ none σ' 0 0 := by
  unfold f_X8_codes at hf
  refine MetV.of [(0, .ref t), (1, .int a0)] (by decide +kernel) rfl (Nat.le_of_ble_eq_true rfl) ?_
  intro X hQ
  by_cases hg : isO σ 7 t = true
  · rw [if_pos hg] at hf
    refine V_aload_n 0 1 rfl dX8_codes_0 rfl rfl ?_
    obtain ⟨v2, h1, hf⟩ := ob hf
    refine V_getI (n := 27) (ty := tyX8) 4 h1 cf_7 rfl wd_fl_X8_152 dX8_codes_1 rfl ?_
    refine V_if_ne 48 7 dX8_codes_4 (by decide) rfl (fun c3 => ?_) (fun c3 => ?_)
    · rw [if_neg c3] at hf
      have er := Option.some.inj hf
      subst er
      exact V_vret hQ rfl dX8_codes_48
    · rw [if_pos c3] at hf
      refine V_aload_n 0 8 rfl dX8_codes_7 rfl rfl ?_
      obtain ⟨q5, h4, hf⟩ := ob hf
      refine V_getQ (n := 27) (ty := tyX8) 11 h4 cf_7 rfl wd_fl_X8_31 dX8_codes_8 rfl ?_
      refine V_aload_n 0 12 rfl dX8_codes_11 rfl rfl ?_
      obtain ⟨v7, h6, hf⟩ := ob hf
      refine V_getI (n := 27) (ty := tyX8) 15 h6 cf_7 rfl wd_fl_X8_164 dX8_codes_12 rfl ?_
      refine V_iload_n 1 16 rfl dX8_codes_15 rfl rfl ?_
      obtain ⟨s9, h8, hf⟩ := ob hf
      refine V_iast 17 h8 dX8_codes_16 rfl ?_
      refine V_aload_n 0 18 rfl dX8_codes_17 rfl rfl ?_
      refine V_dup 19 dX8_codes_18 rfl rfl ?_
      obtain ⟨v11, h10, hf⟩ := ob hf
      refine V_getI (n := 27) (ty := tyX8) 22 h10 cf_7 rfl wd_fl_X8_164 dX8_codes_19 rfl ?_
      refine V_iconst 1 23 dX8_codes_22 rfl kiconst_1 ?_
      refine V_iadd 24 dX8_codes_23 rfl ?_
      obtain ⟨s13, h12, hf⟩ := ob hf
      refine V_putI (n := 27) (T := TX8) (ty := tyX8) (f := 10) 27 h12 cf_7 rfl rfl (Or.inl rfl) wd_fl_X8_164 dX8_codes_24 rfl ?_
      refine V_aload_n 0 28 rfl dX8_codes_27 rfl rfl ?_
      refine V_dup 29 dX8_codes_28 rfl rfl ?_
      obtain ⟨v15, h14, hf⟩ := ob hf
      refine V_getI (n := 27) (ty := tyX8) 32 h14 cf_7 rfl wd_fl_X8_167 dX8_codes_29 rfl ?_
      refine V_iload_n 1 33 rfl dX8_codes_32 rfl rfl ?_
      refine V_sipush 20000 36 dX8_codes_33 rfl ksipush_20000 ?_
      have kj18 : V mi_X8_codes l G (d + 1) 0 0 X 0 0 44 [(0, .ref t), (1, .int a0)] [.int (if a0 < 20000 then 0 else 1 : Int32), .int v15, .ref t] s13 := by
        refine V_iadd 45 dX8_codes_44 rfl ?_
        obtain ⟨s17, h16, hf⟩ := ob hf
        refine V_putI (n := 27) (T := TX8) (ty := tyX8) (f := 8) 48 h16 cf_7 rfl rfl (Or.inl rfl) wd_fl_X8_167 dX8_codes_45 rfl ?_
        have er := Option.some.inj hf
        subst er
        exact V_vret hQ rfl dX8_codes_48
      refine V_icmp_lt 43 39 dX8_codes_36 (by decide) rfl (fun c19 => ?_) (fun c19 => ?_)
      · refine V_iconst 0 44 dX8_codes_43 rfl kiconst_0 ?_
        refine V_ls [(0, .ref t), (1, .int a0)] [0, 1] rfl ?_
        simp only [if_pos c19] at kj18
        exact kj18
      · refine V_iconst 1 40 dX8_codes_39 rfl kiconst_1 ?_
        refine V_goto 44 dX8_codes_40 (by decide) ?_
        refine V_ls [(0, .ref t), (1, .int a0)] [0, 1] rfl ?_
        simp only [if_neg c19] at kj18
        exact kj18
  · rw [if_neg hg] at hf
    cases hf
abbrev mi_X8_takes : MI := (yX8_takes, cX8_takes, 3, some .boolean)
theorem ok_X8_takes : OkN mi_X8_takes 1 := ⟨wd_cd_X8_takes, wd_in_X8, ⟨by decide +kernel, by decide +kernel, by decide +kernel⟩, by decide⟩
theorem okv_X8_takes : Cond.instanceMethod (mi_X8_takes).1 ∈ tb ∧ Cond.selects (mi_X8_takes).1.cls (mi_X8_takes).1 (mi_X8_takes).1 ∈ tb := ⟨wd_im_X8_takes, wd_se_X8_takes⟩
def f_X8_takes (σ : St) (t : Nat) (a0 : Int32) : Option (Int32 × St) := if isO σ 7 t = true then ((f_X8_here σ t).bind fun v2 => (gI σ 7 t 5).bind fun v4 => (pI σ 7 t 5 (v4 + (if (if v2 = a0 then 1 else 0 : Int32) = 0 then 0 else 1 : Int32))).bind fun s6 => (zr (if v2 = a0 then 1 else 0 : Int32)).bind fun z7 => some ((if v2 = a0 then 1 else 0 : Int32), s6)) else none
theorem gd_X8_takes {σ : St} {t : Nat} {a0 : Int32} {r : Int32 × St} (h : f_X8_takes σ t a0 = some r) : isO σ 7 t = true := by
  unfold f_X8_takes at h
  by_cases hg : isO σ 7 t = true
  · exact hg
  · rw [if_neg hg] at h
    cases h
set_option maxRecDepth 100000 in
set_option maxHeartbeats 4000000 in
theorem c_X8_takes (l : Launch) (G : Gd) (d : Nat) (σ : St) (t : Nat) (a0 : Int32) (r0 : Int32) (σ' : St) (hf : f_X8_takes σ t a0 = some (r0, σ')) : MetV l G (d + 2) mi_X8_takes [.ref t, .int a0] σ (some (.int r0)) σ' 0 0 := by
  unfold f_X8_takes at hf
  refine MetV.of [(0, .ref t), (1, .int a0)] (by decide +kernel) rfl (Nat.le_of_ble_eq_true rfl) ?_
  intro X hQ
  by_cases hg : isO σ 7 t = true
  · rw [if_pos hg] at hf
    refine V_aload_n 0 1 rfl dX8_takes_0 rfl rfl ?_
    obtain ⟨v2, h1, hf⟩ := ob hf
    refine V_callV (rest := []) (T := TX8) (n := 27) (ci := 7) 0 0 4 [.int v2] (c_X8_here l G (d + 0) _ _ _ h1) (by omega) ok_X8_here okv_X8_here (gd_X8_here h1) rfl wd_ml_X8_160 rfl rfl (Nat.le_of_ble_eq_true rfl) rfl rfl (Or.inl ⟨rfl, rfl⟩) dX8_takes_1 rfl rfl ?_
    refine V_iload_n 1 5 rfl dX8_takes_4 rfl rfl ?_
    have kj11 : V mi_X8_takes l G (d + 2) 0 0 X 0 0 13 [(0, .ref t), (1, .int a0)] [.int (if v2 = a0 then 1 else 0 : Int32)] σ := by
      refine V_istore_n [(2, .int (if v2 = a0 then 1 else 0 : Int32)), (0, .ref t), (1, .int a0)] 14 dX8_takes_13 rfl (by decide) rfl rfl ?_
      refine V_aload_n 1 15 rfl dX8_takes_14 rfl rfl ?_
      refine V_dup 16 dX8_takes_15 rfl rfl ?_
      obtain ⟨v4, h3, hf⟩ := ob hf
      refine V_getI (n := 27) (ty := tyX8) 19 h3 cf_7 rfl wd_fl_X8_156 dX8_takes_16 rfl ?_
      refine V_iload_n 0 20 rfl dX8_takes_19 rfl rfl ?_
      have kj9 : V mi_X8_takes l G (d + 2) 0 0 X 0 0 28 [(2, .int (if v2 = a0 then 1 else 0 : Int32)), (0, .ref t), (1, .int a0)] [.int (if (if v2 = a0 then 1 else 0 : Int32) = 0 then 0 else 1 : Int32), .int v4, .ref t] σ := by
        refine V_iadd 29 dX8_takes_28 rfl ?_
        obtain ⟨s6, h5, hf⟩ := ob hf
        refine V_putI (n := 27) (T := TX8) (ty := tyX8) (f := 5) 32 h5 cf_7 rfl rfl (Or.inl rfl) wd_fl_X8_156 dX8_takes_29 rfl ?_
        refine V_iload_n 0 33 rfl dX8_takes_32 rfl rfl ?_
        obtain ⟨z7, h8, hf⟩ := ob hf
        have er := Option.some.inj hf
        obtain ⟨e1, e2⟩ := Prod.mk.inj er
        subst e1
        subst e2
        exact V_zret (zr_ok h8) hQ rfl dX8_takes_33
      refine V_if_eq 27 23 dX8_takes_20 (by decide) rfl (fun c10 => ?_) (fun c10 => ?_)
      · refine V_iconst 0 28 dX8_takes_27 rfl kiconst_0 ?_
        refine V_ls [(2, .int (if v2 = a0 then 1 else 0 : Int32)), (0, .ref t), (1, .int a0)] [0, 1, 2] rfl ?_
        simp only [if_pos c10] at kj9
        exact kj9
      · refine V_iconst 1 24 dX8_takes_23 rfl kiconst_1 ?_
        refine V_goto 28 dX8_takes_24 (by decide) ?_
        refine V_ls [(2, .int (if v2 = a0 then 1 else 0 : Int32)), (0, .ref t), (1, .int a0)] [0, 1, 2] rfl ?_
        simp only [if_neg c10] at kj9
        exact kj9
    refine V_icmp_ne 12 8 dX8_takes_5 (by decide) rfl (fun c12 => ?_) (fun c12 => ?_)
    · refine V_iconst 0 13 dX8_takes_12 rfl kiconst_0 ?_
      refine V_ls [(0, .ref t), (1, .int a0)] [0, 1] rfl ?_
      simp only [if_neg c12] at kj11
      exact kj11
    · refine V_iconst 1 9 dX8_takes_8 rfl kiconst_1 ?_
      refine V_goto 13 dX8_takes_9 (by decide) ?_
      refine V_ls [(0, .ref t), (1, .int a0)] [0, 1] rfl ?_
      simp only [if_pos c12] at kj11
      exact kj11
  · rw [if_neg hg] at hf
    cases hf
abbrev mi_X8_must : MI := (yX8_must, cX8_must, 2, none)
theorem ok_X8_must : OkN mi_X8_must 1 := ⟨wd_cd_X8_must, wd_in_X8, ⟨by decide +kernel, by decide +kernel, by decide +kernel⟩, by decide⟩
theorem okv_X8_must : Cond.instanceMethod (mi_X8_must).1 ∈ tb ∧ Cond.selects (mi_X8_must).1.cls (mi_X8_must).1 (mi_X8_must).1 ∈ tb := ⟨wd_im_X8_must, wd_se_X8_must⟩
def f_X8_must (σ : St) (t : Nat) (a0 : Int32) : Option St := if isO σ 7 t = true then ((f_X8_takes σ t a0).bind fun p2 => (pZ p2.2 7 t 9 (if p2.1 = 0 then 1 else 0 : Int32)).bind fun s4 => some s4) else none
theorem gd_X8_must {σ : St} {t : Nat} {a0 : Int32} {r : St} (h : f_X8_must σ t a0 = some r) : isO σ 7 t = true := by
  unfold f_X8_must at h
  by_cases hg : isO σ 7 t = true
  · exact hg
  · rw [if_neg hg] at h
    cases h
set_option maxRecDepth 100000 in
set_option maxHeartbeats 4000000 in
theorem c_X8_must (l : Launch) (G : Gd) (d : Nat) (σ : St) (t : Nat) (a0 : Int32) (σ' : St) (hf : f_X8_must σ t a0 = some σ') : MetV l G (d + 3) mi_X8_must [.ref t, .int a0] σ none σ' 0 0 := by
  unfold f_X8_must at hf
  refine MetV.of [(0, .ref t), (1, .int a0)] (by decide +kernel) rfl (Nat.le_of_ble_eq_true rfl) ?_
  intro X hQ
  by_cases hg : isO σ 7 t = true
  · rw [if_pos hg] at hf
    refine V_aload_n 0 1 rfl dX8_must_0 rfl rfl ?_
    refine V_aload_n 0 2 rfl dX8_must_1 rfl rfl ?_
    refine V_iload_n 1 3 rfl dX8_must_2 rfl rfl ?_
    obtain ⟨p2, h1, hf⟩ := ob hf
    refine V_callV (rest := [.ref t]) (T := TX8) (n := 27) (ci := 7) 0 0 6 [.int p2.1, .ref t] (c_X8_takes l G (d + 0) _ _ _ _ _ h1) (by omega) ok_X8_takes okv_X8_takes (gd_X8_takes h1) rfl wd_ml_X8_170 rfl rfl (Nat.le_of_ble_eq_true rfl) rfl rfl (Or.inl ⟨rfl, rfl⟩) dX8_must_3 rfl rfl ?_
    have kj5 : V mi_X8_must l G (d + 3) 0 0 X 0 0 14 [(0, .ref t), (1, .int a0)] [.int (if p2.1 = 0 then 1 else 0 : Int32), .ref t] p2.2 := by
      obtain ⟨s4, h3, hf⟩ := ob hf
      refine V_putZ (n := 27) (T := TX8) (ty := tyX8) (f := 9) 17 h3 cf_7 rfl rfl (Or.inl rfl) wd_fl_X8_152 dX8_must_14 rfl ?_
      have er := Option.some.inj hf
      subst er
      exact V_vret hQ rfl dX8_must_17
    refine V_if_ne 13 9 dX8_must_6 (by decide) rfl (fun c6 => ?_) (fun c6 => ?_)
    · refine V_iconst 0 14 dX8_must_13 rfl kiconst_0 ?_
      refine V_ls [(0, .ref t), (1, .int a0)] [0, 1] rfl ?_
      simp only [if_neg c6] at kj5
      exact kj5
    · refine V_iconst 1 10 dX8_must_9 rfl kiconst_1 ?_
      refine V_goto 14 dX8_must_10 (by decide) ?_
      refine V_ls [(0, .ref t), (1, .int a0)] [0, 1] rfl ?_
      simp only [if_pos c6] at kj5
      exact kj5
  · rw [if_neg hg] at hf
    cases hf
abbrev mi_X8_nameOf : MI := (yX8_nameOf, cX8_nameOf, 4, some .int)
theorem ok_X8_nameOf : OkN mi_X8_nameOf 1 := ⟨wd_cd_X8_nameOf, wd_in_X8, ⟨by decide +kernel, by decide +kernel, by decide +kernel⟩, by decide⟩
theorem okv_X8_nameOf : Cond.instanceMethod (mi_X8_nameOf).1 ∈ tb ∧ Cond.selects (mi_X8_nameOf).1.cls (mi_X8_nameOf).1 (mi_X8_nameOf).1 ∈ tb := ⟨wd_im_X8_nameOf, wd_se_X8_nameOf⟩
def f_X8_nameOf_L4 (σ : St) (t : Nat) (x1 : Int32) : Nat → Int32 → Int32 → Option (Int32 × Int32)
  | 0, _, _ => none
  | n + 1, x3, x2 => (gQ σ 7 t 4).bind fun q2 => (gI σ 7 t 6).bind fun v4 => (aQ σ 4 q2 v4).bind fun q6 => (f_J0_length_8abf5 σ q6).bind fun v8 => if v8 ≤ x3 then (some (x3, x2)) else ((gQ σ 7 t 4).bind fun q11 => (gI σ 7 t 6).bind fun v13 => (aQ σ 4 q11 v13).bind fun q15 => (f_J0_charAt_5068e σ q15 x3).bind fun v17 => f_X8_nameOf_L4 σ t x1 n (x3 + 1) (if v17 = x1 then x3 else x2 : Int32))
def f_X8_nameOf (σ : St) (t : Nat) (a0 : Int32) : Option Int32 := if isO σ 7 t = true then ((f_X8_nameOf_L4 σ t a0 3000 0 (-1)).bind fun p20 => some p20.2) else none
theorem gd_X8_nameOf {σ : St} {t : Nat} {a0 : Int32} {r : Int32} (h : f_X8_nameOf σ t a0 = some r) : isO σ 7 t = true := by
  unfold f_X8_nameOf at h
  by_cases hg : isO σ 7 t = true
  · exact hg
  · rw [if_neg hg] at h
    cases h
set_option maxRecDepth 100000 in
set_option maxHeartbeats 4000000 in
theorem c_X8_nameOf (l : Launch) (G : Gd) (d : Nat) (σ : St) (t : Nat) (a0 : Int32) (r0 : Int32) (hf : f_X8_nameOf σ t a0 = some r0) : MetV l G (d + 5) mi_X8_nameOf [.ref t, .int a0] σ (some (.int r0)) σ 0 0 := by
  unfold f_X8_nameOf at hf
  refine MetV.of [(0, .ref t), (1, .int a0)] (by decide +kernel) rfl (Nat.le_of_ble_eq_true rfl) ?_
  intro X hQ
  have L4 : ∀ (x1 : Int32) (n : Nat) (x3 : Int32) (x2 : Int32) (p : Int32 × Int32), f_X8_nameOf_L4 σ t x1 n x3 x2 = some p → V mi_X8_nameOf l G (d + 5) 0 0 X 0 0 49 [(3, .int p.1), (2, .int p.2), (0, .ref t), (1, .int x1)] [] σ → V mi_X8_nameOf l G (d + 5) 0 0 X 0 0 4 [(3, .int x3), (2, .int x2), (0, .ref t), (1, .int x1)] [] σ := by
    intro x1 n
    induction n with
    | zero =>
      intro x3 x2 p hf
      exact absurd (show (none : Option _) = some p from hf) (by simp)
    | succ n ih =>
      intro x3 x2 p hf hk
      rw [f_X8_nameOf_L4] at hf
      refine V_iload_n 0 5 rfl dX8_nameOf_4 rfl rfl ?_
      refine V_aload_n 2 6 rfl dX8_nameOf_5 rfl rfl ?_
      obtain ⟨q2, h1, hf⟩ := ob hf
      refine V_getQ (n := 27) (ty := tyX8) 9 h1 cf_7 rfl wd_fl_X8_27 dX8_nameOf_6 rfl ?_
      refine V_aload_n 2 10 rfl dX8_nameOf_9 rfl rfl ?_
      obtain ⟨v4, h3, hf⟩ := ob hf
      refine V_getI (n := 27) (ty := tyX8) 13 h3 cf_7 rfl wd_fl_X8_195 dX8_nameOf_10 rfl ?_
      obtain ⟨q6, h5, hf⟩ := ob hf
      refine V_aald (t := 4) 14 h5 (by decide) dX8_nameOf_13 rfl ?_
      obtain ⟨v8, h7, hf⟩ := ob hf
      refine V_callStr (rest := [.int x3]) 0 0 17 [.int v8, .int x3] (c_J0_length_8abf5 l G (d + 2) _ _ _ h7) (by omega) ok_J0_length_8abf5 okv_J0_length_8abf5 (gd_J0_length_8abf5 h7) rfl wd_ml_X8_198 rfl rfl (Nat.le_of_ble_eq_true rfl) rfl rfl (Or.inl ⟨rfl, rfl⟩) dX8_nameOf_14 rfl rfl ?_
      refine V_icmp_ge 49 20 dX8_nameOf_17 (by decide) rfl (fun c9 => ?_) (fun c9 => ?_)
      · rw [if_pos c9] at hf
        have ep := Option.some.inj hf
        subst ep
        refine V_ls [(3, .int x3), (2, .int x2), (0, .ref t), (1, .int x1)] [0, 1, 2, 3] rfl ?_
        exact hk
      · rw [if_neg c9] at hf
        refine V_aload_n 2 21 rfl dX8_nameOf_20 rfl rfl ?_
        obtain ⟨q11, h10, hf⟩ := ob hf
        refine V_getQ (n := 27) (ty := tyX8) 24 h10 cf_7 rfl wd_fl_X8_27 dX8_nameOf_21 rfl ?_
        refine V_aload_n 2 25 rfl dX8_nameOf_24 rfl rfl ?_
        obtain ⟨v13, h12, hf⟩ := ob hf
        refine V_getI (n := 27) (ty := tyX8) 28 h12 cf_7 rfl wd_fl_X8_195 dX8_nameOf_25 rfl ?_
        obtain ⟨q15, h14, hf⟩ := ob hf
        refine V_aald (t := 4) 29 h14 (by decide) dX8_nameOf_28 rfl ?_
        refine V_iload_n 0 30 rfl dX8_nameOf_29 rfl rfl ?_
        obtain ⟨v17, h16, hf⟩ := ob hf
        refine V_callStr (rest := []) 0 0 33 [.int v17] (c_J0_charAt_5068e l G (d + 0) _ _ _ _ h16) (by omega) ok_J0_charAt_5068e okv_J0_charAt_5068e (gd_J0_charAt_5068e h16) rfl wd_ml_X8_201 rfl rfl (Nat.le_of_ble_eq_true rfl) rfl rfl (Or.inl ⟨rfl, rfl⟩) dX8_nameOf_30 rfl rfl ?_
        refine V_iload_n 3 34 rfl dX8_nameOf_33 rfl rfl ?_
        have kj18 : V mi_X8_nameOf l G (d + 5) 0 0 X 0 0 42 [(3, .int x3), (2, .int x2), (0, .ref t), (1, .int x1)] [.int (if v17 = x1 then x3 else x2 : Int32)] σ := by
          refine V_istore_n [(2, .int (if v17 = x1 then x3 else x2 : Int32)), (3, .int x3), (0, .ref t), (1, .int x1)] 43 dX8_nameOf_42 rfl (by decide) rfl rfl ?_
          refine V_iinc (x3 + 1) 1 [(3, .int (x3 + 1)), (2, .int (if v17 = x1 then x3 else x2 : Int32)), (0, .ref t), (1, .int x1)] 46 dX8_nameOf_43 rfl (by rw [kiconst_1]) (by decide) rfl rfl ?_
          refine V_goto 4 dX8_nameOf_46 (by decide) ?_
          refine V_ls [(3, .int (x3 + 1)), (2, .int (if v17 = x1 then x3 else x2 : Int32)), (0, .ref t), (1, .int x1)] [0, 1, 2, 3] rfl ?_
          exact ih _ _ _ hf hk
        refine V_icmp_ne 41 37 dX8_nameOf_34 (by decide) rfl (fun c19 => ?_) (fun c19 => ?_)
        · refine V_iload_n 1 42 rfl dX8_nameOf_41 rfl rfl ?_
          refine V_ls [(3, .int x3), (2, .int x2), (0, .ref t), (1, .int x1)] [0, 1, 2, 3] rfl ?_
          simp only [if_neg c19] at kj18
          exact kj18
        · refine V_iload_n 0 38 rfl dX8_nameOf_37 rfl rfl ?_
          refine V_goto 42 dX8_nameOf_38 (by decide) ?_
          refine V_ls [(3, .int x3), (2, .int x2), (0, .ref t), (1, .int x1)] [0, 1, 2, 3] rfl ?_
          simp only [if_pos c19] at kj18
          exact kj18
  by_cases hg : isO σ 7 t = true
  · rw [if_pos hg] at hf
    refine V_iconst (-1) 1 dX8_nameOf_0 rfl kiconst_m1 ?_
    refine V_istore_n [(2, .int (-1)), (0, .ref t), (1, .int a0)] 2 dX8_nameOf_1 rfl (by decide) rfl rfl ?_
    refine V_iconst 0 3 dX8_nameOf_2 rfl kiconst_0 ?_
    refine V_istore_n [(3, .int 0), (2, .int (-1)), (0, .ref t), (1, .int a0)] 4 dX8_nameOf_3 rfl (by decide) rfl rfl ?_
    obtain ⟨p20, h21, hf⟩ := ob hf
    refine V_ls [(3, .int 0), (2, .int (-1)), (0, .ref t), (1, .int a0)] [0, 1, 2, 3] rfl ?_
    refine L4 a0 3000 0 (-1) p20 h21 ?_
    refine V_iload_n 1 50 rfl dX8_nameOf_49 rfl rfl ?_
    have er := Option.some.inj hf
    subst er
    exact V_iret hQ rfl dX8_nameOf_50
  · rw [if_neg hg] at hf
    cases hf
abbrev mi_X8_compared : MI := (yX8_compared, cX8_compared, 2, none)
abbrev mi_X8_either : MI := (yX8_either, cX8_either, 2, none)
abbrev mi_X8_one : MI := (yX8_one, cX8_one, 4, none)
abbrev mi_X8_product : MI := (yX8_product, cX8_product, 2, none)
abbrev mi_X8_sum : MI := (yX8_sum, cX8_sum, 2, none)
abbrev mi_X8_text : MI := (yX8_text, cX8_text, 1, none)
theorem ok_X8_compared : OkN mi_X8_compared 0 := ⟨wd_cd_X8_compared, wd_in_X8, ⟨by decide +kernel, by decide +kernel, by decide +kernel⟩, by decide⟩
theorem okv_X8_compared : Cond.instanceMethod (mi_X8_compared).1 ∈ tb ∧ Cond.selects (mi_X8_compared).1.cls (mi_X8_compared).1 (mi_X8_compared).1 ∈ tb := ⟨wd_im_X8_compared, wd_se_X8_compared⟩
theorem ok_X8_either : OkN mi_X8_either 0 := ⟨wd_cd_X8_either, wd_in_X8, ⟨by decide +kernel, by decide +kernel, by decide +kernel⟩, by decide⟩
theorem okv_X8_either : Cond.instanceMethod (mi_X8_either).1 ∈ tb ∧ Cond.selects (mi_X8_either).1.cls (mi_X8_either).1 (mi_X8_either).1 ∈ tb := ⟨wd_im_X8_either, wd_se_X8_either⟩
theorem ok_X8_one : OkN mi_X8_one 0 := ⟨wd_cd_X8_one, wd_in_X8, ⟨by decide +kernel, by decide +kernel, by decide +kernel⟩, by decide⟩
theorem okv_X8_one : Cond.instanceMethod (mi_X8_one).1 ∈ tb ∧ Cond.selects (mi_X8_one).1.cls (mi_X8_one).1 (mi_X8_one).1 ∈ tb := ⟨wd_im_X8_one, wd_se_X8_one⟩
theorem ok_X8_product : OkN mi_X8_product 0 := ⟨wd_cd_X8_product, wd_in_X8, ⟨by decide +kernel, by decide +kernel, by decide +kernel⟩, by decide⟩
theorem okv_X8_product : Cond.instanceMethod (mi_X8_product).1 ∈ tb ∧ Cond.selects (mi_X8_product).1.cls (mi_X8_product).1 (mi_X8_product).1 ∈ tb := ⟨wd_im_X8_product, wd_se_X8_product⟩
theorem ok_X8_sum : OkN mi_X8_sum 0 := ⟨wd_cd_X8_sum, wd_in_X8, ⟨by decide +kernel, by decide +kernel, by decide +kernel⟩, by decide⟩
theorem okv_X8_sum : Cond.instanceMethod (mi_X8_sum).1 ∈ tb ∧ Cond.selects (mi_X8_sum).1.cls (mi_X8_sum).1 (mi_X8_sum).1 ∈ tb := ⟨wd_im_X8_sum, wd_se_X8_sum⟩
theorem ok_X8_text : OkN mi_X8_text 0 := ⟨wd_cd_X8_text, wd_in_X8, ⟨by decide +kernel, by decide +kernel, by decide +kernel⟩, by decide⟩
theorem okv_X8_text : Cond.instanceMethod (mi_X8_text).1 ∈ tb ∧ Cond.selects (mi_X8_text).1.cls (mi_X8_text).1 (mi_X8_text).1 ∈ tb := ⟨wd_im_X8_text, wd_se_X8_text⟩
def f_X8_compared (rc : Nat → List Int32 → St → Option (Int32 × St)) (σ : St) (t : Nat) : Option St := if isO σ 7 t = true then ((rc 4 [] σ).bind fun p3 => (f_X8_takes p3.2 t 60).bind fun p5 => if p5.1 = 0 then ((f_X8_takes p5.2 t 61).bind fun p8 => if p8.1 = 0 then ((f_X8_takes p8.2 t 62).bind fun p11 => if (if p11.1 = 0 then 0 else 20004 : Int32) ≤ 0 then (some p11.2) else ((rc 4 [] p11.2).bind fun p15 => (f_X8_codes p15.2 t (if p11.1 = 0 then 0 else 20004 : Int32)).bind fun s17 => some s17)) else ((rc 4 [] p8.2).bind fun p22 => (f_X8_codes p22.2 t 20003).bind fun s24 => some s24)) else ((rc 4 [] p5.2).bind fun p27 => (f_X8_codes p27.2 t 20002).bind fun s29 => some s29)) else none
def f_X8_either_L36 (rc : Nat → List Int32 → St → Option (Int32 × St)) (t : Nat) : Nat → Int32 → St → Option (Int32 × St)
  | 0, _, _ => none
  | n + 1, x1, σ => if x1 ≤ 0 then (some (x1, σ)) else ((rc 0 [] σ).bind fun p12 => (f_X8_codes p12.2 t x1).bind fun s14 => (f_X8_takes s14 t 38).bind fun p16 => if p16.1 = 0 then ((f_X8_takes p16.2 t 124).bind fun p19 => f_X8_either_L36 rc t n (if p19.1 = 0 then 0 else 20001 : Int32) p19.2) else (f_X8_either_L36 rc t n 20000 p16.2))
def f_X8_either (rc : Nat → List Int32 → St → Option (Int32 × St)) (σ : St) (t : Nat) : Option St := if isO σ 7 t = true then ((rc 0 [] σ).bind fun p3 => (f_X8_takes p3.2 t 38).bind fun p5 => if p5.1 = 0 then ((f_X8_takes p5.2 t 124).bind fun p8 => (f_X8_either_L36 rc t 3000 (if p8.1 = 0 then 0 else 20001 : Int32) p8.2).bind fun p22 => some p22.2) else ((f_X8_either_L36 rc t 3000 20000 p5.2).bind fun p26 => some p26.2)) else none
def f_X8_one_L119 (rc : Nat → List Int32 → St → Option (Int32 × St)) (t : Nat) : Nat → Int32 → Int32 → St → Option (Int32 × Int32 × St)
  | 0, _, _, _ => none
  | n + 1, x3, x2, σ => if 4 ≤ x3 then (some (x3, x2, σ)) else ((f_X8_here σ t).bind fun v80 => (f_X8_within σ v80 48 57).bind fun v82 => if v82 = 0 then (some (x3, x2, σ)) else ((f_X8_here σ t).bind fun v85 => (gI σ 7 t 5).bind fun v87 => (pI σ 7 t 5 (v87 + 1)).bind fun s89 => f_X8_one_L119 rc t n (x3 + 1) ((((10 : Int32) * x2) + v85) - 48) s89))
def f_X8_one (rc : Nat → List Int32 → St → Option (Int32 × St)) (σ : St) (t : Nat) : Option St := if isO σ 7 t = true then ((f_X8_here σ t).bind fun v2 => if v2 = 45 then ((gI σ 7 t 7).bind fun v5 => (pZ σ 7 t 9 (if v5 = 5 then 1 else 0 : Int32)).bind fun s7 => (gI s7 7 t 9).bind fun v9 => if v9 = 0 then ((gI s7 7 t 7).bind fun v12 => (pI s7 7 t 7 (v12 + 1)).bind fun s14 => (gI s14 7 t 5).bind fun v16 => (pI s14 7 t 5 (v16 + 1)).bind fun s18 => if v2 = 45 then ((rc 2 [] s18).bind fun p31 => (f_X8_codes p31.2 t 20010).bind fun s33 => (gI s33 7 t 7).bind fun v35 => (pI s33 7 t 7 (v35 - 1)).bind fun s37 => some s37) else ((rc 5 [] s18).bind fun p22 => (f_X8_must p22.2 t 41).bind fun s24 => (gI s24 7 t 7).bind fun v26 => (pI s24 7 t 7 (v26 - 1)).bind fun s28 => some s28)) else (some s7)) else (if v2 = 40 then ((gI σ 7 t 7).bind fun v95 => (pZ σ 7 t 9 (if v95 = 5 then 1 else 0 : Int32)).bind fun s97 => (gI s97 7 t 9).bind fun v99 => if v99 = 0 then ((gI s97 7 t 7).bind fun v102 => (pI s97 7 t 7 (v102 + 1)).bind fun s104 => (gI s104 7 t 5).bind fun v106 => (pI s104 7 t 5 (v106 + 1)).bind fun s108 => if v2 = 45 then ((rc 2 [] s108).bind fun p121 => (f_X8_codes p121.2 t 20010).bind fun s123 => (gI s123 7 t 7).bind fun v125 => (pI s123 7 t 7 (v125 - 1)).bind fun s127 => some s127) else ((rc 5 [] s108).bind fun p112 => (f_X8_must p112.2 t 41).bind fun s114 => (gI s114 7 t 7).bind fun v116 => (pI s114 7 t 7 (v116 - 1)).bind fun s118 => some s118)) else (some s97)) else ((f_X8_within σ v2 48 57).bind fun v42 => if v42 = 0 then (if 0 ≤ v2 then ((f_X8_nameOf σ t v2).bind fun v46 => (gI σ 7 t 9).bind fun v48 => (pZ σ 7 t 9 (if v48 = 0 then (if 0 ≤ v46 then 0 else 1) else 1 : Int32)).bind fun s50 => (gI s50 7 t 9).bind fun v52 => if v52 = 0 then ((f_X8_codes s50 t ((10000 : Int32) + v46)).bind fun s55 => (gI s55 7 t 5).bind fun v57 => (pI s55 7 t 5 (v57 + 1)).bind fun s59 => some s59) else (some s50)) else ((gI σ 7 t 9).bind fun v64 => (pZ σ 7 t 9 1).bind fun s66 => (gI s66 7 t 9).bind fun v68 => if v68 = 0 then ((f_X8_codes s66 t ((10000 : Int32) + (-1))).bind fun s71 => (gI s71 7 t 5).bind fun v73 => (pI s71 7 t 5 (v73 + 1)).bind fun s75 => some s75) else (some s66))) else ((f_X8_one_L119 rc t 3000 0 0 σ).bind fun p90 => (f_X8_codes p90.2.2 t p90.2.1).bind fun s93 => some s93)))) else none
def f_X8_product_L51 (rc : Nat → List Int32 → St → Option (Int32 × St)) (t : Nat) : Nat → Int32 → St → Option (Int32 × St)
  | 0, _, _ => none
  | n + 1, x1, σ => if x1 ≤ 0 then (some (x1, σ)) else ((rc 2 [] σ).bind fun p15 => (f_X8_codes p15.2 t x1).bind fun s17 => (f_X8_takes s17 t 42).bind fun p19 => if p19.1 = 0 then ((f_X8_takes p19.2 t 47).bind fun p22 => if p22.1 = 0 then ((f_X8_takes p22.2 t 37).bind fun p25 => f_X8_product_L51 rc t n (if p25.1 = 0 then 0 else 20009 : Int32) p25.2) else (f_X8_product_L51 rc t n 20008 p22.2)) else (f_X8_product_L51 rc t n 20007 p19.2))
def f_X8_product (rc : Nat → List Int32 → St → Option (Int32 × St)) (σ : St) (t : Nat) : Option St := if isO σ 7 t = true then ((rc 2 [] σ).bind fun p3 => (f_X8_takes p3.2 t 42).bind fun p5 => if p5.1 = 0 then ((f_X8_takes p5.2 t 47).bind fun p8 => if p8.1 = 0 then ((f_X8_takes p8.2 t 37).bind fun p11 => (f_X8_product_L51 rc t 3000 (if p11.1 = 0 then 0 else 20009 : Int32) p11.2).bind fun p28 => some p28.2) else ((f_X8_product_L51 rc t 3000 20008 p8.2).bind fun p32 => some p32.2)) else ((f_X8_product_L51 rc t 3000 20007 p5.2).bind fun p34 => some p34.2)) else none
def f_X8_sum_L36 (rc : Nat → List Int32 → St → Option (Int32 × St)) (t : Nat) : Nat → Int32 → St → Option (Int32 × St)
  | 0, _, _ => none
  | n + 1, x1, σ => if x1 ≤ 0 then (some (x1, σ)) else ((rc 3 [] σ).bind fun p12 => (f_X8_codes p12.2 t x1).bind fun s14 => (f_X8_takes s14 t 43).bind fun p16 => if p16.1 = 0 then ((f_X8_takes p16.2 t 45).bind fun p19 => f_X8_sum_L36 rc t n (if p19.1 = 0 then 0 else 20006 : Int32) p19.2) else (f_X8_sum_L36 rc t n 20005 p16.2))
def f_X8_sum (rc : Nat → List Int32 → St → Option (Int32 × St)) (σ : St) (t : Nat) : Option St := if isO σ 7 t = true then ((rc 3 [] σ).bind fun p3 => (f_X8_takes p3.2 t 43).bind fun p5 => if p5.1 = 0 then ((f_X8_takes p5.2 t 45).bind fun p8 => (f_X8_sum_L36 rc t 3000 (if p8.1 = 0 then 0 else 20006 : Int32) p8.2).bind fun p22 => some p22.2) else ((f_X8_sum_L36 rc t 3000 20005 p5.2).bind fun p26 => some p26.2)) else none
def f_X8_text (rc : Nat → List Int32 → St → Option (Int32 × St)) (σ : St) (t : Nat) : Option St := if isO σ 7 t = true then ((rc 1 [] σ).bind fun p3 => (f_X8_takes p3.2 t 63).bind fun p5 => if p5.1 = 0 then (some p5.2) else ((rc 1 [] p5.2).bind fun p9 => (f_X8_must p9.2 t 58).bind fun s11 => (rc 1 [] s11).bind fun p14 => (f_X8_codes p14.2 t 20011).bind fun s16 => some s16)) else none
theorem gd_f_X8_compared {rc : Nat → List Int32 → St → Option (Int32 × St)} {σ : St} {t : Nat} {r : St} (h : f_X8_compared rc σ t = some r) : isO σ 7 t = true := by
  unfold f_X8_compared at h
  by_cases hg : isO σ 7 t = true
  · exact hg
  · rw [if_neg hg] at h
    cases h
theorem gd_f_X8_either {rc : Nat → List Int32 → St → Option (Int32 × St)} {σ : St} {t : Nat} {r : St} (h : f_X8_either rc σ t = some r) : isO σ 7 t = true := by
  unfold f_X8_either at h
  by_cases hg : isO σ 7 t = true
  · exact hg
  · rw [if_neg hg] at h
    cases h
theorem gd_f_X8_one {rc : Nat → List Int32 → St → Option (Int32 × St)} {σ : St} {t : Nat} {r : St} (h : f_X8_one rc σ t = some r) : isO σ 7 t = true := by
  unfold f_X8_one at h
  by_cases hg : isO σ 7 t = true
  · exact hg
  · rw [if_neg hg] at h
    cases h
theorem gd_f_X8_product {rc : Nat → List Int32 → St → Option (Int32 × St)} {σ : St} {t : Nat} {r : St} (h : f_X8_product rc σ t = some r) : isO σ 7 t = true := by
  unfold f_X8_product at h
  by_cases hg : isO σ 7 t = true
  · exact hg
  · rw [if_neg hg] at h
    cases h
theorem gd_f_X8_sum {rc : Nat → List Int32 → St → Option (Int32 × St)} {σ : St} {t : Nat} {r : St} (h : f_X8_sum rc σ t = some r) : isO σ 7 t = true := by
  unfold f_X8_sum at h
  by_cases hg : isO σ 7 t = true
  · exact hg
  · rw [if_neg hg] at h
    cases h
theorem gd_f_X8_text {rc : Nat → List Int32 → St → Option (Int32 × St)} {σ : St} {t : Nat} {r : St} (h : f_X8_text rc σ t = some r) : isO σ 7 t = true := by
  unfold f_X8_text at h
  by_cases hg : isO σ 7 t = true
  · exact hg
  · rw [if_neg hg] at h
    cases h
def ds_X8_compared (rc : Nat → List Int32 → St → Option (Int32 × St)) (t : Nat) (j : Nat) (as : List Int32) (σ : St) : Option (Int32 × St) := match j, as with
  | 0, [] => (f_X8_compared rc σ t ).map fun s => (0, s)
  | 1, [] => (f_X8_either rc σ t ).map fun s => (0, s)
  | 2, [] => (f_X8_one rc σ t ).map fun s => (0, s)
  | 3, [] => (f_X8_product rc σ t ).map fun s => (0, s)
  | 4, [] => (f_X8_sum rc σ t ).map fun s => (0, s)
  | 5, [] => (f_X8_text rc σ t ).map fun s => (0, s)
  | _, _ => none
def rc_X8_compared (t : Nat) : Nat → Nat → List Int32 → St → Option (Int32 × St)
  | 0, _, _, _ => none
  | n + 1, j, as, σ => ds_X8_compared (rc_X8_compared t n) t j as σ
def CT_X8_compared (l : Launch) (G : Gd) (dr : Nat) (t : Nat) (j : Nat) (as : List Int32) (σ : St) (p : Int32 × St) : Prop := isO σ 7 t = true ∧ (j = 0 → as = [] → MetV l G dr mi_X8_compared [.ref t] σ none p.2 0 0) ∧ (j = 1 → as = [] → MetV l G dr mi_X8_either [.ref t] σ none p.2 0 0) ∧ (j = 2 → as = [] → MetV l G dr mi_X8_one [.ref t] σ none p.2 0 0) ∧ (j = 3 → as = [] → MetV l G dr mi_X8_product [.ref t] σ none p.2 0 0) ∧ (j = 4 → as = [] → MetV l G dr mi_X8_sum [.ref t] σ none p.2 0 0) ∧ (j = 5 → as = [] → MetV l G dr mi_X8_text [.ref t] σ none p.2 0 0)
set_option maxRecDepth 100000 in
set_option maxHeartbeats 4000000 in
theorem cb_X8_compared (l : Launch) (G : Gd) (dr : Nat) (rc : Nat → List Int32 → St → Option (Int32 × St)) (t : Nat) (ihr : ∀ j as σ p, rc j as σ = some p → CT_X8_compared l G dr t j as σ p) (σ : St)  (σ' : St) (hf : f_X8_compared rc σ t = some σ') : MetV l G (dr + 6) mi_X8_compared [.ref t] σ none σ' 0 0 := by
  unfold f_X8_compared at hf
  refine MetV.of [(0, .ref t)] (by decide +kernel) rfl (Nat.le_of_ble_eq_true rfl) ?_
  intro X hQ
  by_cases hg : isO σ 7 t = true
  · rw [if_pos hg] at hf
    refine V_aload_n 0 1 rfl dX8_compared_0 rfl rfl ?_
    obtain ⟨p3, h1, hf⟩ := ob hf
    refine V_callV (rest := []) (T := TX8) (n := 27) (ci := 7) 0 0 4 [] ((ihr 4 [] σ p3 h1).2.2.2.2.2.1 rfl  rfl) (by omega) ok_X8_sum okv_X8_sum (ihr 4 [] σ p3 h1).1 rfl wd_ml_X8_186 rfl rfl (Nat.le_of_ble_eq_true rfl) rfl rfl (Or.inl ⟨rfl, rfl⟩) dX8_compared_1 rfl rfl ?_
    refine V_aload_n 0 5 rfl dX8_compared_4 rfl rfl ?_
    refine V_bipush 60 7 dX8_compared_5 rfl kbipush_60 ?_
    obtain ⟨p5, h4, hf⟩ := ob hf
    refine V_callV (rest := []) (T := TX8) (n := 27) (ci := 7) 0 0 10 [.int p5.1] (c_X8_takes l G (dr + 3) _ _ _ _ _ h4) (by omega) ok_X8_takes okv_X8_takes (gd_X8_takes h4) rfl wd_ml_X8_170 rfl rfl (Nat.le_of_ble_eq_true rfl) rfl rfl (Or.inl ⟨rfl, rfl⟩) dX8_compared_7 rfl rfl ?_
    refine V_if_eq 19 13 dX8_compared_10 (by decide) rfl (fun c6 => ?_) (fun c6 => ?_)
    · rw [if_pos c6] at hf
      refine V_aload_n 0 20 rfl dX8_compared_19 rfl rfl ?_
      refine V_bipush 61 22 dX8_compared_20 rfl kbipush_61 ?_
      obtain ⟨p8, h7, hf⟩ := ob hf
      refine V_callV (rest := []) (T := TX8) (n := 27) (ci := 7) 0 0 25 [.int p8.1] (c_X8_takes l G (dr + 3) _ _ _ _ _ h7) (by omega) ok_X8_takes okv_X8_takes (gd_X8_takes h7) rfl wd_ml_X8_170 rfl rfl (Nat.le_of_ble_eq_true rfl) rfl rfl (Or.inl ⟨rfl, rfl⟩) dX8_compared_22 rfl rfl ?_
      refine V_if_eq 34 28 dX8_compared_25 (by decide) rfl (fun c9 => ?_) (fun c9 => ?_)
      · rw [if_pos c9] at hf
        refine V_aload_n 0 35 rfl dX8_compared_34 rfl rfl ?_
        refine V_bipush 62 37 dX8_compared_35 rfl kbipush_62 ?_
        obtain ⟨p11, h10, hf⟩ := ob hf
        refine V_callV (rest := []) (T := TX8) (n := 27) (ci := 7) 0 0 40 [.int p11.1] (c_X8_takes l G (dr + 3) _ _ _ _ _ h10) (by omega) ok_X8_takes okv_X8_takes (gd_X8_takes h10) rfl wd_ml_X8_170 rfl rfl (Nat.le_of_ble_eq_true rfl) rfl rfl (Or.inl ⟨rfl, rfl⟩) dX8_compared_37 rfl rfl ?_
        have kj18 : V mi_X8_compared l G (dr + 6) 0 0 X 0 0 50 [(0, .ref t)] [.int (if p11.1 = 0 then 0 else 20004 : Int32)] p11.2 := by
          refine V_istore_n [(1, .int (if p11.1 = 0 then 0 else 20004 : Int32)), (0, .ref t)] 51 dX8_compared_50 rfl (by decide) rfl rfl ?_
          refine V_iload_n 0 52 rfl dX8_compared_51 rfl rfl ?_
          refine V_if_le 64 55 dX8_compared_52 (by decide) rfl (fun c12 => ?_) (fun c12 => ?_)
          · rw [if_pos c12] at hf
            have er := Option.some.inj hf
            subst er
            exact V_vret hQ rfl dX8_compared_64
          · rw [if_neg c12] at hf
            refine V_aload_n 1 56 rfl dX8_compared_55 rfl rfl ?_
            obtain ⟨p15, h13, hf⟩ := ob hf
            refine V_callV (rest := []) (T := TX8) (n := 27) (ci := 7) 0 0 59 [] ((ihr 4 [] p11.2 p15 h13).2.2.2.2.2.1 rfl  rfl) (by omega) ok_X8_sum okv_X8_sum (ihr 4 [] p11.2 p15 h13).1 rfl wd_ml_X8_186 rfl rfl (Nat.le_of_ble_eq_true rfl) rfl rfl (Or.inl ⟨rfl, rfl⟩) dX8_compared_56 rfl rfl ?_
            refine V_aload_n 1 60 rfl dX8_compared_59 rfl rfl ?_
            refine V_iload_n 0 61 rfl dX8_compared_60 rfl rfl ?_
            obtain ⟨s17, h16, hf⟩ := ob hf
            refine V_callV (rest := []) (T := TX8) (n := 27) (ci := 7) 0 0 64 [] (c_X8_codes l G (dr + 4) _ _ _ _ h16) (by omega) ok_X8_codes okv_X8_codes (gd_X8_codes h16) rfl wd_ml_X8_180 rfl rfl (Nat.le_of_ble_eq_true rfl) rfl rfl (Or.inl ⟨rfl, rfl⟩) dX8_compared_61 rfl rfl ?_
            have er := Option.some.inj hf
            subst er
            exact V_vret hQ rfl dX8_compared_64
        refine V_if_eq 49 43 dX8_compared_40 (by decide) rfl (fun c19 => ?_) (fun c19 => ?_)
        · refine V_iconst 0 50 dX8_compared_49 rfl kiconst_0 ?_
          refine V_ls [(0, .ref t)] [0] rfl ?_
          simp only [if_pos c19] at kj18
          exact kj18
        · refine V_sipush 20004 46 dX8_compared_43 rfl ksipush_20004 ?_
          refine V_goto 50 dX8_compared_46 (by decide) ?_
          refine V_ls [(0, .ref t)] [0] rfl ?_
          simp only [if_neg c19] at kj18
          exact kj18
      · rw [if_neg c9] at hf
        refine V_sipush 20003 31 dX8_compared_28 rfl ksipush_20003 ?_
        refine V_goto 50 dX8_compared_31 (by decide) ?_
        refine V_istore_n [(1, .int 20003), (0, .ref t)] 51 dX8_compared_50 rfl (by decide) rfl rfl ?_
        refine V_iload_n 0 52 rfl dX8_compared_51 rfl rfl ?_
        refine V_if_le 64 55 dX8_compared_52 (by decide) rfl (fun hc => absurd hc (by decide)) (fun _ => ?_)
        refine V_aload_n 1 56 rfl dX8_compared_55 rfl rfl ?_
        obtain ⟨p22, h20, hf⟩ := ob hf
        refine V_callV (rest := []) (T := TX8) (n := 27) (ci := 7) 0 0 59 [] ((ihr 4 [] p8.2 p22 h20).2.2.2.2.2.1 rfl  rfl) (by omega) ok_X8_sum okv_X8_sum (ihr 4 [] p8.2 p22 h20).1 rfl wd_ml_X8_186 rfl rfl (Nat.le_of_ble_eq_true rfl) rfl rfl (Or.inl ⟨rfl, rfl⟩) dX8_compared_56 rfl rfl ?_
        refine V_aload_n 1 60 rfl dX8_compared_59 rfl rfl ?_
        refine V_iload_n 0 61 rfl dX8_compared_60 rfl rfl ?_
        obtain ⟨s24, h23, hf⟩ := ob hf
        refine V_callV (rest := []) (T := TX8) (n := 27) (ci := 7) 0 0 64 [] (c_X8_codes l G (dr + 4) _ _ _ _ h23) (by omega) ok_X8_codes okv_X8_codes (gd_X8_codes h23) rfl wd_ml_X8_180 rfl rfl (Nat.le_of_ble_eq_true rfl) rfl rfl (Or.inl ⟨rfl, rfl⟩) dX8_compared_61 rfl rfl ?_
        have er := Option.some.inj hf
        subst er
        exact V_vret hQ rfl dX8_compared_64
    · rw [if_neg c6] at hf
      refine V_sipush 20002 16 dX8_compared_13 rfl ksipush_20002 ?_
      refine V_goto 50 dX8_compared_16 (by decide) ?_
      refine V_istore_n [(1, .int 20002), (0, .ref t)] 51 dX8_compared_50 rfl (by decide) rfl rfl ?_
      refine V_iload_n 0 52 rfl dX8_compared_51 rfl rfl ?_
      refine V_if_le 64 55 dX8_compared_52 (by decide) rfl (fun hc => absurd hc (by decide)) (fun _ => ?_)
      refine V_aload_n 1 56 rfl dX8_compared_55 rfl rfl ?_
      obtain ⟨p27, h25, hf⟩ := ob hf
      refine V_callV (rest := []) (T := TX8) (n := 27) (ci := 7) 0 0 59 [] ((ihr 4 [] p5.2 p27 h25).2.2.2.2.2.1 rfl  rfl) (by omega) ok_X8_sum okv_X8_sum (ihr 4 [] p5.2 p27 h25).1 rfl wd_ml_X8_186 rfl rfl (Nat.le_of_ble_eq_true rfl) rfl rfl (Or.inl ⟨rfl, rfl⟩) dX8_compared_56 rfl rfl ?_
      refine V_aload_n 1 60 rfl dX8_compared_59 rfl rfl ?_
      refine V_iload_n 0 61 rfl dX8_compared_60 rfl rfl ?_
      obtain ⟨s29, h28, hf⟩ := ob hf
      refine V_callV (rest := []) (T := TX8) (n := 27) (ci := 7) 0 0 64 [] (c_X8_codes l G (dr + 4) _ _ _ _ h28) (by omega) ok_X8_codes okv_X8_codes (gd_X8_codes h28) rfl wd_ml_X8_180 rfl rfl (Nat.le_of_ble_eq_true rfl) rfl rfl (Or.inl ⟨rfl, rfl⟩) dX8_compared_61 rfl rfl ?_
      have er := Option.some.inj hf
      subst er
      exact V_vret hQ rfl dX8_compared_64
  · rw [if_neg hg] at hf
    cases hf
set_option maxRecDepth 100000 in
set_option maxHeartbeats 4000000 in
theorem cb_X8_either (l : Launch) (G : Gd) (dr : Nat) (rc : Nat → List Int32 → St → Option (Int32 × St)) (t : Nat) (ihr : ∀ j as σ p, rc j as σ = some p → CT_X8_compared l G dr t j as σ p) (σ : St)  (σ' : St) (hf : f_X8_either rc σ t = some σ') : MetV l G (dr + 6) mi_X8_either [.ref t] σ none σ' 0 0 := by
  unfold f_X8_either at hf
  refine MetV.of [(0, .ref t)] (by decide +kernel) rfl (Nat.le_of_ble_eq_true rfl) ?_
  intro X hQ
  have L36 : ∀  (n : Nat) (x1 : Int32) (σ : St) (p : Int32 × St), f_X8_either_L36 rc t n x1 σ = some p → V mi_X8_either l G (dr + 6) 0 0 X 0 0 84 [(1, .int p.1), (0, .ref t)] [] p.2 → V mi_X8_either l G (dr + 6) 0 0 X 0 0 36 [(1, .int x1), (0, .ref t)] [] σ := by
    intro  n
    induction n with
    | zero =>
      intro x1 σ p hf
      exact absurd (show (none : Option _) = some p from hf) (by simp)
    | succ n ih =>
      intro x1 σ p hf hk
      rw [f_X8_either_L36] at hf
      refine V_iload_n 0 37 rfl dX8_either_36 rfl rfl ?_
      refine V_if_le 84 40 dX8_either_37 (by decide) rfl (fun c9 => ?_) (fun c9 => ?_)
      · rw [if_pos c9] at hf
        have ep := Option.some.inj hf
        subst ep
        refine V_ls [(1, .int x1), (0, .ref t)] [0, 1] rfl ?_
        exact hk
      · rw [if_neg c9] at hf
        refine V_aload_n 1 41 rfl dX8_either_40 rfl rfl ?_
        obtain ⟨p12, h10, hf⟩ := ob hf
        refine V_callV (rest := []) (T := TX8) (n := 27) (ci := 7) 0 0 44 [] ((ihr 0 [] σ p12 h10).2.1 rfl  rfl) (by omega) ok_X8_compared okv_X8_compared (ihr 0 [] σ p12 h10).1 rfl wd_ml_X8_183 rfl rfl (Nat.le_of_ble_eq_true rfl) rfl rfl (Or.inl ⟨rfl, rfl⟩) dX8_either_41 rfl rfl ?_
        refine V_aload_n 1 45 rfl dX8_either_44 rfl rfl ?_
        refine V_iload_n 0 46 rfl dX8_either_45 rfl rfl ?_
        obtain ⟨s14, h13, hf⟩ := ob hf
        refine V_callV (rest := []) (T := TX8) (n := 27) (ci := 7) 0 0 49 [] (c_X8_codes l G (dr + 4) _ _ _ _ h13) (by omega) ok_X8_codes okv_X8_codes (gd_X8_codes h13) rfl wd_ml_X8_180 rfl rfl (Nat.le_of_ble_eq_true rfl) rfl rfl (Or.inl ⟨rfl, rfl⟩) dX8_either_46 rfl rfl ?_
        refine V_aload_n 1 50 rfl dX8_either_49 rfl rfl ?_
        refine V_bipush 38 52 dX8_either_50 rfl kbipush_38 ?_
        obtain ⟨p16, h15, hf⟩ := ob hf
        refine V_callV (rest := []) (T := TX8) (n := 27) (ci := 7) 0 0 55 [.int p16.1] (c_X8_takes l G (dr + 3) _ _ _ _ _ h15) (by omega) ok_X8_takes okv_X8_takes (gd_X8_takes h15) rfl wd_ml_X8_170 rfl rfl (Nat.le_of_ble_eq_true rfl) rfl rfl (Or.inl ⟨rfl, rfl⟩) dX8_either_52 rfl rfl ?_
        refine V_if_eq 64 58 dX8_either_55 (by decide) rfl (fun c17 => ?_) (fun c17 => ?_)
        · rw [if_pos c17] at hf
          refine V_aload_n 1 65 rfl dX8_either_64 rfl rfl ?_
          refine V_bipush 124 67 dX8_either_65 rfl kbipush_124 ?_
          obtain ⟨p19, h18, hf⟩ := ob hf
          refine V_callV (rest := []) (T := TX8) (n := 27) (ci := 7) 0 0 70 [.int p19.1] (c_X8_takes l G (dr + 3) _ _ _ _ _ h18) (by omega) ok_X8_takes okv_X8_takes (gd_X8_takes h18) rfl wd_ml_X8_170 rfl rfl (Nat.le_of_ble_eq_true rfl) rfl rfl (Or.inl ⟨rfl, rfl⟩) dX8_either_67 rfl rfl ?_
          have kj20 : V mi_X8_either l G (dr + 6) 0 0 X 0 0 80 [(1, .int x1), (0, .ref t)] [.int (if p19.1 = 0 then 0 else 20001 : Int32)] p19.2 := by
            refine V_istore_n [(1, .int (if p19.1 = 0 then 0 else 20001 : Int32)), (0, .ref t)] 81 dX8_either_80 rfl (by decide) rfl rfl ?_
            refine V_goto 36 dX8_either_81 (by decide) ?_
            refine V_ls [(1, .int (if p19.1 = 0 then 0 else 20001 : Int32)), (0, .ref t)] [0, 1] rfl ?_
            exact ih _ _ _ hf hk
          refine V_if_eq 79 73 dX8_either_70 (by decide) rfl (fun c21 => ?_) (fun c21 => ?_)
          · refine V_iconst 0 80 dX8_either_79 rfl kiconst_0 ?_
            refine V_ls [(1, .int x1), (0, .ref t)] [0, 1] rfl ?_
            simp only [if_pos c21] at kj20
            exact kj20
          · refine V_sipush 20001 76 dX8_either_73 rfl ksipush_20001 ?_
            refine V_goto 80 dX8_either_76 (by decide) ?_
            refine V_ls [(1, .int x1), (0, .ref t)] [0, 1] rfl ?_
            simp only [if_neg c21] at kj20
            exact kj20
        · rw [if_neg c17] at hf
          refine V_sipush 20000 61 dX8_either_58 rfl ksipush_20000 ?_
          refine V_goto 80 dX8_either_61 (by decide) ?_
          refine V_istore_n [(1, .int 20000), (0, .ref t)] 81 dX8_either_80 rfl (by decide) rfl rfl ?_
          refine V_goto 36 dX8_either_81 (by decide) ?_
          refine V_ls [(1, .int 20000), (0, .ref t)] [0, 1] rfl ?_
          exact ih _ _ _ hf hk
  by_cases hg : isO σ 7 t = true
  · rw [if_pos hg] at hf
    refine V_aload_n 0 1 rfl dX8_either_0 rfl rfl ?_
    obtain ⟨p3, h1, hf⟩ := ob hf
    refine V_callV (rest := []) (T := TX8) (n := 27) (ci := 7) 0 0 4 [] ((ihr 0 [] σ p3 h1).2.1 rfl  rfl) (by omega) ok_X8_compared okv_X8_compared (ihr 0 [] σ p3 h1).1 rfl wd_ml_X8_183 rfl rfl (Nat.le_of_ble_eq_true rfl) rfl rfl (Or.inl ⟨rfl, rfl⟩) dX8_either_1 rfl rfl ?_
    refine V_aload_n 0 5 rfl dX8_either_4 rfl rfl ?_
    refine V_bipush 38 7 dX8_either_5 rfl kbipush_38 ?_
    obtain ⟨p5, h4, hf⟩ := ob hf
    refine V_callV (rest := []) (T := TX8) (n := 27) (ci := 7) 0 0 10 [.int p5.1] (c_X8_takes l G (dr + 3) _ _ _ _ _ h4) (by omega) ok_X8_takes okv_X8_takes (gd_X8_takes h4) rfl wd_ml_X8_170 rfl rfl (Nat.le_of_ble_eq_true rfl) rfl rfl (Or.inl ⟨rfl, rfl⟩) dX8_either_7 rfl rfl ?_
    refine V_if_eq 19 13 dX8_either_10 (by decide) rfl (fun c6 => ?_) (fun c6 => ?_)
    · rw [if_pos c6] at hf
      refine V_aload_n 0 20 rfl dX8_either_19 rfl rfl ?_
      refine V_bipush 124 22 dX8_either_20 rfl kbipush_124 ?_
      obtain ⟨p8, h7, hf⟩ := ob hf
      refine V_callV (rest := []) (T := TX8) (n := 27) (ci := 7) 0 0 25 [.int p8.1] (c_X8_takes l G (dr + 3) _ _ _ _ _ h7) (by omega) ok_X8_takes okv_X8_takes (gd_X8_takes h7) rfl wd_ml_X8_170 rfl rfl (Nat.le_of_ble_eq_true rfl) rfl rfl (Or.inl ⟨rfl, rfl⟩) dX8_either_22 rfl rfl ?_
      have kj24 : V mi_X8_either l G (dr + 6) 0 0 X 0 0 35 [(0, .ref t)] [.int (if p8.1 = 0 then 0 else 20001 : Int32)] p8.2 := by
        refine V_istore_n [(1, .int (if p8.1 = 0 then 0 else 20001 : Int32)), (0, .ref t)] 36 dX8_either_35 rfl (by decide) rfl rfl ?_
        obtain ⟨p22, h23, hf⟩ := ob hf
        refine V_ls [(1, .int (if p8.1 = 0 then 0 else 20001 : Int32)), (0, .ref t)] [0, 1] rfl ?_
        refine L36 3000 (if p8.1 = 0 then 0 else 20001 : Int32) p8.2 p22 h23 ?_
        have er := Option.some.inj hf
        subst er
        exact V_vret hQ rfl dX8_either_84
      refine V_if_eq 34 28 dX8_either_25 (by decide) rfl (fun c25 => ?_) (fun c25 => ?_)
      · refine V_iconst 0 35 dX8_either_34 rfl kiconst_0 ?_
        refine V_ls [(0, .ref t)] [0] rfl ?_
        simp only [if_pos c25] at kj24
        exact kj24
      · refine V_sipush 20001 31 dX8_either_28 rfl ksipush_20001 ?_
        refine V_goto 35 dX8_either_31 (by decide) ?_
        refine V_ls [(0, .ref t)] [0] rfl ?_
        simp only [if_neg c25] at kj24
        exact kj24
    · rw [if_neg c6] at hf
      refine V_sipush 20000 16 dX8_either_13 rfl ksipush_20000 ?_
      refine V_goto 35 dX8_either_16 (by decide) ?_
      refine V_istore_n [(1, .int 20000), (0, .ref t)] 36 dX8_either_35 rfl (by decide) rfl rfl ?_
      obtain ⟨p26, h27, hf⟩ := ob hf
      refine V_ls [(1, .int 20000), (0, .ref t)] [0, 1] rfl ?_
      refine L36 3000 20000 p5.2 p26 h27 ?_
      have er := Option.some.inj hf
      subst er
      exact V_vret hQ rfl dX8_either_84
  · rw [if_neg hg] at hf
    cases hf
set_option maxRecDepth 100000 in
set_option maxHeartbeats 4000000 in
theorem cb_X8_one (l : Launch) (G : Gd) (dr : Nat) (rc : Nat → List Int32 → St → Option (Int32 × St)) (t : Nat) (ihr : ∀ j as σ p, rc j as σ = some p → CT_X8_compared l G dr t j as σ p) (σ : St)  (σ' : St) (hf : f_X8_one rc σ t = some σ') : MetV l G (dr + 6) mi_X8_one [.ref t] σ none σ' 0 0 := by
  unfold f_X8_one at hf
  refine MetV.of [(0, .ref t)] (by decide +kernel) rfl (Nat.le_of_ble_eq_true rfl) ?_
  intro X hQ
  have L119 : ∀  (n : Nat) (x3 : Int32) (x2 : Int32) (σ : St) (p : Int32 × Int32 × St), f_X8_one_L119 rc t n x3 x2 σ = some p → V mi_X8_one l G (dr + 6) 0 0 X 0 0 167 [(3, .int p.1), (2, .int p.2.1), (0, .ref t)] [] p.2.2 → V mi_X8_one l G (dr + 6) 0 0 X 0 0 119 [(3, .int x3), (2, .int x2), (0, .ref t)] [] σ := by
    intro  n
    induction n with
    | zero =>
      intro x3 x2 σ p hf
      exact absurd (show (none : Option _) = some p from hf) (by simp)
    | succ n ih =>
      intro x3 x2 σ p hf hk
      rw [f_X8_one_L119] at hf
      refine V_iload_n 0 120 rfl dX8_one_119 rfl rfl ?_
      refine V_iconst 4 121 dX8_one_120 rfl kiconst_4 ?_
      refine V_icmp_ge 167 124 dX8_one_121 (by decide) rfl (fun c78 => ?_) (fun c78 => ?_)
      · rw [if_pos c78] at hf
        have ep := Option.some.inj hf
        subst ep
        refine V_ls [(3, .int x3), (2, .int x2), (0, .ref t)] [0, 1, 2] rfl ?_
        exact hk
      · rw [if_neg c78] at hf
        refine V_aload_n 2 125 rfl dX8_one_124 rfl rfl ?_
        obtain ⟨v80, h79, hf⟩ := ob hf
        refine V_callV (rest := []) (T := TX8) (n := 27) (ci := 7) 0 0 128 [.int v80] (c_X8_here l G (dr + 4) _ _ _ h79) (by omega) ok_X8_here okv_X8_here (gd_X8_here h79) rfl wd_ml_X8_160 rfl rfl (Nat.le_of_ble_eq_true rfl) rfl rfl (Or.inl ⟨rfl, rfl⟩) dX8_one_125 rfl rfl ?_
        refine V_bipush 48 130 dX8_one_128 rfl kbipush_48 ?_
        refine V_bipush 57 132 dX8_one_130 rfl kbipush_57 ?_
        obtain ⟨v82, h81, hf⟩ := ob hf
        refine V_callS (rest := []) 0 0 135 [.int v82] (c_X8_within l G (dr + 4) _ _ _ _ _ h81) (by omega) ok_X8_within oks_X8_within wd_ml_X8_68 rfl rfl (Nat.le_of_ble_eq_true rfl) rfl rfl (Or.inl ⟨rfl, rfl⟩) dX8_one_132 rfl rfl ?_
        refine V_if_eq 167 138 dX8_one_135 (by decide) rfl (fun c83 => ?_) (fun c83 => ?_)
        · rw [if_pos c83] at hf
          have ep := Option.some.inj hf
          subst ep
          refine V_ls [(3, .int x3), (2, .int x2), (0, .ref t)] [0, 1, 2] rfl ?_
          exact hk
        · rw [if_neg c83] at hf
          refine V_bipush 10 140 dX8_one_138 rfl kbipush_10 ?_
          refine V_iload_n 1 141 rfl dX8_one_140 rfl rfl ?_
          refine V_imul 142 dX8_one_141 rfl ?_
          refine V_aload_n 2 143 rfl dX8_one_142 rfl rfl ?_
          obtain ⟨v85, h84, hf⟩ := ob hf
          refine V_callV (rest := [.int ((10 : Int32) * x2)]) (T := TX8) (n := 27) (ci := 7) 0 0 146 [.int v85, .int ((10 : Int32) * x2)] (c_X8_here l G (dr + 4) _ _ _ h84) (by omega) ok_X8_here okv_X8_here (gd_X8_here h84) rfl wd_ml_X8_160 rfl rfl (Nat.le_of_ble_eq_true rfl) rfl rfl (Or.inl ⟨rfl, rfl⟩) dX8_one_143 rfl rfl ?_
          refine V_iadd 147 dX8_one_146 rfl ?_
          refine V_bipush 48 149 dX8_one_147 rfl kbipush_48 ?_
          refine V_isub 150 dX8_one_149 rfl ?_
          refine V_istore_n [(2, .int ((((10 : Int32) * x2) + v85) - 48)), (3, .int x3), (0, .ref t)] 151 dX8_one_150 rfl (by decide) rfl rfl ?_
          refine V_aload_n 2 152 rfl dX8_one_151 rfl rfl ?_
          refine V_dup 153 dX8_one_152 rfl rfl ?_
          obtain ⟨v87, h86, hf⟩ := ob hf
          refine V_getI (n := 27) (ty := tyX8) 156 h86 cf_7 rfl wd_fl_X8_156 dX8_one_153 rfl ?_
          refine V_iconst 1 157 dX8_one_156 rfl kiconst_1 ?_
          refine V_iadd 158 dX8_one_157 rfl ?_
          obtain ⟨s89, h88, hf⟩ := ob hf
          refine V_putI (n := 27) (T := TX8) (ty := tyX8) (f := 5) 161 h88 cf_7 rfl rfl (Or.inl rfl) wd_fl_X8_156 dX8_one_158 rfl ?_
          refine V_iinc (x3 + 1) 1 [(3, .int (x3 + 1)), (2, .int ((((10 : Int32) * x2) + v85) - 48)), (0, .ref t)] 164 dX8_one_161 rfl (by rw [kiconst_1]) (by decide) rfl rfl ?_
          refine V_goto 119 dX8_one_164 (by decide) ?_
          refine V_ls [(3, .int (x3 + 1)), (2, .int ((((10 : Int32) * x2) + v85) - 48)), (0, .ref t)] [0, 1, 2] rfl ?_
          exact ih _ _ _ _ hf hk
  by_cases hg : isO σ 7 t = true
  · rw [if_pos hg] at hf
    refine V_aload_n 0 1 rfl dX8_one_0 rfl rfl ?_
    obtain ⟨v2, h1, hf⟩ := ob hf
    refine V_callV (rest := []) (T := TX8) (n := 27) (ci := 7) 0 0 4 [.int v2] (c_X8_here l G (dr + 4) _ _ _ h1) (by omega) ok_X8_here okv_X8_here (gd_X8_here h1) rfl wd_ml_X8_160 rfl rfl (Nat.le_of_ble_eq_true rfl) rfl rfl (Or.inl ⟨rfl, rfl⟩) dX8_one_1 rfl rfl ?_
    refine V_istore_n [(1, .int v2), (0, .ref t)] 5 dX8_one_4 rfl (by decide) rfl rfl ?_
    refine V_iload_n 0 6 rfl dX8_one_5 rfl rfl ?_
    refine V_bipush 45 8 dX8_one_6 rfl kbipush_45 ?_
    refine V_icmp_eq 17 11 dX8_one_8 (by decide) rfl (fun c3 => ?_) (fun c3 => ?_)
    · rw [if_pos c3] at hf
      refine V_aload_n 1 18 rfl dX8_one_17 rfl rfl ?_
      refine V_aload_n 1 19 rfl dX8_one_18 rfl rfl ?_
      obtain ⟨v5, h4, hf⟩ := ob hf
      refine V_getI (n := 27) (ty := tyX8) 22 h4 cf_7 rfl wd_fl_X8_205 dX8_one_19 rfl ?_
      refine V_iconst 5 23 dX8_one_22 rfl kiconst_5 ?_
      have kj38 : V mi_X8_one l G (dr + 6) 0 0 X 0 0 31 [(1, .int v2), (0, .ref t)] [.int (if v5 = 5 then 1 else 0 : Int32), .ref t] σ := by
        obtain ⟨s7, h6, hf⟩ := ob hf
        refine V_putZ (n := 27) (T := TX8) (ty := tyX8) (f := 9) 34 h6 cf_7 rfl rfl (Or.inl rfl) wd_fl_X8_152 dX8_one_31 rfl ?_
        refine V_aload_n 1 35 rfl dX8_one_34 rfl rfl ?_
        obtain ⟨v9, h8, hf⟩ := ob hf
        refine V_getI (n := 27) (ty := tyX8) 38 h8 cf_7 rfl wd_fl_X8_152 dX8_one_35 rfl ?_
        refine V_if_ne 235 41 dX8_one_38 (by decide) rfl (fun c10 => ?_) (fun c10 => ?_)
        · rw [if_neg c10] at hf
          have er := Option.some.inj hf
          subst er
          exact V_vret hQ rfl dX8_one_235
        · rw [if_pos c10] at hf
          refine V_aload_n 1 42 rfl dX8_one_41 rfl rfl ?_
          refine V_dup 43 dX8_one_42 rfl rfl ?_
          obtain ⟨v12, h11, hf⟩ := ob hf
          refine V_getI (n := 27) (ty := tyX8) 46 h11 cf_7 rfl wd_fl_X8_205 dX8_one_43 rfl ?_
          refine V_iconst 1 47 dX8_one_46 rfl kiconst_1 ?_
          refine V_iadd 48 dX8_one_47 rfl ?_
          obtain ⟨s14, h13, hf⟩ := ob hf
          refine V_putI (n := 27) (T := TX8) (ty := tyX8) (f := 7) 51 h13 cf_7 rfl rfl (Or.inl rfl) wd_fl_X8_205 dX8_one_48 rfl ?_
          refine V_aload_n 1 52 rfl dX8_one_51 rfl rfl ?_
          refine V_dup 53 dX8_one_52 rfl rfl ?_
          obtain ⟨v16, h15, hf⟩ := ob hf
          refine V_getI (n := 27) (ty := tyX8) 56 h15 cf_7 rfl wd_fl_X8_156 dX8_one_53 rfl ?_
          refine V_iconst 1 57 dX8_one_56 rfl kiconst_1 ?_
          refine V_iadd 58 dX8_one_57 rfl ?_
          obtain ⟨s18, h17, hf⟩ := ob hf
          refine V_putI (n := 27) (T := TX8) (ty := tyX8) (f := 5) 61 h17 cf_7 rfl rfl (Or.inl rfl) wd_fl_X8_156 dX8_one_58 rfl ?_
          refine V_iload_n 0 62 rfl dX8_one_61 rfl rfl ?_
          refine V_bipush 45 64 dX8_one_62 rfl kbipush_45 ?_
          refine V_icmp_ne 81 67 dX8_one_64 (by decide) rfl (fun c19 => ?_) (fun c19 => ?_)
          · rw [if_neg c19] at hf
            refine V_aload_n 1 82 rfl dX8_one_81 rfl rfl ?_
            obtain ⟨p22, h20, hf⟩ := ob hf
            refine V_callV (rest := []) (T := TX8) (n := 27) (ci := 7) 0 0 85 [] ((ihr 5 [] s18 p22 h20).2.2.2.2.2.2 rfl  rfl) (by omega) ok_X8_text okv_X8_text (ihr 5 [] s18 p22 h20).1 rfl wd_ml_X8_208 rfl rfl (Nat.le_of_ble_eq_true rfl) rfl rfl (Or.inl ⟨rfl, rfl⟩) dX8_one_82 rfl rfl ?_
            refine V_aload_n 1 86 rfl dX8_one_85 rfl rfl ?_
            refine V_bipush 41 88 dX8_one_86 rfl kbipush_41 ?_
            obtain ⟨s24, h23, hf⟩ := ob hf
            refine V_callV (rest := []) (T := TX8) (n := 27) (ci := 7) 0 0 91 [] (c_X8_must l G (dr + 2) _ _ _ _ h23) (by omega) ok_X8_must okv_X8_must (gd_X8_must h23) rfl wd_ml_X8_176 rfl rfl (Nat.le_of_ble_eq_true rfl) rfl rfl (Or.inl ⟨rfl, rfl⟩) dX8_one_88 rfl rfl ?_
            refine V_aload_n 1 92 rfl dX8_one_91 rfl rfl ?_
            refine V_dup 93 dX8_one_92 rfl rfl ?_
            obtain ⟨v26, h25, hf⟩ := ob hf
            refine V_getI (n := 27) (ty := tyX8) 96 h25 cf_7 rfl wd_fl_X8_205 dX8_one_93 rfl ?_
            refine V_iconst 1 97 dX8_one_96 rfl kiconst_1 ?_
            refine V_isub 98 dX8_one_97 rfl ?_
            obtain ⟨s28, h27, hf⟩ := ob hf
            refine V_putI (n := 27) (T := TX8) (ty := tyX8) (f := 7) 101 h27 cf_7 rfl rfl (Or.inl rfl) wd_fl_X8_205 dX8_one_98 rfl ?_
            refine V_goto 235 dX8_one_101 (by decide) ?_
            have er := Option.some.inj hf
            subst er
            exact V_vret hQ rfl dX8_one_235
          · rw [if_pos c19] at hf
            refine V_aload_n 1 68 rfl dX8_one_67 rfl rfl ?_
            obtain ⟨p31, h29, hf⟩ := ob hf
            refine V_callV (rest := []) (T := TX8) (n := 27) (ci := 7) 0 0 71 [] ((ihr 2 [] s18 p31 h29).2.2.2.1 rfl  rfl) (by omega) ok_X8_one okv_X8_one (ihr 2 [] s18 p31 h29).1 rfl wd_ml_X8_192 rfl rfl (Nat.le_of_ble_eq_true rfl) rfl rfl (Or.inl ⟨rfl, rfl⟩) dX8_one_68 rfl rfl ?_
            refine V_aload_n 1 72 rfl dX8_one_71 rfl rfl ?_
            refine V_sipush 20010 75 dX8_one_72 rfl ksipush_20010 ?_
            obtain ⟨s33, h32, hf⟩ := ob hf
            refine V_callV (rest := []) (T := TX8) (n := 27) (ci := 7) 0 0 78 [] (c_X8_codes l G (dr + 4) _ _ _ _ h32) (by omega) ok_X8_codes okv_X8_codes (gd_X8_codes h32) rfl wd_ml_X8_180 rfl rfl (Nat.le_of_ble_eq_true rfl) rfl rfl (Or.inl ⟨rfl, rfl⟩) dX8_one_75 rfl rfl ?_
            refine V_goto 91 dX8_one_78 (by decide) ?_
            refine V_aload_n 1 92 rfl dX8_one_91 rfl rfl ?_
            refine V_dup 93 dX8_one_92 rfl rfl ?_
            obtain ⟨v35, h34, hf⟩ := ob hf
            refine V_getI (n := 27) (ty := tyX8) 96 h34 cf_7 rfl wd_fl_X8_205 dX8_one_93 rfl ?_
            refine V_iconst 1 97 dX8_one_96 rfl kiconst_1 ?_
            refine V_isub 98 dX8_one_97 rfl ?_
            obtain ⟨s37, h36, hf⟩ := ob hf
            refine V_putI (n := 27) (T := TX8) (ty := tyX8) (f := 7) 101 h36 cf_7 rfl rfl (Or.inl rfl) wd_fl_X8_205 dX8_one_98 rfl ?_
            refine V_goto 235 dX8_one_101 (by decide) ?_
            have er := Option.some.inj hf
            subst er
            exact V_vret hQ rfl dX8_one_235
      refine V_icmp_ne 30 26 dX8_one_23 (by decide) rfl (fun c39 => ?_) (fun c39 => ?_)
      · refine V_iconst 0 31 dX8_one_30 rfl kiconst_0 ?_
        refine V_ls [(1, .int v2), (0, .ref t)] [0, 1] rfl ?_
        simp only [if_neg c39] at kj38
        exact kj38
      · refine V_iconst 1 27 dX8_one_26 rfl kiconst_1 ?_
        refine V_goto 31 dX8_one_27 (by decide) ?_
        refine V_ls [(1, .int v2), (0, .ref t)] [0, 1] rfl ?_
        simp only [if_pos c39] at kj38
        exact kj38
    · rw [if_neg c3] at hf
      refine V_iload_n 0 12 rfl dX8_one_11 rfl rfl ?_
      refine V_bipush 40 14 dX8_one_12 rfl kbipush_40 ?_
      refine V_icmp_ne 104 17 dX8_one_14 (by decide) rfl (fun c40 => ?_) (fun c40 => ?_)
      · rw [if_neg c40] at hf
        refine V_iload_n 0 105 rfl dX8_one_104 rfl rfl ?_
        refine V_bipush 48 107 dX8_one_105 rfl kbipush_48 ?_
        refine V_bipush 57 109 dX8_one_107 rfl kbipush_57 ?_
        obtain ⟨v42, h41, hf⟩ := ob hf
        refine V_callS (rest := []) 0 0 112 [.int v42] (c_X8_within l G (dr + 4) _ _ _ _ _ h41) (by omega) ok_X8_within oks_X8_within wd_ml_X8_68 rfl rfl (Nat.le_of_ble_eq_true rfl) rfl rfl (Or.inl ⟨rfl, rfl⟩) dX8_one_109 rfl rfl ?_
        refine V_if_eq 175 115 dX8_one_112 (by decide) rfl (fun c43 => ?_) (fun c43 => ?_)
        · rw [if_pos c43] at hf
          refine V_iload_n 0 176 rfl dX8_one_175 rfl rfl ?_
          refine V_if_ge 183 179 dX8_one_176 (by decide) rfl (fun c44 => ?_) (fun c44 => ?_)
          · rw [if_pos c44] at hf
            refine V_aload_n 1 184 rfl dX8_one_183 rfl rfl ?_
            refine V_iload_n 0 185 rfl dX8_one_184 rfl rfl ?_
            obtain ⟨v46, h45, hf⟩ := ob hf
            refine V_callV (rest := []) (T := TX8) (n := 27) (ci := 7) 0 0 188 [.int v46] (c_X8_nameOf l G (dr + 0) _ _ _ _ h45) (by omega) ok_X8_nameOf okv_X8_nameOf (gd_X8_nameOf h45) rfl wd_ml_X8_211 rfl rfl (Nat.le_of_ble_eq_true rfl) rfl rfl (Or.inl ⟨rfl, rfl⟩) dX8_one_185 rfl rfl ?_
            refine V_istore_n [(2, .int v46), (1, .int v2), (0, .ref t)] 189 dX8_one_188 rfl (by decide) rfl rfl ?_
            refine V_aload_n 2 190 rfl dX8_one_189 rfl rfl ?_
            refine V_aload_n 2 191 rfl dX8_one_190 rfl rfl ?_
            obtain ⟨v48, h47, hf⟩ := ob hf
            refine V_getI (n := 27) (ty := tyX8) 194 h47 cf_7 rfl wd_fl_X8_152 dX8_one_191 rfl ?_
            have kj60 : V mi_X8_one l G (dr + 6) 0 0 X 0 0 206 [(2, .int v46), (1, .int v2), (0, .ref t)] [.int (if v48 = 0 then (if 0 ≤ v46 then 0 else 1) else 1 : Int32), .ref t] σ := by
              obtain ⟨s50, h49, hf⟩ := ob hf
              refine V_putZ (n := 27) (T := TX8) (ty := tyX8) (f := 9) 209 h49 cf_7 rfl rfl (Or.inl rfl) wd_fl_X8_152 dX8_one_206 rfl ?_
              refine V_aload_n 2 210 rfl dX8_one_209 rfl rfl ?_
              obtain ⟨v52, h51, hf⟩ := ob hf
              refine V_getI (n := 27) (ty := tyX8) 213 h51 cf_7 rfl wd_fl_X8_152 dX8_one_210 rfl ?_
              refine V_if_ne 235 216 dX8_one_213 (by decide) rfl (fun c53 => ?_) (fun c53 => ?_)
              · rw [if_neg c53] at hf
                have er := Option.some.inj hf
                subst er
                exact V_vret hQ rfl dX8_one_235
              · rw [if_pos c53] at hf
                refine V_aload_n 2 217 rfl dX8_one_216 rfl rfl ?_
                refine V_sipush 10000 220 dX8_one_217 rfl ksipush_10000 ?_
                refine V_iload_n 0 221 rfl dX8_one_220 rfl rfl ?_
                refine V_iadd 222 dX8_one_221 rfl ?_
                obtain ⟨s55, h54, hf⟩ := ob hf
                refine V_callV (rest := []) (T := TX8) (n := 27) (ci := 7) 0 0 225 [] (c_X8_codes l G (dr + 4) _ _ _ _ h54) (by omega) ok_X8_codes okv_X8_codes (gd_X8_codes h54) rfl wd_ml_X8_180 rfl rfl (Nat.le_of_ble_eq_true rfl) rfl rfl (Or.inl ⟨rfl, rfl⟩) dX8_one_222 rfl rfl ?_
                refine V_aload_n 2 226 rfl dX8_one_225 rfl rfl ?_
                refine V_dup 227 dX8_one_226 rfl rfl ?_
                obtain ⟨v57, h56, hf⟩ := ob hf
                refine V_getI (n := 27) (ty := tyX8) 230 h56 cf_7 rfl wd_fl_X8_156 dX8_one_227 rfl ?_
                refine V_iconst 1 231 dX8_one_230 rfl kiconst_1 ?_
                refine V_iadd 232 dX8_one_231 rfl ?_
                obtain ⟨s59, h58, hf⟩ := ob hf
                refine V_putI (n := 27) (T := TX8) (ty := tyX8) (f := 5) 235 h58 cf_7 rfl rfl (Or.inl rfl) wd_fl_X8_156 dX8_one_232 rfl ?_
                have er := Option.some.inj hf
                subst er
                exact V_vret hQ rfl dX8_one_235
            refine V_if_ne 201 197 dX8_one_194 (by decide) rfl (fun c61 => ?_) (fun c61 => ?_)
            · refine V_iconst 1 202 dX8_one_201 rfl kiconst_1 ?_
              refine V_goto 206 dX8_one_202 (by decide) ?_
              refine V_ls [(2, .int v46), (1, .int v2), (0, .ref t)] [0, 1, 2] rfl ?_
              simp only [if_neg c61] at kj60
              exact kj60
            · refine V_iload_n 0 198 rfl dX8_one_197 rfl rfl ?_
              refine V_if_ge 205 201 dX8_one_198 (by decide) rfl (fun c62 => ?_) (fun c62 => ?_)
              · refine V_iconst 0 206 dX8_one_205 rfl kiconst_0 ?_
                refine V_ls [(2, .int v46), (1, .int v2), (0, .ref t)] [0, 1, 2] rfl ?_
                simp only [if_pos c61, if_pos c62] at kj60
                exact kj60
              · refine V_iconst 1 202 dX8_one_201 rfl kiconst_1 ?_
                refine V_goto 206 dX8_one_202 (by decide) ?_
                refine V_ls [(2, .int v46), (1, .int v2), (0, .ref t)] [0, 1, 2] rfl ?_
                simp only [if_pos c61, if_neg c62] at kj60
                exact kj60
          · rw [if_neg c44] at hf
            refine V_iconst (-1) 180 dX8_one_179 rfl kiconst_m1 ?_
            refine V_goto 188 dX8_one_180 (by decide) ?_
            refine V_istore_n [(2, .int (-1)), (1, .int v2), (0, .ref t)] 189 dX8_one_188 rfl (by decide) rfl rfl ?_
            refine V_aload_n 2 190 rfl dX8_one_189 rfl rfl ?_
            refine V_aload_n 2 191 rfl dX8_one_190 rfl rfl ?_
            obtain ⟨v64, h63, hf⟩ := ob hf
            refine V_getI (n := 27) (ty := tyX8) 194 h63 cf_7 rfl wd_fl_X8_152 dX8_one_191 rfl ?_
            have kj76 : V mi_X8_one l G (dr + 6) 0 0 X 0 0 206 [(2, .int (-1)), (1, .int v2), (0, .ref t)] [.int 1, .ref t] σ := by
              obtain ⟨s66, h65, hf⟩ := ob hf
              refine V_putZ (n := 27) (T := TX8) (ty := tyX8) (f := 9) 209 h65 cf_7 rfl rfl (Or.inl rfl) wd_fl_X8_152 dX8_one_206 rfl ?_
              refine V_aload_n 2 210 rfl dX8_one_209 rfl rfl ?_
              obtain ⟨v68, h67, hf⟩ := ob hf
              refine V_getI (n := 27) (ty := tyX8) 213 h67 cf_7 rfl wd_fl_X8_152 dX8_one_210 rfl ?_
              refine V_if_ne 235 216 dX8_one_213 (by decide) rfl (fun c69 => ?_) (fun c69 => ?_)
              · rw [if_neg c69] at hf
                have er := Option.some.inj hf
                subst er
                exact V_vret hQ rfl dX8_one_235
              · rw [if_pos c69] at hf
                refine V_aload_n 2 217 rfl dX8_one_216 rfl rfl ?_
                refine V_sipush 10000 220 dX8_one_217 rfl ksipush_10000 ?_
                refine V_iload_n 0 221 rfl dX8_one_220 rfl rfl ?_
                refine V_iadd 222 dX8_one_221 rfl ?_
                obtain ⟨s71, h70, hf⟩ := ob hf
                refine V_callV (rest := []) (T := TX8) (n := 27) (ci := 7) 0 0 225 [] (c_X8_codes l G (dr + 4) _ _ _ _ h70) (by omega) ok_X8_codes okv_X8_codes (gd_X8_codes h70) rfl wd_ml_X8_180 rfl rfl (Nat.le_of_ble_eq_true rfl) rfl rfl (Or.inl ⟨rfl, rfl⟩) dX8_one_222 rfl rfl ?_
                refine V_aload_n 2 226 rfl dX8_one_225 rfl rfl ?_
                refine V_dup 227 dX8_one_226 rfl rfl ?_
                obtain ⟨v73, h72, hf⟩ := ob hf
                refine V_getI (n := 27) (ty := tyX8) 230 h72 cf_7 rfl wd_fl_X8_156 dX8_one_227 rfl ?_
                refine V_iconst 1 231 dX8_one_230 rfl kiconst_1 ?_
                refine V_iadd 232 dX8_one_231 rfl ?_
                obtain ⟨s75, h74, hf⟩ := ob hf
                refine V_putI (n := 27) (T := TX8) (ty := tyX8) (f := 5) 235 h74 cf_7 rfl rfl (Or.inl rfl) wd_fl_X8_156 dX8_one_232 rfl ?_
                have er := Option.some.inj hf
                subst er
                exact V_vret hQ rfl dX8_one_235
            refine V_if_ne 201 197 dX8_one_194 (by decide) rfl (fun c77 => ?_) (fun c77 => ?_)
            · refine V_iconst 1 202 dX8_one_201 rfl kiconst_1 ?_
              refine V_goto 206 dX8_one_202 (by decide) ?_
              refine V_ls [(2, .int (-1)), (1, .int v2), (0, .ref t)] [0, 1, 2] rfl ?_
              exact kj76
            · refine V_iload_n 0 198 rfl dX8_one_197 rfl rfl ?_
              refine V_if_ge 205 201 dX8_one_198 (by decide) rfl (fun hc => absurd hc (by decide)) (fun _ => ?_)
              refine V_iconst 1 202 dX8_one_201 rfl kiconst_1 ?_
              refine V_goto 206 dX8_one_202 (by decide) ?_
              refine V_ls [(2, .int (-1)), (1, .int v2), (0, .ref t)] [0, 1, 2] rfl ?_
              exact kj76
        · rw [if_neg c43] at hf
          refine V_iconst 0 116 dX8_one_115 rfl kiconst_0 ?_
          refine V_istore_n [(2, .int 0), (1, .int v2), (0, .ref t)] 117 dX8_one_116 rfl (by decide) rfl rfl ?_
          refine V_iconst 0 118 dX8_one_117 rfl kiconst_0 ?_
          refine V_istore_n [(3, .int 0), (2, .int 0), (1, .int v2), (0, .ref t)] 119 dX8_one_118 rfl (by decide) rfl rfl ?_
          obtain ⟨p90, h91, hf⟩ := ob hf
          refine V_ls [(3, .int 0), (2, .int 0), (0, .ref t)] [0, 1, 3] rfl ?_
          refine L119 3000 0 0 σ p90 h91 ?_
          refine V_aload_n 2 168 rfl dX8_one_167 rfl rfl ?_
          refine V_iload_n 1 169 rfl dX8_one_168 rfl rfl ?_
          obtain ⟨s93, h92, hf⟩ := ob hf
          refine V_callV (rest := []) (T := TX8) (n := 27) (ci := 7) 0 0 172 [] (c_X8_codes l G (dr + 4) _ _ _ _ h92) (by omega) ok_X8_codes okv_X8_codes (gd_X8_codes h92) rfl wd_ml_X8_180 rfl rfl (Nat.le_of_ble_eq_true rfl) rfl rfl (Or.inl ⟨rfl, rfl⟩) dX8_one_169 rfl rfl ?_
          refine V_goto 235 dX8_one_172 (by decide) ?_
          have er := Option.some.inj hf
          subst er
          exact V_vret hQ rfl dX8_one_235
      · rw [if_pos c40] at hf
        refine V_aload_n 1 18 rfl dX8_one_17 rfl rfl ?_
        refine V_aload_n 1 19 rfl dX8_one_18 rfl rfl ?_
        obtain ⟨v95, h94, hf⟩ := ob hf
        refine V_getI (n := 27) (ty := tyX8) 22 h94 cf_7 rfl wd_fl_X8_205 dX8_one_19 rfl ?_
        refine V_iconst 5 23 dX8_one_22 rfl kiconst_5 ?_
        have kj128 : V mi_X8_one l G (dr + 6) 0 0 X 0 0 31 [(1, .int v2), (0, .ref t)] [.int (if v95 = 5 then 1 else 0 : Int32), .ref t] σ := by
          obtain ⟨s97, h96, hf⟩ := ob hf
          refine V_putZ (n := 27) (T := TX8) (ty := tyX8) (f := 9) 34 h96 cf_7 rfl rfl (Or.inl rfl) wd_fl_X8_152 dX8_one_31 rfl ?_
          refine V_aload_n 1 35 rfl dX8_one_34 rfl rfl ?_
          obtain ⟨v99, h98, hf⟩ := ob hf
          refine V_getI (n := 27) (ty := tyX8) 38 h98 cf_7 rfl wd_fl_X8_152 dX8_one_35 rfl ?_
          refine V_if_ne 235 41 dX8_one_38 (by decide) rfl (fun c100 => ?_) (fun c100 => ?_)
          · rw [if_neg c100] at hf
            have er := Option.some.inj hf
            subst er
            exact V_vret hQ rfl dX8_one_235
          · rw [if_pos c100] at hf
            refine V_aload_n 1 42 rfl dX8_one_41 rfl rfl ?_
            refine V_dup 43 dX8_one_42 rfl rfl ?_
            obtain ⟨v102, h101, hf⟩ := ob hf
            refine V_getI (n := 27) (ty := tyX8) 46 h101 cf_7 rfl wd_fl_X8_205 dX8_one_43 rfl ?_
            refine V_iconst 1 47 dX8_one_46 rfl kiconst_1 ?_
            refine V_iadd 48 dX8_one_47 rfl ?_
            obtain ⟨s104, h103, hf⟩ := ob hf
            refine V_putI (n := 27) (T := TX8) (ty := tyX8) (f := 7) 51 h103 cf_7 rfl rfl (Or.inl rfl) wd_fl_X8_205 dX8_one_48 rfl ?_
            refine V_aload_n 1 52 rfl dX8_one_51 rfl rfl ?_
            refine V_dup 53 dX8_one_52 rfl rfl ?_
            obtain ⟨v106, h105, hf⟩ := ob hf
            refine V_getI (n := 27) (ty := tyX8) 56 h105 cf_7 rfl wd_fl_X8_156 dX8_one_53 rfl ?_
            refine V_iconst 1 57 dX8_one_56 rfl kiconst_1 ?_
            refine V_iadd 58 dX8_one_57 rfl ?_
            obtain ⟨s108, h107, hf⟩ := ob hf
            refine V_putI (n := 27) (T := TX8) (ty := tyX8) (f := 5) 61 h107 cf_7 rfl rfl (Or.inl rfl) wd_fl_X8_156 dX8_one_58 rfl ?_
            refine V_iload_n 0 62 rfl dX8_one_61 rfl rfl ?_
            refine V_bipush 45 64 dX8_one_62 rfl kbipush_45 ?_
            refine V_icmp_ne 81 67 dX8_one_64 (by decide) rfl (fun c109 => ?_) (fun c109 => ?_)
            · rw [if_neg c109] at hf
              refine V_aload_n 1 82 rfl dX8_one_81 rfl rfl ?_
              obtain ⟨p112, h110, hf⟩ := ob hf
              refine V_callV (rest := []) (T := TX8) (n := 27) (ci := 7) 0 0 85 [] ((ihr 5 [] s108 p112 h110).2.2.2.2.2.2 rfl  rfl) (by omega) ok_X8_text okv_X8_text (ihr 5 [] s108 p112 h110).1 rfl wd_ml_X8_208 rfl rfl (Nat.le_of_ble_eq_true rfl) rfl rfl (Or.inl ⟨rfl, rfl⟩) dX8_one_82 rfl rfl ?_
              refine V_aload_n 1 86 rfl dX8_one_85 rfl rfl ?_
              refine V_bipush 41 88 dX8_one_86 rfl kbipush_41 ?_
              obtain ⟨s114, h113, hf⟩ := ob hf
              refine V_callV (rest := []) (T := TX8) (n := 27) (ci := 7) 0 0 91 [] (c_X8_must l G (dr + 2) _ _ _ _ h113) (by omega) ok_X8_must okv_X8_must (gd_X8_must h113) rfl wd_ml_X8_176 rfl rfl (Nat.le_of_ble_eq_true rfl) rfl rfl (Or.inl ⟨rfl, rfl⟩) dX8_one_88 rfl rfl ?_
              refine V_aload_n 1 92 rfl dX8_one_91 rfl rfl ?_
              refine V_dup 93 dX8_one_92 rfl rfl ?_
              obtain ⟨v116, h115, hf⟩ := ob hf
              refine V_getI (n := 27) (ty := tyX8) 96 h115 cf_7 rfl wd_fl_X8_205 dX8_one_93 rfl ?_
              refine V_iconst 1 97 dX8_one_96 rfl kiconst_1 ?_
              refine V_isub 98 dX8_one_97 rfl ?_
              obtain ⟨s118, h117, hf⟩ := ob hf
              refine V_putI (n := 27) (T := TX8) (ty := tyX8) (f := 7) 101 h117 cf_7 rfl rfl (Or.inl rfl) wd_fl_X8_205 dX8_one_98 rfl ?_
              refine V_goto 235 dX8_one_101 (by decide) ?_
              have er := Option.some.inj hf
              subst er
              exact V_vret hQ rfl dX8_one_235
            · rw [if_pos c109] at hf
              refine V_aload_n 1 68 rfl dX8_one_67 rfl rfl ?_
              obtain ⟨p121, h119, hf⟩ := ob hf
              refine V_callV (rest := []) (T := TX8) (n := 27) (ci := 7) 0 0 71 [] ((ihr 2 [] s108 p121 h119).2.2.2.1 rfl  rfl) (by omega) ok_X8_one okv_X8_one (ihr 2 [] s108 p121 h119).1 rfl wd_ml_X8_192 rfl rfl (Nat.le_of_ble_eq_true rfl) rfl rfl (Or.inl ⟨rfl, rfl⟩) dX8_one_68 rfl rfl ?_
              refine V_aload_n 1 72 rfl dX8_one_71 rfl rfl ?_
              refine V_sipush 20010 75 dX8_one_72 rfl ksipush_20010 ?_
              obtain ⟨s123, h122, hf⟩ := ob hf
              refine V_callV (rest := []) (T := TX8) (n := 27) (ci := 7) 0 0 78 [] (c_X8_codes l G (dr + 4) _ _ _ _ h122) (by omega) ok_X8_codes okv_X8_codes (gd_X8_codes h122) rfl wd_ml_X8_180 rfl rfl (Nat.le_of_ble_eq_true rfl) rfl rfl (Or.inl ⟨rfl, rfl⟩) dX8_one_75 rfl rfl ?_
              refine V_goto 91 dX8_one_78 (by decide) ?_
              refine V_aload_n 1 92 rfl dX8_one_91 rfl rfl ?_
              refine V_dup 93 dX8_one_92 rfl rfl ?_
              obtain ⟨v125, h124, hf⟩ := ob hf
              refine V_getI (n := 27) (ty := tyX8) 96 h124 cf_7 rfl wd_fl_X8_205 dX8_one_93 rfl ?_
              refine V_iconst 1 97 dX8_one_96 rfl kiconst_1 ?_
              refine V_isub 98 dX8_one_97 rfl ?_
              obtain ⟨s127, h126, hf⟩ := ob hf
              refine V_putI (n := 27) (T := TX8) (ty := tyX8) (f := 7) 101 h126 cf_7 rfl rfl (Or.inl rfl) wd_fl_X8_205 dX8_one_98 rfl ?_
              refine V_goto 235 dX8_one_101 (by decide) ?_
              have er := Option.some.inj hf
              subst er
              exact V_vret hQ rfl dX8_one_235
        refine V_icmp_ne 30 26 dX8_one_23 (by decide) rfl (fun c129 => ?_) (fun c129 => ?_)
        · refine V_iconst 0 31 dX8_one_30 rfl kiconst_0 ?_
          refine V_ls [(1, .int v2), (0, .ref t)] [0, 1] rfl ?_
          simp only [if_neg c129] at kj128
          exact kj128
        · refine V_iconst 1 27 dX8_one_26 rfl kiconst_1 ?_
          refine V_goto 31 dX8_one_27 (by decide) ?_
          refine V_ls [(1, .int v2), (0, .ref t)] [0, 1] rfl ?_
          simp only [if_pos c129] at kj128
          exact kj128
  · rw [if_neg hg] at hf
    cases hf
set_option maxRecDepth 100000 in
set_option maxHeartbeats 4000000 in
theorem cb_X8_product (l : Launch) (G : Gd) (dr : Nat) (rc : Nat → List Int32 → St → Option (Int32 × St)) (t : Nat) (ihr : ∀ j as σ p, rc j as σ = some p → CT_X8_compared l G dr t j as σ p) (σ : St)  (σ' : St) (hf : f_X8_product rc σ t = some σ') : MetV l G (dr + 6) mi_X8_product [.ref t] σ none σ' 0 0 := by
  unfold f_X8_product at hf
  refine MetV.of [(0, .ref t)] (by decide +kernel) rfl (Nat.le_of_ble_eq_true rfl) ?_
  intro X hQ
  have L51 : ∀  (n : Nat) (x1 : Int32) (σ : St) (p : Int32 × St), f_X8_product_L51 rc t n x1 σ = some p → V mi_X8_product l G (dr + 6) 0 0 X 0 0 114 [(1, .int p.1), (0, .ref t)] [] p.2 → V mi_X8_product l G (dr + 6) 0 0 X 0 0 51 [(1, .int x1), (0, .ref t)] [] σ := by
    intro  n
    induction n with
    | zero =>
      intro x1 σ p hf
      exact absurd (show (none : Option _) = some p from hf) (by simp)
    | succ n ih =>
      intro x1 σ p hf hk
      rw [f_X8_product_L51] at hf
      refine V_iload_n 0 52 rfl dX8_product_51 rfl rfl ?_
      refine V_if_le 114 55 dX8_product_52 (by decide) rfl (fun c12 => ?_) (fun c12 => ?_)
      · rw [if_pos c12] at hf
        have ep := Option.some.inj hf
        subst ep
        refine V_ls [(1, .int x1), (0, .ref t)] [0, 1] rfl ?_
        exact hk
      · rw [if_neg c12] at hf
        refine V_aload_n 1 56 rfl dX8_product_55 rfl rfl ?_
        obtain ⟨p15, h13, hf⟩ := ob hf
        refine V_callV (rest := []) (T := TX8) (n := 27) (ci := 7) 0 0 59 [] ((ihr 2 [] σ p15 h13).2.2.2.1 rfl  rfl) (by omega) ok_X8_one okv_X8_one (ihr 2 [] σ p15 h13).1 rfl wd_ml_X8_192 rfl rfl (Nat.le_of_ble_eq_true rfl) rfl rfl (Or.inl ⟨rfl, rfl⟩) dX8_product_56 rfl rfl ?_
        refine V_aload_n 1 60 rfl dX8_product_59 rfl rfl ?_
        refine V_iload_n 0 61 rfl dX8_product_60 rfl rfl ?_
        obtain ⟨s17, h16, hf⟩ := ob hf
        refine V_callV (rest := []) (T := TX8) (n := 27) (ci := 7) 0 0 64 [] (c_X8_codes l G (dr + 4) _ _ _ _ h16) (by omega) ok_X8_codes okv_X8_codes (gd_X8_codes h16) rfl wd_ml_X8_180 rfl rfl (Nat.le_of_ble_eq_true rfl) rfl rfl (Or.inl ⟨rfl, rfl⟩) dX8_product_61 rfl rfl ?_
        refine V_aload_n 1 65 rfl dX8_product_64 rfl rfl ?_
        refine V_bipush 42 67 dX8_product_65 rfl kbipush_42 ?_
        obtain ⟨p19, h18, hf⟩ := ob hf
        refine V_callV (rest := []) (T := TX8) (n := 27) (ci := 7) 0 0 70 [.int p19.1] (c_X8_takes l G (dr + 3) _ _ _ _ _ h18) (by omega) ok_X8_takes okv_X8_takes (gd_X8_takes h18) rfl wd_ml_X8_170 rfl rfl (Nat.le_of_ble_eq_true rfl) rfl rfl (Or.inl ⟨rfl, rfl⟩) dX8_product_67 rfl rfl ?_
        refine V_if_eq 79 73 dX8_product_70 (by decide) rfl (fun c20 => ?_) (fun c20 => ?_)
        · rw [if_pos c20] at hf
          refine V_aload_n 1 80 rfl dX8_product_79 rfl rfl ?_
          refine V_bipush 47 82 dX8_product_80 rfl kbipush_47 ?_
          obtain ⟨p22, h21, hf⟩ := ob hf
          refine V_callV (rest := []) (T := TX8) (n := 27) (ci := 7) 0 0 85 [.int p22.1] (c_X8_takes l G (dr + 3) _ _ _ _ _ h21) (by omega) ok_X8_takes okv_X8_takes (gd_X8_takes h21) rfl wd_ml_X8_170 rfl rfl (Nat.le_of_ble_eq_true rfl) rfl rfl (Or.inl ⟨rfl, rfl⟩) dX8_product_82 rfl rfl ?_
          refine V_if_eq 94 88 dX8_product_85 (by decide) rfl (fun c23 => ?_) (fun c23 => ?_)
          · rw [if_pos c23] at hf
            refine V_aload_n 1 95 rfl dX8_product_94 rfl rfl ?_
            refine V_bipush 37 97 dX8_product_95 rfl kbipush_37 ?_
            obtain ⟨p25, h24, hf⟩ := ob hf
            refine V_callV (rest := []) (T := TX8) (n := 27) (ci := 7) 0 0 100 [.int p25.1] (c_X8_takes l G (dr + 3) _ _ _ _ _ h24) (by omega) ok_X8_takes okv_X8_takes (gd_X8_takes h24) rfl wd_ml_X8_170 rfl rfl (Nat.le_of_ble_eq_true rfl) rfl rfl (Or.inl ⟨rfl, rfl⟩) dX8_product_97 rfl rfl ?_
            have kj26 : V mi_X8_product l G (dr + 6) 0 0 X 0 0 110 [(1, .int x1), (0, .ref t)] [.int (if p25.1 = 0 then 0 else 20009 : Int32)] p25.2 := by
              refine V_istore_n [(1, .int (if p25.1 = 0 then 0 else 20009 : Int32)), (0, .ref t)] 111 dX8_product_110 rfl (by decide) rfl rfl ?_
              refine V_goto 51 dX8_product_111 (by decide) ?_
              refine V_ls [(1, .int (if p25.1 = 0 then 0 else 20009 : Int32)), (0, .ref t)] [0, 1] rfl ?_
              exact ih _ _ _ hf hk
            refine V_if_eq 109 103 dX8_product_100 (by decide) rfl (fun c27 => ?_) (fun c27 => ?_)
            · refine V_iconst 0 110 dX8_product_109 rfl kiconst_0 ?_
              refine V_ls [(1, .int x1), (0, .ref t)] [0, 1] rfl ?_
              simp only [if_pos c27] at kj26
              exact kj26
            · refine V_sipush 20009 106 dX8_product_103 rfl ksipush_20009 ?_
              refine V_goto 110 dX8_product_106 (by decide) ?_
              refine V_ls [(1, .int x1), (0, .ref t)] [0, 1] rfl ?_
              simp only [if_neg c27] at kj26
              exact kj26
          · rw [if_neg c23] at hf
            refine V_sipush 20008 91 dX8_product_88 rfl ksipush_20008 ?_
            refine V_goto 110 dX8_product_91 (by decide) ?_
            refine V_istore_n [(1, .int 20008), (0, .ref t)] 111 dX8_product_110 rfl (by decide) rfl rfl ?_
            refine V_goto 51 dX8_product_111 (by decide) ?_
            refine V_ls [(1, .int 20008), (0, .ref t)] [0, 1] rfl ?_
            exact ih _ _ _ hf hk
        · rw [if_neg c20] at hf
          refine V_sipush 20007 76 dX8_product_73 rfl ksipush_20007 ?_
          refine V_goto 110 dX8_product_76 (by decide) ?_
          refine V_istore_n [(1, .int 20007), (0, .ref t)] 111 dX8_product_110 rfl (by decide) rfl rfl ?_
          refine V_goto 51 dX8_product_111 (by decide) ?_
          refine V_ls [(1, .int 20007), (0, .ref t)] [0, 1] rfl ?_
          exact ih _ _ _ hf hk
  by_cases hg : isO σ 7 t = true
  · rw [if_pos hg] at hf
    refine V_aload_n 0 1 rfl dX8_product_0 rfl rfl ?_
    obtain ⟨p3, h1, hf⟩ := ob hf
    refine V_callV (rest := []) (T := TX8) (n := 27) (ci := 7) 0 0 4 [] ((ihr 2 [] σ p3 h1).2.2.2.1 rfl  rfl) (by omega) ok_X8_one okv_X8_one (ihr 2 [] σ p3 h1).1 rfl wd_ml_X8_192 rfl rfl (Nat.le_of_ble_eq_true rfl) rfl rfl (Or.inl ⟨rfl, rfl⟩) dX8_product_1 rfl rfl ?_
    refine V_aload_n 0 5 rfl dX8_product_4 rfl rfl ?_
    refine V_bipush 42 7 dX8_product_5 rfl kbipush_42 ?_
    obtain ⟨p5, h4, hf⟩ := ob hf
    refine V_callV (rest := []) (T := TX8) (n := 27) (ci := 7) 0 0 10 [.int p5.1] (c_X8_takes l G (dr + 3) _ _ _ _ _ h4) (by omega) ok_X8_takes okv_X8_takes (gd_X8_takes h4) rfl wd_ml_X8_170 rfl rfl (Nat.le_of_ble_eq_true rfl) rfl rfl (Or.inl ⟨rfl, rfl⟩) dX8_product_7 rfl rfl ?_
    refine V_if_eq 19 13 dX8_product_10 (by decide) rfl (fun c6 => ?_) (fun c6 => ?_)
    · rw [if_pos c6] at hf
      refine V_aload_n 0 20 rfl dX8_product_19 rfl rfl ?_
      refine V_bipush 47 22 dX8_product_20 rfl kbipush_47 ?_
      obtain ⟨p8, h7, hf⟩ := ob hf
      refine V_callV (rest := []) (T := TX8) (n := 27) (ci := 7) 0 0 25 [.int p8.1] (c_X8_takes l G (dr + 3) _ _ _ _ _ h7) (by omega) ok_X8_takes okv_X8_takes (gd_X8_takes h7) rfl wd_ml_X8_170 rfl rfl (Nat.le_of_ble_eq_true rfl) rfl rfl (Or.inl ⟨rfl, rfl⟩) dX8_product_22 rfl rfl ?_
      refine V_if_eq 34 28 dX8_product_25 (by decide) rfl (fun c9 => ?_) (fun c9 => ?_)
      · rw [if_pos c9] at hf
        refine V_aload_n 0 35 rfl dX8_product_34 rfl rfl ?_
        refine V_bipush 37 37 dX8_product_35 rfl kbipush_37 ?_
        obtain ⟨p11, h10, hf⟩ := ob hf
        refine V_callV (rest := []) (T := TX8) (n := 27) (ci := 7) 0 0 40 [.int p11.1] (c_X8_takes l G (dr + 3) _ _ _ _ _ h10) (by omega) ok_X8_takes okv_X8_takes (gd_X8_takes h10) rfl wd_ml_X8_170 rfl rfl (Nat.le_of_ble_eq_true rfl) rfl rfl (Or.inl ⟨rfl, rfl⟩) dX8_product_37 rfl rfl ?_
        have kj30 : V mi_X8_product l G (dr + 6) 0 0 X 0 0 50 [(0, .ref t)] [.int (if p11.1 = 0 then 0 else 20009 : Int32)] p11.2 := by
          refine V_istore_n [(1, .int (if p11.1 = 0 then 0 else 20009 : Int32)), (0, .ref t)] 51 dX8_product_50 rfl (by decide) rfl rfl ?_
          obtain ⟨p28, h29, hf⟩ := ob hf
          refine V_ls [(1, .int (if p11.1 = 0 then 0 else 20009 : Int32)), (0, .ref t)] [0, 1] rfl ?_
          refine L51 3000 (if p11.1 = 0 then 0 else 20009 : Int32) p11.2 p28 h29 ?_
          have er := Option.some.inj hf
          subst er
          exact V_vret hQ rfl dX8_product_114
        refine V_if_eq 49 43 dX8_product_40 (by decide) rfl (fun c31 => ?_) (fun c31 => ?_)
        · refine V_iconst 0 50 dX8_product_49 rfl kiconst_0 ?_
          refine V_ls [(0, .ref t)] [0] rfl ?_
          simp only [if_pos c31] at kj30
          exact kj30
        · refine V_sipush 20009 46 dX8_product_43 rfl ksipush_20009 ?_
          refine V_goto 50 dX8_product_46 (by decide) ?_
          refine V_ls [(0, .ref t)] [0] rfl ?_
          simp only [if_neg c31] at kj30
          exact kj30
      · rw [if_neg c9] at hf
        refine V_sipush 20008 31 dX8_product_28 rfl ksipush_20008 ?_
        refine V_goto 50 dX8_product_31 (by decide) ?_
        refine V_istore_n [(1, .int 20008), (0, .ref t)] 51 dX8_product_50 rfl (by decide) rfl rfl ?_
        obtain ⟨p32, h33, hf⟩ := ob hf
        refine V_ls [(1, .int 20008), (0, .ref t)] [0, 1] rfl ?_
        refine L51 3000 20008 p8.2 p32 h33 ?_
        have er := Option.some.inj hf
        subst er
        exact V_vret hQ rfl dX8_product_114
    · rw [if_neg c6] at hf
      refine V_sipush 20007 16 dX8_product_13 rfl ksipush_20007 ?_
      refine V_goto 50 dX8_product_16 (by decide) ?_
      refine V_istore_n [(1, .int 20007), (0, .ref t)] 51 dX8_product_50 rfl (by decide) rfl rfl ?_
      obtain ⟨p34, h35, hf⟩ := ob hf
      refine V_ls [(1, .int 20007), (0, .ref t)] [0, 1] rfl ?_
      refine L51 3000 20007 p5.2 p34 h35 ?_
      have er := Option.some.inj hf
      subst er
      exact V_vret hQ rfl dX8_product_114
  · rw [if_neg hg] at hf
    cases hf
set_option maxRecDepth 100000 in
set_option maxHeartbeats 4000000 in
theorem cb_X8_sum (l : Launch) (G : Gd) (dr : Nat) (rc : Nat → List Int32 → St → Option (Int32 × St)) (t : Nat) (ihr : ∀ j as σ p, rc j as σ = some p → CT_X8_compared l G dr t j as σ p) (σ : St)  (σ' : St) (hf : f_X8_sum rc σ t = some σ') : MetV l G (dr + 6) mi_X8_sum [.ref t] σ none σ' 0 0 := by
  unfold f_X8_sum at hf
  refine MetV.of [(0, .ref t)] (by decide +kernel) rfl (Nat.le_of_ble_eq_true rfl) ?_
  intro X hQ
  have L36 : ∀  (n : Nat) (x1 : Int32) (σ : St) (p : Int32 × St), f_X8_sum_L36 rc t n x1 σ = some p → V mi_X8_sum l G (dr + 6) 0 0 X 0 0 84 [(1, .int p.1), (0, .ref t)] [] p.2 → V mi_X8_sum l G (dr + 6) 0 0 X 0 0 36 [(1, .int x1), (0, .ref t)] [] σ := by
    intro  n
    induction n with
    | zero =>
      intro x1 σ p hf
      exact absurd (show (none : Option _) = some p from hf) (by simp)
    | succ n ih =>
      intro x1 σ p hf hk
      rw [f_X8_sum_L36] at hf
      refine V_iload_n 0 37 rfl dX8_sum_36 rfl rfl ?_
      refine V_if_le 84 40 dX8_sum_37 (by decide) rfl (fun c9 => ?_) (fun c9 => ?_)
      · rw [if_pos c9] at hf
        have ep := Option.some.inj hf
        subst ep
        refine V_ls [(1, .int x1), (0, .ref t)] [0, 1] rfl ?_
        exact hk
      · rw [if_neg c9] at hf
        refine V_aload_n 1 41 rfl dX8_sum_40 rfl rfl ?_
        obtain ⟨p12, h10, hf⟩ := ob hf
        refine V_callV (rest := []) (T := TX8) (n := 27) (ci := 7) 0 0 44 [] ((ihr 3 [] σ p12 h10).2.2.2.2.1 rfl  rfl) (by omega) ok_X8_product okv_X8_product (ihr 3 [] σ p12 h10).1 rfl wd_ml_X8_189 rfl rfl (Nat.le_of_ble_eq_true rfl) rfl rfl (Or.inl ⟨rfl, rfl⟩) dX8_sum_41 rfl rfl ?_
        refine V_aload_n 1 45 rfl dX8_sum_44 rfl rfl ?_
        refine V_iload_n 0 46 rfl dX8_sum_45 rfl rfl ?_
        obtain ⟨s14, h13, hf⟩ := ob hf
        refine V_callV (rest := []) (T := TX8) (n := 27) (ci := 7) 0 0 49 [] (c_X8_codes l G (dr + 4) _ _ _ _ h13) (by omega) ok_X8_codes okv_X8_codes (gd_X8_codes h13) rfl wd_ml_X8_180 rfl rfl (Nat.le_of_ble_eq_true rfl) rfl rfl (Or.inl ⟨rfl, rfl⟩) dX8_sum_46 rfl rfl ?_
        refine V_aload_n 1 50 rfl dX8_sum_49 rfl rfl ?_
        refine V_bipush 43 52 dX8_sum_50 rfl kbipush_43 ?_
        obtain ⟨p16, h15, hf⟩ := ob hf
        refine V_callV (rest := []) (T := TX8) (n := 27) (ci := 7) 0 0 55 [.int p16.1] (c_X8_takes l G (dr + 3) _ _ _ _ _ h15) (by omega) ok_X8_takes okv_X8_takes (gd_X8_takes h15) rfl wd_ml_X8_170 rfl rfl (Nat.le_of_ble_eq_true rfl) rfl rfl (Or.inl ⟨rfl, rfl⟩) dX8_sum_52 rfl rfl ?_
        refine V_if_eq 64 58 dX8_sum_55 (by decide) rfl (fun c17 => ?_) (fun c17 => ?_)
        · rw [if_pos c17] at hf
          refine V_aload_n 1 65 rfl dX8_sum_64 rfl rfl ?_
          refine V_bipush 45 67 dX8_sum_65 rfl kbipush_45 ?_
          obtain ⟨p19, h18, hf⟩ := ob hf
          refine V_callV (rest := []) (T := TX8) (n := 27) (ci := 7) 0 0 70 [.int p19.1] (c_X8_takes l G (dr + 3) _ _ _ _ _ h18) (by omega) ok_X8_takes okv_X8_takes (gd_X8_takes h18) rfl wd_ml_X8_170 rfl rfl (Nat.le_of_ble_eq_true rfl) rfl rfl (Or.inl ⟨rfl, rfl⟩) dX8_sum_67 rfl rfl ?_
          have kj20 : V mi_X8_sum l G (dr + 6) 0 0 X 0 0 80 [(1, .int x1), (0, .ref t)] [.int (if p19.1 = 0 then 0 else 20006 : Int32)] p19.2 := by
            refine V_istore_n [(1, .int (if p19.1 = 0 then 0 else 20006 : Int32)), (0, .ref t)] 81 dX8_sum_80 rfl (by decide) rfl rfl ?_
            refine V_goto 36 dX8_sum_81 (by decide) ?_
            refine V_ls [(1, .int (if p19.1 = 0 then 0 else 20006 : Int32)), (0, .ref t)] [0, 1] rfl ?_
            exact ih _ _ _ hf hk
          refine V_if_eq 79 73 dX8_sum_70 (by decide) rfl (fun c21 => ?_) (fun c21 => ?_)
          · refine V_iconst 0 80 dX8_sum_79 rfl kiconst_0 ?_
            refine V_ls [(1, .int x1), (0, .ref t)] [0, 1] rfl ?_
            simp only [if_pos c21] at kj20
            exact kj20
          · refine V_sipush 20006 76 dX8_sum_73 rfl ksipush_20006 ?_
            refine V_goto 80 dX8_sum_76 (by decide) ?_
            refine V_ls [(1, .int x1), (0, .ref t)] [0, 1] rfl ?_
            simp only [if_neg c21] at kj20
            exact kj20
        · rw [if_neg c17] at hf
          refine V_sipush 20005 61 dX8_sum_58 rfl ksipush_20005 ?_
          refine V_goto 80 dX8_sum_61 (by decide) ?_
          refine V_istore_n [(1, .int 20005), (0, .ref t)] 81 dX8_sum_80 rfl (by decide) rfl rfl ?_
          refine V_goto 36 dX8_sum_81 (by decide) ?_
          refine V_ls [(1, .int 20005), (0, .ref t)] [0, 1] rfl ?_
          exact ih _ _ _ hf hk
  by_cases hg : isO σ 7 t = true
  · rw [if_pos hg] at hf
    refine V_aload_n 0 1 rfl dX8_sum_0 rfl rfl ?_
    obtain ⟨p3, h1, hf⟩ := ob hf
    refine V_callV (rest := []) (T := TX8) (n := 27) (ci := 7) 0 0 4 [] ((ihr 3 [] σ p3 h1).2.2.2.2.1 rfl  rfl) (by omega) ok_X8_product okv_X8_product (ihr 3 [] σ p3 h1).1 rfl wd_ml_X8_189 rfl rfl (Nat.le_of_ble_eq_true rfl) rfl rfl (Or.inl ⟨rfl, rfl⟩) dX8_sum_1 rfl rfl ?_
    refine V_aload_n 0 5 rfl dX8_sum_4 rfl rfl ?_
    refine V_bipush 43 7 dX8_sum_5 rfl kbipush_43 ?_
    obtain ⟨p5, h4, hf⟩ := ob hf
    refine V_callV (rest := []) (T := TX8) (n := 27) (ci := 7) 0 0 10 [.int p5.1] (c_X8_takes l G (dr + 3) _ _ _ _ _ h4) (by omega) ok_X8_takes okv_X8_takes (gd_X8_takes h4) rfl wd_ml_X8_170 rfl rfl (Nat.le_of_ble_eq_true rfl) rfl rfl (Or.inl ⟨rfl, rfl⟩) dX8_sum_7 rfl rfl ?_
    refine V_if_eq 19 13 dX8_sum_10 (by decide) rfl (fun c6 => ?_) (fun c6 => ?_)
    · rw [if_pos c6] at hf
      refine V_aload_n 0 20 rfl dX8_sum_19 rfl rfl ?_
      refine V_bipush 45 22 dX8_sum_20 rfl kbipush_45 ?_
      obtain ⟨p8, h7, hf⟩ := ob hf
      refine V_callV (rest := []) (T := TX8) (n := 27) (ci := 7) 0 0 25 [.int p8.1] (c_X8_takes l G (dr + 3) _ _ _ _ _ h7) (by omega) ok_X8_takes okv_X8_takes (gd_X8_takes h7) rfl wd_ml_X8_170 rfl rfl (Nat.le_of_ble_eq_true rfl) rfl rfl (Or.inl ⟨rfl, rfl⟩) dX8_sum_22 rfl rfl ?_
      have kj24 : V mi_X8_sum l G (dr + 6) 0 0 X 0 0 35 [(0, .ref t)] [.int (if p8.1 = 0 then 0 else 20006 : Int32)] p8.2 := by
        refine V_istore_n [(1, .int (if p8.1 = 0 then 0 else 20006 : Int32)), (0, .ref t)] 36 dX8_sum_35 rfl (by decide) rfl rfl ?_
        obtain ⟨p22, h23, hf⟩ := ob hf
        refine V_ls [(1, .int (if p8.1 = 0 then 0 else 20006 : Int32)), (0, .ref t)] [0, 1] rfl ?_
        refine L36 3000 (if p8.1 = 0 then 0 else 20006 : Int32) p8.2 p22 h23 ?_
        have er := Option.some.inj hf
        subst er
        exact V_vret hQ rfl dX8_sum_84
      refine V_if_eq 34 28 dX8_sum_25 (by decide) rfl (fun c25 => ?_) (fun c25 => ?_)
      · refine V_iconst 0 35 dX8_sum_34 rfl kiconst_0 ?_
        refine V_ls [(0, .ref t)] [0] rfl ?_
        simp only [if_pos c25] at kj24
        exact kj24
      · refine V_sipush 20006 31 dX8_sum_28 rfl ksipush_20006 ?_
        refine V_goto 35 dX8_sum_31 (by decide) ?_
        refine V_ls [(0, .ref t)] [0] rfl ?_
        simp only [if_neg c25] at kj24
        exact kj24
    · rw [if_neg c6] at hf
      refine V_sipush 20005 16 dX8_sum_13 rfl ksipush_20005 ?_
      refine V_goto 35 dX8_sum_16 (by decide) ?_
      refine V_istore_n [(1, .int 20005), (0, .ref t)] 36 dX8_sum_35 rfl (by decide) rfl rfl ?_
      obtain ⟨p26, h27, hf⟩ := ob hf
      refine V_ls [(1, .int 20005), (0, .ref t)] [0, 1] rfl ?_
      refine L36 3000 20005 p5.2 p26 h27 ?_
      have er := Option.some.inj hf
      subst er
      exact V_vret hQ rfl dX8_sum_84
  · rw [if_neg hg] at hf
    cases hf
set_option maxRecDepth 100000 in
set_option maxHeartbeats 4000000 in
theorem cb_X8_text (l : Launch) (G : Gd) (dr : Nat) (rc : Nat → List Int32 → St → Option (Int32 × St)) (t : Nat) (ihr : ∀ j as σ p, rc j as σ = some p → CT_X8_compared l G dr t j as σ p) (σ : St)  (σ' : St) (hf : f_X8_text rc σ t = some σ') : MetV l G (dr + 6) mi_X8_text [.ref t] σ none σ' 0 0 := by
  unfold f_X8_text at hf
  refine MetV.of [(0, .ref t)] (by decide +kernel) rfl (Nat.le_of_ble_eq_true rfl) ?_
  intro X hQ
  by_cases hg : isO σ 7 t = true
  · rw [if_pos hg] at hf
    refine V_aload_n 0 1 rfl dX8_text_0 rfl rfl ?_
    obtain ⟨p3, h1, hf⟩ := ob hf
    refine V_callV (rest := []) (T := TX8) (n := 27) (ci := 7) 0 0 4 [] ((ihr 1 [] σ p3 h1).2.2.1 rfl  rfl) (by omega) ok_X8_either okv_X8_either (ihr 1 [] σ p3 h1).1 rfl wd_ml_X8_173 rfl rfl (Nat.le_of_ble_eq_true rfl) rfl rfl (Or.inl ⟨rfl, rfl⟩) dX8_text_1 rfl rfl ?_
    refine V_aload_n 0 5 rfl dX8_text_4 rfl rfl ?_
    refine V_bipush 63 7 dX8_text_5 rfl kbipush_63 ?_
    obtain ⟨p5, h4, hf⟩ := ob hf
    refine V_callV (rest := []) (T := TX8) (n := 27) (ci := 7) 0 0 10 [.int p5.1] (c_X8_takes l G (dr + 3) _ _ _ _ _ h4) (by omega) ok_X8_takes okv_X8_takes (gd_X8_takes h4) rfl wd_ml_X8_170 rfl rfl (Nat.le_of_ble_eq_true rfl) rfl rfl (Or.inl ⟨rfl, rfl⟩) dX8_text_7 rfl rfl ?_
    refine V_if_eq 34 13 dX8_text_10 (by decide) rfl (fun c6 => ?_) (fun c6 => ?_)
    · rw [if_pos c6] at hf
      have er := Option.some.inj hf
      subst er
      exact V_vret hQ rfl dX8_text_34
    · rw [if_neg c6] at hf
      refine V_aload_n 0 14 rfl dX8_text_13 rfl rfl ?_
      obtain ⟨p9, h7, hf⟩ := ob hf
      refine V_callV (rest := []) (T := TX8) (n := 27) (ci := 7) 0 0 17 [] ((ihr 1 [] p5.2 p9 h7).2.2.1 rfl  rfl) (by omega) ok_X8_either okv_X8_either (ihr 1 [] p5.2 p9 h7).1 rfl wd_ml_X8_173 rfl rfl (Nat.le_of_ble_eq_true rfl) rfl rfl (Or.inl ⟨rfl, rfl⟩) dX8_text_14 rfl rfl ?_
      refine V_aload_n 0 18 rfl dX8_text_17 rfl rfl ?_
      refine V_bipush 58 20 dX8_text_18 rfl kbipush_58 ?_
      obtain ⟨s11, h10, hf⟩ := ob hf
      refine V_callV (rest := []) (T := TX8) (n := 27) (ci := 7) 0 0 23 [] (c_X8_must l G (dr + 2) _ _ _ _ h10) (by omega) ok_X8_must okv_X8_must (gd_X8_must h10) rfl wd_ml_X8_176 rfl rfl (Nat.le_of_ble_eq_true rfl) rfl rfl (Or.inl ⟨rfl, rfl⟩) dX8_text_20 rfl rfl ?_
      refine V_aload_n 0 24 rfl dX8_text_23 rfl rfl ?_
      obtain ⟨p14, h12, hf⟩ := ob hf
      refine V_callV (rest := []) (T := TX8) (n := 27) (ci := 7) 0 0 27 [] ((ihr 1 [] s11 p14 h12).2.2.1 rfl  rfl) (by omega) ok_X8_either okv_X8_either (ihr 1 [] s11 p14 h12).1 rfl wd_ml_X8_173 rfl rfl (Nat.le_of_ble_eq_true rfl) rfl rfl (Or.inl ⟨rfl, rfl⟩) dX8_text_24 rfl rfl ?_
      refine V_aload_n 0 28 rfl dX8_text_27 rfl rfl ?_
      refine V_sipush 20011 31 dX8_text_28 rfl ksipush_20011 ?_
      obtain ⟨s16, h15, hf⟩ := ob hf
      refine V_callV (rest := []) (T := TX8) (n := 27) (ci := 7) 0 0 34 [] (c_X8_codes l G (dr + 4) _ _ _ _ h15) (by omega) ok_X8_codes okv_X8_codes (gd_X8_codes h15) rfl wd_ml_X8_180 rfl rfl (Nat.le_of_ble_eq_true rfl) rfl rfl (Or.inl ⟨rfl, rfl⟩) dX8_text_31 rfl rfl ?_
      have er := Option.some.inj hf
      subst er
      exact V_vret hQ rfl dX8_text_34
  · rw [if_neg hg] at hf
    cases hf
set_option maxRecDepth 100000 in
set_option maxHeartbeats 4000000 in
theorem cr_X8_compared (l : Launch) (G : Gd) (d : Nat) (t : Nat) : ∀ (n j : Nat) (as : List Int32) (σ : St) (p : Int32 × St), rc_X8_compared t n j as σ = some p → CT_X8_compared l G (d + 6 * n) t j as σ p := by
  intro n
  induction n with
  | zero =>
    intro j as σ p h
    exact absurd (show (none : Option _) = some p from h) (by simp)
  | succ n ih =>
    intro j as σ p h
    rw [rc_X8_compared] at h
    unfold ds_X8_compared at h
    rw [show d + 6 * (n + 1) = d + 6 * n + 6 from by omega]
    split at h
    ·
      obtain ⟨v, hv, rfl⟩ := Option.map_eq_some_iff.mp h
      exact ⟨gd_f_X8_compared hv, fun _ _ => cb_X8_compared l G (d + 6 * n) (rc_X8_compared t n) t ih σ  v hv, fun e => absurd e (by decide), fun e => absurd e (by decide), fun e => absurd e (by decide), fun e => absurd e (by decide), fun e => absurd e (by decide)⟩
    ·
      obtain ⟨v, hv, rfl⟩ := Option.map_eq_some_iff.mp h
      exact ⟨gd_f_X8_either hv, fun e => absurd e (by decide), fun _ _ => cb_X8_either l G (d + 6 * n) (rc_X8_compared t n) t ih σ  v hv, fun e => absurd e (by decide), fun e => absurd e (by decide), fun e => absurd e (by decide), fun e => absurd e (by decide)⟩
    ·
      obtain ⟨v, hv, rfl⟩ := Option.map_eq_some_iff.mp h
      exact ⟨gd_f_X8_one hv, fun e => absurd e (by decide), fun e => absurd e (by decide), fun _ _ => cb_X8_one l G (d + 6 * n) (rc_X8_compared t n) t ih σ  v hv, fun e => absurd e (by decide), fun e => absurd e (by decide), fun e => absurd e (by decide)⟩
    ·
      obtain ⟨v, hv, rfl⟩ := Option.map_eq_some_iff.mp h
      exact ⟨gd_f_X8_product hv, fun e => absurd e (by decide), fun e => absurd e (by decide), fun e => absurd e (by decide), fun _ _ => cb_X8_product l G (d + 6 * n) (rc_X8_compared t n) t ih σ  v hv, fun e => absurd e (by decide), fun e => absurd e (by decide)⟩
    ·
      obtain ⟨v, hv, rfl⟩ := Option.map_eq_some_iff.mp h
      exact ⟨gd_f_X8_sum hv, fun e => absurd e (by decide), fun e => absurd e (by decide), fun e => absurd e (by decide), fun e => absurd e (by decide), fun _ _ => cb_X8_sum l G (d + 6 * n) (rc_X8_compared t n) t ih σ  v hv, fun e => absurd e (by decide)⟩
    ·
      obtain ⟨v, hv, rfl⟩ := Option.map_eq_some_iff.mp h
      exact ⟨gd_f_X8_text hv, fun e => absurd e (by decide), fun e => absurd e (by decide), fun e => absurd e (by decide), fun e => absurd e (by decide), fun e => absurd e (by decide), fun _ _ => cb_X8_text l G (d + 6 * n) (rc_X8_compared t n) t ih σ  v hv⟩
    · cases h
def g_X8_compared (σ : St) (t : Nat)  : Option (St) := (rc_X8_compared t 60 0 [] σ).map fun p => p.2
theorem c_X8_compared (l : Launch) (G : Gd) (d : Nat) (σ : St) (t : Nat)  (σ' : St) (hf : g_X8_compared σ t  = some σ') : MetV l G (d + 360) mi_X8_compared [.ref t] σ none σ' 0 0 := by
  unfold g_X8_compared at hf
  obtain ⟨p, hp, rfl⟩ := Option.map_eq_some_iff.mp hf
  exact (cr_X8_compared l G d t 60 0 _ σ _ hp).2.1 rfl  rfl
theorem gd_X8_compared {σ : St} {t : Nat}  {r : St} (h : g_X8_compared σ t  = some r) : isO σ 7 t = true := by
  unfold g_X8_compared at h
  obtain ⟨p, hp, -⟩ := Option.map_eq_some_iff.mp h
  have hx : rc_X8_compared t (59 + 1) 0 _ σ = some _ := hp
  rw [rc_X8_compared] at hx
  obtain ⟨v, hv, -⟩ := Option.map_eq_some_iff.mp hx
  exact gd_f_X8_compared hv
def g_X8_either (σ : St) (t : Nat)  : Option (St) := (rc_X8_compared t 60 1 [] σ).map fun p => p.2
theorem c_X8_either (l : Launch) (G : Gd) (d : Nat) (σ : St) (t : Nat)  (σ' : St) (hf : g_X8_either σ t  = some σ') : MetV l G (d + 360) mi_X8_either [.ref t] σ none σ' 0 0 := by
  unfold g_X8_either at hf
  obtain ⟨p, hp, rfl⟩ := Option.map_eq_some_iff.mp hf
  exact (cr_X8_compared l G d t 60 1 _ σ _ hp).2.2.1 rfl  rfl
theorem gd_X8_either {σ : St} {t : Nat}  {r : St} (h : g_X8_either σ t  = some r) : isO σ 7 t = true := by
  unfold g_X8_either at h
  obtain ⟨p, hp, -⟩ := Option.map_eq_some_iff.mp h
  have hx : rc_X8_compared t (59 + 1) 1 _ σ = some _ := hp
  rw [rc_X8_compared] at hx
  obtain ⟨v, hv, -⟩ := Option.map_eq_some_iff.mp hx
  exact gd_f_X8_either hv
def g_X8_one (σ : St) (t : Nat)  : Option (St) := (rc_X8_compared t 60 2 [] σ).map fun p => p.2
theorem c_X8_one (l : Launch) (G : Gd) (d : Nat) (σ : St) (t : Nat)  (σ' : St) (hf : g_X8_one σ t  = some σ') : MetV l G (d + 360) mi_X8_one [.ref t] σ none σ' 0 0 := by
  unfold g_X8_one at hf
  obtain ⟨p, hp, rfl⟩ := Option.map_eq_some_iff.mp hf
  exact (cr_X8_compared l G d t 60 2 _ σ _ hp).2.2.2.1 rfl  rfl
theorem gd_X8_one {σ : St} {t : Nat}  {r : St} (h : g_X8_one σ t  = some r) : isO σ 7 t = true := by
  unfold g_X8_one at h
  obtain ⟨p, hp, -⟩ := Option.map_eq_some_iff.mp h
  have hx : rc_X8_compared t (59 + 1) 2 _ σ = some _ := hp
  rw [rc_X8_compared] at hx
  obtain ⟨v, hv, -⟩ := Option.map_eq_some_iff.mp hx
  exact gd_f_X8_one hv
def g_X8_product (σ : St) (t : Nat)  : Option (St) := (rc_X8_compared t 60 3 [] σ).map fun p => p.2
theorem c_X8_product (l : Launch) (G : Gd) (d : Nat) (σ : St) (t : Nat)  (σ' : St) (hf : g_X8_product σ t  = some σ') : MetV l G (d + 360) mi_X8_product [.ref t] σ none σ' 0 0 := by
  unfold g_X8_product at hf
  obtain ⟨p, hp, rfl⟩ := Option.map_eq_some_iff.mp hf
  exact (cr_X8_compared l G d t 60 3 _ σ _ hp).2.2.2.2.1 rfl  rfl
theorem gd_X8_product {σ : St} {t : Nat}  {r : St} (h : g_X8_product σ t  = some r) : isO σ 7 t = true := by
  unfold g_X8_product at h
  obtain ⟨p, hp, -⟩ := Option.map_eq_some_iff.mp h
  have hx : rc_X8_compared t (59 + 1) 3 _ σ = some _ := hp
  rw [rc_X8_compared] at hx
  obtain ⟨v, hv, -⟩ := Option.map_eq_some_iff.mp hx
  exact gd_f_X8_product hv
def g_X8_sum (σ : St) (t : Nat)  : Option (St) := (rc_X8_compared t 60 4 [] σ).map fun p => p.2
theorem c_X8_sum (l : Launch) (G : Gd) (d : Nat) (σ : St) (t : Nat)  (σ' : St) (hf : g_X8_sum σ t  = some σ') : MetV l G (d + 360) mi_X8_sum [.ref t] σ none σ' 0 0 := by
  unfold g_X8_sum at hf
  obtain ⟨p, hp, rfl⟩ := Option.map_eq_some_iff.mp hf
  exact (cr_X8_compared l G d t 60 4 _ σ _ hp).2.2.2.2.2.1 rfl  rfl
theorem gd_X8_sum {σ : St} {t : Nat}  {r : St} (h : g_X8_sum σ t  = some r) : isO σ 7 t = true := by
  unfold g_X8_sum at h
  obtain ⟨p, hp, -⟩ := Option.map_eq_some_iff.mp h
  have hx : rc_X8_compared t (59 + 1) 4 _ σ = some _ := hp
  rw [rc_X8_compared] at hx
  obtain ⟨v, hv, -⟩ := Option.map_eq_some_iff.mp hx
  exact gd_f_X8_sum hv
def g_X8_text (σ : St) (t : Nat)  : Option (St) := (rc_X8_compared t 60 5 [] σ).map fun p => p.2
theorem c_X8_text (l : Launch) (G : Gd) (d : Nat) (σ : St) (t : Nat)  (σ' : St) (hf : g_X8_text σ t  = some σ') : MetV l G (d + 360) mi_X8_text [.ref t] σ none σ' 0 0 := by
  unfold g_X8_text at hf
  obtain ⟨p, hp, rfl⟩ := Option.map_eq_some_iff.mp hf
  exact (cr_X8_compared l G d t 60 5 _ σ _ hp).2.2.2.2.2.2 rfl  rfl
theorem gd_X8_text {σ : St} {t : Nat}  {r : St} (h : g_X8_text σ t  = some r) : isO σ 7 t = true := by
  unfold g_X8_text at h
  obtain ⟨p, hp, -⟩ := Option.map_eq_some_iff.mp h
  have hx : rc_X8_compared t (59 + 1) 5 _ σ = some _ := hp
  rw [rc_X8_compared] at hx
  obtain ⟨v, hv, -⟩ := Option.map_eq_some_iff.mp hx
  exact gd_f_X8_text hv
