abbrev mi_X2_init : MI := (yX2_init, cX2_init, 1, none)
theorem ok_X2_init : OkN mi_X2_init 0 := ⟨wd_cd_X2_init, wd_in_X2, ⟨by decide +kernel, by decide +kernel, by decide +kernel⟩, by decide⟩
theorem oki_X2_init : (mi_X2_init).1.name = "<init>" ∧ Cond.instanceMethod (mi_X2_init).1 ∈ tb ∧ (mi_X2_init).2.2.2 = none := ⟨rfl, wd_im_X2_init, rfl⟩
def f_X2_init (σ : St) (t : Nat) : Option St := if isO σ 1 t = true then ((pN σ 1 t 0).bind fun s2 => (pI s2 1 t 1 0).bind fun s4 => (pI s4 1 t 2 0).bind fun s6 => (pI s6 1 t 3 0).bind fun s8 => (pI s8 1 t 4 0).bind fun s10 => (pI s10 1 t 5 0).bind fun s12 => (pI s12 1 t 6 0).bind fun s14 => (pZ s14 1 t 7 0).bind fun s16 => some s16) else none
theorem gd_X2_init {σ : St} {t : Nat} {r : St} (h : f_X2_init σ t = some r) : isO σ 1 t = true := by
  unfold f_X2_init at h
  by_cases hg : isO σ 1 t = true
  · exact hg
  · rw [if_neg hg] at h
    cases h
set_option maxRecDepth 100000 in
set_option maxHeartbeats 4000000 in
theorem c_X2_init (l : Launch) (G : Gd) (d : Nat) (σ : St) (t : Nat) (σ' : St) (hf : f_X2_init σ t = some σ') : MetV l G (d + 2) mi_X2_init [.ref t] σ none σ' 0 0 := by
  unfold f_X2_init at hf
  refine MetV.of [(0, .ref t)] (by decide +kernel) rfl (Nat.le_of_ble_eq_true rfl) ?_
  intro X hQ
  by_cases hg : isO σ 1 t = true
  · rw [if_pos hg] at hf
    refine V_aload_n 0 1 rfl dX2_init_0 rfl rfl ?_
    refine V_objInit 4 wd_ml_X2_3 wd_im_java_lang_Object__init_ wd_objc (by omega) (Nat.le_of_ble_eq_true rfl) dX2_init_1 rfl ?_
    refine V_aload_n 0 5 rfl dX2_init_4 rfl rfl ?_
    refine V_aconst_null 6 dX2_init_5 rfl ?_
    obtain ⟨s2, h1, hf⟩ := ob hf
    refine V_putN (n := 8) (T := TX2) (ty := tyX2) (f := 0) 9 h1 cf_1 rfl (Or.inl ⟨_, rfl⟩) (Or.inl rfl) wd_fl_X2_9 dX2_init_6 rfl ?_
    refine V_aload_n 0 10 rfl dX2_init_9 rfl rfl ?_
    refine V_iconst 0 11 dX2_init_10 rfl kiconst_0 ?_
    obtain ⟨s4, h3, hf⟩ := ob hf
    refine V_putI (n := 8) (T := TX2) (ty := tyX2) (f := 1) 14 h3 cf_1 rfl rfl (Or.inl rfl) wd_fl_X2_15 dX2_init_11 rfl ?_
    refine V_aload_n 0 15 rfl dX2_init_14 rfl rfl ?_
    refine V_iconst 0 16 dX2_init_15 rfl kiconst_0 ?_
    obtain ⟨s6, h5, hf⟩ := ob hf
    refine V_putI (n := 8) (T := TX2) (ty := tyX2) (f := 2) 19 h5 cf_1 rfl rfl (Or.inl rfl) wd_fl_X2_19 dX2_init_16 rfl ?_
    refine V_aload_n 0 20 rfl dX2_init_19 rfl rfl ?_
    refine V_iconst 0 21 dX2_init_20 rfl kiconst_0 ?_
    obtain ⟨s8, h7, hf⟩ := ob hf
    refine V_putI (n := 8) (T := TX2) (ty := tyX2) (f := 3) 24 h7 cf_1 rfl rfl (Or.inl rfl) wd_fl_X2_22 dX2_init_21 rfl ?_
    refine V_aload_n 0 25 rfl dX2_init_24 rfl rfl ?_
    refine V_iconst 0 26 dX2_init_25 rfl kiconst_0 ?_
    obtain ⟨s10, h9, hf⟩ := ob hf
    refine V_putI (n := 8) (T := TX2) (ty := tyX2) (f := 4) 29 h9 cf_1 rfl rfl (Or.inl rfl) wd_fl_X2_25 dX2_init_26 rfl ?_
    refine V_aload_n 0 30 rfl dX2_init_29 rfl rfl ?_
    refine V_iconst 0 31 dX2_init_30 rfl kiconst_0 ?_
    obtain ⟨s12, h11, hf⟩ := ob hf
    refine V_putI (n := 8) (T := TX2) (ty := tyX2) (f := 5) 34 h11 cf_1 rfl rfl (Or.inl rfl) wd_fl_X2_28 dX2_init_31 rfl ?_
    refine V_aload_n 0 35 rfl dX2_init_34 rfl rfl ?_
    refine V_iconst 0 36 dX2_init_35 rfl kiconst_0 ?_
    obtain ⟨s14, h13, hf⟩ := ob hf
    refine V_putI (n := 8) (T := TX2) (ty := tyX2) (f := 6) 39 h13 cf_1 rfl rfl (Or.inl rfl) wd_fl_X2_31 dX2_init_36 rfl ?_
    refine V_aload_n 0 40 rfl dX2_init_39 rfl rfl ?_
    refine V_iconst 0 41 dX2_init_40 rfl kiconst_0 ?_
    obtain ⟨s16, h15, hf⟩ := ob hf
    refine V_putZ (n := 8) (T := TX2) (ty := tyX2) (f := 7) 44 h15 cf_1 rfl rfl (Or.inl rfl) wd_fl_X2_34 dX2_init_41 rfl ?_
    have er := Option.some.inj hf
    subst er
    exact V_vret hQ rfl dX2_init_44
  · rw [if_neg hg] at hf
    cases hf
abbrev mi_X6_init : MI := (yX6_init, cX6_init, 1, none)
theorem ok_X6_init : OkN mi_X6_init 0 := ⟨wd_cd_X6_init, wd_in_X6, ⟨by decide +kernel, by decide +kernel, by decide +kernel⟩, by decide⟩
theorem oki_X6_init : (mi_X6_init).1.name = "<init>" ∧ Cond.instanceMethod (mi_X6_init).1 ∈ tb ∧ (mi_X6_init).2.2.2 = none := ⟨rfl, wd_im_X6_init, rfl⟩
def f_X6_init (σ : St) (t : Nat) : Option St := if isO σ 5 t = true then ((nwA σ 0 30).bind fun s2 => (pQ s2 5 t 0 σ.2.2).bind fun s4 => (pI s4 5 t 1 0).bind fun s6 => (pZ s6 5 t 2 0).bind fun s8 => (pI s8 5 t 3 0).bind fun s10 => (pI s10 5 t 4 0).bind fun s12 => (pI s12 5 t 5 0).bind fun s14 => some s14) else none
theorem gd_X6_init {σ : St} {t : Nat} {r : St} (h : f_X6_init σ t = some r) : isO σ 5 t = true := by
  unfold f_X6_init at h
  by_cases hg : isO σ 5 t = true
  · exact hg
  · rw [if_neg hg] at h
    cases h
set_option maxRecDepth 100000 in
set_option maxHeartbeats 4000000 in
theorem c_X6_init (l : Launch) (G : Gd) (d : Nat) (σ : St) (t : Nat) (σ' : St) (hf : f_X6_init σ t = some σ') : MetV l G (d + 2) mi_X6_init [.ref t] σ none σ' 1 30 := by
  unfold f_X6_init at hf
  obtain ⟨mc0, emc⟩ : ∃ z : Nat, z = 1 := ⟨_, rfl⟩
  obtain ⟨ms0, ems⟩ : ∃ z : Nat, z = 30 := ⟨_, rfl⟩
  rw [← emc, ← ems]
  refine MetV.of [(0, .ref t)] (by decide +kernel) rfl (Nat.le_of_ble_eq_true rfl) ?_
  intro X hQ
  by_cases hg : isO σ 5 t = true
  · rw [if_pos hg] at hf
    refine V_aload_n 0 1 rfl dX6_init_0 rfl rfl ?_
    refine V_objInit 4 wd_ml_X6_1 wd_im_java_lang_Object__init_ wd_objc (by omega) (Nat.le_of_ble_eq_true rfl) dX6_init_1 rfl ?_
    refine V_aload_n 0 5 rfl dX6_init_4 rfl rfl ?_
    refine V_bipush 30 7 dX6_init_5 rfl kbipush_30 ?_
    obtain ⟨s2, h1, hf⟩ := ob hf
    refine V_newa (fty := .int) 9 h1 (by decide) wd_ac_int (by omega) (by rw [show (30 : Int32).toNatClampNeg = 30 from by decide]; omega) dX6_init_7 rfl ?_
    refine V_cnt (ce1 := (0 + 1)) (sl1 := (0 + 30)) (by omega) (by rw [show (30 : Int32).toNatClampNeg = 30 from by decide]; omega) ?_
    obtain ⟨s4, h3, hf⟩ := ob hf
    refine V_putQ (n := 6) (T := TX6) (ty := tyX6) (f := 0) 12 h3 cf_5 rfl (Or.inr ⟨_, rfl⟩) (Or.inr ⟨rfl, rfl, rfl⟩) wd_fl_X6_9 dX6_init_9 rfl ?_
    refine V_aload_n 0 13 rfl dX6_init_12 rfl rfl ?_
    refine V_iconst 0 14 dX6_init_13 rfl kiconst_0 ?_
    obtain ⟨s6, h5, hf⟩ := ob hf
    refine V_putI (n := 6) (T := TX6) (ty := tyX6) (f := 1) 17 h5 cf_5 rfl rfl (Or.inl rfl) wd_fl_X6_13 dX6_init_14 rfl ?_
    refine V_aload_n 0 18 rfl dX6_init_17 rfl rfl ?_
    refine V_iconst 0 19 dX6_init_18 rfl kiconst_0 ?_
    obtain ⟨s8, h7, hf⟩ := ob hf
    refine V_putZ (n := 6) (T := TX6) (ty := tyX6) (f := 2) 22 h7 cf_5 rfl rfl (Or.inl rfl) wd_fl_X6_17 dX6_init_19 rfl ?_
    refine V_aload_n 0 23 rfl dX6_init_22 rfl rfl ?_
    refine V_iconst 0 24 dX6_init_23 rfl kiconst_0 ?_
    obtain ⟨s10, h9, hf⟩ := ob hf
    refine V_putI (n := 6) (T := TX6) (ty := tyX6) (f := 3) 27 h9 cf_5 rfl rfl (Or.inl rfl) wd_fl_X6_21 dX6_init_24 rfl ?_
    refine V_aload_n 0 28 rfl dX6_init_27 rfl rfl ?_
    refine V_iconst 0 29 dX6_init_28 rfl kiconst_0 ?_
    obtain ⟨s12, h11, hf⟩ := ob hf
    refine V_putI (n := 6) (T := TX6) (ty := tyX6) (f := 4) 32 h11 cf_5 rfl rfl (Or.inl rfl) wd_fl_X6_24 dX6_init_29 rfl ?_
    refine V_aload_n 0 33 rfl dX6_init_32 rfl rfl ?_
    refine V_iconst 0 34 dX6_init_33 rfl kiconst_0 ?_
    obtain ⟨s14, h13, hf⟩ := ob hf
    refine V_putI (n := 6) (T := TX6) (ty := tyX6) (f := 5) 37 h13 cf_5 rfl rfl (Or.inl rfl) wd_fl_X6_27 dX6_init_34 rfl ?_
    have er := Option.some.inj hf
    subst er
    exact V_vret hQ rfl dX6_init_37
  · rw [if_neg hg] at hf
    cases hf
abbrev mi_X2_next : MI := (yX2_next, cX2_next, 1, some .int)
theorem ok_X2_next : OkN mi_X2_next 0 := ⟨wd_cd_X2_next, wd_in_X2, ⟨by decide +kernel, by decide +kernel, by decide +kernel⟩, by decide⟩
theorem okv_X2_next : Cond.instanceMethod (mi_X2_next).1 ∈ tb ∧ Cond.selects (mi_X2_next).1.cls (mi_X2_next).1 (mi_X2_next).1 ∈ tb := ⟨wd_im_X2_next, wd_se_X2_next⟩
def f_X2_next (σ : St) (t : Nat) : Option Int32 := if isO σ 1 t = true then ((gI σ 1 t 7).bind fun v2 => if v2 = 0 then ((gR σ 1 t 0).bind fun o5 => if o5 = none then (some (-1)) else ((gI σ 1 t 5).bind fun v8 => (gQ σ 1 t 0).bind fun q11 => (gI σ 0 q11 1).bind fun v13 => if v13 ≤ v8 then (some (-1)) else ((gI σ 1 t 5).bind fun v16 => if v16 < 56 then ((gQ σ 1 t 0).bind fun q20 => (gQ σ 0 q20 0).bind fun q22 => (gI σ 1 t 5).bind fun v24 => (aI σ 1 q22 v24).bind fun v26 => some (v26 &&& 255)) else (some (-1))))) else (some (-1))) else none
theorem gd_X2_next {σ : St} {t : Nat} {r : Int32} (h : f_X2_next σ t = some r) : isO σ 1 t = true := by
  unfold f_X2_next at h
  by_cases hg : isO σ 1 t = true
  · exact hg
  · rw [if_neg hg] at h
    cases h
set_option maxRecDepth 100000 in
set_option maxHeartbeats 4000000 in
theorem c_X2_next (l : Launch) (G : Gd) (d : Nat) (σ : St) (t : Nat) (r0 : Int32) (hf : f_X2_next σ t = some r0) : MetV l G (d + 1) mi_X2_next [.ref t] σ (some (.int r0)) σ 0 0 := by
  unfold f_X2_next at hf
  refine MetV.of [(0, .ref t)] (by decide +kernel) rfl (Nat.le_of_ble_eq_true rfl) ?_
  intro X hQ
  by_cases hg : isO σ 1 t = true
  · rw [if_pos hg] at hf
    refine V_aload_n 0 1 rfl dX2_next_0 rfl rfl ?_
    obtain ⟨v2, h1, hf⟩ := ob hf
    refine V_getI (n := 8) (ty := tyX2) 4 h1 cf_1 rfl wd_fl_X2_34 dX2_next_1 rfl ?_
    refine V_if_ne 37 7 dX2_next_4 (by decide) rfl (fun c3 => ?_) (fun c3 => ?_)
    · rw [if_neg c3] at hf
      refine V_iconst (-1) 38 dX2_next_37 rfl kiconst_m1 ?_
      refine V_goto 57 dX2_next_38 (by decide) ?_
      have er := Option.some.inj hf
      subst er
      exact V_iret hQ rfl dX2_next_57
    · rw [if_pos c3] at hf
      refine V_aload_n 0 8 rfl dX2_next_7 rfl rfl ?_
      obtain ⟨o5, h4, hf⟩ := ob hf
      refine V_getR (n := 8) (ty := tyX2) 11 h4 cf_1 rfl wd_fl_X2_9 dX2_next_8 rfl ?_
      refine V_ifnull 37 14 dX2_next_11 (by decide) rfl (fun hc => ?_) (fun q6 hc => ?_)
      · rw [if_pos hc] at hf
        refine V_iconst (-1) 38 dX2_next_37 rfl kiconst_m1 ?_
        refine V_goto 57 dX2_next_38 (by decide) ?_
        have er := Option.some.inj hf
        subst er
        exact V_iret hQ rfl dX2_next_57
      · rw [if_neg (by rw [hc]; simp)] at hf
        refine V_aload_n 0 15 rfl dX2_next_14 rfl rfl ?_
        obtain ⟨v8, h7, hf⟩ := ob hf
        refine V_getI (n := 8) (ty := tyX2) 18 h7 cf_1 rfl wd_fl_X2_28 dX2_next_15 rfl ?_
        refine V_aload_n 0 19 rfl dX2_next_18 rfl rfl ?_
        obtain ⟨q11, h9, hf⟩ := ob hf
        refine V_getQ (n := 8) (ty := tyX2) 22 h9 cf_1 rfl wd_fl_X2_9 dX2_next_19 rfl ?_
        obtain ⟨v13, h12, hf⟩ := ob hf
        refine V_getI (n := 2) (ty := tyX1) 25 h12 cf_0 rfl wd_fl_X2_46 dX2_next_22 rfl ?_
        refine V_icmp_ge 37 28 dX2_next_25 (by decide) rfl (fun c14 => ?_) (fun c14 => ?_)
        · rw [if_pos c14] at hf
          refine V_iconst (-1) 38 dX2_next_37 rfl kiconst_m1 ?_
          refine V_goto 57 dX2_next_38 (by decide) ?_
          have er := Option.some.inj hf
          subst er
          exact V_iret hQ rfl dX2_next_57
        · rw [if_neg c14] at hf
          refine V_aload_n 0 29 rfl dX2_next_28 rfl rfl ?_
          obtain ⟨v16, h15, hf⟩ := ob hf
          refine V_getI (n := 8) (ty := tyX2) 32 h15 cf_1 rfl wd_fl_X2_28 dX2_next_29 rfl ?_
          refine V_bipush 56 34 dX2_next_32 rfl kbipush_56 ?_
          refine V_icmp_lt 41 37 dX2_next_34 (by decide) rfl (fun c17 => ?_) (fun c17 => ?_)
          · rw [if_pos c17] at hf
            refine V_aload_n 0 42 rfl dX2_next_41 rfl rfl ?_
            obtain ⟨q20, h18, hf⟩ := ob hf
            refine V_getQ (n := 8) (ty := tyX2) 45 h18 cf_1 rfl wd_fl_X2_9 dX2_next_42 rfl ?_
            obtain ⟨q22, h21, hf⟩ := ob hf
            refine V_getQ (n := 2) (ty := tyX1) 48 h21 cf_0 rfl wd_fl_X2_51 dX2_next_45 rfl ?_
            refine V_aload_n 0 49 rfl dX2_next_48 rfl rfl ?_
            obtain ⟨v24, h23, hf⟩ := ob hf
            refine V_getI (n := 8) (ty := tyX2) 52 h23 cf_1 rfl wd_fl_X2_28 dX2_next_49 rfl ?_
            obtain ⟨v26, h25, hf⟩ := ob hf
            refine V_bald 53 h25 dX2_next_52 rfl ?_
            refine V_sipush 255 56 dX2_next_53 rfl ksipush_255 ?_
            refine V_iand 57 dX2_next_56 rfl ?_
            have er := Option.some.inj hf
            subst er
            exact V_iret hQ rfl dX2_next_57
          · rw [if_neg c17] at hf
            refine V_iconst (-1) 38 dX2_next_37 rfl kiconst_m1 ?_
            refine V_goto 57 dX2_next_38 (by decide) ?_
            have er := Option.some.inj hf
            subst er
            exact V_iret hQ rfl dX2_next_57
  · rw [if_neg hg] at hf
    cases hf
abbrev mi_X2_isDigit : MI := (yX2_isDigit, cX2_isDigit, 1, some .boolean)
theorem ok_X2_isDigit : OkN mi_X2_isDigit 1 := ⟨wd_cd_X2_isDigit, wd_in_X2, ⟨by decide +kernel, by decide +kernel, by decide +kernel⟩, by decide⟩
theorem oks_X2_isDigit : Cond.static (mi_X2_isDigit).1 ∈ tb := wd_sm_X2_isDigit
def f_X2_isDigit (σ : St) (a0 : Int32) : Option Int32 := (zr (if a0 < 48 then 0 else (if 57 < a0 then 0 else 1) : Int32)).bind fun z1 => some (if a0 < 48 then 0 else (if 57 < a0 then 0 else 1) : Int32)
set_option maxRecDepth 100000 in
set_option maxHeartbeats 4000000 in
theorem c_X2_isDigit (l : Launch) (G : Gd) (d : Nat) (σ : St) (a0 : Int32) (r0 : Int32) (hf : f_X2_isDigit σ a0 = some r0) : MetV l G (d + 1) mi_X2_isDigit [.int a0] σ (some (.int r0)) σ 0 0 := by
  unfold f_X2_isDigit at hf
  refine MetV.of [(0, .int a0)] (by decide +kernel) rfl (Nat.le_of_ble_eq_true rfl) ?_
  intro X hQ
  refine V_iload_n 0 1 rfl dX2_isDigit_0 rfl rfl ?_
  refine V_bipush 48 3 dX2_isDigit_1 rfl kbipush_48 ?_
  have kj3 : V mi_X2_isDigit l G (d + 1) 0 0 X 0 0 17 [(0, .int a0)] [.int (if a0 < 48 then 0 else (if 57 < a0 then 0 else 1) : Int32)] σ := by
    obtain ⟨z1, h2, hf⟩ := ob hf
    have er := Option.some.inj hf
    subst er
    exact V_zret (zr_ok h2) hQ rfl dX2_isDigit_17
  refine V_icmp_lt 16 6 dX2_isDigit_3 (by decide) rfl (fun c4 => ?_) (fun c4 => ?_)
  · refine V_iconst 0 17 dX2_isDigit_16 rfl kiconst_0 ?_
    refine V_ls [(0, .int a0)] [0] rfl ?_
    simp only [if_pos c4] at kj3
    exact kj3
  · refine V_iload_n 0 7 rfl dX2_isDigit_6 rfl rfl ?_
    refine V_bipush 57 9 dX2_isDigit_7 rfl kbipush_57 ?_
    refine V_icmp_gt 16 12 dX2_isDigit_9 (by decide) rfl (fun c5 => ?_) (fun c5 => ?_)
    · refine V_iconst 0 17 dX2_isDigit_16 rfl kiconst_0 ?_
      refine V_ls [(0, .int a0)] [0] rfl ?_
      simp only [if_neg c4, if_pos c5] at kj3
      exact kj3
    · refine V_iconst 1 13 dX2_isDigit_12 rfl kiconst_1 ?_
      refine V_goto 17 dX2_isDigit_13 (by decide) ?_
      refine V_ls [(0, .int a0)] [0] rfl ?_
      simp only [if_neg c4, if_neg c5] at kj3
      exact kj3
abbrev mi_X2_number : MI := (yX2_number, cX2_number, 3, some .int)
theorem ok_X2_number : OkN mi_X2_number 0 := ⟨wd_cd_X2_number, wd_in_X2, ⟨by decide +kernel, by decide +kernel, by decide +kernel⟩, by decide⟩
theorem okv_X2_number : Cond.instanceMethod (mi_X2_number).1 ∈ tb ∧ Cond.selects (mi_X2_number).1.cls (mi_X2_number).1 (mi_X2_number).1 ∈ tb := ⟨wd_im_X2_number, wd_se_X2_number⟩
def f_X2_number_L4 (t : Nat) : Nat → Int32 → Int32 → St → Option (Int32 × Int32 × St)
  | 0, _, _, _ => none
  | n + 1, x2, x1, σ => if 4 ≤ x2 then (some (x2, x1, σ)) else ((f_X2_next σ t).bind fun v3 => (f_X2_isDigit σ v3).bind fun v5 => if v5 = 0 then (some (x2, x1, σ)) else ((f_X2_next σ t).bind fun v8 => (gI σ 1 t 5).bind fun v10 => (pI σ 1 t 5 (v10 + 1)).bind fun s12 => f_X2_number_L4 t n (x2 + 1) (((x1 * 10) + v8) - 48) s12))
def f_X2_number (σ : St) (t : Nat) : Option (Int32 × St) := if isO σ 1 t = true then ((f_X2_number_L4 t 3000 0 0 σ).bind fun p13 => some (p13.2.1, p13.2.2)) else none
theorem gd_X2_number {σ : St} {t : Nat} {r : Int32 × St} (h : f_X2_number σ t = some r) : isO σ 1 t = true := by
  unfold f_X2_number at h
  by_cases hg : isO σ 1 t = true
  · exact hg
  · rw [if_neg hg] at h
    cases h
set_option maxRecDepth 100000 in
set_option maxHeartbeats 4000000 in
theorem c_X2_number (l : Launch) (G : Gd) (d : Nat) (σ : St) (t : Nat) (r0 : Int32) (σ' : St) (hf : f_X2_number σ t = some (r0, σ')) : MetV l G (d + 2) mi_X2_number [.ref t] σ (some (.int r0)) σ' 0 0 := by
  unfold f_X2_number at hf
  refine MetV.of [(0, .ref t)] (by decide +kernel) rfl (Nat.le_of_ble_eq_true rfl) ?_
  intro X hQ
  have L4 : ∀  (n : Nat) (x2 : Int32) (x1 : Int32) (σ : St) (p : Int32 × Int32 × St), f_X2_number_L4 t n x2 x1 σ = some p → V mi_X2_number l G (d + 2) 0 0 X 0 0 48 [(2, .int p.1), (1, .int p.2.1), (0, .ref t)] [] p.2.2 → V mi_X2_number l G (d + 2) 0 0 X 0 0 4 [(2, .int x2), (1, .int x1), (0, .ref t)] [] σ := by
    intro  n
    induction n with
    | zero =>
      intro x2 x1 σ p hf
      exact absurd (show (none : Option _) = some p from hf) (by simp)
    | succ n ih =>
      intro x2 x1 σ p hf hk
      rw [f_X2_number_L4] at hf
      refine V_iload_n 0 5 rfl dX2_number_4 rfl rfl ?_
      refine V_iconst 4 6 dX2_number_5 rfl kiconst_4 ?_
      refine V_icmp_ge 48 9 dX2_number_6 (by decide) rfl (fun c1 => ?_) (fun c1 => ?_)
      · rw [if_pos c1] at hf
        have ep := Option.some.inj hf
        subst ep
        refine V_ls [(2, .int x2), (1, .int x1), (0, .ref t)] [0, 1, 2] rfl ?_
        exact hk
      · rw [if_neg c1] at hf
        refine V_aload_n 2 10 rfl dX2_number_9 rfl rfl ?_
        obtain ⟨v3, h2, hf⟩ := ob hf
        refine V_callV (rest := []) (T := TX2) (n := 8) (ci := 1) 0 0 13 [.int v3] (c_X2_next l G (d + 0) _ _ _ h2) (by omega) ok_X2_next okv_X2_next (gd_X2_next h2) rfl wd_ml_X2_42 rfl rfl (Nat.le_of_ble_eq_true rfl) rfl rfl (Or.inl ⟨rfl, rfl⟩) dX2_number_10 rfl rfl ?_
        obtain ⟨v5, h4, hf⟩ := ob hf
        refine V_callS (rest := []) 0 0 16 [.int v5] (c_X2_isDigit l G (d + 0) _ _ _ h4) (by omega) ok_X2_isDigit oks_X2_isDigit wd_ml_X2_77 rfl rfl (Nat.le_of_ble_eq_true rfl) rfl rfl (Or.inl ⟨rfl, rfl⟩) dX2_number_13 rfl rfl ?_
        refine V_if_eq 48 19 dX2_number_16 (by decide) rfl (fun c6 => ?_) (fun c6 => ?_)
        · rw [if_pos c6] at hf
          have ep := Option.some.inj hf
          subst ep
          refine V_ls [(2, .int x2), (1, .int x1), (0, .ref t)] [0, 1, 2] rfl ?_
          exact hk
        · rw [if_neg c6] at hf
          refine V_iload_n 1 20 rfl dX2_number_19 rfl rfl ?_
          refine V_bipush 10 22 dX2_number_20 rfl kbipush_10 ?_
          refine V_imul 23 dX2_number_22 rfl ?_
          refine V_aload_n 2 24 rfl dX2_number_23 rfl rfl ?_
          obtain ⟨v8, h7, hf⟩ := ob hf
          refine V_callV (rest := [.int (x1 * 10)]) (T := TX2) (n := 8) (ci := 1) 0 0 27 [.int v8, .int (x1 * 10)] (c_X2_next l G (d + 0) _ _ _ h7) (by omega) ok_X2_next okv_X2_next (gd_X2_next h7) rfl wd_ml_X2_42 rfl rfl (Nat.le_of_ble_eq_true rfl) rfl rfl (Or.inl ⟨rfl, rfl⟩) dX2_number_24 rfl rfl ?_
          refine V_iadd 28 dX2_number_27 rfl ?_
          refine V_bipush 48 30 dX2_number_28 rfl kbipush_48 ?_
          refine V_isub 31 dX2_number_30 rfl ?_
          refine V_istore_n [(1, .int (((x1 * 10) + v8) - 48)), (2, .int x2), (0, .ref t)] 32 dX2_number_31 rfl (by decide) rfl rfl ?_
          refine V_aload_n 2 33 rfl dX2_number_32 rfl rfl ?_
          refine V_dup 34 dX2_number_33 rfl rfl ?_
          obtain ⟨v10, h9, hf⟩ := ob hf
          refine V_getI (n := 8) (ty := tyX2) 37 h9 cf_1 rfl wd_fl_X2_28 dX2_number_34 rfl ?_
          refine V_iconst 1 38 dX2_number_37 rfl kiconst_1 ?_
          refine V_iadd 39 dX2_number_38 rfl ?_
          obtain ⟨s12, h11, hf⟩ := ob hf
          refine V_putI (n := 8) (T := TX2) (ty := tyX2) (f := 5) 42 h11 cf_1 rfl rfl (Or.inl rfl) wd_fl_X2_28 dX2_number_39 rfl ?_
          refine V_iinc (x2 + 1) 1 [(2, .int (x2 + 1)), (1, .int (((x1 * 10) + v8) - 48)), (0, .ref t)] 45 dX2_number_42 rfl (by rw [kiconst_1]) (by decide) rfl rfl ?_
          refine V_goto 4 dX2_number_45 (by decide) ?_
          refine V_ls [(2, .int (x2 + 1)), (1, .int (((x1 * 10) + v8) - 48)), (0, .ref t)] [0, 1, 2] rfl ?_
          exact ih _ _ _ _ hf hk
  by_cases hg : isO σ 1 t = true
  · rw [if_pos hg] at hf
    refine V_iconst 0 1 dX2_number_0 rfl kiconst_0 ?_
    refine V_istore_n [(1, .int 0), (0, .ref t)] 2 dX2_number_1 rfl (by decide) rfl rfl ?_
    refine V_iconst 0 3 dX2_number_2 rfl kiconst_0 ?_
    refine V_istore_n [(2, .int 0), (1, .int 0), (0, .ref t)] 4 dX2_number_3 rfl (by decide) rfl rfl ?_
    obtain ⟨p13, h14, hf⟩ := ob hf
    refine V_ls [(2, .int 0), (1, .int 0), (0, .ref t)] [0, 1, 2] rfl ?_
    refine L4 3000 0 0 σ p13 h14 ?_
    refine V_iload_n 1 49 rfl dX2_number_48 rfl rfl ?_
    have er := Option.some.inj hf
    obtain ⟨e1, e2⟩ := Prod.mk.inj er
    subst e1
    subst e2
    exact V_iret hQ rfl dX2_number_49
  · rw [if_neg hg] at hf
    cases hf
abbrev mi_X2_names : MI := (yX2_names, cX2_names, 1, some (.object "java/lang/String"))
theorem ok_X2_names : OkN mi_X2_names 0 := ⟨wd_cd_X2_names, wd_in_X2, ⟨by decide +kernel, by decide +kernel, by decide +kernel⟩, by decide⟩
theorem okv_X2_names : Cond.instanceMethod (mi_X2_names).1 ∈ tb ∧ Cond.selects (mi_X2_names).1.cls (mi_X2_names).1 (mi_X2_names).1 ∈ tb := ⟨wd_im_X2_names, wd_se_X2_names⟩
def f_X2_names (σ : St) (t : Nat) : Option Nat := if isO σ 1 t = true then ((gI σ 1 t 1).bind fun v2 => if v2 = 0 then (some 1004) else (if v2 = 1 then (some 1005) else (some 1006))) else none
theorem gd_X2_names {σ : St} {t : Nat} {r : Nat} (h : f_X2_names σ t = some r) : isO σ 1 t = true := by
  unfold f_X2_names at h
  by_cases hg : isO σ 1 t = true
  · exact hg
  · rw [if_neg hg] at h
    cases h
set_option maxRecDepth 100000 in
set_option maxHeartbeats 4000000 in
theorem c_X2_names (l : Launch) (G : Gd) (d : Nat) (σ : St) (t : Nat) (r0 : Nat) (hf : f_X2_names σ t = some r0) : MetV l G (d + 1) mi_X2_names [.ref t] σ (some (.ref r0)) σ 0 0 := by
  unfold f_X2_names at hf
  refine MetV.of [(0, .ref t)] (by decide +kernel) rfl (Nat.le_of_ble_eq_true rfl) ?_
  intro X hQ
  by_cases hg : isO σ 1 t = true
  · rw [if_pos hg] at hf
    refine V_aload_n 0 1 rfl dX2_names_0 rfl rfl ?_
    obtain ⟨v2, h1, hf⟩ := ob hf
    refine V_getI (n := 8) (ty := tyX2) 4 h1 cf_1 rfl wd_fl_X2_15 dX2_names_1 rfl ?_
    by_cases c3 : v2 = 0
    · rw [if_pos c3] at hf
      refine V_lsw 0 28 32 dX2_names_4 c3 (by decide) (by decide) (by decide) ?_
      refine V_ldcS 34 (j := 4) (tx := "xmd") (fun s h => h.2.2.2.2.1.1) (by decide) dX2_names_32 rfl ?_
      have er := Option.some.inj hf
      subst er
      exact V_aret hQ rfl dX2_names_34
    rw [if_neg c3] at hf
    by_cases c4 : v2 = 1
    · rw [if_pos c4] at hf
      refine V_lsw 1 31 35 dX2_names_4 c4 (by decide) (by decide) (by decide) ?_
      refine V_ldcS 37 (j := 5) (tx := "md") (fun s h => h.2.2.2.2.1.2.1) (by decide) dX2_names_35 rfl ?_
      have er := Option.some.inj hf
      subst er
      exact V_aret hQ rfl dX2_names_37
    rw [if_neg c4] at hf
    refine V_lswD [0, 1] 38 dX2_names_4 (fun q hq => by simp only [List.mem_cons, List.not_mem_nil, or_false] at hq; rcases hq with rfl | rfl <;> assumption) (by decide) (by decide) (by decide) ?_
    refine V_ldcS 40 (j := 6) (tx := "hpd") (fun s h => h.2.2.2.2.1.2.2) (by decide) dX2_names_38 rfl ?_
    have er := Option.some.inj hf
    subst er
    exact V_aret hQ rfl dX2_names_40
  · rw [if_neg hg] at hf
    cases hf
abbrev mi_X2_takes : MI := (yX2_takes, cX2_takes, 2, some .boolean)
theorem ok_X2_takes : OkN mi_X2_takes 1 := ⟨wd_cd_X2_takes, wd_in_X2, ⟨by decide +kernel, by decide +kernel, by decide +kernel⟩, by decide⟩
theorem okv_X2_takes : Cond.instanceMethod (mi_X2_takes).1 ∈ tb ∧ Cond.selects (mi_X2_takes).1.cls (mi_X2_takes).1 (mi_X2_takes).1 ∈ tb := ⟨wd_im_X2_takes, wd_se_X2_takes⟩
def f_X2_takes (σ : St) (t : Nat) (a0 : Int32) : Option (Int32 × St) := if isO σ 1 t = true then ((f_X2_next σ t).bind fun v2 => if v2 = a0 then ((gI σ 1 t 5).bind fun v5 => (pI σ 1 t 5 (v5 + 1)).bind fun s7 => some (1, s7)) else (some (0, σ))) else none
theorem gd_X2_takes {σ : St} {t : Nat} {a0 : Int32} {r : Int32 × St} (h : f_X2_takes σ t a0 = some r) : isO σ 1 t = true := by
  unfold f_X2_takes at h
  by_cases hg : isO σ 1 t = true
  · exact hg
  · rw [if_neg hg] at h
    cases h
set_option maxRecDepth 100000 in
set_option maxHeartbeats 4000000 in
theorem c_X2_takes (l : Launch) (G : Gd) (d : Nat) (σ : St) (t : Nat) (a0 : Int32) (r0 : Int32) (σ' : St) (hf : f_X2_takes σ t a0 = some (r0, σ')) : MetV l G (d + 2) mi_X2_takes [.ref t, .int a0] σ (some (.int r0)) σ' 0 0 := by
  unfold f_X2_takes at hf
  refine MetV.of [(0, .ref t), (1, .int a0)] (by decide +kernel) rfl (Nat.le_of_ble_eq_true rfl) ?_
  intro X hQ
  by_cases hg : isO σ 1 t = true
  · rw [if_pos hg] at hf
    refine V_aload_n 0 1 rfl dX2_takes_0 rfl rfl ?_
    obtain ⟨v2, h1, hf⟩ := ob hf
    refine V_callV (rest := []) (T := TX2) (n := 8) (ci := 1) 0 0 4 [.int v2] (c_X2_next l G (d + 0) _ _ _ h1) (by omega) ok_X2_next okv_X2_next (gd_X2_next h1) rfl wd_ml_X2_42 rfl rfl (Nat.le_of_ble_eq_true rfl) rfl rfl (Or.inl ⟨rfl, rfl⟩) dX2_takes_1 rfl rfl ?_
    refine V_iload_n 1 5 rfl dX2_takes_4 rfl rfl ?_
    refine V_icmp_eq 10 8 dX2_takes_5 (by decide) rfl (fun c3 => ?_) (fun c3 => ?_)
    · rw [if_pos c3] at hf
      refine V_aload_n 0 11 rfl dX2_takes_10 rfl rfl ?_
      refine V_dup 12 dX2_takes_11 rfl rfl ?_
      obtain ⟨v5, h4, hf⟩ := ob hf
      refine V_getI (n := 8) (ty := tyX2) 15 h4 cf_1 rfl wd_fl_X2_28 dX2_takes_12 rfl ?_
      refine V_iconst 1 16 dX2_takes_15 rfl kiconst_1 ?_
      refine V_iadd 17 dX2_takes_16 rfl ?_
      obtain ⟨s7, h6, hf⟩ := ob hf
      refine V_putI (n := 8) (T := TX2) (ty := tyX2) (f := 5) 20 h6 cf_1 rfl rfl (Or.inl rfl) wd_fl_X2_28 dX2_takes_17 rfl ?_
      refine V_iconst 1 21 dX2_takes_20 rfl kiconst_1 ?_
      have er := Option.some.inj hf
      obtain ⟨e1, e2⟩ := Prod.mk.inj er
      subst e1
      subst e2
      exact V_zret (by decide) hQ rfl dX2_takes_21
    · rw [if_neg c3] at hf
      refine V_iconst 0 9 dX2_takes_8 rfl kiconst_0 ?_
      have er := Option.some.inj hf
      obtain ⟨e1, e2⟩ := Prod.mk.inj er
      subst e1
      subst e2
      exact V_zret (by decide) hQ rfl dX2_takes_9
  · rw [if_neg hg] at hf
    cases hf
abbrev mi_X2_wants : MI := (yX2_wants, cX2_wants, 2, none)
theorem ok_X2_wants : OkN mi_X2_wants 1 := ⟨wd_cd_X2_wants, wd_in_X2, ⟨by decide +kernel, by decide +kernel, by decide +kernel⟩, by decide⟩
theorem okv_X2_wants : Cond.instanceMethod (mi_X2_wants).1 ∈ tb ∧ Cond.selects (mi_X2_wants).1.cls (mi_X2_wants).1 (mi_X2_wants).1 ∈ tb := ⟨wd_im_X2_wants, wd_se_X2_wants⟩
def f_X2_wants (σ : St) (t : Nat) (a0 : Int32) : Option St := if isO σ 1 t = true then ((f_X2_takes σ t a0).bind fun p2 => if p2.1 = 0 then ((pZ p2.2 1 t 7 1).bind fun s5 => some s5) else (some p2.2)) else none
theorem gd_X2_wants {σ : St} {t : Nat} {a0 : Int32} {r : St} (h : f_X2_wants σ t a0 = some r) : isO σ 1 t = true := by
  unfold f_X2_wants at h
  by_cases hg : isO σ 1 t = true
  · exact hg
  · rw [if_neg hg] at h
    cases h
set_option maxRecDepth 100000 in
set_option maxHeartbeats 4000000 in
theorem c_X2_wants (l : Launch) (G : Gd) (d : Nat) (σ : St) (t : Nat) (a0 : Int32) (σ' : St) (hf : f_X2_wants σ t a0 = some σ') : MetV l G (d + 3) mi_X2_wants [.ref t, .int a0] σ none σ' 0 0 := by
  unfold f_X2_wants at hf
  refine MetV.of [(0, .ref t), (1, .int a0)] (by decide +kernel) rfl (Nat.le_of_ble_eq_true rfl) ?_
  intro X hQ
  by_cases hg : isO σ 1 t = true
  · rw [if_pos hg] at hf
    refine V_aload_n 0 1 rfl dX2_wants_0 rfl rfl ?_
    refine V_iload_n 1 2 rfl dX2_wants_1 rfl rfl ?_
    obtain ⟨p2, h1, hf⟩ := ob hf
    refine V_callV (rest := []) (T := TX2) (n := 8) (ci := 1) 0 0 5 [.int p2.1] (c_X2_takes l G (d + 0) _ _ _ _ _ h1) (by omega) ok_X2_takes okv_X2_takes (gd_X2_takes h1) rfl wd_ml_X2_55 rfl rfl (Nat.le_of_ble_eq_true rfl) rfl rfl (Or.inl ⟨rfl, rfl⟩) dX2_wants_2 rfl rfl ?_
    refine V_if_ne 13 8 dX2_wants_5 (by decide) rfl (fun c3 => ?_) (fun c3 => ?_)
    · rw [if_neg c3] at hf
      have er := Option.some.inj hf
      subst er
      exact V_vret hQ rfl dX2_wants_13
    · rw [if_pos c3] at hf
      refine V_aload_n 0 9 rfl dX2_wants_8 rfl rfl ?_
      refine V_iconst 1 10 dX2_wants_9 rfl kiconst_1 ?_
      obtain ⟨s5, h4, hf⟩ := ob hf
      refine V_putZ (n := 8) (T := TX2) (ty := tyX2) (f := 7) 13 h4 cf_1 rfl rfl (Or.inl rfl) wd_fl_X2_34 dX2_wants_10 rfl ?_
      have er := Option.some.inj hf
      subst er
      exact V_vret hQ rfl dX2_wants_13
  · rw [if_neg hg] at hf
    cases hf
abbrev mi_X2_levelOf : MI := (yX2_levelOf, cX2_levelOf, 1, some .int)
theorem ok_X2_levelOf : OkN mi_X2_levelOf 1 := ⟨wd_cd_X2_levelOf, wd_in_X2, ⟨by decide +kernel, by decide +kernel, by decide +kernel⟩, by decide⟩
theorem oks_X2_levelOf : Cond.static (mi_X2_levelOf).1 ∈ tb := wd_sm_X2_levelOf
def f_X2_levelOf (σ : St) (a0 : Int32) : Option Int32 := if a0 = 37 then (some 3) else (if a0 = 38 then (some 0) else (if a0 = 42 then (some 3) else (if a0 = 43 then (some 2) else (if a0 = 45 then (some 2) else (if a0 = 47 then (some 3) else (if a0 = 60 then (some 1) else (if a0 = 61 then (some 1) else (if a0 = 62 then (some 1) else (if a0 = 124 then (some 0) else (some (-1)))))))))))
set_option maxRecDepth 100000 in
set_option maxHeartbeats 4000000 in
theorem c_X2_levelOf (l : Launch) (G : Gd) (d : Nat) (σ : St) (a0 : Int32) (r0 : Int32) (hf : f_X2_levelOf σ a0 = some r0) : MetV l G (d + 1) mi_X2_levelOf [.int a0] σ (some (.int r0)) σ 0 0 := by
  unfold f_X2_levelOf at hf
  refine MetV.of [(0, .int a0)] (by decide +kernel) rfl (Nat.le_of_ble_eq_true rfl) ?_
  intro X hQ
  refine V_iload_n 0 1 rfl dX2_levelOf_0 rfl rfl ?_
  by_cases c1 : a0 = 37
  · rw [if_pos c1] at hf
    refine V_lsw 37 97 98 dX2_levelOf_1 c1 (by decide) (by decide) (by decide) ?_
    refine V_iconst 3 99 dX2_levelOf_98 rfl kiconst_3 ?_
    have er := Option.some.inj hf
    subst er
    exact V_iret hQ rfl dX2_levelOf_99
  rw [if_neg c1] at hf
  by_cases c2 : a0 = 38
  · rw [if_pos c2] at hf
    refine V_lsw 38 91 92 dX2_levelOf_1 c2 (by decide) (by decide) (by decide) ?_
    refine V_iconst 0 93 dX2_levelOf_92 rfl kiconst_0 ?_
    have er := Option.some.inj hf
    subst er
    exact V_iret hQ rfl dX2_levelOf_93
  rw [if_neg c2] at hf
  by_cases c3 : a0 = 42
  · rw [if_pos c3] at hf
    refine V_lsw 42 97 98 dX2_levelOf_1 c3 (by decide) (by decide) (by decide) ?_
    refine V_iconst 3 99 dX2_levelOf_98 rfl kiconst_3 ?_
    have er := Option.some.inj hf
    subst er
    exact V_iret hQ rfl dX2_levelOf_99
  rw [if_neg c3] at hf
  by_cases c4 : a0 = 43
  · rw [if_pos c4] at hf
    refine V_lsw 43 95 96 dX2_levelOf_1 c4 (by decide) (by decide) (by decide) ?_
    refine V_iconst 2 97 dX2_levelOf_96 rfl kiconst_2 ?_
    have er := Option.some.inj hf
    subst er
    exact V_iret hQ rfl dX2_levelOf_97
  rw [if_neg c4] at hf
  by_cases c5 : a0 = 45
  · rw [if_pos c5] at hf
    refine V_lsw 45 95 96 dX2_levelOf_1 c5 (by decide) (by decide) (by decide) ?_
    refine V_iconst 2 97 dX2_levelOf_96 rfl kiconst_2 ?_
    have er := Option.some.inj hf
    subst er
    exact V_iret hQ rfl dX2_levelOf_97
  rw [if_neg c5] at hf
  by_cases c6 : a0 = 47
  · rw [if_pos c6] at hf
    refine V_lsw 47 97 98 dX2_levelOf_1 c6 (by decide) (by decide) (by decide) ?_
    refine V_iconst 3 99 dX2_levelOf_98 rfl kiconst_3 ?_
    have er := Option.some.inj hf
    subst er
    exact V_iret hQ rfl dX2_levelOf_99
  rw [if_neg c6] at hf
  by_cases c7 : a0 = 60
  · rw [if_pos c7] at hf
    refine V_lsw 60 93 94 dX2_levelOf_1 c7 (by decide) (by decide) (by decide) ?_
    refine V_iconst 1 95 dX2_levelOf_94 rfl kiconst_1 ?_
    have er := Option.some.inj hf
    subst er
    exact V_iret hQ rfl dX2_levelOf_95
  rw [if_neg c7] at hf
  by_cases c8 : a0 = 61
  · rw [if_pos c8] at hf
    refine V_lsw 61 93 94 dX2_levelOf_1 c8 (by decide) (by decide) (by decide) ?_
    refine V_iconst 1 95 dX2_levelOf_94 rfl kiconst_1 ?_
    have er := Option.some.inj hf
    subst er
    exact V_iret hQ rfl dX2_levelOf_95
  rw [if_neg c8] at hf
  by_cases c9 : a0 = 62
  · rw [if_pos c9] at hf
    refine V_lsw 62 93 94 dX2_levelOf_1 c9 (by decide) (by decide) (by decide) ?_
    refine V_iconst 1 95 dX2_levelOf_94 rfl kiconst_1 ?_
    have er := Option.some.inj hf
    subst er
    exact V_iret hQ rfl dX2_levelOf_95
  rw [if_neg c9] at hf
  by_cases c10 : a0 = 124
  · rw [if_pos c10] at hf
    refine V_lsw 124 91 92 dX2_levelOf_1 c10 (by decide) (by decide) (by decide) ?_
    refine V_iconst 0 93 dX2_levelOf_92 rfl kiconst_0 ?_
    have er := Option.some.inj hf
    subst er
    exact V_iret hQ rfl dX2_levelOf_93
  rw [if_neg c10] at hf
  refine V_lswD [37, 38, 42, 43, 45, 47, 60, 61, 62, 124] 100 dX2_levelOf_1 (fun q hq => by simp only [List.mem_cons, List.not_mem_nil, or_false] at hq; rcases hq with rfl | rfl | rfl | rfl | rfl | rfl | rfl | rfl | rfl | rfl <;> assumption) (by decide) (by decide) (by decide) ?_
  refine V_iconst (-1) 101 dX2_levelOf_100 rfl kiconst_m1 ?_
  have er := Option.some.inj hf
  subst er
  exact V_iret hQ rfl dX2_levelOf_101
abbrev mi_X2_join : MI := (yX2_join, cX2_join, 3, some .int)
theorem ok_X2_join : OkN mi_X2_join 3 := ⟨wd_cd_X2_join, wd_in_X2, ⟨by decide +kernel, by decide +kernel, by decide +kernel⟩, by decide⟩
theorem oks_X2_join : Cond.static (mi_X2_join).1 ∈ tb := wd_sm_X2_join
def f_X2_join (σ : St) (a0 : Int32) (a1 : Int32) (a2 : Int32) : Option Int32 := if a0 = 38 then (some (if a1 = 0 then 0 else (if a2 = 0 then 0 else 1) : Int32)) else (if a0 = 42 then (some (a1 * a2)) else (if a0 = 43 then (some (a1 + a2)) else (if a0 = 45 then (some (a1 - a2)) else (if a0 = 47 then (if a2 = 0 then (some 0) else ((ne0 a2).bind fun z10 => some (a1 / a2))) else (if a0 = 60 then (some (if a2 ≤ a1 then 0 else 1 : Int32)) else (if a0 = 61 then (some (if a1 = a2 then 1 else 0 : Int32)) else (if a0 = 62 then (some (if a1 ≤ a2 then 0 else 1 : Int32)) else (if a0 = 124 then (some (if a1 = 0 then (if a2 = 0 then 0 else 1) else 1 : Int32)) else (if a2 = 0 then (some 0) else ((ne0 a2).bind fun z26 => some (irm a1 a2)))))))))))
set_option maxRecDepth 100000 in
set_option maxHeartbeats 4000000 in
theorem c_X2_join (l : Launch) (G : Gd) (d : Nat) (σ : St) (a0 : Int32) (a1 : Int32) (a2 : Int32) (r0 : Int32) (hf : f_X2_join σ a0 a1 a2 = some r0) : MetV l G (d + 1) mi_X2_join [.int a0, .int a1, .int a2] σ (some (.int r0)) σ 0 0 := by
  unfold f_X2_join at hf
  refine MetV.of [(0, .int a0), (1, .int a1), (2, .int a2)] (by decide +kernel) rfl (Nat.le_of_ble_eq_true rfl) ?_
  intro X hQ
  refine V_iload_n 0 1 rfl dX2_join_0 rfl rfl ?_
  by_cases c1 : a0 = 38
  · rw [if_pos c1] at hf
    refine V_lsw 38 83 84 dX2_join_1 c1 (by decide) (by decide) (by decide) ?_
    refine V_iload_n 1 85 rfl dX2_join_84 rfl rfl ?_
    have kj2 : V mi_X2_join l G (d + 1) 0 0 X 0 0 97 [(0, .int a0), (1, .int a1), (2, .int a2)] [.int (if a1 = 0 then 0 else (if a2 = 0 then 0 else 1) : Int32)] σ := by
      have er := Option.some.inj hf
      subst er
      exact V_iret hQ rfl dX2_join_97
    refine V_if_eq 96 88 dX2_join_85 (by decide) rfl (fun c3 => ?_) (fun c3 => ?_)
    · refine V_iconst 0 97 dX2_join_96 rfl kiconst_0 ?_
      refine V_ls [(0, .int a0), (1, .int a1), (2, .int a2)] [0, 1, 2] rfl ?_
      simp only [if_pos c3] at kj2
      exact kj2
    · refine V_iload_n 2 89 rfl dX2_join_88 rfl rfl ?_
      refine V_if_eq 96 92 dX2_join_89 (by decide) rfl (fun c4 => ?_) (fun c4 => ?_)
      · refine V_iconst 0 97 dX2_join_96 rfl kiconst_0 ?_
        refine V_ls [(0, .int a0), (1, .int a1), (2, .int a2)] [0, 1, 2] rfl ?_
        simp only [if_neg c3, if_pos c4] at kj2
        exact kj2
      · refine V_iconst 1 93 dX2_join_92 rfl kiconst_1 ?_
        refine V_goto 97 dX2_join_93 (by decide) ?_
        refine V_ls [(0, .int a0), (1, .int a1), (2, .int a2)] [0, 1, 2] rfl ?_
        simp only [if_neg c3, if_neg c4] at kj2
        exact kj2
  rw [if_neg c1] at hf
  by_cases c5 : a0 = 42
  · rw [if_pos c5] at hf
    refine V_lsw 42 152 153 dX2_join_1 c5 (by decide) (by decide) (by decide) ?_
    refine V_iload_n 1 154 rfl dX2_join_153 rfl rfl ?_
    refine V_iload_n 2 155 rfl dX2_join_154 rfl rfl ?_
    refine V_imul 156 dX2_join_155 rfl ?_
    have er := Option.some.inj hf
    subst er
    exact V_iret hQ rfl dX2_join_156
  rw [if_neg c5] at hf
  by_cases c6 : a0 = 43
  · rw [if_pos c6] at hf
    refine V_lsw 43 144 145 dX2_join_1 c6 (by decide) (by decide) (by decide) ?_
    refine V_iload_n 1 146 rfl dX2_join_145 rfl rfl ?_
    refine V_iload_n 2 147 rfl dX2_join_146 rfl rfl ?_
    refine V_iadd 148 dX2_join_147 rfl ?_
    have er := Option.some.inj hf
    subst er
    exact V_iret hQ rfl dX2_join_148
  rw [if_neg c6] at hf
  by_cases c7 : a0 = 45
  · rw [if_pos c7] at hf
    refine V_lsw 45 148 149 dX2_join_1 c7 (by decide) (by decide) (by decide) ?_
    refine V_iload_n 1 150 rfl dX2_join_149 rfl rfl ?_
    refine V_iload_n 2 151 rfl dX2_join_150 rfl rfl ?_
    refine V_isub 152 dX2_join_151 rfl ?_
    have er := Option.some.inj hf
    subst er
    exact V_iret hQ rfl dX2_join_152
  rw [if_neg c7] at hf
  by_cases c8 : a0 = 47
  · rw [if_pos c8] at hf
    refine V_lsw 47 156 157 dX2_join_1 c8 (by decide) (by decide) (by decide) ?_
    refine V_iload_n 2 158 rfl dX2_join_157 rfl rfl ?_
    refine V_if_ne 165 161 dX2_join_158 (by decide) rfl (fun c9 => ?_) (fun c9 => ?_)
    · rw [if_neg c9] at hf
      refine V_iload_n 1 166 rfl dX2_join_165 rfl rfl ?_
      refine V_iload_n 2 167 rfl dX2_join_166 rfl rfl ?_
      obtain ⟨z10, h11, hf⟩ := ob hf
      refine V_idiv 168 dX2_join_167 rfl (ne0_ne h11) ?_
      have er := Option.some.inj hf
      subst er
      exact V_iret hQ rfl dX2_join_168
    · rw [if_pos c9] at hf
      refine V_iconst 0 162 dX2_join_161 rfl kiconst_0 ?_
      refine V_goto 168 dX2_join_162 (by decide) ?_
      have er := Option.some.inj hf
      subst er
      exact V_iret hQ rfl dX2_join_168
  rw [if_neg c8] at hf
  by_cases c12 : a0 = 60
  · rw [if_pos c12] at hf
    refine V_lsw 60 111 112 dX2_join_1 c12 (by decide) (by decide) (by decide) ?_
    refine V_iload_n 1 113 rfl dX2_join_112 rfl rfl ?_
    refine V_iload_n 2 114 rfl dX2_join_113 rfl rfl ?_
    have kj13 : V mi_X2_join l G (d + 1) 0 0 X 0 0 122 [(0, .int a0), (1, .int a1), (2, .int a2)] [.int (if a2 ≤ a1 then 0 else 1 : Int32)] σ := by
      have er := Option.some.inj hf
      subst er
      exact V_iret hQ rfl dX2_join_122
    refine V_icmp_ge 121 117 dX2_join_114 (by decide) rfl (fun c14 => ?_) (fun c14 => ?_)
    · refine V_iconst 0 122 dX2_join_121 rfl kiconst_0 ?_
      refine V_ls [(0, .int a0), (1, .int a1), (2, .int a2)] [0, 1, 2] rfl ?_
      simp only [if_pos c14] at kj13
      exact kj13
    · refine V_iconst 1 118 dX2_join_117 rfl kiconst_1 ?_
      refine V_goto 122 dX2_join_118 (by decide) ?_
      refine V_ls [(0, .int a0), (1, .int a1), (2, .int a2)] [0, 1, 2] rfl ?_
      simp only [if_neg c14] at kj13
      exact kj13
  rw [if_neg c12] at hf
  by_cases c15 : a0 = 61
  · rw [if_pos c15] at hf
    refine V_lsw 61 122 123 dX2_join_1 c15 (by decide) (by decide) (by decide) ?_
    refine V_iload_n 1 124 rfl dX2_join_123 rfl rfl ?_
    refine V_iload_n 2 125 rfl dX2_join_124 rfl rfl ?_
    have kj16 : V mi_X2_join l G (d + 1) 0 0 X 0 0 133 [(0, .int a0), (1, .int a1), (2, .int a2)] [.int (if a1 = a2 then 1 else 0 : Int32)] σ := by
      have er := Option.some.inj hf
      subst er
      exact V_iret hQ rfl dX2_join_133
    refine V_icmp_ne 132 128 dX2_join_125 (by decide) rfl (fun c17 => ?_) (fun c17 => ?_)
    · refine V_iconst 0 133 dX2_join_132 rfl kiconst_0 ?_
      refine V_ls [(0, .int a0), (1, .int a1), (2, .int a2)] [0, 1, 2] rfl ?_
      simp only [if_neg c17] at kj16
      exact kj16
    · refine V_iconst 1 129 dX2_join_128 rfl kiconst_1 ?_
      refine V_goto 133 dX2_join_129 (by decide) ?_
      refine V_ls [(0, .int a0), (1, .int a1), (2, .int a2)] [0, 1, 2] rfl ?_
      simp only [if_pos c17] at kj16
      exact kj16
  rw [if_neg c15] at hf
  by_cases c18 : a0 = 62
  · rw [if_pos c18] at hf
    refine V_lsw 62 133 134 dX2_join_1 c18 (by decide) (by decide) (by decide) ?_
    refine V_iload_n 1 135 rfl dX2_join_134 rfl rfl ?_
    refine V_iload_n 2 136 rfl dX2_join_135 rfl rfl ?_
    have kj19 : V mi_X2_join l G (d + 1) 0 0 X 0 0 144 [(0, .int a0), (1, .int a1), (2, .int a2)] [.int (if a1 ≤ a2 then 0 else 1 : Int32)] σ := by
      have er := Option.some.inj hf
      subst er
      exact V_iret hQ rfl dX2_join_144
    refine V_icmp_le 143 139 dX2_join_136 (by decide) rfl (fun c20 => ?_) (fun c20 => ?_)
    · refine V_iconst 0 144 dX2_join_143 rfl kiconst_0 ?_
      refine V_ls [(0, .int a0), (1, .int a1), (2, .int a2)] [0, 1, 2] rfl ?_
      simp only [if_pos c20] at kj19
      exact kj19
    · refine V_iconst 1 140 dX2_join_139 rfl kiconst_1 ?_
      refine V_goto 144 dX2_join_140 (by decide) ?_
      refine V_ls [(0, .int a0), (1, .int a1), (2, .int a2)] [0, 1, 2] rfl ?_
      simp only [if_neg c20] at kj19
      exact kj19
  rw [if_neg c18] at hf
  by_cases c21 : a0 = 124
  · rw [if_pos c21] at hf
    refine V_lsw 124 97 98 dX2_join_1 c21 (by decide) (by decide) (by decide) ?_
    refine V_iload_n 1 99 rfl dX2_join_98 rfl rfl ?_
    have kj22 : V mi_X2_join l G (d + 1) 0 0 X 0 0 111 [(0, .int a0), (1, .int a1), (2, .int a2)] [.int (if a1 = 0 then (if a2 = 0 then 0 else 1) else 1 : Int32)] σ := by
      have er := Option.some.inj hf
      subst er
      exact V_iret hQ rfl dX2_join_111
    refine V_if_ne 106 102 dX2_join_99 (by decide) rfl (fun c23 => ?_) (fun c23 => ?_)
    · refine V_iconst 1 107 dX2_join_106 rfl kiconst_1 ?_
      refine V_goto 111 dX2_join_107 (by decide) ?_
      refine V_ls [(0, .int a0), (1, .int a1), (2, .int a2)] [0, 1, 2] rfl ?_
      simp only [if_neg c23] at kj22
      exact kj22
    · refine V_iload_n 2 103 rfl dX2_join_102 rfl rfl ?_
      refine V_if_eq 110 106 dX2_join_103 (by decide) rfl (fun c24 => ?_) (fun c24 => ?_)
      · refine V_iconst 0 111 dX2_join_110 rfl kiconst_0 ?_
        refine V_ls [(0, .int a0), (1, .int a1), (2, .int a2)] [0, 1, 2] rfl ?_
        simp only [if_pos c23, if_pos c24] at kj22
        exact kj22
      · refine V_iconst 1 107 dX2_join_106 rfl kiconst_1 ?_
        refine V_goto 111 dX2_join_107 (by decide) ?_
        refine V_ls [(0, .int a0), (1, .int a1), (2, .int a2)] [0, 1, 2] rfl ?_
        simp only [if_pos c23, if_neg c24] at kj22
        exact kj22
  rw [if_neg c21] at hf
  refine V_lswD [38, 42, 43, 45, 47, 60, 61, 62, 124] 169 dX2_join_1 (fun q hq => by simp only [List.mem_cons, List.not_mem_nil, or_false] at hq; rcases hq with rfl | rfl | rfl | rfl | rfl | rfl | rfl | rfl | rfl <;> assumption) (by decide) (by decide) (by decide) ?_
  refine V_iload_n 2 170 rfl dX2_join_169 rfl rfl ?_
  refine V_if_ne 177 173 dX2_join_170 (by decide) rfl (fun c25 => ?_) (fun c25 => ?_)
  · rw [if_neg c25] at hf
    refine V_iload_n 1 178 rfl dX2_join_177 rfl rfl ?_
    refine V_iload_n 2 179 rfl dX2_join_178 rfl rfl ?_
    obtain ⟨z26, h27, hf⟩ := ob hf
    refine V_irem 180 dX2_join_179 rfl (ne0_ne h27) ?_
    have er := Option.some.inj hf
    subst er
    exact V_iret hQ rfl dX2_join_180
  · rw [if_pos c25] at hf
    refine V_iconst 0 174 dX2_join_173 rfl kiconst_0 ?_
    refine V_goto 180 dX2_join_174 (by decide) ?_
    have er := Option.some.inj hf
    subst er
    exact V_iret hQ rfl dX2_join_180
abbrev mi_X2_choice : MI := (yX2_choice, cX2_choice, 5, some .int)
abbrev mi_X2_joined : MI := (yX2_joined, cX2_joined, 7, some .int)
abbrev mi_X2_unit : MI := (yX2_unit, cX2_unit, 5, some .int)
theorem ok_X2_choice : OkN mi_X2_choice 1 := ⟨wd_cd_X2_choice, wd_in_X2, ⟨by decide +kernel, by decide +kernel, by decide +kernel⟩, by decide⟩
theorem okv_X2_choice : Cond.instanceMethod (mi_X2_choice).1 ∈ tb ∧ Cond.selects (mi_X2_choice).1.cls (mi_X2_choice).1 (mi_X2_choice).1 ∈ tb := ⟨wd_im_X2_choice, wd_se_X2_choice⟩
theorem ok_X2_joined : OkN mi_X2_joined 2 := ⟨wd_cd_X2_joined, wd_in_X2, ⟨by decide +kernel, by decide +kernel, by decide +kernel⟩, by decide⟩
theorem okv_X2_joined : Cond.instanceMethod (mi_X2_joined).1 ∈ tb ∧ Cond.selects (mi_X2_joined).1.cls (mi_X2_joined).1 (mi_X2_joined).1 ∈ tb := ⟨wd_im_X2_joined, wd_se_X2_joined⟩
theorem ok_X2_unit : OkN mi_X2_unit 1 := ⟨wd_cd_X2_unit, wd_in_X2, ⟨by decide +kernel, by decide +kernel, by decide +kernel⟩, by decide⟩
theorem okv_X2_unit : Cond.instanceMethod (mi_X2_unit).1 ∈ tb ∧ Cond.selects (mi_X2_unit).1.cls (mi_X2_unit).1 (mi_X2_unit).1 ∈ tb := ⟨wd_im_X2_unit, wd_se_X2_unit⟩
def f_X2_choice (rc : Nat → List Int32 → St → Option (Int32 × St)) (σ : St) (t : Nat) (a0 : Int32) : Option (Int32 × St) := if isO σ 1 t = true then ((rc 1 [0, a0] σ).bind fun p2 => (f_X2_takes p2.2 t 63).bind fun p4 => if p4.1 = 0 then (some (p2.1, p4.2)) else ((gI p4.2 1 t 6).bind fun v7 => (pI p4.2 1 t 6 (v7 + 1)).bind fun s9 => (rc 1 [0, a0] s9).bind fun p11 => (f_X2_wants p11.2 t 58).bind fun s13 => (gI s13 1 t 7).bind fun v15 => if v15 = 0 then ((rc 1 [0, a0] s13).bind fun p18 => some ((if p2.1 = 0 then (p18.1) else (p11.1) : Int32), p18.2)) else (some ((if p2.1 = 0 then 0 else (p11.1) : Int32), s13)))) else none
def f_X2_joined_L36 (rc : Nat → List Int32 → St → Option (Int32 × St)) (x4 : Int32) (t : Nat) (x1 : Int32) (x2 : Int32) : Nat → Int32 → Int32 → St → Option (Int32 × Int32 × St)
  | 0, _, _, _ => none
  | n + 1, x5, x3, σ => if x4 ≤ x5 then (some (x5, x3, σ)) else ((f_X2_next σ t).bind fun v6 => (f_X2_levelOf σ v6).bind fun v8 => if v8 = x1 then ((f_X2_next σ t).bind fun v11 => (gI σ 1 t 5).bind fun v13 => (pI σ 1 t 5 (v13 + 1)).bind fun s15 => (gI s15 1 t 6).bind fun v17 => (pI s15 1 t 6 (v17 + 1)).bind fun s19 => (rc 1 [x1 + 1, x2] s19).bind fun p21 => (f_X2_join p21.2 v11 x3 p21.1).bind fun v23 => f_X2_joined_L36 rc x4 t x1 x2 n (x5 + 1) v23 p21.2) else (some (x5, x3, σ)))
def f_X2_joined (rc : Nat → List Int32 → St → Option (Int32 × St)) (σ : St) (t : Nat) (a0 : Int32) (a1 : Int32) : Option (Int32 × St) := if isO σ 1 t = true then (if a0 < 4 then ((rc 1 [a0 + 1, a1] σ).bind fun p3 => (f_X2_joined_L36 rc (if a0 = 1 then 1 else 56 : Int32) t a0 a1 3000 0 p3.1 p3.2).bind fun p24 => some (p24.2.1, p24.2.2)) else ((rc 2 [a1] σ).bind fun p29 => some (p29.1, p29.2))) else none
def f_X2_unit (rc : Nat → List Int32 → St → Option (Int32 × St)) (σ : St) (t : Nat) (a0 : Int32) : Option (Int32 × St) := if isO σ 1 t = true then ((f_X2_next σ t).bind fun v2 => (f_X2_isDigit σ v2).bind fun v4 => if v4 = 0 then (if v2 = (-1) then (if 5 ≤ a0 then ((pZ σ 1 t 7 1).bind fun s63 => some (0, s63)) else (if v2 = 45 then ((gI σ 1 t 5).bind fun v66 => (pI σ 1 t 5 (v66 + 1)).bind fun s68 => if v2 = 45 then ((gI s68 1 t 6).bind fun v75 => (pI s68 1 t 6 (v75 + 1)).bind fun s77 => (rc 2 [a0 + 1] s77).bind fun p79 => some (-p79.1, p79.2)) else ((rc 0 [a0 + 1] s68).bind fun p71 => (f_X2_wants p71.2 t 41).bind fun s73 => some (p71.1, s73))) else (if v2 = 40 then ((gI σ 1 t 5).bind fun v82 => (pI σ 1 t 5 (v82 + 1)).bind fun s84 => if v2 = 45 then ((gI s84 1 t 6).bind fun v91 => (pI s84 1 t 6 (v91 + 1)).bind fun s93 => (rc 2 [a0 + 1] s93).bind fun p95 => some (-p95.1, p95.2)) else ((rc 0 [a0 + 1] s84).bind fun p87 => (f_X2_wants p87.2 t 41).bind fun s89 => some (p87.1, s89))) else ((pZ σ 1 t 7 1).bind fun s97 => some (0, s97))))) else ((f_X2_names σ t).bind fun v8 => (f_J0_indexOf_0f7a4 σ v8 ((v2.toUInt32 % 65536).toInt32)).bind fun v10 => if v10 < 0 then (if 5 ≤ a0 then ((pZ σ 1 t 7 1).bind fun s14 => some (0, s14)) else (if v2 = 45 then ((gI σ 1 t 5).bind fun v17 => (pI σ 1 t 5 (v17 + 1)).bind fun s19 => if v2 = 45 then ((gI s19 1 t 6).bind fun v26 => (pI s19 1 t 6 (v26 + 1)).bind fun s28 => (rc 2 [a0 + 1] s28).bind fun p30 => some (-p30.1, p30.2)) else ((rc 0 [a0 + 1] s19).bind fun p22 => (f_X2_wants p22.2 t 41).bind fun s24 => some (p22.1, s24))) else (if v2 = 40 then ((gI σ 1 t 5).bind fun v33 => (pI σ 1 t 5 (v33 + 1)).bind fun s35 => if v2 = 45 then ((gI s35 1 t 6).bind fun v42 => (pI s35 1 t 6 (v42 + 1)).bind fun s44 => (rc 2 [a0 + 1] s44).bind fun p46 => some (-p46.1, p46.2)) else ((rc 0 [a0 + 1] s35).bind fun p38 => (f_X2_wants p38.2 t 41).bind fun s40 => some (p38.1, s40))) else ((pZ σ 1 t 7 1).bind fun s48 => some (0, s48))))) else ((gI σ 1 t 5).bind fun v50 => (pI σ 1 t 5 (v50 + 1)).bind fun s52 => if v10 = 0 then ((gI s52 1 t 2).bind fun v60 => some (v60, s52)) else (if v10 = 1 then ((gI s52 1 t 3).bind fun v58 => some (v58, s52)) else ((gI s52 1 t 4).bind fun v56 => some (v56, s52)))))) else ((f_X2_number σ t).bind fun p99 => some (p99.1, p99.2))) else none
theorem gd_f_X2_choice {rc : Nat → List Int32 → St → Option (Int32 × St)} {σ : St} {t : Nat} {a0 : Int32} {r : Int32 × St} (h : f_X2_choice rc σ t a0 = some r) : isO σ 1 t = true := by
  unfold f_X2_choice at h
  by_cases hg : isO σ 1 t = true
  · exact hg
  · rw [if_neg hg] at h
    cases h
theorem gd_f_X2_joined {rc : Nat → List Int32 → St → Option (Int32 × St)} {σ : St} {t : Nat} {a0 : Int32} {a1 : Int32} {r : Int32 × St} (h : f_X2_joined rc σ t a0 a1 = some r) : isO σ 1 t = true := by
  unfold f_X2_joined at h
  by_cases hg : isO σ 1 t = true
  · exact hg
  · rw [if_neg hg] at h
    cases h
theorem gd_f_X2_unit {rc : Nat → List Int32 → St → Option (Int32 × St)} {σ : St} {t : Nat} {a0 : Int32} {r : Int32 × St} (h : f_X2_unit rc σ t a0 = some r) : isO σ 1 t = true := by
  unfold f_X2_unit at h
  by_cases hg : isO σ 1 t = true
  · exact hg
  · rw [if_neg hg] at h
    cases h
def ds_X2_choice (rc : Nat → List Int32 → St → Option (Int32 × St)) (t : Nat) (j : Nat) (as : List Int32) (σ : St) : Option (Int32 × St) := match j, as with
  | 0, [a0] => f_X2_choice rc σ t a0
  | 1, [a0, a1] => f_X2_joined rc σ t a0 a1
  | 2, [a0] => f_X2_unit rc σ t a0
  | _, _ => none
def rc_X2_choice (t : Nat) : Nat → Nat → List Int32 → St → Option (Int32 × St)
  | 0, _, _, _ => none
  | n + 1, j, as, σ => ds_X2_choice (rc_X2_choice t n) t j as σ
def CT_X2_choice (l : Launch) (G : Gd) (dr : Nat) (t : Nat) (j : Nat) (as : List Int32) (σ : St) (p : Int32 × St) : Prop := isO σ 1 t = true ∧ (j = 0 → ∀ a0 : Int32, as = [a0] → MetV l G dr mi_X2_choice [.ref t, .int a0] σ (some (.int p.1)) p.2 0 0) ∧ (j = 1 → ∀ a0 a1 : Int32, as = [a0, a1] → MetV l G dr mi_X2_joined [.ref t, .int a0, .int a1] σ (some (.int p.1)) p.2 0 0) ∧ (j = 2 → ∀ a0 : Int32, as = [a0] → MetV l G dr mi_X2_unit [.ref t, .int a0] σ (some (.int p.1)) p.2 0 0)
set_option maxRecDepth 100000 in
set_option maxHeartbeats 4000000 in
theorem cb_X2_choice (l : Launch) (G : Gd) (dr : Nat) (rc : Nat → List Int32 → St → Option (Int32 × St)) (t : Nat) (ihr : ∀ j as σ p, rc j as σ = some p → CT_X2_choice l G dr t j as σ p) (σ : St) (a0 : Int32) (r0 : Int32) (σ' : St) (hf : f_X2_choice rc σ t a0 = some (r0, σ')) : MetV l G (dr + 5) mi_X2_choice [.ref t, .int a0] σ (some (.int r0)) σ' 0 0 := by
  unfold f_X2_choice at hf
  refine MetV.of [(0, .ref t), (1, .int a0)] (by decide +kernel) rfl (Nat.le_of_ble_eq_true rfl) ?_
  intro X hQ
  by_cases hg : isO σ 1 t = true
  · rw [if_pos hg] at hf
    refine V_aload_n 0 1 rfl dX2_choice_0 rfl rfl ?_
    refine V_iconst 0 2 dX2_choice_1 rfl kiconst_0 ?_
    refine V_iload_n 1 3 rfl dX2_choice_2 rfl rfl ?_
    obtain ⟨p2, h1, hf⟩ := ob hf
    refine V_callV (rest := []) (T := TX2) (n := 8) (ci := 1) 0 0 6 [.int p2.1] ((ihr 1 [0, a0] σ p2 h1).2.2.1 rfl _ _ rfl) (by omega) ok_X2_joined okv_X2_joined (ihr 1 [0, a0] σ p2 h1).1 rfl wd_ml_X2_59 rfl rfl (Nat.le_of_ble_eq_true rfl) rfl rfl (Or.inl ⟨rfl, rfl⟩) dX2_choice_3 rfl rfl ?_
    refine V_istore_n [(2, .int p2.1), (0, .ref t), (1, .int a0)] 7 dX2_choice_6 rfl (by decide) rfl rfl ?_
    refine V_aload_n 1 8 rfl dX2_choice_7 rfl rfl ?_
    refine V_bipush 63 10 dX2_choice_8 rfl kbipush_63 ?_
    obtain ⟨p4, h3, hf⟩ := ob hf
    refine V_callV (rest := []) (T := TX2) (n := 8) (ci := 1) 0 0 13 [.int p4.1] (c_X2_takes l G (dr + 2) _ _ _ _ _ h3) (by omega) ok_X2_takes okv_X2_takes (gd_X2_takes h3) rfl wd_ml_X2_55 rfl rfl (Nat.le_of_ble_eq_true rfl) rfl rfl (Or.inl ⟨rfl, rfl⟩) dX2_choice_10 rfl rfl ?_
    refine V_if_ne 18 16 dX2_choice_13 (by decide) rfl (fun c5 => ?_) (fun c5 => ?_)
    · rw [if_neg c5] at hf
      refine V_aload_n 1 19 rfl dX2_choice_18 rfl rfl ?_
      refine V_dup 20 dX2_choice_19 rfl rfl ?_
      obtain ⟨v7, h6, hf⟩ := ob hf
      refine V_getI (n := 8) (ty := tyX2) 23 h6 cf_1 rfl wd_fl_X2_31 dX2_choice_20 rfl ?_
      refine V_iconst 1 24 dX2_choice_23 rfl kiconst_1 ?_
      refine V_iadd 25 dX2_choice_24 rfl ?_
      obtain ⟨s9, h8, hf⟩ := ob hf
      refine V_putI (n := 8) (T := TX2) (ty := tyX2) (f := 6) 28 h8 cf_1 rfl rfl (Or.inl rfl) wd_fl_X2_31 dX2_choice_25 rfl ?_
      refine V_aload_n 1 29 rfl dX2_choice_28 rfl rfl ?_
      refine V_iconst 0 30 dX2_choice_29 rfl kiconst_0 ?_
      refine V_iload_n 2 31 rfl dX2_choice_30 rfl rfl ?_
      obtain ⟨p11, h10, hf⟩ := ob hf
      refine V_callV (rest := []) (T := TX2) (n := 8) (ci := 1) 0 0 34 [.int p11.1] ((ihr 1 [0, a0] s9 p11 h10).2.2.1 rfl _ _ rfl) (by omega) ok_X2_joined okv_X2_joined (ihr 1 [0, a0] s9 p11 h10).1 rfl wd_ml_X2_59 rfl rfl (Nat.le_of_ble_eq_true rfl) rfl rfl (Or.inl ⟨rfl, rfl⟩) dX2_choice_31 rfl rfl ?_
      refine V_istore_n [(3, .int p11.1), (2, .int p2.1), (0, .ref t), (1, .int a0)] 35 dX2_choice_34 rfl (by decide) rfl rfl ?_
      refine V_aload_n 2 36 rfl dX2_choice_35 rfl rfl ?_
      refine V_bipush 58 38 dX2_choice_36 rfl kbipush_58 ?_
      obtain ⟨s13, h12, hf⟩ := ob hf
      refine V_callV (rest := []) (T := TX2) (n := 8) (ci := 1) 0 0 41 [] (c_X2_wants l G (dr + 1) _ _ _ _ h12) (by omega) ok_X2_wants okv_X2_wants (gd_X2_wants h12) rfl wd_ml_X2_63 rfl rfl (Nat.le_of_ble_eq_true rfl) rfl rfl (Or.inl ⟨rfl, rfl⟩) dX2_choice_38 rfl rfl ?_
      refine V_aload_n 2 42 rfl dX2_choice_41 rfl rfl ?_
      obtain ⟨v15, h14, hf⟩ := ob hf
      refine V_getI (n := 8) (ty := tyX2) 45 h14 cf_1 rfl wd_fl_X2_34 dX2_choice_42 rfl ?_
      refine V_if_eq 52 48 dX2_choice_45 (by decide) rfl (fun c16 => ?_) (fun c16 => ?_)
      · rw [if_pos c16] at hf
        refine V_aload_n 2 53 rfl dX2_choice_52 rfl rfl ?_
        refine V_iconst 0 54 dX2_choice_53 rfl kiconst_0 ?_
        refine V_iload_n 3 55 rfl dX2_choice_54 rfl rfl ?_
        obtain ⟨p18, h17, hf⟩ := ob hf
        refine V_callV (rest := []) (T := TX2) (n := 8) (ci := 1) 0 0 58 [.int p18.1] ((ihr 1 [0, a0] s13 p18 h17).2.2.1 rfl _ _ rfl) (by omega) ok_X2_joined okv_X2_joined (ihr 1 [0, a0] s13 p18 h17).1 rfl wd_ml_X2_59 rfl rfl (Nat.le_of_ble_eq_true rfl) rfl rfl (Or.inl ⟨rfl, rfl⟩) dX2_choice_55 rfl rfl ?_
        refine V_istore [(4, .int p18.1), (3, .int p11.1), (2, .int p2.1), (0, .ref t), (1, .int a0)] 60 dX2_choice_58 (by decide) rfl rfl ?_
        refine V_iload_n 2 61 rfl dX2_choice_60 rfl rfl ?_
        have kj19 : V mi_X2_choice l G (dr + 5) 0 0 X 0 0 70 [(4, .int p18.1), (3, .int p11.1), (2, .int p2.1), (0, .ref t), (1, .int a0)] [.int (if p2.1 = 0 then (p18.1) else (p11.1) : Int32)] p18.2 := by
          have er := Option.some.inj hf
          obtain ⟨e1, e2⟩ := Prod.mk.inj er
          subst e1
          subst e2
          exact V_iret hQ rfl dX2_choice_70
        refine V_if_eq 68 64 dX2_choice_61 (by decide) rfl (fun c20 => ?_) (fun c20 => ?_)
        · refine V_iload 0 70 rfl dX2_choice_68 rfl ?_
          refine V_ls [(4, .int p18.1), (3, .int p11.1), (2, .int p2.1), (0, .ref t), (1, .int a0)] [0, 1, 2, 3, 4] rfl ?_
          simp only [if_pos c20] at kj19
          exact kj19
        · refine V_iload_n 1 65 rfl dX2_choice_64 rfl rfl ?_
          refine V_goto 70 dX2_choice_65 (by decide) ?_
          refine V_ls [(4, .int p18.1), (3, .int p11.1), (2, .int p2.1), (0, .ref t), (1, .int a0)] [0, 1, 2, 3, 4] rfl ?_
          simp only [if_neg c20] at kj19
          exact kj19
      · rw [if_neg c16] at hf
        refine V_iconst 0 49 dX2_choice_48 rfl kiconst_0 ?_
        refine V_goto 58 dX2_choice_49 (by decide) ?_
        refine V_istore [(4, .int 0), (3, .int p11.1), (2, .int p2.1), (0, .ref t), (1, .int a0)] 60 dX2_choice_58 (by decide) rfl rfl ?_
        refine V_iload_n 2 61 rfl dX2_choice_60 rfl rfl ?_
        have kj21 : V mi_X2_choice l G (dr + 5) 0 0 X 0 0 70 [(4, .int 0), (3, .int p11.1), (2, .int p2.1), (0, .ref t), (1, .int a0)] [.int (if p2.1 = 0 then 0 else (p11.1) : Int32)] s13 := by
          have er := Option.some.inj hf
          obtain ⟨e1, e2⟩ := Prod.mk.inj er
          subst e1
          subst e2
          exact V_iret hQ rfl dX2_choice_70
        refine V_if_eq 68 64 dX2_choice_61 (by decide) rfl (fun c22 => ?_) (fun c22 => ?_)
        · refine V_iload 0 70 rfl dX2_choice_68 rfl ?_
          refine V_ls [(4, .int 0), (3, .int p11.1), (2, .int p2.1), (0, .ref t), (1, .int a0)] [0, 1, 2, 3, 4] rfl ?_
          simp only [if_pos c22] at kj21
          exact kj21
        · refine V_iload_n 1 65 rfl dX2_choice_64 rfl rfl ?_
          refine V_goto 70 dX2_choice_65 (by decide) ?_
          refine V_ls [(4, .int 0), (3, .int p11.1), (2, .int p2.1), (0, .ref t), (1, .int a0)] [0, 1, 2, 3, 4] rfl ?_
          simp only [if_neg c22] at kj21
          exact kj21
    · rw [if_pos c5] at hf
      refine V_iload_n 0 17 rfl dX2_choice_16 rfl rfl ?_
      have er := Option.some.inj hf
      obtain ⟨e1, e2⟩ := Prod.mk.inj er
      subst e1
      subst e2
      exact V_iret hQ rfl dX2_choice_17
  · rw [if_neg hg] at hf
    cases hf
set_option maxRecDepth 100000 in
set_option maxHeartbeats 4000000 in
theorem cb_X2_joined (l : Launch) (G : Gd) (dr : Nat) (rc : Nat → List Int32 → St → Option (Int32 × St)) (t : Nat) (ihr : ∀ j as σ p, rc j as σ = some p → CT_X2_choice l G dr t j as σ p) (σ : St) (a0 : Int32) (a1 : Int32) (r0 : Int32) (σ' : St) (hf : f_X2_joined rc σ t a0 a1 = some (r0, σ')) : MetV l G (dr + 5) mi_X2_joined [.ref t, .int a0, .int a1] σ (some (.int r0)) σ' 0 0 := by
  unfold f_X2_joined at hf
  refine MetV.of [(0, .ref t), (1, .int a0), (2, .int a1)] (by decide +kernel) rfl (Nat.le_of_ble_eq_true rfl) ?_
  intro X hQ
  have L36 : ∀ (x4 : Int32) (x1 : Int32) (x2 : Int32) (n : Nat) (x5 : Int32) (x3 : Int32) (σ : St) (p : Int32 × Int32 × St), f_X2_joined_L36 rc x4 t x1 x2 n x5 x3 σ = some p → V mi_X2_joined l G (dr + 5) 0 0 X 0 0 101 [(5, .int p.1), (4, .int x4), (3, .int p.2.1), (0, .ref t), (1, .int x1), (2, .int x2)] [] p.2.2 → V mi_X2_joined l G (dr + 5) 0 0 X 0 0 36 [(5, .int x5), (4, .int x4), (3, .int x3), (0, .ref t), (1, .int x1), (2, .int x2)] [] σ := by
    intro x4 x1 x2 n
    induction n with
    | zero =>
      intro x5 x3 σ p hf
      exact absurd (show (none : Option _) = some p from hf) (by simp)
    | succ n ih =>
      intro x5 x3 σ p hf hk
      rw [f_X2_joined_L36] at hf
      refine V_iload 0 38 rfl dX2_joined_36 rfl ?_
      refine V_iload 1 40 rfl dX2_joined_38 rfl ?_
      refine V_icmp_ge 101 43 dX2_joined_40 (by decide) rfl (fun c4 => ?_) (fun c4 => ?_)
      · rw [if_pos c4] at hf
        have ep := Option.some.inj hf
        subst ep
        refine V_ls [(5, .int x5), (4, .int x4), (3, .int x3), (0, .ref t), (1, .int x1), (2, .int x2)] [0, 1, 2, 3, 4, 5] rfl ?_
        exact hk
      · rw [if_neg c4] at hf
        refine V_aload_n 3 44 rfl dX2_joined_43 rfl rfl ?_
        obtain ⟨v6, h5, hf⟩ := ob hf
        refine V_callV (rest := []) (T := TX2) (n := 8) (ci := 1) 0 0 47 [.int v6] (c_X2_next l G (dr + 3) _ _ _ h5) (by omega) ok_X2_next okv_X2_next (gd_X2_next h5) rfl wd_ml_X2_42 rfl rfl (Nat.le_of_ble_eq_true rfl) rfl rfl (Or.inl ⟨rfl, rfl⟩) dX2_joined_44 rfl rfl ?_
        obtain ⟨v8, h7, hf⟩ := ob hf
        refine V_callS (rest := []) 0 0 50 [.int v8] (c_X2_levelOf l G (dr + 3) _ _ _ h7) (by omega) ok_X2_levelOf oks_X2_levelOf wd_ml_X2_70 rfl rfl (Nat.le_of_ble_eq_true rfl) rfl rfl (Or.inl ⟨rfl, rfl⟩) dX2_joined_47 rfl rfl ?_
        refine V_iload_n 4 51 rfl dX2_joined_50 rfl rfl ?_
        refine V_icmp_ne 101 54 dX2_joined_51 (by decide) rfl (fun c9 => ?_) (fun c9 => ?_)
        · rw [if_neg c9] at hf
          have ep := Option.some.inj hf
          subst ep
          refine V_ls [(5, .int x5), (4, .int x4), (3, .int x3), (0, .ref t), (1, .int x1), (2, .int x2)] [0, 1, 2, 3, 4, 5] rfl ?_
          exact hk
        · rw [if_pos c9] at hf
          refine V_aload_n 3 55 rfl dX2_joined_54 rfl rfl ?_
          obtain ⟨v11, h10, hf⟩ := ob hf
          refine V_callV (rest := []) (T := TX2) (n := 8) (ci := 1) 0 0 58 [.int v11] (c_X2_next l G (dr + 3) _ _ _ h10) (by omega) ok_X2_next okv_X2_next (gd_X2_next h10) rfl wd_ml_X2_42 rfl rfl (Nat.le_of_ble_eq_true rfl) rfl rfl (Or.inl ⟨rfl, rfl⟩) dX2_joined_55 rfl rfl ?_
          refine V_istore [(6, .int v11), (5, .int x5), (4, .int x4), (3, .int x3), (0, .ref t), (1, .int x1), (2, .int x2)] 60 dX2_joined_58 (by decide) rfl rfl ?_
          refine V_aload_n 4 61 rfl dX2_joined_60 rfl rfl ?_
          refine V_dup 62 dX2_joined_61 rfl rfl ?_
          obtain ⟨v13, h12, hf⟩ := ob hf
          refine V_getI (n := 8) (ty := tyX2) 65 h12 cf_1 rfl wd_fl_X2_28 dX2_joined_62 rfl ?_
          refine V_iconst 1 66 dX2_joined_65 rfl kiconst_1 ?_
          refine V_iadd 67 dX2_joined_66 rfl ?_
          obtain ⟨s15, h14, hf⟩ := ob hf
          refine V_putI (n := 8) (T := TX2) (ty := tyX2) (f := 5) 70 h14 cf_1 rfl rfl (Or.inl rfl) wd_fl_X2_28 dX2_joined_67 rfl ?_
          refine V_aload_n 4 71 rfl dX2_joined_70 rfl rfl ?_
          refine V_dup 72 dX2_joined_71 rfl rfl ?_
          obtain ⟨v17, h16, hf⟩ := ob hf
          refine V_getI (n := 8) (ty := tyX2) 75 h16 cf_1 rfl wd_fl_X2_31 dX2_joined_72 rfl ?_
          refine V_iconst 1 76 dX2_joined_75 rfl kiconst_1 ?_
          refine V_iadd 77 dX2_joined_76 rfl ?_
          obtain ⟨s19, h18, hf⟩ := ob hf
          refine V_putI (n := 8) (T := TX2) (ty := tyX2) (f := 6) 80 h18 cf_1 rfl rfl (Or.inl rfl) wd_fl_X2_31 dX2_joined_77 rfl ?_
          refine V_iload 0 82 rfl dX2_joined_80 rfl ?_
          refine V_iload_n 3 83 rfl dX2_joined_82 rfl rfl ?_
          refine V_aload_n 4 84 rfl dX2_joined_83 rfl rfl ?_
          refine V_iload_n 5 85 rfl dX2_joined_84 rfl rfl ?_
          refine V_iconst 1 86 dX2_joined_85 rfl kiconst_1 ?_
          refine V_iadd 87 dX2_joined_86 rfl ?_
          refine V_iload_n 6 88 rfl dX2_joined_87 rfl rfl ?_
          obtain ⟨p21, h20, hf⟩ := ob hf
          refine V_callV (rest := [.int x3, .int v11]) (T := TX2) (n := 8) (ci := 1) 0 0 91 [.int p21.1, .int x3, .int v11] ((ihr 1 [x1 + 1, x2] s19 p21 h20).2.2.1 rfl _ _ rfl) (by omega) ok_X2_joined okv_X2_joined (ihr 1 [x1 + 1, x2] s19 p21 h20).1 rfl wd_ml_X2_59 rfl rfl (Nat.le_of_ble_eq_true rfl) rfl rfl (Or.inl ⟨rfl, rfl⟩) dX2_joined_88 rfl rfl ?_
          obtain ⟨v23, h22, hf⟩ := ob hf
          refine V_callS (rest := []) 0 0 94 [.int v23] (c_X2_join l G (dr + 3) _ _ _ _ _ h22) (by omega) ok_X2_join oks_X2_join wd_ml_X2_73 rfl rfl (Nat.le_of_ble_eq_true rfl) rfl rfl (Or.inl ⟨rfl, rfl⟩) dX2_joined_91 rfl rfl ?_
          refine V_istore_n [(3, .int v23), (6, .int v11), (5, .int x5), (4, .int x4), (0, .ref t), (1, .int x1), (2, .int x2)] 95 dX2_joined_94 rfl (by decide) rfl rfl ?_
          refine V_iinc (x5 + 1) 2 [(5, .int (x5 + 1)), (3, .int v23), (6, .int v11), (4, .int x4), (0, .ref t), (1, .int x1), (2, .int x2)] 98 dX2_joined_95 rfl (by rw [kiconst_1]) (by decide) rfl rfl ?_
          refine V_goto 36 dX2_joined_98 (by decide) ?_
          refine V_ls [(5, .int (x5 + 1)), (4, .int x4), (3, .int v23), (0, .ref t), (1, .int x1), (2, .int x2)] [0, 3, 1, 4, 5, 6] rfl ?_
          exact ih _ _ _ _ hf hk
  by_cases hg : isO σ 1 t = true
  · rw [if_pos hg] at hf
    refine V_iload_n 1 1 rfl dX2_joined_0 rfl rfl ?_
    refine V_iconst 4 2 dX2_joined_1 rfl kiconst_4 ?_
    refine V_icmp_lt 11 5 dX2_joined_2 (by decide) rfl (fun c1 => ?_) (fun c1 => ?_)
    · rw [if_pos c1] at hf
      refine V_aload_n 0 12 rfl dX2_joined_11 rfl rfl ?_
      refine V_iload_n 1 13 rfl dX2_joined_12 rfl rfl ?_
      refine V_iconst 1 14 dX2_joined_13 rfl kiconst_1 ?_
      refine V_iadd 15 dX2_joined_14 rfl ?_
      refine V_iload_n 2 16 rfl dX2_joined_15 rfl rfl ?_
      obtain ⟨p3, h2, hf⟩ := ob hf
      refine V_callV (rest := []) (T := TX2) (n := 8) (ci := 1) 0 0 19 [.int p3.1] ((ihr 1 [a0 + 1, a1] σ p3 h2).2.2.1 rfl _ _ rfl) (by omega) ok_X2_joined okv_X2_joined (ihr 1 [a0 + 1, a1] σ p3 h2).1 rfl wd_ml_X2_59 rfl rfl (Nat.le_of_ble_eq_true rfl) rfl rfl (Or.inl ⟨rfl, rfl⟩) dX2_joined_16 rfl rfl ?_
      refine V_istore_n [(3, .int p3.1), (0, .ref t), (1, .int a0), (2, .int a1)] 20 dX2_joined_19 rfl (by decide) rfl rfl ?_
      refine V_iload_n 2 21 rfl dX2_joined_20 rfl rfl ?_
      refine V_iconst 1 22 dX2_joined_21 rfl kiconst_1 ?_
      have kj26 : V mi_X2_joined l G (dr + 5) 0 0 X 0 0 31 [(3, .int p3.1), (0, .ref t), (1, .int a0), (2, .int a1)] [.int (if a0 = 1 then 1 else 56 : Int32)] p3.2 := by
        refine V_istore [(4, .int (if a0 = 1 then 1 else 56 : Int32)), (3, .int p3.1), (0, .ref t), (1, .int a0), (2, .int a1)] 33 dX2_joined_31 (by decide) rfl rfl ?_
        refine V_iconst 0 34 dX2_joined_33 rfl kiconst_0 ?_
        refine V_istore [(5, .int 0), (4, .int (if a0 = 1 then 1 else 56 : Int32)), (3, .int p3.1), (0, .ref t), (1, .int a0), (2, .int a1)] 36 dX2_joined_34 (by decide) rfl rfl ?_
        obtain ⟨p24, h25, hf⟩ := ob hf
        refine V_ls [(5, .int 0), (4, .int (if a0 = 1 then 1 else 56 : Int32)), (3, .int p3.1), (0, .ref t), (1, .int a0), (2, .int a1)] [0, 1, 2, 3, 4, 5] rfl ?_
        refine L36 (if a0 = 1 then 1 else 56 : Int32) a0 a1 3000 0 p3.1 p3.2 p24 h25 ?_
        refine V_iload_n 2 102 rfl dX2_joined_101 rfl rfl ?_
        have er := Option.some.inj hf
        obtain ⟨e1, e2⟩ := Prod.mk.inj er
        subst e1
        subst e2
        exact V_iret hQ rfl dX2_joined_102
      refine V_icmp_ne 29 25 dX2_joined_22 (by decide) rfl (fun c27 => ?_) (fun c27 => ?_)
      · refine V_bipush 56 31 dX2_joined_29 rfl kbipush_56 ?_
        refine V_ls [(3, .int p3.1), (0, .ref t), (1, .int a0), (2, .int a1)] [0, 1, 2, 3] rfl ?_
        simp only [if_neg c27] at kj26
        exact kj26
      · refine V_iconst 1 26 dX2_joined_25 rfl kiconst_1 ?_
        refine V_goto 31 dX2_joined_26 (by decide) ?_
        refine V_ls [(3, .int p3.1), (0, .ref t), (1, .int a0), (2, .int a1)] [0, 1, 2, 3] rfl ?_
        simp only [if_pos c27] at kj26
        exact kj26
    · rw [if_neg c1] at hf
      refine V_aload_n 0 6 rfl dX2_joined_5 rfl rfl ?_
      refine V_iload_n 2 7 rfl dX2_joined_6 rfl rfl ?_
      obtain ⟨p29, h28, hf⟩ := ob hf
      refine V_callV (rest := []) (T := TX2) (n := 8) (ci := 1) 0 0 10 [.int p29.1] ((ihr 2 [a1] σ p29 h28).2.2.2 rfl _ rfl) (by omega) ok_X2_unit okv_X2_unit (ihr 2 [a1] σ p29 h28).1 rfl wd_ml_X2_67 rfl rfl (Nat.le_of_ble_eq_true rfl) rfl rfl (Or.inl ⟨rfl, rfl⟩) dX2_joined_7 rfl rfl ?_
      have er := Option.some.inj hf
      obtain ⟨e1, e2⟩ := Prod.mk.inj er
      subst e1
      subst e2
      exact V_iret hQ rfl dX2_joined_10
  · rw [if_neg hg] at hf
    cases hf
set_option maxRecDepth 100000 in
set_option maxHeartbeats 4000000 in
theorem cb_X2_unit (l : Launch) (G : Gd) (dr : Nat) (rc : Nat → List Int32 → St → Option (Int32 × St)) (t : Nat) (ihr : ∀ j as σ p, rc j as σ = some p → CT_X2_choice l G dr t j as σ p) (σ : St) (a0 : Int32) (r0 : Int32) (σ' : St) (hf : f_X2_unit rc σ t a0 = some (r0, σ')) : MetV l G (dr + 5) mi_X2_unit [.ref t, .int a0] σ (some (.int r0)) σ' 0 0 := by
  unfold f_X2_unit at hf
  refine MetV.of [(0, .ref t), (1, .int a0)] (by decide +kernel) rfl (Nat.le_of_ble_eq_true rfl) ?_
  intro X hQ
  by_cases hg : isO σ 1 t = true
  · rw [if_pos hg] at hf
    refine V_aload_n 0 1 rfl dX2_unit_0 rfl rfl ?_
    obtain ⟨v2, h1, hf⟩ := ob hf
    refine V_callV (rest := []) (T := TX2) (n := 8) (ci := 1) 0 0 4 [.int v2] (c_X2_next l G (dr + 3) _ _ _ h1) (by omega) ok_X2_next okv_X2_next (gd_X2_next h1) rfl wd_ml_X2_42 rfl rfl (Nat.le_of_ble_eq_true rfl) rfl rfl (Or.inl ⟨rfl, rfl⟩) dX2_unit_1 rfl rfl ?_
    refine V_istore_n [(2, .int v2), (0, .ref t), (1, .int a0)] 5 dX2_unit_4 rfl (by decide) rfl rfl ?_
    refine V_iload_n 0 6 rfl dX2_unit_5 rfl rfl ?_
    obtain ⟨v4, h3, hf⟩ := ob hf
    refine V_callS (rest := []) 0 0 9 [.int v4] (c_X2_isDigit l G (dr + 3) _ _ _ h3) (by omega) ok_X2_isDigit oks_X2_isDigit wd_ml_X2_77 rfl rfl (Nat.le_of_ble_eq_true rfl) rfl rfl (Or.inl ⟨rfl, rfl⟩) dX2_unit_6 rfl rfl ?_
    refine V_if_eq 17 12 dX2_unit_9 (by decide) rfl (fun c5 => ?_) (fun c5 => ?_)
    · rw [if_pos c5] at hf
      refine V_iload_n 0 18 rfl dX2_unit_17 rfl rfl ?_
      refine V_iconst (-1) 19 dX2_unit_18 rfl kiconst_m1 ?_
      refine V_icmp_ne 26 22 dX2_unit_19 (by decide) rfl (fun c6 => ?_) (fun c6 => ?_)
      · rw [if_neg c6] at hf
        refine V_aload_n 1 27 rfl dX2_unit_26 rfl rfl ?_
        obtain ⟨v8, h7, hf⟩ := ob hf
        refine V_callV (rest := []) (T := TX2) (n := 8) (ci := 1) 0 0 30 [.ref v8] (c_X2_names l G (dr + 3) _ _ _ h7) (by omega) ok_X2_names okv_X2_names (gd_X2_names h7) rfl wd_ml_X2_83 rfl rfl (Nat.le_of_ble_eq_true rfl) rfl rfl (Or.inl ⟨rfl, rfl⟩) dX2_unit_27 rfl rfl ?_
        refine V_iload_n 0 31 rfl dX2_unit_30 rfl rfl ?_
        refine V_i2c 32 dX2_unit_31 rfl ?_
        obtain ⟨v10, h9, hf⟩ := ob hf
        refine V_callStr (rest := []) 0 0 35 [.int v10] (c_J0_indexOf_0f7a4 l G (dr + 0) _ _ _ _ h9) (by omega) ok_J0_indexOf_0f7a4 okv_J0_indexOf_0f7a4 (gd_J0_indexOf_0f7a4 h9) rfl wd_ml_X2_87 rfl rfl (Nat.le_of_ble_eq_true rfl) rfl rfl (Or.inl ⟨rfl, rfl⟩) dX2_unit_32 rfl rfl ?_
        refine V_istore_n [(3, .int v10), (2, .int v2), (0, .ref t), (1, .int a0)] 36 dX2_unit_35 rfl (by decide) rfl rfl ?_
        refine V_iload_n 0 37 rfl dX2_unit_36 rfl rfl ?_
        refine V_if_lt 78 40 dX2_unit_37 (by decide) rfl (fun c11 => ?_) (fun c11 => ?_)
        · rw [if_pos c11] at hf
          refine V_iload_n 3 79 rfl dX2_unit_78 rfl rfl ?_
          refine V_iconst 5 80 dX2_unit_79 rfl kiconst_5 ?_
          refine V_icmp_ge 95 83 dX2_unit_80 (by decide) rfl (fun c12 => ?_) (fun c12 => ?_)
          · rw [if_pos c12] at hf
            refine V_aload_n 2 96 rfl dX2_unit_95 rfl rfl ?_
            refine V_iconst 1 97 dX2_unit_96 rfl kiconst_1 ?_
            obtain ⟨s14, h13, hf⟩ := ob hf
            refine V_putZ (n := 8) (T := TX2) (ty := tyX2) (f := 7) 100 h13 cf_1 rfl rfl (Or.inl rfl) wd_fl_X2_34 dX2_unit_97 rfl ?_
            refine V_iconst 0 101 dX2_unit_100 rfl kiconst_0 ?_
            have er := Option.some.inj hf
            obtain ⟨e1, e2⟩ := Prod.mk.inj er
            subst e1
            subst e2
            exact V_iret hQ rfl dX2_unit_101
          · rw [if_neg c12] at hf
            refine V_iload_n 1 84 rfl dX2_unit_83 rfl rfl ?_
            refine V_bipush 45 86 dX2_unit_84 rfl kbipush_45 ?_
            refine V_icmp_eq 102 89 dX2_unit_86 (by decide) rfl (fun c15 => ?_) (fun c15 => ?_)
            · rw [if_pos c15] at hf
              refine V_aload_n 2 103 rfl dX2_unit_102 rfl rfl ?_
              refine V_dup 104 dX2_unit_103 rfl rfl ?_
              obtain ⟨v17, h16, hf⟩ := ob hf
              refine V_getI (n := 8) (ty := tyX2) 107 h16 cf_1 rfl wd_fl_X2_28 dX2_unit_104 rfl ?_
              refine V_iconst 1 108 dX2_unit_107 rfl kiconst_1 ?_
              refine V_iadd 109 dX2_unit_108 rfl ?_
              obtain ⟨s19, h18, hf⟩ := ob hf
              refine V_putI (n := 8) (T := TX2) (ty := tyX2) (f := 5) 112 h18 cf_1 rfl rfl (Or.inl rfl) wd_fl_X2_28 dX2_unit_109 rfl ?_
              refine V_iload_n 1 113 rfl dX2_unit_112 rfl rfl ?_
              refine V_bipush 45 115 dX2_unit_113 rfl kbipush_45 ?_
              refine V_icmp_ne 137 118 dX2_unit_115 (by decide) rfl (fun c20 => ?_) (fun c20 => ?_)
              · rw [if_neg c20] at hf
                refine V_aload_n 2 138 rfl dX2_unit_137 rfl rfl ?_
                refine V_iload_n 3 139 rfl dX2_unit_138 rfl rfl ?_
                refine V_iconst 1 140 dX2_unit_139 rfl kiconst_1 ?_
                refine V_iadd 141 dX2_unit_140 rfl ?_
                obtain ⟨p22, h21, hf⟩ := ob hf
                refine V_callV (rest := []) (T := TX2) (n := 8) (ci := 1) 0 0 144 [.int p22.1] ((ihr 0 [a0 + 1] s19 p22 h21).2.1 rfl _ rfl) (by omega) ok_X2_choice okv_X2_choice (ihr 0 [a0 + 1] s19 p22 h21).1 rfl wd_ml_X2_38 rfl rfl (Nat.le_of_ble_eq_true rfl) rfl rfl (Or.inl ⟨rfl, rfl⟩) dX2_unit_141 rfl rfl ?_
                refine V_istore [(4, .int p22.1), (3, .int v10), (2, .int v2), (0, .ref t), (1, .int a0)] 146 dX2_unit_144 (by decide) rfl rfl ?_
                refine V_aload_n 3 147 rfl dX2_unit_146 rfl rfl ?_
                refine V_bipush 41 149 dX2_unit_147 rfl kbipush_41 ?_
                obtain ⟨s24, h23, hf⟩ := ob hf
                refine V_callV (rest := []) (T := TX2) (n := 8) (ci := 1) 0 0 152 [] (c_X2_wants l G (dr + 1) _ _ _ _ h23) (by omega) ok_X2_wants okv_X2_wants (gd_X2_wants h23) rfl wd_ml_X2_63 rfl rfl (Nat.le_of_ble_eq_true rfl) rfl rfl (Or.inl ⟨rfl, rfl⟩) dX2_unit_149 rfl rfl ?_
                refine V_iload 0 154 rfl dX2_unit_152 rfl ?_
                have er := Option.some.inj hf
                obtain ⟨e1, e2⟩ := Prod.mk.inj er
                subst e1
                subst e2
                exact V_iret hQ rfl dX2_unit_154
              · rw [if_pos c20] at hf
                refine V_aload_n 2 119 rfl dX2_unit_118 rfl rfl ?_
                refine V_dup 120 dX2_unit_119 rfl rfl ?_
                obtain ⟨v26, h25, hf⟩ := ob hf
                refine V_getI (n := 8) (ty := tyX2) 123 h25 cf_1 rfl wd_fl_X2_31 dX2_unit_120 rfl ?_
                refine V_iconst 1 124 dX2_unit_123 rfl kiconst_1 ?_
                refine V_iadd 125 dX2_unit_124 rfl ?_
                obtain ⟨s28, h27, hf⟩ := ob hf
                refine V_putI (n := 8) (T := TX2) (ty := tyX2) (f := 6) 128 h27 cf_1 rfl rfl (Or.inl rfl) wd_fl_X2_31 dX2_unit_125 rfl ?_
                refine V_aload_n 2 129 rfl dX2_unit_128 rfl rfl ?_
                refine V_iload_n 3 130 rfl dX2_unit_129 rfl rfl ?_
                refine V_iconst 1 131 dX2_unit_130 rfl kiconst_1 ?_
                refine V_iadd 132 dX2_unit_131 rfl ?_
                obtain ⟨p30, h29, hf⟩ := ob hf
                refine V_callV (rest := []) (T := TX2) (n := 8) (ci := 1) 0 0 135 [.int p30.1] ((ihr 2 [a0 + 1] s28 p30 h29).2.2.2 rfl _ rfl) (by omega) ok_X2_unit okv_X2_unit (ihr 2 [a0 + 1] s28 p30 h29).1 rfl wd_ml_X2_67 rfl rfl (Nat.le_of_ble_eq_true rfl) rfl rfl (Or.inl ⟨rfl, rfl⟩) dX2_unit_132 rfl rfl ?_
                refine V_ineg 136 dX2_unit_135 rfl ?_
                have er := Option.some.inj hf
                obtain ⟨e1, e2⟩ := Prod.mk.inj er
                subst e1
                subst e2
                exact V_iret hQ rfl dX2_unit_136
            · rw [if_neg c15] at hf
              refine V_iload_n 1 90 rfl dX2_unit_89 rfl rfl ?_
              refine V_bipush 40 92 dX2_unit_90 rfl kbipush_40 ?_
              refine V_icmp_eq 102 95 dX2_unit_92 (by decide) rfl (fun c31 => ?_) (fun c31 => ?_)
              · rw [if_pos c31] at hf
                refine V_aload_n 2 103 rfl dX2_unit_102 rfl rfl ?_
                refine V_dup 104 dX2_unit_103 rfl rfl ?_
                obtain ⟨v33, h32, hf⟩ := ob hf
                refine V_getI (n := 8) (ty := tyX2) 107 h32 cf_1 rfl wd_fl_X2_28 dX2_unit_104 rfl ?_
                refine V_iconst 1 108 dX2_unit_107 rfl kiconst_1 ?_
                refine V_iadd 109 dX2_unit_108 rfl ?_
                obtain ⟨s35, h34, hf⟩ := ob hf
                refine V_putI (n := 8) (T := TX2) (ty := tyX2) (f := 5) 112 h34 cf_1 rfl rfl (Or.inl rfl) wd_fl_X2_28 dX2_unit_109 rfl ?_
                refine V_iload_n 1 113 rfl dX2_unit_112 rfl rfl ?_
                refine V_bipush 45 115 dX2_unit_113 rfl kbipush_45 ?_
                refine V_icmp_ne 137 118 dX2_unit_115 (by decide) rfl (fun c36 => ?_) (fun c36 => ?_)
                · rw [if_neg c36] at hf
                  refine V_aload_n 2 138 rfl dX2_unit_137 rfl rfl ?_
                  refine V_iload_n 3 139 rfl dX2_unit_138 rfl rfl ?_
                  refine V_iconst 1 140 dX2_unit_139 rfl kiconst_1 ?_
                  refine V_iadd 141 dX2_unit_140 rfl ?_
                  obtain ⟨p38, h37, hf⟩ := ob hf
                  refine V_callV (rest := []) (T := TX2) (n := 8) (ci := 1) 0 0 144 [.int p38.1] ((ihr 0 [a0 + 1] s35 p38 h37).2.1 rfl _ rfl) (by omega) ok_X2_choice okv_X2_choice (ihr 0 [a0 + 1] s35 p38 h37).1 rfl wd_ml_X2_38 rfl rfl (Nat.le_of_ble_eq_true rfl) rfl rfl (Or.inl ⟨rfl, rfl⟩) dX2_unit_141 rfl rfl ?_
                  refine V_istore [(4, .int p38.1), (3, .int v10), (2, .int v2), (0, .ref t), (1, .int a0)] 146 dX2_unit_144 (by decide) rfl rfl ?_
                  refine V_aload_n 3 147 rfl dX2_unit_146 rfl rfl ?_
                  refine V_bipush 41 149 dX2_unit_147 rfl kbipush_41 ?_
                  obtain ⟨s40, h39, hf⟩ := ob hf
                  refine V_callV (rest := []) (T := TX2) (n := 8) (ci := 1) 0 0 152 [] (c_X2_wants l G (dr + 1) _ _ _ _ h39) (by omega) ok_X2_wants okv_X2_wants (gd_X2_wants h39) rfl wd_ml_X2_63 rfl rfl (Nat.le_of_ble_eq_true rfl) rfl rfl (Or.inl ⟨rfl, rfl⟩) dX2_unit_149 rfl rfl ?_
                  refine V_iload 0 154 rfl dX2_unit_152 rfl ?_
                  have er := Option.some.inj hf
                  obtain ⟨e1, e2⟩ := Prod.mk.inj er
                  subst e1
                  subst e2
                  exact V_iret hQ rfl dX2_unit_154
                · rw [if_pos c36] at hf
                  refine V_aload_n 2 119 rfl dX2_unit_118 rfl rfl ?_
                  refine V_dup 120 dX2_unit_119 rfl rfl ?_
                  obtain ⟨v42, h41, hf⟩ := ob hf
                  refine V_getI (n := 8) (ty := tyX2) 123 h41 cf_1 rfl wd_fl_X2_31 dX2_unit_120 rfl ?_
                  refine V_iconst 1 124 dX2_unit_123 rfl kiconst_1 ?_
                  refine V_iadd 125 dX2_unit_124 rfl ?_
                  obtain ⟨s44, h43, hf⟩ := ob hf
                  refine V_putI (n := 8) (T := TX2) (ty := tyX2) (f := 6) 128 h43 cf_1 rfl rfl (Or.inl rfl) wd_fl_X2_31 dX2_unit_125 rfl ?_
                  refine V_aload_n 2 129 rfl dX2_unit_128 rfl rfl ?_
                  refine V_iload_n 3 130 rfl dX2_unit_129 rfl rfl ?_
                  refine V_iconst 1 131 dX2_unit_130 rfl kiconst_1 ?_
                  refine V_iadd 132 dX2_unit_131 rfl ?_
                  obtain ⟨p46, h45, hf⟩ := ob hf
                  refine V_callV (rest := []) (T := TX2) (n := 8) (ci := 1) 0 0 135 [.int p46.1] ((ihr 2 [a0 + 1] s44 p46 h45).2.2.2 rfl _ rfl) (by omega) ok_X2_unit okv_X2_unit (ihr 2 [a0 + 1] s44 p46 h45).1 rfl wd_ml_X2_67 rfl rfl (Nat.le_of_ble_eq_true rfl) rfl rfl (Or.inl ⟨rfl, rfl⟩) dX2_unit_132 rfl rfl ?_
                  refine V_ineg 136 dX2_unit_135 rfl ?_
                  have er := Option.some.inj hf
                  obtain ⟨e1, e2⟩ := Prod.mk.inj er
                  subst e1
                  subst e2
                  exact V_iret hQ rfl dX2_unit_136
              · rw [if_neg c31] at hf
                refine V_aload_n 2 96 rfl dX2_unit_95 rfl rfl ?_
                refine V_iconst 1 97 dX2_unit_96 rfl kiconst_1 ?_
                obtain ⟨s48, h47, hf⟩ := ob hf
                refine V_putZ (n := 8) (T := TX2) (ty := tyX2) (f := 7) 100 h47 cf_1 rfl rfl (Or.inl rfl) wd_fl_X2_34 dX2_unit_97 rfl ?_
                refine V_iconst 0 101 dX2_unit_100 rfl kiconst_0 ?_
                have er := Option.some.inj hf
                obtain ⟨e1, e2⟩ := Prod.mk.inj er
                subst e1
                subst e2
                exact V_iret hQ rfl dX2_unit_101
        · rw [if_neg c11] at hf
          refine V_aload_n 2 41 rfl dX2_unit_40 rfl rfl ?_
          refine V_dup 42 dX2_unit_41 rfl rfl ?_
          obtain ⟨v50, h49, hf⟩ := ob hf
          refine V_getI (n := 8) (ty := tyX2) 45 h49 cf_1 rfl wd_fl_X2_28 dX2_unit_42 rfl ?_
          refine V_iconst 1 46 dX2_unit_45 rfl kiconst_1 ?_
          refine V_iadd 47 dX2_unit_46 rfl ?_
          obtain ⟨s52, h51, hf⟩ := ob hf
          refine V_putI (n := 8) (T := TX2) (ty := tyX2) (f := 5) 50 h51 cf_1 rfl rfl (Or.inl rfl) wd_fl_X2_28 dX2_unit_47 rfl ?_
          refine V_iload_n 0 51 rfl dX2_unit_50 rfl rfl ?_
          refine V_if_ne 61 54 dX2_unit_51 (by decide) rfl (fun c53 => ?_) (fun c53 => ?_)
          · rw [if_neg c53] at hf
            refine V_iload_n 0 62 rfl dX2_unit_61 rfl rfl ?_
            refine V_iconst 1 63 dX2_unit_62 rfl kiconst_1 ?_
            refine V_icmp_ne 73 66 dX2_unit_63 (by decide) rfl (fun c54 => ?_) (fun c54 => ?_)
            · rw [if_neg c54] at hf
              refine V_aload_n 2 74 rfl dX2_unit_73 rfl rfl ?_
              obtain ⟨v56, h55, hf⟩ := ob hf
              refine V_getI (n := 8) (ty := tyX2) 77 h55 cf_1 rfl wd_fl_X2_25 dX2_unit_74 rfl ?_
              have er := Option.some.inj hf
              obtain ⟨e1, e2⟩ := Prod.mk.inj er
              subst e1
              subst e2
              exact V_iret hQ rfl dX2_unit_77
            · rw [if_pos c54] at hf
              refine V_aload_n 2 67 rfl dX2_unit_66 rfl rfl ?_
              obtain ⟨v58, h57, hf⟩ := ob hf
              refine V_getI (n := 8) (ty := tyX2) 70 h57 cf_1 rfl wd_fl_X2_22 dX2_unit_67 rfl ?_
              refine V_goto 77 dX2_unit_70 (by decide) ?_
              have er := Option.some.inj hf
              obtain ⟨e1, e2⟩ := Prod.mk.inj er
              subst e1
              subst e2
              exact V_iret hQ rfl dX2_unit_77
          · rw [if_pos c53] at hf
            refine V_aload_n 2 55 rfl dX2_unit_54 rfl rfl ?_
            obtain ⟨v60, h59, hf⟩ := ob hf
            refine V_getI (n := 8) (ty := tyX2) 58 h59 cf_1 rfl wd_fl_X2_19 dX2_unit_55 rfl ?_
            refine V_goto 77 dX2_unit_58 (by decide) ?_
            have er := Option.some.inj hf
            obtain ⟨e1, e2⟩ := Prod.mk.inj er
            subst e1
            subst e2
            exact V_iret hQ rfl dX2_unit_77
      · rw [if_pos c6] at hf
        refine V_iconst (-1) 23 dX2_unit_22 rfl kiconst_m1 ?_
        refine V_goto 35 dX2_unit_23 (by decide) ?_
        refine V_istore_n [(3, .int (-1)), (2, .int v2), (0, .ref t), (1, .int a0)] 36 dX2_unit_35 rfl (by decide) rfl rfl ?_
        refine V_iload_n 0 37 rfl dX2_unit_36 rfl rfl ?_
        refine V_if_lt 78 40 dX2_unit_37 (by decide) rfl (fun _ => ?_) (fun hc => absurd hc (by decide))
        refine V_iload_n 3 79 rfl dX2_unit_78 rfl rfl ?_
        refine V_iconst 5 80 dX2_unit_79 rfl kiconst_5 ?_
        refine V_icmp_ge 95 83 dX2_unit_80 (by decide) rfl (fun c61 => ?_) (fun c61 => ?_)
        · rw [if_pos c61] at hf
          refine V_aload_n 2 96 rfl dX2_unit_95 rfl rfl ?_
          refine V_iconst 1 97 dX2_unit_96 rfl kiconst_1 ?_
          obtain ⟨s63, h62, hf⟩ := ob hf
          refine V_putZ (n := 8) (T := TX2) (ty := tyX2) (f := 7) 100 h62 cf_1 rfl rfl (Or.inl rfl) wd_fl_X2_34 dX2_unit_97 rfl ?_
          refine V_iconst 0 101 dX2_unit_100 rfl kiconst_0 ?_
          have er := Option.some.inj hf
          obtain ⟨e1, e2⟩ := Prod.mk.inj er
          subst e1
          subst e2
          exact V_iret hQ rfl dX2_unit_101
        · rw [if_neg c61] at hf
          refine V_iload_n 1 84 rfl dX2_unit_83 rfl rfl ?_
          refine V_bipush 45 86 dX2_unit_84 rfl kbipush_45 ?_
          refine V_icmp_eq 102 89 dX2_unit_86 (by decide) rfl (fun c64 => ?_) (fun c64 => ?_)
          · rw [if_pos c64] at hf
            refine V_aload_n 2 103 rfl dX2_unit_102 rfl rfl ?_
            refine V_dup 104 dX2_unit_103 rfl rfl ?_
            obtain ⟨v66, h65, hf⟩ := ob hf
            refine V_getI (n := 8) (ty := tyX2) 107 h65 cf_1 rfl wd_fl_X2_28 dX2_unit_104 rfl ?_
            refine V_iconst 1 108 dX2_unit_107 rfl kiconst_1 ?_
            refine V_iadd 109 dX2_unit_108 rfl ?_
            obtain ⟨s68, h67, hf⟩ := ob hf
            refine V_putI (n := 8) (T := TX2) (ty := tyX2) (f := 5) 112 h67 cf_1 rfl rfl (Or.inl rfl) wd_fl_X2_28 dX2_unit_109 rfl ?_
            refine V_iload_n 1 113 rfl dX2_unit_112 rfl rfl ?_
            refine V_bipush 45 115 dX2_unit_113 rfl kbipush_45 ?_
            refine V_icmp_ne 137 118 dX2_unit_115 (by decide) rfl (fun c69 => ?_) (fun c69 => ?_)
            · rw [if_neg c69] at hf
              refine V_aload_n 2 138 rfl dX2_unit_137 rfl rfl ?_
              refine V_iload_n 3 139 rfl dX2_unit_138 rfl rfl ?_
              refine V_iconst 1 140 dX2_unit_139 rfl kiconst_1 ?_
              refine V_iadd 141 dX2_unit_140 rfl ?_
              obtain ⟨p71, h70, hf⟩ := ob hf
              refine V_callV (rest := []) (T := TX2) (n := 8) (ci := 1) 0 0 144 [.int p71.1] ((ihr 0 [a0 + 1] s68 p71 h70).2.1 rfl _ rfl) (by omega) ok_X2_choice okv_X2_choice (ihr 0 [a0 + 1] s68 p71 h70).1 rfl wd_ml_X2_38 rfl rfl (Nat.le_of_ble_eq_true rfl) rfl rfl (Or.inl ⟨rfl, rfl⟩) dX2_unit_141 rfl rfl ?_
              refine V_istore [(4, .int p71.1), (3, .int (-1)), (2, .int v2), (0, .ref t), (1, .int a0)] 146 dX2_unit_144 (by decide) rfl rfl ?_
              refine V_aload_n 3 147 rfl dX2_unit_146 rfl rfl ?_
              refine V_bipush 41 149 dX2_unit_147 rfl kbipush_41 ?_
              obtain ⟨s73, h72, hf⟩ := ob hf
              refine V_callV (rest := []) (T := TX2) (n := 8) (ci := 1) 0 0 152 [] (c_X2_wants l G (dr + 1) _ _ _ _ h72) (by omega) ok_X2_wants okv_X2_wants (gd_X2_wants h72) rfl wd_ml_X2_63 rfl rfl (Nat.le_of_ble_eq_true rfl) rfl rfl (Or.inl ⟨rfl, rfl⟩) dX2_unit_149 rfl rfl ?_
              refine V_iload 0 154 rfl dX2_unit_152 rfl ?_
              have er := Option.some.inj hf
              obtain ⟨e1, e2⟩ := Prod.mk.inj er
              subst e1
              subst e2
              exact V_iret hQ rfl dX2_unit_154
            · rw [if_pos c69] at hf
              refine V_aload_n 2 119 rfl dX2_unit_118 rfl rfl ?_
              refine V_dup 120 dX2_unit_119 rfl rfl ?_
              obtain ⟨v75, h74, hf⟩ := ob hf
              refine V_getI (n := 8) (ty := tyX2) 123 h74 cf_1 rfl wd_fl_X2_31 dX2_unit_120 rfl ?_
              refine V_iconst 1 124 dX2_unit_123 rfl kiconst_1 ?_
              refine V_iadd 125 dX2_unit_124 rfl ?_
              obtain ⟨s77, h76, hf⟩ := ob hf
              refine V_putI (n := 8) (T := TX2) (ty := tyX2) (f := 6) 128 h76 cf_1 rfl rfl (Or.inl rfl) wd_fl_X2_31 dX2_unit_125 rfl ?_
              refine V_aload_n 2 129 rfl dX2_unit_128 rfl rfl ?_
              refine V_iload_n 3 130 rfl dX2_unit_129 rfl rfl ?_
              refine V_iconst 1 131 dX2_unit_130 rfl kiconst_1 ?_
              refine V_iadd 132 dX2_unit_131 rfl ?_
              obtain ⟨p79, h78, hf⟩ := ob hf
              refine V_callV (rest := []) (T := TX2) (n := 8) (ci := 1) 0 0 135 [.int p79.1] ((ihr 2 [a0 + 1] s77 p79 h78).2.2.2 rfl _ rfl) (by omega) ok_X2_unit okv_X2_unit (ihr 2 [a0 + 1] s77 p79 h78).1 rfl wd_ml_X2_67 rfl rfl (Nat.le_of_ble_eq_true rfl) rfl rfl (Or.inl ⟨rfl, rfl⟩) dX2_unit_132 rfl rfl ?_
              refine V_ineg 136 dX2_unit_135 rfl ?_
              have er := Option.some.inj hf
              obtain ⟨e1, e2⟩ := Prod.mk.inj er
              subst e1
              subst e2
              exact V_iret hQ rfl dX2_unit_136
          · rw [if_neg c64] at hf
            refine V_iload_n 1 90 rfl dX2_unit_89 rfl rfl ?_
            refine V_bipush 40 92 dX2_unit_90 rfl kbipush_40 ?_
            refine V_icmp_eq 102 95 dX2_unit_92 (by decide) rfl (fun c80 => ?_) (fun c80 => ?_)
            · rw [if_pos c80] at hf
              refine V_aload_n 2 103 rfl dX2_unit_102 rfl rfl ?_
              refine V_dup 104 dX2_unit_103 rfl rfl ?_
              obtain ⟨v82, h81, hf⟩ := ob hf
              refine V_getI (n := 8) (ty := tyX2) 107 h81 cf_1 rfl wd_fl_X2_28 dX2_unit_104 rfl ?_
              refine V_iconst 1 108 dX2_unit_107 rfl kiconst_1 ?_
              refine V_iadd 109 dX2_unit_108 rfl ?_
              obtain ⟨s84, h83, hf⟩ := ob hf
              refine V_putI (n := 8) (T := TX2) (ty := tyX2) (f := 5) 112 h83 cf_1 rfl rfl (Or.inl rfl) wd_fl_X2_28 dX2_unit_109 rfl ?_
              refine V_iload_n 1 113 rfl dX2_unit_112 rfl rfl ?_
              refine V_bipush 45 115 dX2_unit_113 rfl kbipush_45 ?_
              refine V_icmp_ne 137 118 dX2_unit_115 (by decide) rfl (fun c85 => ?_) (fun c85 => ?_)
              · rw [if_neg c85] at hf
                refine V_aload_n 2 138 rfl dX2_unit_137 rfl rfl ?_
                refine V_iload_n 3 139 rfl dX2_unit_138 rfl rfl ?_
                refine V_iconst 1 140 dX2_unit_139 rfl kiconst_1 ?_
                refine V_iadd 141 dX2_unit_140 rfl ?_
                obtain ⟨p87, h86, hf⟩ := ob hf
                refine V_callV (rest := []) (T := TX2) (n := 8) (ci := 1) 0 0 144 [.int p87.1] ((ihr 0 [a0 + 1] s84 p87 h86).2.1 rfl _ rfl) (by omega) ok_X2_choice okv_X2_choice (ihr 0 [a0 + 1] s84 p87 h86).1 rfl wd_ml_X2_38 rfl rfl (Nat.le_of_ble_eq_true rfl) rfl rfl (Or.inl ⟨rfl, rfl⟩) dX2_unit_141 rfl rfl ?_
                refine V_istore [(4, .int p87.1), (3, .int (-1)), (2, .int v2), (0, .ref t), (1, .int a0)] 146 dX2_unit_144 (by decide) rfl rfl ?_
                refine V_aload_n 3 147 rfl dX2_unit_146 rfl rfl ?_
                refine V_bipush 41 149 dX2_unit_147 rfl kbipush_41 ?_
                obtain ⟨s89, h88, hf⟩ := ob hf
                refine V_callV (rest := []) (T := TX2) (n := 8) (ci := 1) 0 0 152 [] (c_X2_wants l G (dr + 1) _ _ _ _ h88) (by omega) ok_X2_wants okv_X2_wants (gd_X2_wants h88) rfl wd_ml_X2_63 rfl rfl (Nat.le_of_ble_eq_true rfl) rfl rfl (Or.inl ⟨rfl, rfl⟩) dX2_unit_149 rfl rfl ?_
                refine V_iload 0 154 rfl dX2_unit_152 rfl ?_
                have er := Option.some.inj hf
                obtain ⟨e1, e2⟩ := Prod.mk.inj er
                subst e1
                subst e2
                exact V_iret hQ rfl dX2_unit_154
              · rw [if_pos c85] at hf
                refine V_aload_n 2 119 rfl dX2_unit_118 rfl rfl ?_
                refine V_dup 120 dX2_unit_119 rfl rfl ?_
                obtain ⟨v91, h90, hf⟩ := ob hf
                refine V_getI (n := 8) (ty := tyX2) 123 h90 cf_1 rfl wd_fl_X2_31 dX2_unit_120 rfl ?_
                refine V_iconst 1 124 dX2_unit_123 rfl kiconst_1 ?_
                refine V_iadd 125 dX2_unit_124 rfl ?_
                obtain ⟨s93, h92, hf⟩ := ob hf
                refine V_putI (n := 8) (T := TX2) (ty := tyX2) (f := 6) 128 h92 cf_1 rfl rfl (Or.inl rfl) wd_fl_X2_31 dX2_unit_125 rfl ?_
                refine V_aload_n 2 129 rfl dX2_unit_128 rfl rfl ?_
                refine V_iload_n 3 130 rfl dX2_unit_129 rfl rfl ?_
                refine V_iconst 1 131 dX2_unit_130 rfl kiconst_1 ?_
                refine V_iadd 132 dX2_unit_131 rfl ?_
                obtain ⟨p95, h94, hf⟩ := ob hf
                refine V_callV (rest := []) (T := TX2) (n := 8) (ci := 1) 0 0 135 [.int p95.1] ((ihr 2 [a0 + 1] s93 p95 h94).2.2.2 rfl _ rfl) (by omega) ok_X2_unit okv_X2_unit (ihr 2 [a0 + 1] s93 p95 h94).1 rfl wd_ml_X2_67 rfl rfl (Nat.le_of_ble_eq_true rfl) rfl rfl (Or.inl ⟨rfl, rfl⟩) dX2_unit_132 rfl rfl ?_
                refine V_ineg 136 dX2_unit_135 rfl ?_
                have er := Option.some.inj hf
                obtain ⟨e1, e2⟩ := Prod.mk.inj er
                subst e1
                subst e2
                exact V_iret hQ rfl dX2_unit_136
            · rw [if_neg c80] at hf
              refine V_aload_n 2 96 rfl dX2_unit_95 rfl rfl ?_
              refine V_iconst 1 97 dX2_unit_96 rfl kiconst_1 ?_
              obtain ⟨s97, h96, hf⟩ := ob hf
              refine V_putZ (n := 8) (T := TX2) (ty := tyX2) (f := 7) 100 h96 cf_1 rfl rfl (Or.inl rfl) wd_fl_X2_34 dX2_unit_97 rfl ?_
              refine V_iconst 0 101 dX2_unit_100 rfl kiconst_0 ?_
              have er := Option.some.inj hf
              obtain ⟨e1, e2⟩ := Prod.mk.inj er
              subst e1
              subst e2
              exact V_iret hQ rfl dX2_unit_101
    · rw [if_neg c5] at hf
      refine V_aload_n 1 13 rfl dX2_unit_12 rfl rfl ?_
      obtain ⟨p99, h98, hf⟩ := ob hf
      refine V_callV (rest := []) (T := TX2) (n := 8) (ci := 1) 0 0 16 [.int p99.1] (c_X2_number l G (dr + 2) _ _ _ _ h98) (by omega) ok_X2_number okv_X2_number (gd_X2_number h98) rfl wd_ml_X2_80 rfl rfl (Nat.le_of_ble_eq_true rfl) rfl rfl (Or.inl ⟨rfl, rfl⟩) dX2_unit_13 rfl rfl ?_
      have er := Option.some.inj hf
      obtain ⟨e1, e2⟩ := Prod.mk.inj er
      subst e1
      subst e2
      exact V_iret hQ rfl dX2_unit_16
  · rw [if_neg hg] at hf
    cases hf
set_option maxRecDepth 100000 in
set_option maxHeartbeats 4000000 in
theorem cr_X2_choice (l : Launch) (G : Gd) (d : Nat) (t : Nat) : ∀ (n j : Nat) (as : List Int32) (σ : St) (p : Int32 × St), rc_X2_choice t n j as σ = some p → CT_X2_choice l G (d + 5 * n) t j as σ p := by
  intro n
  induction n with
  | zero =>
    intro j as σ p h
    exact absurd (show (none : Option _) = some p from h) (by simp)
  | succ n ih =>
    intro j as σ p h
    rw [rc_X2_choice] at h
    unfold ds_X2_choice at h
    rw [show d + 5 * (n + 1) = d + 5 * n + 5 from by omega]
    split at h
    · next a0 =>
      obtain ⟨r0, s0⟩ := p
      exact ⟨gd_f_X2_choice h, fun _ b0 e => by cases e; exact cb_X2_choice l G (d + 5 * n) (rc_X2_choice t n) t ih σ a0 r0 s0 h, fun e => absurd e (by decide), fun e => absurd e (by decide)⟩
    · next a0 a1 =>
      obtain ⟨r0, s0⟩ := p
      exact ⟨gd_f_X2_joined h, fun e => absurd e (by decide), fun _ b0 b1 e => by cases e; exact cb_X2_joined l G (d + 5 * n) (rc_X2_choice t n) t ih σ a0 a1 r0 s0 h, fun e => absurd e (by decide)⟩
    · next a0 =>
      obtain ⟨r0, s0⟩ := p
      exact ⟨gd_f_X2_unit h, fun e => absurd e (by decide), fun e => absurd e (by decide), fun _ b0 e => by cases e; exact cb_X2_unit l G (d + 5 * n) (rc_X2_choice t n) t ih σ a0 r0 s0 h⟩
    · cases h
def g_X2_choice (σ : St) (t : Nat) (a0 : Int32) : Option (Int32 × St) := rc_X2_choice t 60 0 [a0] σ
theorem c_X2_choice (l : Launch) (G : Gd) (d : Nat) (σ : St) (t : Nat) (a0 : Int32) (r0 : Int32) (σ' : St) (hf : g_X2_choice σ t a0 = some (r0, σ')) : MetV l G (d + 300) mi_X2_choice [.ref t, .int a0] σ (some (.int r0)) σ' 0 0 := by
  unfold g_X2_choice at hf
  have hp := hf
  exact (cr_X2_choice l G d t 60 0 _ σ _ hp).2.1 rfl _ rfl
theorem gd_X2_choice {σ : St} {t : Nat} {a0 : Int32} {r : Int32 × St} (h : g_X2_choice σ t a0 = some r) : isO σ 1 t = true := by
  unfold g_X2_choice at h
  have hp := h
  have hx : rc_X2_choice t (59 + 1) 0 _ σ = some _ := hp
  rw [rc_X2_choice] at hx
  exact gd_f_X2_choice hx
def g_X2_joined (σ : St) (t : Nat) (a0 : Int32) (a1 : Int32) : Option (Int32 × St) := rc_X2_choice t 60 1 [a0, a1] σ
theorem c_X2_joined (l : Launch) (G : Gd) (d : Nat) (σ : St) (t : Nat) (a0 : Int32) (a1 : Int32) (r0 : Int32) (σ' : St) (hf : g_X2_joined σ t a0 a1 = some (r0, σ')) : MetV l G (d + 300) mi_X2_joined [.ref t, .int a0, .int a1] σ (some (.int r0)) σ' 0 0 := by
  unfold g_X2_joined at hf
  have hp := hf
  exact (cr_X2_choice l G d t 60 1 _ σ _ hp).2.2.1 rfl _ _ rfl
theorem gd_X2_joined {σ : St} {t : Nat} {a0 : Int32} {a1 : Int32} {r : Int32 × St} (h : g_X2_joined σ t a0 a1 = some r) : isO σ 1 t = true := by
  unfold g_X2_joined at h
  have hp := h
  have hx : rc_X2_choice t (59 + 1) 1 _ σ = some _ := hp
  rw [rc_X2_choice] at hx
  exact gd_f_X2_joined hx
def g_X2_unit (σ : St) (t : Nat) (a0 : Int32) : Option (Int32 × St) := rc_X2_choice t 60 2 [a0] σ
theorem c_X2_unit (l : Launch) (G : Gd) (d : Nat) (σ : St) (t : Nat) (a0 : Int32) (r0 : Int32) (σ' : St) (hf : g_X2_unit σ t a0 = some (r0, σ')) : MetV l G (d + 300) mi_X2_unit [.ref t, .int a0] σ (some (.int r0)) σ' 0 0 := by
  unfold g_X2_unit at hf
  have hp := hf
  exact (cr_X2_choice l G d t 60 2 _ σ _ hp).2.2.2 rfl _ rfl
theorem gd_X2_unit {σ : St} {t : Nat} {a0 : Int32} {r : Int32 × St} (h : g_X2_unit σ t a0 = some r) : isO σ 1 t = true := by
  unfold g_X2_unit at h
  have hp := h
  have hx : rc_X2_choice t (59 + 1) 2 _ σ = some _ := hp
  rw [rc_X2_choice] at hx
  exact gd_f_X2_unit hx
abbrev mi_X2_read : MI := (yX2_read, cX2_read, 7, some .int)
theorem ok_X2_read : OkN mi_X2_read 5 := ⟨wd_cd_X2_read, wd_in_X2, ⟨by decide +kernel, by decide +kernel, by decide +kernel⟩, by decide⟩
theorem okv_X2_read : Cond.instanceMethod (mi_X2_read).1 ∈ tb ∧ Cond.selects (mi_X2_read).1.cls (mi_X2_read).1 (mi_X2_read).1 ∈ tb := ⟨wd_im_X2_read, wd_se_X2_read⟩
def f_X2_read (σ : St) (t : Nat) (a0 : Nat) (a1 : Int32) (a2 : Int32) (a3 : Int32) (a4 : Int32) : Option (Int32 × St) := if isO σ 1 t = true then ((pQ σ 1 t 0 a0).bind fun s2 => (pI s2 1 t 1 a1).bind fun s4 => (pI s4 1 t 2 a2).bind fun s6 => (pI s6 1 t 3 a3).bind fun s8 => (pI s8 1 t 4 a4).bind fun s10 => (pI s10 1 t 5 0).bind fun s12 => (pI s12 1 t 6 0).bind fun s14 => (pZ s14 1 t 7 0).bind fun s16 => (g_X2_choice s16 t 0).bind fun p18 => (f_X2_next p18.2 t).bind fun v20 => if v20 = (-1) then (some (p18.1, p18.2)) else ((pZ p18.2 1 t 7 1).bind fun s23 => some (p18.1, s23))) else none
theorem gd_X2_read {σ : St} {t : Nat} {a0 : Nat} {a1 : Int32} {a2 : Int32} {a3 : Int32} {a4 : Int32} {r : Int32 × St} (h : f_X2_read σ t a0 a1 a2 a3 a4 = some r) : isO σ 1 t = true := by
  unfold f_X2_read at h
  by_cases hg : isO σ 1 t = true
  · exact hg
  · rw [if_neg hg] at h
    cases h
set_option maxRecDepth 100000 in
set_option maxHeartbeats 4000000 in
theorem c_X2_read (l : Launch) (G : Gd) (d : Nat) (σ : St) (t : Nat) (a0 : Nat) (a1 : Int32) (a2 : Int32) (a3 : Int32) (a4 : Int32) (r0 : Int32) (σ' : St) (hf : f_X2_read σ t a0 a1 a2 a3 a4 = some (r0, σ')) : MetV l G (d + 301) mi_X2_read [.ref t, .ref a0, .int a1, .int a2, .int a3, .int a4] σ (some (.int r0)) σ' 0 0 := by
  unfold f_X2_read at hf
  refine MetV.of [(0, .ref t), (1, .ref a0), (2, .int a1), (3, .int a2), (4, .int a3), (5, .int a4)] (by decide +kernel) rfl (Nat.le_of_ble_eq_true rfl) ?_
  intro X hQ
  by_cases hg : isO σ 1 t = true
  · rw [if_pos hg] at hf
    refine V_aload_n 0 1 rfl dX2_read_0 rfl rfl ?_
    refine V_aload_n 1 2 rfl dX2_read_1 rfl rfl ?_
    obtain ⟨s2, h1, hf⟩ := ob hf
    refine V_putQ (n := 8) (T := TX2) (ty := tyX2) (f := 0) 5 h1 cf_1 rfl (Or.inl ⟨_, rfl⟩) (Or.inl rfl) wd_fl_X2_9 dX2_read_2 rfl ?_
    refine V_aload_n 0 6 rfl dX2_read_5 rfl rfl ?_
    refine V_iload_n 2 7 rfl dX2_read_6 rfl rfl ?_
    obtain ⟨s4, h3, hf⟩ := ob hf
    refine V_putI (n := 8) (T := TX2) (ty := tyX2) (f := 1) 10 h3 cf_1 rfl rfl (Or.inl rfl) wd_fl_X2_15 dX2_read_7 rfl ?_
    refine V_aload_n 0 11 rfl dX2_read_10 rfl rfl ?_
    refine V_iload_n 3 12 rfl dX2_read_11 rfl rfl ?_
    obtain ⟨s6, h5, hf⟩ := ob hf
    refine V_putI (n := 8) (T := TX2) (ty := tyX2) (f := 2) 15 h5 cf_1 rfl rfl (Or.inl rfl) wd_fl_X2_19 dX2_read_12 rfl ?_
    refine V_aload_n 0 16 rfl dX2_read_15 rfl rfl ?_
    refine V_iload 4 18 rfl dX2_read_16 rfl ?_
    obtain ⟨s8, h7, hf⟩ := ob hf
    refine V_putI (n := 8) (T := TX2) (ty := tyX2) (f := 3) 21 h7 cf_1 rfl rfl (Or.inl rfl) wd_fl_X2_22 dX2_read_18 rfl ?_
    refine V_aload_n 0 22 rfl dX2_read_21 rfl rfl ?_
    refine V_iload 5 24 rfl dX2_read_22 rfl ?_
    obtain ⟨s10, h9, hf⟩ := ob hf
    refine V_putI (n := 8) (T := TX2) (ty := tyX2) (f := 4) 27 h9 cf_1 rfl rfl (Or.inl rfl) wd_fl_X2_25 dX2_read_24 rfl ?_
    refine V_aload_n 0 28 rfl dX2_read_27 rfl rfl ?_
    refine V_iconst 0 29 dX2_read_28 rfl kiconst_0 ?_
    obtain ⟨s12, h11, hf⟩ := ob hf
    refine V_putI (n := 8) (T := TX2) (ty := tyX2) (f := 5) 32 h11 cf_1 rfl rfl (Or.inl rfl) wd_fl_X2_28 dX2_read_29 rfl ?_
    refine V_aload_n 0 33 rfl dX2_read_32 rfl rfl ?_
    refine V_iconst 0 34 dX2_read_33 rfl kiconst_0 ?_
    obtain ⟨s14, h13, hf⟩ := ob hf
    refine V_putI (n := 8) (T := TX2) (ty := tyX2) (f := 6) 37 h13 cf_1 rfl rfl (Or.inl rfl) wd_fl_X2_31 dX2_read_34 rfl ?_
    refine V_aload_n 0 38 rfl dX2_read_37 rfl rfl ?_
    refine V_iconst 0 39 dX2_read_38 rfl kiconst_0 ?_
    obtain ⟨s16, h15, hf⟩ := ob hf
    refine V_putZ (n := 8) (T := TX2) (ty := tyX2) (f := 7) 42 h15 cf_1 rfl rfl (Or.inl rfl) wd_fl_X2_34 dX2_read_39 rfl ?_
    refine V_aload_n 0 43 rfl dX2_read_42 rfl rfl ?_
    refine V_iconst 0 44 dX2_read_43 rfl kiconst_0 ?_
    obtain ⟨p18, h17, hf⟩ := ob hf
    refine V_callV (rest := []) (T := TX2) (n := 8) (ci := 1) 0 0 47 [.int p18.1] (c_X2_choice l G (d + 0) _ _ _ _ _ h17) (by omega) ok_X2_choice okv_X2_choice (gd_X2_choice h17) rfl wd_ml_X2_38 rfl rfl (Nat.le_of_ble_eq_true rfl) rfl rfl (Or.inl ⟨rfl, rfl⟩) dX2_read_44 rfl rfl ?_
    refine V_istore [(6, .int p18.1), (0, .ref t), (1, .ref a0), (2, .int a1), (3, .int a2), (4, .int a3), (5, .int a4)] 49 dX2_read_47 (by decide) rfl rfl ?_
    refine V_aload_n 1 50 rfl dX2_read_49 rfl rfl ?_
    obtain ⟨v20, h19, hf⟩ := ob hf
    refine V_callV (rest := []) (T := TX2) (n := 8) (ci := 1) 0 0 53 [.int v20] (c_X2_next l G (d + 299) _ _ _ h19) (by omega) ok_X2_next okv_X2_next (gd_X2_next h19) rfl wd_ml_X2_42 rfl rfl (Nat.le_of_ble_eq_true rfl) rfl rfl (Or.inl ⟨rfl, rfl⟩) dX2_read_50 rfl rfl ?_
    refine V_iconst (-1) 54 dX2_read_53 rfl kiconst_m1 ?_
    refine V_icmp_eq 62 57 dX2_read_54 (by decide) rfl (fun c21 => ?_) (fun c21 => ?_)
    · rw [if_pos c21] at hf
      refine V_iload 0 64 rfl dX2_read_62 rfl ?_
      have er := Option.some.inj hf
      obtain ⟨e1, e2⟩ := Prod.mk.inj er
      subst e1
      subst e2
      exact V_iret hQ rfl dX2_read_64
    · rw [if_neg c21] at hf
      refine V_aload_n 1 58 rfl dX2_read_57 rfl rfl ?_
      refine V_iconst 1 59 dX2_read_58 rfl kiconst_1 ?_
      obtain ⟨s23, h22, hf⟩ := ob hf
      refine V_putZ (n := 8) (T := TX2) (ty := tyX2) (f := 7) 62 h22 cf_1 rfl rfl (Or.inl rfl) wd_fl_X2_34 dX2_read_59 rfl ?_
      refine V_iload 0 64 rfl dX2_read_62 rfl ?_
      have er := Option.some.inj hf
      obtain ⟨e1, e2⟩ := Prod.mk.inj er
      subst e1
      subst e2
      exact V_iret hQ rfl dX2_read_64
  · rw [if_neg hg] at hf
    cases hf
abbrev mi_X6_isUnder : MI := (yX6_isUnder, cX6_isUnder, 4, some .boolean)
theorem ok_X6_isUnder : OkN mi_X6_isUnder 2 := ⟨wd_cd_X6_isUnder, wd_in_X6, ⟨by decide +kernel, by decide +kernel, by decide +kernel⟩, by decide⟩
theorem oks_X6_isUnder : Cond.static (mi_X6_isUnder).1 ∈ tb := wd_sm_X6_isUnder
def f_X6_isUnder_L4 (x1 : Int32) : Nat → Int32 → Int32 → Option ((Int32) ⊕ (Int32 × Int32))
  | 0, _, _ => none
  | n + 1, x3, x2 => if (nI 8) ≤ x3 then (some (.inr (x3, x2))) else (if x2 < 0 then (some (.inr (x3, x2))) else (if (nI 8) ≤ x2 then (some (.inr (x3, x2))) else (if x2 = x1 then (some (.inl 1)) else ((oI 2 8 x2).bind fun v6 => f_X6_isUnder_L4 x1 n (x3 + 1) v6))))
def f_X6_isUnder (σ : St) (a0 : Int32) (a1 : Int32) : Option Int32 := (f_X6_isUnder_L4 a1 3000 0 a0).bind fun p7 => Sum.elim (some) (fun p9 => some 0) p7
set_option maxRecDepth 100000 in
set_option maxHeartbeats 4000000 in
theorem c_X6_isUnder (l : Launch) (G : Gd) (d : Nat) (σ : St) (a0 : Int32) (a1 : Int32) (r0 : Int32) (hf : f_X6_isUnder σ a0 a1 = some r0) : MetV l G (d + 1) mi_X6_isUnder [.int a0, .int a1] σ (some (.int r0)) σ 0 0 := by
  unfold f_X6_isUnder at hf
  refine MetV.of [(0, .int a0), (1, .int a1)] (by decide +kernel) rfl (Nat.le_of_ble_eq_true rfl) ?_
  intro X hQ
  have L4 : ∀ (x1 : Int32) (n : Nat) (x3 : Int32) (x2 : Int32) (p : (Int32) ⊕ (Int32 × Int32)), f_X6_isUnder_L4 x1 n x3 x2 = some p → (∀ v, p = .inl v → v = r0) → (∀ q, p = .inr q → V mi_X6_isUnder l G (d + 1) 0 0 X 0 0 43 [(3, .int q.1), (2, .int q.2), (1, .int x1)] [] σ) → V mi_X6_isUnder l G (d + 1) 0 0 X 0 0 4 [(3, .int x3), (2, .int x2), (1, .int x1)] [] σ := by
    intro x1 n
    induction n with
    | zero =>
      intro x3 x2 p hf
      exact absurd (show (none : Option _) = some p from hf) (by simp)
    | succ n ih =>
      intro x3 x2 p hf hk1 hk
      rw [f_X6_isUnder_L4] at hf
      refine V_iload_n 0 5 rfl dX6_isUnder_4 rfl rfl ?_
      refine V_gets 8 (fun s h => h.2.2.1) (by decide) wd_fl_X6_30 dX6_isUnder_5 rfl ?_
      refine V_olen (j := 2) (n := 8) 9 (fun s h => h.2.2.1) dX6_isUnder_8 rfl ?_
      refine V_icmp_ge 43 12 dX6_isUnder_9 (by decide) rfl (fun c1 => ?_) (fun c1 => ?_)
      · rw [if_pos c1] at hf
        have ep := Option.some.inj hf
        subst ep
        refine V_ls [(3, .int x3), (2, .int x2), (1, .int x1)] [0, 1, 2] rfl ?_
        exact hk _ rfl
      · rw [if_neg c1] at hf
        refine V_iload_n 1 13 rfl dX6_isUnder_12 rfl rfl ?_
        refine V_if_lt 43 16 dX6_isUnder_13 (by decide) rfl (fun c2 => ?_) (fun c2 => ?_)
        · rw [if_pos c2] at hf
          have ep := Option.some.inj hf
          subst ep
          refine V_ls [(3, .int x3), (2, .int x2), (1, .int x1)] [0, 1, 2] rfl ?_
          exact hk _ rfl
        · rw [if_neg c2] at hf
          refine V_iload_n 1 17 rfl dX6_isUnder_16 rfl rfl ?_
          refine V_gets 20 (fun s h => h.2.2.1) (by decide) wd_fl_X6_30 dX6_isUnder_17 rfl ?_
          refine V_olen (j := 2) (n := 8) 21 (fun s h => h.2.2.1) dX6_isUnder_20 rfl ?_
          refine V_icmp_ge 43 24 dX6_isUnder_21 (by decide) rfl (fun c3 => ?_) (fun c3 => ?_)
          · rw [if_pos c3] at hf
            have ep := Option.some.inj hf
            subst ep
            refine V_ls [(3, .int x3), (2, .int x2), (1, .int x1)] [0, 1, 2] rfl ?_
            exact hk _ rfl
          · rw [if_neg c3] at hf
            refine V_iload_n 1 25 rfl dX6_isUnder_24 rfl rfl ?_
            refine V_iload_n 2 26 rfl dX6_isUnder_25 rfl rfl ?_
            refine V_icmp_ne 31 29 dX6_isUnder_26 (by decide) rfl (fun c4 => ?_) (fun c4 => ?_)
            · rw [if_neg c4] at hf
              refine V_gets 34 (fun s h => h.2.2.1) (by decide) wd_fl_X6_30 dX6_isUnder_31 rfl ?_
              refine V_iload_n 1 35 rfl dX6_isUnder_34 rfl rfl ?_
              obtain ⟨v6, h5, hf⟩ := ob hf
              refine V_oald 36 h5 (fun s h => h.2.2.1) dX6_isUnder_35 rfl ?_
              refine V_istore_n [(2, .int v6), (3, .int x3), (1, .int x1)] 37 dX6_isUnder_36 rfl (by decide) rfl rfl ?_
              refine V_iinc (x3 + 1) 1 [(3, .int (x3 + 1)), (2, .int v6), (1, .int x1)] 40 dX6_isUnder_37 rfl (by rw [kiconst_1]) (by decide) rfl rfl ?_
              refine V_goto 4 dX6_isUnder_40 (by decide) ?_
              refine V_ls [(3, .int (x3 + 1)), (2, .int v6), (1, .int x1)] [0, 1, 2] rfl ?_
              exact ih _ _ _ hf hk1 hk
            · rw [if_pos c4] at hf
              refine V_iconst 1 30 dX6_isUnder_29 rfl kiconst_1 ?_
              have ep := Option.some.inj hf
              subst ep
              have er := hk1 _ rfl
              subst er
              exact V_zret (by decide) hQ rfl dX6_isUnder_30
  refine V_iload_n 0 1 rfl dX6_isUnder_0 rfl rfl ?_
  refine V_istore_n [(2, .int a0), (0, .int a0), (1, .int a1)] 2 dX6_isUnder_1 rfl (by decide) rfl rfl ?_
  refine V_iconst 0 3 dX6_isUnder_2 rfl kiconst_0 ?_
  refine V_istore_n [(3, .int 0), (2, .int a0), (0, .int a0), (1, .int a1)] 4 dX6_isUnder_3 rfl (by decide) rfl rfl ?_
  obtain ⟨p7, h8, hf⟩ := ob hf
  refine V_ls [(3, .int 0), (2, .int a0), (1, .int a1)] [0, 1, 3] rfl ?_
  refine L4 a1 3000 0 a0 p7 h8 (fun v hv => ?_) (fun p9 hq => ?_)
  · subst hv
    cases hf
    rfl
  subst hq
  simp only [Sum.elim_inr] at hf
  refine V_iconst 0 44 dX6_isUnder_43 rfl kiconst_0 ?_
  have er := Option.some.inj hf
  subst er
  exact V_zret (by decide) hQ rfl dX6_isUnder_44
abbrev mi_X0_divisorOfBoth : MI := (yX0_divisorOfBoth, cX0_divisorOfBoth, 6, some .int)
theorem ok_X0_divisorOfBoth : OkN mi_X0_divisorOfBoth 2 := ⟨wd_cd_X0_divisorOfBoth, wd_in_TwiceNoise_Bends, ⟨by decide +kernel, by decide +kernel, by decide +kernel⟩, by decide⟩
theorem oks_X0_divisorOfBoth : Cond.static (mi_X0_divisorOfBoth).1 ∈ tb := wd_sm_X0_divisorOfBoth
def f_X0_divisorOfBoth_L11  : Nat → Int32 → Int32 → Int32 → Option (Int32 × Int32 × Int32)
  | 0, _, _, _ => none
  | n + 1, x4, x3, x2 => if 64 ≤ x4 then (some (x4, x3, x2)) else (if x3 ≤ 0 then (some (x4, x3, x2)) else ((ne0 x3).bind fun z5 => f_X0_divisorOfBoth_L11  n (x4 + 1) (irm x2 x3) x3))
def f_X0_divisorOfBoth (σ : St) (a0 : Int32) (a1 : Int32) : Option Int32 := (f_J9_max_7cf53 σ 1 a0).bind fun v2 => (f_X0_divisorOfBoth_L11  3000 0 a1 v2).bind fun p7 => some p7.2.2
set_option maxRecDepth 100000 in
set_option maxHeartbeats 4000000 in
theorem c_X0_divisorOfBoth (l : Launch) (G : Gd) (d : Nat) (σ : St) (a0 : Int32) (a1 : Int32) (r0 : Int32) (hf : f_X0_divisorOfBoth σ a0 a1 = some r0) : MetV l G (d + 2) mi_X0_divisorOfBoth [.int a0, .int a1] σ (some (.int r0)) σ 0 0 := by
  unfold f_X0_divisorOfBoth at hf
  refine MetV.of [(0, .int a0), (1, .int a1)] (by decide +kernel) rfl (Nat.le_of_ble_eq_true rfl) ?_
  intro X hQ
  have L11 : ∀  (n : Nat) (x4 : Int32) (x3 : Int32) (x2 : Int32) (p : Int32 × Int32 × Int32), f_X0_divisorOfBoth_L11  n x4 x3 x2 = some p → V mi_X0_divisorOfBoth l G (d + 2) 0 0 X 0 0 38 [(4, .int p.1), (3, .int p.2.1), (2, .int p.2.2)] [] σ → V mi_X0_divisorOfBoth l G (d + 2) 0 0 X 0 0 11 [(4, .int x4), (3, .int x3), (2, .int x2)] [] σ := by
    intro  n
    induction n with
    | zero =>
      intro x4 x3 x2 p hf
      exact absurd (show (none : Option _) = some p from hf) (by simp)
    | succ n ih =>
      intro x4 x3 x2 p hf hk
      rw [f_X0_divisorOfBoth_L11] at hf
      refine V_iload 0 13 rfl dX0_divisorOfBoth_11 rfl ?_
      refine V_bipush 64 15 dX0_divisorOfBoth_13 rfl kbipush_64 ?_
      refine V_icmp_ge 38 18 dX0_divisorOfBoth_15 (by decide) rfl (fun c3 => ?_) (fun c3 => ?_)
      · rw [if_pos c3] at hf
        have ep := Option.some.inj hf
        subst ep
        refine V_ls [(4, .int x4), (3, .int x3), (2, .int x2)] [0, 1, 2] rfl ?_
        exact hk
      · rw [if_neg c3] at hf
        refine V_iload_n 1 19 rfl dX0_divisorOfBoth_18 rfl rfl ?_
        refine V_if_le 38 22 dX0_divisorOfBoth_19 (by decide) rfl (fun c4 => ?_) (fun c4 => ?_)
        · rw [if_pos c4] at hf
          have ep := Option.some.inj hf
          subst ep
          refine V_ls [(4, .int x4), (3, .int x3), (2, .int x2)] [0, 1, 2] rfl ?_
          exact hk
        · rw [if_neg c4] at hf
          refine V_iload_n 2 23 rfl dX0_divisorOfBoth_22 rfl rfl ?_
          refine V_iload_n 1 24 rfl dX0_divisorOfBoth_23 rfl rfl ?_
          obtain ⟨z5, h6, hf⟩ := ob hf
          refine V_irem 25 dX0_divisorOfBoth_24 rfl (ne0_ne h6) ?_
          refine V_istore [(5, .int (irm x2 x3)), (4, .int x4), (3, .int x3), (2, .int x2)] 27 dX0_divisorOfBoth_25 (by decide) rfl rfl ?_
          refine V_iload_n 2 28 rfl dX0_divisorOfBoth_27 rfl rfl ?_
          refine V_istore_n [(2, .int x3), (5, .int (irm x2 x3)), (4, .int x4), (3, .int x3)] 29 dX0_divisorOfBoth_28 rfl (by decide) rfl rfl ?_
          refine V_iload 1 31 rfl dX0_divisorOfBoth_29 rfl ?_
          refine V_istore_n [(3, .int (irm x2 x3)), (2, .int x3), (5, .int (irm x2 x3)), (4, .int x4)] 32 dX0_divisorOfBoth_31 rfl (by decide) rfl rfl ?_
          refine V_iinc (x4 + 1) 3 [(4, .int (x4 + 1)), (3, .int (irm x2 x3)), (2, .int x3), (5, .int (irm x2 x3))] 35 dX0_divisorOfBoth_32 rfl (by rw [kiconst_1]) (by decide) rfl rfl ?_
          refine V_goto 11 dX0_divisorOfBoth_35 (by decide) ?_
          refine V_ls [(4, .int (x4 + 1)), (3, .int (irm x2 x3)), (2, .int x3)] [0, 1, 2] rfl ?_
          exact ih _ _ _ _ hf hk
  refine V_iconst 1 1 dX0_divisorOfBoth_0 rfl kiconst_1 ?_
  refine V_iload_n 0 2 rfl dX0_divisorOfBoth_1 rfl rfl ?_
  obtain ⟨v2, h1, hf⟩ := ob hf
  refine V_callS (rest := []) 0 0 5 [.int v2] (c_J9_max_7cf53 l G (d + 0) _ _ _ _ h1) (by omega) ok_J9_max_7cf53 oks_J9_max_7cf53 wd_ml_TwiceNoise_Bends_29 rfl rfl (Nat.le_of_ble_eq_true rfl) rfl rfl (Or.inl ⟨rfl, rfl⟩) dX0_divisorOfBoth_2 rfl rfl ?_
  refine V_istore_n [(2, .int v2), (0, .int a0), (1, .int a1)] 6 dX0_divisorOfBoth_5 rfl (by decide) rfl rfl ?_
  refine V_iload_n 2 7 rfl dX0_divisorOfBoth_6 rfl rfl ?_
  refine V_istore_n [(3, .int a1), (2, .int v2), (0, .int a0), (1, .int a1)] 8 dX0_divisorOfBoth_7 rfl (by decide) rfl rfl ?_
  refine V_iconst 0 9 dX0_divisorOfBoth_8 rfl kiconst_0 ?_
  refine V_istore [(4, .int 0), (3, .int a1), (2, .int v2), (0, .int a0), (1, .int a1)] 11 dX0_divisorOfBoth_9 (by decide) rfl rfl ?_
  obtain ⟨p7, h8, hf⟩ := ob hf
  refine V_ls [(4, .int 0), (3, .int a1), (2, .int v2)] [0, 1, 2] rfl ?_
  refine L11 3000 0 a1 v2 p7 h8 ?_
  refine V_iload_n 2 39 rfl dX0_divisorOfBoth_38 rfl rfl ?_
  have er := Option.some.inj hf
  subst er
  exact V_iret hQ rfl dX0_divisorOfBoth_39
abbrev mi_X0_startingAt : MI := (yX0_startingAt, cX0_startingAt, 14, some .int)
theorem ok_X0_startingAt : OkN mi_X0_startingAt 6 := ⟨wd_cd_X0_startingAt, wd_in_TwiceNoise_Bends, ⟨by decide +kernel, by decide +kernel, by decide +kernel⟩, by decide⟩
theorem oks_X0_startingAt : Cond.static (mi_X0_startingAt).1 ∈ tb := wd_sm_X0_startingAt
def f_X0_startingAt_L57 (σ : St) (x7 : Int32) (x6 : Int32) (x0 : Nat) (x1 : Int32) (x2 : Int32) (x3 : Int32) (x5 : Int32) : Nat → Int32 → Int32 → Int32 → Option ((Int32) ⊕ (Int32 × Int32 × Int32))
  | 0, _, _, _ => none
  | n + 1, x10, x9, x8 => if x6 ≤ x10 then (some (.inr (x10, x9, x8))) else ((f_X4_pointAt σ x0 x1 (x5 + (x7 * x10))).bind fun v9 => (f_X4_pointAt σ x0 x1 x5).bind fun v11 => (f_X4_pointAt σ x0 x2 x10).bind fun v13 => (f_X4_pointAt σ x0 x2 0).bind fun v15 => if (if (v9 - v11) = 0 then 1 else 0 : Int32) = (if (v13 - v15) = 0 then 1 else 0 : Int32) then (if x9 = 0 then (if (v9 - v11) = 0 then ((f_J9_abs_0f7a4 σ x8).bind fun v25 => if x3 < v25 then (some (.inl (-1))) else (if x3 < x9 then (some (.inl (-1))) else (if (x9 * (v13 - v15)) = (x8 * (v9 - v11)) then (f_X0_startingAt_L57 σ x7 x6 x0 x1 x2 x3 x5 n (x10 + 1) x9 x8) else (some (.inl (-1)))))) else ((f_J9_abs_0f7a4 σ (v9 - v11)).bind fun v30 => (f_J9_abs_0f7a4 σ (v13 - v15)).bind fun v32 => (f_X0_divisorOfBoth σ v30 v32).bind fun v34 => (ne0 v34).bind fun z35 => (f_J9_abs_0f7a4 σ (v9 - v11)).bind fun v38 => (ne0 v34).bind fun z39 => (f_J9_abs_0f7a4 σ ((if (v9 - v11) ≤ 0 then (-(v13 - v15)) else (v13 - v15) : Int32) / v34)).bind fun v42 => if x3 < v42 then (some (.inl (-1))) else (if x3 < (v38 / v34) then (some (.inl (-1))) else (if ((v38 / v34) * (v13 - v15)) = (((if (v9 - v11) ≤ 0 then (-(v13 - v15)) else (v13 - v15) : Int32) / v34) * (v9 - v11)) then (f_X0_startingAt_L57 σ x7 x6 x0 x1 x2 x3 x5 n (x10 + 1) (v38 / v34) ((if (v9 - v11) ≤ 0 then (-(v13 - v15)) else (v13 - v15) : Int32) / v34)) else (some (.inl (-1))))))) else ((f_J9_abs_0f7a4 σ x8).bind fun v19 => if x3 < v19 then (some (.inl (-1))) else (if x3 < x9 then (some (.inl (-1))) else (if (x9 * (v13 - v15)) = (x8 * (v9 - v11)) then (f_X0_startingAt_L57 σ x7 x6 x0 x1 x2 x3 x5 n (x10 + 1) x9 x8) else (some (.inl (-1))))))) else (some (.inl (-1))))
def f_X0_startingAt (σ : St) (a0 : Nat) (a1 : Int32) (a2 : Int32) (a3 : Int32) (a4 : Int32) (a5 : Int32) : Option Int32 := (f_X4_size σ a0 a2).bind fun v2 => if a4 = 1 then (if v2 ≤ (a5 + 1) then ((f_X0_startingAt_L57 σ (if a4 = 1 then (-1) else 1 : Int32) v2 a0 a1 a2 a3 a5 3000 1 0 0).bind fun p64 => Sum.elim (some) (fun p66 => (f_J9_abs_0f7a4 σ p66.2.2).bind fun v68 => some (if p66.2.1 = 0 then (-1) else ((((((((a4 * 2) + (if 0 ≤ p66.2.2 then 0 else 1 : Int32)) * 6) + v68) * 6) + p66.2.1) * 24) + a5) : Int32)) p64) else (some (-1))) else ((f_X4_size σ a0 a1).bind fun v5 => if v2 ≤ (v5 - a5) then ((f_X0_startingAt_L57 σ (if a4 = 1 then (-1) else 1 : Int32) v2 a0 a1 a2 a3 a5 3000 1 0 0).bind fun p52 => Sum.elim (some) (fun p54 => (f_J9_abs_0f7a4 σ p54.2.2).bind fun v56 => some (if p54.2.1 = 0 then (-1) else ((((((((a4 * 2) + (if 0 ≤ p54.2.2 then 0 else 1 : Int32)) * 6) + v56) * 6) + p54.2.1) * 24) + a5) : Int32)) p52) else (some (-1)))
set_option maxRecDepth 100000 in
set_option maxHeartbeats 4000000 in
theorem c_X0_startingAt (l : Launch) (G : Gd) (d : Nat) (σ : St) (a0 : Nat) (a1 : Int32) (a2 : Int32) (a3 : Int32) (a4 : Int32) (a5 : Int32) (r0 : Int32) (hf : f_X0_startingAt σ a0 a1 a2 a3 a4 a5 = some r0) : MetV l G (d + 3) mi_X0_startingAt [.ref a0, .int a1, .int a2, .int a3, .int a4, .int a5] σ (some (.int r0)) σ 0 0 := by
  unfold f_X0_startingAt at hf
  refine MetV.of [(0, .ref a0), (1, .int a1), (2, .int a2), (3, .int a3), (4, .int a4), (5, .int a5)] (by decide +kernel) rfl (Nat.le_of_ble_eq_true rfl) ?_
  intro X hQ
  have L57 : ∀ (x7 : Int32) (x6 : Int32) (x0 : Nat) (x1 : Int32) (x2 : Int32) (x3 : Int32) (x4 : Int32) (x5 : Int32) (n : Nat) (x10 : Int32) (x9 : Int32) (x8 : Int32) (p : (Int32) ⊕ (Int32 × Int32 × Int32)), f_X0_startingAt_L57 σ x7 x6 x0 x1 x2 x3 x5 n x10 x9 x8 = some p → (∀ v, p = .inl v → v = r0) → (∀ q, p = .inr q → V mi_X0_startingAt l G (d + 3) 0 0 X 0 0 217 [(10, .int q.1), (9, .int q.2.1), (8, .int q.2.2), (7, .int x7), (6, .int x6), (0, .ref x0), (1, .int x1), (2, .int x2), (3, .int x3), (4, .int x4), (5, .int x5)] [] σ) → V mi_X0_startingAt l G (d + 3) 0 0 X 0 0 57 [(10, .int x10), (9, .int x9), (8, .int x8), (7, .int x7), (6, .int x6), (0, .ref x0), (1, .int x1), (2, .int x2), (3, .int x3), (4, .int x4), (5, .int x5)] [] σ := by
    intro x7 x6 x0 x1 x2 x3 x4 x5 n
    induction n with
    | zero =>
      intro x10 x9 x8 p hf
      exact absurd (show (none : Option _) = some p from hf) (by simp)
    | succ n ih =>
      intro x10 x9 x8 p hf hk1 hk
      rw [f_X0_startingAt_L57] at hf
      refine V_iload 0 59 rfl dX0_startingAt_57 rfl ?_
      refine V_iload 4 61 rfl dX0_startingAt_59 rfl ?_
      refine V_icmp_ge 217 64 dX0_startingAt_61 (by decide) rfl (fun c7 => ?_) (fun c7 => ?_)
      · rw [if_pos c7] at hf
        have ep := Option.some.inj hf
        subst ep
        refine V_ls [(10, .int x10), (9, .int x9), (8, .int x8), (7, .int x7), (6, .int x6), (0, .ref x0), (1, .int x1), (2, .int x2), (3, .int x3), (4, .int x4), (5, .int x5)] [0, 1, 2, 3, 4, 5, 6, 7, 8, 9, 10] rfl ?_
        exact hk _ rfl
      · rw [if_neg c7] at hf
        refine V_aload_n 5 65 rfl dX0_startingAt_64 rfl rfl ?_
        refine V_iload_n 6 66 rfl dX0_startingAt_65 rfl rfl ?_
        refine V_iload 10 68 rfl dX0_startingAt_66 rfl ?_
        refine V_iload 3 70 rfl dX0_startingAt_68 rfl ?_
        refine V_iload 0 72 rfl dX0_startingAt_70 rfl ?_
        refine V_imul 73 dX0_startingAt_72 rfl ?_
        refine V_iadd 74 dX0_startingAt_73 rfl ?_
        obtain ⟨v9, h8, hf⟩ := ob hf
        refine V_callV (rest := []) (T := TX4) (n := 11) (ci := 3) 0 0 77 [.int v9] (c_X4_pointAt l G (d + 1) _ _ _ _ _ h8) (by omega) ok_X4_pointAt okv_X4_pointAt (gd_X4_pointAt h8) rfl wd_ml_TwiceNoise_Bends_15 rfl rfl (Nat.le_of_ble_eq_true rfl) rfl rfl (Or.inl ⟨rfl, rfl⟩) dX0_startingAt_74 rfl rfl ?_
        refine V_aload_n 5 78 rfl dX0_startingAt_77 rfl rfl ?_
        refine V_iload_n 6 79 rfl dX0_startingAt_78 rfl rfl ?_
        refine V_iload 10 81 rfl dX0_startingAt_79 rfl ?_
        obtain ⟨v11, h10, hf⟩ := ob hf
        refine V_callV (rest := [.int v9]) (T := TX4) (n := 11) (ci := 3) 0 0 84 [.int v11, .int v9] (c_X4_pointAt l G (d + 1) _ _ _ _ _ h10) (by omega) ok_X4_pointAt okv_X4_pointAt (gd_X4_pointAt h10) rfl wd_ml_TwiceNoise_Bends_15 rfl rfl (Nat.le_of_ble_eq_true rfl) rfl rfl (Or.inl ⟨rfl, rfl⟩) dX0_startingAt_81 rfl rfl ?_
        refine V_isub 85 dX0_startingAt_84 rfl ?_
        refine V_istore [(11, .int (v9 - v11)), (10, .int x10), (9, .int x9), (8, .int x8), (7, .int x7), (6, .int x6), (0, .ref x0), (1, .int x1), (2, .int x2), (3, .int x3), (4, .int x4), (5, .int x5)] 87 dX0_startingAt_85 (by decide) rfl rfl ?_
        refine V_aload_n 6 88 rfl dX0_startingAt_87 rfl rfl ?_
        refine V_iload_n 8 89 rfl dX0_startingAt_88 rfl rfl ?_
        refine V_iload 1 91 rfl dX0_startingAt_89 rfl ?_
        obtain ⟨v13, h12, hf⟩ := ob hf
        refine V_callV (rest := []) (T := TX4) (n := 11) (ci := 3) 0 0 94 [.int v13] (c_X4_pointAt l G (d + 1) _ _ _ _ _ h12) (by omega) ok_X4_pointAt okv_X4_pointAt (gd_X4_pointAt h12) rfl wd_ml_TwiceNoise_Bends_15 rfl rfl (Nat.le_of_ble_eq_true rfl) rfl rfl (Or.inl ⟨rfl, rfl⟩) dX0_startingAt_91 rfl rfl ?_
        refine V_aload_n 6 95 rfl dX0_startingAt_94 rfl rfl ?_
        refine V_iload_n 8 96 rfl dX0_startingAt_95 rfl rfl ?_
        refine V_iconst 0 97 dX0_startingAt_96 rfl kiconst_0 ?_
        obtain ⟨v15, h14, hf⟩ := ob hf
        refine V_callV (rest := [.int v13]) (T := TX4) (n := 11) (ci := 3) 0 0 100 [.int v15, .int v13] (c_X4_pointAt l G (d + 1) _ _ _ _ _ h14) (by omega) ok_X4_pointAt okv_X4_pointAt (gd_X4_pointAt h14) rfl wd_ml_TwiceNoise_Bends_15 rfl rfl (Nat.le_of_ble_eq_true rfl) rfl rfl (Or.inl ⟨rfl, rfl⟩) dX0_startingAt_97 rfl rfl ?_
        refine V_isub 101 dX0_startingAt_100 rfl ?_
        refine V_istore [(12, .int (v13 - v15)), (11, .int (v9 - v11)), (10, .int x10), (9, .int x9), (8, .int x8), (7, .int x7), (6, .int x6), (0, .ref x0), (1, .int x1), (2, .int x2), (3, .int x3), (4, .int x4), (5, .int x5)] 103 dX0_startingAt_101 (by decide) rfl rfl ?_
        refine V_iload 1 105 rfl dX0_startingAt_103 rfl ?_
        have kj50 : V mi_X0_startingAt l G (d + 3) 0 0 X 0 0 113 [(12, .int (v13 - v15)), (11, .int (v9 - v11)), (10, .int x10), (9, .int x9), (8, .int x8), (7, .int x7), (6, .int x6), (0, .ref x0), (1, .int x1), (2, .int x2), (3, .int x3), (4, .int x4), (5, .int x5)] [.int (if (v9 - v11) = 0 then 1 else 0 : Int32)] σ := by
          refine V_iload 0 115 rfl dX0_startingAt_113 rfl ?_
          have kj48 : V mi_X0_startingAt l G (d + 3) 0 0 X 0 0 123 [(12, .int (v13 - v15)), (11, .int (v9 - v11)), (10, .int x10), (9, .int x9), (8, .int x8), (7, .int x7), (6, .int x6), (0, .ref x0), (1, .int x1), (2, .int x2), (3, .int x3), (4, .int x4), (5, .int x5)] [.int (if (v13 - v15) = 0 then 1 else 0 : Int32), .int (if (v9 - v11) = 0 then 1 else 0 : Int32)] σ := by
            refine V_icmp_eq 128 126 dX0_startingAt_123 (by decide) rfl (fun c16 => ?_) (fun c16 => ?_)
            · rw [if_pos c16] at hf
              refine V_iload 3 130 rfl dX0_startingAt_128 rfl ?_
              refine V_if_ne 181 133 dX0_startingAt_130 (by decide) rfl (fun c17 => ?_) (fun c17 => ?_)
              · rw [if_neg c17] at hf
                refine V_iload 4 183 rfl dX0_startingAt_181 rfl ?_
                obtain ⟨v19, h18, hf⟩ := ob hf
                refine V_callS (rest := []) 0 0 186 [.int v19] (c_J9_abs_0f7a4 l G (d + 1) _ _ _ h18) (by omega) ok_J9_abs_0f7a4 oks_J9_abs_0f7a4 wd_ml_TwiceNoise_Bends_19 rfl rfl (Nat.le_of_ble_eq_true rfl) rfl rfl (Or.inl ⟨rfl, rfl⟩) dX0_startingAt_183 rfl rfl ?_
                refine V_iload_n 10 187 rfl dX0_startingAt_186 rfl rfl ?_
                refine V_icmp_gt 209 190 dX0_startingAt_187 (by decide) rfl (fun c20 => ?_) (fun c20 => ?_)
                · rw [if_pos c20] at hf
                  refine V_iconst (-1) 210 dX0_startingAt_209 rfl kiconst_m1 ?_
                  have ep := Option.some.inj hf
                  subst ep
                  have er := hk1 _ rfl
                  subst er
                  exact V_iret hQ rfl dX0_startingAt_210
                · rw [if_neg c20] at hf
                  refine V_iload 3 192 rfl dX0_startingAt_190 rfl ?_
                  refine V_iload_n 10 193 rfl dX0_startingAt_192 rfl rfl ?_
                  refine V_icmp_gt 209 196 dX0_startingAt_193 (by decide) rfl (fun c21 => ?_) (fun c21 => ?_)
                  · rw [if_pos c21] at hf
                    refine V_iconst (-1) 210 dX0_startingAt_209 rfl kiconst_m1 ?_
                    have ep := Option.some.inj hf
                    subst ep
                    have er := hk1 _ rfl
                    subst er
                    exact V_iret hQ rfl dX0_startingAt_210
                  · rw [if_neg c21] at hf
                    refine V_iload 3 198 rfl dX0_startingAt_196 rfl ?_
                    refine V_iload 0 200 rfl dX0_startingAt_198 rfl ?_
                    refine V_imul 201 dX0_startingAt_200 rfl ?_
                    refine V_iload 4 203 rfl dX0_startingAt_201 rfl ?_
                    refine V_iload 1 205 rfl dX0_startingAt_203 rfl ?_
                    refine V_imul 206 dX0_startingAt_205 rfl ?_
                    refine V_icmp_eq 211 209 dX0_startingAt_206 (by decide) rfl (fun c22 => ?_) (fun c22 => ?_)
                    · rw [if_pos c22] at hf
                      refine V_iinc (x10 + 1) 2 [(10, .int (x10 + 1)), (12, .int (v13 - v15)), (11, .int (v9 - v11)), (9, .int x9), (8, .int x8), (7, .int x7), (6, .int x6), (0, .ref x0), (1, .int x1), (2, .int x2), (3, .int x3), (4, .int x4), (5, .int x5)] 214 dX0_startingAt_211 rfl (by rw [kiconst_1]) (by decide) rfl rfl ?_
                      refine V_goto 57 dX0_startingAt_214 (by decide) ?_
                      refine V_ls [(10, .int (x10 + 1)), (9, .int x9), (8, .int x8), (7, .int x7), (6, .int x6), (0, .ref x0), (1, .int x1), (2, .int x2), (3, .int x3), (4, .int x4), (5, .int x5)] [0, 3, 4, 5, 6, 7, 8, 9, 10, 11, 12] rfl ?_
                      exact ih _ _ _ _ hf hk1 hk
                    · rw [if_neg c22] at hf
                      refine V_iconst (-1) 210 dX0_startingAt_209 rfl kiconst_m1 ?_
                      have ep := Option.some.inj hf
                      subst ep
                      have er := hk1 _ rfl
                      subst er
                      exact V_iret hQ rfl dX0_startingAt_210
              · rw [if_pos c17] at hf
                refine V_iload 1 135 rfl dX0_startingAt_133 rfl ?_
                refine V_if_eq 181 138 dX0_startingAt_135 (by decide) rfl (fun c23 => ?_) (fun c23 => ?_)
                · rw [if_pos c23] at hf
                  refine V_iload 4 183 rfl dX0_startingAt_181 rfl ?_
                  obtain ⟨v25, h24, hf⟩ := ob hf
                  refine V_callS (rest := []) 0 0 186 [.int v25] (c_J9_abs_0f7a4 l G (d + 1) _ _ _ h24) (by omega) ok_J9_abs_0f7a4 oks_J9_abs_0f7a4 wd_ml_TwiceNoise_Bends_19 rfl rfl (Nat.le_of_ble_eq_true rfl) rfl rfl (Or.inl ⟨rfl, rfl⟩) dX0_startingAt_183 rfl rfl ?_
                  refine V_iload_n 10 187 rfl dX0_startingAt_186 rfl rfl ?_
                  refine V_icmp_gt 209 190 dX0_startingAt_187 (by decide) rfl (fun c26 => ?_) (fun c26 => ?_)
                  · rw [if_pos c26] at hf
                    refine V_iconst (-1) 210 dX0_startingAt_209 rfl kiconst_m1 ?_
                    have ep := Option.some.inj hf
                    subst ep
                    have er := hk1 _ rfl
                    subst er
                    exact V_iret hQ rfl dX0_startingAt_210
                  · rw [if_neg c26] at hf
                    refine V_iload 3 192 rfl dX0_startingAt_190 rfl ?_
                    refine V_iload_n 10 193 rfl dX0_startingAt_192 rfl rfl ?_
                    refine V_icmp_gt 209 196 dX0_startingAt_193 (by decide) rfl (fun c27 => ?_) (fun c27 => ?_)
                    · rw [if_pos c27] at hf
                      refine V_iconst (-1) 210 dX0_startingAt_209 rfl kiconst_m1 ?_
                      have ep := Option.some.inj hf
                      subst ep
                      have er := hk1 _ rfl
                      subst er
                      exact V_iret hQ rfl dX0_startingAt_210
                    · rw [if_neg c27] at hf
                      refine V_iload 3 198 rfl dX0_startingAt_196 rfl ?_
                      refine V_iload 0 200 rfl dX0_startingAt_198 rfl ?_
                      refine V_imul 201 dX0_startingAt_200 rfl ?_
                      refine V_iload 4 203 rfl dX0_startingAt_201 rfl ?_
                      refine V_iload 1 205 rfl dX0_startingAt_203 rfl ?_
                      refine V_imul 206 dX0_startingAt_205 rfl ?_
                      refine V_icmp_eq 211 209 dX0_startingAt_206 (by decide) rfl (fun c28 => ?_) (fun c28 => ?_)
                      · rw [if_pos c28] at hf
                        refine V_iinc (x10 + 1) 2 [(10, .int (x10 + 1)), (12, .int (v13 - v15)), (11, .int (v9 - v11)), (9, .int x9), (8, .int x8), (7, .int x7), (6, .int x6), (0, .ref x0), (1, .int x1), (2, .int x2), (3, .int x3), (4, .int x4), (5, .int x5)] 214 dX0_startingAt_211 rfl (by rw [kiconst_1]) (by decide) rfl rfl ?_
                        refine V_goto 57 dX0_startingAt_214 (by decide) ?_
                        refine V_ls [(10, .int (x10 + 1)), (9, .int x9), (8, .int x8), (7, .int x7), (6, .int x6), (0, .ref x0), (1, .int x1), (2, .int x2), (3, .int x3), (4, .int x4), (5, .int x5)] [0, 3, 4, 5, 6, 7, 8, 9, 10, 11, 12] rfl ?_
                        exact ih _ _ _ _ hf hk1 hk
                      · rw [if_neg c28] at hf
                        refine V_iconst (-1) 210 dX0_startingAt_209 rfl kiconst_m1 ?_
                        have ep := Option.some.inj hf
                        subst ep
                        have er := hk1 _ rfl
                        subst er
                        exact V_iret hQ rfl dX0_startingAt_210
                · rw [if_neg c23] at hf
                  refine V_iload 1 140 rfl dX0_startingAt_138 rfl ?_
                  obtain ⟨v30, h29, hf⟩ := ob hf
                  refine V_callS (rest := []) 0 0 143 [.int v30] (c_J9_abs_0f7a4 l G (d + 1) _ _ _ h29) (by omega) ok_J9_abs_0f7a4 oks_J9_abs_0f7a4 wd_ml_TwiceNoise_Bends_19 rfl rfl (Nat.le_of_ble_eq_true rfl) rfl rfl (Or.inl ⟨rfl, rfl⟩) dX0_startingAt_140 rfl rfl ?_
                  refine V_iload 0 145 rfl dX0_startingAt_143 rfl ?_
                  obtain ⟨v32, h31, hf⟩ := ob hf
                  refine V_callS (rest := [.int v30]) 0 0 148 [.int v32, .int v30] (c_J9_abs_0f7a4 l G (d + 1) _ _ _ h31) (by omega) ok_J9_abs_0f7a4 oks_J9_abs_0f7a4 wd_ml_TwiceNoise_Bends_19 rfl rfl (Nat.le_of_ble_eq_true rfl) rfl rfl (Or.inl ⟨rfl, rfl⟩) dX0_startingAt_145 rfl rfl ?_
                  obtain ⟨v34, h33, hf⟩ := ob hf
                  refine V_callS (rest := []) 0 0 151 [.int v34] (c_X0_divisorOfBoth l G (d + 0) _ _ _ _ h33) (by omega) ok_X0_divisorOfBoth oks_X0_divisorOfBoth wd_ml_TwiceNoise_Bends_24 rfl rfl (Nat.le_of_ble_eq_true rfl) rfl rfl (Or.inl ⟨rfl, rfl⟩) dX0_startingAt_148 rfl rfl ?_
                  refine V_istore [(13, .int v34), (12, .int (v13 - v15)), (11, .int (v9 - v11)), (10, .int x10), (9, .int x9), (8, .int x8), (7, .int x7), (6, .int x6), (0, .ref x0), (1, .int x1), (2, .int x2), (3, .int x3), (4, .int x4), (5, .int x5)] 153 dX0_startingAt_151 (by decide) rfl rfl ?_
                  refine V_iload 2 155 rfl dX0_startingAt_153 rfl ?_
                  have kj46 : V mi_X0_startingAt l G (d + 3) 0 0 X 0 0 166 [(13, .int v34), (12, .int (v13 - v15)), (11, .int (v9 - v11)), (10, .int x10), (9, .int x9), (8, .int x8), (7, .int x7), (6, .int x6), (0, .ref x0), (1, .int x1), (2, .int x2), (3, .int x3), (4, .int x4), (5, .int x5)] [.int (if (v9 - v11) ≤ 0 then (-(v13 - v15)) else (v13 - v15) : Int32)] σ := by
                    refine V_iload 0 168 rfl dX0_startingAt_166 rfl ?_
                    obtain ⟨z35, h36, hf⟩ := ob hf
                    refine V_idiv 169 dX0_startingAt_168 rfl (ne0_ne h36) ?_
                    refine V_istore [(8, .int ((if (v9 - v11) ≤ 0 then (-(v13 - v15)) else (v13 - v15) : Int32) / v34)), (13, .int v34), (12, .int (v13 - v15)), (11, .int (v9 - v11)), (10, .int x10), (9, .int x9), (7, .int x7), (6, .int x6), (0, .ref x0), (1, .int x1), (2, .int x2), (3, .int x3), (4, .int x4), (5, .int x5)] 171 dX0_startingAt_169 (by decide) rfl rfl ?_
                    refine V_iload 3 173 rfl dX0_startingAt_171 rfl ?_
                    obtain ⟨v38, h37, hf⟩ := ob hf
                    refine V_callS (rest := []) 0 0 176 [.int v38] (c_J9_abs_0f7a4 l G (d + 1) _ _ _ h37) (by omega) ok_J9_abs_0f7a4 oks_J9_abs_0f7a4 wd_ml_TwiceNoise_Bends_19 rfl rfl (Nat.le_of_ble_eq_true rfl) rfl rfl (Or.inl ⟨rfl, rfl⟩) dX0_startingAt_173 rfl rfl ?_
                    refine V_iload 1 178 rfl dX0_startingAt_176 rfl ?_
                    obtain ⟨z39, h40, hf⟩ := ob hf
                    refine V_idiv 179 dX0_startingAt_178 rfl (ne0_ne h40) ?_
                    refine V_istore [(9, .int (v38 / v34)), (8, .int ((if (v9 - v11) ≤ 0 then (-(v13 - v15)) else (v13 - v15) : Int32) / v34)), (13, .int v34), (12, .int (v13 - v15)), (11, .int (v9 - v11)), (10, .int x10), (7, .int x7), (6, .int x6), (0, .ref x0), (1, .int x1), (2, .int x2), (3, .int x3), (4, .int x4), (5, .int x5)] 181 dX0_startingAt_179 (by decide) rfl rfl ?_
                    refine V_iload 1 183 rfl dX0_startingAt_181 rfl ?_
                    obtain ⟨v42, h41, hf⟩ := ob hf
                    refine V_callS (rest := []) 0 0 186 [.int v42] (c_J9_abs_0f7a4 l G (d + 1) _ _ _ h41) (by omega) ok_J9_abs_0f7a4 oks_J9_abs_0f7a4 wd_ml_TwiceNoise_Bends_19 rfl rfl (Nat.le_of_ble_eq_true rfl) rfl rfl (Or.inl ⟨rfl, rfl⟩) dX0_startingAt_183 rfl rfl ?_
                    refine V_iload_n 11 187 rfl dX0_startingAt_186 rfl rfl ?_
                    refine V_icmp_gt 209 190 dX0_startingAt_187 (by decide) rfl (fun c43 => ?_) (fun c43 => ?_)
                    · rw [if_pos c43] at hf
                      refine V_iconst (-1) 210 dX0_startingAt_209 rfl kiconst_m1 ?_
                      have ep := Option.some.inj hf
                      subst ep
                      have er := hk1 _ rfl
                      subst er
                      exact V_iret hQ rfl dX0_startingAt_210
                    · rw [if_neg c43] at hf
                      refine V_iload 0 192 rfl dX0_startingAt_190 rfl ?_
                      refine V_iload_n 11 193 rfl dX0_startingAt_192 rfl rfl ?_
                      refine V_icmp_gt 209 196 dX0_startingAt_193 (by decide) rfl (fun c44 => ?_) (fun c44 => ?_)
                      · rw [if_pos c44] at hf
                        refine V_iconst (-1) 210 dX0_startingAt_209 rfl kiconst_m1 ?_
                        have ep := Option.some.inj hf
                        subst ep
                        have er := hk1 _ rfl
                        subst er
                        exact V_iret hQ rfl dX0_startingAt_210
                      · rw [if_neg c44] at hf
                        refine V_iload 0 198 rfl dX0_startingAt_196 rfl ?_
                        refine V_iload 3 200 rfl dX0_startingAt_198 rfl ?_
                        refine V_imul 201 dX0_startingAt_200 rfl ?_
                        refine V_iload 1 203 rfl dX0_startingAt_201 rfl ?_
                        refine V_iload 4 205 rfl dX0_startingAt_203 rfl ?_
                        refine V_imul 206 dX0_startingAt_205 rfl ?_
                        refine V_icmp_eq 211 209 dX0_startingAt_206 (by decide) rfl (fun c45 => ?_) (fun c45 => ?_)
                        · rw [if_pos c45] at hf
                          refine V_iinc (x10 + 1) 5 [(10, .int (x10 + 1)), (9, .int (v38 / v34)), (8, .int ((if (v9 - v11) ≤ 0 then (-(v13 - v15)) else (v13 - v15) : Int32) / v34)), (13, .int v34), (12, .int (v13 - v15)), (11, .int (v9 - v11)), (7, .int x7), (6, .int x6), (0, .ref x0), (1, .int x1), (2, .int x2), (3, .int x3), (4, .int x4), (5, .int x5)] 214 dX0_startingAt_211 rfl (by rw [kiconst_1]) (by decide) rfl rfl ?_
                          refine V_goto 57 dX0_startingAt_214 (by decide) ?_
                          refine V_ls [(10, .int (x10 + 1)), (9, .int (v38 / v34)), (8, .int ((if (v9 - v11) ≤ 0 then (-(v13 - v15)) else (v13 - v15) : Int32) / v34)), (7, .int x7), (6, .int x6), (0, .ref x0), (1, .int x1), (2, .int x2), (3, .int x3), (4, .int x4), (5, .int x5)] [0, 1, 2, 6, 7, 8, 9, 10, 11, 12, 13] rfl ?_
                          exact ih _ _ _ _ hf hk1 hk
                        · rw [if_neg c45] at hf
                          refine V_iconst (-1) 210 dX0_startingAt_209 rfl kiconst_m1 ?_
                          have ep := Option.some.inj hf
                          subst ep
                          have er := hk1 _ rfl
                          subst er
                          exact V_iret hQ rfl dX0_startingAt_210
                  refine V_if_le 163 158 dX0_startingAt_155 (by decide) rfl (fun c47 => ?_) (fun c47 => ?_)
                  · refine V_iload 1 165 rfl dX0_startingAt_163 rfl ?_
                    refine V_ineg 166 dX0_startingAt_165 rfl ?_
                    refine V_ls [(13, .int v34), (12, .int (v13 - v15)), (11, .int (v9 - v11)), (10, .int x10), (9, .int x9), (8, .int x8), (7, .int x7), (6, .int x6), (0, .ref x0), (1, .int x1), (2, .int x2), (3, .int x3), (4, .int x4), (5, .int x5)] [0, 1, 2, 3, 4, 5, 6, 7, 8, 9, 10, 11, 12, 13] rfl ?_
                    simp only [if_pos c47] at kj46
                    exact kj46
                  · refine V_iload 1 160 rfl dX0_startingAt_158 rfl ?_
                    refine V_goto 166 dX0_startingAt_160 (by decide) ?_
                    refine V_ls [(13, .int v34), (12, .int (v13 - v15)), (11, .int (v9 - v11)), (10, .int x10), (9, .int x9), (8, .int x8), (7, .int x7), (6, .int x6), (0, .ref x0), (1, .int x1), (2, .int x2), (3, .int x3), (4, .int x4), (5, .int x5)] [0, 1, 2, 3, 4, 5, 6, 7, 8, 9, 10, 11, 12, 13] rfl ?_
                    simp only [if_neg c47] at kj46
                    exact kj46
            · rw [if_neg c16] at hf
              refine V_iconst (-1) 127 dX0_startingAt_126 rfl kiconst_m1 ?_
              have ep := Option.some.inj hf
              subst ep
              have er := hk1 _ rfl
              subst er
              exact V_iret hQ rfl dX0_startingAt_127
          refine V_if_ne 122 118 dX0_startingAt_115 (by decide) rfl (fun c49 => ?_) (fun c49 => ?_)
          · refine V_iconst 0 123 dX0_startingAt_122 rfl kiconst_0 ?_
            refine V_ls [(12, .int (v13 - v15)), (11, .int (v9 - v11)), (10, .int x10), (9, .int x9), (8, .int x8), (7, .int x7), (6, .int x6), (0, .ref x0), (1, .int x1), (2, .int x2), (3, .int x3), (4, .int x4), (5, .int x5)] [0, 1, 2, 3, 4, 5, 6, 7, 8, 9, 10, 11, 12] rfl ?_
            simp only [if_neg c49] at kj48
            exact kj48
          · refine V_iconst 1 119 dX0_startingAt_118 rfl kiconst_1 ?_
            refine V_goto 123 dX0_startingAt_119 (by decide) ?_
            refine V_ls [(12, .int (v13 - v15)), (11, .int (v9 - v11)), (10, .int x10), (9, .int x9), (8, .int x8), (7, .int x7), (6, .int x6), (0, .ref x0), (1, .int x1), (2, .int x2), (3, .int x3), (4, .int x4), (5, .int x5)] [0, 1, 2, 3, 4, 5, 6, 7, 8, 9, 10, 11, 12] rfl ?_
            simp only [if_pos c49] at kj48
            exact kj48
        refine V_if_ne 112 108 dX0_startingAt_105 (by decide) rfl (fun c51 => ?_) (fun c51 => ?_)
        · refine V_iconst 0 113 dX0_startingAt_112 rfl kiconst_0 ?_
          refine V_ls [(12, .int (v13 - v15)), (11, .int (v9 - v11)), (10, .int x10), (9, .int x9), (8, .int x8), (7, .int x7), (6, .int x6), (0, .ref x0), (1, .int x1), (2, .int x2), (3, .int x3), (4, .int x4), (5, .int x5)] [0, 1, 2, 3, 4, 5, 6, 7, 8, 9, 10, 11, 12] rfl ?_
          simp only [if_neg c51] at kj50
          exact kj50
        · refine V_iconst 1 109 dX0_startingAt_108 rfl kiconst_1 ?_
          refine V_goto 113 dX0_startingAt_109 (by decide) ?_
          refine V_ls [(12, .int (v13 - v15)), (11, .int (v9 - v11)), (10, .int x10), (9, .int x9), (8, .int x8), (7, .int x7), (6, .int x6), (0, .ref x0), (1, .int x1), (2, .int x2), (3, .int x3), (4, .int x4), (5, .int x5)] [0, 1, 2, 3, 4, 5, 6, 7, 8, 9, 10, 11, 12] rfl ?_
          simp only [if_pos c51] at kj50
          exact kj50
  refine V_aload_n 0 1 rfl dX0_startingAt_0 rfl rfl ?_
  refine V_iload_n 2 2 rfl dX0_startingAt_1 rfl rfl ?_
  obtain ⟨v2, h1, hf⟩ := ob hf
  refine V_callV (rest := []) (T := TX4) (n := 11) (ci := 3) 0 0 5 [.int v2] (c_X4_size l G (d + 0) _ _ _ _ h1) (by omega) ok_X4_size okv_X4_size (gd_X4_size h1) rfl wd_ml_TwiceNoise_Bends_9 rfl rfl (Nat.le_of_ble_eq_true rfl) rfl rfl (Or.inl ⟨rfl, rfl⟩) dX0_startingAt_2 rfl rfl ?_
  refine V_istore [(6, .int v2), (0, .ref a0), (1, .int a1), (2, .int a2), (3, .int a3), (4, .int a4), (5, .int a5)] 7 dX0_startingAt_5 (by decide) rfl rfl ?_
  refine V_iload 0 9 rfl dX0_startingAt_7 rfl ?_
  refine V_iload 5 11 rfl dX0_startingAt_9 rfl ?_
  refine V_iconst 1 12 dX0_startingAt_11 rfl kiconst_1 ?_
  refine V_icmp_ne 22 15 dX0_startingAt_12 (by decide) rfl (fun c3 => ?_) (fun c3 => ?_)
  · rw [if_neg c3] at hf
    refine V_aload_n 1 23 rfl dX0_startingAt_22 rfl rfl ?_
    refine V_iload_n 2 24 rfl dX0_startingAt_23 rfl rfl ?_
    obtain ⟨v5, h4, hf⟩ := ob hf
    refine V_callV (rest := [.int v2]) (T := TX4) (n := 11) (ci := 3) 0 0 27 [.int v5, .int v2] (c_X4_size l G (d + 0) _ _ _ _ h4) (by omega) ok_X4_size okv_X4_size (gd_X4_size h4) rfl wd_ml_TwiceNoise_Bends_9 rfl rfl (Nat.le_of_ble_eq_true rfl) rfl rfl (Or.inl ⟨rfl, rfl⟩) dX0_startingAt_24 rfl rfl ?_
    refine V_iload 6 29 rfl dX0_startingAt_27 rfl ?_
    refine V_isub 30 dX0_startingAt_29 rfl ?_
    refine V_icmp_le 35 33 dX0_startingAt_30 (by decide) rfl (fun c6 => ?_) (fun c6 => ?_)
    · rw [if_pos c6] at hf
      refine V_iload 5 37 rfl dX0_startingAt_35 rfl ?_
      refine V_iconst 1 38 dX0_startingAt_37 rfl kiconst_1 ?_
      have kj61 : V mi_X0_startingAt l G (d + 3) 0 0 X 0 0 46 [(6, .int v2), (0, .ref a0), (1, .int a1), (2, .int a2), (3, .int a3), (4, .int a4), (5, .int a5)] [.int (if a4 = 1 then (-1) else 1 : Int32)] σ := by
        refine V_istore [(7, .int (if a4 = 1 then (-1) else 1 : Int32)), (6, .int v2), (0, .ref a0), (1, .int a1), (2, .int a2), (3, .int a3), (4, .int a4), (5, .int a5)] 48 dX0_startingAt_46 (by decide) rfl rfl ?_
        refine V_iconst 0 49 dX0_startingAt_48 rfl kiconst_0 ?_
        refine V_istore [(8, .int 0), (7, .int (if a4 = 1 then (-1) else 1 : Int32)), (6, .int v2), (0, .ref a0), (1, .int a1), (2, .int a2), (3, .int a3), (4, .int a4), (5, .int a5)] 51 dX0_startingAt_49 (by decide) rfl rfl ?_
        refine V_iconst 0 52 dX0_startingAt_51 rfl kiconst_0 ?_
        refine V_istore [(9, .int 0), (8, .int 0), (7, .int (if a4 = 1 then (-1) else 1 : Int32)), (6, .int v2), (0, .ref a0), (1, .int a1), (2, .int a2), (3, .int a3), (4, .int a4), (5, .int a5)] 54 dX0_startingAt_52 (by decide) rfl rfl ?_
        refine V_iconst 1 55 dX0_startingAt_54 rfl kiconst_1 ?_
        refine V_istore [(10, .int 1), (9, .int 0), (8, .int 0), (7, .int (if a4 = 1 then (-1) else 1 : Int32)), (6, .int v2), (0, .ref a0), (1, .int a1), (2, .int a2), (3, .int a3), (4, .int a4), (5, .int a5)] 57 dX0_startingAt_55 (by decide) rfl rfl ?_
        obtain ⟨p52, h53, hf⟩ := ob hf
        refine V_ls [(10, .int 1), (9, .int 0), (8, .int 0), (7, .int (if a4 = 1 then (-1) else 1 : Int32)), (6, .int v2), (0, .ref a0), (1, .int a1), (2, .int a2), (3, .int a3), (4, .int a4), (5, .int a5)] [0, 1, 2, 3, 4, 5, 6, 7, 8, 9, 10] rfl ?_
        refine L57 (if a4 = 1 then (-1) else 1 : Int32) v2 a0 a1 a2 a3 a4 a5 3000 1 0 0 p52 h53 (fun v hv => ?_) (fun p54 hq => ?_)
        · subst hv
          cases hf
          rfl
        subst hq
        simp only [Sum.elim_inr] at hf
        refine V_iload 2 219 rfl dX0_startingAt_217 rfl ?_
        have kj59 : V mi_X0_startingAt l G (d + 3) 0 0 X 0 0 227 [(10, .int p54.1), (9, .int p54.2.1), (8, .int p54.2.2), (7, .int (if a4 = 1 then (-1) else 1 : Int32)), (6, .int v2), (0, .ref a0), (1, .int a1), (2, .int a2), (3, .int a3), (4, .int a4), (5, .int a5)] [.int (if 0 ≤ p54.2.2 then 0 else 1 : Int32)] σ := by
          refine V_istore [(10, .int (if 0 ≤ p54.2.2 then 0 else 1 : Int32)), (9, .int p54.2.1), (8, .int p54.2.2), (7, .int (if a4 = 1 then (-1) else 1 : Int32)), (6, .int v2), (0, .ref a0), (1, .int a1), (2, .int a2), (3, .int a3), (4, .int a4), (5, .int a5)] 229 dX0_startingAt_227 (by decide) rfl rfl ?_
          refine V_iload 9 231 rfl dX0_startingAt_229 rfl ?_
          refine V_iconst 2 232 dX0_startingAt_231 rfl kiconst_2 ?_
          refine V_imul 233 dX0_startingAt_232 rfl ?_
          refine V_iload 0 235 rfl dX0_startingAt_233 rfl ?_
          refine V_iadd 236 dX0_startingAt_235 rfl ?_
          refine V_bipush 6 238 dX0_startingAt_236 rfl kbipush_6 ?_
          refine V_imul 239 dX0_startingAt_238 rfl ?_
          refine V_iload 2 241 rfl dX0_startingAt_239 rfl ?_
          obtain ⟨v56, h55, hf⟩ := ob hf
          refine V_callS (rest := [.int (((a4 * 2) + (if 0 ≤ p54.2.2 then 0 else 1 : Int32)) * 6)]) 0 0 244 [.int v56, .int (((a4 * 2) + (if 0 ≤ p54.2.2 then 0 else 1 : Int32)) * 6)] (c_J9_abs_0f7a4 l G (d + 1) _ _ _ h55) (by omega) ok_J9_abs_0f7a4 oks_J9_abs_0f7a4 wd_ml_TwiceNoise_Bends_19 rfl rfl (Nat.le_of_ble_eq_true rfl) rfl rfl (Or.inl ⟨rfl, rfl⟩) dX0_startingAt_241 rfl rfl ?_
          refine V_iadd 245 dX0_startingAt_244 rfl ?_
          refine V_bipush 6 247 dX0_startingAt_245 rfl kbipush_6 ?_
          refine V_imul 248 dX0_startingAt_247 rfl ?_
          refine V_iload 1 250 rfl dX0_startingAt_248 rfl ?_
          refine V_iadd 251 dX0_startingAt_250 rfl ?_
          refine V_istore [(11, .int ((((((a4 * 2) + (if 0 ≤ p54.2.2 then 0 else 1 : Int32)) * 6) + v56) * 6) + p54.2.1)), (10, .int (if 0 ≤ p54.2.2 then 0 else 1 : Int32)), (9, .int p54.2.1), (8, .int p54.2.2), (7, .int (if a4 = 1 then (-1) else 1 : Int32)), (6, .int v2), (0, .ref a0), (1, .int a1), (2, .int a2), (3, .int a3), (4, .int a4), (5, .int a5)] 253 dX0_startingAt_251 (by decide) rfl rfl ?_
          refine V_iload 2 255 rfl dX0_startingAt_253 rfl ?_
          have kj57 : V mi_X0_startingAt l G (d + 3) 0 0 X 0 0 270 [(11, .int ((((((a4 * 2) + (if 0 ≤ p54.2.2 then 0 else 1 : Int32)) * 6) + v56) * 6) + p54.2.1)), (10, .int (if 0 ≤ p54.2.2 then 0 else 1 : Int32)), (9, .int p54.2.1), (8, .int p54.2.2), (7, .int (if a4 = 1 then (-1) else 1 : Int32)), (6, .int v2), (0, .ref a0), (1, .int a1), (2, .int a2), (3, .int a3), (4, .int a4), (5, .int a5)] [.int (if p54.2.1 = 0 then (-1) else ((((((((a4 * 2) + (if 0 ≤ p54.2.2 then 0 else 1 : Int32)) * 6) + v56) * 6) + p54.2.1) * 24) + a5) : Int32)] σ := by
            have er := Option.some.inj hf
            subst er
            exact V_iret hQ rfl dX0_startingAt_270
          refine V_if_ne 262 258 dX0_startingAt_255 (by decide) rfl (fun c58 => ?_) (fun c58 => ?_)
          · refine V_iload 0 264 rfl dX0_startingAt_262 rfl ?_
            refine V_bipush 24 266 dX0_startingAt_264 rfl kbipush_24 ?_
            refine V_imul 267 dX0_startingAt_266 rfl ?_
            refine V_iload 11 269 rfl dX0_startingAt_267 rfl ?_
            refine V_iadd 270 dX0_startingAt_269 rfl ?_
            refine V_ls [(11, .int ((((((a4 * 2) + (if 0 ≤ p54.2.2 then 0 else 1 : Int32)) * 6) + v56) * 6) + p54.2.1)), (10, .int (if 0 ≤ p54.2.2 then 0 else 1 : Int32)), (9, .int p54.2.1), (8, .int p54.2.2), (7, .int (if a4 = 1 then (-1) else 1 : Int32)), (6, .int v2), (0, .ref a0), (1, .int a1), (2, .int a2), (3, .int a3), (4, .int a4), (5, .int a5)] [0, 1, 2, 3, 4, 5, 6, 7, 8, 9, 10, 11] rfl ?_
            simp only [if_neg c58] at kj57
            exact kj57
          · refine V_iconst (-1) 259 dX0_startingAt_258 rfl kiconst_m1 ?_
            refine V_goto 270 dX0_startingAt_259 (by decide) ?_
            refine V_ls [(11, .int ((((((a4 * 2) + (if 0 ≤ p54.2.2 then 0 else 1 : Int32)) * 6) + v56) * 6) + p54.2.1)), (10, .int (if 0 ≤ p54.2.2 then 0 else 1 : Int32)), (9, .int p54.2.1), (8, .int p54.2.2), (7, .int (if a4 = 1 then (-1) else 1 : Int32)), (6, .int v2), (0, .ref a0), (1, .int a1), (2, .int a2), (3, .int a3), (4, .int a4), (5, .int a5)] [0, 1, 2, 3, 4, 5, 6, 7, 8, 9, 10, 11] rfl ?_
            simp only [if_pos c58] at kj57
            exact kj57
        refine V_if_ge 226 222 dX0_startingAt_219 (by decide) rfl (fun c60 => ?_) (fun c60 => ?_)
        · refine V_iconst 0 227 dX0_startingAt_226 rfl kiconst_0 ?_
          refine V_ls [(10, .int p54.1), (9, .int p54.2.1), (8, .int p54.2.2), (7, .int (if a4 = 1 then (-1) else 1 : Int32)), (6, .int v2), (0, .ref a0), (1, .int a1), (2, .int a2), (3, .int a3), (4, .int a4), (5, .int a5)] [0, 1, 2, 3, 4, 5, 6, 7, 8, 9, 10] rfl ?_
          simp only [if_pos c60] at kj59
          exact kj59
        · refine V_iconst 1 223 dX0_startingAt_222 rfl kiconst_1 ?_
          refine V_goto 227 dX0_startingAt_223 (by decide) ?_
          refine V_ls [(10, .int p54.1), (9, .int p54.2.1), (8, .int p54.2.2), (7, .int (if a4 = 1 then (-1) else 1 : Int32)), (6, .int v2), (0, .ref a0), (1, .int a1), (2, .int a2), (3, .int a3), (4, .int a4), (5, .int a5)] [0, 1, 2, 3, 4, 5, 6, 7, 8, 9, 10] rfl ?_
          simp only [if_neg c60] at kj59
          exact kj59
      refine V_icmp_ne 45 41 dX0_startingAt_38 (by decide) rfl (fun c62 => ?_) (fun c62 => ?_)
      · refine V_iconst 1 46 dX0_startingAt_45 rfl kiconst_1 ?_
        refine V_ls [(6, .int v2), (0, .ref a0), (1, .int a1), (2, .int a2), (3, .int a3), (4, .int a4), (5, .int a5)] [0, 1, 2, 3, 4, 5, 6] rfl ?_
        simp only [if_neg c62] at kj61
        exact kj61
      · refine V_iconst (-1) 42 dX0_startingAt_41 rfl kiconst_m1 ?_
        refine V_goto 46 dX0_startingAt_42 (by decide) ?_
        refine V_ls [(6, .int v2), (0, .ref a0), (1, .int a1), (2, .int a2), (3, .int a3), (4, .int a4), (5, .int a5)] [0, 1, 2, 3, 4, 5, 6] rfl ?_
        simp only [if_pos c62] at kj61
        exact kj61
    · rw [if_neg c6] at hf
      refine V_iconst (-1) 34 dX0_startingAt_33 rfl kiconst_m1 ?_
      have er := Option.some.inj hf
      subst er
      exact V_iret hQ rfl dX0_startingAt_34
  · rw [if_pos c3] at hf
    refine V_iload 6 17 rfl dX0_startingAt_15 rfl ?_
    refine V_iconst 1 18 dX0_startingAt_17 rfl kiconst_1 ?_
    refine V_iadd 19 dX0_startingAt_18 rfl ?_
    refine V_goto 30 dX0_startingAt_19 (by decide) ?_
    refine V_icmp_le 35 33 dX0_startingAt_30 (by decide) rfl (fun c63 => ?_) (fun c63 => ?_)
    · rw [if_pos c63] at hf
      refine V_iload 5 37 rfl dX0_startingAt_35 rfl ?_
      refine V_iconst 1 38 dX0_startingAt_37 rfl kiconst_1 ?_
      have kj73 : V mi_X0_startingAt l G (d + 3) 0 0 X 0 0 46 [(6, .int v2), (0, .ref a0), (1, .int a1), (2, .int a2), (3, .int a3), (4, .int a4), (5, .int a5)] [.int (if a4 = 1 then (-1) else 1 : Int32)] σ := by
        refine V_istore [(7, .int (if a4 = 1 then (-1) else 1 : Int32)), (6, .int v2), (0, .ref a0), (1, .int a1), (2, .int a2), (3, .int a3), (4, .int a4), (5, .int a5)] 48 dX0_startingAt_46 (by decide) rfl rfl ?_
        refine V_iconst 0 49 dX0_startingAt_48 rfl kiconst_0 ?_
        refine V_istore [(8, .int 0), (7, .int (if a4 = 1 then (-1) else 1 : Int32)), (6, .int v2), (0, .ref a0), (1, .int a1), (2, .int a2), (3, .int a3), (4, .int a4), (5, .int a5)] 51 dX0_startingAt_49 (by decide) rfl rfl ?_
        refine V_iconst 0 52 dX0_startingAt_51 rfl kiconst_0 ?_
        refine V_istore [(9, .int 0), (8, .int 0), (7, .int (if a4 = 1 then (-1) else 1 : Int32)), (6, .int v2), (0, .ref a0), (1, .int a1), (2, .int a2), (3, .int a3), (4, .int a4), (5, .int a5)] 54 dX0_startingAt_52 (by decide) rfl rfl ?_
        refine V_iconst 1 55 dX0_startingAt_54 rfl kiconst_1 ?_
        refine V_istore [(10, .int 1), (9, .int 0), (8, .int 0), (7, .int (if a4 = 1 then (-1) else 1 : Int32)), (6, .int v2), (0, .ref a0), (1, .int a1), (2, .int a2), (3, .int a3), (4, .int a4), (5, .int a5)] 57 dX0_startingAt_55 (by decide) rfl rfl ?_
        obtain ⟨p64, h65, hf⟩ := ob hf
        refine V_ls [(10, .int 1), (9, .int 0), (8, .int 0), (7, .int (if a4 = 1 then (-1) else 1 : Int32)), (6, .int v2), (0, .ref a0), (1, .int a1), (2, .int a2), (3, .int a3), (4, .int a4), (5, .int a5)] [0, 1, 2, 3, 4, 5, 6, 7, 8, 9, 10] rfl ?_
        refine L57 (if a4 = 1 then (-1) else 1 : Int32) v2 a0 a1 a2 a3 a4 a5 3000 1 0 0 p64 h65 (fun v hv => ?_) (fun p66 hq => ?_)
        · subst hv
          cases hf
          rfl
        subst hq
        simp only [Sum.elim_inr] at hf
        refine V_iload 2 219 rfl dX0_startingAt_217 rfl ?_
        have kj71 : V mi_X0_startingAt l G (d + 3) 0 0 X 0 0 227 [(10, .int p66.1), (9, .int p66.2.1), (8, .int p66.2.2), (7, .int (if a4 = 1 then (-1) else 1 : Int32)), (6, .int v2), (0, .ref a0), (1, .int a1), (2, .int a2), (3, .int a3), (4, .int a4), (5, .int a5)] [.int (if 0 ≤ p66.2.2 then 0 else 1 : Int32)] σ := by
          refine V_istore [(10, .int (if 0 ≤ p66.2.2 then 0 else 1 : Int32)), (9, .int p66.2.1), (8, .int p66.2.2), (7, .int (if a4 = 1 then (-1) else 1 : Int32)), (6, .int v2), (0, .ref a0), (1, .int a1), (2, .int a2), (3, .int a3), (4, .int a4), (5, .int a5)] 229 dX0_startingAt_227 (by decide) rfl rfl ?_
          refine V_iload 9 231 rfl dX0_startingAt_229 rfl ?_
          refine V_iconst 2 232 dX0_startingAt_231 rfl kiconst_2 ?_
          refine V_imul 233 dX0_startingAt_232 rfl ?_
          refine V_iload 0 235 rfl dX0_startingAt_233 rfl ?_
          refine V_iadd 236 dX0_startingAt_235 rfl ?_
          refine V_bipush 6 238 dX0_startingAt_236 rfl kbipush_6 ?_
          refine V_imul 239 dX0_startingAt_238 rfl ?_
          refine V_iload 2 241 rfl dX0_startingAt_239 rfl ?_
          obtain ⟨v68, h67, hf⟩ := ob hf
          refine V_callS (rest := [.int (((a4 * 2) + (if 0 ≤ p66.2.2 then 0 else 1 : Int32)) * 6)]) 0 0 244 [.int v68, .int (((a4 * 2) + (if 0 ≤ p66.2.2 then 0 else 1 : Int32)) * 6)] (c_J9_abs_0f7a4 l G (d + 1) _ _ _ h67) (by omega) ok_J9_abs_0f7a4 oks_J9_abs_0f7a4 wd_ml_TwiceNoise_Bends_19 rfl rfl (Nat.le_of_ble_eq_true rfl) rfl rfl (Or.inl ⟨rfl, rfl⟩) dX0_startingAt_241 rfl rfl ?_
          refine V_iadd 245 dX0_startingAt_244 rfl ?_
          refine V_bipush 6 247 dX0_startingAt_245 rfl kbipush_6 ?_
          refine V_imul 248 dX0_startingAt_247 rfl ?_
          refine V_iload 1 250 rfl dX0_startingAt_248 rfl ?_
          refine V_iadd 251 dX0_startingAt_250 rfl ?_
          refine V_istore [(11, .int ((((((a4 * 2) + (if 0 ≤ p66.2.2 then 0 else 1 : Int32)) * 6) + v68) * 6) + p66.2.1)), (10, .int (if 0 ≤ p66.2.2 then 0 else 1 : Int32)), (9, .int p66.2.1), (8, .int p66.2.2), (7, .int (if a4 = 1 then (-1) else 1 : Int32)), (6, .int v2), (0, .ref a0), (1, .int a1), (2, .int a2), (3, .int a3), (4, .int a4), (5, .int a5)] 253 dX0_startingAt_251 (by decide) rfl rfl ?_
          refine V_iload 2 255 rfl dX0_startingAt_253 rfl ?_
          have kj69 : V mi_X0_startingAt l G (d + 3) 0 0 X 0 0 270 [(11, .int ((((((a4 * 2) + (if 0 ≤ p66.2.2 then 0 else 1 : Int32)) * 6) + v68) * 6) + p66.2.1)), (10, .int (if 0 ≤ p66.2.2 then 0 else 1 : Int32)), (9, .int p66.2.1), (8, .int p66.2.2), (7, .int (if a4 = 1 then (-1) else 1 : Int32)), (6, .int v2), (0, .ref a0), (1, .int a1), (2, .int a2), (3, .int a3), (4, .int a4), (5, .int a5)] [.int (if p66.2.1 = 0 then (-1) else ((((((((a4 * 2) + (if 0 ≤ p66.2.2 then 0 else 1 : Int32)) * 6) + v68) * 6) + p66.2.1) * 24) + a5) : Int32)] σ := by
            have er := Option.some.inj hf
            subst er
            exact V_iret hQ rfl dX0_startingAt_270
          refine V_if_ne 262 258 dX0_startingAt_255 (by decide) rfl (fun c70 => ?_) (fun c70 => ?_)
          · refine V_iload 0 264 rfl dX0_startingAt_262 rfl ?_
            refine V_bipush 24 266 dX0_startingAt_264 rfl kbipush_24 ?_
            refine V_imul 267 dX0_startingAt_266 rfl ?_
            refine V_iload 11 269 rfl dX0_startingAt_267 rfl ?_
            refine V_iadd 270 dX0_startingAt_269 rfl ?_
            refine V_ls [(11, .int ((((((a4 * 2) + (if 0 ≤ p66.2.2 then 0 else 1 : Int32)) * 6) + v68) * 6) + p66.2.1)), (10, .int (if 0 ≤ p66.2.2 then 0 else 1 : Int32)), (9, .int p66.2.1), (8, .int p66.2.2), (7, .int (if a4 = 1 then (-1) else 1 : Int32)), (6, .int v2), (0, .ref a0), (1, .int a1), (2, .int a2), (3, .int a3), (4, .int a4), (5, .int a5)] [0, 1, 2, 3, 4, 5, 6, 7, 8, 9, 10, 11] rfl ?_
            simp only [if_neg c70] at kj69
            exact kj69
          · refine V_iconst (-1) 259 dX0_startingAt_258 rfl kiconst_m1 ?_
            refine V_goto 270 dX0_startingAt_259 (by decide) ?_
            refine V_ls [(11, .int ((((((a4 * 2) + (if 0 ≤ p66.2.2 then 0 else 1 : Int32)) * 6) + v68) * 6) + p66.2.1)), (10, .int (if 0 ≤ p66.2.2 then 0 else 1 : Int32)), (9, .int p66.2.1), (8, .int p66.2.2), (7, .int (if a4 = 1 then (-1) else 1 : Int32)), (6, .int v2), (0, .ref a0), (1, .int a1), (2, .int a2), (3, .int a3), (4, .int a4), (5, .int a5)] [0, 1, 2, 3, 4, 5, 6, 7, 8, 9, 10, 11] rfl ?_
            simp only [if_pos c70] at kj69
            exact kj69
        refine V_if_ge 226 222 dX0_startingAt_219 (by decide) rfl (fun c72 => ?_) (fun c72 => ?_)
        · refine V_iconst 0 227 dX0_startingAt_226 rfl kiconst_0 ?_
          refine V_ls [(10, .int p66.1), (9, .int p66.2.1), (8, .int p66.2.2), (7, .int (if a4 = 1 then (-1) else 1 : Int32)), (6, .int v2), (0, .ref a0), (1, .int a1), (2, .int a2), (3, .int a3), (4, .int a4), (5, .int a5)] [0, 1, 2, 3, 4, 5, 6, 7, 8, 9, 10] rfl ?_
          simp only [if_pos c72] at kj71
          exact kj71
        · refine V_iconst 1 223 dX0_startingAt_222 rfl kiconst_1 ?_
          refine V_goto 227 dX0_startingAt_223 (by decide) ?_
          refine V_ls [(10, .int p66.1), (9, .int p66.2.1), (8, .int p66.2.2), (7, .int (if a4 = 1 then (-1) else 1 : Int32)), (6, .int v2), (0, .ref a0), (1, .int a1), (2, .int a2), (3, .int a3), (4, .int a4), (5, .int a5)] [0, 1, 2, 3, 4, 5, 6, 7, 8, 9, 10] rfl ?_
          simp only [if_neg c72] at kj71
          exact kj71
      refine V_icmp_ne 45 41 dX0_startingAt_38 (by decide) rfl (fun c74 => ?_) (fun c74 => ?_)
      · refine V_iconst 1 46 dX0_startingAt_45 rfl kiconst_1 ?_
        refine V_ls [(6, .int v2), (0, .ref a0), (1, .int a1), (2, .int a2), (3, .int a3), (4, .int a4), (5, .int a5)] [0, 1, 2, 3, 4, 5, 6] rfl ?_
        simp only [if_neg c74] at kj73
        exact kj73
      · refine V_iconst (-1) 42 dX0_startingAt_41 rfl kiconst_m1 ?_
        refine V_goto 46 dX0_startingAt_42 (by decide) ?_
        refine V_ls [(6, .int v2), (0, .ref a0), (1, .int a1), (2, .int a2), (3, .int a3), (4, .int a4), (5, .int a5)] [0, 1, 2, 3, 4, 5, 6] rfl ?_
        simp only [if_pos c74] at kj73
        exact kj73
    · rw [if_neg c63] at hf
      refine V_iconst (-1) 34 dX0_startingAt_33 rfl kiconst_m1 ?_
      have er := Option.some.inj hf
      subst er
      exact V_iret hQ rfl dX0_startingAt_34
abbrev mi_X0_howMany : MI := (yX0_howMany, cX0_howMany, 7, some .int)
theorem ok_X0_howMany : OkN mi_X0_howMany 4 := ⟨wd_cd_X0_howMany, wd_in_TwiceNoise_Bends, ⟨by decide +kernel, by decide +kernel, by decide +kernel⟩, by decide⟩
theorem oks_X0_howMany : Cond.static (mi_X0_howMany).1 ∈ tb := wd_sm_X0_howMany
def f_X0_howMany_L15 (σ : St) (x5 : Int32) (x0 : Nat) (x1 : Int32) (x2 : Int32) (x3 : Int32) : Nat → Int32 → Int32 → Option (Int32 × Int32)
  | 0, _, _ => none
  | n + 1, x6, x4 => (f_X4_size σ x0 x1).bind fun v3 => if v3 ≤ x6 then (some (x6, x4)) else ((f_X0_startingAt σ x0 x1 x2 x3 x5 x6).bind fun v6 => f_X0_howMany_L15 σ x5 x0 x1 x2 x3 n (x6 + 1) (x4 + (if v6 < 0 then 0 else 1 : Int32)))
def f_X0_howMany_L6 (σ : St) (x0 : Nat) (x1 : Int32) (x2 : Int32) (x3 : Int32) : Nat → Int32 → Int32 → Option (Int32 × Int32)
  | 0, _, _ => none
  | n + 1, x5, x4 => if 2 ≤ x5 then (some (x5, x4)) else ((f_X0_howMany_L15 σ x5 x0 x1 x2 x3 3000 0 x4).bind fun p9 => f_X0_howMany_L6 σ x0 x1 x2 x3 n (x5 + 1) p9.2)
def f_X0_howMany (σ : St) (a0 : Nat) (a1 : Int32) (a2 : Int32) (a3 : Int32) : Option Int32 := (f_X0_howMany_L6 σ a0 a1 a2 a3 3000 0 0).bind fun p11 => some p11.2
set_option maxRecDepth 100000 in
set_option maxHeartbeats 4000000 in
theorem c_X0_howMany (l : Launch) (G : Gd) (d : Nat) (σ : St) (a0 : Nat) (a1 : Int32) (a2 : Int32) (a3 : Int32) (r0 : Int32) (hf : f_X0_howMany σ a0 a1 a2 a3 = some r0) : MetV l G (d + 4) mi_X0_howMany [.ref a0, .int a1, .int a2, .int a3] σ (some (.int r0)) σ 0 0 := by
  unfold f_X0_howMany at hf
  refine MetV.of [(0, .ref a0), (1, .int a1), (2, .int a2), (3, .int a3)] (by decide +kernel) rfl (Nat.le_of_ble_eq_true rfl) ?_
  intro X hQ
  have L15 : ∀ (x5 : Int32) (x0 : Nat) (x1 : Int32) (x2 : Int32) (x3 : Int32) (n : Nat) (x6 : Int32) (x4 : Int32) (p : Int32 × Int32), f_X0_howMany_L15 σ x5 x0 x1 x2 x3 n x6 x4 = some p → V mi_X0_howMany l G (d + 4) 0 0 X 0 0 55 [(6, .int p.1), (5, .int x5), (4, .int p.2), (0, .ref x0), (1, .int x1), (2, .int x2), (3, .int x3)] [] σ → V mi_X0_howMany l G (d + 4) 0 0 X 0 0 15 [(6, .int x6), (5, .int x5), (4, .int x4), (0, .ref x0), (1, .int x1), (2, .int x2), (3, .int x3)] [] σ := by
    intro x5 x0 x1 x2 x3 n
    induction n with
    | zero =>
      intro x6 x4 p hf
      exact absurd (show (none : Option _) = some p from hf) (by simp)
    | succ n ih =>
      intro x6 x4 p hf hk
      rw [f_X0_howMany_L15] at hf
      refine V_iload 0 17 rfl dX0_howMany_15 rfl ?_
      refine V_aload_n 3 18 rfl dX0_howMany_17 rfl rfl ?_
      refine V_iload_n 4 19 rfl dX0_howMany_18 rfl rfl ?_
      obtain ⟨v3, h2, hf⟩ := ob hf
      refine V_callV (rest := [.int x6]) (T := TX4) (n := 11) (ci := 3) 0 0 22 [.int v3, .int x6] (c_X4_size l G (d + 1) _ _ _ _ h2) (by omega) ok_X4_size okv_X4_size (gd_X4_size h2) rfl wd_ml_TwiceNoise_Bends_9 rfl rfl (Nat.le_of_ble_eq_true rfl) rfl rfl (Or.inl ⟨rfl, rfl⟩) dX0_howMany_19 rfl rfl ?_
      refine V_icmp_ge 55 25 dX0_howMany_22 (by decide) rfl (fun c4 => ?_) (fun c4 => ?_)
      · rw [if_pos c4] at hf
        have ep := Option.some.inj hf
        subst ep
        refine V_ls [(6, .int x6), (5, .int x5), (4, .int x4), (0, .ref x0), (1, .int x1), (2, .int x2), (3, .int x3)] [0, 1, 2, 3, 4, 5, 6] rfl ?_
        exact hk
      · rw [if_neg c4] at hf
        refine V_iload 2 27 rfl dX0_howMany_25 rfl ?_
        refine V_aload_n 3 28 rfl dX0_howMany_27 rfl rfl ?_
        refine V_iload_n 4 29 rfl dX0_howMany_28 rfl rfl ?_
        refine V_iload_n 5 30 rfl dX0_howMany_29 rfl rfl ?_
        refine V_iload_n 6 31 rfl dX0_howMany_30 rfl rfl ?_
        refine V_iload 1 33 rfl dX0_howMany_31 rfl ?_
        refine V_iload 0 35 rfl dX0_howMany_33 rfl ?_
        obtain ⟨v6, h5, hf⟩ := ob hf
        refine V_callS (rest := [.int x4]) 0 0 38 [.int v6, .int x4] (c_X0_startingAt l G (d + 0) _ _ _ _ _ _ _ _ h5) (by omega) ok_X0_startingAt oks_X0_startingAt wd_ml_TwiceNoise_Bends_32 rfl rfl (Nat.le_of_ble_eq_true rfl) rfl rfl (Or.inl ⟨rfl, rfl⟩) dX0_howMany_35 rfl rfl ?_
        have kj7 : V mi_X0_howMany l G (d + 4) 0 0 X 0 0 46 [(6, .int x6), (5, .int x5), (4, .int x4), (0, .ref x0), (1, .int x1), (2, .int x2), (3, .int x3)] [.int (if v6 < 0 then 0 else 1 : Int32), .int x4] σ := by
          refine V_iadd 47 dX0_howMany_46 rfl ?_
          refine V_istore [(4, .int (x4 + (if v6 < 0 then 0 else 1 : Int32))), (6, .int x6), (5, .int x5), (0, .ref x0), (1, .int x1), (2, .int x2), (3, .int x3)] 49 dX0_howMany_47 (by decide) rfl rfl ?_
          refine V_iinc (x6 + 1) 1 [(6, .int (x6 + 1)), (4, .int (x4 + (if v6 < 0 then 0 else 1 : Int32))), (5, .int x5), (0, .ref x0), (1, .int x1), (2, .int x2), (3, .int x3)] 52 dX0_howMany_49 rfl (by rw [kiconst_1]) (by decide) rfl rfl ?_
          refine V_goto 15 dX0_howMany_52 (by decide) ?_
          refine V_ls [(6, .int (x6 + 1)), (5, .int x5), (4, .int (x4 + (if v6 < 0 then 0 else 1 : Int32))), (0, .ref x0), (1, .int x1), (2, .int x2), (3, .int x3)] [0, 2, 1, 3, 4, 5, 6] rfl ?_
          exact ih _ _ _ hf hk
        refine V_if_lt 45 41 dX0_howMany_38 (by decide) rfl (fun c8 => ?_) (fun c8 => ?_)
        · refine V_iconst 0 46 dX0_howMany_45 rfl kiconst_0 ?_
          refine V_ls [(6, .int x6), (5, .int x5), (4, .int x4), (0, .ref x0), (1, .int x1), (2, .int x2), (3, .int x3)] [0, 1, 2, 3, 4, 5, 6] rfl ?_
          simp only [if_pos c8] at kj7
          exact kj7
        · refine V_iconst 1 42 dX0_howMany_41 rfl kiconst_1 ?_
          refine V_goto 46 dX0_howMany_42 (by decide) ?_
          refine V_ls [(6, .int x6), (5, .int x5), (4, .int x4), (0, .ref x0), (1, .int x1), (2, .int x2), (3, .int x3)] [0, 1, 2, 3, 4, 5, 6] rfl ?_
          simp only [if_neg c8] at kj7
          exact kj7
  have L6 : ∀ (x0 : Nat) (x1 : Int32) (x2 : Int32) (x3 : Int32) (n : Nat) (x5 : Int32) (x4 : Int32) (p : Int32 × Int32), f_X0_howMany_L6 σ x0 x1 x2 x3 n x5 x4 = some p → V mi_X0_howMany l G (d + 4) 0 0 X 0 0 61 [(5, .int p.1), (4, .int p.2), (0, .ref x0), (1, .int x1), (2, .int x2), (3, .int x3)] [] σ → V mi_X0_howMany l G (d + 4) 0 0 X 0 0 6 [(5, .int x5), (4, .int x4), (0, .ref x0), (1, .int x1), (2, .int x2), (3, .int x3)] [] σ := by
    intro x0 x1 x2 x3 n
    induction n with
    | zero =>
      intro x5 x4 p hf
      exact absurd (show (none : Option _) = some p from hf) (by simp)
    | succ n ih =>
      intro x5 x4 p hf hk
      rw [f_X0_howMany_L6] at hf
      refine V_iload 0 8 rfl dX0_howMany_6 rfl ?_
      refine V_iconst 2 9 dX0_howMany_8 rfl kiconst_2 ?_
      refine V_icmp_ge 61 12 dX0_howMany_9 (by decide) rfl (fun c1 => ?_) (fun c1 => ?_)
      · rw [if_pos c1] at hf
        have ep := Option.some.inj hf
        subst ep
        refine V_ls [(5, .int x5), (4, .int x4), (0, .ref x0), (1, .int x1), (2, .int x2), (3, .int x3)] [0, 1, 2, 3, 4, 5] rfl ?_
        exact hk
      · rw [if_neg c1] at hf
        refine V_iconst 0 13 dX0_howMany_12 rfl kiconst_0 ?_
        refine V_istore [(6, .int 0), (5, .int x5), (4, .int x4), (0, .ref x0), (1, .int x1), (2, .int x2), (3, .int x3)] 15 dX0_howMany_13 (by decide) rfl rfl ?_
        obtain ⟨p9, h10, hf⟩ := ob hf
        refine V_ls [(6, .int 0), (5, .int x5), (4, .int x4), (0, .ref x0), (1, .int x1), (2, .int x2), (3, .int x3)] [0, 1, 2, 3, 4, 5, 6] rfl ?_
        refine L15 x5 x0 x1 x2 x3 3000 0 x4 p9 h10 ?_
        refine V_iinc (x5 + 1) 1 [(5, .int (x5 + 1)), (6, .int p9.1), (4, .int p9.2), (0, .ref x0), (1, .int x1), (2, .int x2), (3, .int x3)] 58 dX0_howMany_55 rfl (by rw [kiconst_1]) (by decide) rfl rfl ?_
        refine V_goto 6 dX0_howMany_58 (by decide) ?_
        refine V_ls [(5, .int (x5 + 1)), (4, .int p9.2), (0, .ref x0), (1, .int x1), (2, .int x2), (3, .int x3)] [0, 2, 3, 4, 5, 6] rfl ?_
        exact ih _ _ _ hf hk
  refine V_iconst 0 1 dX0_howMany_0 rfl kiconst_0 ?_
  refine V_istore [(4, .int 0), (0, .ref a0), (1, .int a1), (2, .int a2), (3, .int a3)] 3 dX0_howMany_1 (by decide) rfl rfl ?_
  refine V_iconst 0 4 dX0_howMany_3 rfl kiconst_0 ?_
  refine V_istore [(5, .int 0), (4, .int 0), (0, .ref a0), (1, .int a1), (2, .int a2), (3, .int a3)] 6 dX0_howMany_4 (by decide) rfl rfl ?_
  obtain ⟨p11, h12, hf⟩ := ob hf
  refine V_ls [(5, .int 0), (4, .int 0), (0, .ref a0), (1, .int a1), (2, .int a2), (3, .int a3)] [0, 1, 2, 3, 4, 5] rfl ?_
  refine L6 a0 a1 a2 a3 3000 0 0 p11 h12 ?_
  refine V_iload 1 63 rfl dX0_howMany_61 rfl ?_
  have er := Option.some.inj hf
  subst er
  exact V_iret hQ rfl dX0_howMany_63
abbrev mi_X0_first : MI := (yX0_first, cX0_first, 8, some .int)
theorem ok_X0_first : OkN mi_X0_first 4 := ⟨wd_cd_X0_first, wd_in_TwiceNoise_Bends, ⟨by decide +kernel, by decide +kernel, by decide +kernel⟩, by decide⟩
theorem oks_X0_first : Cond.static (mi_X0_first).1 ∈ tb := wd_sm_X0_first
def f_X0_first_L15 (σ : St) (x5 : Int32) (x0 : Nat) (x1 : Int32) (x2 : Int32) (x3 : Int32) : Nat → Int32 → Int32 → Option (Int32 × Int32)
  | 0, _, _ => none
  | n + 1, x6, x4 => (f_X4_size σ x0 x1).bind fun v3 => if v3 ≤ x6 then (some (x6, x4)) else ((f_X0_startingAt σ x0 x1 x2 x3 x5 x6).bind fun v6 => f_X0_first_L15 σ x5 x0 x1 x2 x3 n (x6 + 1) (if v6 < 0 then x4 else (if x4 < 0 then v6 else (if x4 ≤ v6 then x4 else v6)) : Int32))
def f_X0_first_L6 (σ : St) (x0 : Nat) (x1 : Int32) (x2 : Int32) (x3 : Int32) : Nat → Int32 → Int32 → Option (Int32 × Int32)
  | 0, _, _ => none
  | n + 1, x5, x4 => if 2 ≤ x5 then (some (x5, x4)) else ((f_X0_first_L15 σ x5 x0 x1 x2 x3 3000 0 x4).bind fun p11 => f_X0_first_L6 σ x0 x1 x2 x3 n (x5 + 1) p11.2)
def f_X0_first (σ : St) (a0 : Nat) (a1 : Int32) (a2 : Int32) (a3 : Int32) : Option Int32 := (f_X0_first_L6 σ a0 a1 a2 a3 3000 0 (-1)).bind fun p13 => some p13.2
set_option maxRecDepth 100000 in
set_option maxHeartbeats 4000000 in
theorem c_X0_first (l : Launch) (G : Gd) (d : Nat) (σ : St) (a0 : Nat) (a1 : Int32) (a2 : Int32) (a3 : Int32) (r0 : Int32) (hf : f_X0_first σ a0 a1 a2 a3 = some r0) : MetV l G (d + 4) mi_X0_first [.ref a0, .int a1, .int a2, .int a3] σ (some (.int r0)) σ 0 0 := by
  unfold f_X0_first at hf
  refine MetV.of [(0, .ref a0), (1, .int a1), (2, .int a2), (3, .int a3)] (by decide +kernel) rfl (Nat.le_of_ble_eq_true rfl) ?_
  intro X hQ
  have L15 : ∀ (x5 : Int32) (x0 : Nat) (x1 : Int32) (x2 : Int32) (x3 : Int32) (n : Nat) (x6 : Int32) (x4 : Int32) (p : Int32 × Int32), f_X0_first_L15 σ x5 x0 x1 x2 x3 n x6 x4 = some p → V mi_X0_first l G (d + 4) 0 0 X 0 0 65 [(6, .int p.1), (5, .int x5), (4, .int p.2), (0, .ref x0), (1, .int x1), (2, .int x2), (3, .int x3)] [] σ → V mi_X0_first l G (d + 4) 0 0 X 0 0 15 [(6, .int x6), (5, .int x5), (4, .int x4), (0, .ref x0), (1, .int x1), (2, .int x2), (3, .int x3)] [] σ := by
    intro x5 x0 x1 x2 x3 n
    induction n with
    | zero =>
      intro x6 x4 p hf
      exact absurd (show (none : Option _) = some p from hf) (by simp)
    | succ n ih =>
      intro x6 x4 p hf hk
      rw [f_X0_first_L15] at hf
      refine V_iload 0 17 rfl dX0_first_15 rfl ?_
      refine V_aload_n 3 18 rfl dX0_first_17 rfl rfl ?_
      refine V_iload_n 4 19 rfl dX0_first_18 rfl rfl ?_
      obtain ⟨v3, h2, hf⟩ := ob hf
      refine V_callV (rest := [.int x6]) (T := TX4) (n := 11) (ci := 3) 0 0 22 [.int v3, .int x6] (c_X4_size l G (d + 1) _ _ _ _ h2) (by omega) ok_X4_size okv_X4_size (gd_X4_size h2) rfl wd_ml_TwiceNoise_Bends_9 rfl rfl (Nat.le_of_ble_eq_true rfl) rfl rfl (Or.inl ⟨rfl, rfl⟩) dX0_first_19 rfl rfl ?_
      refine V_icmp_ge 65 25 dX0_first_22 (by decide) rfl (fun c4 => ?_) (fun c4 => ?_)
      · rw [if_pos c4] at hf
        have ep := Option.some.inj hf
        subst ep
        refine V_ls [(6, .int x6), (5, .int x5), (4, .int x4), (0, .ref x0), (1, .int x1), (2, .int x2), (3, .int x3)] [0, 1, 2, 3, 4, 5, 6] rfl ?_
        exact hk
      · rw [if_neg c4] at hf
        refine V_aload_n 3 26 rfl dX0_first_25 rfl rfl ?_
        refine V_iload_n 4 27 rfl dX0_first_26 rfl rfl ?_
        refine V_iload_n 5 28 rfl dX0_first_27 rfl rfl ?_
        refine V_iload_n 6 29 rfl dX0_first_28 rfl rfl ?_
        refine V_iload 1 31 rfl dX0_first_29 rfl ?_
        refine V_iload 0 33 rfl dX0_first_31 rfl ?_
        obtain ⟨v6, h5, hf⟩ := ob hf
        refine V_callS (rest := []) 0 0 36 [.int v6] (c_X0_startingAt l G (d + 0) _ _ _ _ _ _ _ _ h5) (by omega) ok_X0_startingAt oks_X0_startingAt wd_ml_TwiceNoise_Bends_32 rfl rfl (Nat.le_of_ble_eq_true rfl) rfl rfl (Or.inl ⟨rfl, rfl⟩) dX0_first_33 rfl rfl ?_
        refine V_istore [(7, .int v6), (6, .int x6), (5, .int x5), (4, .int x4), (0, .ref x0), (1, .int x1), (2, .int x2), (3, .int x3)] 38 dX0_first_36 (by decide) rfl rfl ?_
        refine V_iload 0 40 rfl dX0_first_38 rfl ?_
        have kj7 : V mi_X0_first l G (d + 4) 0 0 X 0 0 59 [(7, .int v6), (6, .int x6), (5, .int x5), (4, .int (if v6 < 0 then x4 else (if x4 < 0 then v6 else (if x4 ≤ v6 then x4 else v6)) : Int32)), (0, .ref x0), (1, .int x1), (2, .int x2), (3, .int x3)] [] σ := by
          refine V_iinc (x6 + 1) 1 [(6, .int (x6 + 1)), (7, .int v6), (5, .int x5), (4, .int (if v6 < 0 then x4 else (if x4 < 0 then v6 else (if x4 ≤ v6 then x4 else v6)) : Int32)), (0, .ref x0), (1, .int x1), (2, .int x2), (3, .int x3)] 62 dX0_first_59 rfl (by rw [kiconst_1]) (by decide) rfl rfl ?_
          refine V_goto 15 dX0_first_62 (by decide) ?_
          refine V_ls [(6, .int (x6 + 1)), (5, .int x5), (4, .int (if v6 < 0 then x4 else (if x4 < 0 then v6 else (if x4 ≤ v6 then x4 else v6)) : Int32)), (0, .ref x0), (1, .int x1), (2, .int x2), (3, .int x3)] [0, 2, 3, 4, 5, 6, 7] rfl ?_
          exact ih _ _ _ hf hk
        refine V_if_lt 59 43 dX0_first_40 (by decide) rfl (fun c8 => ?_) (fun c8 => ?_)
        · refine V_ls [(7, .int v6), (6, .int x6), (5, .int x5), (4, .int x4), (0, .ref x0), (1, .int x1), (2, .int x2), (3, .int x3)] [0, 1, 2, 3, 4, 5, 6, 7] rfl ?_
          simp only [if_pos c8] at kj7
          exact kj7
        · refine V_iload 3 45 rfl dX0_first_43 rfl ?_
          refine V_if_lt 55 48 dX0_first_45 (by decide) rfl (fun c9 => ?_) (fun c9 => ?_)
          · refine V_iload 0 57 rfl dX0_first_55 rfl ?_
            refine V_istore [(4, .int v6), (7, .int v6), (6, .int x6), (5, .int x5), (0, .ref x0), (1, .int x1), (2, .int x2), (3, .int x3)] 59 dX0_first_57 (by decide) rfl rfl ?_
            refine V_ls [(7, .int v6), (6, .int x6), (5, .int x5), (4, .int v6), (0, .ref x0), (1, .int x1), (2, .int x2), (3, .int x3)] [1, 2, 3, 0, 4, 5, 6, 7] rfl ?_
            simp only [if_neg c8, if_pos c9] at kj7
            exact kj7
          · refine V_iload 0 50 rfl dX0_first_48 rfl ?_
            refine V_iload 3 52 rfl dX0_first_50 rfl ?_
            refine V_icmp_ge 59 55 dX0_first_52 (by decide) rfl (fun c10 => ?_) (fun c10 => ?_)
            · refine V_ls [(7, .int v6), (6, .int x6), (5, .int x5), (4, .int x4), (0, .ref x0), (1, .int x1), (2, .int x2), (3, .int x3)] [0, 1, 2, 3, 4, 5, 6, 7] rfl ?_
              simp only [if_neg c8, if_neg c9, if_pos c10] at kj7
              exact kj7
            · refine V_iload 0 57 rfl dX0_first_55 rfl ?_
              refine V_istore [(4, .int v6), (7, .int v6), (6, .int x6), (5, .int x5), (0, .ref x0), (1, .int x1), (2, .int x2), (3, .int x3)] 59 dX0_first_57 (by decide) rfl rfl ?_
              refine V_ls [(7, .int v6), (6, .int x6), (5, .int x5), (4, .int v6), (0, .ref x0), (1, .int x1), (2, .int x2), (3, .int x3)] [1, 2, 3, 0, 4, 5, 6, 7] rfl ?_
              simp only [if_neg c8, if_neg c9, if_neg c10] at kj7
              exact kj7
  have L6 : ∀ (x0 : Nat) (x1 : Int32) (x2 : Int32) (x3 : Int32) (n : Nat) (x5 : Int32) (x4 : Int32) (p : Int32 × Int32), f_X0_first_L6 σ x0 x1 x2 x3 n x5 x4 = some p → V mi_X0_first l G (d + 4) 0 0 X 0 0 71 [(5, .int p.1), (4, .int p.2), (0, .ref x0), (1, .int x1), (2, .int x2), (3, .int x3)] [] σ → V mi_X0_first l G (d + 4) 0 0 X 0 0 6 [(5, .int x5), (4, .int x4), (0, .ref x0), (1, .int x1), (2, .int x2), (3, .int x3)] [] σ := by
    intro x0 x1 x2 x3 n
    induction n with
    | zero =>
      intro x5 x4 p hf
      exact absurd (show (none : Option _) = some p from hf) (by simp)
    | succ n ih =>
      intro x5 x4 p hf hk
      rw [f_X0_first_L6] at hf
      refine V_iload 0 8 rfl dX0_first_6 rfl ?_
      refine V_iconst 2 9 dX0_first_8 rfl kiconst_2 ?_
      refine V_icmp_ge 71 12 dX0_first_9 (by decide) rfl (fun c1 => ?_) (fun c1 => ?_)
      · rw [if_pos c1] at hf
        have ep := Option.some.inj hf
        subst ep
        refine V_ls [(5, .int x5), (4, .int x4), (0, .ref x0), (1, .int x1), (2, .int x2), (3, .int x3)] [0, 1, 2, 3, 4, 5] rfl ?_
        exact hk
      · rw [if_neg c1] at hf
        refine V_iconst 0 13 dX0_first_12 rfl kiconst_0 ?_
        refine V_istore [(6, .int 0), (5, .int x5), (4, .int x4), (0, .ref x0), (1, .int x1), (2, .int x2), (3, .int x3)] 15 dX0_first_13 (by decide) rfl rfl ?_
        obtain ⟨p11, h12, hf⟩ := ob hf
        refine V_ls [(6, .int 0), (5, .int x5), (4, .int x4), (0, .ref x0), (1, .int x1), (2, .int x2), (3, .int x3)] [0, 1, 2, 3, 4, 5, 6] rfl ?_
        refine L15 x5 x0 x1 x2 x3 3000 0 x4 p11 h12 ?_
        refine V_iinc (x5 + 1) 1 [(5, .int (x5 + 1)), (6, .int p11.1), (4, .int p11.2), (0, .ref x0), (1, .int x1), (2, .int x2), (3, .int x3)] 68 dX0_first_65 rfl (by rw [kiconst_1]) (by decide) rfl rfl ?_
        refine V_goto 6 dX0_first_68 (by decide) ?_
        refine V_ls [(5, .int (x5 + 1)), (4, .int p11.2), (0, .ref x0), (1, .int x1), (2, .int x2), (3, .int x3)] [0, 2, 3, 4, 5, 6] rfl ?_
        exact ih _ _ _ hf hk
  refine V_iconst (-1) 1 dX0_first_0 rfl kiconst_m1 ?_
  refine V_istore [(4, .int (-1)), (0, .ref a0), (1, .int a1), (2, .int a2), (3, .int a3)] 3 dX0_first_1 (by decide) rfl rfl ?_
  refine V_iconst 0 4 dX0_first_3 rfl kiconst_0 ?_
  refine V_istore [(5, .int 0), (4, .int (-1)), (0, .ref a0), (1, .int a1), (2, .int a2), (3, .int a3)] 6 dX0_first_4 (by decide) rfl rfl ?_
  obtain ⟨p13, h14, hf⟩ := ob hf
  refine V_ls [(5, .int 0), (4, .int (-1)), (0, .ref a0), (1, .int a1), (2, .int a2), (3, .int a3)] [0, 1, 2, 3, 4, 5] rfl ?_
  refine L6 a0 a1 a2 a3 3000 0 (-1) p13 h14 ?_
  refine V_iload 1 73 rfl dX0_first_71 rfl ?_
  have er := Option.some.inj hf
  subst er
  exact V_iret hQ rfl dX0_first_73
abbrev mi_X0_part : MI := (yX0_part, cX0_part, 5, some .int)
theorem ok_X0_part : OkN mi_X0_part 2 := ⟨wd_cd_X0_part, wd_in_TwiceNoise_Bends, ⟨by decide +kernel, by decide +kernel, by decide +kernel⟩, by decide⟩
theorem oks_X0_part : Cond.static (mi_X0_part).1 ∈ tb := wd_sm_X0_part
def f_X0_part (σ : St) (a0 : Int32) (a1 : Int32) : Option Int32 := if a1 = 1 then (some ((((a0 / 24) / 6) / 6) / 2)) else (if a1 = 2 then (some (irm (((a0 / 24) / 6) / 6) 2)) else (if a1 = 3 then (some (irm ((a0 / 24) / 6) 6)) else (if a1 = 4 then (some (irm (a0 / 24) 6)) else (some (irm a0 24)))))
set_option maxRecDepth 100000 in
set_option maxHeartbeats 4000000 in
theorem c_X0_part (l : Launch) (G : Gd) (d : Nat) (σ : St) (a0 : Int32) (a1 : Int32) (r0 : Int32) (hf : f_X0_part σ a0 a1 = some r0) : MetV l G (d + 1) mi_X0_part [.int a0, .int a1] σ (some (.int r0)) σ 0 0 := by
  unfold f_X0_part at hf
  refine MetV.of [(0, .int a0), (1, .int a1)] (by decide +kernel) rfl (Nat.le_of_ble_eq_true rfl) ?_
  intro X hQ
  refine V_iload_n 0 1 rfl dX0_part_0 rfl rfl ?_
  refine V_bipush 24 3 dX0_part_1 rfl kbipush_24 ?_
  refine V_idiv 4 dX0_part_3 rfl (by decide) ?_
  refine V_istore_n [(2, .int (a0 / 24)), (0, .int a0), (1, .int a1)] 5 dX0_part_4 rfl (by decide) rfl rfl ?_
  refine V_iload_n 0 6 rfl dX0_part_5 rfl rfl ?_
  refine V_bipush 6 8 dX0_part_6 rfl kbipush_6 ?_
  refine V_idiv 9 dX0_part_8 rfl (by decide) ?_
  refine V_istore_n [(3, .int ((a0 / 24) / 6)), (2, .int (a0 / 24)), (0, .int a0), (1, .int a1)] 10 dX0_part_9 rfl (by decide) rfl rfl ?_
  refine V_iload_n 0 11 rfl dX0_part_10 rfl rfl ?_
  refine V_bipush 6 13 dX0_part_11 rfl kbipush_6 ?_
  refine V_idiv 14 dX0_part_13 rfl (by decide) ?_
  refine V_istore [(4, .int (((a0 / 24) / 6) / 6)), (3, .int ((a0 / 24) / 6)), (2, .int (a0 / 24)), (0, .int a0), (1, .int a1)] 16 dX0_part_14 (by decide) rfl rfl ?_
  refine V_iload_n 4 17 rfl dX0_part_16 rfl rfl ?_
  by_cases c1 : a1 = 1
  · rw [if_pos c1] at hf
    refine V_tsw 1 31 48 dX0_part_17 c1 (by decide) (by decide) (by decide) (by decide) ?_
    refine V_iload 0 50 rfl dX0_part_48 rfl ?_
    refine V_iconst 2 51 dX0_part_50 rfl kiconst_2 ?_
    refine V_idiv 52 dX0_part_51 rfl (by decide) ?_
    have er := Option.some.inj hf
    subst er
    exact V_iret hQ rfl dX0_part_52
  rw [if_neg c1] at hf
  by_cases c2 : a1 = 2
  · rw [if_pos c2] at hf
    refine V_tsw 2 36 53 dX0_part_17 c2 (by decide) (by decide) (by decide) (by decide) ?_
    refine V_iload 0 55 rfl dX0_part_53 rfl ?_
    refine V_iconst 2 56 dX0_part_55 rfl kiconst_2 ?_
    refine V_irem 57 dX0_part_56 rfl (by decide) ?_
    have er := Option.some.inj hf
    subst er
    exact V_iret hQ rfl dX0_part_57
  rw [if_neg c2] at hf
  by_cases c3 : a1 = 3
  · rw [if_pos c3] at hf
    refine V_tsw 3 41 58 dX0_part_17 c3 (by decide) (by decide) (by decide) (by decide) ?_
    refine V_iload_n 1 59 rfl dX0_part_58 rfl rfl ?_
    refine V_bipush 6 61 dX0_part_59 rfl kbipush_6 ?_
    refine V_irem 62 dX0_part_61 rfl (by decide) ?_
    have er := Option.some.inj hf
    subst er
    exact V_iret hQ rfl dX0_part_62
  rw [if_neg c3] at hf
  by_cases c4 : a1 = 4
  · rw [if_pos c4] at hf
    refine V_tsw 4 46 63 dX0_part_17 c4 (by decide) (by decide) (by decide) (by decide) ?_
    refine V_iload_n 2 64 rfl dX0_part_63 rfl rfl ?_
    refine V_bipush 6 66 dX0_part_64 rfl kbipush_6 ?_
    refine V_irem 67 dX0_part_66 rfl (by decide) ?_
    have er := Option.some.inj hf
    subst er
    exact V_iret hQ rfl dX0_part_67
  rw [if_neg c4] at hf
  refine V_tswD [1, 2, 3, 4] 68 dX0_part_17 (fun q hq => by simp only [List.mem_cons, List.not_mem_nil, or_false] at hq; rcases hq with rfl | rfl | rfl | rfl <;> assumption) (by decide) (by decide) (by decide) ?_
  refine V_iload_n 3 69 rfl dX0_part_68 rfl rfl ?_
  refine V_bipush 24 71 dX0_part_69 rfl kbipush_24 ?_
  refine V_irem 72 dX0_part_71 rfl (by decide) ?_
  have er := Option.some.inj hf
  subst er
  exact V_iret hQ rfl dX0_part_72
abbrev mi_X0_origins : MI := (yX0_origins, cX0_origins, 6, some .int)
theorem ok_X0_origins : OkN mi_X0_origins 3 := ⟨wd_cd_X0_origins, wd_in_TwiceNoise_Bends, ⟨by decide +kernel, by decide +kernel, by decide +kernel⟩, by decide⟩
theorem oks_X0_origins : Cond.static (mi_X0_origins).1 ∈ tb := wd_sm_X0_origins
def f_X0_origins_L5 (σ : St) (x0 : Nat) (x1 : Int32) (x2 : Int32) : Nat → Int32 → Int32 → Option (Int32 × Int32)
  | 0, _, _ => none
  | n + 1, x4, x3 => (gQ σ 3 x0 2).bind fun q2 => (gI σ 4 q2 3).bind fun v4 => if v4 ≤ x4 then (some (x4, x3)) else ((f_X4_dayOf σ x0 x4).bind fun v7 => (f_X4_dayOf σ x0 x1).bind fun v9 => if v7 < v9 then ((f_X4_namesOf σ x0 x4).bind fun v12 => (f_X4_namesOf σ x0 x1).bind fun v14 => if (v12 &&& v14) = 0 then (f_X0_origins_L5 σ x0 x1 x2 n (x4 + 1) x3) else ((f_X0_first σ x0 x4 x1 x2).bind fun v17 => f_X0_origins_L5 σ x0 x1 x2 n (x4 + 1) (if v17 < 0 then x3 else (x3 ||| ((1 : Int32) <<< (x4 &&& 31))) : Int32))) else ((f_X4_dayOf σ x0 x4).bind fun v21 => (f_X4_dayOf σ x0 x1).bind fun v23 => if (if v21 = v23 then (if x1 ≤ x4 then 0 else 1) else 0 : Int32) = 0 then (f_X0_origins_L5 σ x0 x1 x2 n (x4 + 1) x3) else ((f_X4_namesOf σ x0 x4).bind fun v26 => (f_X4_namesOf σ x0 x1).bind fun v28 => if (v26 &&& v28) = 0 then (f_X0_origins_L5 σ x0 x1 x2 n (x4 + 1) x3) else ((f_X0_first σ x0 x4 x1 x2).bind fun v31 => f_X0_origins_L5 σ x0 x1 x2 n (x4 + 1) (if v31 < 0 then x3 else (x3 ||| ((1 : Int32) <<< (x4 &&& 31))) : Int32)))))
def f_X0_origins (σ : St) (a0 : Nat) (a1 : Int32) (a2 : Int32) : Option Int32 := (f_X0_origins_L5 σ a0 a1 a2 3000 0 0).bind fun p37 => some p37.2
set_option maxRecDepth 100000 in
set_option maxHeartbeats 4000000 in
theorem c_X0_origins (l : Launch) (G : Gd) (d : Nat) (σ : St) (a0 : Nat) (a1 : Int32) (a2 : Int32) (r0 : Int32) (hf : f_X0_origins σ a0 a1 a2 = some r0) : MetV l G (d + 5) mi_X0_origins [.ref a0, .int a1, .int a2] σ (some (.int r0)) σ 0 0 := by
  unfold f_X0_origins at hf
  refine MetV.of [(0, .ref a0), (1, .int a1), (2, .int a2)] (by decide +kernel) rfl (Nat.le_of_ble_eq_true rfl) ?_
  intro X hQ
  have L5 : ∀ (x0 : Nat) (x1 : Int32) (x2 : Int32) (n : Nat) (x4 : Int32) (x3 : Int32) (p : Int32 × Int32), f_X0_origins_L5 σ x0 x1 x2 n x4 x3 = some p → V mi_X0_origins l G (d + 5) 0 0 X 0 0 102 [(4, .int p.1), (3, .int p.2), (0, .ref x0), (1, .int x1), (2, .int x2)] [] σ → V mi_X0_origins l G (d + 5) 0 0 X 0 0 5 [(4, .int x4), (3, .int x3), (0, .ref x0), (1, .int x1), (2, .int x2)] [] σ := by
    intro x0 x1 x2 n
    induction n with
    | zero =>
      intro x4 x3 p hf
      exact absurd (show (none : Option _) = some p from hf) (by simp)
    | succ n ih =>
      intro x4 x3 p hf hk
      rw [f_X0_origins_L5] at hf
      refine V_iload 0 7 rfl dX0_origins_5 rfl ?_
      refine V_aload_n 2 8 rfl dX0_origins_7 rfl rfl ?_
      obtain ⟨q2, h1, hf⟩ := ob hf
      refine V_getQ (n := 11) (ty := tyX4) 11 h1 cf_3 rfl wd_fl_TwiceNoise_Bends_36 dX0_origins_8 rfl ?_
      obtain ⟨v4, h3, hf⟩ := ob hf
      refine V_getI (n := 4) (ty := tyX5) 14 h3 cf_4 rfl wd_fl_TwiceNoise_Bends_40 dX0_origins_11 rfl ?_
      refine V_icmp_ge 102 17 dX0_origins_14 (by decide) rfl (fun c5 => ?_) (fun c5 => ?_)
      · rw [if_pos c5] at hf
        have ep := Option.some.inj hf
        subst ep
        refine V_ls [(4, .int x4), (3, .int x3), (0, .ref x0), (1, .int x1), (2, .int x2)] [0, 1, 2, 3, 4] rfl ?_
        exact hk
      · rw [if_neg c5] at hf
        refine V_aload_n 2 18 rfl dX0_origins_17 rfl rfl ?_
        refine V_iload 0 20 rfl dX0_origins_18 rfl ?_
        obtain ⟨v7, h6, hf⟩ := ob hf
        refine V_callV (rest := []) (T := TX4) (n := 11) (ci := 3) 0 0 23 [.int v7] (c_X4_dayOf l G (d + 2) _ _ _ _ h6) (by omega) ok_X4_dayOf okv_X4_dayOf (gd_X4_dayOf h6) rfl wd_ml_TwiceNoise_Bends_46 rfl rfl (Nat.le_of_ble_eq_true rfl) rfl rfl (Or.inl ⟨rfl, rfl⟩) dX0_origins_20 rfl rfl ?_
        refine V_aload_n 2 24 rfl dX0_origins_23 rfl rfl ?_
        refine V_iload_n 3 25 rfl dX0_origins_24 rfl rfl ?_
        obtain ⟨v9, h8, hf⟩ := ob hf
        refine V_callV (rest := [.int v7]) (T := TX4) (n := 11) (ci := 3) 0 0 28 [.int v9, .int v7] (c_X4_dayOf l G (d + 2) _ _ _ _ h8) (by omega) ok_X4_dayOf okv_X4_dayOf (gd_X4_dayOf h8) rfl wd_ml_TwiceNoise_Bends_46 rfl rfl (Nat.le_of_ble_eq_true rfl) rfl rfl (Or.inl ⟨rfl, rfl⟩) dX0_origins_25 rfl rfl ?_
        refine V_icmp_lt 51 31 dX0_origins_28 (by decide) rfl (fun c10 => ?_) (fun c10 => ?_)
        · rw [if_pos c10] at hf
          refine V_iconst 1 52 dX0_origins_51 rfl kiconst_1 ?_
          refine V_goto 56 dX0_origins_52 (by decide) ?_
          refine V_istore [(5, .int 1), (4, .int x4), (3, .int x3), (0, .ref x0), (1, .int x1), (2, .int x2)] 58 dX0_origins_56 (by decide) rfl rfl ?_
          refine V_iload 0 60 rfl dX0_origins_58 rfl ?_
          refine V_if_eq 96 63 dX0_origins_60 (by decide) rfl (fun hc => absurd hc (by decide)) (fun _ => ?_)
          refine V_aload_n 3 64 rfl dX0_origins_63 rfl rfl ?_
          refine V_iload 1 66 rfl dX0_origins_64 rfl ?_
          obtain ⟨v12, h11, hf⟩ := ob hf
          refine V_callV (rest := []) (T := TX4) (n := 11) (ci := 3) 0 0 69 [.int v12] (c_X4_namesOf l G (d + 2) _ _ _ _ h11) (by omega) ok_X4_namesOf okv_X4_namesOf (gd_X4_namesOf h11) rfl wd_ml_TwiceNoise_Bends_49 rfl rfl (Nat.le_of_ble_eq_true rfl) rfl rfl (Or.inl ⟨rfl, rfl⟩) dX0_origins_66 rfl rfl ?_
          refine V_aload_n 3 70 rfl dX0_origins_69 rfl rfl ?_
          refine V_iload_n 4 71 rfl dX0_origins_70 rfl rfl ?_
          obtain ⟨v14, h13, hf⟩ := ob hf
          refine V_callV (rest := [.int v12]) (T := TX4) (n := 11) (ci := 3) 0 0 74 [.int v14, .int v12] (c_X4_namesOf l G (d + 2) _ _ _ _ h13) (by omega) ok_X4_namesOf okv_X4_namesOf (gd_X4_namesOf h13) rfl wd_ml_TwiceNoise_Bends_49 rfl rfl (Nat.le_of_ble_eq_true rfl) rfl rfl (Or.inl ⟨rfl, rfl⟩) dX0_origins_71 rfl rfl ?_
          refine V_iand 75 dX0_origins_74 rfl ?_
          refine V_if_eq 96 78 dX0_origins_75 (by decide) rfl (fun c15 => ?_) (fun c15 => ?_)
          · rw [if_pos c15] at hf
            refine V_iinc (x4 + 1) 1 [(4, .int (x4 + 1)), (5, .int 1), (3, .int x3), (0, .ref x0), (1, .int x1), (2, .int x2)] 99 dX0_origins_96 rfl (by rw [kiconst_1]) (by decide) rfl rfl ?_
            refine V_goto 5 dX0_origins_99 (by decide) ?_
            refine V_ls [(4, .int (x4 + 1)), (3, .int x3), (0, .ref x0), (1, .int x1), (2, .int x2)] [0, 2, 3, 4, 5] rfl ?_
            exact ih _ _ _ hf hk
          · rw [if_neg c15] at hf
            refine V_aload_n 3 79 rfl dX0_origins_78 rfl rfl ?_
            refine V_iload 1 81 rfl dX0_origins_79 rfl ?_
            refine V_iload_n 4 82 rfl dX0_origins_81 rfl rfl ?_
            refine V_iload_n 5 83 rfl dX0_origins_82 rfl rfl ?_
            obtain ⟨v17, h16, hf⟩ := ob hf
            refine V_callS (rest := []) 0 0 86 [.int v17] (c_X0_first l G (d + 0) _ _ _ _ _ _ h16) (by omega) ok_X0_first oks_X0_first wd_ml_TwiceNoise_Bends_52 rfl rfl (Nat.le_of_ble_eq_true rfl) rfl rfl (Or.inl ⟨rfl, rfl⟩) dX0_origins_83 rfl rfl ?_
            have kj18 : V mi_X0_origins l G (d + 5) 0 0 X 0 0 96 [(5, .int 1), (4, .int x4), (3, .int (if v17 < 0 then x3 else (x3 ||| ((1 : Int32) <<< (x4 &&& 31))) : Int32)), (0, .ref x0), (1, .int x1), (2, .int x2)] [] σ := by
              refine V_iinc (x4 + 1) 1 [(4, .int (x4 + 1)), (5, .int 1), (3, .int (if v17 < 0 then x3 else (x3 ||| ((1 : Int32) <<< (x4 &&& 31))) : Int32)), (0, .ref x0), (1, .int x1), (2, .int x2)] 99 dX0_origins_96 rfl (by rw [kiconst_1]) (by decide) rfl rfl ?_
              refine V_goto 5 dX0_origins_99 (by decide) ?_
              refine V_ls [(4, .int (x4 + 1)), (3, .int (if v17 < 0 then x3 else (x3 ||| ((1 : Int32) <<< (x4 &&& 31))) : Int32)), (0, .ref x0), (1, .int x1), (2, .int x2)] [0, 2, 3, 4, 5] rfl ?_
              exact ih _ _ _ hf hk
            refine V_if_lt 96 89 dX0_origins_86 (by decide) rfl (fun c19 => ?_) (fun c19 => ?_)
            · refine V_ls [(5, .int 1), (4, .int x4), (3, .int x3), (0, .ref x0), (1, .int x1), (2, .int x2)] [0, 1, 2, 3, 4, 5] rfl ?_
              simp only [if_pos c19] at kj18
              exact kj18
            · refine V_iload_n 2 90 rfl dX0_origins_89 rfl rfl ?_
              refine V_iconst 1 91 dX0_origins_90 rfl kiconst_1 ?_
              refine V_iload 1 93 rfl dX0_origins_91 rfl ?_
              refine V_ishl 94 dX0_origins_93 rfl ?_
              refine V_ior 95 dX0_origins_94 rfl ?_
              refine V_istore_n [(3, .int (x3 ||| ((1 : Int32) <<< (x4 &&& 31)))), (5, .int 1), (4, .int x4), (0, .ref x0), (1, .int x1), (2, .int x2)] 96 dX0_origins_95 rfl (by decide) rfl rfl ?_
              refine V_ls [(5, .int 1), (4, .int x4), (3, .int (x3 ||| ((1 : Int32) <<< (x4 &&& 31)))), (0, .ref x0), (1, .int x1), (2, .int x2)] [1, 2, 0, 3, 4, 5] rfl ?_
              simp only [if_neg c19] at kj18
              exact kj18
        · rw [if_neg c10] at hf
          refine V_aload_n 2 32 rfl dX0_origins_31 rfl rfl ?_
          refine V_iload 0 34 rfl dX0_origins_32 rfl ?_
          obtain ⟨v21, h20, hf⟩ := ob hf
          refine V_callV (rest := []) (T := TX4) (n := 11) (ci := 3) 0 0 37 [.int v21] (c_X4_dayOf l G (d + 2) _ _ _ _ h20) (by omega) ok_X4_dayOf okv_X4_dayOf (gd_X4_dayOf h20) rfl wd_ml_TwiceNoise_Bends_46 rfl rfl (Nat.le_of_ble_eq_true rfl) rfl rfl (Or.inl ⟨rfl, rfl⟩) dX0_origins_34 rfl rfl ?_
          refine V_aload_n 2 38 rfl dX0_origins_37 rfl rfl ?_
          refine V_iload_n 3 39 rfl dX0_origins_38 rfl rfl ?_
          obtain ⟨v23, h22, hf⟩ := ob hf
          refine V_callV (rest := [.int v21]) (T := TX4) (n := 11) (ci := 3) 0 0 42 [.int v23, .int v21] (c_X4_dayOf l G (d + 2) _ _ _ _ h22) (by omega) ok_X4_dayOf okv_X4_dayOf (gd_X4_dayOf h22) rfl wd_ml_TwiceNoise_Bends_46 rfl rfl (Nat.le_of_ble_eq_true rfl) rfl rfl (Or.inl ⟨rfl, rfl⟩) dX0_origins_39 rfl rfl ?_
          have kj34 : V mi_X0_origins l G (d + 5) 0 0 X 0 0 56 [(4, .int x4), (3, .int x3), (0, .ref x0), (1, .int x1), (2, .int x2)] [.int (if v21 = v23 then (if x1 ≤ x4 then 0 else 1) else 0 : Int32)] σ := by
            refine V_istore [(5, .int (if v21 = v23 then (if x1 ≤ x4 then 0 else 1) else 0 : Int32)), (4, .int x4), (3, .int x3), (0, .ref x0), (1, .int x1), (2, .int x2)] 58 dX0_origins_56 (by decide) rfl rfl ?_
            refine V_iload 0 60 rfl dX0_origins_58 rfl ?_
            refine V_if_eq 96 63 dX0_origins_60 (by decide) rfl (fun c24 => ?_) (fun c24 => ?_)
            · rw [if_pos c24] at hf
              refine V_iinc (x4 + 1) 1 [(4, .int (x4 + 1)), (5, .int (if v21 = v23 then (if x1 ≤ x4 then 0 else 1) else 0 : Int32)), (3, .int x3), (0, .ref x0), (1, .int x1), (2, .int x2)] 99 dX0_origins_96 rfl (by rw [kiconst_1]) (by decide) rfl rfl ?_
              refine V_goto 5 dX0_origins_99 (by decide) ?_
              refine V_ls [(4, .int (x4 + 1)), (3, .int x3), (0, .ref x0), (1, .int x1), (2, .int x2)] [0, 2, 3, 4, 5] rfl ?_
              exact ih _ _ _ hf hk
            · rw [if_neg c24] at hf
              refine V_aload_n 3 64 rfl dX0_origins_63 rfl rfl ?_
              refine V_iload 1 66 rfl dX0_origins_64 rfl ?_
              obtain ⟨v26, h25, hf⟩ := ob hf
              refine V_callV (rest := []) (T := TX4) (n := 11) (ci := 3) 0 0 69 [.int v26] (c_X4_namesOf l G (d + 2) _ _ _ _ h25) (by omega) ok_X4_namesOf okv_X4_namesOf (gd_X4_namesOf h25) rfl wd_ml_TwiceNoise_Bends_49 rfl rfl (Nat.le_of_ble_eq_true rfl) rfl rfl (Or.inl ⟨rfl, rfl⟩) dX0_origins_66 rfl rfl ?_
              refine V_aload_n 3 70 rfl dX0_origins_69 rfl rfl ?_
              refine V_iload_n 4 71 rfl dX0_origins_70 rfl rfl ?_
              obtain ⟨v28, h27, hf⟩ := ob hf
              refine V_callV (rest := [.int v26]) (T := TX4) (n := 11) (ci := 3) 0 0 74 [.int v28, .int v26] (c_X4_namesOf l G (d + 2) _ _ _ _ h27) (by omega) ok_X4_namesOf okv_X4_namesOf (gd_X4_namesOf h27) rfl wd_ml_TwiceNoise_Bends_49 rfl rfl (Nat.le_of_ble_eq_true rfl) rfl rfl (Or.inl ⟨rfl, rfl⟩) dX0_origins_71 rfl rfl ?_
              refine V_iand 75 dX0_origins_74 rfl ?_
              refine V_if_eq 96 78 dX0_origins_75 (by decide) rfl (fun c29 => ?_) (fun c29 => ?_)
              · rw [if_pos c29] at hf
                refine V_iinc (x4 + 1) 1 [(4, .int (x4 + 1)), (5, .int (if v21 = v23 then (if x1 ≤ x4 then 0 else 1) else 0 : Int32)), (3, .int x3), (0, .ref x0), (1, .int x1), (2, .int x2)] 99 dX0_origins_96 rfl (by rw [kiconst_1]) (by decide) rfl rfl ?_
                refine V_goto 5 dX0_origins_99 (by decide) ?_
                refine V_ls [(4, .int (x4 + 1)), (3, .int x3), (0, .ref x0), (1, .int x1), (2, .int x2)] [0, 2, 3, 4, 5] rfl ?_
                exact ih _ _ _ hf hk
              · rw [if_neg c29] at hf
                refine V_aload_n 3 79 rfl dX0_origins_78 rfl rfl ?_
                refine V_iload 1 81 rfl dX0_origins_79 rfl ?_
                refine V_iload_n 4 82 rfl dX0_origins_81 rfl rfl ?_
                refine V_iload_n 5 83 rfl dX0_origins_82 rfl rfl ?_
                obtain ⟨v31, h30, hf⟩ := ob hf
                refine V_callS (rest := []) 0 0 86 [.int v31] (c_X0_first l G (d + 0) _ _ _ _ _ _ h30) (by omega) ok_X0_first oks_X0_first wd_ml_TwiceNoise_Bends_52 rfl rfl (Nat.le_of_ble_eq_true rfl) rfl rfl (Or.inl ⟨rfl, rfl⟩) dX0_origins_83 rfl rfl ?_
                have kj32 : V mi_X0_origins l G (d + 5) 0 0 X 0 0 96 [(5, .int (if v21 = v23 then (if x1 ≤ x4 then 0 else 1) else 0 : Int32)), (4, .int x4), (3, .int (if v31 < 0 then x3 else (x3 ||| ((1 : Int32) <<< (x4 &&& 31))) : Int32)), (0, .ref x0), (1, .int x1), (2, .int x2)] [] σ := by
                  refine V_iinc (x4 + 1) 1 [(4, .int (x4 + 1)), (5, .int (if v21 = v23 then (if x1 ≤ x4 then 0 else 1) else 0 : Int32)), (3, .int (if v31 < 0 then x3 else (x3 ||| ((1 : Int32) <<< (x4 &&& 31))) : Int32)), (0, .ref x0), (1, .int x1), (2, .int x2)] 99 dX0_origins_96 rfl (by rw [kiconst_1]) (by decide) rfl rfl ?_
                  refine V_goto 5 dX0_origins_99 (by decide) ?_
                  refine V_ls [(4, .int (x4 + 1)), (3, .int (if v31 < 0 then x3 else (x3 ||| ((1 : Int32) <<< (x4 &&& 31))) : Int32)), (0, .ref x0), (1, .int x1), (2, .int x2)] [0, 2, 3, 4, 5] rfl ?_
                  exact ih _ _ _ hf hk
                refine V_if_lt 96 89 dX0_origins_86 (by decide) rfl (fun c33 => ?_) (fun c33 => ?_)
                · refine V_ls [(5, .int (if v21 = v23 then (if x1 ≤ x4 then 0 else 1) else 0 : Int32)), (4, .int x4), (3, .int x3), (0, .ref x0), (1, .int x1), (2, .int x2)] [0, 1, 2, 3, 4, 5] rfl ?_
                  simp only [if_pos c33] at kj32
                  exact kj32
                · refine V_iload_n 2 90 rfl dX0_origins_89 rfl rfl ?_
                  refine V_iconst 1 91 dX0_origins_90 rfl kiconst_1 ?_
                  refine V_iload 1 93 rfl dX0_origins_91 rfl ?_
                  refine V_ishl 94 dX0_origins_93 rfl ?_
                  refine V_ior 95 dX0_origins_94 rfl ?_
                  refine V_istore_n [(3, .int (x3 ||| ((1 : Int32) <<< (x4 &&& 31)))), (5, .int (if v21 = v23 then (if x1 ≤ x4 then 0 else 1) else 0 : Int32)), (4, .int x4), (0, .ref x0), (1, .int x1), (2, .int x2)] 96 dX0_origins_95 rfl (by decide) rfl rfl ?_
                  refine V_ls [(5, .int (if v21 = v23 then (if x1 ≤ x4 then 0 else 1) else 0 : Int32)), (4, .int x4), (3, .int (x3 ||| ((1 : Int32) <<< (x4 &&& 31)))), (0, .ref x0), (1, .int x1), (2, .int x2)] [1, 2, 0, 3, 4, 5] rfl ?_
                  simp only [if_neg c33] at kj32
                  exact kj32
          refine V_icmp_ne 55 45 dX0_origins_42 (by decide) rfl (fun c35 => ?_) (fun c35 => ?_)
          · refine V_iconst 0 56 dX0_origins_55 rfl kiconst_0 ?_
            refine V_ls [(4, .int x4), (3, .int x3), (0, .ref x0), (1, .int x1), (2, .int x2)] [0, 1, 2, 3, 4] rfl ?_
            simp only [if_neg c35] at kj34
            exact kj34
          · refine V_iload 0 47 rfl dX0_origins_45 rfl ?_
            refine V_iload_n 3 48 rfl dX0_origins_47 rfl rfl ?_
            refine V_icmp_ge 55 51 dX0_origins_48 (by decide) rfl (fun c36 => ?_) (fun c36 => ?_)
            · refine V_iconst 0 56 dX0_origins_55 rfl kiconst_0 ?_
              refine V_ls [(4, .int x4), (3, .int x3), (0, .ref x0), (1, .int x1), (2, .int x2)] [0, 1, 2, 3, 4] rfl ?_
              simp only [if_pos c35, if_pos c36] at kj34
              exact kj34
            · refine V_iconst 1 52 dX0_origins_51 rfl kiconst_1 ?_
              refine V_goto 56 dX0_origins_52 (by decide) ?_
              refine V_ls [(4, .int x4), (3, .int x3), (0, .ref x0), (1, .int x1), (2, .int x2)] [0, 1, 2, 3, 4] rfl ?_
              simp only [if_pos c35, if_neg c36] at kj34
              exact kj34
  refine V_iconst 0 1 dX0_origins_0 rfl kiconst_0 ?_
  refine V_istore_n [(3, .int 0), (0, .ref a0), (1, .int a1), (2, .int a2)] 2 dX0_origins_1 rfl (by decide) rfl rfl ?_
  refine V_iconst 0 3 dX0_origins_2 rfl kiconst_0 ?_
  refine V_istore [(4, .int 0), (3, .int 0), (0, .ref a0), (1, .int a1), (2, .int a2)] 5 dX0_origins_3 (by decide) rfl rfl ?_
  obtain ⟨p37, h38, hf⟩ := ob hf
  refine V_ls [(4, .int 0), (3, .int 0), (0, .ref a0), (1, .int a1), (2, .int a2)] [0, 1, 2, 3, 4] rfl ?_
  refine L5 a0 a1 a2 3000 0 0 p37 h38 ?_
  refine V_iload_n 1 103 rfl dX0_origins_102 rfl rfl ?_
  have er := Option.some.inj hf
  subst er
  exact V_iret hQ rfl dX0_origins_103
abbrev mi_X6_ofCurve : MI := (yX6_ofCurve, cX6_ofCurve, 4, some .int)
abbrev mi_X6_ofKindUnder : MI := (yX6_ofKindUnder, cX6_ofKindUnder, 5, some .int)
abbrev mi_X6_voiceFrom : MI := (yX6_voiceFrom, cX6_voiceFrom, 7, some .int)
theorem ok_X6_ofCurve : OkN mi_X6_ofCurve 3 := ⟨wd_cd_X6_ofCurve, wd_in_X6, ⟨by decide +kernel, by decide +kernel, by decide +kernel⟩, by decide⟩
theorem okv_X6_ofCurve : Cond.instanceMethod (mi_X6_ofCurve).1 ∈ tb ∧ Cond.selects (mi_X6_ofCurve).1.cls (mi_X6_ofCurve).1 (mi_X6_ofCurve).1 ∈ tb := ⟨wd_im_X6_ofCurve, wd_se_X6_ofCurve⟩
theorem ok_X6_ofKindUnder : OkN mi_X6_ofKindUnder 4 := ⟨wd_cd_X6_ofKindUnder, wd_in_X6, ⟨by decide +kernel, by decide +kernel, by decide +kernel⟩, by decide⟩
theorem okv_X6_ofKindUnder : Cond.instanceMethod (mi_X6_ofKindUnder).1 ∈ tb ∧ Cond.selects (mi_X6_ofKindUnder).1.cls (mi_X6_ofKindUnder).1 (mi_X6_ofKindUnder).1 ∈ tb := ⟨wd_im_X6_ofKindUnder, wd_se_X6_ofKindUnder⟩
theorem ok_X6_voiceFrom : OkN mi_X6_voiceFrom 4 := ⟨wd_cd_X6_voiceFrom, wd_in_X6, ⟨by decide +kernel, by decide +kernel, by decide +kernel⟩, by decide⟩
theorem okv_X6_voiceFrom : Cond.instanceMethod (mi_X6_voiceFrom).1 ∈ tb ∧ Cond.selects (mi_X6_voiceFrom).1.cls (mi_X6_voiceFrom).1 (mi_X6_voiceFrom).1 ∈ tb := ⟨wd_im_X6_voiceFrom, wd_se_X6_voiceFrom⟩
def f_X6_ofCurve (rc : Nat → List Int32 → St → Option (Int32 × St)) (σ : St) (t : Nat) (a0 : Int32) (a1 : Int32) (a2 : Int32) : Option (Int32 × St) := if isO σ 5 t = true then (if a0 = 0 then ((gI σ 5 t 5).bind fun v3 => some (a1 + v3, σ)) else (if a0 = 1 then ((gI σ 5 t 3).bind fun v6 => (rc 2 [v6, 0, a1, a2] σ).bind fun p8 => some (p8.1 * 2, p8.2)) else (if a0 = 2 then ((gI σ 5 t 3).bind fun v11 => (rc 2 [v11, 1, a1, a2] σ).bind fun p13 => (gI p13.2 5 t 4).bind fun v15 => some (p13.1 - v15, p13.2)) else ((gI σ 5 t 5).bind fun v17 => (gI σ 5 t 4).bind fun v19 => (pZ σ 5 t 2 (if v17 = v19 then 1 else 0 : Int32)).bind fun s21 => (gI s21 5 t 2).bind fun v23 => if v23 = 0 then ((gI s21 5 t 5).bind fun v26 => (gI s21 5 t 4).bind fun v28 => (ne0 (v26 - v28)).bind fun z29 => some (a1 / (v26 - v28), s21)) else (some (0, s21)))))) else none
def f_X6_ofKindUnder (rc : Nat → List Int32 → St → Option (Int32 × St)) (σ : St) (t : Nat) (a0 : Int32) (a1 : Int32) (a2 : Int32) (a3 : Int32) : Option (Int32 × St) := if isO σ 5 t = true then (if a0 = 20 then ((rc 2 [a1, 1, a2, a3] σ).bind fun p3 => some (p3.1 + 3, p3.2)) else (if a0 = 21 then ((rc 2 [a1, 2, a2, a3] σ).bind fun p6 => (gI p6.2 5 t 5).bind fun v8 => some (p6.1 ^^^ v8, p6.2)) else (if a0 = 30 then ((rc 2 [a1, 0, a2, a3] σ).bind fun p11 => some (p11.1 / 2, p11.2)) else (if a0 = 31 then ((rc 2 [a1, 1, a2 - 1, a3] σ).bind fun p14 => some (p14.1, p14.2)) else (if a0 = 40 then ((rc 2 [a1, 0, a2, a3] σ).bind fun p17 => some ((0 : Int32) - p17.1, p17.2)) else (if a0 = 41 then ((rc 2 [a1, 3, a2, a3] σ).bind fun p20 => (gI p20.2 5 t 3).bind fun v22 => (rc 2 [v22, 2, 1, a3] p20.2).bind fun p24 => some (p20.1 + p24.1, p24.2)) else (if a0 = 50 then ((rc 2 [a1, 2, a2, a3] σ).bind fun p27 => some (p27.1 * 3, p27.2)) else (if a0 = 60 then ((gI σ 5 t 4).bind fun v30 => (rc 2 [a1, 0, a2 + v30, a3] σ).bind fun p32 => some (p32.1, p32.2)) else (if a0 = 61 then ((rc 2 [a1, 2, a2, a3] σ).bind fun p35 => (gI p35.2 5 t 3).bind fun v37 => (rc 2 [v37, 0, 2, a3] p35.2).bind fun p39 => some (p35.1 - p39.1, p39.2)) else (if a0 = 70 then ((rc 2 [a1, 2, a2, a3] σ).bind fun p42 => (gI p42.2 5 t 3).bind fun v44 => (gI p42.2 5 t 4).bind fun v46 => (rc 2 [v44, 1, v46, a3] p42.2).bind fun p48 => some (p42.1 + p48.1, p48.2)) else (if a0 = 80 then ((gI σ 5 t 3).bind fun v51 => (rc 2 [v51, 2, a2, a3] σ).bind fun p53 => (rc 2 [a1, 3, a2, a3] p53.2).bind fun p55 => some (p53.1 - p55.1, p55.2)) else (some (0, σ))))))))))))) else none
def f_X6_voiceFrom_L6 (rc : Nat → List Int32 → St → Option (Int32 × St)) (x2 : Int32) : Nat → Int32 → Int32 → Option (Int32 × Int32)
  | 0, _, _ => none
  | n + 1, x6, x5 => if (nI 8) ≤ x6 then (some (x6, x5)) else (if x5 ≤ 0 then (some (x6, x5)) else (if (nI 8) ≤ x5 then (some (x6, x5)) else ((oI 3 32 ((x5 * 4) + x2)).bind fun v5 => if v5 = 0 then ((oI 2 8 x5).bind fun v8 => f_X6_voiceFrom_L6 rc x2 n (x6 + 1) v8) else (some (x6, x5)))))
def f_X6_voiceFrom (rc : Nat → List Int32 → St → Option (Int32 × St)) (σ : St) (t : Nat) (a0 : Int32) (a1 : Int32) (a2 : Int32) (a3 : Int32) : Option (Int32 × St) := if isO σ 5 t = true then ((f_X6_voiceFrom_L6 rc a1 3000 0 a0).bind fun p9 => (gI σ 5 t 2).bind fun v12 => if v12 = 0 then (if 40 < a3 then (some (0, σ)) else (if p9.2 < 0 then (some (0, σ)) else (if p9.2 < (nI 8) then ((oI 3 32 ((p9.2 * 4) + a1)).bind fun v18 => (gI σ 5 t 1).bind fun v20 => if 30 ≤ v20 then (if p9.2 = 0 then ((rc 0 [a1, a2, a3 + 1] σ).bind fun p28 => some (p28.1, p28.2)) else ((oI 2 8 p9.2).bind fun v24 => (rc 1 [v18, v24, a2, a3 + 1] σ).bind fun p26 => some (p26.1, p26.2))) else ((gQ σ 5 t 0).bind fun q30 => (gI σ 5 t 1).bind fun v32 => (sI σ q30 v32 v18).bind fun s34 => (gI s34 5 t 1).bind fun v36 => (pI s34 5 t 1 (v36 + 1)).bind fun s38 => if p9.2 = 0 then ((rc 0 [a1, a2, a3 + 1] s38).bind fun p45 => some (p45.1, p45.2)) else ((oI 2 8 p9.2).bind fun v41 => (rc 1 [v18, v41, a2, a3 + 1] s38).bind fun p43 => some (p43.1, p43.2)))) else (some (0, σ))))) else (some (0, σ))) else none
theorem gd_f_X6_ofCurve {rc : Nat → List Int32 → St → Option (Int32 × St)} {σ : St} {t : Nat} {a0 : Int32} {a1 : Int32} {a2 : Int32} {r : Int32 × St} (h : f_X6_ofCurve rc σ t a0 a1 a2 = some r) : isO σ 5 t = true := by
  unfold f_X6_ofCurve at h
  by_cases hg : isO σ 5 t = true
  · exact hg
  · rw [if_neg hg] at h
    cases h
theorem gd_f_X6_ofKindUnder {rc : Nat → List Int32 → St → Option (Int32 × St)} {σ : St} {t : Nat} {a0 : Int32} {a1 : Int32} {a2 : Int32} {a3 : Int32} {r : Int32 × St} (h : f_X6_ofKindUnder rc σ t a0 a1 a2 a3 = some r) : isO σ 5 t = true := by
  unfold f_X6_ofKindUnder at h
  by_cases hg : isO σ 5 t = true
  · exact hg
  · rw [if_neg hg] at h
    cases h
theorem gd_f_X6_voiceFrom {rc : Nat → List Int32 → St → Option (Int32 × St)} {σ : St} {t : Nat} {a0 : Int32} {a1 : Int32} {a2 : Int32} {a3 : Int32} {r : Int32 × St} (h : f_X6_voiceFrom rc σ t a0 a1 a2 a3 = some r) : isO σ 5 t = true := by
  unfold f_X6_voiceFrom at h
  by_cases hg : isO σ 5 t = true
  · exact hg
  · rw [if_neg hg] at h
    cases h
def ds_X6_ofCurve (rc : Nat → List Int32 → St → Option (Int32 × St)) (t : Nat) (j : Nat) (as : List Int32) (σ : St) : Option (Int32 × St) := match j, as with
  | 0, [a0, a1, a2] => f_X6_ofCurve rc σ t a0 a1 a2
  | 1, [a0, a1, a2, a3] => f_X6_ofKindUnder rc σ t a0 a1 a2 a3
  | 2, [a0, a1, a2, a3] => f_X6_voiceFrom rc σ t a0 a1 a2 a3
  | _, _ => none
def rc_X6_ofCurve (t : Nat) : Nat → Nat → List Int32 → St → Option (Int32 × St)
  | 0, _, _, _ => none
  | n + 1, j, as, σ => ds_X6_ofCurve (rc_X6_ofCurve t n) t j as σ
def CT_X6_ofCurve (l : Launch) (G : Gd) (dr : Nat) (t : Nat) (j : Nat) (as : List Int32) (σ : St) (p : Int32 × St) : Prop := isO σ 5 t = true ∧ (j = 0 → ∀ a0 a1 a2 : Int32, as = [a0, a1, a2] → MetV l G dr mi_X6_ofCurve [.ref t, .int a0, .int a1, .int a2] σ (some (.int p.1)) p.2 0 0) ∧ (j = 1 → ∀ a0 a1 a2 a3 : Int32, as = [a0, a1, a2, a3] → MetV l G dr mi_X6_ofKindUnder [.ref t, .int a0, .int a1, .int a2, .int a3] σ (some (.int p.1)) p.2 0 0) ∧ (j = 2 → ∀ a0 a1 a2 a3 : Int32, as = [a0, a1, a2, a3] → MetV l G dr mi_X6_voiceFrom [.ref t, .int a0, .int a1, .int a2, .int a3] σ (some (.int p.1)) p.2 0 0)
set_option maxRecDepth 100000 in
set_option maxHeartbeats 4000000 in
theorem cb_X6_ofCurve (l : Launch) (G : Gd) (dr : Nat) (rc : Nat → List Int32 → St → Option (Int32 × St)) (t : Nat) (ihr : ∀ j as σ p, rc j as σ = some p → CT_X6_ofCurve l G dr t j as σ p) (σ : St) (a0 : Int32) (a1 : Int32) (a2 : Int32) (r0 : Int32) (σ' : St) (hf : f_X6_ofCurve rc σ t a0 a1 a2 = some (r0, σ')) : MetV l G (dr + 1) mi_X6_ofCurve [.ref t, .int a0, .int a1, .int a2] σ (some (.int r0)) σ' 0 0 := by
  unfold f_X6_ofCurve at hf
  refine MetV.of [(0, .ref t), (1, .int a0), (2, .int a1), (3, .int a2)] (by decide +kernel) rfl (Nat.le_of_ble_eq_true rfl) ?_
  intro X hQ
  by_cases hg : isO σ 5 t = true
  · rw [if_pos hg] at hf
    refine V_iload_n 1 1 rfl dX6_ofCurve_0 rfl rfl ?_
    by_cases c1 : a0 = 0
    · rw [if_pos c1] at hf
      refine V_tsw 0 27 28 dX6_ofCurve_1 c1 (by decide) (by decide) (by decide) (by decide) ?_
      refine V_iload_n 2 29 rfl dX6_ofCurve_28 rfl rfl ?_
      refine V_aload_n 0 30 rfl dX6_ofCurve_29 rfl rfl ?_
      obtain ⟨v3, h2, hf⟩ := ob hf
      refine V_getI (n := 6) (ty := tyX6) 33 h2 cf_5 rfl wd_fl_X6_27 dX6_ofCurve_30 rfl ?_
      refine V_iadd 34 dX6_ofCurve_33 rfl ?_
      have er := Option.some.inj hf
      obtain ⟨e1, e2⟩ := Prod.mk.inj er
      subst e1
      subst e2
      exact V_iret hQ rfl dX6_ofCurve_34
    rw [if_neg c1] at hf
    by_cases c4 : a0 = 1
    · rw [if_pos c4] at hf
      refine V_tsw 1 34 35 dX6_ofCurve_1 c4 (by decide) (by decide) (by decide) (by decide) ?_
      refine V_aload_n 0 36 rfl dX6_ofCurve_35 rfl rfl ?_
      refine V_aload_n 0 37 rfl dX6_ofCurve_36 rfl rfl ?_
      obtain ⟨v6, h5, hf⟩ := ob hf
      refine V_getI (n := 6) (ty := tyX6) 40 h5 cf_5 rfl wd_fl_X6_21 dX6_ofCurve_37 rfl ?_
      refine V_iconst 0 41 dX6_ofCurve_40 rfl kiconst_0 ?_
      refine V_iload_n 2 42 rfl dX6_ofCurve_41 rfl rfl ?_
      refine V_iload_n 3 43 rfl dX6_ofCurve_42 rfl rfl ?_
      obtain ⟨p8, h7, hf⟩ := ob hf
      refine V_callV (rest := []) (T := TX6) (n := 6) (ci := 5) 0 0 46 [.int p8.1] ((ihr 2 [v6, 0, a1, a2] σ p8 h7).2.2.2 rfl _ _ _ _ rfl) (by omega) ok_X6_voiceFrom okv_X6_voiceFrom (ihr 2 [v6, 0, a1, a2] σ p8 h7).1 rfl wd_ml_X6_33 rfl rfl (Nat.le_of_ble_eq_true rfl) rfl rfl (Or.inl ⟨rfl, rfl⟩) dX6_ofCurve_43 rfl rfl ?_
      refine V_iconst 2 47 dX6_ofCurve_46 rfl kiconst_2 ?_
      refine V_imul 48 dX6_ofCurve_47 rfl ?_
      have er := Option.some.inj hf
      obtain ⟨e1, e2⟩ := Prod.mk.inj er
      subst e1
      subst e2
      exact V_iret hQ rfl dX6_ofCurve_48
    rw [if_neg c4] at hf
    by_cases c9 : a0 = 2
    · rw [if_pos c9] at hf
      refine V_tsw 2 48 49 dX6_ofCurve_1 c9 (by decide) (by decide) (by decide) (by decide) ?_
      refine V_aload_n 0 50 rfl dX6_ofCurve_49 rfl rfl ?_
      refine V_aload_n 0 51 rfl dX6_ofCurve_50 rfl rfl ?_
      obtain ⟨v11, h10, hf⟩ := ob hf
      refine V_getI (n := 6) (ty := tyX6) 54 h10 cf_5 rfl wd_fl_X6_21 dX6_ofCurve_51 rfl ?_
      refine V_iconst 1 55 dX6_ofCurve_54 rfl kiconst_1 ?_
      refine V_iload_n 2 56 rfl dX6_ofCurve_55 rfl rfl ?_
      refine V_iload_n 3 57 rfl dX6_ofCurve_56 rfl rfl ?_
      obtain ⟨p13, h12, hf⟩ := ob hf
      refine V_callV (rest := []) (T := TX6) (n := 6) (ci := 5) 0 0 60 [.int p13.1] ((ihr 2 [v11, 1, a1, a2] σ p13 h12).2.2.2 rfl _ _ _ _ rfl) (by omega) ok_X6_voiceFrom okv_X6_voiceFrom (ihr 2 [v11, 1, a1, a2] σ p13 h12).1 rfl wd_ml_X6_33 rfl rfl (Nat.le_of_ble_eq_true rfl) rfl rfl (Or.inl ⟨rfl, rfl⟩) dX6_ofCurve_57 rfl rfl ?_
      refine V_aload_n 0 61 rfl dX6_ofCurve_60 rfl rfl ?_
      obtain ⟨v15, h14, hf⟩ := ob hf
      refine V_getI (n := 6) (ty := tyX6) 64 h14 cf_5 rfl wd_fl_X6_24 dX6_ofCurve_61 rfl ?_
      refine V_isub 65 dX6_ofCurve_64 rfl ?_
      have er := Option.some.inj hf
      obtain ⟨e1, e2⟩ := Prod.mk.inj er
      subst e1
      subst e2
      exact V_iret hQ rfl dX6_ofCurve_65
    rw [if_neg c9] at hf
    refine V_tswD [0, 1, 2] 66 dX6_ofCurve_1 (fun q hq => by simp only [List.mem_cons, List.not_mem_nil, or_false] at hq; rcases hq with rfl | rfl | rfl <;> assumption) (by decide) (by decide) (by decide) ?_
    refine V_aload_n 0 67 rfl dX6_ofCurve_66 rfl rfl ?_
    refine V_aload_n 0 68 rfl dX6_ofCurve_67 rfl rfl ?_
    obtain ⟨v17, h16, hf⟩ := ob hf
    refine V_getI (n := 6) (ty := tyX6) 71 h16 cf_5 rfl wd_fl_X6_27 dX6_ofCurve_68 rfl ?_
    refine V_aload_n 0 72 rfl dX6_ofCurve_71 rfl rfl ?_
    obtain ⟨v19, h18, hf⟩ := ob hf
    refine V_getI (n := 6) (ty := tyX6) 75 h18 cf_5 rfl wd_fl_X6_24 dX6_ofCurve_72 rfl ?_
    have kj31 : V mi_X6_ofCurve l G (dr + 1) 0 0 X 0 0 83 [(0, .ref t), (1, .int a0), (2, .int a1), (3, .int a2)] [.int (if v17 = v19 then 1 else 0 : Int32), .ref t] σ := by
      obtain ⟨s21, h20, hf⟩ := ob hf
      refine V_putZ (n := 6) (T := TX6) (ty := tyX6) (f := 2) 86 h20 cf_5 rfl rfl (Or.inl rfl) wd_fl_X6_17 dX6_ofCurve_83 rfl ?_
      refine V_aload_n 0 87 rfl dX6_ofCurve_86 rfl rfl ?_
      obtain ⟨v23, h22, hf⟩ := ob hf
      refine V_getI (n := 6) (ty := tyX6) 90 h22 cf_5 rfl wd_fl_X6_17 dX6_ofCurve_87 rfl ?_
      refine V_if_eq 97 93 dX6_ofCurve_90 (by decide) rfl (fun c24 => ?_) (fun c24 => ?_)
      · rw [if_pos c24] at hf
        refine V_iload_n 2 98 rfl dX6_ofCurve_97 rfl rfl ?_
        refine V_aload_n 0 99 rfl dX6_ofCurve_98 rfl rfl ?_
        obtain ⟨v26, h25, hf⟩ := ob hf
        refine V_getI (n := 6) (ty := tyX6) 102 h25 cf_5 rfl wd_fl_X6_27 dX6_ofCurve_99 rfl ?_
        refine V_aload_n 0 103 rfl dX6_ofCurve_102 rfl rfl ?_
        obtain ⟨v28, h27, hf⟩ := ob hf
        refine V_getI (n := 6) (ty := tyX6) 106 h27 cf_5 rfl wd_fl_X6_24 dX6_ofCurve_103 rfl ?_
        refine V_isub 107 dX6_ofCurve_106 rfl ?_
        obtain ⟨z29, h30, hf⟩ := ob hf
        refine V_idiv 108 dX6_ofCurve_107 rfl (ne0_ne h30) ?_
        have er := Option.some.inj hf
        obtain ⟨e1, e2⟩ := Prod.mk.inj er
        subst e1
        subst e2
        exact V_iret hQ rfl dX6_ofCurve_108
      · rw [if_neg c24] at hf
        refine V_iconst 0 94 dX6_ofCurve_93 rfl kiconst_0 ?_
        refine V_goto 108 dX6_ofCurve_94 (by decide) ?_
        have er := Option.some.inj hf
        obtain ⟨e1, e2⟩ := Prod.mk.inj er
        subst e1
        subst e2
        exact V_iret hQ rfl dX6_ofCurve_108
    refine V_icmp_ne 82 78 dX6_ofCurve_75 (by decide) rfl (fun c32 => ?_) (fun c32 => ?_)
    · refine V_iconst 0 83 dX6_ofCurve_82 rfl kiconst_0 ?_
      refine V_ls [(0, .ref t), (1, .int a0), (2, .int a1), (3, .int a2)] [0, 1, 2, 3] rfl ?_
      simp only [if_neg c32] at kj31
      exact kj31
    · refine V_iconst 1 79 dX6_ofCurve_78 rfl kiconst_1 ?_
      refine V_goto 83 dX6_ofCurve_79 (by decide) ?_
      refine V_ls [(0, .ref t), (1, .int a0), (2, .int a1), (3, .int a2)] [0, 1, 2, 3] rfl ?_
      simp only [if_pos c32] at kj31
      exact kj31
  · rw [if_neg hg] at hf
    cases hf
set_option maxRecDepth 100000 in
set_option maxHeartbeats 4000000 in
theorem cb_X6_ofKindUnder (l : Launch) (G : Gd) (dr : Nat) (rc : Nat → List Int32 → St → Option (Int32 × St)) (t : Nat) (ihr : ∀ j as σ p, rc j as σ = some p → CT_X6_ofCurve l G dr t j as σ p) (σ : St) (a0 : Int32) (a1 : Int32) (a2 : Int32) (a3 : Int32) (r0 : Int32) (σ' : St) (hf : f_X6_ofKindUnder rc σ t a0 a1 a2 a3 = some (r0, σ')) : MetV l G (dr + 1) mi_X6_ofKindUnder [.ref t, .int a0, .int a1, .int a2, .int a3] σ (some (.int r0)) σ' 0 0 := by
  unfold f_X6_ofKindUnder at hf
  refine MetV.of [(0, .ref t), (1, .int a0), (2, .int a1), (3, .int a2), (4, .int a3)] (by decide +kernel) rfl (Nat.le_of_ble_eq_true rfl) ?_
  intro X hQ
  by_cases hg : isO σ 5 t = true
  · rw [if_pos hg] at hf
    refine V_iload_n 1 1 rfl dX6_ofKindUnder_0 rfl rfl ?_
    by_cases c1 : a0 = 20
    · rw [if_pos c1] at hf
      refine V_lsw 20 99 100 dX6_ofKindUnder_1 c1 (by decide) (by decide) (by decide) ?_
      refine V_aload_n 0 101 rfl dX6_ofKindUnder_100 rfl rfl ?_
      refine V_iload_n 2 102 rfl dX6_ofKindUnder_101 rfl rfl ?_
      refine V_iconst 1 103 dX6_ofKindUnder_102 rfl kiconst_1 ?_
      refine V_iload_n 3 104 rfl dX6_ofKindUnder_103 rfl rfl ?_
      refine V_iload 4 106 rfl dX6_ofKindUnder_104 rfl ?_
      obtain ⟨p3, h2, hf⟩ := ob hf
      refine V_callV (rest := []) (T := TX6) (n := 6) (ci := 5) 0 0 109 [.int p3.1] ((ihr 2 [a1, 1, a2, a3] σ p3 h2).2.2.2 rfl _ _ _ _ rfl) (by omega) ok_X6_voiceFrom okv_X6_voiceFrom (ihr 2 [a1, 1, a2, a3] σ p3 h2).1 rfl wd_ml_X6_33 rfl rfl (Nat.le_of_ble_eq_true rfl) rfl rfl (Or.inl ⟨rfl, rfl⟩) dX6_ofKindUnder_106 rfl rfl ?_
      refine V_iconst 3 110 dX6_ofKindUnder_109 rfl kiconst_3 ?_
      refine V_iadd 111 dX6_ofKindUnder_110 rfl ?_
      have er := Option.some.inj hf
      obtain ⟨e1, e2⟩ := Prod.mk.inj er
      subst e1
      subst e2
      exact V_iret hQ rfl dX6_ofKindUnder_111
    rw [if_neg c1] at hf
    by_cases c4 : a0 = 21
    · rw [if_pos c4] at hf
      refine V_lsw 21 111 112 dX6_ofKindUnder_1 c4 (by decide) (by decide) (by decide) ?_
      refine V_aload_n 0 113 rfl dX6_ofKindUnder_112 rfl rfl ?_
      refine V_iload_n 2 114 rfl dX6_ofKindUnder_113 rfl rfl ?_
      refine V_iconst 2 115 dX6_ofKindUnder_114 rfl kiconst_2 ?_
      refine V_iload_n 3 116 rfl dX6_ofKindUnder_115 rfl rfl ?_
      refine V_iload 4 118 rfl dX6_ofKindUnder_116 rfl ?_
      obtain ⟨p6, h5, hf⟩ := ob hf
      refine V_callV (rest := []) (T := TX6) (n := 6) (ci := 5) 0 0 121 [.int p6.1] ((ihr 2 [a1, 2, a2, a3] σ p6 h5).2.2.2 rfl _ _ _ _ rfl) (by omega) ok_X6_voiceFrom okv_X6_voiceFrom (ihr 2 [a1, 2, a2, a3] σ p6 h5).1 rfl wd_ml_X6_33 rfl rfl (Nat.le_of_ble_eq_true rfl) rfl rfl (Or.inl ⟨rfl, rfl⟩) dX6_ofKindUnder_118 rfl rfl ?_
      refine V_aload_n 0 122 rfl dX6_ofKindUnder_121 rfl rfl ?_
      obtain ⟨v8, h7, hf⟩ := ob hf
      refine V_getI (n := 6) (ty := tyX6) 125 h7 cf_5 rfl wd_fl_X6_27 dX6_ofKindUnder_122 rfl ?_
      refine V_ixor 126 dX6_ofKindUnder_125 rfl ?_
      have er := Option.some.inj hf
      obtain ⟨e1, e2⟩ := Prod.mk.inj er
      subst e1
      subst e2
      exact V_iret hQ rfl dX6_ofKindUnder_126
    rw [if_neg c4] at hf
    by_cases c9 : a0 = 30
    · rw [if_pos c9] at hf
      refine V_lsw 30 126 127 dX6_ofKindUnder_1 c9 (by decide) (by decide) (by decide) ?_
      refine V_aload_n 0 128 rfl dX6_ofKindUnder_127 rfl rfl ?_
      refine V_iload_n 2 129 rfl dX6_ofKindUnder_128 rfl rfl ?_
      refine V_iconst 0 130 dX6_ofKindUnder_129 rfl kiconst_0 ?_
      refine V_iload_n 3 131 rfl dX6_ofKindUnder_130 rfl rfl ?_
      refine V_iload 4 133 rfl dX6_ofKindUnder_131 rfl ?_
      obtain ⟨p11, h10, hf⟩ := ob hf
      refine V_callV (rest := []) (T := TX6) (n := 6) (ci := 5) 0 0 136 [.int p11.1] ((ihr 2 [a1, 0, a2, a3] σ p11 h10).2.2.2 rfl _ _ _ _ rfl) (by omega) ok_X6_voiceFrom okv_X6_voiceFrom (ihr 2 [a1, 0, a2, a3] σ p11 h10).1 rfl wd_ml_X6_33 rfl rfl (Nat.le_of_ble_eq_true rfl) rfl rfl (Or.inl ⟨rfl, rfl⟩) dX6_ofKindUnder_133 rfl rfl ?_
      refine V_iconst 2 137 dX6_ofKindUnder_136 rfl kiconst_2 ?_
      refine V_idiv 138 dX6_ofKindUnder_137 rfl (by decide) ?_
      have er := Option.some.inj hf
      obtain ⟨e1, e2⟩ := Prod.mk.inj er
      subst e1
      subst e2
      exact V_iret hQ rfl dX6_ofKindUnder_138
    rw [if_neg c9] at hf
    by_cases c12 : a0 = 31
    · rw [if_pos c12] at hf
      refine V_lsw 31 138 139 dX6_ofKindUnder_1 c12 (by decide) (by decide) (by decide) ?_
      refine V_aload_n 0 140 rfl dX6_ofKindUnder_139 rfl rfl ?_
      refine V_iload_n 2 141 rfl dX6_ofKindUnder_140 rfl rfl ?_
      refine V_iconst 1 142 dX6_ofKindUnder_141 rfl kiconst_1 ?_
      refine V_iload_n 3 143 rfl dX6_ofKindUnder_142 rfl rfl ?_
      refine V_iconst 1 144 dX6_ofKindUnder_143 rfl kiconst_1 ?_
      refine V_isub 145 dX6_ofKindUnder_144 rfl ?_
      refine V_iload 4 147 rfl dX6_ofKindUnder_145 rfl ?_
      obtain ⟨p14, h13, hf⟩ := ob hf
      refine V_callV (rest := []) (T := TX6) (n := 6) (ci := 5) 0 0 150 [.int p14.1] ((ihr 2 [a1, 1, a2 - 1, a3] σ p14 h13).2.2.2 rfl _ _ _ _ rfl) (by omega) ok_X6_voiceFrom okv_X6_voiceFrom (ihr 2 [a1, 1, a2 - 1, a3] σ p14 h13).1 rfl wd_ml_X6_33 rfl rfl (Nat.le_of_ble_eq_true rfl) rfl rfl (Or.inl ⟨rfl, rfl⟩) dX6_ofKindUnder_147 rfl rfl ?_
      have er := Option.some.inj hf
      obtain ⟨e1, e2⟩ := Prod.mk.inj er
      subst e1
      subst e2
      exact V_iret hQ rfl dX6_ofKindUnder_150
    rw [if_neg c12] at hf
    by_cases c15 : a0 = 40
    · rw [if_pos c15] at hf
      refine V_lsw 40 150 151 dX6_ofKindUnder_1 c15 (by decide) (by decide) (by decide) ?_
      refine V_iconst 0 152 dX6_ofKindUnder_151 rfl kiconst_0 ?_
      refine V_aload_n 0 153 rfl dX6_ofKindUnder_152 rfl rfl ?_
      refine V_iload_n 2 154 rfl dX6_ofKindUnder_153 rfl rfl ?_
      refine V_iconst 0 155 dX6_ofKindUnder_154 rfl kiconst_0 ?_
      refine V_iload_n 3 156 rfl dX6_ofKindUnder_155 rfl rfl ?_
      refine V_iload 4 158 rfl dX6_ofKindUnder_156 rfl ?_
      obtain ⟨p17, h16, hf⟩ := ob hf
      refine V_callV (rest := [.int 0]) (T := TX6) (n := 6) (ci := 5) 0 0 161 [.int p17.1, .int 0] ((ihr 2 [a1, 0, a2, a3] σ p17 h16).2.2.2 rfl _ _ _ _ rfl) (by omega) ok_X6_voiceFrom okv_X6_voiceFrom (ihr 2 [a1, 0, a2, a3] σ p17 h16).1 rfl wd_ml_X6_33 rfl rfl (Nat.le_of_ble_eq_true rfl) rfl rfl (Or.inl ⟨rfl, rfl⟩) dX6_ofKindUnder_158 rfl rfl ?_
      refine V_isub 162 dX6_ofKindUnder_161 rfl ?_
      have er := Option.some.inj hf
      obtain ⟨e1, e2⟩ := Prod.mk.inj er
      subst e1
      subst e2
      exact V_iret hQ rfl dX6_ofKindUnder_162
    rw [if_neg c15] at hf
    by_cases c18 : a0 = 41
    · rw [if_pos c18] at hf
      refine V_lsw 41 162 163 dX6_ofKindUnder_1 c18 (by decide) (by decide) (by decide) ?_
      refine V_aload_n 0 164 rfl dX6_ofKindUnder_163 rfl rfl ?_
      refine V_iload_n 2 165 rfl dX6_ofKindUnder_164 rfl rfl ?_
      refine V_iconst 3 166 dX6_ofKindUnder_165 rfl kiconst_3 ?_
      refine V_iload_n 3 167 rfl dX6_ofKindUnder_166 rfl rfl ?_
      refine V_iload 4 169 rfl dX6_ofKindUnder_167 rfl ?_
      obtain ⟨p20, h19, hf⟩ := ob hf
      refine V_callV (rest := []) (T := TX6) (n := 6) (ci := 5) 0 0 172 [.int p20.1] ((ihr 2 [a1, 3, a2, a3] σ p20 h19).2.2.2 rfl _ _ _ _ rfl) (by omega) ok_X6_voiceFrom okv_X6_voiceFrom (ihr 2 [a1, 3, a2, a3] σ p20 h19).1 rfl wd_ml_X6_33 rfl rfl (Nat.le_of_ble_eq_true rfl) rfl rfl (Or.inl ⟨rfl, rfl⟩) dX6_ofKindUnder_169 rfl rfl ?_
      refine V_aload_n 0 173 rfl dX6_ofKindUnder_172 rfl rfl ?_
      refine V_aload_n 0 174 rfl dX6_ofKindUnder_173 rfl rfl ?_
      obtain ⟨v22, h21, hf⟩ := ob hf
      refine V_getI (n := 6) (ty := tyX6) 177 h21 cf_5 rfl wd_fl_X6_21 dX6_ofKindUnder_174 rfl ?_
      refine V_iconst 2 178 dX6_ofKindUnder_177 rfl kiconst_2 ?_
      refine V_iconst 1 179 dX6_ofKindUnder_178 rfl kiconst_1 ?_
      refine V_iload 4 181 rfl dX6_ofKindUnder_179 rfl ?_
      obtain ⟨p24, h23, hf⟩ := ob hf
      refine V_callV (rest := [.int p20.1]) (T := TX6) (n := 6) (ci := 5) 0 0 184 [.int p24.1, .int p20.1] ((ihr 2 [v22, 2, 1, a3] p20.2 p24 h23).2.2.2 rfl _ _ _ _ rfl) (by omega) ok_X6_voiceFrom okv_X6_voiceFrom (ihr 2 [v22, 2, 1, a3] p20.2 p24 h23).1 rfl wd_ml_X6_33 rfl rfl (Nat.le_of_ble_eq_true rfl) rfl rfl (Or.inl ⟨rfl, rfl⟩) dX6_ofKindUnder_181 rfl rfl ?_
      refine V_iadd 185 dX6_ofKindUnder_184 rfl ?_
      have er := Option.some.inj hf
      obtain ⟨e1, e2⟩ := Prod.mk.inj er
      subst e1
      subst e2
      exact V_iret hQ rfl dX6_ofKindUnder_185
    rw [if_neg c18] at hf
    by_cases c25 : a0 = 50
    · rw [if_pos c25] at hf
      refine V_lsw 50 185 186 dX6_ofKindUnder_1 c25 (by decide) (by decide) (by decide) ?_
      refine V_aload_n 0 187 rfl dX6_ofKindUnder_186 rfl rfl ?_
      refine V_iload_n 2 188 rfl dX6_ofKindUnder_187 rfl rfl ?_
      refine V_iconst 2 189 dX6_ofKindUnder_188 rfl kiconst_2 ?_
      refine V_iload_n 3 190 rfl dX6_ofKindUnder_189 rfl rfl ?_
      refine V_iload 4 192 rfl dX6_ofKindUnder_190 rfl ?_
      obtain ⟨p27, h26, hf⟩ := ob hf
      refine V_callV (rest := []) (T := TX6) (n := 6) (ci := 5) 0 0 195 [.int p27.1] ((ihr 2 [a1, 2, a2, a3] σ p27 h26).2.2.2 rfl _ _ _ _ rfl) (by omega) ok_X6_voiceFrom okv_X6_voiceFrom (ihr 2 [a1, 2, a2, a3] σ p27 h26).1 rfl wd_ml_X6_33 rfl rfl (Nat.le_of_ble_eq_true rfl) rfl rfl (Or.inl ⟨rfl, rfl⟩) dX6_ofKindUnder_192 rfl rfl ?_
      refine V_iconst 3 196 dX6_ofKindUnder_195 rfl kiconst_3 ?_
      refine V_imul 197 dX6_ofKindUnder_196 rfl ?_
      have er := Option.some.inj hf
      obtain ⟨e1, e2⟩ := Prod.mk.inj er
      subst e1
      subst e2
      exact V_iret hQ rfl dX6_ofKindUnder_197
    rw [if_neg c25] at hf
    by_cases c28 : a0 = 60
    · rw [if_pos c28] at hf
      refine V_lsw 60 197 198 dX6_ofKindUnder_1 c28 (by decide) (by decide) (by decide) ?_
      refine V_aload_n 0 199 rfl dX6_ofKindUnder_198 rfl rfl ?_
      refine V_iload_n 2 200 rfl dX6_ofKindUnder_199 rfl rfl ?_
      refine V_iconst 0 201 dX6_ofKindUnder_200 rfl kiconst_0 ?_
      refine V_iload_n 3 202 rfl dX6_ofKindUnder_201 rfl rfl ?_
      refine V_aload_n 0 203 rfl dX6_ofKindUnder_202 rfl rfl ?_
      obtain ⟨v30, h29, hf⟩ := ob hf
      refine V_getI (n := 6) (ty := tyX6) 206 h29 cf_5 rfl wd_fl_X6_24 dX6_ofKindUnder_203 rfl ?_
      refine V_iadd 207 dX6_ofKindUnder_206 rfl ?_
      refine V_iload 4 209 rfl dX6_ofKindUnder_207 rfl ?_
      obtain ⟨p32, h31, hf⟩ := ob hf
      refine V_callV (rest := []) (T := TX6) (n := 6) (ci := 5) 0 0 212 [.int p32.1] ((ihr 2 [a1, 0, a2 + v30, a3] σ p32 h31).2.2.2 rfl _ _ _ _ rfl) (by omega) ok_X6_voiceFrom okv_X6_voiceFrom (ihr 2 [a1, 0, a2 + v30, a3] σ p32 h31).1 rfl wd_ml_X6_33 rfl rfl (Nat.le_of_ble_eq_true rfl) rfl rfl (Or.inl ⟨rfl, rfl⟩) dX6_ofKindUnder_209 rfl rfl ?_
      have er := Option.some.inj hf
      obtain ⟨e1, e2⟩ := Prod.mk.inj er
      subst e1
      subst e2
      exact V_iret hQ rfl dX6_ofKindUnder_212
    rw [if_neg c28] at hf
    by_cases c33 : a0 = 61
    · rw [if_pos c33] at hf
      refine V_lsw 61 212 213 dX6_ofKindUnder_1 c33 (by decide) (by decide) (by decide) ?_
      refine V_aload_n 0 214 rfl dX6_ofKindUnder_213 rfl rfl ?_
      refine V_iload_n 2 215 rfl dX6_ofKindUnder_214 rfl rfl ?_
      refine V_iconst 2 216 dX6_ofKindUnder_215 rfl kiconst_2 ?_
      refine V_iload_n 3 217 rfl dX6_ofKindUnder_216 rfl rfl ?_
      refine V_iload 4 219 rfl dX6_ofKindUnder_217 rfl ?_
      obtain ⟨p35, h34, hf⟩ := ob hf
      refine V_callV (rest := []) (T := TX6) (n := 6) (ci := 5) 0 0 222 [.int p35.1] ((ihr 2 [a1, 2, a2, a3] σ p35 h34).2.2.2 rfl _ _ _ _ rfl) (by omega) ok_X6_voiceFrom okv_X6_voiceFrom (ihr 2 [a1, 2, a2, a3] σ p35 h34).1 rfl wd_ml_X6_33 rfl rfl (Nat.le_of_ble_eq_true rfl) rfl rfl (Or.inl ⟨rfl, rfl⟩) dX6_ofKindUnder_219 rfl rfl ?_
      refine V_aload_n 0 223 rfl dX6_ofKindUnder_222 rfl rfl ?_
      refine V_aload_n 0 224 rfl dX6_ofKindUnder_223 rfl rfl ?_
      obtain ⟨v37, h36, hf⟩ := ob hf
      refine V_getI (n := 6) (ty := tyX6) 227 h36 cf_5 rfl wd_fl_X6_21 dX6_ofKindUnder_224 rfl ?_
      refine V_iconst 0 228 dX6_ofKindUnder_227 rfl kiconst_0 ?_
      refine V_iconst 2 229 dX6_ofKindUnder_228 rfl kiconst_2 ?_
      refine V_iload 4 231 rfl dX6_ofKindUnder_229 rfl ?_
      obtain ⟨p39, h38, hf⟩ := ob hf
      refine V_callV (rest := [.int p35.1]) (T := TX6) (n := 6) (ci := 5) 0 0 234 [.int p39.1, .int p35.1] ((ihr 2 [v37, 0, 2, a3] p35.2 p39 h38).2.2.2 rfl _ _ _ _ rfl) (by omega) ok_X6_voiceFrom okv_X6_voiceFrom (ihr 2 [v37, 0, 2, a3] p35.2 p39 h38).1 rfl wd_ml_X6_33 rfl rfl (Nat.le_of_ble_eq_true rfl) rfl rfl (Or.inl ⟨rfl, rfl⟩) dX6_ofKindUnder_231 rfl rfl ?_
      refine V_isub 235 dX6_ofKindUnder_234 rfl ?_
      have er := Option.some.inj hf
      obtain ⟨e1, e2⟩ := Prod.mk.inj er
      subst e1
      subst e2
      exact V_iret hQ rfl dX6_ofKindUnder_235
    rw [if_neg c33] at hf
    by_cases c40 : a0 = 70
    · rw [if_pos c40] at hf
      refine V_lsw 70 235 236 dX6_ofKindUnder_1 c40 (by decide) (by decide) (by decide) ?_
      refine V_aload_n 0 237 rfl dX6_ofKindUnder_236 rfl rfl ?_
      refine V_iload_n 2 238 rfl dX6_ofKindUnder_237 rfl rfl ?_
      refine V_iconst 2 239 dX6_ofKindUnder_238 rfl kiconst_2 ?_
      refine V_iload_n 3 240 rfl dX6_ofKindUnder_239 rfl rfl ?_
      refine V_iload 4 242 rfl dX6_ofKindUnder_240 rfl ?_
      obtain ⟨p42, h41, hf⟩ := ob hf
      refine V_callV (rest := []) (T := TX6) (n := 6) (ci := 5) 0 0 245 [.int p42.1] ((ihr 2 [a1, 2, a2, a3] σ p42 h41).2.2.2 rfl _ _ _ _ rfl) (by omega) ok_X6_voiceFrom okv_X6_voiceFrom (ihr 2 [a1, 2, a2, a3] σ p42 h41).1 rfl wd_ml_X6_33 rfl rfl (Nat.le_of_ble_eq_true rfl) rfl rfl (Or.inl ⟨rfl, rfl⟩) dX6_ofKindUnder_242 rfl rfl ?_
      refine V_aload_n 0 246 rfl dX6_ofKindUnder_245 rfl rfl ?_
      refine V_aload_n 0 247 rfl dX6_ofKindUnder_246 rfl rfl ?_
      obtain ⟨v44, h43, hf⟩ := ob hf
      refine V_getI (n := 6) (ty := tyX6) 250 h43 cf_5 rfl wd_fl_X6_21 dX6_ofKindUnder_247 rfl ?_
      refine V_iconst 1 251 dX6_ofKindUnder_250 rfl kiconst_1 ?_
      refine V_aload_n 0 252 rfl dX6_ofKindUnder_251 rfl rfl ?_
      obtain ⟨v46, h45, hf⟩ := ob hf
      refine V_getI (n := 6) (ty := tyX6) 255 h45 cf_5 rfl wd_fl_X6_24 dX6_ofKindUnder_252 rfl ?_
      refine V_iload 4 257 rfl dX6_ofKindUnder_255 rfl ?_
      obtain ⟨p48, h47, hf⟩ := ob hf
      refine V_callV (rest := [.int p42.1]) (T := TX6) (n := 6) (ci := 5) 0 0 260 [.int p48.1, .int p42.1] ((ihr 2 [v44, 1, v46, a3] p42.2 p48 h47).2.2.2 rfl _ _ _ _ rfl) (by omega) ok_X6_voiceFrom okv_X6_voiceFrom (ihr 2 [v44, 1, v46, a3] p42.2 p48 h47).1 rfl wd_ml_X6_33 rfl rfl (Nat.le_of_ble_eq_true rfl) rfl rfl (Or.inl ⟨rfl, rfl⟩) dX6_ofKindUnder_257 rfl rfl ?_
      refine V_iadd 261 dX6_ofKindUnder_260 rfl ?_
      have er := Option.some.inj hf
      obtain ⟨e1, e2⟩ := Prod.mk.inj er
      subst e1
      subst e2
      exact V_iret hQ rfl dX6_ofKindUnder_261
    rw [if_neg c40] at hf
    by_cases c49 : a0 = 80
    · rw [if_pos c49] at hf
      refine V_lsw 80 261 262 dX6_ofKindUnder_1 c49 (by decide) (by decide) (by decide) ?_
      refine V_aload_n 0 263 rfl dX6_ofKindUnder_262 rfl rfl ?_
      refine V_aload_n 0 264 rfl dX6_ofKindUnder_263 rfl rfl ?_
      obtain ⟨v51, h50, hf⟩ := ob hf
      refine V_getI (n := 6) (ty := tyX6) 267 h50 cf_5 rfl wd_fl_X6_21 dX6_ofKindUnder_264 rfl ?_
      refine V_iconst 2 268 dX6_ofKindUnder_267 rfl kiconst_2 ?_
      refine V_iload_n 3 269 rfl dX6_ofKindUnder_268 rfl rfl ?_
      refine V_iload 4 271 rfl dX6_ofKindUnder_269 rfl ?_
      obtain ⟨p53, h52, hf⟩ := ob hf
      refine V_callV (rest := []) (T := TX6) (n := 6) (ci := 5) 0 0 274 [.int p53.1] ((ihr 2 [v51, 2, a2, a3] σ p53 h52).2.2.2 rfl _ _ _ _ rfl) (by omega) ok_X6_voiceFrom okv_X6_voiceFrom (ihr 2 [v51, 2, a2, a3] σ p53 h52).1 rfl wd_ml_X6_33 rfl rfl (Nat.le_of_ble_eq_true rfl) rfl rfl (Or.inl ⟨rfl, rfl⟩) dX6_ofKindUnder_271 rfl rfl ?_
      refine V_aload_n 0 275 rfl dX6_ofKindUnder_274 rfl rfl ?_
      refine V_iload_n 2 276 rfl dX6_ofKindUnder_275 rfl rfl ?_
      refine V_iconst 3 277 dX6_ofKindUnder_276 rfl kiconst_3 ?_
      refine V_iload_n 3 278 rfl dX6_ofKindUnder_277 rfl rfl ?_
      refine V_iload 4 280 rfl dX6_ofKindUnder_278 rfl ?_
      obtain ⟨p55, h54, hf⟩ := ob hf
      refine V_callV (rest := [.int p53.1]) (T := TX6) (n := 6) (ci := 5) 0 0 283 [.int p55.1, .int p53.1] ((ihr 2 [a1, 3, a2, a3] p53.2 p55 h54).2.2.2 rfl _ _ _ _ rfl) (by omega) ok_X6_voiceFrom okv_X6_voiceFrom (ihr 2 [a1, 3, a2, a3] p53.2 p55 h54).1 rfl wd_ml_X6_33 rfl rfl (Nat.le_of_ble_eq_true rfl) rfl rfl (Or.inl ⟨rfl, rfl⟩) dX6_ofKindUnder_280 rfl rfl ?_
      refine V_isub 284 dX6_ofKindUnder_283 rfl ?_
      have er := Option.some.inj hf
      obtain ⟨e1, e2⟩ := Prod.mk.inj er
      subst e1
      subst e2
      exact V_iret hQ rfl dX6_ofKindUnder_284
    rw [if_neg c49] at hf
    refine V_lswD [20, 21, 30, 31, 40, 41, 50, 60, 61, 70, 80] 285 dX6_ofKindUnder_1 (fun q hq => by simp only [List.mem_cons, List.not_mem_nil, or_false] at hq; rcases hq with rfl | rfl | rfl | rfl | rfl | rfl | rfl | rfl | rfl | rfl | rfl <;> assumption) (by decide) (by decide) (by decide) ?_
    refine V_iconst 0 286 dX6_ofKindUnder_285 rfl kiconst_0 ?_
    have er := Option.some.inj hf
    obtain ⟨e1, e2⟩ := Prod.mk.inj er
    subst e1
    subst e2
    exact V_iret hQ rfl dX6_ofKindUnder_286
  · rw [if_neg hg] at hf
    cases hf
set_option maxRecDepth 100000 in
set_option maxHeartbeats 4000000 in
theorem cb_X6_voiceFrom (l : Launch) (G : Gd) (dr : Nat) (rc : Nat → List Int32 → St → Option (Int32 × St)) (t : Nat) (ihr : ∀ j as σ p, rc j as σ = some p → CT_X6_ofCurve l G dr t j as σ p) (σ : St) (a0 : Int32) (a1 : Int32) (a2 : Int32) (a3 : Int32) (r0 : Int32) (σ' : St) (hf : f_X6_voiceFrom rc σ t a0 a1 a2 a3 = some (r0, σ')) : MetV l G (dr + 1) mi_X6_voiceFrom [.ref t, .int a0, .int a1, .int a2, .int a3] σ (some (.int r0)) σ' 0 0 := by
  unfold f_X6_voiceFrom at hf
  refine MetV.of [(0, .ref t), (1, .int a0), (2, .int a1), (3, .int a2), (4, .int a3)] (by decide +kernel) rfl (Nat.le_of_ble_eq_true rfl) ?_
  intro X hQ
  have L6 : ∀ (σ : St) (x2 : Int32) (x3 : Int32) (x4 : Int32) (n : Nat) (x6 : Int32) (x5 : Int32) (p : Int32 × Int32), f_X6_voiceFrom_L6 rc x2 n x6 x5 = some p → V mi_X6_voiceFrom l G (dr + 1) 0 0 X 0 0 56 [(6, .int p.1), (5, .int p.2), (0, .ref t), (2, .int x2), (3, .int x3), (4, .int x4)] [] σ → V mi_X6_voiceFrom l G (dr + 1) 0 0 X 0 0 6 [(6, .int x6), (5, .int x5), (0, .ref t), (2, .int x2), (3, .int x3), (4, .int x4)] [] σ := by
    intro σ x2 x3 x4 n
    induction n with
    | zero =>
      intro x6 x5 p hf
      exact absurd (show (none : Option _) = some p from hf) (by simp)
    | succ n ih =>
      intro x6 x5 p hf hk
      rw [f_X6_voiceFrom_L6] at hf
      refine V_iload 0 8 rfl dX6_voiceFrom_6 rfl ?_
      refine V_gets 11 (fun s h => h.2.2.1) (by decide) wd_fl_X6_30 dX6_voiceFrom_8 rfl ?_
      refine V_olen (j := 2) (n := 8) 12 (fun s h => h.2.2.1) dX6_voiceFrom_11 rfl ?_
      refine V_icmp_ge 56 15 dX6_voiceFrom_12 (by decide) rfl (fun c1 => ?_) (fun c1 => ?_)
      · rw [if_pos c1] at hf
        have ep := Option.some.inj hf
        subst ep
        refine V_ls [(6, .int x6), (5, .int x5), (0, .ref t), (2, .int x2), (3, .int x3), (4, .int x4)] [0, 1, 2, 3, 4, 5] rfl ?_
        exact hk
      · rw [if_neg c1] at hf
        refine V_iload 1 17 rfl dX6_voiceFrom_15 rfl ?_
        refine V_if_le 56 20 dX6_voiceFrom_17 (by decide) rfl (fun c2 => ?_) (fun c2 => ?_)
        · rw [if_pos c2] at hf
          have ep := Option.some.inj hf
          subst ep
          refine V_ls [(6, .int x6), (5, .int x5), (0, .ref t), (2, .int x2), (3, .int x3), (4, .int x4)] [0, 1, 2, 3, 4, 5] rfl ?_
          exact hk
        · rw [if_neg c2] at hf
          refine V_iload 1 22 rfl dX6_voiceFrom_20 rfl ?_
          refine V_gets 25 (fun s h => h.2.2.1) (by decide) wd_fl_X6_30 dX6_voiceFrom_22 rfl ?_
          refine V_olen (j := 2) (n := 8) 26 (fun s h => h.2.2.1) dX6_voiceFrom_25 rfl ?_
          refine V_icmp_ge 56 29 dX6_voiceFrom_26 (by decide) rfl (fun c3 => ?_) (fun c3 => ?_)
          · rw [if_pos c3] at hf
            have ep := Option.some.inj hf
            subst ep
            refine V_ls [(6, .int x6), (5, .int x5), (0, .ref t), (2, .int x2), (3, .int x3), (4, .int x4)] [0, 1, 2, 3, 4, 5] rfl ?_
            exact hk
          · rw [if_neg c3] at hf
            refine V_gets 32 (fun s h => h.2.2.2.1) (by decide) wd_fl_X6_37 dX6_voiceFrom_29 rfl ?_
            refine V_iload 1 34 rfl dX6_voiceFrom_32 rfl ?_
            refine V_iconst 4 35 dX6_voiceFrom_34 rfl kiconst_4 ?_
            refine V_imul 36 dX6_voiceFrom_35 rfl ?_
            refine V_iload_n 3 37 rfl dX6_voiceFrom_36 rfl rfl ?_
            refine V_iadd 38 dX6_voiceFrom_37 rfl ?_
            obtain ⟨v5, h4, hf⟩ := ob hf
            refine V_oald 39 h4 (fun s h => h.2.2.2.1) dX6_voiceFrom_38 rfl ?_
            refine V_if_ne 56 42 dX6_voiceFrom_39 (by decide) rfl (fun c6 => ?_) (fun c6 => ?_)
            · rw [if_neg c6] at hf
              have ep := Option.some.inj hf
              subst ep
              refine V_ls [(6, .int x6), (5, .int x5), (0, .ref t), (2, .int x2), (3, .int x3), (4, .int x4)] [0, 1, 2, 3, 4, 5] rfl ?_
              exact hk
            · rw [if_pos c6] at hf
              refine V_gets 45 (fun s h => h.2.2.1) (by decide) wd_fl_X6_30 dX6_voiceFrom_42 rfl ?_
              refine V_iload 1 47 rfl dX6_voiceFrom_45 rfl ?_
              obtain ⟨v8, h7, hf⟩ := ob hf
              refine V_oald 48 h7 (fun s h => h.2.2.1) dX6_voiceFrom_47 rfl ?_
              refine V_istore [(5, .int v8), (6, .int x6), (0, .ref t), (2, .int x2), (3, .int x3), (4, .int x4)] 50 dX6_voiceFrom_48 (by decide) rfl rfl ?_
              refine V_iinc (x6 + 1) 1 [(6, .int (x6 + 1)), (5, .int v8), (0, .ref t), (2, .int x2), (3, .int x3), (4, .int x4)] 53 dX6_voiceFrom_50 rfl (by rw [kiconst_1]) (by decide) rfl rfl ?_
              refine V_goto 6 dX6_voiceFrom_53 (by decide) ?_
              refine V_ls [(6, .int (x6 + 1)), (5, .int v8), (0, .ref t), (2, .int x2), (3, .int x3), (4, .int x4)] [0, 1, 2, 3, 4, 5] rfl ?_
              exact ih _ _ _ hf hk
  by_cases hg : isO σ 5 t = true
  · rw [if_pos hg] at hf
    refine V_iload_n 1 1 rfl dX6_voiceFrom_0 rfl rfl ?_
    refine V_istore [(5, .int a0), (0, .ref t), (1, .int a0), (2, .int a1), (3, .int a2), (4, .int a3)] 3 dX6_voiceFrom_1 (by decide) rfl rfl ?_
    refine V_iconst 0 4 dX6_voiceFrom_3 rfl kiconst_0 ?_
    refine V_istore [(6, .int 0), (5, .int a0), (0, .ref t), (1, .int a0), (2, .int a1), (3, .int a2), (4, .int a3)] 6 dX6_voiceFrom_4 (by decide) rfl rfl ?_
    obtain ⟨p9, h10, hf⟩ := ob hf
    refine V_ls [(6, .int 0), (5, .int a0), (0, .ref t), (2, .int a1), (3, .int a2), (4, .int a3)] [0, 1, 2, 4, 5, 6] rfl ?_
    refine L6 σ a1 a2 a3 3000 0 a0 p9 h10 ?_
    refine V_aload_n 2 57 rfl dX6_voiceFrom_56 rfl rfl ?_
    obtain ⟨v12, h11, hf⟩ := ob hf
    refine V_getI (n := 6) (ty := tyX6) 60 h11 cf_5 rfl wd_fl_X6_17 dX6_voiceFrom_57 rfl ?_
    refine V_if_ne 84 63 dX6_voiceFrom_60 (by decide) rfl (fun c13 => ?_) (fun c13 => ?_)
    · rw [if_neg c13] at hf
      refine V_iconst 0 85 dX6_voiceFrom_84 rfl kiconst_0 ?_
      have er := Option.some.inj hf
      obtain ⟨e1, e2⟩ := Prod.mk.inj er
      subst e1
      subst e2
      exact V_iret hQ rfl dX6_voiceFrom_85
    · rw [if_pos c13] at hf
      refine V_iload 5 65 rfl dX6_voiceFrom_63 rfl ?_
      refine V_bipush 40 67 dX6_voiceFrom_65 rfl kbipush_40 ?_
      refine V_icmp_gt 84 70 dX6_voiceFrom_67 (by decide) rfl (fun c14 => ?_) (fun c14 => ?_)
      · rw [if_pos c14] at hf
        refine V_iconst 0 85 dX6_voiceFrom_84 rfl kiconst_0 ?_
        have er := Option.some.inj hf
        obtain ⟨e1, e2⟩ := Prod.mk.inj er
        subst e1
        subst e2
        exact V_iret hQ rfl dX6_voiceFrom_85
      · rw [if_neg c14] at hf
        refine V_iload 1 72 rfl dX6_voiceFrom_70 rfl ?_
        refine V_if_lt 84 75 dX6_voiceFrom_72 (by decide) rfl (fun c15 => ?_) (fun c15 => ?_)
        · rw [if_pos c15] at hf
          refine V_iconst 0 85 dX6_voiceFrom_84 rfl kiconst_0 ?_
          have er := Option.some.inj hf
          obtain ⟨e1, e2⟩ := Prod.mk.inj er
          subst e1
          subst e2
          exact V_iret hQ rfl dX6_voiceFrom_85
        · rw [if_neg c15] at hf
          refine V_iload 1 77 rfl dX6_voiceFrom_75 rfl ?_
          refine V_gets 80 (fun s h => h.2.2.1) (by decide) wd_fl_X6_30 dX6_voiceFrom_77 rfl ?_
          refine V_olen (j := 2) (n := 8) 81 (fun s h => h.2.2.1) dX6_voiceFrom_80 rfl ?_
          refine V_icmp_lt 86 84 dX6_voiceFrom_81 (by decide) rfl (fun c16 => ?_) (fun c16 => ?_)
          · rw [if_pos c16] at hf
            refine V_gets 89 (fun s h => h.2.2.2.1) (by decide) wd_fl_X6_37 dX6_voiceFrom_86 rfl ?_
            refine V_iload 1 91 rfl dX6_voiceFrom_89 rfl ?_
            refine V_iconst 4 92 dX6_voiceFrom_91 rfl kiconst_4 ?_
            refine V_imul 93 dX6_voiceFrom_92 rfl ?_
            refine V_iload_n 3 94 rfl dX6_voiceFrom_93 rfl rfl ?_
            refine V_iadd 95 dX6_voiceFrom_94 rfl ?_
            obtain ⟨v18, h17, hf⟩ := ob hf
            refine V_oald 96 h17 (fun s h => h.2.2.2.1) dX6_voiceFrom_95 rfl ?_
            refine V_istore [(6, .int v18), (5, .int p9.2), (0, .ref t), (2, .int a1), (3, .int a2), (4, .int a3)] 98 dX6_voiceFrom_96 (by decide) rfl rfl ?_
            refine V_aload_n 2 99 rfl dX6_voiceFrom_98 rfl rfl ?_
            obtain ⟨v20, h19, hf⟩ := ob hf
            refine V_getI (n := 6) (ty := tyX6) 102 h19 cf_5 rfl wd_fl_X6_13 dX6_voiceFrom_99 rfl ?_
            refine V_bipush 30 104 dX6_voiceFrom_102 rfl kbipush_30 ?_
            refine V_icmp_ge 128 107 dX6_voiceFrom_104 (by decide) rfl (fun c21 => ?_) (fun c21 => ?_)
            · rw [if_pos c21] at hf
              refine V_iload 1 130 rfl dX6_voiceFrom_128 rfl ?_
              refine V_if_ne 146 133 dX6_voiceFrom_130 (by decide) rfl (fun c22 => ?_) (fun c22 => ?_)
              · rw [if_neg c22] at hf
                refine V_aload_n 2 147 rfl dX6_voiceFrom_146 rfl rfl ?_
                refine V_iload 0 149 rfl dX6_voiceFrom_147 rfl ?_
                refine V_gets 152 (fun s h => h.2.2.1) (by decide) wd_fl_X6_30 dX6_voiceFrom_149 rfl ?_
                refine V_iload 1 154 rfl dX6_voiceFrom_152 rfl ?_
                obtain ⟨v24, h23, hf⟩ := ob hf
                refine V_oald 155 h23 (fun s h => h.2.2.1) dX6_voiceFrom_154 rfl ?_
                refine V_iload_n 4 156 rfl dX6_voiceFrom_155 rfl rfl ?_
                refine V_iload 5 158 rfl dX6_voiceFrom_156 rfl ?_
                refine V_iconst 1 159 dX6_voiceFrom_158 rfl kiconst_1 ?_
                refine V_iadd 160 dX6_voiceFrom_159 rfl ?_
                obtain ⟨p26, h25, hf⟩ := ob hf
                refine V_callV (rest := []) (T := TX6) (n := 6) (ci := 5) 0 0 163 [.int p26.1] ((ihr 1 [v18, v24, a2, a3 + 1] σ p26 h25).2.2.1 rfl _ _ _ _ rfl) (by omega) ok_X6_ofKindUnder okv_X6_ofKindUnder (ihr 1 [v18, v24, a2, a3 + 1] σ p26 h25).1 rfl wd_ml_X6_44 rfl rfl (Nat.le_of_ble_eq_true rfl) rfl rfl (Or.inl ⟨rfl, rfl⟩) dX6_voiceFrom_160 rfl rfl ?_
                have er := Option.some.inj hf
                obtain ⟨e1, e2⟩ := Prod.mk.inj er
                subst e1
                subst e2
                exact V_iret hQ rfl dX6_voiceFrom_163
              · rw [if_pos c22] at hf
                refine V_aload_n 2 134 rfl dX6_voiceFrom_133 rfl rfl ?_
                refine V_iload_n 3 135 rfl dX6_voiceFrom_134 rfl rfl ?_
                refine V_iload_n 4 136 rfl dX6_voiceFrom_135 rfl rfl ?_
                refine V_iload 5 138 rfl dX6_voiceFrom_136 rfl ?_
                refine V_iconst 1 139 dX6_voiceFrom_138 rfl kiconst_1 ?_
                refine V_iadd 140 dX6_voiceFrom_139 rfl ?_
                obtain ⟨p28, h27, hf⟩ := ob hf
                refine V_callV (rest := []) (T := TX6) (n := 6) (ci := 5) 0 0 143 [.int p28.1] ((ihr 0 [a1, a2, a3 + 1] σ p28 h27).2.1 rfl _ _ _ rfl) (by omega) ok_X6_ofCurve okv_X6_ofCurve (ihr 0 [a1, a2, a3 + 1] σ p28 h27).1 rfl wd_ml_X6_40 rfl rfl (Nat.le_of_ble_eq_true rfl) rfl rfl (Or.inl ⟨rfl, rfl⟩) dX6_voiceFrom_140 rfl rfl ?_
                refine V_goto 163 dX6_voiceFrom_143 (by decide) ?_
                have er := Option.some.inj hf
                obtain ⟨e1, e2⟩ := Prod.mk.inj er
                subst e1
                subst e2
                exact V_iret hQ rfl dX6_voiceFrom_163
            · rw [if_neg c21] at hf
              refine V_aload_n 2 108 rfl dX6_voiceFrom_107 rfl rfl ?_
              obtain ⟨q30, h29, hf⟩ := ob hf
              refine V_getQ (n := 6) (ty := tyX6) 111 h29 cf_5 rfl wd_fl_X6_9 dX6_voiceFrom_108 rfl ?_
              refine V_aload_n 2 112 rfl dX6_voiceFrom_111 rfl rfl ?_
              obtain ⟨v32, h31, hf⟩ := ob hf
              refine V_getI (n := 6) (ty := tyX6) 115 h31 cf_5 rfl wd_fl_X6_13 dX6_voiceFrom_112 rfl ?_
              refine V_iload 0 117 rfl dX6_voiceFrom_115 rfl ?_
              obtain ⟨s34, h33, hf⟩ := ob hf
              refine V_iast 118 h33 dX6_voiceFrom_117 rfl ?_
              refine V_aload_n 2 119 rfl dX6_voiceFrom_118 rfl rfl ?_
              refine V_dup 120 dX6_voiceFrom_119 rfl rfl ?_
              obtain ⟨v36, h35, hf⟩ := ob hf
              refine V_getI (n := 6) (ty := tyX6) 123 h35 cf_5 rfl wd_fl_X6_13 dX6_voiceFrom_120 rfl ?_
              refine V_iconst 1 124 dX6_voiceFrom_123 rfl kiconst_1 ?_
              refine V_iadd 125 dX6_voiceFrom_124 rfl ?_
              obtain ⟨s38, h37, hf⟩ := ob hf
              refine V_putI (n := 6) (T := TX6) (ty := tyX6) (f := 1) 128 h37 cf_5 rfl rfl (Or.inl rfl) wd_fl_X6_13 dX6_voiceFrom_125 rfl ?_
              refine V_iload 1 130 rfl dX6_voiceFrom_128 rfl ?_
              refine V_if_ne 146 133 dX6_voiceFrom_130 (by decide) rfl (fun c39 => ?_) (fun c39 => ?_)
              · rw [if_neg c39] at hf
                refine V_aload_n 2 147 rfl dX6_voiceFrom_146 rfl rfl ?_
                refine V_iload 0 149 rfl dX6_voiceFrom_147 rfl ?_
                refine V_gets 152 (fun s h => h.2.2.1) (by decide) wd_fl_X6_30 dX6_voiceFrom_149 rfl ?_
                refine V_iload 1 154 rfl dX6_voiceFrom_152 rfl ?_
                obtain ⟨v41, h40, hf⟩ := ob hf
                refine V_oald 155 h40 (fun s h => h.2.2.1) dX6_voiceFrom_154 rfl ?_
                refine V_iload_n 4 156 rfl dX6_voiceFrom_155 rfl rfl ?_
                refine V_iload 5 158 rfl dX6_voiceFrom_156 rfl ?_
                refine V_iconst 1 159 dX6_voiceFrom_158 rfl kiconst_1 ?_
                refine V_iadd 160 dX6_voiceFrom_159 rfl ?_
                obtain ⟨p43, h42, hf⟩ := ob hf
                refine V_callV (rest := []) (T := TX6) (n := 6) (ci := 5) 0 0 163 [.int p43.1] ((ihr 1 [v18, v41, a2, a3 + 1] s38 p43 h42).2.2.1 rfl _ _ _ _ rfl) (by omega) ok_X6_ofKindUnder okv_X6_ofKindUnder (ihr 1 [v18, v41, a2, a3 + 1] s38 p43 h42).1 rfl wd_ml_X6_44 rfl rfl (Nat.le_of_ble_eq_true rfl) rfl rfl (Or.inl ⟨rfl, rfl⟩) dX6_voiceFrom_160 rfl rfl ?_
                have er := Option.some.inj hf
                obtain ⟨e1, e2⟩ := Prod.mk.inj er
                subst e1
                subst e2
                exact V_iret hQ rfl dX6_voiceFrom_163
              · rw [if_pos c39] at hf
                refine V_aload_n 2 134 rfl dX6_voiceFrom_133 rfl rfl ?_
                refine V_iload_n 3 135 rfl dX6_voiceFrom_134 rfl rfl ?_
                refine V_iload_n 4 136 rfl dX6_voiceFrom_135 rfl rfl ?_
                refine V_iload 5 138 rfl dX6_voiceFrom_136 rfl ?_
                refine V_iconst 1 139 dX6_voiceFrom_138 rfl kiconst_1 ?_
                refine V_iadd 140 dX6_voiceFrom_139 rfl ?_
                obtain ⟨p45, h44, hf⟩ := ob hf
                refine V_callV (rest := []) (T := TX6) (n := 6) (ci := 5) 0 0 143 [.int p45.1] ((ihr 0 [a1, a2, a3 + 1] s38 p45 h44).2.1 rfl _ _ _ rfl) (by omega) ok_X6_ofCurve okv_X6_ofCurve (ihr 0 [a1, a2, a3 + 1] s38 p45 h44).1 rfl wd_ml_X6_40 rfl rfl (Nat.le_of_ble_eq_true rfl) rfl rfl (Or.inl ⟨rfl, rfl⟩) dX6_voiceFrom_140 rfl rfl ?_
                refine V_goto 163 dX6_voiceFrom_143 (by decide) ?_
                have er := Option.some.inj hf
                obtain ⟨e1, e2⟩ := Prod.mk.inj er
                subst e1
                subst e2
                exact V_iret hQ rfl dX6_voiceFrom_163
          · rw [if_neg c16] at hf
            refine V_iconst 0 85 dX6_voiceFrom_84 rfl kiconst_0 ?_
            have er := Option.some.inj hf
            obtain ⟨e1, e2⟩ := Prod.mk.inj er
            subst e1
            subst e2
            exact V_iret hQ rfl dX6_voiceFrom_85
  · rw [if_neg hg] at hf
    cases hf
set_option maxRecDepth 100000 in
set_option maxHeartbeats 4000000 in
theorem cr_X6_ofCurve (l : Launch) (G : Gd) (d : Nat) (t : Nat) : ∀ (n j : Nat) (as : List Int32) (σ : St) (p : Int32 × St), rc_X6_ofCurve t n j as σ = some p → CT_X6_ofCurve l G (d + 1 * n) t j as σ p := by
  intro n
  induction n with
  | zero =>
    intro j as σ p h
    exact absurd (show (none : Option _) = some p from h) (by simp)
  | succ n ih =>
    intro j as σ p h
    rw [rc_X6_ofCurve] at h
    unfold ds_X6_ofCurve at h
    rw [show d + 1 * (n + 1) = d + 1 * n + 1 from by omega]
    split at h
    · next a0 a1 a2 =>
      obtain ⟨r0, s0⟩ := p
      exact ⟨gd_f_X6_ofCurve h, fun _ b0 b1 b2 e => by cases e; exact cb_X6_ofCurve l G (d + 1 * n) (rc_X6_ofCurve t n) t ih σ a0 a1 a2 r0 s0 h, fun e => absurd e (by decide), fun e => absurd e (by decide)⟩
    · next a0 a1 a2 a3 =>
      obtain ⟨r0, s0⟩ := p
      exact ⟨gd_f_X6_ofKindUnder h, fun e => absurd e (by decide), fun _ b0 b1 b2 b3 e => by cases e; exact cb_X6_ofKindUnder l G (d + 1 * n) (rc_X6_ofCurve t n) t ih σ a0 a1 a2 a3 r0 s0 h, fun e => absurd e (by decide)⟩
    · next a0 a1 a2 a3 =>
      obtain ⟨r0, s0⟩ := p
      exact ⟨gd_f_X6_voiceFrom h, fun e => absurd e (by decide), fun e => absurd e (by decide), fun _ b0 b1 b2 b3 e => by cases e; exact cb_X6_voiceFrom l G (d + 1 * n) (rc_X6_ofCurve t n) t ih σ a0 a1 a2 a3 r0 s0 h⟩
    · cases h
def g_X6_ofCurve (σ : St) (t : Nat) (a0 : Int32) (a1 : Int32) (a2 : Int32) : Option (Int32 × St) := rc_X6_ofCurve t 60 0 [a0, a1, a2] σ
theorem c_X6_ofCurve (l : Launch) (G : Gd) (d : Nat) (σ : St) (t : Nat) (a0 : Int32) (a1 : Int32) (a2 : Int32) (r0 : Int32) (σ' : St) (hf : g_X6_ofCurve σ t a0 a1 a2 = some (r0, σ')) : MetV l G (d + 60) mi_X6_ofCurve [.ref t, .int a0, .int a1, .int a2] σ (some (.int r0)) σ' 0 0 := by
  unfold g_X6_ofCurve at hf
  have hp := hf
  exact (cr_X6_ofCurve l G d t 60 0 _ σ _ hp).2.1 rfl _ _ _ rfl
theorem gd_X6_ofCurve {σ : St} {t : Nat} {a0 : Int32} {a1 : Int32} {a2 : Int32} {r : Int32 × St} (h : g_X6_ofCurve σ t a0 a1 a2 = some r) : isO σ 5 t = true := by
  unfold g_X6_ofCurve at h
  have hp := h
  have hx : rc_X6_ofCurve t (59 + 1) 0 _ σ = some _ := hp
  rw [rc_X6_ofCurve] at hx
  exact gd_f_X6_ofCurve hx
def g_X6_ofKindUnder (σ : St) (t : Nat) (a0 : Int32) (a1 : Int32) (a2 : Int32) (a3 : Int32) : Option (Int32 × St) := rc_X6_ofCurve t 60 1 [a0, a1, a2, a3] σ
theorem c_X6_ofKindUnder (l : Launch) (G : Gd) (d : Nat) (σ : St) (t : Nat) (a0 : Int32) (a1 : Int32) (a2 : Int32) (a3 : Int32) (r0 : Int32) (σ' : St) (hf : g_X6_ofKindUnder σ t a0 a1 a2 a3 = some (r0, σ')) : MetV l G (d + 60) mi_X6_ofKindUnder [.ref t, .int a0, .int a1, .int a2, .int a3] σ (some (.int r0)) σ' 0 0 := by
  unfold g_X6_ofKindUnder at hf
  have hp := hf
  exact (cr_X6_ofCurve l G d t 60 1 _ σ _ hp).2.2.1 rfl _ _ _ _ rfl
theorem gd_X6_ofKindUnder {σ : St} {t : Nat} {a0 : Int32} {a1 : Int32} {a2 : Int32} {a3 : Int32} {r : Int32 × St} (h : g_X6_ofKindUnder σ t a0 a1 a2 a3 = some r) : isO σ 5 t = true := by
  unfold g_X6_ofKindUnder at h
  have hp := h
  have hx : rc_X6_ofCurve t (59 + 1) 1 _ σ = some _ := hp
  rw [rc_X6_ofCurve] at hx
  exact gd_f_X6_ofKindUnder hx
def g_X6_voiceFrom (σ : St) (t : Nat) (a0 : Int32) (a1 : Int32) (a2 : Int32) (a3 : Int32) : Option (Int32 × St) := rc_X6_ofCurve t 60 2 [a0, a1, a2, a3] σ
theorem c_X6_voiceFrom (l : Launch) (G : Gd) (d : Nat) (σ : St) (t : Nat) (a0 : Int32) (a1 : Int32) (a2 : Int32) (a3 : Int32) (r0 : Int32) (σ' : St) (hf : g_X6_voiceFrom σ t a0 a1 a2 a3 = some (r0, σ')) : MetV l G (d + 60) mi_X6_voiceFrom [.ref t, .int a0, .int a1, .int a2, .int a3] σ (some (.int r0)) σ' 0 0 := by
  unfold g_X6_voiceFrom at hf
  have hp := hf
  exact (cr_X6_ofCurve l G d t 60 2 _ σ _ hp).2.2.2 rfl _ _ _ _ rfl
theorem gd_X6_voiceFrom {σ : St} {t : Nat} {a0 : Int32} {a1 : Int32} {a2 : Int32} {a3 : Int32} {r : Int32 × St} (h : g_X6_voiceFrom σ t a0 a1 a2 a3 = some r) : isO σ 5 t = true := by
  unfold g_X6_voiceFrom at h
  have hp := h
  have hx : rc_X6_ofCurve t (59 + 1) 2 _ σ = some _ := hp
  rw [rc_X6_ofCurve] at hx
  exact gd_f_X6_voiceFrom hx
abbrev mi_X6_speak : MI := (yX6_speak, cX6_speak, 6, some .int)
theorem ok_X6_speak : OkN mi_X6_speak 5 := ⟨wd_cd_X6_speak, wd_in_X6, ⟨by decide +kernel, by decide +kernel, by decide +kernel⟩, by decide⟩
theorem okv_X6_speak : Cond.instanceMethod (mi_X6_speak).1 ∈ tb ∧ Cond.selects (mi_X6_speak).1.cls (mi_X6_speak).1 (mi_X6_speak).1 ∈ tb := ⟨wd_im_X6_speak, wd_se_X6_speak⟩
def f_X6_speak (σ : St) (t : Nat) (a0 : Int32) (a1 : Int32) (a2 : Int32) (a3 : Int32) (a4 : Int32) : Option (Int32 × St) := if isO σ 5 t = true then ((pI σ 5 t 3 a0).bind fun s2 => (pI s2 5 t 4 a1).bind fun s4 => (pI s4 5 t 5 a2).bind fun s6 => (pI s6 5 t 1 0).bind fun s8 => (pZ s8 5 t 2 0).bind fun s10 => (gI s10 5 t 3).bind fun v12 => (g_X6_voiceFrom s10 t v12 a3 a4 0).bind fun p14 => some (p14.1, p14.2)) else none
theorem gd_X6_speak {σ : St} {t : Nat} {a0 : Int32} {a1 : Int32} {a2 : Int32} {a3 : Int32} {a4 : Int32} {r : Int32 × St} (h : f_X6_speak σ t a0 a1 a2 a3 a4 = some r) : isO σ 5 t = true := by
  unfold f_X6_speak at h
  by_cases hg : isO σ 5 t = true
  · exact hg
  · rw [if_neg hg] at h
    cases h
set_option maxRecDepth 100000 in
set_option maxHeartbeats 4000000 in
theorem c_X6_speak (l : Launch) (G : Gd) (d : Nat) (σ : St) (t : Nat) (a0 : Int32) (a1 : Int32) (a2 : Int32) (a3 : Int32) (a4 : Int32) (r0 : Int32) (σ' : St) (hf : f_X6_speak σ t a0 a1 a2 a3 a4 = some (r0, σ')) : MetV l G (d + 61) mi_X6_speak [.ref t, .int a0, .int a1, .int a2, .int a3, .int a4] σ (some (.int r0)) σ' 0 0 := by
  unfold f_X6_speak at hf
  refine MetV.of [(0, .ref t), (1, .int a0), (2, .int a1), (3, .int a2), (4, .int a3), (5, .int a4)] (by decide +kernel) rfl (Nat.le_of_ble_eq_true rfl) ?_
  intro X hQ
  by_cases hg : isO σ 5 t = true
  · rw [if_pos hg] at hf
    refine V_aload_n 0 1 rfl dX6_speak_0 rfl rfl ?_
    refine V_iload_n 1 2 rfl dX6_speak_1 rfl rfl ?_
    obtain ⟨s2, h1, hf⟩ := ob hf
    refine V_putI (n := 6) (T := TX6) (ty := tyX6) (f := 3) 5 h1 cf_5 rfl rfl (Or.inl rfl) wd_fl_X6_21 dX6_speak_2 rfl ?_
    refine V_aload_n 0 6 rfl dX6_speak_5 rfl rfl ?_
    refine V_iload_n 2 7 rfl dX6_speak_6 rfl rfl ?_
    obtain ⟨s4, h3, hf⟩ := ob hf
    refine V_putI (n := 6) (T := TX6) (ty := tyX6) (f := 4) 10 h3 cf_5 rfl rfl (Or.inl rfl) wd_fl_X6_24 dX6_speak_7 rfl ?_
    refine V_aload_n 0 11 rfl dX6_speak_10 rfl rfl ?_
    refine V_iload_n 3 12 rfl dX6_speak_11 rfl rfl ?_
    obtain ⟨s6, h5, hf⟩ := ob hf
    refine V_putI (n := 6) (T := TX6) (ty := tyX6) (f := 5) 15 h5 cf_5 rfl rfl (Or.inl rfl) wd_fl_X6_27 dX6_speak_12 rfl ?_
    refine V_aload_n 0 16 rfl dX6_speak_15 rfl rfl ?_
    refine V_iconst 0 17 dX6_speak_16 rfl kiconst_0 ?_
    obtain ⟨s8, h7, hf⟩ := ob hf
    refine V_putI (n := 6) (T := TX6) (ty := tyX6) (f := 1) 20 h7 cf_5 rfl rfl (Or.inl rfl) wd_fl_X6_13 dX6_speak_17 rfl ?_
    refine V_aload_n 0 21 rfl dX6_speak_20 rfl rfl ?_
    refine V_iconst 0 22 dX6_speak_21 rfl kiconst_0 ?_
    obtain ⟨s10, h9, hf⟩ := ob hf
    refine V_putZ (n := 6) (T := TX6) (ty := tyX6) (f := 2) 25 h9 cf_5 rfl rfl (Or.inl rfl) wd_fl_X6_17 dX6_speak_22 rfl ?_
    refine V_aload_n 0 26 rfl dX6_speak_25 rfl rfl ?_
    refine V_aload_n 0 27 rfl dX6_speak_26 rfl rfl ?_
    obtain ⟨v12, h11, hf⟩ := ob hf
    refine V_getI (n := 6) (ty := tyX6) 30 h11 cf_5 rfl wd_fl_X6_21 dX6_speak_27 rfl ?_
    refine V_iload 4 32 rfl dX6_speak_30 rfl ?_
    refine V_iload 5 34 rfl dX6_speak_32 rfl ?_
    refine V_iconst 0 35 dX6_speak_34 rfl kiconst_0 ?_
    obtain ⟨p14, h13, hf⟩ := ob hf
    refine V_callV (rest := []) (T := TX6) (n := 6) (ci := 5) 0 0 38 [.int p14.1] (c_X6_voiceFrom l G (d + 0) _ _ _ _ _ _ _ _ h13) (by omega) ok_X6_voiceFrom okv_X6_voiceFrom (gd_X6_voiceFrom h13) rfl wd_ml_X6_33 rfl rfl (Nat.le_of_ble_eq_true rfl) rfl rfl (Or.inl ⟨rfl, rfl⟩) dX6_speak_35 rfl rfl ?_
    have er := Option.some.inj hf
    obtain ⟨e1, e2⟩ := Prod.mk.inj er
    subst e1
    subst e2
    exact V_iret hQ rfl dX6_speak_38
  · rw [if_neg hg] at hf
    cases hf
