abbrev mi_X5_init : MI := (yX5_init, cX5_init, 3, none)
theorem ok_X5_init : OkN mi_X5_init 2 := ⟨wd_cd_X5_init, wd_in_X5, ⟨by decide +kernel, by decide +kernel, by decide +kernel⟩, by decide⟩
theorem oki_X5_init : (mi_X5_init).1.name = "<init>" ∧ Cond.instanceMethod (mi_X5_init).1 ∈ tb ∧ (mi_X5_init).2.2.2 = none := ⟨rfl, wd_im_X5_init, rfl⟩
def f_X5_init (σ : St) (t : Nat) (a0 : Int32) (a1 : Int32) : Option St := if isO σ 4 t = true then ((pI σ 4 t 3 0).bind fun s2 => (pI s2 4 t 0 a0).bind fun s4 => (pI s4 4 t 1 a1).bind fun s6 => (f_J9_max_7cf53 s6 0 (a0 * a1)).bind fun v8 => (nwA s6 0 v8).bind fun s10 => (pQ s10 4 t 2 s6.2.2).bind fun s12 => some s12) else none
theorem gd_X5_init {σ : St} {t : Nat} {a0 : Int32} {a1 : Int32} {r : St} (h : f_X5_init σ t a0 a1 = some r) : isO σ 4 t = true := by
  unfold f_X5_init at h
  by_cases hg : isO σ 4 t = true
  · exact hg
  · rw [if_neg hg] at h
    cases h
set_option maxRecDepth 100000 in
set_option maxHeartbeats 4000000 in
theorem c_X5_init (l : Launch) (G : Gd) (d : Nat) (σ : St) (t : Nat) (a0 : Int32) (a1 : Int32) (σ' : St) (hf : f_X5_init σ t a0 a1 = some σ') : MetV l G (d + 2) mi_X5_init [.ref t, .int a0, .int a1] σ none σ' 1 1300 := by
  unfold f_X5_init at hf
  obtain ⟨mc0, emc⟩ : ∃ z : Nat, z = 1 := ⟨_, rfl⟩
  obtain ⟨ms0, ems⟩ : ∃ z : Nat, z = 1300 := ⟨_, rfl⟩
  rw [← emc, ← ems]
  refine MetV.of [(0, .ref t), (1, .int a0), (2, .int a1)] (by decide +kernel) rfl (Nat.le_of_ble_eq_true rfl) ?_
  intro X hQ
  by_cases hg : isO σ 4 t = true
  · rw [if_pos hg] at hf
    refine V_aload_n 0 1 rfl dX5_init_0 rfl rfl ?_
    refine V_objInit 4 wd_ml_X5_1 wd_im_java_lang_Object__init_ wd_objc (by omega) (Nat.le_of_ble_eq_true rfl) dX5_init_1 rfl ?_
    refine V_aload_n 0 5 rfl dX5_init_4 rfl rfl ?_
    refine V_iconst 0 6 dX5_init_5 rfl kiconst_0 ?_
    obtain ⟨s2, h1, hf⟩ := ob hf
    refine V_putI (n := 4) (T := TX5) (ty := tyX5) (f := 3) 9 h1 cf_4 rfl rfl (Or.inl rfl) wd_fl_X5_7 dX5_init_6 rfl ?_
    refine V_aload_n 0 10 rfl dX5_init_9 rfl rfl ?_
    refine V_iload_n 1 11 rfl dX5_init_10 rfl rfl ?_
    obtain ⟨s4, h3, hf⟩ := ob hf
    refine V_putI (n := 4) (T := TX5) (ty := tyX5) (f := 0) 14 h3 cf_4 rfl rfl (Or.inr ⟨rfl, rfl, rfl⟩) wd_fl_X5_13 dX5_init_11 rfl ?_
    refine V_aload_n 0 15 rfl dX5_init_14 rfl rfl ?_
    refine V_iload_n 2 16 rfl dX5_init_15 rfl rfl ?_
    obtain ⟨s6, h5, hf⟩ := ob hf
    refine V_putI (n := 4) (T := TX5) (ty := tyX5) (f := 1) 19 h5 cf_4 rfl rfl (Or.inr ⟨rfl, rfl, rfl⟩) wd_fl_X5_16 dX5_init_16 rfl ?_
    refine V_aload_n 0 20 rfl dX5_init_19 rfl rfl ?_
    refine V_iconst 0 21 dX5_init_20 rfl kiconst_0 ?_
    refine V_iload_n 1 22 rfl dX5_init_21 rfl rfl ?_
    refine V_iload_n 2 23 rfl dX5_init_22 rfl rfl ?_
    refine V_imul 24 dX5_init_23 rfl ?_
    obtain ⟨v8, h7, hf⟩ := ob hf
    refine V_callS (rest := [.ref t]) 0 0 27 [.int v8, .ref t] (c_J9_max_7cf53 l G (d + 0) _ _ _ _ h7) (by omega) ok_J9_max_7cf53 oks_J9_max_7cf53 wd_ml_X5_19 rfl rfl (Nat.le_of_ble_eq_true rfl) rfl rfl (Or.inl ⟨rfl, rfl⟩) dX5_init_24 rfl rfl ?_
    obtain ⟨s10, h9, hf⟩ := ob hf
    refine V_newa (fty := .int) 29 h9 (by decide) wd_ac_int (by omega) (by have := nwA_le h9; omega) dX5_init_27 rfl ?_
    refine V_cnt (ce1 := (0 + 1)) (sl1 := (0 + 1300)) (by omega) (by have := nwA_le h9; omega) ?_
    obtain ⟨s12, h11, hf⟩ := ob hf
    refine V_putQ (n := 4) (T := TX5) (ty := tyX5) (f := 2) 32 h11 cf_4 rfl (Or.inr ⟨_, rfl⟩) (Or.inr ⟨rfl, rfl, rfl⟩) wd_fl_X5_25 dX5_init_29 rfl ?_
    have er := Option.some.inj hf
    subst er
    exact V_vret hQ rfl dX5_init_32
  · rw [if_neg hg] at hf
    cases hf
abbrev mi_X1_init : MI := (yX1_init, cX1_init, 1, none)
theorem ok_X1_init : OkN mi_X1_init 0 := ⟨wd_cd_X1_init, wd_in_X1, ⟨by decide +kernel, by decide +kernel, by decide +kernel⟩, by decide⟩
theorem oki_X1_init : (mi_X1_init).1.name = "<init>" ∧ Cond.instanceMethod (mi_X1_init).1 ∈ tb ∧ (mi_X1_init).2.2.2 = none := ⟨rfl, wd_im_X1_init, rfl⟩
def f_X1_init (σ : St) (t : Nat) : Option St := if isO σ 0 t = true then ((nwA σ 1 56).bind fun s2 => (pQ s2 0 t 0 σ.2.2).bind fun s4 => (pI s4 0 t 1 0).bind fun s6 => some s6) else none
theorem gd_X1_init {σ : St} {t : Nat} {r : St} (h : f_X1_init σ t = some r) : isO σ 0 t = true := by
  unfold f_X1_init at h
  by_cases hg : isO σ 0 t = true
  · exact hg
  · rw [if_neg hg] at h
    cases h
set_option maxRecDepth 100000 in
set_option maxHeartbeats 4000000 in
theorem c_X1_init (l : Launch) (G : Gd) (d : Nat) (σ : St) (t : Nat) (σ' : St) (hf : f_X1_init σ t = some σ') : MetV l G (d + 2) mi_X1_init [.ref t] σ none σ' 1 56 := by
  unfold f_X1_init at hf
  obtain ⟨mc0, emc⟩ : ∃ z : Nat, z = 1 := ⟨_, rfl⟩
  obtain ⟨ms0, ems⟩ : ∃ z : Nat, z = 56 := ⟨_, rfl⟩
  rw [← emc, ← ems]
  refine MetV.of [(0, .ref t)] (by decide +kernel) rfl (Nat.le_of_ble_eq_true rfl) ?_
  intro X hQ
  by_cases hg : isO σ 0 t = true
  · rw [if_pos hg] at hf
    refine V_aload_n 0 1 rfl dX1_init_0 rfl rfl ?_
    refine V_objInit 4 wd_ml_X1_1 wd_im_java_lang_Object__init_ wd_objc (by omega) (Nat.le_of_ble_eq_true rfl) dX1_init_1 rfl ?_
    refine V_aload_n 0 5 rfl dX1_init_4 rfl rfl ?_
    refine V_bipush 56 7 dX1_init_5 rfl kbipush_56 ?_
    obtain ⟨s2, h1, hf⟩ := ob hf
    refine V_newa (fty := .byte) 9 h1 (by decide) wd_ac_byte (by omega) (by rw [show (56 : Int32).toNatClampNeg = 56 from by decide]; omega) dX1_init_7 rfl ?_
    refine V_cnt (ce1 := (0 + 1)) (sl1 := (0 + 56)) (by omega) (by rw [show (56 : Int32).toNatClampNeg = 56 from by decide]; omega) ?_
    obtain ⟨s4, h3, hf⟩ := ob hf
    refine V_putQ (n := 2) (T := TX1) (ty := tyX1) (f := 0) 12 h3 cf_0 rfl (Or.inr ⟨_, rfl⟩) (Or.inr ⟨rfl, rfl, rfl⟩) wd_fl_X1_9 dX1_init_9 rfl ?_
    refine V_aload_n 0 13 rfl dX1_init_12 rfl rfl ?_
    refine V_iconst 0 14 dX1_init_13 rfl kiconst_0 ?_
    obtain ⟨s6, h5, hf⟩ := ob hf
    refine V_putI (n := 2) (T := TX1) (ty := tyX1) (f := 1) 17 h5 cf_0 rfl rfl (Or.inl rfl) wd_fl_X1_13 dX1_init_14 rfl ?_
    have er := Option.some.inj hf
    subst er
    exact V_vret hQ rfl dX1_init_17
  · rw [if_neg hg] at hf
    cases hf
abbrev mi_X5_add : MI := (yX5_add, cX5_add, 2, some .int)
theorem ok_X5_add : OkN mi_X5_add 0 := ⟨wd_cd_X5_add, wd_in_X5, ⟨by decide +kernel, by decide +kernel, by decide +kernel⟩, by decide⟩
theorem okv_X5_add : Cond.instanceMethod (mi_X5_add).1 ∈ tb ∧ Cond.selects (mi_X5_add).1.cls (mi_X5_add).1 (mi_X5_add).1 ∈ tb := ⟨wd_im_X5_add, wd_se_X5_add⟩
def f_X5_add_L15 (t : Nat) : Nat → Int32 → St → Option (Int32 × St)
  | 0, _, _ => none
  | n + 1, x1, σ => (gI σ 4 t 0).bind fun v7 => if v7 ≤ x1 then (some (x1, σ)) else ((gQ σ 4 t 2).bind fun q10 => (gI σ 4 t 3).bind fun v12 => (gI σ 4 t 0).bind fun v14 => (sI σ q10 ((v12 * v14) + x1) 0).bind fun s16 => f_X5_add_L15 t n (x1 + 1) s16)
def f_X5_add (σ : St) (t : Nat) : Option (Int32 × St) := if isO σ 4 t = true then ((gI σ 4 t 3).bind fun v2 => (gI σ 4 t 1).bind fun v4 => if v2 < v4 then ((f_X5_add_L15 t 3000 0 σ).bind fun p17 => (gI p17.2 4 t 3).bind fun v20 => (pI p17.2 4 t 3 (v20 + 1)).bind fun s22 => (gI s22 4 t 3).bind fun v24 => some (v24 - 1, s22)) else (some ((-1), σ))) else none
theorem gd_X5_add {σ : St} {t : Nat} {r : Int32 × St} (h : f_X5_add σ t = some r) : isO σ 4 t = true := by
  unfold f_X5_add at h
  by_cases hg : isO σ 4 t = true
  · exact hg
  · rw [if_neg hg] at h
    cases h
set_option maxRecDepth 100000 in
set_option maxHeartbeats 4000000 in
theorem c_X5_add (l : Launch) (G : Gd) (d : Nat) (σ : St) (t : Nat) (r0 : Int32) (σ' : St) (hf : f_X5_add σ t = some (r0, σ')) : MetV l G (d + 1) mi_X5_add [.ref t] σ (some (.int r0)) σ' 0 0 := by
  unfold f_X5_add at hf
  refine MetV.of [(0, .ref t)] (by decide +kernel) rfl (Nat.le_of_ble_eq_true rfl) ?_
  intro X hQ
  have L15 : ∀  (n : Nat) (x1 : Int32) (σ : St) (p : Int32 × St), f_X5_add_L15 t n x1 σ = some p → V mi_X5_add l G (d + 1) 0 0 X 0 0 46 [(1, .int p.1), (0, .ref t)] [] p.2 → V mi_X5_add l G (d + 1) 0 0 X 0 0 15 [(1, .int x1), (0, .ref t)] [] σ := by
    intro  n
    induction n with
    | zero =>
      intro x1 σ p hf
      exact absurd (show (none : Option _) = some p from hf) (by simp)
    | succ n ih =>
      intro x1 σ p hf hk
      rw [f_X5_add_L15] at hf
      refine V_iload_n 0 16 rfl dX5_add_15 rfl rfl ?_
      refine V_aload_n 1 17 rfl dX5_add_16 rfl rfl ?_
      obtain ⟨v7, h6, hf⟩ := ob hf
      refine V_getI (n := 4) (ty := tyX5) 20 h6 cf_4 rfl wd_fl_X5_13 dX5_add_17 rfl ?_
      refine V_icmp_ge 46 23 dX5_add_20 (by decide) rfl (fun c8 => ?_) (fun c8 => ?_)
      · rw [if_pos c8] at hf
        have ep := Option.some.inj hf
        subst ep
        refine V_ls [(1, .int x1), (0, .ref t)] [0, 1] rfl ?_
        exact hk
      · rw [if_neg c8] at hf
        refine V_aload_n 1 24 rfl dX5_add_23 rfl rfl ?_
        obtain ⟨q10, h9, hf⟩ := ob hf
        refine V_getQ (n := 4) (ty := tyX5) 27 h9 cf_4 rfl wd_fl_X5_25 dX5_add_24 rfl ?_
        refine V_aload_n 1 28 rfl dX5_add_27 rfl rfl ?_
        obtain ⟨v12, h11, hf⟩ := ob hf
        refine V_getI (n := 4) (ty := tyX5) 31 h11 cf_4 rfl wd_fl_X5_7 dX5_add_28 rfl ?_
        refine V_aload_n 1 32 rfl dX5_add_31 rfl rfl ?_
        obtain ⟨v14, h13, hf⟩ := ob hf
        refine V_getI (n := 4) (ty := tyX5) 35 h13 cf_4 rfl wd_fl_X5_13 dX5_add_32 rfl ?_
        refine V_imul 36 dX5_add_35 rfl ?_
        refine V_iload_n 0 37 rfl dX5_add_36 rfl rfl ?_
        refine V_iadd 38 dX5_add_37 rfl ?_
        refine V_iconst 0 39 dX5_add_38 rfl kiconst_0 ?_
        obtain ⟨s16, h15, hf⟩ := ob hf
        refine V_iast 40 h15 dX5_add_39 rfl ?_
        refine V_iinc (x1 + 1) 0 [(1, .int (x1 + 1)), (0, .ref t)] 43 dX5_add_40 rfl (by rw [kiconst_1]) (by decide) rfl rfl ?_
        refine V_goto 15 dX5_add_43 (by decide) ?_
        refine V_ls [(1, .int (x1 + 1)), (0, .ref t)] [0, 1] rfl ?_
        exact ih _ _ _ hf hk
  by_cases hg : isO σ 4 t = true
  · rw [if_pos hg] at hf
    refine V_aload_n 0 1 rfl dX5_add_0 rfl rfl ?_
    obtain ⟨v2, h1, hf⟩ := ob hf
    refine V_getI (n := 4) (ty := tyX5) 4 h1 cf_4 rfl wd_fl_X5_7 dX5_add_1 rfl ?_
    refine V_aload_n 0 5 rfl dX5_add_4 rfl rfl ?_
    obtain ⟨v4, h3, hf⟩ := ob hf
    refine V_getI (n := 4) (ty := tyX5) 8 h3 cf_4 rfl wd_fl_X5_16 dX5_add_5 rfl ?_
    refine V_icmp_lt 13 11 dX5_add_8 (by decide) rfl (fun c5 => ?_) (fun c5 => ?_)
    · rw [if_pos c5] at hf
      refine V_iconst 0 14 dX5_add_13 rfl kiconst_0 ?_
      refine V_istore_n [(1, .int 0), (0, .ref t)] 15 dX5_add_14 rfl (by decide) rfl rfl ?_
      obtain ⟨p17, h18, hf⟩ := ob hf
      refine V_ls [(1, .int 0), (0, .ref t)] [0, 1] rfl ?_
      refine L15 3000 0 σ p17 h18 ?_
      refine V_aload_n 1 47 rfl dX5_add_46 rfl rfl ?_
      refine V_dup 48 dX5_add_47 rfl rfl ?_
      obtain ⟨v20, h19, hf⟩ := ob hf
      refine V_getI (n := 4) (ty := tyX5) 51 h19 cf_4 rfl wd_fl_X5_7 dX5_add_48 rfl ?_
      refine V_iconst 1 52 dX5_add_51 rfl kiconst_1 ?_
      refine V_iadd 53 dX5_add_52 rfl ?_
      obtain ⟨s22, h21, hf⟩ := ob hf
      refine V_putI (n := 4) (T := TX5) (ty := tyX5) (f := 3) 56 h21 cf_4 rfl rfl (Or.inl rfl) wd_fl_X5_7 dX5_add_53 rfl ?_
      refine V_aload_n 1 57 rfl dX5_add_56 rfl rfl ?_
      obtain ⟨v24, h23, hf⟩ := ob hf
      refine V_getI (n := 4) (ty := tyX5) 60 h23 cf_4 rfl wd_fl_X5_7 dX5_add_57 rfl ?_
      refine V_iconst 1 61 dX5_add_60 rfl kiconst_1 ?_
      refine V_isub 62 dX5_add_61 rfl ?_
      have er := Option.some.inj hf
      obtain ⟨e1, e2⟩ := Prod.mk.inj er
      subst e1
      subst e2
      exact V_iret hQ rfl dX5_add_62
    · rw [if_neg c5] at hf
      refine V_iconst (-1) 12 dX5_add_11 rfl kiconst_m1 ?_
      have er := Option.some.inj hf
      obtain ⟨e1, e2⟩ := Prod.mk.inj er
      subst e1
      subst e2
      exact V_iret hQ rfl dX5_add_12
  · rw [if_neg hg] at hf
    cases hf
abbrev mi_X5_set : MI := (yX5_set, cX5_set, 4, none)
theorem ok_X5_set : OkN mi_X5_set 3 := ⟨wd_cd_X5_set, wd_in_X5, ⟨by decide +kernel, by decide +kernel, by decide +kernel⟩, by decide⟩
theorem okv_X5_set : Cond.instanceMethod (mi_X5_set).1 ∈ tb ∧ Cond.selects (mi_X5_set).1.cls (mi_X5_set).1 (mi_X5_set).1 ∈ tb := ⟨wd_im_X5_set, wd_se_X5_set⟩
def f_X5_set (σ : St) (t : Nat) (a0 : Int32) (a1 : Int32) (a2 : Int32) : Option St := if isO σ 4 t = true then (if a0 < 0 then (some σ) else ((gI σ 4 t 3).bind fun v3 => if v3 ≤ a0 then (some σ) else (if a1 < 0 then (some σ) else ((gI σ 4 t 0).bind fun v7 => if v7 ≤ a1 then (some σ) else ((gQ σ 4 t 2).bind fun q10 => (gI σ 4 t 0).bind fun v12 => (sI σ q10 ((a0 * v12) + a1) a2).bind fun s14 => some s14))))) else none
theorem gd_X5_set {σ : St} {t : Nat} {a0 : Int32} {a1 : Int32} {a2 : Int32} {r : St} (h : f_X5_set σ t a0 a1 a2 = some r) : isO σ 4 t = true := by
  unfold f_X5_set at h
  by_cases hg : isO σ 4 t = true
  · exact hg
  · rw [if_neg hg] at h
    cases h
set_option maxRecDepth 100000 in
set_option maxHeartbeats 4000000 in
theorem c_X5_set (l : Launch) (G : Gd) (d : Nat) (σ : St) (t : Nat) (a0 : Int32) (a1 : Int32) (a2 : Int32) (σ' : St) (hf : f_X5_set σ t a0 a1 a2 = some σ') : MetV l G (d + 1) mi_X5_set [.ref t, .int a0, .int a1, .int a2] σ none σ' 0 0 := by
  unfold f_X5_set at hf
  refine MetV.of [(0, .ref t), (1, .int a0), (2, .int a1), (3, .int a2)] (by decide +kernel) rfl (Nat.le_of_ble_eq_true rfl) ?_
  intro X hQ
  by_cases hg : isO σ 4 t = true
  · rw [if_pos hg] at hf
    refine V_iload_n 1 1 rfl dX5_set_0 rfl rfl ?_
    refine V_if_lt 38 4 dX5_set_1 (by decide) rfl (fun c1 => ?_) (fun c1 => ?_)
    · rw [if_pos c1] at hf
      have er := Option.some.inj hf
      subst er
      exact V_vret hQ rfl dX5_set_38
    · rw [if_neg c1] at hf
      refine V_iload_n 1 5 rfl dX5_set_4 rfl rfl ?_
      refine V_aload_n 0 6 rfl dX5_set_5 rfl rfl ?_
      obtain ⟨v3, h2, hf⟩ := ob hf
      refine V_getI (n := 4) (ty := tyX5) 9 h2 cf_4 rfl wd_fl_X5_7 dX5_set_6 rfl ?_
      refine V_icmp_ge 38 12 dX5_set_9 (by decide) rfl (fun c4 => ?_) (fun c4 => ?_)
      · rw [if_pos c4] at hf
        have er := Option.some.inj hf
        subst er
        exact V_vret hQ rfl dX5_set_38
      · rw [if_neg c4] at hf
        refine V_iload_n 2 13 rfl dX5_set_12 rfl rfl ?_
        refine V_if_lt 38 16 dX5_set_13 (by decide) rfl (fun c5 => ?_) (fun c5 => ?_)
        · rw [if_pos c5] at hf
          have er := Option.some.inj hf
          subst er
          exact V_vret hQ rfl dX5_set_38
        · rw [if_neg c5] at hf
          refine V_iload_n 2 17 rfl dX5_set_16 rfl rfl ?_
          refine V_aload_n 0 18 rfl dX5_set_17 rfl rfl ?_
          obtain ⟨v7, h6, hf⟩ := ob hf
          refine V_getI (n := 4) (ty := tyX5) 21 h6 cf_4 rfl wd_fl_X5_13 dX5_set_18 rfl ?_
          refine V_icmp_ge 38 24 dX5_set_21 (by decide) rfl (fun c8 => ?_) (fun c8 => ?_)
          · rw [if_pos c8] at hf
            have er := Option.some.inj hf
            subst er
            exact V_vret hQ rfl dX5_set_38
          · rw [if_neg c8] at hf
            refine V_aload_n 0 25 rfl dX5_set_24 rfl rfl ?_
            obtain ⟨q10, h9, hf⟩ := ob hf
            refine V_getQ (n := 4) (ty := tyX5) 28 h9 cf_4 rfl wd_fl_X5_25 dX5_set_25 rfl ?_
            refine V_iload_n 1 29 rfl dX5_set_28 rfl rfl ?_
            refine V_aload_n 0 30 rfl dX5_set_29 rfl rfl ?_
            obtain ⟨v12, h11, hf⟩ := ob hf
            refine V_getI (n := 4) (ty := tyX5) 33 h11 cf_4 rfl wd_fl_X5_13 dX5_set_30 rfl ?_
            refine V_imul 34 dX5_set_33 rfl ?_
            refine V_iload_n 2 35 rfl dX5_set_34 rfl rfl ?_
            refine V_iadd 36 dX5_set_35 rfl ?_
            refine V_iload_n 3 37 rfl dX5_set_36 rfl rfl ?_
            obtain ⟨s14, h13, hf⟩ := ob hf
            refine V_iast 38 h13 dX5_set_37 rfl ?_
            have er := Option.some.inj hf
            subst er
            exact V_vret hQ rfl dX5_set_38
  · rw [if_neg hg] at hf
    cases hf
abbrev mi_X4_init : MI := (yX4_init, cX4_init, 2, none)
theorem ok_X4_init : OkN mi_X4_init 0 := ⟨wd_cd_X4_init, wd_in_X4, ⟨by decide +kernel, by decide +kernel, by decide +kernel⟩, by decide⟩
theorem oki_X4_init : (mi_X4_init).1.name = "<init>" ∧ Cond.instanceMethod (mi_X4_init).1 ∈ tb ∧ (mi_X4_init).2.2.2 = none := ⟨rfl, wd_im_X4_init, rfl⟩
def f_X4_init_L136 (t : Nat) : Nat → Int32 → St → Option (Int32 × St)
  | 0, _, _ => none
  | n + 1, x1, σ => if 4 ≤ x1 then (some (x1, σ)) else ((gQ σ 3 t 0).bind fun q61 => (gQ σ 3 t 0).bind fun q63 => (f_X5_add σ q63).bind fun p65 => (f_X5_set p65.2 q61 p65.1 0 1).bind fun s67 => f_X4_init_L136 t n (x1 + 1) s67)
def f_X4_init_L165 (t : Nat) : Nat → Int32 → St → Option (Int32 × St)
  | 0, _, _ => none
  | n + 1, x1, σ => (gQ σ 3 t 9).bind fun q71 => (aL σ 2 q71).bind fun v72 => if v72 ≤ x1 then (some (x1, σ)) else ((gQ σ 3 t 9).bind fun q76 => (nwO σ 0).bind fun s78 => (f_X1_init s78 σ.2.2).bind fun s80 => (sQ s80 2 0 q76 x1 σ.2.2).bind fun s82 => f_X4_init_L165 t n (x1 + 1) s82)
def f_X4_init (σ : St) (t : Nat) : Option St := if isO σ 3 t = true then ((nwO σ 4).bind fun s2 => (f_X5_init s2 σ.2.2 3 4).bind fun s4 => (pQ s4 3 t 0 σ.2.2).bind fun s6 => (nwO s6 4).bind fun s8 => (f_X5_init s8 s6.2.2 5 12).bind fun s10 => (pQ s10 3 t 1 s6.2.2).bind fun s12 => (nwO s12 4).bind fun s14 => (f_X5_init s14 s12.2.2 5 24).bind fun s16 => (pQ s16 3 t 2 s12.2.2).bind fun s18 => (nwA s18 0 576).bind fun s20 => (pQ s20 3 t 3 s18.2.2).bind fun s22 => (nwO s22 4).bind fun s24 => (f_X5_init s24 s22.2.2 3 20).bind fun s26 => (pQ s26 3 t 4 s22.2.2).bind fun s28 => (nwO s28 4).bind fun s30 => (f_X5_init s30 s28.2.2 4 30).bind fun s32 => (pQ s32 3 t 5 s28.2.2).bind fun s34 => (nwO s34 4).bind fun s36 => (f_X5_init s36 s34.2.2 2 8).bind fun s38 => (pQ s38 3 t 6 s34.2.2).bind fun s40 => (nwO s40 4).bind fun s42 => (f_X5_init s42 s40.2.2 1 24).bind fun s44 => (pQ s44 3 t 7 s40.2.2).bind fun s46 => (nwO s46 0).bind fun s48 => (f_X1_init s48 s46.2.2).bind fun s50 => (pQ s50 3 t 8 s46.2.2).bind fun s52 => (nwA s52 2 3).bind fun s54 => (pQ s54 3 t 9 s52.2.2).bind fun s56 => (pI s56 3 t 10 1).bind fun s58 => (f_X4_init_L136 t 3000 0 s58).bind fun p68 => (f_X4_init_L165 t 8 0 p68.2).bind fun p83 => some p83.2) else none
theorem gd_X4_init {σ : St} {t : Nat} {r : St} (h : f_X4_init σ t = some r) : isO σ 3 t = true := by
  unfold f_X4_init at h
  by_cases hg : isO σ 3 t = true
  · exact hg
  · rw [if_neg hg] at h
    cases h
set_option maxRecDepth 100000 in
set_option maxHeartbeats 4000000 in
theorem c_X4_init (l : Launch) (G : Gd) (d : Nat) (σ : St) (t : Nat) (σ' : St) (hf : f_X4_init σ t = some σ') : MetV l G (d + 3) mi_X4_init [.ref t] σ none σ' 34 10229 := by
  unfold f_X4_init at hf
  obtain ⟨mc0, emc⟩ : ∃ z : Nat, z = 34 := ⟨_, rfl⟩
  obtain ⟨ms0, ems⟩ : ∃ z : Nat, z = 10229 := ⟨_, rfl⟩
  rw [← emc, ← ems]
  refine MetV.of [(0, .ref t)] (by decide +kernel) rfl (Nat.le_of_ble_eq_true rfl) ?_
  intro X hQ
  have L136 : ∀  (ce sl : Nat) (n : Nat) (x1 : Int32) (σ : St) (p : Int32 × St), f_X4_init_L136 t n x1 σ = some p → V mi_X4_init l G (d + 3) mc0 ms0 X ce sl 163 [(1, .int p.1), (0, .ref t)] [] p.2 → V mi_X4_init l G (d + 3) mc0 ms0 X ce sl 136 [(1, .int x1), (0, .ref t)] [] σ := by
    intro  ce sl n
    induction n with
    | zero =>
      intro x1 σ p hf
      exact absurd (show (none : Option _) = some p from hf) (by simp)
    | succ n ih =>
      intro x1 σ p hf hk
      rw [f_X4_init_L136] at hf
      refine V_iload_n 0 137 rfl dX4_init_136 rfl rfl ?_
      refine V_iconst 4 138 dX4_init_137 rfl kiconst_4 ?_
      refine V_icmp_ge 163 141 dX4_init_138 (by decide) rfl (fun c59 => ?_) (fun c59 => ?_)
      · rw [if_pos c59] at hf
        have ep := Option.some.inj hf
        subst ep
        refine V_ls [(1, .int x1), (0, .ref t)] [0, 1] rfl ?_
        exact hk
      · rw [if_neg c59] at hf
        refine V_aload_n 1 142 rfl dX4_init_141 rfl rfl ?_
        obtain ⟨q61, h60, hf⟩ := ob hf
        refine V_getQ (n := 11) (ty := tyX4) 145 h60 cf_3 rfl wd_fl_X4_14 dX4_init_142 rfl ?_
        refine V_aload_n 1 146 rfl dX4_init_145 rfl rfl ?_
        obtain ⟨q63, h62, hf⟩ := ob hf
        refine V_getQ (n := 11) (ty := tyX4) 149 h62 cf_3 rfl wd_fl_X4_14 dX4_init_146 rfl ?_
        obtain ⟨p65, h64, hf⟩ := ob hf
        refine V_callV (rest := [.ref q61]) (T := TX5) (n := 4) (ci := 4) ce sl 152 [.int p65.1, .ref q61] (c_X5_add l G (d + 1) _ _ _ _ h64) (by omega) ok_X5_add okv_X5_add (gd_X5_add h64) rfl wd_ml_X4_57 rfl rfl (Nat.le_of_ble_eq_true rfl) rfl rfl (Or.inl ⟨rfl, rfl⟩) dX4_init_149 rfl rfl ?_
        refine V_iconst 0 153 dX4_init_152 rfl kiconst_0 ?_
        refine V_iconst 1 154 dX4_init_153 rfl kiconst_1 ?_
        obtain ⟨s67, h66, hf⟩ := ob hf
        refine V_callV (rest := []) (T := TX5) (n := 4) (ci := 4) ce sl 157 [] (c_X5_set l G (d + 1) _ _ _ _ _ _ h66) (by omega) ok_X5_set okv_X5_set (gd_X5_set h66) rfl wd_ml_X4_61 rfl rfl (Nat.le_of_ble_eq_true rfl) rfl rfl (Or.inl ⟨rfl, rfl⟩) dX4_init_154 rfl rfl ?_
        refine V_iinc (x1 + 1) 0 [(1, .int (x1 + 1)), (0, .ref t)] 160 dX4_init_157 rfl (by rw [kiconst_1]) (by decide) rfl rfl ?_
        refine V_goto 136 dX4_init_160 (by decide) ?_
        refine V_ls [(1, .int (x1 + 1)), (0, .ref t)] [0, 1] rfl ?_
        exact ih _ _ _ hf hk
  have L165 : ∀  (n ce sl : Nat) (x1 : Int32) (σ : St) (p : Int32 × St), f_X4_init_L165 t n x1 σ = some p → ce + 2 * n ≤ mc0 → sl + 58 * n ≤ ms0 → V mi_X4_init l G (d + 3) mc0 ms0 X (ce + 2 * n) (sl + 58 * n) 193 [(1, .int p.1), (0, .ref t)] [] p.2 → V mi_X4_init l G (d + 3) mc0 ms0 X ce sl 165 [(1, .int x1), (0, .ref t)] [] σ := by
    intro  n
    induction n with
    | zero =>
      intro ce sl x1 σ p hf
      exact absurd (show (none : Option _) = some p from hf) (by simp)
    | succ n ih =>
      intro ce sl x1 σ p hf hce hsl hk
      rw [f_X4_init_L165] at hf
      refine V_iload_n 0 166 rfl dX4_init_165 rfl rfl ?_
      refine V_aload_n 1 167 rfl dX4_init_166 rfl rfl ?_
      obtain ⟨q71, h70, hf⟩ := ob hf
      refine V_getQ (n := 11) (ty := tyX4) 170 h70 cf_3 rfl wd_fl_X4_49 dX4_init_167 rfl ?_
      obtain ⟨v72, h73, hf⟩ := ob hf
      refine V_alen (t := 2) 171 h73 (by decide) dX4_init_170 rfl ?_
      refine V_icmp_ge 193 174 dX4_init_171 (by decide) rfl (fun c74 => ?_) (fun c74 => ?_)
      · rw [if_pos c74] at hf
        have ep := Option.some.inj hf
        subst ep
        refine V_ls [(1, .int x1), (0, .ref t)] [0, 1] rfl ?_
        refine V_cnt (ce1 := ce + 2 * (n + 1)) (sl1 := sl + 58 * (n + 1)) (by omega) (by omega) ?_
        exact hk
      · rw [if_neg c74] at hf
        refine V_aload_n 1 175 rfl dX4_init_174 rfl rfl ?_
        obtain ⟨q76, h75, hf⟩ := ob hf
        refine V_getQ (n := 11) (ty := tyX4) 178 h75 cf_3 rfl wd_fl_X4_49 dX4_init_175 rfl ?_
        refine V_iload_n 0 179 rfl dX4_init_178 rfl rfl ?_
        obtain ⟨s78, h77, hf⟩ := ob hf
        refine V_new (n := 2) (T := TX1) (ty := tyX1) 182 h77 cf_0 df_0 wd_cl_X4_42 wd_ia_X1 wd_in_X1 (by omega) (by omega) dX4_init_179 rfl ?_
        refine V_dup 183 dX4_init_182 rfl rfl ?_
        obtain ⟨s80, h79, hf⟩ := ob hf
        refine V_callIN (rest := [.ref σ.2.2, .int x1, .ref q76]) ((ce + 1) + 1) ((sl + 2) + 56) 186 (c_X1_init l G (d + 0) _ _ _ h79) (by omega) ok_X1_init oki_X1_init (fun s h => h.2.2.2.2.2.2.2.2.2.2.1) rfl rfl (Nat.le_of_ble_eq_true rfl) rfl rfl (Or.inr ⟨by omega, by omega⟩) dX4_init_183 rfl ?_
        obtain ⟨s82, h81, hf⟩ := ob hf
        refine V_aast (t := 2) (n0 := 2) (T := TX1) (ty := tyX1) 187 h81 cf_0 (by decide) rfl dX4_init_186 rfl ?_
        refine V_iinc (x1 + 1) 0 [(1, .int (x1 + 1)), (0, .ref t)] 190 dX4_init_187 rfl (by rw [kiconst_1]) (by decide) rfl rfl ?_
        refine V_goto 165 dX4_init_190 (by decide) ?_
        refine V_ls [(1, .int (x1 + 1)), (0, .ref t)] [0, 1] rfl ?_
        refine V_cnt (ce1 := ce + 2) (sl1 := sl + 58) (by omega) (by omega) ?_
        exact ih (ce + 2) (sl + 58) (x1 + 1) s82 p hf (by omega) (by omega) (by rw [show ce + 2 + 2 * n = ce + 2 * (n + 1) from by omega, show sl + 58 + 58 * n = sl + 58 * (n + 1) from by omega]; exact hk)
  by_cases hg : isO σ 3 t = true
  · rw [if_pos hg] at hf
    refine V_aload_n 0 1 rfl dX4_init_0 rfl rfl ?_
    refine V_objInit 4 wd_ml_X4_3 wd_im_java_lang_Object__init_ wd_objc (by omega) (Nat.le_of_ble_eq_true rfl) dX4_init_1 rfl ?_
    refine V_aload_n 0 5 rfl dX4_init_4 rfl rfl ?_
    obtain ⟨s2, h1, hf⟩ := ob hf
    refine V_new (n := 4) (T := TX5) (ty := tyX5) 8 h1 cf_4 df_4 wd_cl_X4_9 wd_ia_X5 wd_in_X5 (by omega) (by omega) dX4_init_5 rfl ?_
    refine V_dup 9 dX4_init_8 rfl rfl ?_
    refine V_iconst 3 10 dX4_init_9 rfl kiconst_3 ?_
    refine V_iconst 4 11 dX4_init_10 rfl kiconst_4 ?_
    obtain ⟨s4, h3, hf⟩ := ob hf
    refine V_callI (rest := [.ref σ.2.2, .ref t]) ((0 + 1) + 1) ((0 + 4) + 1300) 14 (c_X5_init l G (d + 0) _ _ _ _ _ h3) (by omega) ok_X5_init oki_X5_init wd_ml_X4_11 rfl rfl (Nat.le_of_ble_eq_true rfl) rfl rfl (Or.inr ⟨by omega, by omega⟩) dX4_init_11 rfl ?_
    obtain ⟨s6, h5, hf⟩ := ob hf
    refine V_putQ (n := 11) (T := TX4) (ty := tyX4) (f := 0) 17 h5 cf_3 rfl (Or.inl ⟨_, rfl⟩) (Or.inr ⟨rfl, rfl, rfl⟩) wd_fl_X4_14 dX4_init_14 rfl ?_
    refine V_aload_n 0 18 rfl dX4_init_17 rfl rfl ?_
    obtain ⟨s8, h7, hf⟩ := ob hf
    refine V_new (n := 4) (T := TX5) (ty := tyX5) 21 h7 cf_4 df_4 wd_cl_X4_9 wd_ia_X5 wd_in_X5 (by omega) (by omega) dX4_init_18 rfl ?_
    refine V_dup 22 dX4_init_21 rfl rfl ?_
    refine V_iconst 5 23 dX4_init_22 rfl kiconst_5 ?_
    refine V_bipush 12 25 dX4_init_23 rfl kbipush_12 ?_
    obtain ⟨s10, h9, hf⟩ := ob hf
    refine V_callI (rest := [.ref s6.2.2, .ref t]) ((((0 + 1) + 1) + 1) + 1) ((((0 + 4) + 1300) + 4) + 1300) 28 (c_X5_init l G (d + 0) _ _ _ _ _ h9) (by omega) ok_X5_init oki_X5_init wd_ml_X4_11 rfl rfl (Nat.le_of_ble_eq_true rfl) rfl rfl (Or.inr ⟨by omega, by omega⟩) dX4_init_25 rfl ?_
    obtain ⟨s12, h11, hf⟩ := ob hf
    refine V_putQ (n := 11) (T := TX4) (ty := tyX4) (f := 1) 31 h11 cf_3 rfl (Or.inl ⟨_, rfl⟩) (Or.inr ⟨rfl, rfl, rfl⟩) wd_fl_X4_20 dX4_init_28 rfl ?_
    refine V_aload_n 0 32 rfl dX4_init_31 rfl rfl ?_
    obtain ⟨s14, h13, hf⟩ := ob hf
    refine V_new (n := 4) (T := TX5) (ty := tyX5) 35 h13 cf_4 df_4 wd_cl_X4_9 wd_ia_X5 wd_in_X5 (by omega) (by omega) dX4_init_32 rfl ?_
    refine V_dup 36 dX4_init_35 rfl rfl ?_
    refine V_iconst 5 37 dX4_init_36 rfl kiconst_5 ?_
    refine V_bipush 24 39 dX4_init_37 rfl kbipush_24 ?_
    obtain ⟨s16, h15, hf⟩ := ob hf
    refine V_callI (rest := [.ref s12.2.2, .ref t]) ((((((0 + 1) + 1) + 1) + 1) + 1) + 1) ((((((0 + 4) + 1300) + 4) + 1300) + 4) + 1300) 42 (c_X5_init l G (d + 0) _ _ _ _ _ h15) (by omega) ok_X5_init oki_X5_init wd_ml_X4_11 rfl rfl (Nat.le_of_ble_eq_true rfl) rfl rfl (Or.inr ⟨by omega, by omega⟩) dX4_init_39 rfl ?_
    obtain ⟨s18, h17, hf⟩ := ob hf
    refine V_putQ (n := 11) (T := TX4) (ty := tyX4) (f := 2) 45 h17 cf_3 rfl (Or.inl ⟨_, rfl⟩) (Or.inr ⟨rfl, rfl, rfl⟩) wd_fl_X4_23 dX4_init_42 rfl ?_
    refine V_aload_n 0 46 rfl dX4_init_45 rfl rfl ?_
    refine V_sipush 576 49 dX4_init_46 rfl ksipush_576 ?_
    obtain ⟨s20, h19, hf⟩ := ob hf
    refine V_newa (fty := .int) 51 h19 (by decide) wd_ac_int (by omega) (by rw [show (576 : Int32).toNatClampNeg = 576 from by decide]; omega) dX4_init_49 rfl ?_
    refine V_cnt (ce1 := (((((((0 + 1) + 1) + 1) + 1) + 1) + 1) + 1)) (sl1 := (((((((0 + 4) + 1300) + 4) + 1300) + 4) + 1300) + 576)) (by omega) (by rw [show (576 : Int32).toNatClampNeg = 576 from by decide]; omega) ?_
    obtain ⟨s22, h21, hf⟩ := ob hf
    refine V_putQ (n := 11) (T := TX4) (ty := tyX4) (f := 3) 54 h21 cf_3 rfl (Or.inr ⟨_, rfl⟩) (Or.inr ⟨rfl, rfl, rfl⟩) wd_fl_X4_26 dX4_init_51 rfl ?_
    refine V_aload_n 0 55 rfl dX4_init_54 rfl rfl ?_
    obtain ⟨s24, h23, hf⟩ := ob hf
    refine V_new (n := 4) (T := TX5) (ty := tyX5) 58 h23 cf_4 df_4 wd_cl_X4_9 wd_ia_X5 wd_in_X5 (by omega) (by omega) dX4_init_55 rfl ?_
    refine V_dup 59 dX4_init_58 rfl rfl ?_
    refine V_iconst 3 60 dX4_init_59 rfl kiconst_3 ?_
    refine V_bipush 20 62 dX4_init_60 rfl kbipush_20 ?_
    obtain ⟨s26, h25, hf⟩ := ob hf
    refine V_callI (rest := [.ref s22.2.2, .ref t]) (((((((((0 + 1) + 1) + 1) + 1) + 1) + 1) + 1) + 1) + 1) (((((((((0 + 4) + 1300) + 4) + 1300) + 4) + 1300) + 576) + 4) + 1300) 65 (c_X5_init l G (d + 0) _ _ _ _ _ h25) (by omega) ok_X5_init oki_X5_init wd_ml_X4_11 rfl rfl (Nat.le_of_ble_eq_true rfl) rfl rfl (Or.inr ⟨by omega, by omega⟩) dX4_init_62 rfl ?_
    obtain ⟨s28, h27, hf⟩ := ob hf
    refine V_putQ (n := 11) (T := TX4) (ty := tyX4) (f := 4) 68 h27 cf_3 rfl (Or.inl ⟨_, rfl⟩) (Or.inr ⟨rfl, rfl, rfl⟩) wd_fl_X4_30 dX4_init_65 rfl ?_
    refine V_aload_n 0 69 rfl dX4_init_68 rfl rfl ?_
    obtain ⟨s30, h29, hf⟩ := ob hf
    refine V_new (n := 4) (T := TX5) (ty := tyX5) 72 h29 cf_4 df_4 wd_cl_X4_9 wd_ia_X5 wd_in_X5 (by omega) (by omega) dX4_init_69 rfl ?_
    refine V_dup 73 dX4_init_72 rfl rfl ?_
    refine V_iconst 4 74 dX4_init_73 rfl kiconst_4 ?_
    refine V_bipush 30 76 dX4_init_74 rfl kbipush_30 ?_
    obtain ⟨s32, h31, hf⟩ := ob hf
    refine V_callI (rest := [.ref s28.2.2, .ref t]) (((((((((((0 + 1) + 1) + 1) + 1) + 1) + 1) + 1) + 1) + 1) + 1) + 1) (((((((((((0 + 4) + 1300) + 4) + 1300) + 4) + 1300) + 576) + 4) + 1300) + 4) + 1300) 79 (c_X5_init l G (d + 0) _ _ _ _ _ h31) (by omega) ok_X5_init oki_X5_init wd_ml_X4_11 rfl rfl (Nat.le_of_ble_eq_true rfl) rfl rfl (Or.inr ⟨by omega, by omega⟩) dX4_init_76 rfl ?_
    obtain ⟨s34, h33, hf⟩ := ob hf
    refine V_putQ (n := 11) (T := TX4) (ty := tyX4) (f := 5) 82 h33 cf_3 rfl (Or.inl ⟨_, rfl⟩) (Or.inr ⟨rfl, rfl, rfl⟩) wd_fl_X4_33 dX4_init_79 rfl ?_
    refine V_aload_n 0 83 rfl dX4_init_82 rfl rfl ?_
    obtain ⟨s36, h35, hf⟩ := ob hf
    refine V_new (n := 4) (T := TX5) (ty := tyX5) 86 h35 cf_4 df_4 wd_cl_X4_9 wd_ia_X5 wd_in_X5 (by omega) (by omega) dX4_init_83 rfl ?_
    refine V_dup 87 dX4_init_86 rfl rfl ?_
    refine V_iconst 2 88 dX4_init_87 rfl kiconst_2 ?_
    refine V_bipush 8 90 dX4_init_88 rfl kbipush_8 ?_
    obtain ⟨s38, h37, hf⟩ := ob hf
    refine V_callI (rest := [.ref s34.2.2, .ref t]) (((((((((((((0 + 1) + 1) + 1) + 1) + 1) + 1) + 1) + 1) + 1) + 1) + 1) + 1) + 1) (((((((((((((0 + 4) + 1300) + 4) + 1300) + 4) + 1300) + 576) + 4) + 1300) + 4) + 1300) + 4) + 1300) 93 (c_X5_init l G (d + 0) _ _ _ _ _ h37) (by omega) ok_X5_init oki_X5_init wd_ml_X4_11 rfl rfl (Nat.le_of_ble_eq_true rfl) rfl rfl (Or.inr ⟨by omega, by omega⟩) dX4_init_90 rfl ?_
    obtain ⟨s40, h39, hf⟩ := ob hf
    refine V_putQ (n := 11) (T := TX4) (ty := tyX4) (f := 6) 96 h39 cf_3 rfl (Or.inl ⟨_, rfl⟩) (Or.inr ⟨rfl, rfl, rfl⟩) wd_fl_X4_36 dX4_init_93 rfl ?_
    refine V_aload_n 0 97 rfl dX4_init_96 rfl rfl ?_
    obtain ⟨s42, h41, hf⟩ := ob hf
    refine V_new (n := 4) (T := TX5) (ty := tyX5) 100 h41 cf_4 df_4 wd_cl_X4_9 wd_ia_X5 wd_in_X5 (by omega) (by omega) dX4_init_97 rfl ?_
    refine V_dup 101 dX4_init_100 rfl rfl ?_
    refine V_iconst 1 102 dX4_init_101 rfl kiconst_1 ?_
    refine V_bipush 24 104 dX4_init_102 rfl kbipush_24 ?_
    obtain ⟨s44, h43, hf⟩ := ob hf
    refine V_callI (rest := [.ref s40.2.2, .ref t]) (((((((((((((((0 + 1) + 1) + 1) + 1) + 1) + 1) + 1) + 1) + 1) + 1) + 1) + 1) + 1) + 1) + 1) (((((((((((((((0 + 4) + 1300) + 4) + 1300) + 4) + 1300) + 576) + 4) + 1300) + 4) + 1300) + 4) + 1300) + 4) + 1300) 107 (c_X5_init l G (d + 0) _ _ _ _ _ h43) (by omega) ok_X5_init oki_X5_init wd_ml_X4_11 rfl rfl (Nat.le_of_ble_eq_true rfl) rfl rfl (Or.inr ⟨by omega, by omega⟩) dX4_init_104 rfl ?_
    obtain ⟨s46, h45, hf⟩ := ob hf
    refine V_putQ (n := 11) (T := TX4) (ty := tyX4) (f := 7) 110 h45 cf_3 rfl (Or.inl ⟨_, rfl⟩) (Or.inr ⟨rfl, rfl, rfl⟩) wd_fl_X4_39 dX4_init_107 rfl ?_
    refine V_aload_n 0 111 rfl dX4_init_110 rfl rfl ?_
    obtain ⟨s48, h47, hf⟩ := ob hf
    refine V_new (n := 2) (T := TX1) (ty := tyX1) 114 h47 cf_0 df_0 wd_cl_X4_42 wd_ia_X1 wd_in_X1 (by omega) (by omega) dX4_init_111 rfl ?_
    refine V_dup 115 dX4_init_114 rfl rfl ?_
    obtain ⟨s50, h49, hf⟩ := ob hf
    refine V_callIN (rest := [.ref s46.2.2, .ref t]) (((((((((((((((((0 + 1) + 1) + 1) + 1) + 1) + 1) + 1) + 1) + 1) + 1) + 1) + 1) + 1) + 1) + 1) + 1) + 1) (((((((((((((((((0 + 4) + 1300) + 4) + 1300) + 4) + 1300) + 576) + 4) + 1300) + 4) + 1300) + 4) + 1300) + 4) + 1300) + 2) + 56) 118 (c_X1_init l G (d + 0) _ _ _ h49) (by omega) ok_X1_init oki_X1_init (fun s h => h.2.2.2.2.2.2.2.2.2.2.1) rfl rfl (Nat.le_of_ble_eq_true rfl) rfl rfl (Or.inr ⟨by omega, by omega⟩) dX4_init_115 rfl ?_
    obtain ⟨s52, h51, hf⟩ := ob hf
    refine V_putQ (n := 11) (T := TX4) (ty := tyX4) (f := 8) 121 h51 cf_3 rfl (Or.inl ⟨_, rfl⟩) (Or.inr ⟨rfl, rfl, rfl⟩) wd_fl_X4_45 dX4_init_118 rfl ?_
    refine V_aload_n 0 122 rfl dX4_init_121 rfl rfl ?_
    refine V_iconst 3 123 dX4_init_122 rfl kiconst_3 ?_
    obtain ⟨s54, h53, hf⟩ := ob hf
    refine V_anew (t := 2) 126 h53 (by decide) wd_cl_X4_42 (by omega) (by rw [show (3 : Int32).toNatClampNeg = 3 from by decide]; omega) dX4_init_123 rfl ?_
    refine V_cnt (ce1 := ((((((((((((((((((0 + 1) + 1) + 1) + 1) + 1) + 1) + 1) + 1) + 1) + 1) + 1) + 1) + 1) + 1) + 1) + 1) + 1) + 1)) (sl1 := ((((((((((((((((((0 + 4) + 1300) + 4) + 1300) + 4) + 1300) + 576) + 4) + 1300) + 4) + 1300) + 4) + 1300) + 4) + 1300) + 2) + 56) + 3)) (by omega) (by rw [show (3 : Int32).toNatClampNeg = 3 from by decide]; omega) ?_
    obtain ⟨s56, h55, hf⟩ := ob hf
    refine V_putQ (n := 11) (T := TX4) (ty := tyX4) (f := 9) 129 h55 cf_3 rfl (Or.inr ⟨_, rfl⟩) (Or.inr ⟨rfl, rfl, rfl⟩) wd_fl_X4_49 dX4_init_126 rfl ?_
    refine V_aload_n 0 130 rfl dX4_init_129 rfl rfl ?_
    refine V_iconst 1 131 dX4_init_130 rfl kiconst_1 ?_
    obtain ⟨s58, h57, hf⟩ := ob hf
    refine V_putI (n := 11) (T := TX4) (ty := tyX4) (f := 10) 134 h57 cf_3 rfl rfl (Or.inl rfl) wd_fl_X4_53 dX4_init_131 rfl ?_
    refine V_iconst 0 135 dX4_init_134 rfl kiconst_0 ?_
    refine V_istore_n [(1, .int 0), (0, .ref t)] 136 dX4_init_135 rfl (by decide) rfl rfl ?_
    obtain ⟨p68, h69, hf⟩ := ob hf
    refine V_ls [(1, .int 0), (0, .ref t)] [0, 1] rfl ?_
    refine L136 ((((((((((((((((((0 + 1) + 1) + 1) + 1) + 1) + 1) + 1) + 1) + 1) + 1) + 1) + 1) + 1) + 1) + 1) + 1) + 1) + 1) ((((((((((((((((((0 + 4) + 1300) + 4) + 1300) + 4) + 1300) + 576) + 4) + 1300) + 4) + 1300) + 4) + 1300) + 4) + 1300) + 2) + 56) + 3) 3000 0 s58 p68 h69 ?_
    refine V_iconst 0 164 dX4_init_163 rfl kiconst_0 ?_
    refine V_istore_n [(1, .int 0), (0, .ref t)] 165 dX4_init_164 rfl (by decide) rfl rfl ?_
    obtain ⟨p83, h84, hf⟩ := ob hf
    refine V_ls [(1, .int 0), (0, .ref t)] [0, 1] rfl ?_
    refine L165 8 ((((((((((((((((((0 + 1) + 1) + 1) + 1) + 1) + 1) + 1) + 1) + 1) + 1) + 1) + 1) + 1) + 1) + 1) + 1) + 1) + 1) ((((((((((((((((((0 + 4) + 1300) + 4) + 1300) + 4) + 1300) + 576) + 4) + 1300) + 4) + 1300) + 4) + 1300) + 4) + 1300) + 2) + 56) + 3) 0 p68.2 p83 h84 (by omega) (by omega) ?_
    have er := Option.some.inj hf
    subst er
    exact V_vret hQ rfl dX4_init_193
  · rw [if_neg hg] at hf
    cases hf
abbrev mi_X3_init : MI := (yX3_init, cX3_init, 1, none)
theorem ok_X3_init : OkN mi_X3_init 0 := ⟨wd_cd_X3_init, wd_in_X3, ⟨by decide +kernel, by decide +kernel, by decide +kernel⟩, by decide⟩
theorem oki_X3_init : (mi_X3_init).1.name = "<init>" ∧ Cond.instanceMethod (mi_X3_init).1 ∈ tb ∧ (mi_X3_init).2.2.2 = none := ⟨rfl, wd_im_X3_init, rfl⟩
def f_X3_init (σ : St) (t : Nat) : Option St := if isO σ 2 t = true then ((nwA σ 0 24).bind fun s2 => (pQ s2 2 t 0 σ.2.2).bind fun s4 => (pI s4 2 t 1 0).bind fun s6 => (pI s6 2 t 2 0).bind fun s8 => some s8) else none
theorem gd_X3_init {σ : St} {t : Nat} {r : St} (h : f_X3_init σ t = some r) : isO σ 2 t = true := by
  unfold f_X3_init at h
  by_cases hg : isO σ 2 t = true
  · exact hg
  · rw [if_neg hg] at h
    cases h
set_option maxRecDepth 100000 in
set_option maxHeartbeats 4000000 in
theorem c_X3_init (l : Launch) (G : Gd) (d : Nat) (σ : St) (t : Nat) (σ' : St) (hf : f_X3_init σ t = some σ') : MetV l G (d + 2) mi_X3_init [.ref t] σ none σ' 1 24 := by
  unfold f_X3_init at hf
  obtain ⟨mc0, emc⟩ : ∃ z : Nat, z = 1 := ⟨_, rfl⟩
  obtain ⟨ms0, ems⟩ : ∃ z : Nat, z = 24 := ⟨_, rfl⟩
  rw [← emc, ← ems]
  refine MetV.of [(0, .ref t)] (by decide +kernel) rfl (Nat.le_of_ble_eq_true rfl) ?_
  intro X hQ
  by_cases hg : isO σ 2 t = true
  · rw [if_pos hg] at hf
    refine V_aload_n 0 1 rfl dX3_init_0 rfl rfl ?_
    refine V_objInit 4 wd_ml_X3_1 wd_im_java_lang_Object__init_ wd_objc (by omega) (Nat.le_of_ble_eq_true rfl) dX3_init_1 rfl ?_
    refine V_aload_n 0 5 rfl dX3_init_4 rfl rfl ?_
    refine V_bipush 24 7 dX3_init_5 rfl kbipush_24 ?_
    obtain ⟨s2, h1, hf⟩ := ob hf
    refine V_newa (fty := .int) 9 h1 (by decide) wd_ac_int (by omega) (by rw [show (24 : Int32).toNatClampNeg = 24 from by decide]; omega) dX3_init_7 rfl ?_
    refine V_cnt (ce1 := (0 + 1)) (sl1 := (0 + 24)) (by omega) (by rw [show (24 : Int32).toNatClampNeg = 24 from by decide]; omega) ?_
    obtain ⟨s4, h3, hf⟩ := ob hf
    refine V_putQ (n := 3) (T := TX3) (ty := tyX3) (f := 0) 12 h3 cf_2 rfl (Or.inr ⟨_, rfl⟩) (Or.inr ⟨rfl, rfl, rfl⟩) wd_fl_X3_9 dX3_init_9 rfl ?_
    refine V_aload_n 0 13 rfl dX3_init_12 rfl rfl ?_
    refine V_iconst 0 14 dX3_init_13 rfl kiconst_0 ?_
    obtain ⟨s6, h5, hf⟩ := ob hf
    refine V_putI (n := 3) (T := TX3) (ty := tyX3) (f := 1) 17 h5 cf_2 rfl rfl (Or.inl rfl) wd_fl_X3_13 dX3_init_14 rfl ?_
    refine V_aload_n 0 18 rfl dX3_init_17 rfl rfl ?_
    refine V_iconst 0 19 dX3_init_18 rfl kiconst_0 ?_
    obtain ⟨s8, h7, hf⟩ := ob hf
    refine V_putI (n := 3) (T := TX3) (ty := tyX3) (f := 2) 22 h7 cf_2 rfl rfl (Or.inl rfl) wd_fl_X3_17 dX3_init_19 rfl ?_
    have er := Option.some.inj hf
    subst er
    exact V_vret hQ rfl dX3_init_22
  · rw [if_neg hg] at hf
    cases hf
abbrev mi_X5_at : MI := (yX5_at, cX5_at, 3, some .int)
theorem ok_X5_at : OkN mi_X5_at 2 := ⟨wd_cd_X5_at, wd_in_X5, ⟨by decide +kernel, by decide +kernel, by decide +kernel⟩, by decide⟩
theorem okv_X5_at : Cond.instanceMethod (mi_X5_at).1 ∈ tb ∧ Cond.selects (mi_X5_at).1.cls (mi_X5_at).1 (mi_X5_at).1 ∈ tb := ⟨wd_im_X5_at, wd_se_X5_at⟩
def f_X5_at (σ : St) (t : Nat) (a0 : Int32) (a1 : Int32) : Option Int32 := if isO σ 4 t = true then (if a0 < 0 then (some 0) else ((gI σ 4 t 3).bind fun v3 => if v3 ≤ a0 then (some 0) else (if a1 < 0 then (some 0) else ((gI σ 4 t 0).bind fun v7 => if v7 ≤ a1 then (some 0) else ((gQ σ 4 t 2).bind fun q10 => (gI σ 4 t 0).bind fun v12 => (aI σ 0 q10 ((a0 * v12) + a1)).bind fun v14 => some v14))))) else none
theorem gd_X5_at {σ : St} {t : Nat} {a0 : Int32} {a1 : Int32} {r : Int32} (h : f_X5_at σ t a0 a1 = some r) : isO σ 4 t = true := by
  unfold f_X5_at at h
  by_cases hg : isO σ 4 t = true
  · exact hg
  · rw [if_neg hg] at h
    cases h
set_option maxRecDepth 100000 in
set_option maxHeartbeats 4000000 in
theorem c_X5_at (l : Launch) (G : Gd) (d : Nat) (σ : St) (t : Nat) (a0 : Int32) (a1 : Int32) (r0 : Int32) (hf : f_X5_at σ t a0 a1 = some r0) : MetV l G (d + 1) mi_X5_at [.ref t, .int a0, .int a1] σ (some (.int r0)) σ 0 0 := by
  unfold f_X5_at at hf
  refine MetV.of [(0, .ref t), (1, .int a0), (2, .int a1)] (by decide +kernel) rfl (Nat.le_of_ble_eq_true rfl) ?_
  intro X hQ
  by_cases hg : isO σ 4 t = true
  · rw [if_pos hg] at hf
    refine V_iload_n 1 1 rfl dX5_at_0 rfl rfl ?_
    refine V_if_lt 40 4 dX5_at_1 (by decide) rfl (fun c1 => ?_) (fun c1 => ?_)
    · rw [if_pos c1] at hf
      refine V_iconst 0 41 dX5_at_40 rfl kiconst_0 ?_
      have er := Option.some.inj hf
      subst er
      exact V_iret hQ rfl dX5_at_41
    · rw [if_neg c1] at hf
      refine V_iload_n 1 5 rfl dX5_at_4 rfl rfl ?_
      refine V_aload_n 0 6 rfl dX5_at_5 rfl rfl ?_
      obtain ⟨v3, h2, hf⟩ := ob hf
      refine V_getI (n := 4) (ty := tyX5) 9 h2 cf_4 rfl wd_fl_X5_7 dX5_at_6 rfl ?_
      refine V_icmp_ge 40 12 dX5_at_9 (by decide) rfl (fun c4 => ?_) (fun c4 => ?_)
      · rw [if_pos c4] at hf
        refine V_iconst 0 41 dX5_at_40 rfl kiconst_0 ?_
        have er := Option.some.inj hf
        subst er
        exact V_iret hQ rfl dX5_at_41
      · rw [if_neg c4] at hf
        refine V_iload_n 2 13 rfl dX5_at_12 rfl rfl ?_
        refine V_if_lt 40 16 dX5_at_13 (by decide) rfl (fun c5 => ?_) (fun c5 => ?_)
        · rw [if_pos c5] at hf
          refine V_iconst 0 41 dX5_at_40 rfl kiconst_0 ?_
          have er := Option.some.inj hf
          subst er
          exact V_iret hQ rfl dX5_at_41
        · rw [if_neg c5] at hf
          refine V_iload_n 2 17 rfl dX5_at_16 rfl rfl ?_
          refine V_aload_n 0 18 rfl dX5_at_17 rfl rfl ?_
          obtain ⟨v7, h6, hf⟩ := ob hf
          refine V_getI (n := 4) (ty := tyX5) 21 h6 cf_4 rfl wd_fl_X5_13 dX5_at_18 rfl ?_
          refine V_icmp_ge 40 24 dX5_at_21 (by decide) rfl (fun c8 => ?_) (fun c8 => ?_)
          · rw [if_pos c8] at hf
            refine V_iconst 0 41 dX5_at_40 rfl kiconst_0 ?_
            have er := Option.some.inj hf
            subst er
            exact V_iret hQ rfl dX5_at_41
          · rw [if_neg c8] at hf
            refine V_aload_n 0 25 rfl dX5_at_24 rfl rfl ?_
            obtain ⟨q10, h9, hf⟩ := ob hf
            refine V_getQ (n := 4) (ty := tyX5) 28 h9 cf_4 rfl wd_fl_X5_25 dX5_at_25 rfl ?_
            refine V_iload_n 1 29 rfl dX5_at_28 rfl rfl ?_
            refine V_aload_n 0 30 rfl dX5_at_29 rfl rfl ?_
            obtain ⟨v12, h11, hf⟩ := ob hf
            refine V_getI (n := 4) (ty := tyX5) 33 h11 cf_4 rfl wd_fl_X5_13 dX5_at_30 rfl ?_
            refine V_imul 34 dX5_at_33 rfl ?_
            refine V_iload_n 2 35 rfl dX5_at_34 rfl rfl ?_
            refine V_iadd 36 dX5_at_35 rfl ?_
            obtain ⟨v14, h13, hf⟩ := ob hf
            refine V_iald 37 h13 dX5_at_36 rfl ?_
            refine V_goto 41 dX5_at_37 (by decide) ?_
            have er := Option.some.inj hf
            subst er
            exact V_iret hQ rfl dX5_at_41
  · rw [if_neg hg] at hf
    cases hf
abbrev mi_X5_isFull : MI := (yX5_isFull, cX5_isFull, 1, some .boolean)
theorem ok_X5_isFull : OkN mi_X5_isFull 0 := ⟨wd_cd_X5_isFull, wd_in_X5, ⟨by decide +kernel, by decide +kernel, by decide +kernel⟩, by decide⟩
theorem okv_X5_isFull : Cond.instanceMethod (mi_X5_isFull).1 ∈ tb ∧ Cond.selects (mi_X5_isFull).1.cls (mi_X5_isFull).1 (mi_X5_isFull).1 ∈ tb := ⟨wd_im_X5_isFull, wd_se_X5_isFull⟩
def f_X5_isFull (σ : St) (t : Nat) : Option Int32 := if isO σ 4 t = true then ((gI σ 4 t 3).bind fun v2 => (gI σ 4 t 1).bind fun v4 => (zr (if v2 < v4 then 0 else 1 : Int32)).bind fun z5 => some (if v2 < v4 then 0 else 1 : Int32)) else none
theorem gd_X5_isFull {σ : St} {t : Nat} {r : Int32} (h : f_X5_isFull σ t = some r) : isO σ 4 t = true := by
  unfold f_X5_isFull at h
  by_cases hg : isO σ 4 t = true
  · exact hg
  · rw [if_neg hg] at h
    cases h
set_option maxRecDepth 100000 in
set_option maxHeartbeats 4000000 in
theorem c_X5_isFull (l : Launch) (G : Gd) (d : Nat) (σ : St) (t : Nat) (r0 : Int32) (hf : f_X5_isFull σ t = some r0) : MetV l G (d + 1) mi_X5_isFull [.ref t] σ (some (.int r0)) σ 0 0 := by
  unfold f_X5_isFull at hf
  refine MetV.of [(0, .ref t)] (by decide +kernel) rfl (Nat.le_of_ble_eq_true rfl) ?_
  intro X hQ
  by_cases hg : isO σ 4 t = true
  · rw [if_pos hg] at hf
    refine V_aload_n 0 1 rfl dX5_isFull_0 rfl rfl ?_
    obtain ⟨v2, h1, hf⟩ := ob hf
    refine V_getI (n := 4) (ty := tyX5) 4 h1 cf_4 rfl wd_fl_X5_7 dX5_isFull_1 rfl ?_
    refine V_aload_n 0 5 rfl dX5_isFull_4 rfl rfl ?_
    obtain ⟨v4, h3, hf⟩ := ob hf
    refine V_getI (n := 4) (ty := tyX5) 8 h3 cf_4 rfl wd_fl_X5_16 dX5_isFull_5 rfl ?_
    have kj7 : V mi_X5_isFull l G (d + 1) 0 0 X 0 0 16 [(0, .ref t)] [.int (if v2 < v4 then 0 else 1 : Int32)] σ := by
      obtain ⟨z5, h6, hf⟩ := ob hf
      have er := Option.some.inj hf
      subst er
      exact V_zret (zr_ok h6) hQ rfl dX5_isFull_16
    refine V_icmp_lt 15 11 dX5_isFull_8 (by decide) rfl (fun c8 => ?_) (fun c8 => ?_)
    · refine V_iconst 0 16 dX5_isFull_15 rfl kiconst_0 ?_
      refine V_ls [(0, .ref t)] [0] rfl ?_
      simp only [if_pos c8] at kj7
      exact kj7
    · refine V_iconst 1 12 dX5_isFull_11 rfl kiconst_1 ?_
      refine V_goto 16 dX5_isFull_12 (by decide) ?_
      refine V_ls [(0, .ref t)] [0] rfl ?_
      simp only [if_neg c8] at kj7
      exact kj7
  · rw [if_neg hg] at hf
    cases hf
abbrev mi_X5_has : MI := (yX5_has, cX5_has, 2, some .boolean)
theorem ok_X5_has : OkN mi_X5_has 1 := ⟨wd_cd_X5_has, wd_in_X5, ⟨by decide +kernel, by decide +kernel, by decide +kernel⟩, by decide⟩
theorem okv_X5_has : Cond.instanceMethod (mi_X5_has).1 ∈ tb ∧ Cond.selects (mi_X5_has).1.cls (mi_X5_has).1 (mi_X5_has).1 ∈ tb := ⟨wd_im_X5_has, wd_se_X5_has⟩
def f_X5_has (σ : St) (t : Nat) (a0 : Int32) : Option Int32 := if isO σ 4 t = true then (if a0 < 0 then (some 0) else ((gI σ 4 t 3).bind fun v3 => (zr (if v3 ≤ a0 then 0 else 1 : Int32)).bind fun z4 => some (if v3 ≤ a0 then 0 else 1 : Int32))) else none
theorem gd_X5_has {σ : St} {t : Nat} {a0 : Int32} {r : Int32} (h : f_X5_has σ t a0 = some r) : isO σ 4 t = true := by
  unfold f_X5_has at h
  by_cases hg : isO σ 4 t = true
  · exact hg
  · rw [if_neg hg] at h
    cases h
set_option maxRecDepth 100000 in
set_option maxHeartbeats 4000000 in
theorem c_X5_has (l : Launch) (G : Gd) (d : Nat) (σ : St) (t : Nat) (a0 : Int32) (r0 : Int32) (hf : f_X5_has σ t a0 = some r0) : MetV l G (d + 1) mi_X5_has [.ref t, .int a0] σ (some (.int r0)) σ 0 0 := by
  unfold f_X5_has at hf
  refine MetV.of [(0, .ref t), (1, .int a0)] (by decide +kernel) rfl (Nat.le_of_ble_eq_true rfl) ?_
  intro X hQ
  by_cases hg : isO σ 4 t = true
  · rw [if_pos hg] at hf
    refine V_iload_n 1 1 rfl dX5_has_0 rfl rfl ?_
    refine V_if_lt 16 4 dX5_has_1 (by decide) rfl (fun c1 => ?_) (fun c1 => ?_)
    · rw [if_pos c1] at hf
      refine V_iconst 0 17 dX5_has_16 rfl kiconst_0 ?_
      have er := Option.some.inj hf
      subst er
      exact V_zret (by decide) hQ rfl dX5_has_17
    · rw [if_neg c1] at hf
      refine V_iload_n 1 5 rfl dX5_has_4 rfl rfl ?_
      refine V_aload_n 0 6 rfl dX5_has_5 rfl rfl ?_
      obtain ⟨v3, h2, hf⟩ := ob hf
      refine V_getI (n := 4) (ty := tyX5) 9 h2 cf_4 rfl wd_fl_X5_7 dX5_has_6 rfl ?_
      have kj6 : V mi_X5_has l G (d + 1) 0 0 X 0 0 17 [(0, .ref t), (1, .int a0)] [.int (if v3 ≤ a0 then 0 else 1 : Int32)] σ := by
        obtain ⟨z4, h5, hf⟩ := ob hf
        have er := Option.some.inj hf
        subst er
        exact V_zret (zr_ok h5) hQ rfl dX5_has_17
      refine V_icmp_ge 16 12 dX5_has_9 (by decide) rfl (fun c7 => ?_) (fun c7 => ?_)
      · refine V_iconst 0 17 dX5_has_16 rfl kiconst_0 ?_
        refine V_ls [(0, .ref t), (1, .int a0)] [0, 1] rfl ?_
        simp only [if_pos c7] at kj6
        exact kj6
      · refine V_iconst 1 13 dX5_has_12 rfl kiconst_1 ?_
        refine V_goto 17 dX5_has_13 (by decide) ?_
        refine V_ls [(0, .ref t), (1, .int a0)] [0, 1] rfl ?_
        simp only [if_neg c7] at kj6
        exact kj6
  · rw [if_neg hg] at hf
    cases hf
abbrev mi_X4_curvesIn : MI := (yX4_curvesIn, cX4_curvesIn, 4, some .int)
theorem ok_X4_curvesIn : OkN mi_X4_curvesIn 1 := ⟨wd_cd_X4_curvesIn, wd_in_X4, ⟨by decide +kernel, by decide +kernel, by decide +kernel⟩, by decide⟩
theorem okv_X4_curvesIn : Cond.instanceMethod (mi_X4_curvesIn).1 ∈ tb ∧ Cond.selects (mi_X4_curvesIn).1.cls (mi_X4_curvesIn).1 (mi_X4_curvesIn).1 ∈ tb := ⟨wd_im_X4_curvesIn, wd_se_X4_curvesIn⟩
def f_X4_curvesIn_L4 (σ : St) (t : Nat) (x1 : Int32) : Nat → Int32 → Int32 → Option (Int32 × Int32)
  | 0, _, _ => none
  | n + 1, x3, x2 => (gQ σ 3 t 2).bind fun q2 => (gI σ 4 q2 3).bind fun v4 => if v4 ≤ x3 then (some (x3, x2)) else ((gQ σ 3 t 2).bind fun q7 => (f_X5_at σ q7 x3 1).bind fun v9 => f_X4_curvesIn_L4 σ t x1 n (x3 + 1) (x2 + (if v9 = x1 then 1 else 0 : Int32)))
def f_X4_curvesIn (σ : St) (t : Nat) (a0 : Int32) : Option Int32 := if isO σ 3 t = true then ((f_X4_curvesIn_L4 σ t a0 3000 0 0).bind fun p12 => some p12.2) else none
theorem gd_X4_curvesIn {σ : St} {t : Nat} {a0 : Int32} {r : Int32} (h : f_X4_curvesIn σ t a0 = some r) : isO σ 3 t = true := by
  unfold f_X4_curvesIn at h
  by_cases hg : isO σ 3 t = true
  · exact hg
  · rw [if_neg hg] at h
    cases h
set_option maxRecDepth 100000 in
set_option maxHeartbeats 4000000 in
theorem c_X4_curvesIn (l : Launch) (G : Gd) (d : Nat) (σ : St) (t : Nat) (a0 : Int32) (r0 : Int32) (hf : f_X4_curvesIn σ t a0 = some r0) : MetV l G (d + 2) mi_X4_curvesIn [.ref t, .int a0] σ (some (.int r0)) σ 0 0 := by
  unfold f_X4_curvesIn at hf
  refine MetV.of [(0, .ref t), (1, .int a0)] (by decide +kernel) rfl (Nat.le_of_ble_eq_true rfl) ?_
  intro X hQ
  have L4 : ∀ (x1 : Int32) (n : Nat) (x3 : Int32) (x2 : Int32) (p : Int32 × Int32), f_X4_curvesIn_L4 σ t x1 n x3 x2 = some p → V mi_X4_curvesIn l G (d + 2) 0 0 X 0 0 42 [(3, .int p.1), (2, .int p.2), (0, .ref t), (1, .int x1)] [] σ → V mi_X4_curvesIn l G (d + 2) 0 0 X 0 0 4 [(3, .int x3), (2, .int x2), (0, .ref t), (1, .int x1)] [] σ := by
    intro x1 n
    induction n with
    | zero =>
      intro x3 x2 p hf
      exact absurd (show (none : Option _) = some p from hf) (by simp)
    | succ n ih =>
      intro x3 x2 p hf hk
      rw [f_X4_curvesIn_L4] at hf
      refine V_iload_n 0 5 rfl dX4_curvesIn_4 rfl rfl ?_
      refine V_aload_n 2 6 rfl dX4_curvesIn_5 rfl rfl ?_
      obtain ⟨q2, h1, hf⟩ := ob hf
      refine V_getQ (n := 11) (ty := tyX4) 9 h1 cf_3 rfl wd_fl_X4_23 dX4_curvesIn_6 rfl ?_
      obtain ⟨v4, h3, hf⟩ := ob hf
      refine V_getI (n := 4) (ty := tyX5) 12 h3 cf_4 rfl wd_fl_X4_79 dX4_curvesIn_9 rfl ?_
      refine V_icmp_ge 42 15 dX4_curvesIn_12 (by decide) rfl (fun c5 => ?_) (fun c5 => ?_)
      · rw [if_pos c5] at hf
        have ep := Option.some.inj hf
        subst ep
        refine V_ls [(3, .int x3), (2, .int x2), (0, .ref t), (1, .int x1)] [0, 1, 2, 3] rfl ?_
        exact hk
      · rw [if_neg c5] at hf
        refine V_iload_n 1 16 rfl dX4_curvesIn_15 rfl rfl ?_
        refine V_aload_n 2 17 rfl dX4_curvesIn_16 rfl rfl ?_
        obtain ⟨q7, h6, hf⟩ := ob hf
        refine V_getQ (n := 11) (ty := tyX4) 20 h6 cf_3 rfl wd_fl_X4_23 dX4_curvesIn_17 rfl ?_
        refine V_iload_n 0 21 rfl dX4_curvesIn_20 rfl rfl ?_
        refine V_iconst 1 22 dX4_curvesIn_21 rfl kiconst_1 ?_
        obtain ⟨v9, h8, hf⟩ := ob hf
        refine V_callV (rest := [.int x2]) (T := TX5) (n := 4) (ci := 4) 0 0 25 [.int v9, .int x2] (c_X5_at l G (d + 0) _ _ _ _ _ h8) (by omega) ok_X5_at okv_X5_at (gd_X5_at h8) rfl wd_ml_X4_82 rfl rfl (Nat.le_of_ble_eq_true rfl) rfl rfl (Or.inl ⟨rfl, rfl⟩) dX4_curvesIn_22 rfl rfl ?_
        refine V_iload_n 3 26 rfl dX4_curvesIn_25 rfl rfl ?_
        have kj10 : V mi_X4_curvesIn l G (d + 2) 0 0 X 0 0 34 [(3, .int x3), (2, .int x2), (0, .ref t), (1, .int x1)] [.int (if v9 = x1 then 1 else 0 : Int32), .int x2] σ := by
          refine V_iadd 35 dX4_curvesIn_34 rfl ?_
          refine V_istore_n [(2, .int (x2 + (if v9 = x1 then 1 else 0 : Int32))), (3, .int x3), (0, .ref t), (1, .int x1)] 36 dX4_curvesIn_35 rfl (by decide) rfl rfl ?_
          refine V_iinc (x3 + 1) 1 [(3, .int (x3 + 1)), (2, .int (x2 + (if v9 = x1 then 1 else 0 : Int32))), (0, .ref t), (1, .int x1)] 39 dX4_curvesIn_36 rfl (by rw [kiconst_1]) (by decide) rfl rfl ?_
          refine V_goto 4 dX4_curvesIn_39 (by decide) ?_
          refine V_ls [(3, .int (x3 + 1)), (2, .int (x2 + (if v9 = x1 then 1 else 0 : Int32))), (0, .ref t), (1, .int x1)] [0, 1, 2, 3] rfl ?_
          exact ih _ _ _ hf hk
        refine V_icmp_ne 33 29 dX4_curvesIn_26 (by decide) rfl (fun c11 => ?_) (fun c11 => ?_)
        · refine V_iconst 0 34 dX4_curvesIn_33 rfl kiconst_0 ?_
          refine V_ls [(3, .int x3), (2, .int x2), (0, .ref t), (1, .int x1)] [0, 1, 2, 3] rfl ?_
          simp only [if_neg c11] at kj10
          exact kj10
        · refine V_iconst 1 30 dX4_curvesIn_29 rfl kiconst_1 ?_
          refine V_goto 34 dX4_curvesIn_30 (by decide) ?_
          refine V_ls [(3, .int x3), (2, .int x2), (0, .ref t), (1, .int x1)] [0, 1, 2, 3] rfl ?_
          simp only [if_pos c11] at kj10
          exact kj10
  by_cases hg : isO σ 3 t = true
  · rw [if_pos hg] at hf
    refine V_iconst 0 1 dX4_curvesIn_0 rfl kiconst_0 ?_
    refine V_istore_n [(2, .int 0), (0, .ref t), (1, .int a0)] 2 dX4_curvesIn_1 rfl (by decide) rfl rfl ?_
    refine V_iconst 0 3 dX4_curvesIn_2 rfl kiconst_0 ?_
    refine V_istore_n [(3, .int 0), (2, .int 0), (0, .ref t), (1, .int a0)] 4 dX4_curvesIn_3 rfl (by decide) rfl rfl ?_
    obtain ⟨p12, h13, hf⟩ := ob hf
    refine V_ls [(3, .int 0), (2, .int 0), (0, .ref t), (1, .int a0)] [0, 1, 2, 3] rfl ?_
    refine L4 a0 3000 0 0 p12 h13 ?_
    refine V_iload_n 1 43 rfl dX4_curvesIn_42 rfl rfl ?_
    have er := Option.some.inj hf
    subst er
    exact V_iret hQ rfl dX4_curvesIn_43
  · rw [if_neg hg] at hf
    cases hf
abbrev mi_X3_isMissing : MI := (yX3_isMissing, cX3_isMissing, 1, some .boolean)
theorem ok_X3_isMissing : OkN mi_X3_isMissing 0 := ⟨wd_cd_X3_isMissing, wd_in_X3, ⟨by decide +kernel, by decide +kernel, by decide +kernel⟩, by decide⟩
theorem okv_X3_isMissing : Cond.instanceMethod (mi_X3_isMissing).1 ∈ tb ∧ Cond.selects (mi_X3_isMissing).1.cls (mi_X3_isMissing).1 (mi_X3_isMissing).1 ∈ tb := ⟨wd_im_X3_isMissing, wd_se_X3_isMissing⟩
def f_X3_isMissing (σ : St) (t : Nat) : Option Int32 := if isO σ 2 t = true then ((gI σ 2 t 1).bind fun v2 => (zr (if v2 = 0 then 1 else 0 : Int32)).bind fun z3 => some (if v2 = 0 then 1 else 0 : Int32)) else none
theorem gd_X3_isMissing {σ : St} {t : Nat} {r : Int32} (h : f_X3_isMissing σ t = some r) : isO σ 2 t = true := by
  unfold f_X3_isMissing at h
  by_cases hg : isO σ 2 t = true
  · exact hg
  · rw [if_neg hg] at h
    cases h
set_option maxRecDepth 100000 in
set_option maxHeartbeats 4000000 in
theorem c_X3_isMissing (l : Launch) (G : Gd) (d : Nat) (σ : St) (t : Nat) (r0 : Int32) (hf : f_X3_isMissing σ t = some r0) : MetV l G (d + 1) mi_X3_isMissing [.ref t] σ (some (.int r0)) σ 0 0 := by
  unfold f_X3_isMissing at hf
  refine MetV.of [(0, .ref t)] (by decide +kernel) rfl (Nat.le_of_ble_eq_true rfl) ?_
  intro X hQ
  by_cases hg : isO σ 2 t = true
  · rw [if_pos hg] at hf
    refine V_aload_n 0 1 rfl dX3_isMissing_0 rfl rfl ?_
    obtain ⟨v2, h1, hf⟩ := ob hf
    refine V_getI (n := 3) (ty := tyX3) 4 h1 cf_2 rfl wd_fl_X3_13 dX3_isMissing_1 rfl ?_
    have kj5 : V mi_X3_isMissing l G (d + 1) 0 0 X 0 0 12 [(0, .ref t)] [.int (if v2 = 0 then 1 else 0 : Int32)] σ := by
      obtain ⟨z3, h4, hf⟩ := ob hf
      have er := Option.some.inj hf
      subst er
      exact V_zret (zr_ok h4) hQ rfl dX3_isMissing_12
    refine V_if_ne 11 7 dX3_isMissing_4 (by decide) rfl (fun c6 => ?_) (fun c6 => ?_)
    · refine V_iconst 0 12 dX3_isMissing_11 rfl kiconst_0 ?_
      refine V_ls [(0, .ref t)] [0] rfl ?_
      simp only [if_neg c6] at kj5
      exact kj5
    · refine V_iconst 1 8 dX3_isMissing_7 rfl kiconst_1 ?_
      refine V_goto 12 dX3_isMissing_8 (by decide) ?_
      refine V_ls [(0, .ref t)] [0] rfl ?_
      simp only [if_pos c6] at kj5
      exact kj5
  · rw [if_neg hg] at hf
    cases hf
abbrev mi_X3_holds : MI := (yX3_holds, cX3_holds, 3, some .boolean)
theorem ok_X3_holds : OkN mi_X3_holds 2 := ⟨wd_cd_X3_holds, wd_in_X3, ⟨by decide +kernel, by decide +kernel, by decide +kernel⟩, by decide⟩
theorem okv_X3_holds : Cond.instanceMethod (mi_X3_holds).1 ∈ tb ∧ Cond.selects (mi_X3_holds).1.cls (mi_X3_holds).1 (mi_X3_holds).1 ∈ tb := ⟨wd_im_X3_holds, wd_se_X3_holds⟩
def f_X3_holds (σ : St) (t : Nat) (a0 : Int32) (a1 : Int32) : Option Int32 := if isO σ 2 t = true then (if a0 < 0 then (some 0) else (if a1 < 0 then (some 0) else ((gI σ 2 t 2).bind fun v4 => if v4 < a1 then (some 0) else ((gI σ 2 t 2).bind fun v7 => (zr (if (v7 - a1) < a0 then 0 else 1 : Int32)).bind fun z8 => some (if (v7 - a1) < a0 then 0 else 1 : Int32))))) else none
theorem gd_X3_holds {σ : St} {t : Nat} {a0 : Int32} {a1 : Int32} {r : Int32} (h : f_X3_holds σ t a0 a1 = some r) : isO σ 2 t = true := by
  unfold f_X3_holds at h
  by_cases hg : isO σ 2 t = true
  · exact hg
  · rw [if_neg hg] at h
    cases h
set_option maxRecDepth 100000 in
set_option maxHeartbeats 4000000 in
theorem c_X3_holds (l : Launch) (G : Gd) (d : Nat) (σ : St) (t : Nat) (a0 : Int32) (a1 : Int32) (r0 : Int32) (hf : f_X3_holds σ t a0 a1 = some r0) : MetV l G (d + 1) mi_X3_holds [.ref t, .int a0, .int a1] σ (some (.int r0)) σ 0 0 := by
  unfold f_X3_holds at hf
  refine MetV.of [(0, .ref t), (1, .int a0), (2, .int a1)] (by decide +kernel) rfl (Nat.le_of_ble_eq_true rfl) ?_
  intro X hQ
  by_cases hg : isO σ 2 t = true
  · rw [if_pos hg] at hf
    refine V_iload_n 1 1 rfl dX3_holds_0 rfl rfl ?_
    refine V_if_lt 30 4 dX3_holds_1 (by decide) rfl (fun c1 => ?_) (fun c1 => ?_)
    · rw [if_pos c1] at hf
      refine V_iconst 0 31 dX3_holds_30 rfl kiconst_0 ?_
      have er := Option.some.inj hf
      subst er
      exact V_zret (by decide) hQ rfl dX3_holds_31
    · rw [if_neg c1] at hf
      refine V_iload_n 2 5 rfl dX3_holds_4 rfl rfl ?_
      refine V_if_lt 30 8 dX3_holds_5 (by decide) rfl (fun c2 => ?_) (fun c2 => ?_)
      · rw [if_pos c2] at hf
        refine V_iconst 0 31 dX3_holds_30 rfl kiconst_0 ?_
        have er := Option.some.inj hf
        subst er
        exact V_zret (by decide) hQ rfl dX3_holds_31
      · rw [if_neg c2] at hf
        refine V_iload_n 2 9 rfl dX3_holds_8 rfl rfl ?_
        refine V_aload_n 0 10 rfl dX3_holds_9 rfl rfl ?_
        obtain ⟨v4, h3, hf⟩ := ob hf
        refine V_getI (n := 3) (ty := tyX3) 13 h3 cf_2 rfl wd_fl_X3_17 dX3_holds_10 rfl ?_
        refine V_icmp_gt 30 16 dX3_holds_13 (by decide) rfl (fun c5 => ?_) (fun c5 => ?_)
        · rw [if_pos c5] at hf
          refine V_iconst 0 31 dX3_holds_30 rfl kiconst_0 ?_
          have er := Option.some.inj hf
          subst er
          exact V_zret (by decide) hQ rfl dX3_holds_31
        · rw [if_neg c5] at hf
          refine V_iload_n 1 17 rfl dX3_holds_16 rfl rfl ?_
          refine V_aload_n 0 18 rfl dX3_holds_17 rfl rfl ?_
          obtain ⟨v7, h6, hf⟩ := ob hf
          refine V_getI (n := 3) (ty := tyX3) 21 h6 cf_2 rfl wd_fl_X3_17 dX3_holds_18 rfl ?_
          refine V_iload_n 2 22 rfl dX3_holds_21 rfl rfl ?_
          refine V_isub 23 dX3_holds_22 rfl ?_
          have kj10 : V mi_X3_holds l G (d + 1) 0 0 X 0 0 31 [(0, .ref t), (1, .int a0), (2, .int a1)] [.int (if (v7 - a1) < a0 then 0 else 1 : Int32)] σ := by
            obtain ⟨z8, h9, hf⟩ := ob hf
            have er := Option.some.inj hf
            subst er
            exact V_zret (zr_ok h9) hQ rfl dX3_holds_31
          refine V_icmp_gt 30 26 dX3_holds_23 (by decide) rfl (fun c11 => ?_) (fun c11 => ?_)
          · refine V_iconst 0 31 dX3_holds_30 rfl kiconst_0 ?_
            refine V_ls [(0, .ref t), (1, .int a0), (2, .int a1)] [0, 1, 2] rfl ?_
            simp only [if_pos c11] at kj10
            exact kj10
          · refine V_iconst 1 27 dX3_holds_26 rfl kiconst_1 ?_
            refine V_goto 31 dX3_holds_27 (by decide) ?_
            refine V_ls [(0, .ref t), (1, .int a0), (2, .int a1)] [0, 1, 2] rfl ?_
            simp only [if_neg c11] at kj10
            exact kj10
  · rw [if_neg hg] at hf
    cases hf
abbrev mi_X3_at : MI := (yX3_at, cX3_at, 2, some .int)
theorem ok_X3_at : OkN mi_X3_at 1 := ⟨wd_cd_X3_at, wd_in_X3, ⟨by decide +kernel, by decide +kernel, by decide +kernel⟩, by decide⟩
theorem okv_X3_at : Cond.instanceMethod (mi_X3_at).1 ∈ tb ∧ Cond.selects (mi_X3_at).1.cls (mi_X3_at).1 (mi_X3_at).1 ∈ tb := ⟨wd_im_X3_at, wd_se_X3_at⟩
def f_X3_at (σ : St) (t : Nat) (a0 : Int32) : Option Int32 := if isO σ 2 t = true then ((f_X3_holds σ t a0 1).bind fun v2 => if v2 = 0 then (some 0) else ((gQ σ 2 t 0).bind fun q5 => (aI σ 0 q5 a0).bind fun v7 => some v7)) else none
theorem gd_X3_at {σ : St} {t : Nat} {a0 : Int32} {r : Int32} (h : f_X3_at σ t a0 = some r) : isO σ 2 t = true := by
  unfold f_X3_at at h
  by_cases hg : isO σ 2 t = true
  · exact hg
  · rw [if_neg hg] at h
    cases h
set_option maxRecDepth 100000 in
set_option maxHeartbeats 4000000 in
theorem c_X3_at (l : Launch) (G : Gd) (d : Nat) (σ : St) (t : Nat) (a0 : Int32) (r0 : Int32) (hf : f_X3_at σ t a0 = some r0) : MetV l G (d + 2) mi_X3_at [.ref t, .int a0] σ (some (.int r0)) σ 0 0 := by
  unfold f_X3_at at hf
  refine MetV.of [(0, .ref t), (1, .int a0)] (by decide +kernel) rfl (Nat.le_of_ble_eq_true rfl) ?_
  intro X hQ
  by_cases hg : isO σ 2 t = true
  · rw [if_pos hg] at hf
    refine V_aload_n 0 1 rfl dX3_at_0 rfl rfl ?_
    refine V_iload_n 1 2 rfl dX3_at_1 rfl rfl ?_
    refine V_iconst 1 3 dX3_at_2 rfl kiconst_1 ?_
    obtain ⟨v2, h1, hf⟩ := ob hf
    refine V_callV (rest := []) (T := TX3) (n := 3) (ci := 2) 0 0 6 [.int v2] (c_X3_holds l G (d + 0) _ _ _ _ _ h1) (by omega) ok_X3_holds okv_X3_holds (gd_X3_holds h1) rfl wd_ml_X3_29 rfl rfl (Nat.le_of_ble_eq_true rfl) rfl rfl (Or.inl ⟨rfl, rfl⟩) dX3_at_3 rfl rfl ?_
    refine V_if_eq 18 9 dX3_at_6 (by decide) rfl (fun c3 => ?_) (fun c3 => ?_)
    · rw [if_pos c3] at hf
      refine V_iconst 0 19 dX3_at_18 rfl kiconst_0 ?_
      have er := Option.some.inj hf
      subst er
      exact V_iret hQ rfl dX3_at_19
    · rw [if_neg c3] at hf
      refine V_aload_n 0 10 rfl dX3_at_9 rfl rfl ?_
      obtain ⟨q5, h4, hf⟩ := ob hf
      refine V_getQ (n := 3) (ty := tyX3) 13 h4 cf_2 rfl wd_fl_X3_9 dX3_at_10 rfl ?_
      refine V_iload_n 1 14 rfl dX3_at_13 rfl rfl ?_
      obtain ⟨v7, h6, hf⟩ := ob hf
      refine V_iald 15 h6 dX3_at_14 rfl ?_
      refine V_goto 19 dX3_at_15 (by decide) ?_
      have er := Option.some.inj hf
      subst er
      exact V_iret hQ rfl dX3_at_19
  · rw [if_neg hg] at hf
    cases hf
abbrev mi_X4_addCurve : MI := (yX4_addCurve, cX4_addCurve, 7, some .int)
theorem ok_X4_addCurve : OkN mi_X4_addCurve 5 := ⟨wd_cd_X4_addCurve, wd_in_X4, ⟨by decide +kernel, by decide +kernel, by decide +kernel⟩, by decide⟩
theorem okv_X4_addCurve : Cond.instanceMethod (mi_X4_addCurve).1 ∈ tb ∧ Cond.selects (mi_X4_addCurve).1.cls (mi_X4_addCurve).1 (mi_X4_addCurve).1 ∈ tb := ⟨wd_im_X4_addCurve, wd_se_X4_addCurve⟩
def f_X4_addCurve (σ : St) (t : Nat) (a0 : Int32) (a1 : Int32) (a2 : Int32) (a3 : Int32) (a4 : Int32) : Option (Int32 × St) := if isO σ 3 t = true then ((gQ σ 3 t 2).bind fun q2 => (f_X5_add σ q2).bind fun p4 => (gQ p4.2 3 t 2).bind fun q6 => (f_X5_set p4.2 q6 p4.1 0 a0).bind fun s8 => (gQ s8 3 t 2).bind fun q10 => (f_X5_set s8 q10 p4.1 1 a1).bind fun s12 => (gQ s12 3 t 2).bind fun q14 => (f_X5_set s12 q14 p4.1 2 a2).bind fun s16 => (gQ s16 3 t 2).bind fun q18 => (f_X5_set s16 q18 p4.1 3 a3).bind fun s20 => (gQ s20 3 t 2).bind fun q22 => (f_X5_set s20 q22 p4.1 4 a4).bind fun s24 => some (p4.1, s24)) else none
theorem gd_X4_addCurve {σ : St} {t : Nat} {a0 : Int32} {a1 : Int32} {a2 : Int32} {a3 : Int32} {a4 : Int32} {r : Int32 × St} (h : f_X4_addCurve σ t a0 a1 a2 a3 a4 = some r) : isO σ 3 t = true := by
  unfold f_X4_addCurve at h
  by_cases hg : isO σ 3 t = true
  · exact hg
  · rw [if_neg hg] at h
    cases h
set_option maxRecDepth 100000 in
set_option maxHeartbeats 4000000 in
theorem c_X4_addCurve (l : Launch) (G : Gd) (d : Nat) (σ : St) (t : Nat) (a0 : Int32) (a1 : Int32) (a2 : Int32) (a3 : Int32) (a4 : Int32) (r0 : Int32) (σ' : St) (hf : f_X4_addCurve σ t a0 a1 a2 a3 a4 = some (r0, σ')) : MetV l G (d + 2) mi_X4_addCurve [.ref t, .int a0, .int a1, .int a2, .int a3, .int a4] σ (some (.int r0)) σ' 0 0 := by
  unfold f_X4_addCurve at hf
  refine MetV.of [(0, .ref t), (1, .int a0), (2, .int a1), (3, .int a2), (4, .int a3), (5, .int a4)] (by decide +kernel) rfl (Nat.le_of_ble_eq_true rfl) ?_
  intro X hQ
  by_cases hg : isO σ 3 t = true
  · rw [if_pos hg] at hf
    refine V_aload_n 0 1 rfl dX4_addCurve_0 rfl rfl ?_
    obtain ⟨q2, h1, hf⟩ := ob hf
    refine V_getQ (n := 11) (ty := tyX4) 4 h1 cf_3 rfl wd_fl_X4_23 dX4_addCurve_1 rfl ?_
    obtain ⟨p4, h3, hf⟩ := ob hf
    refine V_callV (rest := []) (T := TX5) (n := 4) (ci := 4) 0 0 7 [.int p4.1] (c_X5_add l G (d + 0) _ _ _ _ h3) (by omega) ok_X5_add okv_X5_add (gd_X5_add h3) rfl wd_ml_X4_57 rfl rfl (Nat.le_of_ble_eq_true rfl) rfl rfl (Or.inl ⟨rfl, rfl⟩) dX4_addCurve_4 rfl rfl ?_
    refine V_istore [(6, .int p4.1), (0, .ref t), (1, .int a0), (2, .int a1), (3, .int a2), (4, .int a3), (5, .int a4)] 9 dX4_addCurve_7 (by decide) rfl rfl ?_
    refine V_aload_n 1 10 rfl dX4_addCurve_9 rfl rfl ?_
    obtain ⟨q6, h5, hf⟩ := ob hf
    refine V_getQ (n := 11) (ty := tyX4) 13 h5 cf_3 rfl wd_fl_X4_23 dX4_addCurve_10 rfl ?_
    refine V_iload 0 15 rfl dX4_addCurve_13 rfl ?_
    refine V_iconst 0 16 dX4_addCurve_15 rfl kiconst_0 ?_
    refine V_iload_n 2 17 rfl dX4_addCurve_16 rfl rfl ?_
    obtain ⟨s8, h7, hf⟩ := ob hf
    refine V_callV (rest := []) (T := TX5) (n := 4) (ci := 4) 0 0 20 [] (c_X5_set l G (d + 0) _ _ _ _ _ _ h7) (by omega) ok_X5_set okv_X5_set (gd_X5_set h7) rfl wd_ml_X4_61 rfl rfl (Nat.le_of_ble_eq_true rfl) rfl rfl (Or.inl ⟨rfl, rfl⟩) dX4_addCurve_17 rfl rfl ?_
    refine V_aload_n 1 21 rfl dX4_addCurve_20 rfl rfl ?_
    obtain ⟨q10, h9, hf⟩ := ob hf
    refine V_getQ (n := 11) (ty := tyX4) 24 h9 cf_3 rfl wd_fl_X4_23 dX4_addCurve_21 rfl ?_
    refine V_iload 0 26 rfl dX4_addCurve_24 rfl ?_
    refine V_iconst 1 27 dX4_addCurve_26 rfl kiconst_1 ?_
    refine V_iload_n 3 28 rfl dX4_addCurve_27 rfl rfl ?_
    obtain ⟨s12, h11, hf⟩ := ob hf
    refine V_callV (rest := []) (T := TX5) (n := 4) (ci := 4) 0 0 31 [] (c_X5_set l G (d + 0) _ _ _ _ _ _ h11) (by omega) ok_X5_set okv_X5_set (gd_X5_set h11) rfl wd_ml_X4_61 rfl rfl (Nat.le_of_ble_eq_true rfl) rfl rfl (Or.inl ⟨rfl, rfl⟩) dX4_addCurve_28 rfl rfl ?_
    refine V_aload_n 1 32 rfl dX4_addCurve_31 rfl rfl ?_
    obtain ⟨q14, h13, hf⟩ := ob hf
    refine V_getQ (n := 11) (ty := tyX4) 35 h13 cf_3 rfl wd_fl_X4_23 dX4_addCurve_32 rfl ?_
    refine V_iload 0 37 rfl dX4_addCurve_35 rfl ?_
    refine V_iconst 2 38 dX4_addCurve_37 rfl kiconst_2 ?_
    refine V_iload_n 4 39 rfl dX4_addCurve_38 rfl rfl ?_
    obtain ⟨s16, h15, hf⟩ := ob hf
    refine V_callV (rest := []) (T := TX5) (n := 4) (ci := 4) 0 0 42 [] (c_X5_set l G (d + 0) _ _ _ _ _ _ h15) (by omega) ok_X5_set okv_X5_set (gd_X5_set h15) rfl wd_ml_X4_61 rfl rfl (Nat.le_of_ble_eq_true rfl) rfl rfl (Or.inl ⟨rfl, rfl⟩) dX4_addCurve_39 rfl rfl ?_
    refine V_aload_n 1 43 rfl dX4_addCurve_42 rfl rfl ?_
    obtain ⟨q18, h17, hf⟩ := ob hf
    refine V_getQ (n := 11) (ty := tyX4) 46 h17 cf_3 rfl wd_fl_X4_23 dX4_addCurve_43 rfl ?_
    refine V_iload 0 48 rfl dX4_addCurve_46 rfl ?_
    refine V_iconst 3 49 dX4_addCurve_48 rfl kiconst_3 ?_
    refine V_iload 5 51 rfl dX4_addCurve_49 rfl ?_
    obtain ⟨s20, h19, hf⟩ := ob hf
    refine V_callV (rest := []) (T := TX5) (n := 4) (ci := 4) 0 0 54 [] (c_X5_set l G (d + 0) _ _ _ _ _ _ h19) (by omega) ok_X5_set okv_X5_set (gd_X5_set h19) rfl wd_ml_X4_61 rfl rfl (Nat.le_of_ble_eq_true rfl) rfl rfl (Or.inl ⟨rfl, rfl⟩) dX4_addCurve_51 rfl rfl ?_
    refine V_aload_n 1 55 rfl dX4_addCurve_54 rfl rfl ?_
    obtain ⟨q22, h21, hf⟩ := ob hf
    refine V_getQ (n := 11) (ty := tyX4) 58 h21 cf_3 rfl wd_fl_X4_23 dX4_addCurve_55 rfl ?_
    refine V_iload 0 60 rfl dX4_addCurve_58 rfl ?_
    refine V_iconst 4 61 dX4_addCurve_60 rfl kiconst_4 ?_
    refine V_iload 6 63 rfl dX4_addCurve_61 rfl ?_
    obtain ⟨s24, h23, hf⟩ := ob hf
    refine V_callV (rest := []) (T := TX5) (n := 4) (ci := 4) 0 0 66 [] (c_X5_set l G (d + 0) _ _ _ _ _ _ h23) (by omega) ok_X5_set okv_X5_set (gd_X5_set h23) rfl wd_ml_X4_61 rfl rfl (Nat.le_of_ble_eq_true rfl) rfl rfl (Or.inl ⟨rfl, rfl⟩) dX4_addCurve_63 rfl rfl ?_
    refine V_iload 0 68 rfl dX4_addCurve_66 rfl ?_
    have er := Option.some.inj hf
    obtain ⟨e1, e2⟩ := Prod.mk.inj er
    subst e1
    subst e2
    exact V_iret hQ rfl dX4_addCurve_68
  · rw [if_neg hg] at hf
    cases hf
abbrev mi_X4_setPoint : MI := (yX4_setPoint, cX4_setPoint, 4, none)
theorem ok_X4_setPoint : OkN mi_X4_setPoint 3 := ⟨wd_cd_X4_setPoint, wd_in_X4, ⟨by decide +kernel, by decide +kernel, by decide +kernel⟩, by decide⟩
theorem okv_X4_setPoint : Cond.instanceMethod (mi_X4_setPoint).1 ∈ tb ∧ Cond.selects (mi_X4_setPoint).1.cls (mi_X4_setPoint).1 (mi_X4_setPoint).1 ∈ tb := ⟨wd_im_X4_setPoint, wd_se_X4_setPoint⟩
def f_X4_setPoint (σ : St) (t : Nat) (a0 : Int32) (a1 : Int32) (a2 : Int32) : Option St := if isO σ 3 t = true then (if a0 < 0 then (some σ) else (if 24 ≤ a0 then (some σ) else (if a1 < 0 then (some σ) else (if 24 ≤ a1 then (some σ) else ((gQ σ 3 t 3).bind fun q6 => (sI σ q6 ((a0 * 24) + a1) a2).bind fun s8 => some s8))))) else none
theorem gd_X4_setPoint {σ : St} {t : Nat} {a0 : Int32} {a1 : Int32} {a2 : Int32} {r : St} (h : f_X4_setPoint σ t a0 a1 a2 = some r) : isO σ 3 t = true := by
  unfold f_X4_setPoint at h
  by_cases hg : isO σ 3 t = true
  · exact hg
  · rw [if_neg hg] at h
    cases h
set_option maxRecDepth 100000 in
set_option maxHeartbeats 4000000 in
theorem c_X4_setPoint (l : Launch) (G : Gd) (d : Nat) (σ : St) (t : Nat) (a0 : Int32) (a1 : Int32) (a2 : Int32) (σ' : St) (hf : f_X4_setPoint σ t a0 a1 a2 = some σ') : MetV l G (d + 1) mi_X4_setPoint [.ref t, .int a0, .int a1, .int a2] σ none σ' 0 0 := by
  unfold f_X4_setPoint at hf
  refine MetV.of [(0, .ref t), (1, .int a0), (2, .int a1), (3, .int a2)] (by decide +kernel) rfl (Nat.le_of_ble_eq_true rfl) ?_
  intro X hQ
  by_cases hg : isO σ 3 t = true
  · rw [if_pos hg] at hf
    refine V_iload_n 1 1 rfl dX4_setPoint_0 rfl rfl ?_
    refine V_if_lt 32 4 dX4_setPoint_1 (by decide) rfl (fun c1 => ?_) (fun c1 => ?_)
    · rw [if_pos c1] at hf
      have er := Option.some.inj hf
      subst er
      exact V_vret hQ rfl dX4_setPoint_32
    · rw [if_neg c1] at hf
      refine V_iload_n 1 5 rfl dX4_setPoint_4 rfl rfl ?_
      refine V_bipush 24 7 dX4_setPoint_5 rfl kbipush_24 ?_
      refine V_icmp_ge 32 10 dX4_setPoint_7 (by decide) rfl (fun c2 => ?_) (fun c2 => ?_)
      · rw [if_pos c2] at hf
        have er := Option.some.inj hf
        subst er
        exact V_vret hQ rfl dX4_setPoint_32
      · rw [if_neg c2] at hf
        refine V_iload_n 2 11 rfl dX4_setPoint_10 rfl rfl ?_
        refine V_if_lt 32 14 dX4_setPoint_11 (by decide) rfl (fun c3 => ?_) (fun c3 => ?_)
        · rw [if_pos c3] at hf
          have er := Option.some.inj hf
          subst er
          exact V_vret hQ rfl dX4_setPoint_32
        · rw [if_neg c3] at hf
          refine V_iload_n 2 15 rfl dX4_setPoint_14 rfl rfl ?_
          refine V_bipush 24 17 dX4_setPoint_15 rfl kbipush_24 ?_
          refine V_icmp_ge 32 20 dX4_setPoint_17 (by decide) rfl (fun c4 => ?_) (fun c4 => ?_)
          · rw [if_pos c4] at hf
            have er := Option.some.inj hf
            subst er
            exact V_vret hQ rfl dX4_setPoint_32
          · rw [if_neg c4] at hf
            refine V_aload_n 0 21 rfl dX4_setPoint_20 rfl rfl ?_
            obtain ⟨q6, h5, hf⟩ := ob hf
            refine V_getQ (n := 11) (ty := tyX4) 24 h5 cf_3 rfl wd_fl_X4_26 dX4_setPoint_21 rfl ?_
            refine V_iload_n 1 25 rfl dX4_setPoint_24 rfl rfl ?_
            refine V_bipush 24 27 dX4_setPoint_25 rfl kbipush_24 ?_
            refine V_imul 28 dX4_setPoint_27 rfl ?_
            refine V_iload_n 2 29 rfl dX4_setPoint_28 rfl rfl ?_
            refine V_iadd 30 dX4_setPoint_29 rfl ?_
            refine V_iload_n 3 31 rfl dX4_setPoint_30 rfl rfl ?_
            obtain ⟨s8, h7, hf⟩ := ob hf
            refine V_iast 32 h7 dX4_setPoint_31 rfl ?_
            have er := Option.some.inj hf
            subst er
            exact V_vret hQ rfl dX4_setPoint_32
  · rw [if_neg hg] at hf
    cases hf
abbrev mi_X4_draw : MI := (yX4_draw, cX4_draw, 2, some .int)
theorem ok_X4_draw : OkN mi_X4_draw 1 := ⟨wd_cd_X4_draw, wd_in_X4, ⟨by decide +kernel, by decide +kernel, by decide +kernel⟩, by decide⟩
theorem okv_X4_draw : Cond.instanceMethod (mi_X4_draw).1 ∈ tb ∧ Cond.selects (mi_X4_draw).1.cls (mi_X4_draw).1 (mi_X4_draw).1 ∈ tb := ⟨wd_im_X4_draw, wd_se_X4_draw⟩
def f_X4_draw (σ : St) (t : Nat) (a0 : Int32) : Option (Int32 × St) := if isO σ 3 t = true then ((gI σ 3 t 10).bind fun v2 => (pI σ 3 t 10 ((v2 * 1103515245) + 12345)).bind fun s4 => if 1 ≤ a0 then ((gI s4 3 t 10).bind fun v7 => (ne0 a0).bind fun z8 => some (irm (ush v7 16) a0, s4)) else (some (0, s4))) else none
theorem gd_X4_draw {σ : St} {t : Nat} {a0 : Int32} {r : Int32 × St} (h : f_X4_draw σ t a0 = some r) : isO σ 3 t = true := by
  unfold f_X4_draw at h
  by_cases hg : isO σ 3 t = true
  · exact hg
  · rw [if_neg hg] at h
    cases h
set_option maxRecDepth 100000 in
set_option maxHeartbeats 4000000 in
theorem c_X4_draw (l : Launch) (G : Gd) (d : Nat) (σ : St) (t : Nat) (a0 : Int32) (r0 : Int32) (σ' : St) (hf : f_X4_draw σ t a0 = some (r0, σ')) : MetV l G (d + 1) mi_X4_draw [.ref t, .int a0] σ (some (.int r0)) σ' 0 0 := by
  unfold f_X4_draw at hf
  refine MetV.of [(0, .ref t), (1, .int a0)] (by decide +kernel) rfl (Nat.le_of_ble_eq_true rfl) ?_
  intro X hQ
  by_cases hg : isO σ 3 t = true
  · rw [if_pos hg] at hf
    refine V_aload_n 0 1 rfl dX4_draw_0 rfl rfl ?_
    refine V_aload_n 0 2 rfl dX4_draw_1 rfl rfl ?_
    obtain ⟨v2, h1, hf⟩ := ob hf
    refine V_getI (n := 11) (ty := tyX4) 5 h1 cf_3 rfl wd_fl_X4_53 dX4_draw_2 rfl ?_
    refine V_ldc 1103515245 7 dX4_draw_5 rfl wd_kk_X4_78 ?_
    refine V_imul 8 dX4_draw_7 rfl ?_
    refine V_sipush 12345 11 dX4_draw_8 rfl ksipush_12345 ?_
    refine V_iadd 12 dX4_draw_11 rfl ?_
    obtain ⟨s4, h3, hf⟩ := ob hf
    refine V_putI (n := 11) (T := TX4) (ty := tyX4) (f := 10) 15 h3 cf_3 rfl rfl (Or.inl rfl) wd_fl_X4_53 dX4_draw_12 rfl ?_
    refine V_iload_n 1 16 rfl dX4_draw_15 rfl rfl ?_
    refine V_iconst 1 17 dX4_draw_16 rfl kiconst_1 ?_
    refine V_icmp_ge 24 20 dX4_draw_17 (by decide) rfl (fun c5 => ?_) (fun c5 => ?_)
    · rw [if_pos c5] at hf
      refine V_aload_n 0 25 rfl dX4_draw_24 rfl rfl ?_
      obtain ⟨v7, h6, hf⟩ := ob hf
      refine V_getI (n := 11) (ty := tyX4) 28 h6 cf_3 rfl wd_fl_X4_53 dX4_draw_25 rfl ?_
      refine V_bipush 16 30 dX4_draw_28 rfl kbipush_16 ?_
      refine V_iushr 31 dX4_draw_30 rfl ?_
      refine V_iload_n 1 32 rfl dX4_draw_31 rfl rfl ?_
      obtain ⟨z8, h9, hf⟩ := ob hf
      refine V_irem 33 dX4_draw_32 rfl (ne0_ne h9) ?_
      have er := Option.some.inj hf
      obtain ⟨e1, e2⟩ := Prod.mk.inj er
      subst e1
      subst e2
      exact V_iret hQ rfl dX4_draw_33
    · rw [if_neg c5] at hf
      refine V_iconst 0 21 dX4_draw_20 rfl kiconst_0 ?_
      refine V_goto 33 dX4_draw_21 (by decide) ?_
      have er := Option.some.inj hf
      obtain ⟨e1, e2⟩ := Prod.mk.inj er
      subst e1
      subst e2
      exact V_iret hQ rfl dX4_draw_33
  · rw [if_neg hg] at hf
    cases hf
abbrev mi_X4_dayOf : MI := (yX4_dayOf, cX4_dayOf, 2, some .int)
theorem ok_X4_dayOf : OkN mi_X4_dayOf 1 := ⟨wd_cd_X4_dayOf, wd_in_X4, ⟨by decide +kernel, by decide +kernel, by decide +kernel⟩, by decide⟩
theorem okv_X4_dayOf : Cond.instanceMethod (mi_X4_dayOf).1 ∈ tb ∧ Cond.selects (mi_X4_dayOf).1.cls (mi_X4_dayOf).1 (mi_X4_dayOf).1 ∈ tb := ⟨wd_im_X4_dayOf, wd_se_X4_dayOf⟩
def f_X4_dayOf (σ : St) (t : Nat) (a0 : Int32) : Option Int32 := if isO σ 3 t = true then ((gQ σ 3 t 1).bind fun q2 => (gQ σ 3 t 2).bind fun q4 => (f_X5_at σ q4 a0 1).bind fun v6 => (f_X5_at σ q2 v6 0).bind fun v8 => some v8) else none
theorem gd_X4_dayOf {σ : St} {t : Nat} {a0 : Int32} {r : Int32} (h : f_X4_dayOf σ t a0 = some r) : isO σ 3 t = true := by
  unfold f_X4_dayOf at h
  by_cases hg : isO σ 3 t = true
  · exact hg
  · rw [if_neg hg] at h
    cases h
set_option maxRecDepth 100000 in
set_option maxHeartbeats 4000000 in
theorem c_X4_dayOf (l : Launch) (G : Gd) (d : Nat) (σ : St) (t : Nat) (a0 : Int32) (r0 : Int32) (hf : f_X4_dayOf σ t a0 = some r0) : MetV l G (d + 2) mi_X4_dayOf [.ref t, .int a0] σ (some (.int r0)) σ 0 0 := by
  unfold f_X4_dayOf at hf
  refine MetV.of [(0, .ref t), (1, .int a0)] (by decide +kernel) rfl (Nat.le_of_ble_eq_true rfl) ?_
  intro X hQ
  by_cases hg : isO σ 3 t = true
  · rw [if_pos hg] at hf
    refine V_aload_n 0 1 rfl dX4_dayOf_0 rfl rfl ?_
    obtain ⟨q2, h1, hf⟩ := ob hf
    refine V_getQ (n := 11) (ty := tyX4) 4 h1 cf_3 rfl wd_fl_X4_20 dX4_dayOf_1 rfl ?_
    refine V_aload_n 0 5 rfl dX4_dayOf_4 rfl rfl ?_
    obtain ⟨q4, h3, hf⟩ := ob hf
    refine V_getQ (n := 11) (ty := tyX4) 8 h3 cf_3 rfl wd_fl_X4_23 dX4_dayOf_5 rfl ?_
    refine V_iload_n 1 9 rfl dX4_dayOf_8 rfl rfl ?_
    refine V_iconst 1 10 dX4_dayOf_9 rfl kiconst_1 ?_
    obtain ⟨v6, h5, hf⟩ := ob hf
    refine V_callV (rest := [.ref q2]) (T := TX5) (n := 4) (ci := 4) 0 0 13 [.int v6, .ref q2] (c_X5_at l G (d + 0) _ _ _ _ _ h5) (by omega) ok_X5_at okv_X5_at (gd_X5_at h5) rfl wd_ml_X4_82 rfl rfl (Nat.le_of_ble_eq_true rfl) rfl rfl (Or.inl ⟨rfl, rfl⟩) dX4_dayOf_10 rfl rfl ?_
    refine V_iconst 0 14 dX4_dayOf_13 rfl kiconst_0 ?_
    obtain ⟨v8, h7, hf⟩ := ob hf
    refine V_callV (rest := []) (T := TX5) (n := 4) (ci := 4) 0 0 17 [.int v8] (c_X5_at l G (d + 0) _ _ _ _ _ h7) (by omega) ok_X5_at okv_X5_at (gd_X5_at h7) rfl wd_ml_X4_82 rfl rfl (Nat.le_of_ble_eq_true rfl) rfl rfl (Or.inl ⟨rfl, rfl⟩) dX4_dayOf_14 rfl rfl ?_
    have er := Option.some.inj hf
    subst er
    exact V_iret hQ rfl dX4_dayOf_17
  · rw [if_neg hg] at hf
    cases hf
abbrev mi_X4_size : MI := (yX4_size, cX4_size, 2, some .int)
theorem ok_X4_size : OkN mi_X4_size 1 := ⟨wd_cd_X4_size, wd_in_X4, ⟨by decide +kernel, by decide +kernel, by decide +kernel⟩, by decide⟩
theorem okv_X4_size : Cond.instanceMethod (mi_X4_size).1 ∈ tb ∧ Cond.selects (mi_X4_size).1.cls (mi_X4_size).1 (mi_X4_size).1 ∈ tb := ⟨wd_im_X4_size, wd_se_X4_size⟩
def f_X4_size (σ : St) (t : Nat) (a0 : Int32) : Option Int32 := if isO σ 3 t = true then ((gQ σ 3 t 2).bind fun q2 => (f_X5_at σ q2 a0 3).bind fun v4 => some v4) else none
theorem gd_X4_size {σ : St} {t : Nat} {a0 : Int32} {r : Int32} (h : f_X4_size σ t a0 = some r) : isO σ 3 t = true := by
  unfold f_X4_size at h
  by_cases hg : isO σ 3 t = true
  · exact hg
  · rw [if_neg hg] at h
    cases h
set_option maxRecDepth 100000 in
set_option maxHeartbeats 4000000 in
theorem c_X4_size (l : Launch) (G : Gd) (d : Nat) (σ : St) (t : Nat) (a0 : Int32) (r0 : Int32) (hf : f_X4_size σ t a0 = some r0) : MetV l G (d + 2) mi_X4_size [.ref t, .int a0] σ (some (.int r0)) σ 0 0 := by
  unfold f_X4_size at hf
  refine MetV.of [(0, .ref t), (1, .int a0)] (by decide +kernel) rfl (Nat.le_of_ble_eq_true rfl) ?_
  intro X hQ
  by_cases hg : isO σ 3 t = true
  · rw [if_pos hg] at hf
    refine V_aload_n 0 1 rfl dX4_size_0 rfl rfl ?_
    obtain ⟨q2, h1, hf⟩ := ob hf
    refine V_getQ (n := 11) (ty := tyX4) 4 h1 cf_3 rfl wd_fl_X4_23 dX4_size_1 rfl ?_
    refine V_iload_n 1 5 rfl dX4_size_4 rfl rfl ?_
    refine V_iconst 3 6 dX4_size_5 rfl kiconst_3 ?_
    obtain ⟨v4, h3, hf⟩ := ob hf
    refine V_callV (rest := []) (T := TX5) (n := 4) (ci := 4) 0 0 9 [.int v4] (c_X5_at l G (d + 0) _ _ _ _ _ h3) (by omega) ok_X5_at okv_X5_at (gd_X5_at h3) rfl wd_ml_X4_82 rfl rfl (Nat.le_of_ble_eq_true rfl) rfl rfl (Or.inl ⟨rfl, rfl⟩) dX4_size_6 rfl rfl ?_
    have er := Option.some.inj hf
    subst er
    exact V_iret hQ rfl dX4_size_9
  · rw [if_neg hg] at hf
    cases hf
abbrev mi_X4_roomFrom : MI := (yX4_roomFrom, cX4_roomFrom, 4, some .int)
theorem ok_X4_roomFrom : OkN mi_X4_roomFrom 3 := ⟨wd_cd_X4_roomFrom, wd_in_X4, ⟨by decide +kernel, by decide +kernel, by decide +kernel⟩, by decide⟩
theorem okv_X4_roomFrom : Cond.instanceMethod (mi_X4_roomFrom).1 ∈ tb ∧ Cond.selects (mi_X4_roomFrom).1.cls (mi_X4_roomFrom).1 (mi_X4_roomFrom).1 ∈ tb := ⟨wd_im_X4_roomFrom, wd_se_X4_roomFrom⟩
def f_X4_roomFrom (σ : St) (t : Nat) (a0 : Int32) (a1 : Int32) (a2 : Int32) : Option Int32 := if isO σ 3 t = true then (if a1 < 0 then (some 0) else ((f_X4_size σ t a0).bind fun v3 => if a1 < v3 then (if a2 = 1 then (some (a1 + 1)) else ((f_X4_size σ t a0).bind fun v7 => some (v7 - a1))) else (some 0))) else none
theorem gd_X4_roomFrom {σ : St} {t : Nat} {a0 : Int32} {a1 : Int32} {a2 : Int32} {r : Int32} (h : f_X4_roomFrom σ t a0 a1 a2 = some r) : isO σ 3 t = true := by
  unfold f_X4_roomFrom at h
  by_cases hg : isO σ 3 t = true
  · exact hg
  · rw [if_neg hg] at h
    cases h
set_option maxRecDepth 100000 in
set_option maxHeartbeats 4000000 in
theorem c_X4_roomFrom (l : Launch) (G : Gd) (d : Nat) (σ : St) (t : Nat) (a0 : Int32) (a1 : Int32) (a2 : Int32) (r0 : Int32) (hf : f_X4_roomFrom σ t a0 a1 a2 = some r0) : MetV l G (d + 3) mi_X4_roomFrom [.ref t, .int a0, .int a1, .int a2] σ (some (.int r0)) σ 0 0 := by
  unfold f_X4_roomFrom at hf
  refine MetV.of [(0, .ref t), (1, .int a0), (2, .int a1), (3, .int a2)] (by decide +kernel) rfl (Nat.le_of_ble_eq_true rfl) ?_
  intro X hQ
  by_cases hg : isO σ 3 t = true
  · rw [if_pos hg] at hf
    refine V_iload_n 2 1 rfl dX4_roomFrom_0 rfl rfl ?_
    refine V_if_lt 13 4 dX4_roomFrom_1 (by decide) rfl (fun c1 => ?_) (fun c1 => ?_)
    · rw [if_pos c1] at hf
      refine V_iconst 0 14 dX4_roomFrom_13 rfl kiconst_0 ?_
      have er := Option.some.inj hf
      subst er
      exact V_iret hQ rfl dX4_roomFrom_14
    · rw [if_neg c1] at hf
      refine V_iload_n 2 5 rfl dX4_roomFrom_4 rfl rfl ?_
      refine V_aload_n 0 6 rfl dX4_roomFrom_5 rfl rfl ?_
      refine V_iload_n 1 7 rfl dX4_roomFrom_6 rfl rfl ?_
      obtain ⟨v3, h2, hf⟩ := ob hf
      refine V_callV (rest := [.int a1]) (T := TX4) (n := 11) (ci := 3) 0 0 10 [.int v3, .int a1] (c_X4_size l G (d + 0) _ _ _ _ h2) (by omega) ok_X4_size okv_X4_size (gd_X4_size h2) rfl wd_ml_X4_86 rfl rfl (Nat.le_of_ble_eq_true rfl) rfl rfl (Or.inl ⟨rfl, rfl⟩) dX4_roomFrom_7 rfl rfl ?_
      refine V_icmp_lt 15 13 dX4_roomFrom_10 (by decide) rfl (fun c4 => ?_) (fun c4 => ?_)
      · rw [if_pos c4] at hf
        refine V_iload_n 3 16 rfl dX4_roomFrom_15 rfl rfl ?_
        refine V_iconst 1 17 dX4_roomFrom_16 rfl kiconst_1 ?_
        refine V_icmp_ne 26 20 dX4_roomFrom_17 (by decide) rfl (fun c5 => ?_) (fun c5 => ?_)
        · rw [if_neg c5] at hf
          refine V_aload_n 0 27 rfl dX4_roomFrom_26 rfl rfl ?_
          refine V_iload_n 1 28 rfl dX4_roomFrom_27 rfl rfl ?_
          obtain ⟨v7, h6, hf⟩ := ob hf
          refine V_callV (rest := []) (T := TX4) (n := 11) (ci := 3) 0 0 31 [.int v7] (c_X4_size l G (d + 0) _ _ _ _ h6) (by omega) ok_X4_size okv_X4_size (gd_X4_size h6) rfl wd_ml_X4_86 rfl rfl (Nat.le_of_ble_eq_true rfl) rfl rfl (Or.inl ⟨rfl, rfl⟩) dX4_roomFrom_28 rfl rfl ?_
          refine V_iload_n 2 32 rfl dX4_roomFrom_31 rfl rfl ?_
          refine V_isub 33 dX4_roomFrom_32 rfl ?_
          have er := Option.some.inj hf
          subst er
          exact V_iret hQ rfl dX4_roomFrom_33
        · rw [if_pos c5] at hf
          refine V_iload_n 2 21 rfl dX4_roomFrom_20 rfl rfl ?_
          refine V_iconst 1 22 dX4_roomFrom_21 rfl kiconst_1 ?_
          refine V_iadd 23 dX4_roomFrom_22 rfl ?_
          refine V_goto 33 dX4_roomFrom_23 (by decide) ?_
          have er := Option.some.inj hf
          subst er
          exact V_iret hQ rfl dX4_roomFrom_33
      · rw [if_neg c4] at hf
        refine V_iconst 0 14 dX4_roomFrom_13 rfl kiconst_0 ?_
        have er := Option.some.inj hf
        subst er
        exact V_iret hQ rfl dX4_roomFrom_14
  · rw [if_neg hg] at hf
    cases hf
abbrev mi_X4_pointAt : MI := (yX4_pointAt, cX4_pointAt, 4, some .int)
theorem ok_X4_pointAt : OkN mi_X4_pointAt 2 := ⟨wd_cd_X4_pointAt, wd_in_X4, ⟨by decide +kernel, by decide +kernel, by decide +kernel⟩, by decide⟩
theorem okv_X4_pointAt : Cond.instanceMethod (mi_X4_pointAt).1 ∈ tb ∧ Cond.selects (mi_X4_pointAt).1.cls (mi_X4_pointAt).1 (mi_X4_pointAt).1 ∈ tb := ⟨wd_im_X4_pointAt, wd_se_X4_pointAt⟩
def f_X4_pointAt (σ : St) (t : Nat) (a0 : Int32) (a1 : Int32) : Option Int32 := if isO σ 3 t = true then (if (if a0 < 0 then 0 else (if 24 ≤ a0 then 0 else (if a1 < 0 then 0 else (if 24 ≤ a1 then 0 else 1))) : Int32) = 0 then (some 0) else ((gQ σ 3 t 3).bind fun q3 => (aI σ 0 q3 ((a0 * 24) + a1)).bind fun v5 => some v5)) else none
theorem gd_X4_pointAt {σ : St} {t : Nat} {a0 : Int32} {a1 : Int32} {r : Int32} (h : f_X4_pointAt σ t a0 a1 = some r) : isO σ 3 t = true := by
  unfold f_X4_pointAt at h
  by_cases hg : isO σ 3 t = true
  · exact hg
  · rw [if_neg hg] at h
    cases h
set_option maxRecDepth 100000 in
set_option maxHeartbeats 4000000 in
theorem c_X4_pointAt (l : Launch) (G : Gd) (d : Nat) (σ : St) (t : Nat) (a0 : Int32) (a1 : Int32) (r0 : Int32) (hf : f_X4_pointAt σ t a0 a1 = some r0) : MetV l G (d + 1) mi_X4_pointAt [.ref t, .int a0, .int a1] σ (some (.int r0)) σ 0 0 := by
  unfold f_X4_pointAt at hf
  refine MetV.of [(0, .ref t), (1, .int a0), (2, .int a1)] (by decide +kernel) rfl (Nat.le_of_ble_eq_true rfl) ?_
  intro X hQ
  by_cases hg : isO σ 3 t = true
  · rw [if_pos hg] at hf
    refine V_iload_n 1 1 rfl dX4_pointAt_0 rfl rfl ?_
    have kj6 : V mi_X4_pointAt l G (d + 1) 0 0 X 0 0 25 [(0, .ref t), (1, .int a0), (2, .int a1)] [.int (if a0 < 0 then 0 else (if 24 ≤ a0 then 0 else (if a1 < 0 then 0 else (if 24 ≤ a1 then 0 else 1))) : Int32)] σ := by
      refine V_istore_n [(3, .int (if a0 < 0 then 0 else (if 24 ≤ a0 then 0 else (if a1 < 0 then 0 else (if 24 ≤ a1 then 0 else 1))) : Int32)), (0, .ref t), (1, .int a0), (2, .int a1)] 26 dX4_pointAt_25 rfl (by decide) rfl rfl ?_
      refine V_iload_n 0 27 rfl dX4_pointAt_26 rfl rfl ?_
      refine V_if_eq 44 30 dX4_pointAt_27 (by decide) rfl (fun c1 => ?_) (fun c1 => ?_)
      · rw [if_pos c1] at hf
        refine V_iconst 0 45 dX4_pointAt_44 rfl kiconst_0 ?_
        have er := Option.some.inj hf
        subst er
        exact V_iret hQ rfl dX4_pointAt_45
      · rw [if_neg c1] at hf
        refine V_aload_n 1 31 rfl dX4_pointAt_30 rfl rfl ?_
        obtain ⟨q3, h2, hf⟩ := ob hf
        refine V_getQ (n := 11) (ty := tyX4) 34 h2 cf_3 rfl wd_fl_X4_26 dX4_pointAt_31 rfl ?_
        refine V_iload_n 2 35 rfl dX4_pointAt_34 rfl rfl ?_
        refine V_bipush 24 37 dX4_pointAt_35 rfl kbipush_24 ?_
        refine V_imul 38 dX4_pointAt_37 rfl ?_
        refine V_iload_n 3 39 rfl dX4_pointAt_38 rfl rfl ?_
        refine V_iadd 40 dX4_pointAt_39 rfl ?_
        obtain ⟨v5, h4, hf⟩ := ob hf
        refine V_iald 41 h4 dX4_pointAt_40 rfl ?_
        refine V_goto 45 dX4_pointAt_41 (by decide) ?_
        have er := Option.some.inj hf
        subst er
        exact V_iret hQ rfl dX4_pointAt_45
    refine V_if_lt 24 4 dX4_pointAt_1 (by decide) rfl (fun c7 => ?_) (fun c7 => ?_)
    · refine V_iconst 0 25 dX4_pointAt_24 rfl kiconst_0 ?_
      refine V_ls [(0, .ref t), (1, .int a0), (2, .int a1)] [0, 1, 2] rfl ?_
      simp only [if_pos c7] at kj6
      exact kj6
    · refine V_iload_n 1 5 rfl dX4_pointAt_4 rfl rfl ?_
      refine V_bipush 24 7 dX4_pointAt_5 rfl kbipush_24 ?_
      refine V_icmp_ge 24 10 dX4_pointAt_7 (by decide) rfl (fun c8 => ?_) (fun c8 => ?_)
      · refine V_iconst 0 25 dX4_pointAt_24 rfl kiconst_0 ?_
        refine V_ls [(0, .ref t), (1, .int a0), (2, .int a1)] [0, 1, 2] rfl ?_
        simp only [if_neg c7, if_pos c8] at kj6
        exact kj6
      · refine V_iload_n 2 11 rfl dX4_pointAt_10 rfl rfl ?_
        refine V_if_lt 24 14 dX4_pointAt_11 (by decide) rfl (fun c9 => ?_) (fun c9 => ?_)
        · refine V_iconst 0 25 dX4_pointAt_24 rfl kiconst_0 ?_
          refine V_ls [(0, .ref t), (1, .int a0), (2, .int a1)] [0, 1, 2] rfl ?_
          simp only [if_neg c7, if_neg c8, if_pos c9] at kj6
          exact kj6
        · refine V_iload_n 2 15 rfl dX4_pointAt_14 rfl rfl ?_
          refine V_bipush 24 17 dX4_pointAt_15 rfl kbipush_24 ?_
          refine V_icmp_ge 24 20 dX4_pointAt_17 (by decide) rfl (fun c10 => ?_) (fun c10 => ?_)
          · refine V_iconst 0 25 dX4_pointAt_24 rfl kiconst_0 ?_
            refine V_ls [(0, .ref t), (1, .int a0), (2, .int a1)] [0, 1, 2] rfl ?_
            simp only [if_neg c7, if_neg c8, if_neg c9, if_pos c10] at kj6
            exact kj6
          · refine V_iconst 1 21 dX4_pointAt_20 rfl kiconst_1 ?_
            refine V_goto 25 dX4_pointAt_21 (by decide) ?_
            refine V_ls [(0, .ref t), (1, .int a0), (2, .int a1)] [0, 1, 2] rfl ?_
            simp only [if_neg c7, if_neg c8, if_neg c9, if_neg c10] at kj6
            exact kj6
  · rw [if_neg hg] at hf
    cases hf
abbrev mi_X4_hairAt : MI := (yX4_hairAt, cX4_hairAt, 3, some .int)
theorem ok_X4_hairAt : OkN mi_X4_hairAt 2 := ⟨wd_cd_X4_hairAt, wd_in_X4, ⟨by decide +kernel, by decide +kernel, by decide +kernel⟩, by decide⟩
theorem okv_X4_hairAt : Cond.instanceMethod (mi_X4_hairAt).1 ∈ tb ∧ Cond.selects (mi_X4_hairAt).1.cls (mi_X4_hairAt).1 (mi_X4_hairAt).1 ∈ tb := ⟨wd_im_X4_hairAt, wd_se_X4_hairAt⟩
def f_X4_hairAt (σ : St) (t : Nat) (a0 : Int32) (a1 : Int32) : Option Int32 := if isO σ 3 t = true then ((f_X4_pointAt σ t a0 (a1 - 1)).bind fun v2 => (f_X4_pointAt σ t a0 (a1 + 1)).bind fun v4 => (f_X4_pointAt σ t a0 a1).bind fun v6 => some ((v2 + v4) - ((2 : Int32) * v6))) else none
theorem gd_X4_hairAt {σ : St} {t : Nat} {a0 : Int32} {a1 : Int32} {r : Int32} (h : f_X4_hairAt σ t a0 a1 = some r) : isO σ 3 t = true := by
  unfold f_X4_hairAt at h
  by_cases hg : isO σ 3 t = true
  · exact hg
  · rw [if_neg hg] at h
    cases h
set_option maxRecDepth 100000 in
set_option maxHeartbeats 4000000 in
theorem c_X4_hairAt (l : Launch) (G : Gd) (d : Nat) (σ : St) (t : Nat) (a0 : Int32) (a1 : Int32) (r0 : Int32) (hf : f_X4_hairAt σ t a0 a1 = some r0) : MetV l G (d + 2) mi_X4_hairAt [.ref t, .int a0, .int a1] σ (some (.int r0)) σ 0 0 := by
  unfold f_X4_hairAt at hf
  refine MetV.of [(0, .ref t), (1, .int a0), (2, .int a1)] (by decide +kernel) rfl (Nat.le_of_ble_eq_true rfl) ?_
  intro X hQ
  by_cases hg : isO σ 3 t = true
  · rw [if_pos hg] at hf
    refine V_aload_n 0 1 rfl dX4_hairAt_0 rfl rfl ?_
    refine V_iload_n 1 2 rfl dX4_hairAt_1 rfl rfl ?_
    refine V_iload_n 2 3 rfl dX4_hairAt_2 rfl rfl ?_
    refine V_iconst 1 4 dX4_hairAt_3 rfl kiconst_1 ?_
    refine V_isub 5 dX4_hairAt_4 rfl ?_
    obtain ⟨v2, h1, hf⟩ := ob hf
    refine V_callV (rest := []) (T := TX4) (n := 11) (ci := 3) 0 0 8 [.int v2] (c_X4_pointAt l G (d + 0) _ _ _ _ _ h1) (by omega) ok_X4_pointAt okv_X4_pointAt (gd_X4_pointAt h1) rfl wd_ml_X4_90 rfl rfl (Nat.le_of_ble_eq_true rfl) rfl rfl (Or.inl ⟨rfl, rfl⟩) dX4_hairAt_5 rfl rfl ?_
    refine V_aload_n 0 9 rfl dX4_hairAt_8 rfl rfl ?_
    refine V_iload_n 1 10 rfl dX4_hairAt_9 rfl rfl ?_
    refine V_iload_n 2 11 rfl dX4_hairAt_10 rfl rfl ?_
    refine V_iconst 1 12 dX4_hairAt_11 rfl kiconst_1 ?_
    refine V_iadd 13 dX4_hairAt_12 rfl ?_
    obtain ⟨v4, h3, hf⟩ := ob hf
    refine V_callV (rest := [.int v2]) (T := TX4) (n := 11) (ci := 3) 0 0 16 [.int v4, .int v2] (c_X4_pointAt l G (d + 0) _ _ _ _ _ h3) (by omega) ok_X4_pointAt okv_X4_pointAt (gd_X4_pointAt h3) rfl wd_ml_X4_90 rfl rfl (Nat.le_of_ble_eq_true rfl) rfl rfl (Or.inl ⟨rfl, rfl⟩) dX4_hairAt_13 rfl rfl ?_
    refine V_iadd 17 dX4_hairAt_16 rfl ?_
    refine V_iconst 2 18 dX4_hairAt_17 rfl kiconst_2 ?_
    refine V_aload_n 0 19 rfl dX4_hairAt_18 rfl rfl ?_
    refine V_iload_n 1 20 rfl dX4_hairAt_19 rfl rfl ?_
    refine V_iload_n 2 21 rfl dX4_hairAt_20 rfl rfl ?_
    obtain ⟨v6, h5, hf⟩ := ob hf
    refine V_callV (rest := [.int 2, .int (v2 + v4)]) (T := TX4) (n := 11) (ci := 3) 0 0 24 [.int v6, .int 2, .int (v2 + v4)] (c_X4_pointAt l G (d + 0) _ _ _ _ _ h5) (by omega) ok_X4_pointAt okv_X4_pointAt (gd_X4_pointAt h5) rfl wd_ml_X4_90 rfl rfl (Nat.le_of_ble_eq_true rfl) rfl rfl (Or.inl ⟨rfl, rfl⟩) dX4_hairAt_21 rfl rfl ?_
    refine V_imul 25 dX4_hairAt_24 rfl ?_
    refine V_isub 26 dX4_hairAt_25 rfl ?_
    have er := Option.some.inj hf
    subst er
    exact V_iret hQ rfl dX4_hairAt_26
  · rw [if_neg hg] at hf
    cases hf
abbrev mi_X1_add : MI := (yX1_add, cX1_add, 2, none)
theorem ok_X1_add : OkN mi_X1_add 1 := ⟨wd_cd_X1_add, wd_in_X1, ⟨by decide +kernel, by decide +kernel, by decide +kernel⟩, by decide⟩
theorem okv_X1_add : Cond.instanceMethod (mi_X1_add).1 ∈ tb ∧ Cond.selects (mi_X1_add).1.cls (mi_X1_add).1 (mi_X1_add).1 ∈ tb := ⟨wd_im_X1_add, wd_se_X1_add⟩
def f_X1_add (σ : St) (t : Nat) (a0 : Int32) : Option St := if isO σ 0 t = true then ((gI σ 0 t 1).bind fun v2 => if 56 ≤ v2 then (some σ) else ((gQ σ 0 t 0).bind fun q5 => (gI σ 0 t 1).bind fun v7 => (sB σ q5 v7 a0).bind fun s9 => (gI s9 0 t 1).bind fun v11 => (pI s9 0 t 1 (v11 + 1)).bind fun s13 => some s13)) else none
theorem gd_X1_add {σ : St} {t : Nat} {a0 : Int32} {r : St} (h : f_X1_add σ t a0 = some r) : isO σ 0 t = true := by
  unfold f_X1_add at h
  by_cases hg : isO σ 0 t = true
  · exact hg
  · rw [if_neg hg] at h
    cases h
set_option maxRecDepth 100000 in
set_option maxHeartbeats 4000000 in
theorem c_X1_add (l : Launch) (G : Gd) (d : Nat) (σ : St) (t : Nat) (a0 : Int32) (σ' : St) (hf : f_X1_add σ t a0 = some σ') : MetV l G (d + 1) mi_X1_add [.ref t, .int a0] σ none σ' 0 0 := by
  unfold f_X1_add at hf
  refine MetV.of [(0, .ref t), (1, .int a0)] (by decide +kernel) rfl (Nat.le_of_ble_eq_true rfl) ?_
  intro X hQ
  by_cases hg : isO σ 0 t = true
  · rw [if_pos hg] at hf
    refine V_aload_n 0 1 rfl dX1_add_0 rfl rfl ?_
    obtain ⟨v2, h1, hf⟩ := ob hf
    refine V_getI (n := 2) (ty := tyX1) 4 h1 cf_0 rfl wd_fl_X1_13 dX1_add_1 rfl ?_
    refine V_bipush 56 6 dX1_add_4 rfl kbipush_56 ?_
    refine V_icmp_ge 29 9 dX1_add_6 (by decide) rfl (fun c3 => ?_) (fun c3 => ?_)
    · rw [if_pos c3] at hf
      have er := Option.some.inj hf
      subst er
      exact V_vret hQ rfl dX1_add_29
    · rw [if_neg c3] at hf
      refine V_aload_n 0 10 rfl dX1_add_9 rfl rfl ?_
      obtain ⟨q5, h4, hf⟩ := ob hf
      refine V_getQ (n := 2) (ty := tyX1) 13 h4 cf_0 rfl wd_fl_X1_9 dX1_add_10 rfl ?_
      refine V_aload_n 0 14 rfl dX1_add_13 rfl rfl ?_
      obtain ⟨v7, h6, hf⟩ := ob hf
      refine V_getI (n := 2) (ty := tyX1) 17 h6 cf_0 rfl wd_fl_X1_13 dX1_add_14 rfl ?_
      refine V_iload_n 1 18 rfl dX1_add_17 rfl rfl ?_
      obtain ⟨s9, h8, hf⟩ := ob hf
      refine V_bast 19 h8 dX1_add_18 rfl ?_
      refine V_aload_n 0 20 rfl dX1_add_19 rfl rfl ?_
      refine V_dup 21 dX1_add_20 rfl rfl ?_
      obtain ⟨v11, h10, hf⟩ := ob hf
      refine V_getI (n := 2) (ty := tyX1) 24 h10 cf_0 rfl wd_fl_X1_13 dX1_add_21 rfl ?_
      refine V_iconst 1 25 dX1_add_24 rfl kiconst_1 ?_
      refine V_iadd 26 dX1_add_25 rfl ?_
      obtain ⟨s13, h12, hf⟩ := ob hf
      refine V_putI (n := 2) (T := TX1) (ty := tyX1) (f := 1) 29 h12 cf_0 rfl rfl (Or.inl rfl) wd_fl_X1_13 dX1_add_26 rfl ?_
      have er := Option.some.inj hf
      subst er
      exact V_vret hQ rfl dX1_add_29
  · rw [if_neg hg] at hf
    cases hf
abbrev mi_X1_copyFrom : MI := (yX1_copyFrom, cX1_copyFrom, 2, none)
theorem ok_X1_copyFrom : OkN mi_X1_copyFrom 1 := ⟨wd_cd_X1_copyFrom, wd_in_X1, ⟨by decide +kernel, by decide +kernel, by decide +kernel⟩, by decide⟩
theorem okv_X1_copyFrom : Cond.instanceMethod (mi_X1_copyFrom).1 ∈ tb ∧ Cond.selects (mi_X1_copyFrom).1.cls (mi_X1_copyFrom).1 (mi_X1_copyFrom).1 ∈ tb := ⟨wd_im_X1_copyFrom, wd_se_X1_copyFrom⟩
def f_X1_copyFrom (σ : St) (t : Nat) (a0 : Nat) : Option St := if isO σ 0 t = true then ((gQ σ 0 a0 0).bind fun q2 => (gQ σ 0 t 0).bind fun q4 => (cp σ 1 q2 0 q4 0 56).bind fun s6 => (gI s6 0 a0 1).bind fun v8 => (pI s6 0 t 1 v8).bind fun s10 => some s10) else none
theorem gd_X1_copyFrom {σ : St} {t : Nat} {a0 : Nat} {r : St} (h : f_X1_copyFrom σ t a0 = some r) : isO σ 0 t = true := by
  unfold f_X1_copyFrom at h
  by_cases hg : isO σ 0 t = true
  · exact hg
  · rw [if_neg hg] at h
    cases h
set_option maxRecDepth 100000 in
set_option maxHeartbeats 4000000 in
theorem c_X1_copyFrom (l : Launch) (G : Gd) (d : Nat) (σ : St) (t : Nat) (a0 : Nat) (σ' : St) (hf : f_X1_copyFrom σ t a0 = some σ') : MetV l G (d + 2) mi_X1_copyFrom [.ref t, .ref a0] σ none σ' 0 0 := by
  unfold f_X1_copyFrom at hf
  refine MetV.of [(0, .ref t), (1, .ref a0)] (by decide +kernel) rfl (Nat.le_of_ble_eq_true rfl) ?_
  intro X hQ
  by_cases hg : isO σ 0 t = true
  · rw [if_pos hg] at hf
    refine V_aload_n 1 1 rfl dX1_copyFrom_0 rfl rfl ?_
    obtain ⟨q2, h1, hf⟩ := ob hf
    refine V_getQ (n := 2) (ty := tyX1) 4 h1 cf_0 rfl wd_fl_X1_9 dX1_copyFrom_1 rfl ?_
    refine V_iconst 0 5 dX1_copyFrom_4 rfl kiconst_0 ?_
    refine V_aload_n 0 6 rfl dX1_copyFrom_5 rfl rfl ?_
    obtain ⟨q4, h3, hf⟩ := ob hf
    refine V_getQ (n := 2) (ty := tyX1) 9 h3 cf_0 rfl wd_fl_X1_9 dX1_copyFrom_6 rfl ?_
    refine V_iconst 0 10 dX1_copyFrom_9 rfl kiconst_0 ?_
    refine V_bipush 56 12 dX1_copyFrom_10 rfl kbipush_56 ?_
    obtain ⟨s6, h5, hf⟩ := ob hf
    refine V_acopy (t := 1) 15 h5 (by decide) wd_ml_X1_17 wd_nt_java_lang_System_arraycopy wd_sm_java_lang_System_arraycopy wd_in_java_lang_System (by omega) (Nat.le_of_ble_eq_true rfl) dX1_copyFrom_12 rfl ?_
    refine V_aload_n 0 16 rfl dX1_copyFrom_15 rfl rfl ?_
    refine V_aload_n 1 17 rfl dX1_copyFrom_16 rfl rfl ?_
    obtain ⟨v8, h7, hf⟩ := ob hf
    refine V_getI (n := 2) (ty := tyX1) 20 h7 cf_0 rfl wd_fl_X1_13 dX1_copyFrom_17 rfl ?_
    obtain ⟨s10, h9, hf⟩ := ob hf
    refine V_putI (n := 2) (T := TX1) (ty := tyX1) (f := 1) 23 h9 cf_0 rfl rfl (Or.inl rfl) wd_fl_X1_13 dX1_copyFrom_20 rfl ?_
    have er := Option.some.inj hf
    subst er
    exact V_vret hQ rfl dX1_copyFrom_23
  · rw [if_neg hg] at hf
    cases hf
abbrev mi_X1_clear : MI := (yX1_clear, cX1_clear, 1, none)
theorem ok_X1_clear : OkN mi_X1_clear 0 := ⟨wd_cd_X1_clear, wd_in_X1, ⟨by decide +kernel, by decide +kernel, by decide +kernel⟩, by decide⟩
theorem okv_X1_clear : Cond.instanceMethod (mi_X1_clear).1 ∈ tb ∧ Cond.selects (mi_X1_clear).1.cls (mi_X1_clear).1 (mi_X1_clear).1 ∈ tb := ⟨wd_im_X1_clear, wd_se_X1_clear⟩
def f_X1_clear (σ : St) (t : Nat) : Option St := if isO σ 0 t = true then ((pI σ 0 t 1 0).bind fun s2 => some s2) else none
theorem gd_X1_clear {σ : St} {t : Nat} {r : St} (h : f_X1_clear σ t = some r) : isO σ 0 t = true := by
  unfold f_X1_clear at h
  by_cases hg : isO σ 0 t = true
  · exact hg
  · rw [if_neg hg] at h
    cases h
set_option maxRecDepth 100000 in
set_option maxHeartbeats 4000000 in
theorem c_X1_clear (l : Launch) (G : Gd) (d : Nat) (σ : St) (t : Nat) (σ' : St) (hf : f_X1_clear σ t = some σ') : MetV l G (d + 1) mi_X1_clear [.ref t] σ none σ' 0 0 := by
  unfold f_X1_clear at hf
  refine MetV.of [(0, .ref t)] (by decide +kernel) rfl (Nat.le_of_ble_eq_true rfl) ?_
  intro X hQ
  by_cases hg : isO σ 0 t = true
  · rw [if_pos hg] at hf
    refine V_aload_n 0 1 rfl dX1_clear_0 rfl rfl ?_
    refine V_iconst 0 2 dX1_clear_1 rfl kiconst_0 ?_
    obtain ⟨s2, h1, hf⟩ := ob hf
    refine V_putI (n := 2) (T := TX1) (ty := tyX1) (f := 1) 5 h1 cf_0 rfl rfl (Or.inl rfl) wd_fl_X1_13 dX1_clear_2 rfl ?_
    have er := Option.some.inj hf
    subst er
    exact V_vret hQ rfl dX1_clear_5
  · rw [if_neg hg] at hf
    cases hf
abbrev mi_X4_namesOf : MI := (yX4_namesOf, cX4_namesOf, 2, some .int)
theorem ok_X4_namesOf : OkN mi_X4_namesOf 1 := ⟨wd_cd_X4_namesOf, wd_in_X4, ⟨by decide +kernel, by decide +kernel, by decide +kernel⟩, by decide⟩
theorem okv_X4_namesOf : Cond.instanceMethod (mi_X4_namesOf).1 ∈ tb ∧ Cond.selects (mi_X4_namesOf).1.cls (mi_X4_namesOf).1 (mi_X4_namesOf).1 ∈ tb := ⟨wd_im_X4_namesOf, wd_se_X4_namesOf⟩
def f_X4_namesOf (σ : St) (t : Nat) (a0 : Int32) : Option Int32 := if isO σ 3 t = true then ((gQ σ 3 t 1).bind fun q2 => (gQ σ 3 t 2).bind fun q4 => (f_X5_at σ q4 a0 1).bind fun v6 => (f_X5_at σ q2 v6 1).bind fun v8 => some v8) else none
theorem gd_X4_namesOf {σ : St} {t : Nat} {a0 : Int32} {r : Int32} (h : f_X4_namesOf σ t a0 = some r) : isO σ 3 t = true := by
  unfold f_X4_namesOf at h
  by_cases hg : isO σ 3 t = true
  · exact hg
  · rw [if_neg hg] at h
    cases h
set_option maxRecDepth 100000 in
set_option maxHeartbeats 4000000 in
theorem c_X4_namesOf (l : Launch) (G : Gd) (d : Nat) (σ : St) (t : Nat) (a0 : Int32) (r0 : Int32) (hf : f_X4_namesOf σ t a0 = some r0) : MetV l G (d + 2) mi_X4_namesOf [.ref t, .int a0] σ (some (.int r0)) σ 0 0 := by
  unfold f_X4_namesOf at hf
  refine MetV.of [(0, .ref t), (1, .int a0)] (by decide +kernel) rfl (Nat.le_of_ble_eq_true rfl) ?_
  intro X hQ
  by_cases hg : isO σ 3 t = true
  · rw [if_pos hg] at hf
    refine V_aload_n 0 1 rfl dX4_namesOf_0 rfl rfl ?_
    obtain ⟨q2, h1, hf⟩ := ob hf
    refine V_getQ (n := 11) (ty := tyX4) 4 h1 cf_3 rfl wd_fl_X4_20 dX4_namesOf_1 rfl ?_
    refine V_aload_n 0 5 rfl dX4_namesOf_4 rfl rfl ?_
    obtain ⟨q4, h3, hf⟩ := ob hf
    refine V_getQ (n := 11) (ty := tyX4) 8 h3 cf_3 rfl wd_fl_X4_23 dX4_namesOf_5 rfl ?_
    refine V_iload_n 1 9 rfl dX4_namesOf_8 rfl rfl ?_
    refine V_iconst 1 10 dX4_namesOf_9 rfl kiconst_1 ?_
    obtain ⟨v6, h5, hf⟩ := ob hf
    refine V_callV (rest := [.ref q2]) (T := TX5) (n := 4) (ci := 4) 0 0 13 [.int v6, .ref q2] (c_X5_at l G (d + 0) _ _ _ _ _ h5) (by omega) ok_X5_at okv_X5_at (gd_X5_at h5) rfl wd_ml_X4_82 rfl rfl (Nat.le_of_ble_eq_true rfl) rfl rfl (Or.inl ⟨rfl, rfl⟩) dX4_namesOf_10 rfl rfl ?_
    refine V_iconst 1 14 dX4_namesOf_13 rfl kiconst_1 ?_
    obtain ⟨v8, h7, hf⟩ := ob hf
    refine V_callV (rest := []) (T := TX5) (n := 4) (ci := 4) 0 0 17 [.int v8] (c_X5_at l G (d + 0) _ _ _ _ _ h7) (by omega) ok_X5_at okv_X5_at (gd_X5_at h7) rfl wd_ml_X4_82 rfl rfl (Nat.le_of_ble_eq_true rfl) rfl rfl (Or.inl ⟨rfl, rfl⟩) dX4_namesOf_14 rfl rfl ?_
    have er := Option.some.inj hf
    subst er
    exact V_iret hQ rfl dX4_namesOf_17
  · rw [if_neg hg] at hf
    cases hf
abbrev mi_X3_isWidth : MI := (yX3_isWidth, cX3_isWidth, 1, some .boolean)
theorem ok_X3_isWidth : OkN mi_X3_isWidth 1 := ⟨wd_cd_X3_isWidth, wd_in_X3, ⟨by decide +kernel, by decide +kernel, by decide +kernel⟩, by decide⟩
theorem oks_X3_isWidth : Cond.static (mi_X3_isWidth).1 ∈ tb := wd_sm_X3_isWidth
def f_X3_isWidth (σ : St) (a0 : Int32) : Option Int32 := (zr (if a0 = 0 then 1 else (if a0 = 8 then 1 else (if a0 = 16 then 1 else (if a0 = 32 then 1 else 0))) : Int32)).bind fun z1 => some (if a0 = 0 then 1 else (if a0 = 8 then 1 else (if a0 = 16 then 1 else (if a0 = 32 then 1 else 0))) : Int32)
set_option maxRecDepth 100000 in
set_option maxHeartbeats 4000000 in
theorem c_X3_isWidth (l : Launch) (G : Gd) (d : Nat) (σ : St) (a0 : Int32) (r0 : Int32) (hf : f_X3_isWidth σ a0 = some r0) : MetV l G (d + 1) mi_X3_isWidth [.int a0] σ (some (.int r0)) σ 0 0 := by
  unfold f_X3_isWidth at hf
  refine MetV.of [(0, .int a0)] (by decide +kernel) rfl (Nat.le_of_ble_eq_true rfl) ?_
  intro X hQ
  refine V_iload_n 0 1 rfl dX3_isWidth_0 rfl rfl ?_
  have kj3 : V mi_X3_isWidth l G (d + 1) 0 0 X 0 0 27 [(0, .int a0)] [.int (if a0 = 0 then 1 else (if a0 = 8 then 1 else (if a0 = 16 then 1 else (if a0 = 32 then 1 else 0))) : Int32)] σ := by
    obtain ⟨z1, h2, hf⟩ := ob hf
    have er := Option.some.inj hf
    subst er
    exact V_zret (zr_ok h2) hQ rfl dX3_isWidth_27
  refine V_if_eq 22 4 dX3_isWidth_1 (by decide) rfl (fun c4 => ?_) (fun c4 => ?_)
  · refine V_iconst 1 23 dX3_isWidth_22 rfl kiconst_1 ?_
    refine V_goto 27 dX3_isWidth_23 (by decide) ?_
    refine V_ls [(0, .int a0)] [0] rfl ?_
    simp only [if_pos c4] at kj3
    exact kj3
  · refine V_iload_n 0 5 rfl dX3_isWidth_4 rfl rfl ?_
    refine V_bipush 8 7 dX3_isWidth_5 rfl kbipush_8 ?_
    refine V_icmp_eq 22 10 dX3_isWidth_7 (by decide) rfl (fun c5 => ?_) (fun c5 => ?_)
    · refine V_iconst 1 23 dX3_isWidth_22 rfl kiconst_1 ?_
      refine V_goto 27 dX3_isWidth_23 (by decide) ?_
      refine V_ls [(0, .int a0)] [0] rfl ?_
      simp only [if_neg c4, if_pos c5] at kj3
      exact kj3
    · refine V_iload_n 0 11 rfl dX3_isWidth_10 rfl rfl ?_
      refine V_bipush 16 13 dX3_isWidth_11 rfl kbipush_16 ?_
      refine V_icmp_eq 22 16 dX3_isWidth_13 (by decide) rfl (fun c6 => ?_) (fun c6 => ?_)
      · refine V_iconst 1 23 dX3_isWidth_22 rfl kiconst_1 ?_
        refine V_goto 27 dX3_isWidth_23 (by decide) ?_
        refine V_ls [(0, .int a0)] [0] rfl ?_
        simp only [if_neg c4, if_neg c5, if_pos c6] at kj3
        exact kj3
      · refine V_iload_n 0 17 rfl dX3_isWidth_16 rfl rfl ?_
        refine V_bipush 32 19 dX3_isWidth_17 rfl kbipush_32 ?_
        refine V_icmp_ne 26 22 dX3_isWidth_19 (by decide) rfl (fun c7 => ?_) (fun c7 => ?_)
        · refine V_iconst 0 27 dX3_isWidth_26 rfl kiconst_0 ?_
          refine V_ls [(0, .int a0)] [0] rfl ?_
          simp only [if_neg c4, if_neg c5, if_neg c6, if_neg c7] at kj3
          exact kj3
        · refine V_iconst 1 23 dX3_isWidth_22 rfl kiconst_1 ?_
          refine V_goto 27 dX3_isWidth_23 (by decide) ?_
          refine V_ls [(0, .int a0)] [0] rfl ?_
          simp only [if_neg c4, if_neg c5, if_neg c6, if_pos c7] at kj3
          exact kj3
abbrev mi_X3_become : MI := (yX3_become, cX3_become, 4, none)
theorem ok_X3_become : OkN mi_X3_become 2 := ⟨wd_cd_X3_become, wd_in_X3, ⟨by decide +kernel, by decide +kernel, by decide +kernel⟩, by decide⟩
theorem okv_X3_become : Cond.instanceMethod (mi_X3_become).1 ∈ tb ∧ Cond.selects (mi_X3_become).1.cls (mi_X3_become).1 (mi_X3_become).1 ∈ tb := ⟨wd_im_X3_become, wd_se_X3_become⟩
def f_X3_become_L21 (t : Nat) : Nat → Int32 → St → Option (Int32 × St)
  | 0, _, _ => none
  | n + 1, x3, σ => if 24 ≤ x3 then (some (x3, σ)) else ((gQ σ 2 t 0).bind fun q11 => (sI σ q11 x3 0).bind fun s13 => f_X3_become_L21 t n (x3 + 1) s13)
def f_X3_become (σ : St) (t : Nat) (a0 : Int32) (a1 : Int32) : Option St := if isO σ 2 t = true then ((pI σ 2 t 1 a0).bind fun s2 => (f_J9_min_7cf53 s2 24 a1).bind fun v4 => (f_J9_max_7cf53 s2 0 v4).bind fun v6 => (pI s2 2 t 2 v6).bind fun s8 => (f_X3_become_L21 t 3000 0 s8).bind fun p14 => some p14.2) else none
theorem gd_X3_become {σ : St} {t : Nat} {a0 : Int32} {a1 : Int32} {r : St} (h : f_X3_become σ t a0 a1 = some r) : isO σ 2 t = true := by
  unfold f_X3_become at h
  by_cases hg : isO σ 2 t = true
  · exact hg
  · rw [if_neg hg] at h
    cases h
set_option maxRecDepth 100000 in
set_option maxHeartbeats 4000000 in
theorem c_X3_become (l : Launch) (G : Gd) (d : Nat) (σ : St) (t : Nat) (a0 : Int32) (a1 : Int32) (σ' : St) (hf : f_X3_become σ t a0 a1 = some σ') : MetV l G (d + 2) mi_X3_become [.ref t, .int a0, .int a1] σ none σ' 0 0 := by
  unfold f_X3_become at hf
  refine MetV.of [(0, .ref t), (1, .int a0), (2, .int a1)] (by decide +kernel) rfl (Nat.le_of_ble_eq_true rfl) ?_
  intro X hQ
  have L21 : ∀  (n : Nat) (x3 : Int32) (σ : St) (p : Int32 × St), f_X3_become_L21 t n x3 σ = some p → V mi_X3_become l G (d + 2) 0 0 X 0 0 40 [(3, .int p.1), (0, .ref t)] [] p.2 → V mi_X3_become l G (d + 2) 0 0 X 0 0 21 [(3, .int x3), (0, .ref t)] [] σ := by
    intro  n
    induction n with
    | zero =>
      intro x3 σ p hf
      exact absurd (show (none : Option _) = some p from hf) (by simp)
    | succ n ih =>
      intro x3 σ p hf hk
      rw [f_X3_become_L21] at hf
      refine V_iload_n 0 22 rfl dX3_become_21 rfl rfl ?_
      refine V_bipush 24 24 dX3_become_22 rfl kbipush_24 ?_
      refine V_icmp_ge 40 27 dX3_become_24 (by decide) rfl (fun c9 => ?_) (fun c9 => ?_)
      · rw [if_pos c9] at hf
        have ep := Option.some.inj hf
        subst ep
        refine V_ls [(3, .int x3), (0, .ref t)] [0, 1] rfl ?_
        exact hk
      · rw [if_neg c9] at hf
        refine V_aload_n 1 28 rfl dX3_become_27 rfl rfl ?_
        obtain ⟨q11, h10, hf⟩ := ob hf
        refine V_getQ (n := 3) (ty := tyX3) 31 h10 cf_2 rfl wd_fl_X3_9 dX3_become_28 rfl ?_
        refine V_iload_n 0 32 rfl dX3_become_31 rfl rfl ?_
        refine V_iconst 0 33 dX3_become_32 rfl kiconst_0 ?_
        obtain ⟨s13, h12, hf⟩ := ob hf
        refine V_iast 34 h12 dX3_become_33 rfl ?_
        refine V_iinc (x3 + 1) 0 [(3, .int (x3 + 1)), (0, .ref t)] 37 dX3_become_34 rfl (by rw [kiconst_1]) (by decide) rfl rfl ?_
        refine V_goto 21 dX3_become_37 (by decide) ?_
        refine V_ls [(3, .int (x3 + 1)), (0, .ref t)] [0, 1] rfl ?_
        exact ih _ _ _ hf hk
  by_cases hg : isO σ 2 t = true
  · rw [if_pos hg] at hf
    refine V_aload_n 0 1 rfl dX3_become_0 rfl rfl ?_
    refine V_iload_n 1 2 rfl dX3_become_1 rfl rfl ?_
    obtain ⟨s2, h1, hf⟩ := ob hf
    refine V_putI (n := 3) (T := TX3) (ty := tyX3) (f := 1) 5 h1 cf_2 rfl rfl (Or.inl rfl) wd_fl_X3_13 dX3_become_2 rfl ?_
    refine V_aload_n 0 6 rfl dX3_become_5 rfl rfl ?_
    refine V_iconst 0 7 dX3_become_6 rfl kiconst_0 ?_
    refine V_bipush 24 9 dX3_become_7 rfl kbipush_24 ?_
    refine V_iload_n 2 10 rfl dX3_become_9 rfl rfl ?_
    obtain ⟨v4, h3, hf⟩ := ob hf
    refine V_callS (rest := [.int 0, .ref t]) 0 0 13 [.int v4, .int 0, .ref t] (c_J9_min_7cf53 l G (d + 0) _ _ _ _ h3) (by omega) ok_J9_min_7cf53 oks_J9_min_7cf53 wd_ml_X3_20 rfl rfl (Nat.le_of_ble_eq_true rfl) rfl rfl (Or.inl ⟨rfl, rfl⟩) dX3_become_10 rfl rfl ?_
    obtain ⟨v6, h5, hf⟩ := ob hf
    refine V_callS (rest := [.ref t]) 0 0 16 [.int v6, .ref t] (c_J9_max_7cf53 l G (d + 0) _ _ _ _ h5) (by omega) ok_J9_max_7cf53 oks_J9_max_7cf53 wd_ml_X3_26 rfl rfl (Nat.le_of_ble_eq_true rfl) rfl rfl (Or.inl ⟨rfl, rfl⟩) dX3_become_13 rfl rfl ?_
    obtain ⟨s8, h7, hf⟩ := ob hf
    refine V_putI (n := 3) (T := TX3) (ty := tyX3) (f := 2) 19 h7 cf_2 rfl rfl (Or.inl rfl) wd_fl_X3_17 dX3_become_16 rfl ?_
    refine V_iconst 0 20 dX3_become_19 rfl kiconst_0 ?_
    refine V_istore_n [(3, .int 0), (0, .ref t), (1, .int a0), (2, .int a1)] 21 dX3_become_20 rfl (by decide) rfl rfl ?_
    obtain ⟨p14, h15, hf⟩ := ob hf
    refine V_ls [(3, .int 0), (0, .ref t)] [0, 1] rfl ?_
    refine L21 3000 0 s8 p14 h15 ?_
    have er := Option.some.inj hf
    subst er
    exact V_vret hQ rfl dX3_become_40
  · rw [if_neg hg] at hf
    cases hf
abbrev mi_X3_set : MI := (yX3_set, cX3_set, 3, none)
theorem ok_X3_set : OkN mi_X3_set 2 := ⟨wd_cd_X3_set, wd_in_X3, ⟨by decide +kernel, by decide +kernel, by decide +kernel⟩, by decide⟩
theorem okv_X3_set : Cond.instanceMethod (mi_X3_set).1 ∈ tb ∧ Cond.selects (mi_X3_set).1.cls (mi_X3_set).1 (mi_X3_set).1 ∈ tb := ⟨wd_im_X3_set, wd_se_X3_set⟩
def f_X3_set (σ : St) (t : Nat) (a0 : Int32) (a1 : Int32) : Option St := if isO σ 2 t = true then ((f_X3_holds σ t a0 1).bind fun v2 => if v2 = 0 then (some σ) else ((gQ σ 2 t 0).bind fun q5 => (gI σ 2 t 1).bind fun v7 => if v7 = 8 then ((sI σ q5 a0 a1.toInt8.toInt32).bind fun s17 => some s17) else ((gI σ 2 t 1).bind fun v10 => if v10 = 16 then ((sI σ q5 a0 a1.toInt16.toInt32).bind fun s15 => some s15) else ((sI σ q5 a0 a1).bind fun s13 => some s13)))) else none
theorem gd_X3_set {σ : St} {t : Nat} {a0 : Int32} {a1 : Int32} {r : St} (h : f_X3_set σ t a0 a1 = some r) : isO σ 2 t = true := by
  unfold f_X3_set at h
  by_cases hg : isO σ 2 t = true
  · exact hg
  · rw [if_neg hg] at h
    cases h
set_option maxRecDepth 100000 in
set_option maxHeartbeats 4000000 in
theorem c_X3_set (l : Launch) (G : Gd) (d : Nat) (σ : St) (t : Nat) (a0 : Int32) (a1 : Int32) (σ' : St) (hf : f_X3_set σ t a0 a1 = some σ') : MetV l G (d + 2) mi_X3_set [.ref t, .int a0, .int a1] σ none σ' 0 0 := by
  unfold f_X3_set at hf
  refine MetV.of [(0, .ref t), (1, .int a0), (2, .int a1)] (by decide +kernel) rfl (Nat.le_of_ble_eq_true rfl) ?_
  intro X hQ
  by_cases hg : isO σ 2 t = true
  · rw [if_pos hg] at hf
    refine V_aload_n 0 1 rfl dX3_set_0 rfl rfl ?_
    refine V_iload_n 1 2 rfl dX3_set_1 rfl rfl ?_
    refine V_iconst 1 3 dX3_set_2 rfl kiconst_1 ?_
    obtain ⟨v2, h1, hf⟩ := ob hf
    refine V_callV (rest := []) (T := TX3) (n := 3) (ci := 2) 0 0 6 [.int v2] (c_X3_holds l G (d + 0) _ _ _ _ _ h1) (by omega) ok_X3_holds okv_X3_holds (gd_X3_holds h1) rfl wd_ml_X3_29 rfl rfl (Nat.le_of_ble_eq_true rfl) rfl rfl (Or.inl ⟨rfl, rfl⟩) dX3_set_3 rfl rfl ?_
    refine V_if_eq 44 9 dX3_set_6 (by decide) rfl (fun c3 => ?_) (fun c3 => ?_)
    · rw [if_pos c3] at hf
      have er := Option.some.inj hf
      subst er
      exact V_vret hQ rfl dX3_set_44
    · rw [if_neg c3] at hf
      refine V_aload_n 0 10 rfl dX3_set_9 rfl rfl ?_
      obtain ⟨q5, h4, hf⟩ := ob hf
      refine V_getQ (n := 3) (ty := tyX3) 13 h4 cf_2 rfl wd_fl_X3_9 dX3_set_10 rfl ?_
      refine V_iload_n 1 14 rfl dX3_set_13 rfl rfl ?_
      refine V_aload_n 0 15 rfl dX3_set_14 rfl rfl ?_
      obtain ⟨v7, h6, hf⟩ := ob hf
      refine V_getI (n := 3) (ty := tyX3) 18 h6 cf_2 rfl wd_fl_X3_13 dX3_set_15 rfl ?_
      refine V_bipush 8 20 dX3_set_18 rfl kbipush_8 ?_
      refine V_icmp_ne 28 23 dX3_set_20 (by decide) rfl (fun c8 => ?_) (fun c8 => ?_)
      · rw [if_neg c8] at hf
        refine V_aload_n 0 29 rfl dX3_set_28 rfl rfl ?_
        obtain ⟨v10, h9, hf⟩ := ob hf
        refine V_getI (n := 3) (ty := tyX3) 32 h9 cf_2 rfl wd_fl_X3_13 dX3_set_29 rfl ?_
        refine V_bipush 16 34 dX3_set_32 rfl kbipush_16 ?_
        refine V_icmp_ne 42 37 dX3_set_34 (by decide) rfl (fun c11 => ?_) (fun c11 => ?_)
        · rw [if_neg c11] at hf
          refine V_iload_n 2 43 rfl dX3_set_42 rfl rfl ?_
          obtain ⟨s13, h12, hf⟩ := ob hf
          refine V_iast 44 h12 dX3_set_43 rfl ?_
          have er := Option.some.inj hf
          subst er
          exact V_vret hQ rfl dX3_set_44
        · rw [if_pos c11] at hf
          refine V_iload_n 2 38 rfl dX3_set_37 rfl rfl ?_
          refine V_i2s 39 dX3_set_38 rfl ?_
          refine V_goto 43 dX3_set_39 (by decide) ?_
          obtain ⟨s15, h14, hf⟩ := ob hf
          refine V_iast 44 h14 dX3_set_43 rfl ?_
          have er := Option.some.inj hf
          subst er
          exact V_vret hQ rfl dX3_set_44
      · rw [if_pos c8] at hf
        refine V_iload_n 2 24 rfl dX3_set_23 rfl rfl ?_
        refine V_i2b 25 dX3_set_24 rfl ?_
        refine V_goto 43 dX3_set_25 (by decide) ?_
        obtain ⟨s17, h16, hf⟩ := ob hf
        refine V_iast 44 h16 dX3_set_43 rfl ?_
        have er := Option.some.inj hf
        subst er
        exact V_vret hQ rfl dX3_set_44
  · rw [if_neg hg] at hf
    cases hf
abbrev mi_X5_copyFrom : MI := (yX5_copyFrom, cX5_copyFrom, 2, none)
theorem ok_X5_copyFrom : OkN mi_X5_copyFrom 1 := ⟨wd_cd_X5_copyFrom, wd_in_X5, ⟨by decide +kernel, by decide +kernel, by decide +kernel⟩, by decide⟩
theorem okv_X5_copyFrom : Cond.instanceMethod (mi_X5_copyFrom).1 ∈ tb ∧ Cond.selects (mi_X5_copyFrom).1.cls (mi_X5_copyFrom).1 (mi_X5_copyFrom).1 ∈ tb := ⟨wd_im_X5_copyFrom, wd_se_X5_copyFrom⟩
def f_X5_copyFrom (σ : St) (t : Nat) (a0 : Nat) : Option St := if isO σ 4 t = true then ((gQ σ 4 a0 2).bind fun q2 => (gQ σ 4 t 2).bind fun q4 => (gQ σ 4 t 2).bind fun q6 => (aL σ 0 q6).bind fun v7 => (gQ σ 4 a0 2).bind fun q10 => (aL σ 0 q10).bind fun v11 => (f_J9_min_7cf53 σ v7 v11).bind fun v14 => (cp σ 0 q2 0 q4 0 v14).bind fun s16 => (gI s16 4 a0 3).bind fun v18 => (pI s16 4 t 3 v18).bind fun s20 => some s20) else none
theorem gd_X5_copyFrom {σ : St} {t : Nat} {a0 : Nat} {r : St} (h : f_X5_copyFrom σ t a0 = some r) : isO σ 4 t = true := by
  unfold f_X5_copyFrom at h
  by_cases hg : isO σ 4 t = true
  · exact hg
  · rw [if_neg hg] at h
    cases h
set_option maxRecDepth 100000 in
set_option maxHeartbeats 4000000 in
theorem c_X5_copyFrom (l : Launch) (G : Gd) (d : Nat) (σ : St) (t : Nat) (a0 : Nat) (σ' : St) (hf : f_X5_copyFrom σ t a0 = some σ') : MetV l G (d + 2) mi_X5_copyFrom [.ref t, .ref a0] σ none σ' 0 0 := by
  unfold f_X5_copyFrom at hf
  refine MetV.of [(0, .ref t), (1, .ref a0)] (by decide +kernel) rfl (Nat.le_of_ble_eq_true rfl) ?_
  intro X hQ
  by_cases hg : isO σ 4 t = true
  · rw [if_pos hg] at hf
    refine V_aload_n 1 1 rfl dX5_copyFrom_0 rfl rfl ?_
    obtain ⟨q2, h1, hf⟩ := ob hf
    refine V_getQ (n := 4) (ty := tyX5) 4 h1 cf_4 rfl wd_fl_X5_25 dX5_copyFrom_1 rfl ?_
    refine V_iconst 0 5 dX5_copyFrom_4 rfl kiconst_0 ?_
    refine V_aload_n 0 6 rfl dX5_copyFrom_5 rfl rfl ?_
    obtain ⟨q4, h3, hf⟩ := ob hf
    refine V_getQ (n := 4) (ty := tyX5) 9 h3 cf_4 rfl wd_fl_X5_25 dX5_copyFrom_6 rfl ?_
    refine V_iconst 0 10 dX5_copyFrom_9 rfl kiconst_0 ?_
    refine V_aload_n 0 11 rfl dX5_copyFrom_10 rfl rfl ?_
    obtain ⟨q6, h5, hf⟩ := ob hf
    refine V_getQ (n := 4) (ty := tyX5) 14 h5 cf_4 rfl wd_fl_X5_25 dX5_copyFrom_11 rfl ?_
    obtain ⟨v7, h8, hf⟩ := ob hf
    refine V_alen (t := 0) 15 h8 (by decide) dX5_copyFrom_14 rfl ?_
    refine V_aload_n 1 16 rfl dX5_copyFrom_15 rfl rfl ?_
    obtain ⟨q10, h9, hf⟩ := ob hf
    refine V_getQ (n := 4) (ty := tyX5) 19 h9 cf_4 rfl wd_fl_X5_25 dX5_copyFrom_16 rfl ?_
    obtain ⟨v11, h12, hf⟩ := ob hf
    refine V_alen (t := 0) 20 h12 (by decide) dX5_copyFrom_19 rfl ?_
    obtain ⟨v14, h13, hf⟩ := ob hf
    refine V_callS (rest := [.int 0, .ref q4, .int 0, .ref q2]) 0 0 23 [.int v14, .int 0, .ref q4, .int 0, .ref q2] (c_J9_min_7cf53 l G (d + 0) _ _ _ _ h13) (by omega) ok_J9_min_7cf53 oks_J9_min_7cf53 wd_ml_X5_32 rfl rfl (Nat.le_of_ble_eq_true rfl) rfl rfl (Or.inl ⟨rfl, rfl⟩) dX5_copyFrom_20 rfl rfl ?_
    obtain ⟨s16, h15, hf⟩ := ob hf
    refine V_acopy (t := 0) 26 h15 (by decide) wd_ml_X5_35 wd_nt_java_lang_System_arraycopy wd_sm_java_lang_System_arraycopy wd_in_java_lang_System (by omega) (Nat.le_of_ble_eq_true rfl) dX5_copyFrom_23 rfl ?_
    refine V_aload_n 0 27 rfl dX5_copyFrom_26 rfl rfl ?_
    refine V_aload_n 1 28 rfl dX5_copyFrom_27 rfl rfl ?_
    obtain ⟨v18, h17, hf⟩ := ob hf
    refine V_getI (n := 4) (ty := tyX5) 31 h17 cf_4 rfl wd_fl_X5_7 dX5_copyFrom_28 rfl ?_
    obtain ⟨s20, h19, hf⟩ := ob hf
    refine V_putI (n := 4) (T := TX5) (ty := tyX5) (f := 3) 34 h19 cf_4 rfl rfl (Or.inl rfl) wd_fl_X5_7 dX5_copyFrom_31 rfl ?_
    have er := Option.some.inj hf
    subst er
    exact V_vret hQ rfl dX5_copyFrom_34
  · rw [if_neg hg] at hf
    cases hf
abbrev mi_X4_copyFrom : MI := (yX4_copyFrom, cX4_copyFrom, 3, none)
theorem ok_X4_copyFrom : OkN mi_X4_copyFrom 1 := ⟨wd_cd_X4_copyFrom, wd_in_X4, ⟨by decide +kernel, by decide +kernel, by decide +kernel⟩, by decide⟩
theorem okv_X4_copyFrom : Cond.instanceMethod (mi_X4_copyFrom).1 ∈ tb ∧ Cond.selects (mi_X4_copyFrom).1.cls (mi_X4_copyFrom).1 (mi_X4_copyFrom).1 ∈ tb := ⟨wd_im_X4_copyFrom, wd_se_X4_copyFrom⟩
def f_X4_copyFrom_L108 (t : Nat) (x1 : Nat) : Nat → Int32 → St → Option (Int32 × St)
  | 0, _, _ => none
  | n + 1, x2, σ => (gQ σ 3 t 9).bind fun q60 => (aL σ 2 q60).bind fun v61 => if v61 ≤ x2 then (some (x2, σ)) else ((gQ σ 3 t 9).bind fun q65 => (aQ σ 2 q65 x2).bind fun q67 => (gQ σ 3 x1 9).bind fun q69 => (aQ σ 2 q69 x2).bind fun q71 => (f_X1_copyFrom σ q67 q71).bind fun s73 => f_X4_copyFrom_L108 t x1 n (x2 + 1) s73)
def f_X4_copyFrom (σ : St) (t : Nat) (a0 : Nat) : Option St := if isO σ 3 t = true then ((gQ σ 3 t 0).bind fun q2 => (gQ σ 3 a0 0).bind fun q4 => (f_X5_copyFrom σ q2 q4).bind fun s6 => (gQ s6 3 t 1).bind fun q8 => (gQ s6 3 a0 1).bind fun q10 => (f_X5_copyFrom s6 q8 q10).bind fun s12 => (gQ s12 3 t 2).bind fun q14 => (gQ s12 3 a0 2).bind fun q16 => (f_X5_copyFrom s12 q14 q16).bind fun s18 => (gQ s18 3 a0 3).bind fun q20 => (gQ s18 3 t 3).bind fun q22 => (gQ s18 3 t 3).bind fun q24 => (aL s18 0 q24).bind fun v25 => (cp s18 0 q20 0 q22 0 v25).bind fun s28 => (gQ s28 3 t 4).bind fun q30 => (gQ s28 3 a0 4).bind fun q32 => (f_X5_copyFrom s28 q30 q32).bind fun s34 => (gQ s34 3 t 5).bind fun q36 => (gQ s34 3 a0 5).bind fun q38 => (f_X5_copyFrom s34 q36 q38).bind fun s40 => (gQ s40 3 t 6).bind fun q42 => (gQ s40 3 a0 6).bind fun q44 => (f_X5_copyFrom s40 q42 q44).bind fun s46 => (gQ s46 3 t 7).bind fun q48 => (gQ s46 3 a0 7).bind fun q50 => (f_X5_copyFrom s46 q48 q50).bind fun s52 => (gQ s52 3 t 8).bind fun q54 => (gQ s52 3 a0 8).bind fun q56 => (f_X1_copyFrom s52 q54 q56).bind fun s58 => (f_X4_copyFrom_L108 t a0 3000 0 s58).bind fun p74 => (gI p74.2 3 a0 10).bind fun v77 => (pI p74.2 3 t 10 v77).bind fun s79 => some s79) else none
theorem gd_X4_copyFrom {σ : St} {t : Nat} {a0 : Nat} {r : St} (h : f_X4_copyFrom σ t a0 = some r) : isO σ 3 t = true := by
  unfold f_X4_copyFrom at h
  by_cases hg : isO σ 3 t = true
  · exact hg
  · rw [if_neg hg] at h
    cases h
set_option maxRecDepth 100000 in
set_option maxHeartbeats 4000000 in
theorem c_X4_copyFrom (l : Launch) (G : Gd) (d : Nat) (σ : St) (t : Nat) (a0 : Nat) (σ' : St) (hf : f_X4_copyFrom σ t a0 = some σ') : MetV l G (d + 3) mi_X4_copyFrom [.ref t, .ref a0] σ none σ' 0 0 := by
  unfold f_X4_copyFrom at hf
  refine MetV.of [(0, .ref t), (1, .ref a0)] (by decide +kernel) rfl (Nat.le_of_ble_eq_true rfl) ?_
  intro X hQ
  have L108 : ∀ (x1 : Nat) (n : Nat) (x2 : Int32) (σ : St) (p : Int32 × St), f_X4_copyFrom_L108 t x1 n x2 σ = some p → V mi_X4_copyFrom l G (d + 3) 0 0 X 0 0 138 [(2, .int p.1), (0, .ref t), (1, .ref x1)] [] p.2 → V mi_X4_copyFrom l G (d + 3) 0 0 X 0 0 108 [(2, .int x2), (0, .ref t), (1, .ref x1)] [] σ := by
    intro x1 n
    induction n with
    | zero =>
      intro x2 σ p hf
      exact absurd (show (none : Option _) = some p from hf) (by simp)
    | succ n ih =>
      intro x2 σ p hf hk
      rw [f_X4_copyFrom_L108] at hf
      refine V_iload_n 0 109 rfl dX4_copyFrom_108 rfl rfl ?_
      refine V_aload_n 1 110 rfl dX4_copyFrom_109 rfl rfl ?_
      obtain ⟨q60, h59, hf⟩ := ob hf
      refine V_getQ (n := 11) (ty := tyX4) 113 h59 cf_3 rfl wd_fl_X4_49 dX4_copyFrom_110 rfl ?_
      obtain ⟨v61, h62, hf⟩ := ob hf
      refine V_alen (t := 2) 114 h62 (by decide) dX4_copyFrom_113 rfl ?_
      refine V_icmp_ge 138 117 dX4_copyFrom_114 (by decide) rfl (fun c63 => ?_) (fun c63 => ?_)
      · rw [if_pos c63] at hf
        have ep := Option.some.inj hf
        subst ep
        refine V_ls [(2, .int x2), (0, .ref t), (1, .ref x1)] [0, 1, 2] rfl ?_
        exact hk
      · rw [if_neg c63] at hf
        refine V_aload_n 1 118 rfl dX4_copyFrom_117 rfl rfl ?_
        obtain ⟨q65, h64, hf⟩ := ob hf
        refine V_getQ (n := 11) (ty := tyX4) 121 h64 cf_3 rfl wd_fl_X4_49 dX4_copyFrom_118 rfl ?_
        refine V_iload_n 0 122 rfl dX4_copyFrom_121 rfl rfl ?_
        obtain ⟨q67, h66, hf⟩ := ob hf
        refine V_aald (t := 2) 123 h66 (by decide) dX4_copyFrom_122 rfl ?_
        refine V_aload_n 2 124 rfl dX4_copyFrom_123 rfl rfl ?_
        obtain ⟨q69, h68, hf⟩ := ob hf
        refine V_getQ (n := 11) (ty := tyX4) 127 h68 cf_3 rfl wd_fl_X4_49 dX4_copyFrom_124 rfl ?_
        refine V_iload_n 0 128 rfl dX4_copyFrom_127 rfl rfl ?_
        obtain ⟨q71, h70, hf⟩ := ob hf
        refine V_aald (t := 2) 129 h70 (by decide) dX4_copyFrom_128 rfl ?_
        obtain ⟨s73, h72, hf⟩ := ob hf
        refine V_callV (rest := []) (T := TX1) (n := 2) (ci := 0) 0 0 132 [] (c_X1_copyFrom l G (d + 0) _ _ _ _ h72) (by omega) ok_X1_copyFrom okv_X1_copyFrom (gd_X1_copyFrom h72) rfl wd_ml_X4_75 rfl rfl (Nat.le_of_ble_eq_true rfl) rfl rfl (Or.inl ⟨rfl, rfl⟩) dX4_copyFrom_129 rfl rfl ?_
        refine V_iinc (x2 + 1) 0 [(2, .int (x2 + 1)), (0, .ref t), (1, .ref x1)] 135 dX4_copyFrom_132 rfl (by rw [kiconst_1]) (by decide) rfl rfl ?_
        refine V_goto 108 dX4_copyFrom_135 (by decide) ?_
        refine V_ls [(2, .int (x2 + 1)), (0, .ref t), (1, .ref x1)] [0, 1, 2] rfl ?_
        exact ih _ _ _ hf hk
  by_cases hg : isO σ 3 t = true
  · rw [if_pos hg] at hf
    refine V_aload_n 0 1 rfl dX4_copyFrom_0 rfl rfl ?_
    obtain ⟨q2, h1, hf⟩ := ob hf
    refine V_getQ (n := 11) (ty := tyX4) 4 h1 cf_3 rfl wd_fl_X4_14 dX4_copyFrom_1 rfl ?_
    refine V_aload_n 1 5 rfl dX4_copyFrom_4 rfl rfl ?_
    obtain ⟨q4, h3, hf⟩ := ob hf
    refine V_getQ (n := 11) (ty := tyX4) 8 h3 cf_3 rfl wd_fl_X4_14 dX4_copyFrom_5 rfl ?_
    obtain ⟨s6, h5, hf⟩ := ob hf
    refine V_callV (rest := []) (T := TX5) (n := 4) (ci := 4) 0 0 11 [] (c_X5_copyFrom l G (d + 0) _ _ _ _ h5) (by omega) ok_X5_copyFrom okv_X5_copyFrom (gd_X5_copyFrom h5) rfl wd_ml_X4_65 rfl rfl (Nat.le_of_ble_eq_true rfl) rfl rfl (Or.inl ⟨rfl, rfl⟩) dX4_copyFrom_8 rfl rfl ?_
    refine V_aload_n 0 12 rfl dX4_copyFrom_11 rfl rfl ?_
    obtain ⟨q8, h7, hf⟩ := ob hf
    refine V_getQ (n := 11) (ty := tyX4) 15 h7 cf_3 rfl wd_fl_X4_20 dX4_copyFrom_12 rfl ?_
    refine V_aload_n 1 16 rfl dX4_copyFrom_15 rfl rfl ?_
    obtain ⟨q10, h9, hf⟩ := ob hf
    refine V_getQ (n := 11) (ty := tyX4) 19 h9 cf_3 rfl wd_fl_X4_20 dX4_copyFrom_16 rfl ?_
    obtain ⟨s12, h11, hf⟩ := ob hf
    refine V_callV (rest := []) (T := TX5) (n := 4) (ci := 4) 0 0 22 [] (c_X5_copyFrom l G (d + 0) _ _ _ _ h11) (by omega) ok_X5_copyFrom okv_X5_copyFrom (gd_X5_copyFrom h11) rfl wd_ml_X4_65 rfl rfl (Nat.le_of_ble_eq_true rfl) rfl rfl (Or.inl ⟨rfl, rfl⟩) dX4_copyFrom_19 rfl rfl ?_
    refine V_aload_n 0 23 rfl dX4_copyFrom_22 rfl rfl ?_
    obtain ⟨q14, h13, hf⟩ := ob hf
    refine V_getQ (n := 11) (ty := tyX4) 26 h13 cf_3 rfl wd_fl_X4_23 dX4_copyFrom_23 rfl ?_
    refine V_aload_n 1 27 rfl dX4_copyFrom_26 rfl rfl ?_
    obtain ⟨q16, h15, hf⟩ := ob hf
    refine V_getQ (n := 11) (ty := tyX4) 30 h15 cf_3 rfl wd_fl_X4_23 dX4_copyFrom_27 rfl ?_
    obtain ⟨s18, h17, hf⟩ := ob hf
    refine V_callV (rest := []) (T := TX5) (n := 4) (ci := 4) 0 0 33 [] (c_X5_copyFrom l G (d + 0) _ _ _ _ h17) (by omega) ok_X5_copyFrom okv_X5_copyFrom (gd_X5_copyFrom h17) rfl wd_ml_X4_65 rfl rfl (Nat.le_of_ble_eq_true rfl) rfl rfl (Or.inl ⟨rfl, rfl⟩) dX4_copyFrom_30 rfl rfl ?_
    refine V_aload_n 1 34 rfl dX4_copyFrom_33 rfl rfl ?_
    obtain ⟨q20, h19, hf⟩ := ob hf
    refine V_getQ (n := 11) (ty := tyX4) 37 h19 cf_3 rfl wd_fl_X4_26 dX4_copyFrom_34 rfl ?_
    refine V_iconst 0 38 dX4_copyFrom_37 rfl kiconst_0 ?_
    refine V_aload_n 0 39 rfl dX4_copyFrom_38 rfl rfl ?_
    obtain ⟨q22, h21, hf⟩ := ob hf
    refine V_getQ (n := 11) (ty := tyX4) 42 h21 cf_3 rfl wd_fl_X4_26 dX4_copyFrom_39 rfl ?_
    refine V_iconst 0 43 dX4_copyFrom_42 rfl kiconst_0 ?_
    refine V_aload_n 0 44 rfl dX4_copyFrom_43 rfl rfl ?_
    obtain ⟨q24, h23, hf⟩ := ob hf
    refine V_getQ (n := 11) (ty := tyX4) 47 h23 cf_3 rfl wd_fl_X4_26 dX4_copyFrom_44 rfl ?_
    obtain ⟨v25, h26, hf⟩ := ob hf
    refine V_alen (t := 0) 48 h26 (by decide) dX4_copyFrom_47 rfl ?_
    obtain ⟨s28, h27, hf⟩ := ob hf
    refine V_acopy (t := 0) 51 h27 (by decide) wd_ml_X4_69 wd_nt_java_lang_System_arraycopy wd_sm_java_lang_System_arraycopy wd_in_java_lang_System (by omega) (Nat.le_of_ble_eq_true rfl) dX4_copyFrom_48 rfl ?_
    refine V_aload_n 0 52 rfl dX4_copyFrom_51 rfl rfl ?_
    obtain ⟨q30, h29, hf⟩ := ob hf
    refine V_getQ (n := 11) (ty := tyX4) 55 h29 cf_3 rfl wd_fl_X4_30 dX4_copyFrom_52 rfl ?_
    refine V_aload_n 1 56 rfl dX4_copyFrom_55 rfl rfl ?_
    obtain ⟨q32, h31, hf⟩ := ob hf
    refine V_getQ (n := 11) (ty := tyX4) 59 h31 cf_3 rfl wd_fl_X4_30 dX4_copyFrom_56 rfl ?_
    obtain ⟨s34, h33, hf⟩ := ob hf
    refine V_callV (rest := []) (T := TX5) (n := 4) (ci := 4) 0 0 62 [] (c_X5_copyFrom l G (d + 0) _ _ _ _ h33) (by omega) ok_X5_copyFrom okv_X5_copyFrom (gd_X5_copyFrom h33) rfl wd_ml_X4_65 rfl rfl (Nat.le_of_ble_eq_true rfl) rfl rfl (Or.inl ⟨rfl, rfl⟩) dX4_copyFrom_59 rfl rfl ?_
    refine V_aload_n 0 63 rfl dX4_copyFrom_62 rfl rfl ?_
    obtain ⟨q36, h35, hf⟩ := ob hf
    refine V_getQ (n := 11) (ty := tyX4) 66 h35 cf_3 rfl wd_fl_X4_33 dX4_copyFrom_63 rfl ?_
    refine V_aload_n 1 67 rfl dX4_copyFrom_66 rfl rfl ?_
    obtain ⟨q38, h37, hf⟩ := ob hf
    refine V_getQ (n := 11) (ty := tyX4) 70 h37 cf_3 rfl wd_fl_X4_33 dX4_copyFrom_67 rfl ?_
    obtain ⟨s40, h39, hf⟩ := ob hf
    refine V_callV (rest := []) (T := TX5) (n := 4) (ci := 4) 0 0 73 [] (c_X5_copyFrom l G (d + 0) _ _ _ _ h39) (by omega) ok_X5_copyFrom okv_X5_copyFrom (gd_X5_copyFrom h39) rfl wd_ml_X4_65 rfl rfl (Nat.le_of_ble_eq_true rfl) rfl rfl (Or.inl ⟨rfl, rfl⟩) dX4_copyFrom_70 rfl rfl ?_
    refine V_aload_n 0 74 rfl dX4_copyFrom_73 rfl rfl ?_
    obtain ⟨q42, h41, hf⟩ := ob hf
    refine V_getQ (n := 11) (ty := tyX4) 77 h41 cf_3 rfl wd_fl_X4_36 dX4_copyFrom_74 rfl ?_
    refine V_aload_n 1 78 rfl dX4_copyFrom_77 rfl rfl ?_
    obtain ⟨q44, h43, hf⟩ := ob hf
    refine V_getQ (n := 11) (ty := tyX4) 81 h43 cf_3 rfl wd_fl_X4_36 dX4_copyFrom_78 rfl ?_
    obtain ⟨s46, h45, hf⟩ := ob hf
    refine V_callV (rest := []) (T := TX5) (n := 4) (ci := 4) 0 0 84 [] (c_X5_copyFrom l G (d + 0) _ _ _ _ h45) (by omega) ok_X5_copyFrom okv_X5_copyFrom (gd_X5_copyFrom h45) rfl wd_ml_X4_65 rfl rfl (Nat.le_of_ble_eq_true rfl) rfl rfl (Or.inl ⟨rfl, rfl⟩) dX4_copyFrom_81 rfl rfl ?_
    refine V_aload_n 0 85 rfl dX4_copyFrom_84 rfl rfl ?_
    obtain ⟨q48, h47, hf⟩ := ob hf
    refine V_getQ (n := 11) (ty := tyX4) 88 h47 cf_3 rfl wd_fl_X4_39 dX4_copyFrom_85 rfl ?_
    refine V_aload_n 1 89 rfl dX4_copyFrom_88 rfl rfl ?_
    obtain ⟨q50, h49, hf⟩ := ob hf
    refine V_getQ (n := 11) (ty := tyX4) 92 h49 cf_3 rfl wd_fl_X4_39 dX4_copyFrom_89 rfl ?_
    obtain ⟨s52, h51, hf⟩ := ob hf
    refine V_callV (rest := []) (T := TX5) (n := 4) (ci := 4) 0 0 95 [] (c_X5_copyFrom l G (d + 0) _ _ _ _ h51) (by omega) ok_X5_copyFrom okv_X5_copyFrom (gd_X5_copyFrom h51) rfl wd_ml_X4_65 rfl rfl (Nat.le_of_ble_eq_true rfl) rfl rfl (Or.inl ⟨rfl, rfl⟩) dX4_copyFrom_92 rfl rfl ?_
    refine V_aload_n 0 96 rfl dX4_copyFrom_95 rfl rfl ?_
    obtain ⟨q54, h53, hf⟩ := ob hf
    refine V_getQ (n := 11) (ty := tyX4) 99 h53 cf_3 rfl wd_fl_X4_45 dX4_copyFrom_96 rfl ?_
    refine V_aload_n 1 100 rfl dX4_copyFrom_99 rfl rfl ?_
    obtain ⟨q56, h55, hf⟩ := ob hf
    refine V_getQ (n := 11) (ty := tyX4) 103 h55 cf_3 rfl wd_fl_X4_45 dX4_copyFrom_100 rfl ?_
    obtain ⟨s58, h57, hf⟩ := ob hf
    refine V_callV (rest := []) (T := TX1) (n := 2) (ci := 0) 0 0 106 [] (c_X1_copyFrom l G (d + 0) _ _ _ _ h57) (by omega) ok_X1_copyFrom okv_X1_copyFrom (gd_X1_copyFrom h57) rfl wd_ml_X4_75 rfl rfl (Nat.le_of_ble_eq_true rfl) rfl rfl (Or.inl ⟨rfl, rfl⟩) dX4_copyFrom_103 rfl rfl ?_
    refine V_iconst 0 107 dX4_copyFrom_106 rfl kiconst_0 ?_
    refine V_istore_n [(2, .int 0), (0, .ref t), (1, .ref a0)] 108 dX4_copyFrom_107 rfl (by decide) rfl rfl ?_
    obtain ⟨p74, h75, hf⟩ := ob hf
    refine V_ls [(2, .int 0), (0, .ref t), (1, .ref a0)] [0, 1, 2] rfl ?_
    refine L108 a0 3000 0 s58 p74 h75 ?_
    refine V_aload_n 1 139 rfl dX4_copyFrom_138 rfl rfl ?_
    refine V_aload_n 2 140 rfl dX4_copyFrom_139 rfl rfl ?_
    obtain ⟨v77, h76, hf⟩ := ob hf
    refine V_getI (n := 11) (ty := tyX4) 143 h76 cf_3 rfl wd_fl_X4_53 dX4_copyFrom_140 rfl ?_
    obtain ⟨s79, h78, hf⟩ := ob hf
    refine V_putI (n := 11) (T := TX4) (ty := tyX4) (f := 10) 146 h78 cf_3 rfl rfl (Or.inl rfl) wd_fl_X4_53 dX4_copyFrom_143 rfl ?_
    have er := Option.some.inj hf
    subst er
    exact V_vret hQ rfl dX4_copyFrom_146
  · rw [if_neg hg] at hf
    cases hf
abbrev mi_X5_clear : MI := (yX5_clear, cX5_clear, 1, none)
theorem ok_X5_clear : OkN mi_X5_clear 0 := ⟨wd_cd_X5_clear, wd_in_X5, ⟨by decide +kernel, by decide +kernel, by decide +kernel⟩, by decide⟩
theorem okv_X5_clear : Cond.instanceMethod (mi_X5_clear).1 ∈ tb ∧ Cond.selects (mi_X5_clear).1.cls (mi_X5_clear).1 (mi_X5_clear).1 ∈ tb := ⟨wd_im_X5_clear, wd_se_X5_clear⟩
def f_X5_clear (σ : St) (t : Nat) : Option St := if isO σ 4 t = true then ((pI σ 4 t 3 0).bind fun s2 => some s2) else none
theorem gd_X5_clear {σ : St} {t : Nat} {r : St} (h : f_X5_clear σ t = some r) : isO σ 4 t = true := by
  unfold f_X5_clear at h
  by_cases hg : isO σ 4 t = true
  · exact hg
  · rw [if_neg hg] at h
    cases h
set_option maxRecDepth 100000 in
set_option maxHeartbeats 4000000 in
theorem c_X5_clear (l : Launch) (G : Gd) (d : Nat) (σ : St) (t : Nat) (σ' : St) (hf : f_X5_clear σ t = some σ') : MetV l G (d + 1) mi_X5_clear [.ref t] σ none σ' 0 0 := by
  unfold f_X5_clear at hf
  refine MetV.of [(0, .ref t)] (by decide +kernel) rfl (Nat.le_of_ble_eq_true rfl) ?_
  intro X hQ
  by_cases hg : isO σ 4 t = true
  · rw [if_pos hg] at hf
    refine V_aload_n 0 1 rfl dX5_clear_0 rfl rfl ?_
    refine V_iconst 0 2 dX5_clear_1 rfl kiconst_0 ?_
    obtain ⟨s2, h1, hf⟩ := ob hf
    refine V_putI (n := 4) (T := TX5) (ty := tyX5) (f := 3) 5 h1 cf_4 rfl rfl (Or.inl rfl) wd_fl_X5_7 dX5_clear_2 rfl ?_
    have er := Option.some.inj hf
    subst er
    exact V_vret hQ rfl dX5_clear_5
  · rw [if_neg hg] at hf
    cases hf
abbrev mi_X5_sum : MI := (yX5_sum, cX5_sum, 4, some .int)
theorem ok_X5_sum : OkN mi_X5_sum 1 := ⟨wd_cd_X5_sum, wd_in_X5, ⟨by decide +kernel, by decide +kernel, by decide +kernel⟩, by decide⟩
theorem okv_X5_sum : Cond.instanceMethod (mi_X5_sum).1 ∈ tb ∧ Cond.selects (mi_X5_sum).1.cls (mi_X5_sum).1 (mi_X5_sum).1 ∈ tb := ⟨wd_im_X5_sum, wd_se_X5_sum⟩
def f_X5_sum_L4 (σ : St) (t : Nat) (x1 : Int32) : Nat → Int32 → Int32 → Option (Int32 × Int32)
  | 0, _, _ => none
  | n + 1, x3, x2 => (gI σ 4 t 3).bind fun v2 => if v2 ≤ x3 then (some (x3, x2)) else ((f_X5_at σ t x3 x1).bind fun v5 => f_X5_sum_L4 σ t x1 n (x3 + 1) (x2 + v5))
def f_X5_sum (σ : St) (t : Nat) (a0 : Int32) : Option Int32 := if isO σ 4 t = true then ((f_X5_sum_L4 σ t a0 3000 0 0).bind fun p6 => some p6.2) else none
theorem gd_X5_sum {σ : St} {t : Nat} {a0 : Int32} {r : Int32} (h : f_X5_sum σ t a0 = some r) : isO σ 4 t = true := by
  unfold f_X5_sum at h
  by_cases hg : isO σ 4 t = true
  · exact hg
  · rw [if_neg hg] at h
    cases h
set_option maxRecDepth 100000 in
set_option maxHeartbeats 4000000 in
theorem c_X5_sum (l : Launch) (G : Gd) (d : Nat) (σ : St) (t : Nat) (a0 : Int32) (r0 : Int32) (hf : f_X5_sum σ t a0 = some r0) : MetV l G (d + 2) mi_X5_sum [.ref t, .int a0] σ (some (.int r0)) σ 0 0 := by
  unfold f_X5_sum at hf
  refine MetV.of [(0, .ref t), (1, .int a0)] (by decide +kernel) rfl (Nat.le_of_ble_eq_true rfl) ?_
  intro X hQ
  have L4 : ∀ (x1 : Int32) (n : Nat) (x3 : Int32) (x2 : Int32) (p : Int32 × Int32), f_X5_sum_L4 σ t x1 n x3 x2 = some p → V mi_X5_sum l G (d + 2) 0 0 X 0 0 27 [(3, .int p.1), (2, .int p.2), (0, .ref t), (1, .int x1)] [] σ → V mi_X5_sum l G (d + 2) 0 0 X 0 0 4 [(3, .int x3), (2, .int x2), (0, .ref t), (1, .int x1)] [] σ := by
    intro x1 n
    induction n with
    | zero =>
      intro x3 x2 p hf
      exact absurd (show (none : Option _) = some p from hf) (by simp)
    | succ n ih =>
      intro x3 x2 p hf hk
      rw [f_X5_sum_L4] at hf
      refine V_iload_n 0 5 rfl dX5_sum_4 rfl rfl ?_
      refine V_aload_n 2 6 rfl dX5_sum_5 rfl rfl ?_
      obtain ⟨v2, h1, hf⟩ := ob hf
      refine V_getI (n := 4) (ty := tyX5) 9 h1 cf_4 rfl wd_fl_X5_7 dX5_sum_6 rfl ?_
      refine V_icmp_ge 27 12 dX5_sum_9 (by decide) rfl (fun c3 => ?_) (fun c3 => ?_)
      · rw [if_pos c3] at hf
        have ep := Option.some.inj hf
        subst ep
        refine V_ls [(3, .int x3), (2, .int x2), (0, .ref t), (1, .int x1)] [0, 1, 2, 3] rfl ?_
        exact hk
      · rw [if_neg c3] at hf
        refine V_iload_n 1 13 rfl dX5_sum_12 rfl rfl ?_
        refine V_aload_n 2 14 rfl dX5_sum_13 rfl rfl ?_
        refine V_iload_n 0 15 rfl dX5_sum_14 rfl rfl ?_
        refine V_iload_n 3 16 rfl dX5_sum_15 rfl rfl ?_
        obtain ⟨v5, h4, hf⟩ := ob hf
        refine V_callV (rest := [.int x2]) (T := TX5) (n := 4) (ci := 4) 0 0 19 [.int v5, .int x2] (c_X5_at l G (d + 0) _ _ _ _ _ h4) (by omega) ok_X5_at okv_X5_at (gd_X5_at h4) rfl wd_ml_X5_29 rfl rfl (Nat.le_of_ble_eq_true rfl) rfl rfl (Or.inl ⟨rfl, rfl⟩) dX5_sum_16 rfl rfl ?_
        refine V_iadd 20 dX5_sum_19 rfl ?_
        refine V_istore_n [(2, .int (x2 + v5)), (3, .int x3), (0, .ref t), (1, .int x1)] 21 dX5_sum_20 rfl (by decide) rfl rfl ?_
        refine V_iinc (x3 + 1) 1 [(3, .int (x3 + 1)), (2, .int (x2 + v5)), (0, .ref t), (1, .int x1)] 24 dX5_sum_21 rfl (by rw [kiconst_1]) (by decide) rfl rfl ?_
        refine V_goto 4 dX5_sum_24 (by decide) ?_
        refine V_ls [(3, .int (x3 + 1)), (2, .int (x2 + v5)), (0, .ref t), (1, .int x1)] [0, 1, 2, 3] rfl ?_
        exact ih _ _ _ hf hk
  by_cases hg : isO σ 4 t = true
  · rw [if_pos hg] at hf
    refine V_iconst 0 1 dX5_sum_0 rfl kiconst_0 ?_
    refine V_istore_n [(2, .int 0), (0, .ref t), (1, .int a0)] 2 dX5_sum_1 rfl (by decide) rfl rfl ?_
    refine V_iconst 0 3 dX5_sum_2 rfl kiconst_0 ?_
    refine V_istore_n [(3, .int 0), (2, .int 0), (0, .ref t), (1, .int a0)] 4 dX5_sum_3 rfl (by decide) rfl rfl ?_
    obtain ⟨p6, h7, hf⟩ := ob hf
    refine V_ls [(3, .int 0), (2, .int 0), (0, .ref t), (1, .int a0)] [0, 1, 2, 3] rfl ?_
    refine L4 a0 3000 0 0 p6 h7 ?_
    refine V_iload_n 1 28 rfl dX5_sum_27 rfl rfl ?_
    have er := Option.some.inj hf
    subst er
    exact V_iret hQ rfl dX5_sum_28
  · rw [if_neg hg] at hf
    cases hf
