section VJ
variable {M N : MI} {l : Launch} {G : Gd} {d mc ms : Nat} {X : Cx} {ce sl pc : Nat} {ls : List (Nat × Value)} {st : List Value} {σ σ1 : St}
/-- as MetV.of, of a method of a class of which the machine has entries for others -/
theorem MetV.ofF {as : List Value} {rv : Option Value} {σ' : St} (ls0 : List (Nat × Value)) (hy : plainFor M.1 = true) (hls : lv_args 0 as = ls0) (hlen : (lg_sl as).length ≤ M.2.2.1) (hG : ∀ X : Cx, FinQ G mc ms rv σ' X → V M l G d mc ms X 0 0 0 ls0 [] σ) : MetV l G d M as σ rv σ' mc ms := by
  subst hls
  refine va_MetF (cc := M.2.1) (maxL := M.2.2.1) (ret := M.2.2.2) hy rfl ?_
  intro p e s m args below meth c s₁ B hml hv
  obtain ⟨rfl, hz, hP, hK, hOl⟩ := hv
  have hts := atoms_spec (ws := wsM M) B.pre
  have hown : s.vm.findClass M.1.cls = some m.cls := findClass_of_methodNamed B.named
  have hname : meth.name = M.1.name := (name_of_methodNamed B.named B.method).1
  have hl := lv_entry (as.map (vv G)) (n := M.2.2.1) (by rw [lg_sl_G]; exact hlen)
  rw [lg_entry_eq]
  generalize (lg_sl (as.map (vv G)) ++ List.replicate (M.2.2.1 - (lg_sl (as.map (vv G))).length) Slot.unset).toArray = arr at hl ⊢
  rw [lv_args_G] at hl
  exact hG (p, e, rmV d mc ms, s, m, (as.map (vv G)).toArray, below, meth, c, MQ below (QcV G rv σ') (as.map (vv G)).toArray s mc ms (ar G)) rfl ⟨B.exec, B.bytes, B.returns, hml, hown, fun w h => hts w (List.mem_cons_of_mem _ h), B.notSynchronized, hname, hK, hOl, by rw [hz]; omega, Nat.le_refl _, Nat.le_refl _, Nat.le_refl _, Nat.le_refl _⟩ (Nat.zero_le _) (Nat.zero_le _) s.heap [] arr hz hP va_S.rf hl
theorem V_getsF {ix : Nat} (pc1 : Nat) (hw : Cond.fieldLink M.1.cls ix "jdk/internal/util/Preconditions" "SIOOBE_FORMATTER" "Ljava/util/function/BiFunction;" ∈ tb) (dg : decode M.2.1 pc = .ok (.getstatic ix, 3)) (hp : pc + 3 = pc1) (kk : ∀ v : Value, v.category = 1 → V M l G d mc ms X ce sl pc1 ls (v :: st) σ) : V M l G d mc ms X ce sl pc ls st σ := by
  subst hp
  obtain ⟨p, e, R, s, m, args, below, meth, c, Q⟩ := X
  intro hO h1 h2 H locs arr z hP hS hl
  rcases hO.2.2.2.2.2.2.2.2.2.1.2.2.2.2.2.2.2.2.1 with hZ | hZ
  · exact va_gets hO.1 hO.2.1 hZ hS hO.2.2.2.2.1 (hO.2.2.2.2.2.1 _ hw) (fun _ q => q) dg (kk .null rfl hO h1 h2 H locs arr z hP hS hl)
  · refine va_gets hO.1 hO.2.1 hZ hS hO.2.2.2.2.1 (hO.2.2.2.2.2.1 _ hw) (fun _ q => q) dg ?_
    have := kk (.ref (1000 + 10)) rfl hO h1 h2 H locs arr z hP hS hl
    rw [← adr_old (G := G)]
    exact this
end VJ
abbrev mi_J3_checkIndex_8e157 : MI := (yJ3_checkIndex_8e157, cJ3_checkIndex_8e157, 3, some .int)
theorem ok_J3_checkIndex_8e157 : OkN mi_J3_checkIndex_8e157 3 := ⟨wd_cd_J3_checkIndex_8e157, wd_in_jdk_internal_util_Preconditions, ⟨by decide +kernel, by decide +kernel, by decide +kernel⟩, by decide⟩
theorem oks_J3_checkIndex_8e157 : Cond.static (mi_J3_checkIndex_8e157).1 ∈ tb := wd_sm_J3_checkIndex_8e157
abbrev mi_J0_checkIndex_df160 : MI := (yJ0_checkIndex_df160, cJ0_checkIndex_df160, 2, none)
theorem ok_J0_checkIndex_df160 : OkN mi_J0_checkIndex_df160 2 := ⟨wd_cd_J0_checkIndex_df160, wd_in_java_lang_String, ⟨by decide +kernel, by decide +kernel, by decide +kernel⟩, by decide⟩
theorem oks_J0_checkIndex_df160 : Cond.static (mi_J0_checkIndex_df160).1 ∈ tb := wd_sm_J0_checkIndex_df160
theorem c_J3_checkIndex (l : Launch) (G : Gd) (d : Nat) (σ : St) (a0 a1 : Int32) (v : Value) (hc : v.category = 1) (h0 : ¬ a0 < 0) (h1 : a0 < a1) : MetV l G (d + 1) mi_J3_checkIndex_8e157 [.int a0, .int a1, v] σ (some (.int a0)) σ 0 0 := by
  refine MetV.ofF [(0, .int a0), (1, .int a1), (2, v)] (by decide +kernel) rfl ?_ ?_
  · show (lg_sl [Value.int a0, Value.int a1, v]).length ≤ 3
    cases v <;> first | exact Nat.le_of_ble_eq_true rfl | cases hc
  intro X hQ
  refine V_iload_n 0 1 rfl dJ3_checkIndex_8e157_0 rfl rfl ?_
  refine V_if_lt 9 4 dJ3_checkIndex_8e157_1 (by decide) rfl (fun q => absurd q h0) (fun _ => ?_)
  refine V_iload_n 0 5 rfl dJ3_checkIndex_8e157_4 rfl rfl ?_
  refine V_iload_n 1 6 rfl dJ3_checkIndex_8e157_5 rfl rfl ?_
  refine V_icmp_lt 16 9 dJ3_checkIndex_8e157_6 (by decide) rfl (fun _ => ?_) (fun q => absurd h1 q)
  refine V_iload_n 0 17 rfl dJ3_checkIndex_8e157_16 rfl rfl ?_
  exact V_iret hQ rfl dJ3_checkIndex_8e157_17
def f_J0_checkIndex_df160 (_ : St) (a0 a1 : Int32) : Option Unit := if ¬ a0 < 0 ∧ a0 < a1 then some () else none
theorem c_J0_checkIndex_df160 (l : Launch) (G : Gd) (d : Nat) (σ : St) (a0 a1 : Int32) (u0 : Unit) (hf : f_J0_checkIndex_df160 σ a0 a1 = some u0) : MetV l G (d + 2) mi_J0_checkIndex_df160 [.int a0, .int a1] σ none σ 0 0 := by
  unfold f_J0_checkIndex_df160 at hf
  split at hf
  · next hc =>
    refine MetV.ofF [(0, .int a0), (1, .int a1)] (by decide +kernel) rfl (Nat.le_of_ble_eq_true rfl) ?_
    intro X hQ
    refine V_iload_n 0 1 rfl dJ0_checkIndex_df160_0 rfl rfl ?_
    refine V_iload_n 1 2 rfl dJ0_checkIndex_df160_1 rfl rfl ?_
    refine V_getsF 5 wd_fl_java_lang_String_1053 dJ0_checkIndex_df160_2 rfl (fun v hv => ?_)
    refine V_callS (rest := []) 0 0 8 [.int a0] (c_J3_checkIndex l G d σ a0 a1 v hv hc.1 hc.2) (by omega) ok_J3_checkIndex_8e157 oks_J3_checkIndex_8e157 wd_ml_java_lang_String_1059 rfl rfl (Nat.le_of_ble_eq_true rfl) rfl rfl (Or.inl ⟨rfl, rfl⟩) dJ0_checkIndex_df160_5 rfl rfl ?_
    refine V_pop 9 dJ0_checkIndex_df160_8 rfl rfl ?_
    exact V_vret hQ rfl dJ0_checkIndex_df160_9
  · cases hf
abbrev mi_J9_max_7cf53 : MI := (yJ9_max_7cf53, cJ9_max_7cf53, 2, some .int)
theorem ok_J9_max_7cf53 : OkN mi_J9_max_7cf53 2 := ⟨wd_cd_J9_max_7cf53, wd_in_java_lang_Math, ⟨by decide +kernel, by decide +kernel, by decide +kernel⟩, by decide⟩
theorem oks_J9_max_7cf53 : Cond.static (mi_J9_max_7cf53).1 ∈ tb := wd_sm_J9_max_7cf53
def f_J9_max_7cf53 (σ : St) (a0 : Int32) (a1 : Int32) : Option Int32 := some (if a0 < a1 then a1 else a0 : Int32)
set_option maxRecDepth 100000 in
set_option maxHeartbeats 4000000 in
theorem c_J9_max_7cf53 (l : Launch) (G : Gd) (d : Nat) (σ : St) (a0 : Int32) (a1 : Int32) (r0 : Int32) (hf : f_J9_max_7cf53 σ a0 a1 = some r0) : MetV l G (d + 1) mi_J9_max_7cf53 [.int a0, .int a1] σ (some (.int r0)) σ 0 0 := by
  unfold f_J9_max_7cf53 at hf
  refine MetV.ofF [(0, .int a0), (1, .int a1)] (by decide +kernel) rfl (Nat.le_of_ble_eq_true rfl) ?_
  intro X hQ
  refine V_iload_n 0 1 rfl dJ9_max_7cf53_0 rfl rfl ?_
  refine V_iload_n 1 2 rfl dJ9_max_7cf53_1 rfl rfl ?_
  have kj1 : V mi_J9_max_7cf53 l G (d + 1) 0 0 X 0 0 10 [(0, .int a0), (1, .int a1)] [.int (if a0 < a1 then a1 else a0 : Int32)] σ := by
    have er := Option.some.inj hf
    subst er
    exact V_iret hQ rfl dJ9_max_7cf53_10
  refine V_icmp_lt 9 5 dJ9_max_7cf53_2 (by decide) rfl (fun c2 => ?_) (fun c2 => ?_)
  · refine V_iload_n 1 10 rfl dJ9_max_7cf53_9 rfl rfl ?_
    refine V_ls [(0, .int a0), (1, .int a1)] [0, 1] rfl ?_
    simp only [if_pos c2] at kj1
    exact kj1
  · refine V_iload_n 0 6 rfl dJ9_max_7cf53_5 rfl rfl ?_
    refine V_goto 10 dJ9_max_7cf53_6 (by decide) ?_
    refine V_ls [(0, .int a0), (1, .int a1)] [0, 1] rfl ?_
    simp only [if_neg c2] at kj1
    exact kj1
abbrev mi_J0_isLatin1_aae02 : MI := (yJ0_isLatin1_aae02, cJ0_isLatin1_aae02, 1, some .boolean)
theorem ok_J0_isLatin1_aae02 : OkN mi_J0_isLatin1_aae02 0 := ⟨wd_cd_J0_isLatin1_aae02, wd_in_java_lang_String, ⟨by decide +kernel, by decide +kernel, by decide +kernel⟩, by decide⟩
theorem okv_J0_isLatin1_aae02 : Cond.instanceMethod (mi_J0_isLatin1_aae02).1 ∈ tb ∧ Cond.selects (mi_J0_isLatin1_aae02).1.cls (mi_J0_isLatin1_aae02).1 (mi_J0_isLatin1_aae02).1 ∈ tb := ⟨wd_im_J0_isLatin1_aae02, wd_se_J0_isLatin1_aae02⟩
def f_J0_isLatin1_aae02 (σ : St) (t : Nat) : Option Int32 := if isS t = true then ((sOk t).bind fun z2 => some 1) else none
theorem gd_J0_isLatin1_aae02 {σ : St} {t : Nat} {r : Int32} (h : f_J0_isLatin1_aae02 σ t = some r) : isS t = true := by
  unfold f_J0_isLatin1_aae02 at h
  by_cases hg : isS t = true
  · exact hg
  · rw [if_neg hg] at h
    cases h
set_option maxRecDepth 100000 in
set_option maxHeartbeats 4000000 in
theorem c_J0_isLatin1_aae02 (l : Launch) (G : Gd) (d : Nat) (σ : St) (t : Nat) (r0 : Int32) (hf : f_J0_isLatin1_aae02 σ t = some r0) : MetV l G (d + 1) mi_J0_isLatin1_aae02 [.ref t] σ (some (.int r0)) σ 0 0 := by
  unfold f_J0_isLatin1_aae02 at hf
  refine MetV.ofF [(0, .ref t)] (by decide +kernel) rfl (Nat.le_of_ble_eq_true rfl) ?_
  intro X hQ
  by_cases hg : isS t = true
  · rw [if_pos hg] at hf
    refine V_getsC 3 wd_fl_java_lang_String_38 dJ0_isLatin1_aae02_0 rfl ?_
    refine V_if_eq 17 6 dJ0_isLatin1_aae02_3 (by decide) rfl (fun hc => absurd hc (by decide)) (fun _ => ?_)
    refine V_aload_n 0 7 rfl dJ0_isLatin1_aae02_6 rfl rfl ?_
    obtain ⟨z2, h1, hf⟩ := ob hf
    refine V_strcoder 10 h1 wd_fl_java_lang_String_15 dJ0_isLatin1_aae02_7 rfl ?_
    refine V_if_ne 17 13 dJ0_isLatin1_aae02_10 (by decide) rfl (fun hc => absurd hc (by decide)) (fun _ => ?_)
    refine V_iconst 1 14 dJ0_isLatin1_aae02_13 rfl kiconst_1 ?_
    refine V_goto 18 dJ0_isLatin1_aae02_14 (by decide) ?_
    have er := Option.some.inj hf
    subst er
    exact V_zret (by decide) hQ rfl dJ0_isLatin1_aae02_18
  · rw [if_neg hg] at hf
    cases hf
abbrev mi_J0_coder_7d493 : MI := (yJ0_coder_7d493, cJ0_coder_7d493, 1, some .byte)
theorem ok_J0_coder_7d493 : OkN mi_J0_coder_7d493 0 := ⟨wd_cd_J0_coder_7d493, wd_in_java_lang_String, ⟨by decide +kernel, by decide +kernel, by decide +kernel⟩, by decide⟩
theorem okv_J0_coder_7d493 : Cond.instanceMethod (mi_J0_coder_7d493).1 ∈ tb ∧ Cond.selects (mi_J0_coder_7d493).1.cls (mi_J0_coder_7d493).1 (mi_J0_coder_7d493).1 ∈ tb := ⟨wd_im_J0_coder_7d493, wd_se_J0_coder_7d493⟩
def f_J0_coder_7d493 (σ : St) (t : Nat) : Option Int32 := if isS t = true then ((sOk t).bind fun z2 => (cr .byte 0).bind fun z3 => some 0) else none
theorem gd_J0_coder_7d493 {σ : St} {t : Nat} {r : Int32} (h : f_J0_coder_7d493 σ t = some r) : isS t = true := by
  unfold f_J0_coder_7d493 at h
  by_cases hg : isS t = true
  · exact hg
  · rw [if_neg hg] at h
    cases h
set_option maxRecDepth 100000 in
set_option maxHeartbeats 4000000 in
theorem c_J0_coder_7d493 (l : Launch) (G : Gd) (d : Nat) (σ : St) (t : Nat) (r0 : Int32) (hf : f_J0_coder_7d493 σ t = some r0) : MetV l G (d + 1) mi_J0_coder_7d493 [.ref t] σ (some (.int r0)) σ 0 0 := by
  unfold f_J0_coder_7d493 at hf
  refine MetV.ofF [(0, .ref t)] (by decide +kernel) rfl (Nat.le_of_ble_eq_true rfl) ?_
  intro X hQ
  by_cases hg : isS t = true
  · rw [if_pos hg] at hf
    refine V_getsC 3 wd_fl_java_lang_String_38 dJ0_coder_7d493_0 rfl ?_
    refine V_if_eq 13 6 dJ0_coder_7d493_3 (by decide) rfl (fun hc => absurd hc (by decide)) (fun _ => ?_)
    refine V_aload_n 0 7 rfl dJ0_coder_7d493_6 rfl rfl ?_
    obtain ⟨z2, h1, hf⟩ := ob hf
    refine V_strcoder 10 h1 wd_fl_java_lang_String_15 dJ0_coder_7d493_7 rfl ?_
    refine V_goto 14 dJ0_coder_7d493_10 (by decide) ?_
    obtain ⟨z3, h4, hf⟩ := ob hf
    have er := Option.some.inj hf
    subst er
    exact V_cret (cr_ok h4) hQ rfl dJ0_coder_7d493_14
  · rw [if_neg hg] at hf
    cases hf
abbrev mi_J0_length_8abf5 : MI := (yJ0_length_8abf5, cJ0_length_8abf5, 1, some .int)
theorem ok_J0_length_8abf5 : OkN mi_J0_length_8abf5 0 := ⟨wd_cd_J0_length_8abf5, wd_in_java_lang_String, ⟨by decide +kernel, by decide +kernel, by decide +kernel⟩, by decide⟩
theorem okv_J0_length_8abf5 : Cond.instanceMethod (mi_J0_length_8abf5).1 ∈ tb ∧ Cond.selects (mi_J0_length_8abf5).1.cls (mi_J0_length_8abf5).1 (mi_J0_length_8abf5).1 ∈ tb := ⟨wd_im_J0_length_8abf5, wd_se_J0_length_8abf5⟩
def f_J0_length_8abf5 (σ : St) (t : Nat) : Option Int32 := if isS t = true then ((sOk t).bind fun z2 => (oBL (t + 3)).bind fun v3 => (f_J0_coder_7d493 σ t).bind fun v6 => some (v3 >>> (v6 &&& 31))) else none
theorem gd_J0_length_8abf5 {σ : St} {t : Nat} {r : Int32} (h : f_J0_length_8abf5 σ t = some r) : isS t = true := by
  unfold f_J0_length_8abf5 at h
  by_cases hg : isS t = true
  · exact hg
  · rw [if_neg hg] at h
    cases h
set_option maxRecDepth 100000 in
set_option maxHeartbeats 4000000 in
theorem c_J0_length_8abf5 (l : Launch) (G : Gd) (d : Nat) (σ : St) (t : Nat) (r0 : Int32) (hf : f_J0_length_8abf5 σ t = some r0) : MetV l G (d + 2) mi_J0_length_8abf5 [.ref t] σ (some (.int r0)) σ 0 0 := by
  unfold f_J0_length_8abf5 at hf
  refine MetV.ofF [(0, .ref t)] (by decide +kernel) rfl (Nat.le_of_ble_eq_true rfl) ?_
  intro X hQ
  by_cases hg : isS t = true
  · rw [if_pos hg] at hf
    refine V_aload_n 0 1 rfl dJ0_length_8abf5_0 rfl rfl ?_
    obtain ⟨z2, h1, hf⟩ := ob hf
    refine V_strvalue 4 h1 wd_fl_java_lang_String_9 dJ0_length_8abf5_1 rfl ?_
    obtain ⟨v3, h4, hf⟩ := ob hf
    refine V_oblen 5 h4 dJ0_length_8abf5_4 rfl ?_
    refine V_aload_n 0 6 rfl dJ0_length_8abf5_5 rfl rfl ?_
    obtain ⟨v6, h5, hf⟩ := ob hf
    refine V_callStr (rest := [.int v3]) 0 0 9 [.int v6, .int v3] (c_J0_coder_7d493 l G (d + 0) _ _ _ h5) (by omega) ok_J0_coder_7d493 okv_J0_coder_7d493 (gd_J0_coder_7d493 h5) rfl wd_ml_java_lang_String_335 rfl rfl (Nat.le_of_ble_eq_true rfl) rfl rfl (Or.inl ⟨rfl, rfl⟩) dJ0_length_8abf5_6 rfl rfl ?_
    refine V_ishr 10 dJ0_length_8abf5_9 rfl ?_
    have er := Option.some.inj hf
    subst er
    exact V_iret hQ rfl dJ0_length_8abf5_10
  · rw [if_neg hg] at hf
    cases hf
abbrev mi_J1_canEncode_9a6ad : MI := (yJ1_canEncode_9a6ad, cJ1_canEncode_9a6ad, 1, some .boolean)
theorem ok_J1_canEncode_9a6ad : OkN mi_J1_canEncode_9a6ad 1 := ⟨wd_cd_J1_canEncode_9a6ad, wd_in_java_lang_StringLatin1, ⟨by decide +kernel, by decide +kernel, by decide +kernel⟩, by decide⟩
theorem oks_J1_canEncode_9a6ad : Cond.static (mi_J1_canEncode_9a6ad).1 ∈ tb := wd_sm_J1_canEncode_9a6ad
def f_J1_canEncode_9a6ad (σ : St) (a0 : Int32) : Option Int32 := (zr (if a0 < 0 then 0 else (if 255 < a0 then 0 else 1) : Int32)).bind fun z1 => some (if a0 < 0 then 0 else (if 255 < a0 then 0 else 1) : Int32)
set_option maxRecDepth 100000 in
set_option maxHeartbeats 4000000 in
theorem c_J1_canEncode_9a6ad (l : Launch) (G : Gd) (d : Nat) (σ : St) (a0 : Int32) (r0 : Int32) (hf : f_J1_canEncode_9a6ad σ a0 = some r0) : MetV l G (d + 1) mi_J1_canEncode_9a6ad [.int a0] σ (some (.int r0)) σ 0 0 := by
  unfold f_J1_canEncode_9a6ad at hf
  refine MetV.ofF [(0, .int a0)] (by decide +kernel) rfl (Nat.le_of_ble_eq_true rfl) ?_
  intro X hQ
  refine V_iload_n 0 1 rfl dJ1_canEncode_9a6ad_0 rfl rfl ?_
  have kj3 : V mi_J1_canEncode_9a6ad l G (d + 1) 0 0 X 0 0 16 [(0, .int a0)] [.int (if a0 < 0 then 0 else (if 255 < a0 then 0 else 1) : Int32)] σ := by
    obtain ⟨z1, h2, hf⟩ := ob hf
    have er := Option.some.inj hf
    subst er
    exact V_zret (zr_ok h2) hQ rfl dJ1_canEncode_9a6ad_16
  refine V_if_lt 15 4 dJ1_canEncode_9a6ad_1 (by decide) rfl (fun c4 => ?_) (fun c4 => ?_)
  · refine V_iconst 0 16 dJ1_canEncode_9a6ad_15 rfl kiconst_0 ?_
    refine V_ls [(0, .int a0)] [0] rfl ?_
    simp only [if_pos c4] at kj3
    exact kj3
  · refine V_iload_n 0 5 rfl dJ1_canEncode_9a6ad_4 rfl rfl ?_
    refine V_sipush 255 8 dJ1_canEncode_9a6ad_5 rfl ksipush_255 ?_
    refine V_icmp_gt 15 11 dJ1_canEncode_9a6ad_8 (by decide) rfl (fun c5 => ?_) (fun c5 => ?_)
    · refine V_iconst 0 16 dJ1_canEncode_9a6ad_15 rfl kiconst_0 ?_
      refine V_ls [(0, .int a0)] [0] rfl ?_
      simp only [if_neg c4, if_pos c5] at kj3
      exact kj3
    · refine V_iconst 1 12 dJ1_canEncode_9a6ad_11 rfl kiconst_1 ?_
      refine V_goto 16 dJ1_canEncode_9a6ad_12 (by decide) ?_
      refine V_ls [(0, .int a0)] [0] rfl ?_
      simp only [if_neg c4, if_neg c5] at kj3
      exact kj3
abbrev mi_J9_min_7cf53 : MI := (yJ9_min_7cf53, cJ9_min_7cf53, 2, some .int)
theorem ok_J9_min_7cf53 : OkN mi_J9_min_7cf53 2 := ⟨wd_cd_J9_min_7cf53, wd_in_java_lang_Math, ⟨by decide +kernel, by decide +kernel, by decide +kernel⟩, by decide⟩
theorem oks_J9_min_7cf53 : Cond.static (mi_J9_min_7cf53).1 ∈ tb := wd_sm_J9_min_7cf53
def f_J9_min_7cf53 (σ : St) (a0 : Int32) (a1 : Int32) : Option Int32 := some (if a1 < a0 then a1 else a0 : Int32)
set_option maxRecDepth 100000 in
set_option maxHeartbeats 4000000 in
theorem c_J9_min_7cf53 (l : Launch) (G : Gd) (d : Nat) (σ : St) (a0 : Int32) (a1 : Int32) (r0 : Int32) (hf : f_J9_min_7cf53 σ a0 a1 = some r0) : MetV l G (d + 1) mi_J9_min_7cf53 [.int a0, .int a1] σ (some (.int r0)) σ 0 0 := by
  unfold f_J9_min_7cf53 at hf
  refine MetV.ofF [(0, .int a0), (1, .int a1)] (by decide +kernel) rfl (Nat.le_of_ble_eq_true rfl) ?_
  intro X hQ
  refine V_iload_n 0 1 rfl dJ9_min_7cf53_0 rfl rfl ?_
  refine V_iload_n 1 2 rfl dJ9_min_7cf53_1 rfl rfl ?_
  have kj1 : V mi_J9_min_7cf53 l G (d + 1) 0 0 X 0 0 10 [(0, .int a0), (1, .int a1)] [.int (if a1 < a0 then a1 else a0 : Int32)] σ := by
    have er := Option.some.inj hf
    subst er
    exact V_iret hQ rfl dJ9_min_7cf53_10
  refine V_icmp_gt 9 5 dJ9_min_7cf53_2 (by decide) rfl (fun c2 => ?_) (fun c2 => ?_)
  · refine V_iload_n 1 10 rfl dJ9_min_7cf53_9 rfl rfl ?_
    refine V_ls [(0, .int a0), (1, .int a1)] [0, 1] rfl ?_
    simp only [if_pos c2] at kj1
    exact kj1
  · refine V_iload_n 0 6 rfl dJ9_min_7cf53_5 rfl rfl ?_
    refine V_goto 10 dJ9_min_7cf53_6 (by decide) ?_
    refine V_ls [(0, .int a0), (1, .int a1)] [0, 1] rfl ?_
    simp only [if_neg c2] at kj1
    exact kj1
abbrev mi_J1_indexOfChar_4cfef : MI := (yJ1_indexOfChar_4cfef, cJ1_indexOfChar_4cfef, 6, some .int)
theorem ok_J1_indexOfChar_4cfef : OkN mi_J1_indexOfChar_4cfef 4 := ⟨wd_cd_J1_indexOfChar_4cfef, wd_in_java_lang_StringLatin1, ⟨by decide +kernel, by decide +kernel, by decide +kernel⟩, by decide⟩
theorem oks_J1_indexOfChar_4cfef : Cond.static (mi_J1_indexOfChar_4cfef).1 ∈ tb := wd_sm_J1_indexOfChar_4cfef
def f_J1_indexOfChar_4cfef_L7 (x4 : Int32) (x0 : Nat) (x3 : Int32) : Nat → Int32 → Option ((Int32) ⊕ (Int32))
  | 0, _ => none
  | n + 1, x5 => if x3 ≤ x5 then (some (.inr x5)) else ((oB x0 x5).bind fun v3 => if v3 = x4 then (some (.inl x5)) else (f_J1_indexOfChar_4cfef_L7 x4 x0 x3 n (x5 + 1)))
def f_J1_indexOfChar_4cfef (σ : St) (a0 : Nat) (a1 : Int32) (a2 : Int32) (a3 : Int32) : Option Int32 := (f_J1_indexOfChar_4cfef_L7 a1.toInt8.toInt32 a0 a3 3000 a2).bind fun p5 => Sum.elim (some) (fun p7 => some (-1)) p5
set_option maxRecDepth 100000 in
set_option maxHeartbeats 4000000 in
theorem c_J1_indexOfChar_4cfef (l : Launch) (G : Gd) (d : Nat) (σ : St) (a0 : Nat) (a1 : Int32) (a2 : Int32) (a3 : Int32) (r0 : Int32) (hf : f_J1_indexOfChar_4cfef σ a0 a1 a2 a3 = some r0) : MetV l G (d + 1) mi_J1_indexOfChar_4cfef [.ref a0, .int a1, .int a2, .int a3] σ (some (.int r0)) σ 0 0 := by
  unfold f_J1_indexOfChar_4cfef at hf
  refine MetV.ofF [(0, .ref a0), (1, .int a1), (2, .int a2), (3, .int a3)] (by decide +kernel) rfl (Nat.le_of_ble_eq_true rfl) ?_
  intro X hQ
  have L7 : ∀ (x4 : Int32) (x0 : Nat) (x3 : Int32) (n : Nat) (x5 : Int32) (p : (Int32) ⊕ (Int32)), f_J1_indexOfChar_4cfef_L7 x4 x0 x3 n x5 = some p → (∀ v, p = .inl v → v = r0) → (∀ q, p = .inr q → V mi_J1_indexOfChar_4cfef l G (d + 1) 0 0 X 0 0 31 [(5, .int q), (4, .int x4), (0, .ref x0), (3, .int x3)] [] σ) → V mi_J1_indexOfChar_4cfef l G (d + 1) 0 0 X 0 0 7 [(5, .int x5), (4, .int x4), (0, .ref x0), (3, .int x3)] [] σ := by
    intro x4 x0 x3 n
    induction n with
    | zero =>
      intro x5 p hf
      exact absurd (show (none : Option _) = some p from hf) (by simp)
    | succ n ih =>
      intro x5 p hf hk1 hk
      rw [f_J1_indexOfChar_4cfef_L7] at hf
      refine V_iload 0 9 rfl dJ1_indexOfChar_4cfef_7 rfl ?_
      refine V_iload_n 3 10 rfl dJ1_indexOfChar_4cfef_9 rfl rfl ?_
      refine V_icmp_ge 31 13 dJ1_indexOfChar_4cfef_10 (by decide) rfl (fun c1 => ?_) (fun c1 => ?_)
      · rw [if_pos c1] at hf
        have ep := Option.some.inj hf
        subst ep
        refine V_ls [(5, .int x5), (4, .int x4), (0, .ref x0), (3, .int x3)] [0, 1, 2, 3] rfl ?_
        exact hk _ rfl
      · rw [if_neg c1] at hf
        refine V_aload_n 2 14 rfl dJ1_indexOfChar_4cfef_13 rfl rfl ?_
        refine V_iload 0 16 rfl dJ1_indexOfChar_4cfef_14 rfl ?_
        obtain ⟨v3, h2, hf⟩ := ob hf
        refine V_obald 17 h2 dJ1_indexOfChar_4cfef_16 rfl ?_
        refine V_iload 1 19 rfl dJ1_indexOfChar_4cfef_17 rfl ?_
        refine V_icmp_ne 25 22 dJ1_indexOfChar_4cfef_19 (by decide) rfl (fun c4 => ?_) (fun c4 => ?_)
        · rw [if_neg c4] at hf
          refine V_iinc (x5 + 1) 0 [(5, .int (x5 + 1)), (4, .int x4), (0, .ref x0), (3, .int x3)] 28 dJ1_indexOfChar_4cfef_25 rfl (by rw [kiconst_1]) (by decide) rfl rfl ?_
          refine V_goto 7 dJ1_indexOfChar_4cfef_28 (by decide) ?_
          refine V_ls [(5, .int (x5 + 1)), (4, .int x4), (0, .ref x0), (3, .int x3)] [0, 1, 2, 3] rfl ?_
          exact ih _ _ hf hk1 hk
        · rw [if_pos c4] at hf
          refine V_iload 0 24 rfl dJ1_indexOfChar_4cfef_22 rfl ?_
          have ep := Option.some.inj hf
          subst ep
          have er := hk1 _ rfl
          subst er
          exact V_iret hQ rfl dJ1_indexOfChar_4cfef_24
  refine V_iload_n 1 1 rfl dJ1_indexOfChar_4cfef_0 rfl rfl ?_
  refine V_i2b 2 dJ1_indexOfChar_4cfef_1 rfl ?_
  refine V_istore [(4, .int a1.toInt8.toInt32), (0, .ref a0), (1, .int a1), (2, .int a2), (3, .int a3)] 4 dJ1_indexOfChar_4cfef_2 (by decide) rfl rfl ?_
  refine V_iload_n 3 5 rfl dJ1_indexOfChar_4cfef_4 rfl rfl ?_
  refine V_istore [(5, .int a2), (4, .int a1.toInt8.toInt32), (0, .ref a0), (1, .int a1), (2, .int a2), (3, .int a3)] 7 dJ1_indexOfChar_4cfef_5 (by decide) rfl rfl ?_
  obtain ⟨p5, h6, hf⟩ := ob hf
  refine V_ls [(5, .int a2), (4, .int a1.toInt8.toInt32), (0, .ref a0), (3, .int a3)] [0, 1, 2, 5] rfl ?_
  refine L7 a1.toInt8.toInt32 a0 a3 3000 a2 p5 h6 (fun v hv => ?_) (fun p7 hq => ?_)
  · subst hv
    cases hf
    rfl
  subst hq
  simp only [Sum.elim_inr] at hf
  refine V_iconst (-1) 32 dJ1_indexOfChar_4cfef_31 rfl kiconst_m1 ?_
  have er := Option.some.inj hf
  subst er
  exact V_iret hQ rfl dJ1_indexOfChar_4cfef_32
abbrev mi_J1_indexOf_4cfef : MI := (yJ1_indexOf_4cfef, cJ1_indexOf_4cfef, 4, some .int)
theorem ok_J1_indexOf_4cfef : OkN mi_J1_indexOf_4cfef 4 := ⟨wd_cd_J1_indexOf_4cfef, wd_in_java_lang_StringLatin1, ⟨by decide +kernel, by decide +kernel, by decide +kernel⟩, by decide⟩
theorem oks_J1_indexOf_4cfef : Cond.static (mi_J1_indexOf_4cfef).1 ∈ tb := wd_sm_J1_indexOf_4cfef
def f_J1_indexOf_4cfef (σ : St) (a0 : Nat) (a1 : Int32) (a2 : Int32) (a3 : Int32) : Option Int32 := (f_J1_canEncode_9a6ad σ a1).bind fun v2 => if v2 = 0 then (some (-1)) else ((f_J9_max_7cf53 σ a2 0).bind fun v5 => (oBL a0).bind fun v6 => (f_J9_min_7cf53 σ a3 v6).bind fun v9 => if v5 < v9 then ((f_J1_indexOfChar_4cfef σ a0 a1 v5 v9).bind fun v12 => some v12) else (some (-1)))
set_option maxRecDepth 100000 in
set_option maxHeartbeats 4000000 in
theorem c_J1_indexOf_4cfef (l : Launch) (G : Gd) (d : Nat) (σ : St) (a0 : Nat) (a1 : Int32) (a2 : Int32) (a3 : Int32) (r0 : Int32) (hf : f_J1_indexOf_4cfef σ a0 a1 a2 a3 = some r0) : MetV l G (d + 2) mi_J1_indexOf_4cfef [.ref a0, .int a1, .int a2, .int a3] σ (some (.int r0)) σ 0 0 := by
  unfold f_J1_indexOf_4cfef at hf
  refine MetV.ofF [(0, .ref a0), (1, .int a1), (2, .int a2), (3, .int a3)] (by decide +kernel) rfl (Nat.le_of_ble_eq_true rfl) ?_
  intro X hQ
  refine V_iload_n 1 1 rfl dJ1_indexOf_4cfef_0 rfl rfl ?_
  obtain ⟨v2, h1, hf⟩ := ob hf
  refine V_callS (rest := []) 0 0 4 [.int v2] (c_J1_canEncode_9a6ad l G (d + 0) _ _ _ h1) (by omega) ok_J1_canEncode_9a6ad oks_J1_canEncode_9a6ad wd_ml_java_lang_StringLatin1_88 rfl rfl (Nat.le_of_ble_eq_true rfl) rfl rfl (Or.inl ⟨rfl, rfl⟩) dJ1_indexOf_4cfef_1 rfl rfl ?_
  refine V_if_ne 9 7 dJ1_indexOf_4cfef_4 (by decide) rfl (fun c3 => ?_) (fun c3 => ?_)
  · rw [if_neg c3] at hf
    refine V_iload_n 2 10 rfl dJ1_indexOf_4cfef_9 rfl rfl ?_
    refine V_iconst 0 11 dJ1_indexOf_4cfef_10 rfl kiconst_0 ?_
    obtain ⟨v5, h4, hf⟩ := ob hf
    refine V_callS (rest := []) 0 0 14 [.int v5] (c_J9_max_7cf53 l G (d + 0) _ _ _ _ h4) (by omega) ok_J9_max_7cf53 oks_J9_max_7cf53 wd_ml_java_lang_StringLatin1_92 rfl rfl (Nat.le_of_ble_eq_true rfl) rfl rfl (Or.inl ⟨rfl, rfl⟩) dJ1_indexOf_4cfef_11 rfl rfl ?_
    refine V_istore_n [(2, .int v5), (0, .ref a0), (1, .int a1), (3, .int a3)] 15 dJ1_indexOf_4cfef_14 rfl (by decide) rfl rfl ?_
    refine V_iload_n 3 16 rfl dJ1_indexOf_4cfef_15 rfl rfl ?_
    refine V_aload_n 1 17 rfl dJ1_indexOf_4cfef_16 rfl rfl ?_
    obtain ⟨v6, h7, hf⟩ := ob hf
    refine V_oblen 18 h7 dJ1_indexOf_4cfef_17 rfl ?_
    obtain ⟨v9, h8, hf⟩ := ob hf
    refine V_callS (rest := []) 0 0 21 [.int v9] (c_J9_min_7cf53 l G (d + 0) _ _ _ _ h8) (by omega) ok_J9_min_7cf53 oks_J9_min_7cf53 wd_ml_java_lang_StringLatin1_38 rfl rfl (Nat.le_of_ble_eq_true rfl) rfl rfl (Or.inl ⟨rfl, rfl⟩) dJ1_indexOf_4cfef_18 rfl rfl ?_
    refine V_istore_n [(3, .int v9), (2, .int v5), (0, .ref a0), (1, .int a1)] 22 dJ1_indexOf_4cfef_21 rfl (by decide) rfl rfl ?_
    refine V_iload_n 1 23 rfl dJ1_indexOf_4cfef_22 rfl rfl ?_
    refine V_iload_n 0 24 rfl dJ1_indexOf_4cfef_23 rfl rfl ?_
    refine V_icmp_lt 29 27 dJ1_indexOf_4cfef_24 (by decide) rfl (fun c10 => ?_) (fun c10 => ?_)
    · rw [if_pos c10] at hf
      refine V_aload_n 2 30 rfl dJ1_indexOf_4cfef_29 rfl rfl ?_
      refine V_iload_n 3 31 rfl dJ1_indexOf_4cfef_30 rfl rfl ?_
      refine V_iload_n 1 32 rfl dJ1_indexOf_4cfef_31 rfl rfl ?_
      refine V_iload_n 0 33 rfl dJ1_indexOf_4cfef_32 rfl rfl ?_
      obtain ⟨v12, h11, hf⟩ := ob hf
      refine V_callS (rest := []) 0 0 36 [.int v12] (c_J1_indexOfChar_4cfef l G (d + 0) _ _ _ _ _ _ h11) (by omega) ok_J1_indexOfChar_4cfef oks_J1_indexOfChar_4cfef wd_ml_java_lang_StringLatin1_95 rfl rfl (Nat.le_of_ble_eq_true rfl) rfl rfl (Or.inl ⟨rfl, rfl⟩) dJ1_indexOf_4cfef_33 rfl rfl ?_
      have er := Option.some.inj hf
      subst er
      exact V_iret hQ rfl dJ1_indexOf_4cfef_36
    · rw [if_neg c10] at hf
      refine V_iconst (-1) 28 dJ1_indexOf_4cfef_27 rfl kiconst_m1 ?_
      have er := Option.some.inj hf
      subst er
      exact V_iret hQ rfl dJ1_indexOf_4cfef_28
  · rw [if_pos c3] at hf
    refine V_iconst (-1) 8 dJ1_indexOf_4cfef_7 rfl kiconst_m1 ?_
    have er := Option.some.inj hf
    subst er
    exact V_iret hQ rfl dJ1_indexOf_4cfef_8
abbrev mi_J0_indexOf_7cf53 : MI := (yJ0_indexOf_7cf53, cJ0_indexOf_7cf53, 3, some .int)
theorem ok_J0_indexOf_7cf53 : OkN mi_J0_indexOf_7cf53 2 := ⟨wd_cd_J0_indexOf_7cf53, wd_in_java_lang_String, ⟨by decide +kernel, by decide +kernel, by decide +kernel⟩, by decide⟩
theorem okv_J0_indexOf_7cf53 : Cond.instanceMethod (mi_J0_indexOf_7cf53).1 ∈ tb ∧ Cond.selects (mi_J0_indexOf_7cf53).1.cls (mi_J0_indexOf_7cf53).1 (mi_J0_indexOf_7cf53).1 ∈ tb := ⟨wd_im_J0_indexOf_7cf53, wd_se_J0_indexOf_7cf53⟩
def f_J0_indexOf_7cf53 (σ : St) (t : Nat) (a0 : Int32) (a1 : Int32) : Option Int32 := if isS t = true then ((f_J0_isLatin1_aae02 σ t).bind fun v2 => if v2 = 0 then ((sOk t).bind fun z5 => (f_J0_length_8abf5 σ t).bind fun v7 => none) else ((sOk t).bind fun z9 => (f_J0_length_8abf5 σ t).bind fun v11 => (f_J1_indexOf_4cfef σ (t + 3) a0 a1 v11).bind fun v13 => some v13)) else none
theorem gd_J0_indexOf_7cf53 {σ : St} {t : Nat} {a0 : Int32} {a1 : Int32} {r : Int32} (h : f_J0_indexOf_7cf53 σ t a0 a1 = some r) : isS t = true := by
  unfold f_J0_indexOf_7cf53 at h
  by_cases hg : isS t = true
  · exact hg
  · rw [if_neg hg] at h
    cases h
set_option maxRecDepth 100000 in
set_option maxHeartbeats 4000000 in
theorem c_J0_indexOf_7cf53 (l : Launch) (G : Gd) (d : Nat) (σ : St) (t : Nat) (a0 : Int32) (a1 : Int32) (r0 : Int32) (hf : f_J0_indexOf_7cf53 σ t a0 a1 = some r0) : MetV l G (d + 3) mi_J0_indexOf_7cf53 [.ref t, .int a0, .int a1] σ (some (.int r0)) σ 0 0 := by
  unfold f_J0_indexOf_7cf53 at hf
  refine MetV.ofF [(0, .ref t), (1, .int a0), (2, .int a1)] (by decide +kernel) rfl (Nat.le_of_ble_eq_true rfl) ?_
  intro X hQ
  by_cases hg : isS t = true
  · rw [if_pos hg] at hf
    refine V_aload_n 0 1 rfl dJ0_indexOf_7cf53_0 rfl rfl ?_
    obtain ⟨v2, h1, hf⟩ := ob hf
    refine V_callStr (rest := []) 0 0 4 [.int v2] (c_J0_isLatin1_aae02 l G (d + 1) _ _ _ h1) (by omega) ok_J0_isLatin1_aae02 okv_J0_isLatin1_aae02 (gd_J0_isLatin1_aae02 h1) rfl wd_ml_java_lang_String_492 rfl rfl (Nat.le_of_ble_eq_true rfl) rfl rfl (Or.inl ⟨rfl, rfl⟩) dJ0_indexOf_7cf53_1 rfl rfl ?_
    refine V_if_eq 23 7 dJ0_indexOf_7cf53_4 (by decide) rfl (fun c3 => ?_) (fun c3 => ?_)
    · rw [if_pos c3] at hf
      refine V_aload_n 0 24 rfl dJ0_indexOf_7cf53_23 rfl rfl ?_
      obtain ⟨z5, h4, hf⟩ := ob hf
      refine V_strvalue 27 h4 wd_fl_java_lang_String_9 dJ0_indexOf_7cf53_24 rfl ?_
      refine V_iload_n 1 28 rfl dJ0_indexOf_7cf53_27 rfl rfl ?_
      refine V_iload_n 2 29 rfl dJ0_indexOf_7cf53_28 rfl rfl ?_
      refine V_aload_n 0 30 rfl dJ0_indexOf_7cf53_29 rfl rfl ?_
      obtain ⟨v7, h6, hf⟩ := ob hf
      refine V_callStr (rest := [.int a1, .int a0, .ref (t + 3)]) 0 0 33 [.int v7, .int a1, .int a0, .ref (t + 3)] (c_J0_length_8abf5 l G (d + 0) _ _ _ h6) (by omega) ok_J0_length_8abf5 okv_J0_length_8abf5 (gd_J0_length_8abf5 h6) rfl wd_ml_java_lang_String_505 rfl rfl (Nat.le_of_ble_eq_true rfl) rfl rfl (Or.inl ⟨rfl, rfl⟩) dJ0_indexOf_7cf53_30 rfl rfl ?_
      cases hf
    · rw [if_neg c3] at hf
      refine V_aload_n 0 8 rfl dJ0_indexOf_7cf53_7 rfl rfl ?_
      obtain ⟨z9, h8, hf⟩ := ob hf
      refine V_strvalue 11 h8 wd_fl_java_lang_String_9 dJ0_indexOf_7cf53_8 rfl ?_
      refine V_iload_n 1 12 rfl dJ0_indexOf_7cf53_11 rfl rfl ?_
      refine V_iload_n 2 13 rfl dJ0_indexOf_7cf53_12 rfl rfl ?_
      refine V_aload_n 0 14 rfl dJ0_indexOf_7cf53_13 rfl rfl ?_
      obtain ⟨v11, h10, hf⟩ := ob hf
      refine V_callStr (rest := [.int a1, .int a0, .ref (t + 3)]) 0 0 17 [.int v11, .int a1, .int a0, .ref (t + 3)] (c_J0_length_8abf5 l G (d + 0) _ _ _ h10) (by omega) ok_J0_length_8abf5 okv_J0_length_8abf5 (gd_J0_length_8abf5 h10) rfl wd_ml_java_lang_String_505 rfl rfl (Nat.le_of_ble_eq_true rfl) rfl rfl (Or.inl ⟨rfl, rfl⟩) dJ0_indexOf_7cf53_14 rfl rfl ?_
      obtain ⟨v13, h12, hf⟩ := ob hf
      refine V_callS (rest := []) 0 0 20 [.int v13] (c_J1_indexOf_4cfef l G (d + 0) _ _ _ _ _ _ h12) (by omega) ok_J1_indexOf_4cfef oks_J1_indexOf_4cfef wd_ml_java_lang_String_637 rfl rfl (Nat.le_of_ble_eq_true rfl) rfl rfl (Or.inl ⟨rfl, rfl⟩) dJ0_indexOf_7cf53_17 rfl rfl ?_
      refine V_goto 36 dJ0_indexOf_7cf53_20 (by decide) ?_
      have er := Option.some.inj hf
      subst er
      exact V_iret hQ rfl dJ0_indexOf_7cf53_36
  · rw [if_neg hg] at hf
    cases hf
abbrev mi_J0_indexOf_0f7a4 : MI := (yJ0_indexOf_0f7a4, cJ0_indexOf_0f7a4, 2, some .int)
theorem ok_J0_indexOf_0f7a4 : OkN mi_J0_indexOf_0f7a4 1 := ⟨wd_cd_J0_indexOf_0f7a4, wd_in_java_lang_String, ⟨by decide +kernel, by decide +kernel, by decide +kernel⟩, by decide⟩
theorem okv_J0_indexOf_0f7a4 : Cond.instanceMethod (mi_J0_indexOf_0f7a4).1 ∈ tb ∧ Cond.selects (mi_J0_indexOf_0f7a4).1.cls (mi_J0_indexOf_0f7a4).1 (mi_J0_indexOf_0f7a4).1 ∈ tb := ⟨wd_im_J0_indexOf_0f7a4, wd_se_J0_indexOf_0f7a4⟩
def f_J0_indexOf_0f7a4 (σ : St) (t : Nat) (a0 : Int32) : Option Int32 := if isS t = true then ((f_J0_indexOf_7cf53 σ t a0 0).bind fun v2 => some v2) else none
theorem gd_J0_indexOf_0f7a4 {σ : St} {t : Nat} {a0 : Int32} {r : Int32} (h : f_J0_indexOf_0f7a4 σ t a0 = some r) : isS t = true := by
  unfold f_J0_indexOf_0f7a4 at h
  by_cases hg : isS t = true
  · exact hg
  · rw [if_neg hg] at h
    cases h
set_option maxRecDepth 100000 in
set_option maxHeartbeats 4000000 in
theorem c_J0_indexOf_0f7a4 (l : Launch) (G : Gd) (d : Nat) (σ : St) (t : Nat) (a0 : Int32) (r0 : Int32) (hf : f_J0_indexOf_0f7a4 σ t a0 = some r0) : MetV l G (d + 4) mi_J0_indexOf_0f7a4 [.ref t, .int a0] σ (some (.int r0)) σ 0 0 := by
  unfold f_J0_indexOf_0f7a4 at hf
  refine MetV.ofF [(0, .ref t), (1, .int a0)] (by decide +kernel) rfl (Nat.le_of_ble_eq_true rfl) ?_
  intro X hQ
  by_cases hg : isS t = true
  · rw [if_pos hg] at hf
    refine V_aload_n 0 1 rfl dJ0_indexOf_0f7a4_0 rfl rfl ?_
    refine V_iload_n 1 2 rfl dJ0_indexOf_0f7a4_1 rfl rfl ?_
    refine V_iconst 0 3 dJ0_indexOf_0f7a4_2 rfl kiconst_0 ?_
    obtain ⟨v2, h1, hf⟩ := ob hf
    refine V_callStr (rest := []) 0 0 6 [.int v2] (c_J0_indexOf_7cf53 l G (d + 0) _ _ _ _ _ h1) (by omega) ok_J0_indexOf_7cf53 okv_J0_indexOf_7cf53 (gd_J0_indexOf_7cf53 h1) rfl wd_ml_java_lang_String_633 rfl rfl (Nat.le_of_ble_eq_true rfl) rfl rfl (Or.inl ⟨rfl, rfl⟩) dJ0_indexOf_0f7a4_3 rfl rfl ?_
    have er := Option.some.inj hf
    subst er
    exact V_iret hQ rfl dJ0_indexOf_0f7a4_6
  · rw [if_neg hg] at hf
    cases hf
abbrev mi_J9_min_f86c9 : MI := (yJ9_min_f86c9, cJ9_min_f86c9, 4, some .long)
theorem ok_J9_min_f86c9 : OkN mi_J9_min_f86c9 2 := ⟨wd_cd_J9_min_f86c9, wd_in_java_lang_Math, ⟨by decide +kernel, by decide +kernel, by decide +kernel⟩, by decide⟩
theorem oks_J9_min_f86c9 : Cond.static (mi_J9_min_f86c9).1 ∈ tb := wd_sm_J9_min_f86c9
def f_J9_min_f86c9 (σ : St) (a0 : Int64) (a1 : Int64) : Option Int64 := some (if 0 < (lg_cmp a0 a1) then a1 else a0 : Int64)
set_option maxRecDepth 100000 in
set_option maxHeartbeats 4000000 in
theorem c_J9_min_f86c9 (l : Launch) (G : Gd) (d : Nat) (σ : St) (a0 : Int64) (a1 : Int64) (r0 : Int64) (hf : f_J9_min_f86c9 σ a0 a1 = some r0) : MetV l G (d + 1) mi_J9_min_f86c9 [.long a0, .long a1] σ (some (.long r0)) σ 0 0 := by
  unfold f_J9_min_f86c9 at hf
  refine MetV.ofF [(0, .long a0), (2, .long a1)] (by decide +kernel) rfl (Nat.le_of_ble_eq_true rfl) ?_
  intro X hQ
  refine V_lload_n 0 1 rfl dJ9_min_f86c9_0 rfl rfl ?_
  refine V_lload_n 1 2 rfl dJ9_min_f86c9_1 rfl rfl ?_
  refine V_lcmp 3 dJ9_min_f86c9_2 rfl ?_
  have kj1 : V mi_J9_min_f86c9 l G (d + 1) 0 0 X 0 0 11 [(0, .long a0), (2, .long a1)] [.long (if 0 < (lg_cmp a0 a1) then a1 else a0 : Int64)] σ := by
    have er := Option.some.inj hf
    subst er
    exact V_lret hQ rfl dJ9_min_f86c9_11
  refine V_if_gt 10 6 dJ9_min_f86c9_3 (by decide) rfl (fun c2 => ?_) (fun c2 => ?_)
  · refine V_lload_n 1 11 rfl dJ9_min_f86c9_10 rfl rfl ?_
    refine V_ls [(0, .long a0), (2, .long a1)] [0, 1] rfl ?_
    simp only [if_pos c2] at kj1
    exact kj1
  · refine V_lload_n 0 7 rfl dJ9_min_f86c9_6 rfl rfl ?_
    refine V_goto 11 dJ9_min_f86c9_7 (by decide) ?_
    refine V_ls [(0, .long a0), (2, .long a1)] [0, 1] rfl ?_
    simp only [if_neg c2] at kj1
    exact kj1
abbrev mi_J9_max_f86c9 : MI := (yJ9_max_f86c9, cJ9_max_f86c9, 4, some .long)
theorem ok_J9_max_f86c9 : OkN mi_J9_max_f86c9 2 := ⟨wd_cd_J9_max_f86c9, wd_in_java_lang_Math, ⟨by decide +kernel, by decide +kernel, by decide +kernel⟩, by decide⟩
theorem oks_J9_max_f86c9 : Cond.static (mi_J9_max_f86c9).1 ∈ tb := wd_sm_J9_max_f86c9
def f_J9_max_f86c9 (σ : St) (a0 : Int64) (a1 : Int64) : Option Int64 := some (if (lg_cmp a0 a1) < 0 then a1 else a0 : Int64)
set_option maxRecDepth 100000 in
set_option maxHeartbeats 4000000 in
theorem c_J9_max_f86c9 (l : Launch) (G : Gd) (d : Nat) (σ : St) (a0 : Int64) (a1 : Int64) (r0 : Int64) (hf : f_J9_max_f86c9 σ a0 a1 = some r0) : MetV l G (d + 1) mi_J9_max_f86c9 [.long a0, .long a1] σ (some (.long r0)) σ 0 0 := by
  unfold f_J9_max_f86c9 at hf
  refine MetV.ofF [(0, .long a0), (2, .long a1)] (by decide +kernel) rfl (Nat.le_of_ble_eq_true rfl) ?_
  intro X hQ
  refine V_lload_n 0 1 rfl dJ9_max_f86c9_0 rfl rfl ?_
  refine V_lload_n 1 2 rfl dJ9_max_f86c9_1 rfl rfl ?_
  refine V_lcmp 3 dJ9_max_f86c9_2 rfl ?_
  have kj1 : V mi_J9_max_f86c9 l G (d + 1) 0 0 X 0 0 11 [(0, .long a0), (2, .long a1)] [.long (if (lg_cmp a0 a1) < 0 then a1 else a0 : Int64)] σ := by
    have er := Option.some.inj hf
    subst er
    exact V_lret hQ rfl dJ9_max_f86c9_11
  refine V_if_lt 10 6 dJ9_max_f86c9_3 (by decide) rfl (fun c2 => ?_) (fun c2 => ?_)
  · refine V_lload_n 1 11 rfl dJ9_max_f86c9_10 rfl rfl ?_
    refine V_ls [(0, .long a0), (2, .long a1)] [0, 1] rfl ?_
    simp only [if_pos c2] at kj1
    exact kj1
  · refine V_lload_n 0 7 rfl dJ9_max_f86c9_6 rfl rfl ?_
    refine V_goto 11 dJ9_max_f86c9_7 (by decide) ?_
    refine V_ls [(0, .long a0), (2, .long a1)] [0, 1] rfl ?_
    simp only [if_neg c2] at kj1
    exact kj1
abbrev mi_J1_charAt_3b067 : MI := (yJ1_charAt_3b067, cJ1_charAt_3b067, 2, some .char)
theorem ok_J1_charAt_3b067 : OkN mi_J1_charAt_3b067 2 := ⟨wd_cd_J1_charAt_3b067, wd_in_java_lang_StringLatin1, ⟨by decide +kernel, by decide +kernel, by decide +kernel⟩, by decide⟩
theorem oks_J1_charAt_3b067 : Cond.static (mi_J1_charAt_3b067).1 ∈ tb := wd_sm_J1_charAt_3b067
def f_J1_charAt_3b067 (σ : St) (a0 : Nat) (a1 : Int32) : Option Int32 := (oBL a0).bind fun v1 => (f_J0_checkIndex_df160 σ a1 v1).bind fun v4 => (oB a0 a1).bind fun v6 => (cr .char (((v6 &&& 255).toUInt32 % 65536).toInt32)).bind fun z7 => some (((v6 &&& 255).toUInt32 % 65536).toInt32)
set_option maxRecDepth 100000 in
set_option maxHeartbeats 4000000 in
theorem c_J1_charAt_3b067 (l : Launch) (G : Gd) (d : Nat) (σ : St) (a0 : Nat) (a1 : Int32) (r0 : Int32) (hf : f_J1_charAt_3b067 σ a0 a1 = some r0) : MetV l G (d + 3) mi_J1_charAt_3b067 [.ref a0, .int a1] σ (some (.int r0)) σ 0 0 := by
  unfold f_J1_charAt_3b067 at hf
  refine MetV.ofF [(0, .ref a0), (1, .int a1)] (by decide +kernel) rfl (Nat.le_of_ble_eq_true rfl) ?_
  intro X hQ
  refine V_iload_n 1 1 rfl dJ1_charAt_3b067_0 rfl rfl ?_
  refine V_aload_n 0 2 rfl dJ1_charAt_3b067_1 rfl rfl ?_
  obtain ⟨v1, h2, hf⟩ := ob hf
  refine V_oblen 3 h2 dJ1_charAt_3b067_2 rfl ?_
  obtain ⟨v4, h3, hf⟩ := ob hf
  refine V_callS (rest := []) 0 0 6 [] (c_J0_checkIndex_df160 l G (d + 0) _ _ _ _ h3) (by omega) ok_J0_checkIndex_df160 oks_J0_checkIndex_df160 wd_ml_java_lang_StringLatin1_9 rfl rfl (Nat.le_of_ble_eq_true rfl) rfl rfl (Or.inl ⟨rfl, rfl⟩) dJ1_charAt_3b067_3 rfl rfl ?_
  refine V_aload_n 0 7 rfl dJ1_charAt_3b067_6 rfl rfl ?_
  refine V_iload_n 1 8 rfl dJ1_charAt_3b067_7 rfl rfl ?_
  obtain ⟨v6, h5, hf⟩ := ob hf
  refine V_obald 9 h5 dJ1_charAt_3b067_8 rfl ?_
  refine V_sipush 255 12 dJ1_charAt_3b067_9 rfl ksipush_255 ?_
  refine V_iand 13 dJ1_charAt_3b067_12 rfl ?_
  refine V_i2c 14 dJ1_charAt_3b067_13 rfl ?_
  obtain ⟨z7, h8, hf⟩ := ob hf
  have er := Option.some.inj hf
  subst er
  exact V_cret (cr_ok h8) hQ rfl dJ1_charAt_3b067_14
abbrev mi_J0_charAt_5068e : MI := (yJ0_charAt_5068e, cJ0_charAt_5068e, 2, some .char)
theorem ok_J0_charAt_5068e : OkN mi_J0_charAt_5068e 1 := ⟨wd_cd_J0_charAt_5068e, wd_in_java_lang_String, ⟨by decide +kernel, by decide +kernel, by decide +kernel⟩, by decide⟩
theorem okv_J0_charAt_5068e : Cond.instanceMethod (mi_J0_charAt_5068e).1 ∈ tb ∧ Cond.selects (mi_J0_charAt_5068e).1.cls (mi_J0_charAt_5068e).1 (mi_J0_charAt_5068e).1 ∈ tb := ⟨wd_im_J0_charAt_5068e, wd_se_J0_charAt_5068e⟩
def f_J0_charAt_5068e (σ : St) (t : Nat) (a0 : Int32) : Option Int32 := if isS t = true then ((f_J0_isLatin1_aae02 σ t).bind fun v2 => if v2 = 0 then ((sOk t).bind fun z5 => none) else ((sOk t).bind fun z7 => (f_J1_charAt_3b067 σ (t + 3) a0).bind fun v9 => (cr .char v9).bind fun z10 => some v9)) else none
theorem gd_J0_charAt_5068e {σ : St} {t : Nat} {a0 : Int32} {r : Int32} (h : f_J0_charAt_5068e σ t a0 = some r) : isS t = true := by
  unfold f_J0_charAt_5068e at h
  by_cases hg : isS t = true
  · exact hg
  · rw [if_neg hg] at h
    cases h
set_option maxRecDepth 100000 in
set_option maxHeartbeats 4000000 in
theorem c_J0_charAt_5068e (l : Launch) (G : Gd) (d : Nat) (σ : St) (t : Nat) (a0 : Int32) (r0 : Int32) (hf : f_J0_charAt_5068e σ t a0 = some r0) : MetV l G (d + 4) mi_J0_charAt_5068e [.ref t, .int a0] σ (some (.int r0)) σ 0 0 := by
  unfold f_J0_charAt_5068e at hf
  refine MetV.ofF [(0, .ref t), (1, .int a0)] (by decide +kernel) rfl (Nat.le_of_ble_eq_true rfl) ?_
  intro X hQ
  by_cases hg : isS t = true
  · rw [if_pos hg] at hf
    refine V_aload_n 0 1 rfl dJ0_charAt_5068e_0 rfl rfl ?_
    obtain ⟨v2, h1, hf⟩ := ob hf
    refine V_callStr (rest := []) 0 0 4 [.int v2] (c_J0_isLatin1_aae02 l G (d + 2) _ _ _ h1) (by omega) ok_J0_isLatin1_aae02 okv_J0_isLatin1_aae02 (gd_J0_isLatin1_aae02 h1) rfl wd_ml_java_lang_String_492 rfl rfl (Nat.le_of_ble_eq_true rfl) rfl rfl (Or.inl ⟨rfl, rfl⟩) dJ0_charAt_5068e_1 rfl rfl ?_
    refine V_if_eq 16 7 dJ0_charAt_5068e_4 (by decide) rfl (fun c3 => ?_) (fun c3 => ?_)
    · rw [if_pos c3] at hf
      refine V_aload_n 0 17 rfl dJ0_charAt_5068e_16 rfl rfl ?_
      obtain ⟨z5, h4, hf⟩ := ob hf
      refine V_strvalue 20 h4 wd_fl_java_lang_String_9 dJ0_charAt_5068e_17 rfl ?_
      refine V_iload_n 1 21 rfl dJ0_charAt_5068e_20 rfl rfl ?_
      cases hf
    · rw [if_neg c3] at hf
      refine V_aload_n 0 8 rfl dJ0_charAt_5068e_7 rfl rfl ?_
      obtain ⟨z7, h6, hf⟩ := ob hf
      refine V_strvalue 11 h6 wd_fl_java_lang_String_9 dJ0_charAt_5068e_8 rfl ?_
      refine V_iload_n 1 12 rfl dJ0_charAt_5068e_11 rfl rfl ?_
      obtain ⟨v9, h8, hf⟩ := ob hf
      refine V_callS (rest := []) 0 0 15 [.int v9] (c_J1_charAt_3b067 l G (d + 0) _ _ _ _ h8) (by omega) ok_J1_charAt_3b067 oks_J1_charAt_3b067 wd_ml_java_lang_String_495 rfl rfl (Nat.le_of_ble_eq_true rfl) rfl rfl (Or.inl ⟨rfl, rfl⟩) dJ0_charAt_5068e_12 rfl rfl ?_
      obtain ⟨z10, h11, hf⟩ := ob hf
      have er := Option.some.inj hf
      subst er
      exact V_cret (cr_ok h11) hQ rfl dJ0_charAt_5068e_15
  · rw [if_neg hg] at hf
    cases hf
abbrev mi_J9_abs_0f7a4 : MI := (yJ9_abs_0f7a4, cJ9_abs_0f7a4, 1, some .int)
theorem ok_J9_abs_0f7a4 : OkN mi_J9_abs_0f7a4 1 := ⟨wd_cd_J9_abs_0f7a4, wd_in_java_lang_Math, ⟨by decide +kernel, by decide +kernel, by decide +kernel⟩, by decide⟩
theorem oks_J9_abs_0f7a4 : Cond.static (mi_J9_abs_0f7a4).1 ∈ tb := wd_sm_J9_abs_0f7a4
def f_J9_abs_0f7a4 (σ : St) (a0 : Int32) : Option Int32 := some (if 0 ≤ a0 then a0 else (-a0) : Int32)
set_option maxRecDepth 100000 in
set_option maxHeartbeats 4000000 in
theorem c_J9_abs_0f7a4 (l : Launch) (G : Gd) (d : Nat) (σ : St) (a0 : Int32) (r0 : Int32) (hf : f_J9_abs_0f7a4 σ a0 = some r0) : MetV l G (d + 1) mi_J9_abs_0f7a4 [.int a0] σ (some (.int r0)) σ 0 0 := by
  unfold f_J9_abs_0f7a4 at hf
  refine MetV.ofF [(0, .int a0)] (by decide +kernel) rfl (Nat.le_of_ble_eq_true rfl) ?_
  intro X hQ
  refine V_iload_n 0 1 rfl dJ9_abs_0f7a4_0 rfl rfl ?_
  have kj1 : V mi_J9_abs_0f7a4 l G (d + 1) 0 0 X 0 0 10 [(0, .int a0)] [.int (if 0 ≤ a0 then a0 else (-a0) : Int32)] σ := by
    have er := Option.some.inj hf
    subst er
    exact V_iret hQ rfl dJ9_abs_0f7a4_10
  refine V_if_ge 9 4 dJ9_abs_0f7a4_1 (by decide) rfl (fun c2 => ?_) (fun c2 => ?_)
  · refine V_iload_n 0 10 rfl dJ9_abs_0f7a4_9 rfl rfl ?_
    refine V_ls [(0, .int a0)] [0] rfl ?_
    simp only [if_pos c2] at kj1
    exact kj1
  · refine V_iload_n 0 5 rfl dJ9_abs_0f7a4_4 rfl rfl ?_
    refine V_ineg 6 dJ9_abs_0f7a4_5 rfl ?_
    refine V_goto 10 dJ9_abs_0f7a4_6 (by decide) ?_
    refine V_ls [(0, .int a0)] [0] rfl ?_
    simp only [if_neg c2] at kj1
    exact kj1
abbrev mi_J9_floorDiv_7cf53 : MI := (yJ9_floorDiv_7cf53, cJ9_floorDiv_7cf53, 3, some .int)
theorem ok_J9_floorDiv_7cf53 : OkN mi_J9_floorDiv_7cf53 2 := ⟨wd_cd_J9_floorDiv_7cf53, wd_in_java_lang_Math, ⟨by decide +kernel, by decide +kernel, by decide +kernel⟩, by decide⟩
theorem oks_J9_floorDiv_7cf53 : Cond.static (mi_J9_floorDiv_7cf53).1 ∈ tb := wd_sm_J9_floorDiv_7cf53
def f_J9_floorDiv_7cf53 (σ : St) (a0 : Int32) (a1 : Int32) : Option Int32 := (ne0 a1).bind fun z1 => if 0 ≤ (a0 ^^^ a1) then (some (a0 / a1)) else (if ((a0 / a1) * a1) = a0 then (some (a0 / a1)) else (some ((a0 / a1) - 1)))
set_option maxRecDepth 100000 in
set_option maxHeartbeats 4000000 in
theorem c_J9_floorDiv_7cf53 (l : Launch) (G : Gd) (d : Nat) (σ : St) (a0 : Int32) (a1 : Int32) (r0 : Int32) (hf : f_J9_floorDiv_7cf53 σ a0 a1 = some r0) : MetV l G (d + 1) mi_J9_floorDiv_7cf53 [.int a0, .int a1] σ (some (.int r0)) σ 0 0 := by
  unfold f_J9_floorDiv_7cf53 at hf
  refine MetV.ofF [(0, .int a0), (1, .int a1)] (by decide +kernel) rfl (Nat.le_of_ble_eq_true rfl) ?_
  intro X hQ
  refine V_iload_n 0 1 rfl dJ9_floorDiv_7cf53_0 rfl rfl ?_
  refine V_iload_n 1 2 rfl dJ9_floorDiv_7cf53_1 rfl rfl ?_
  obtain ⟨z1, h2, hf⟩ := ob hf
  refine V_idiv 3 dJ9_floorDiv_7cf53_2 rfl (ne0_ne h2) ?_
  refine V_istore_n [(2, .int (a0 / a1)), (0, .int a0), (1, .int a1)] 4 dJ9_floorDiv_7cf53_3 rfl (by decide) rfl rfl ?_
  refine V_iload_n 1 5 rfl dJ9_floorDiv_7cf53_4 rfl rfl ?_
  refine V_iload_n 2 6 rfl dJ9_floorDiv_7cf53_5 rfl rfl ?_
  refine V_ixor 7 dJ9_floorDiv_7cf53_6 rfl ?_
  refine V_if_ge 21 10 dJ9_floorDiv_7cf53_7 (by decide) rfl (fun c3 => ?_) (fun c3 => ?_)
  · rw [if_pos c3] at hf
    refine V_iload_n 0 22 rfl dJ9_floorDiv_7cf53_21 rfl rfl ?_
    have er := Option.some.inj hf
    subst er
    exact V_iret hQ rfl dJ9_floorDiv_7cf53_22
  · rw [if_neg c3] at hf
    refine V_iload_n 0 11 rfl dJ9_floorDiv_7cf53_10 rfl rfl ?_
    refine V_iload_n 2 12 rfl dJ9_floorDiv_7cf53_11 rfl rfl ?_
    refine V_imul 13 dJ9_floorDiv_7cf53_12 rfl ?_
    refine V_iload_n 1 14 rfl dJ9_floorDiv_7cf53_13 rfl rfl ?_
    refine V_icmp_eq 21 17 dJ9_floorDiv_7cf53_14 (by decide) rfl (fun c4 => ?_) (fun c4 => ?_)
    · rw [if_pos c4] at hf
      refine V_iload_n 0 22 rfl dJ9_floorDiv_7cf53_21 rfl rfl ?_
      have er := Option.some.inj hf
      subst er
      exact V_iret hQ rfl dJ9_floorDiv_7cf53_22
    · rw [if_neg c4] at hf
      refine V_iload_n 0 18 rfl dJ9_floorDiv_7cf53_17 rfl rfl ?_
      refine V_iconst 1 19 dJ9_floorDiv_7cf53_18 rfl kiconst_1 ?_
      refine V_isub 20 dJ9_floorDiv_7cf53_19 rfl ?_
      have er := Option.some.inj hf
      subst er
      exact V_iret hQ rfl dJ9_floorDiv_7cf53_20
abbrev mi_J9_abs_067f4 : MI := (yJ9_abs_067f4, cJ9_abs_067f4, 2, some .long)
theorem ok_J9_abs_067f4 : OkN mi_J9_abs_067f4 1 := ⟨wd_cd_J9_abs_067f4, wd_in_java_lang_Math, ⟨by decide +kernel, by decide +kernel, by decide +kernel⟩, by decide⟩
theorem oks_J9_abs_067f4 : Cond.static (mi_J9_abs_067f4).1 ∈ tb := wd_sm_J9_abs_067f4
def f_J9_abs_067f4 (σ : St) (a0 : Int64) : Option Int64 := if 0 ≤ (lg_cmp a0 0) then (some a0) else (some (-a0))
set_option maxRecDepth 100000 in
set_option maxHeartbeats 4000000 in
theorem c_J9_abs_067f4 (l : Launch) (G : Gd) (d : Nat) (σ : St) (a0 : Int64) (r0 : Int64) (hf : f_J9_abs_067f4 σ a0 = some r0) : MetV l G (d + 1) mi_J9_abs_067f4 [.long a0] σ (some (.long r0)) σ 0 0 := by
  unfold f_J9_abs_067f4 at hf
  refine MetV.ofF [(0, .long a0)] (by decide +kernel) rfl (Nat.le_of_ble_eq_true rfl) ?_
  intro X hQ
  refine V_lload_n 0 1 rfl dJ9_abs_067f4_0 rfl rfl ?_
  refine V_lconst 0 2 dJ9_abs_067f4_1 rfl klconst_0 ?_
  refine V_lcmp 3 dJ9_abs_067f4_2 rfl ?_
  refine V_if_ge 11 6 dJ9_abs_067f4_3 (by decide) rfl (fun c1 => ?_) (fun c1 => ?_)
  · rw [if_pos c1] at hf
    refine V_lload_n 0 12 rfl dJ9_abs_067f4_11 rfl rfl ?_
    have er := Option.some.inj hf
    subst er
    exact V_lret hQ rfl dJ9_abs_067f4_12
  · rw [if_neg c1] at hf
    refine V_lload_n 0 7 rfl dJ9_abs_067f4_6 rfl rfl ?_
    refine V_lneg 8 dJ9_abs_067f4_7 rfl ?_
    refine V_goto 12 dJ9_abs_067f4_8 (by decide) ?_
    have er := Option.some.inj hf
    subst er
    exact V_lret hQ rfl dJ9_abs_067f4_12
abbrev mi_J6_bitCount_0f7a4 : MI := (yJ6_bitCount_0f7a4, cJ6_bitCount_0f7a4, 1, some .int)
theorem ok_J6_bitCount_0f7a4 : OkN mi_J6_bitCount_0f7a4 1 := ⟨wd_cd_J6_bitCount_0f7a4, wd_in_java_lang_Integer, ⟨by decide +kernel, by decide +kernel, by decide +kernel⟩, by decide⟩
theorem oks_J6_bitCount_0f7a4 : Cond.static (mi_J6_bitCount_0f7a4).1 ∈ tb := wd_sm_J6_bitCount_0f7a4
def f_J6_bitCount_0f7a4 (σ : St) (a0 : Int32) : Option Int32 := some ((((((((a0 - ((ush a0 1) &&& 1431655765)) &&& 858993459) + ((ush (a0 - ((ush a0 1) &&& 1431655765)) 2) &&& 858993459)) + (ush (((a0 - ((ush a0 1) &&& 1431655765)) &&& 858993459) + ((ush (a0 - ((ush a0 1) &&& 1431655765)) 2) &&& 858993459)) 4)) &&& 252645135) + (ush (((((a0 - ((ush a0 1) &&& 1431655765)) &&& 858993459) + ((ush (a0 - ((ush a0 1) &&& 1431655765)) 2) &&& 858993459)) + (ush (((a0 - ((ush a0 1) &&& 1431655765)) &&& 858993459) + ((ush (a0 - ((ush a0 1) &&& 1431655765)) 2) &&& 858993459)) 4)) &&& 252645135) 8)) + (ush ((((((a0 - ((ush a0 1) &&& 1431655765)) &&& 858993459) + ((ush (a0 - ((ush a0 1) &&& 1431655765)) 2) &&& 858993459)) + (ush (((a0 - ((ush a0 1) &&& 1431655765)) &&& 858993459) + ((ush (a0 - ((ush a0 1) &&& 1431655765)) 2) &&& 858993459)) 4)) &&& 252645135) + (ush (((((a0 - ((ush a0 1) &&& 1431655765)) &&& 858993459) + ((ush (a0 - ((ush a0 1) &&& 1431655765)) 2) &&& 858993459)) + (ush (((a0 - ((ush a0 1) &&& 1431655765)) &&& 858993459) + ((ush (a0 - ((ush a0 1) &&& 1431655765)) 2) &&& 858993459)) 4)) &&& 252645135) 8)) 16)) &&& 63)
set_option maxRecDepth 100000 in
set_option maxHeartbeats 4000000 in
theorem c_J6_bitCount_0f7a4 (l : Launch) (G : Gd) (d : Nat) (σ : St) (a0 : Int32) (r0 : Int32) (hf : f_J6_bitCount_0f7a4 σ a0 = some r0) : MetV l G (d + 1) mi_J6_bitCount_0f7a4 [.int a0] σ (some (.int r0)) σ 0 0 := by
  unfold f_J6_bitCount_0f7a4 at hf
  refine MetV.ofF [(0, .int a0)] (by decide +kernel) rfl (Nat.le_of_ble_eq_true rfl) ?_
  intro X hQ
  refine V_iload_n 0 1 rfl dJ6_bitCount_0f7a4_0 rfl rfl ?_
  refine V_iload_n 0 2 rfl dJ6_bitCount_0f7a4_1 rfl rfl ?_
  refine V_iconst 1 3 dJ6_bitCount_0f7a4_2 rfl kiconst_1 ?_
  refine V_iushr 4 dJ6_bitCount_0f7a4_3 rfl ?_
  refine V_ldc_w 1431655765 7 dJ6_bitCount_0f7a4_4 rfl wd_kk_java_lang_Integer_265 ?_
  refine V_iand 8 dJ6_bitCount_0f7a4_7 rfl ?_
  refine V_isub 9 dJ6_bitCount_0f7a4_8 rfl ?_
  refine V_istore_n [(0, .int (a0 - ((ush a0 1) &&& 1431655765)))] 10 dJ6_bitCount_0f7a4_9 rfl (by decide) rfl rfl ?_
  refine V_iload_n 0 11 rfl dJ6_bitCount_0f7a4_10 rfl rfl ?_
  refine V_ldc_w 858993459 14 dJ6_bitCount_0f7a4_11 rfl wd_kk_java_lang_Integer_266 ?_
  refine V_iand 15 dJ6_bitCount_0f7a4_14 rfl ?_
  refine V_iload_n 0 16 rfl dJ6_bitCount_0f7a4_15 rfl rfl ?_
  refine V_iconst 2 17 dJ6_bitCount_0f7a4_16 rfl kiconst_2 ?_
  refine V_iushr 18 dJ6_bitCount_0f7a4_17 rfl ?_
  refine V_ldc_w 858993459 21 dJ6_bitCount_0f7a4_18 rfl wd_kk_java_lang_Integer_266 ?_
  refine V_iand 22 dJ6_bitCount_0f7a4_21 rfl ?_
  refine V_iadd 23 dJ6_bitCount_0f7a4_22 rfl ?_
  refine V_istore_n [(0, .int (((a0 - ((ush a0 1) &&& 1431655765)) &&& 858993459) + ((ush (a0 - ((ush a0 1) &&& 1431655765)) 2) &&& 858993459)))] 24 dJ6_bitCount_0f7a4_23 rfl (by decide) rfl rfl ?_
  refine V_iload_n 0 25 rfl dJ6_bitCount_0f7a4_24 rfl rfl ?_
  refine V_iload_n 0 26 rfl dJ6_bitCount_0f7a4_25 rfl rfl ?_
  refine V_iconst 4 27 dJ6_bitCount_0f7a4_26 rfl kiconst_4 ?_
  refine V_iushr 28 dJ6_bitCount_0f7a4_27 rfl ?_
  refine V_iadd 29 dJ6_bitCount_0f7a4_28 rfl ?_
  refine V_ldc_w 252645135 32 dJ6_bitCount_0f7a4_29 rfl wd_kk_java_lang_Integer_267 ?_
  refine V_iand 33 dJ6_bitCount_0f7a4_32 rfl ?_
  refine V_istore_n [(0, .int (((((a0 - ((ush a0 1) &&& 1431655765)) &&& 858993459) + ((ush (a0 - ((ush a0 1) &&& 1431655765)) 2) &&& 858993459)) + (ush (((a0 - ((ush a0 1) &&& 1431655765)) &&& 858993459) + ((ush (a0 - ((ush a0 1) &&& 1431655765)) 2) &&& 858993459)) 4)) &&& 252645135))] 34 dJ6_bitCount_0f7a4_33 rfl (by decide) rfl rfl ?_
  refine V_iload_n 0 35 rfl dJ6_bitCount_0f7a4_34 rfl rfl ?_
  refine V_iload_n 0 36 rfl dJ6_bitCount_0f7a4_35 rfl rfl ?_
  refine V_bipush 8 38 dJ6_bitCount_0f7a4_36 rfl kbipush_8 ?_
  refine V_iushr 39 dJ6_bitCount_0f7a4_38 rfl ?_
  refine V_iadd 40 dJ6_bitCount_0f7a4_39 rfl ?_
  refine V_istore_n [(0, .int ((((((a0 - ((ush a0 1) &&& 1431655765)) &&& 858993459) + ((ush (a0 - ((ush a0 1) &&& 1431655765)) 2) &&& 858993459)) + (ush (((a0 - ((ush a0 1) &&& 1431655765)) &&& 858993459) + ((ush (a0 - ((ush a0 1) &&& 1431655765)) 2) &&& 858993459)) 4)) &&& 252645135) + (ush (((((a0 - ((ush a0 1) &&& 1431655765)) &&& 858993459) + ((ush (a0 - ((ush a0 1) &&& 1431655765)) 2) &&& 858993459)) + (ush (((a0 - ((ush a0 1) &&& 1431655765)) &&& 858993459) + ((ush (a0 - ((ush a0 1) &&& 1431655765)) 2) &&& 858993459)) 4)) &&& 252645135) 8)))] 41 dJ6_bitCount_0f7a4_40 rfl (by decide) rfl rfl ?_
  refine V_iload_n 0 42 rfl dJ6_bitCount_0f7a4_41 rfl rfl ?_
  refine V_iload_n 0 43 rfl dJ6_bitCount_0f7a4_42 rfl rfl ?_
  refine V_bipush 16 45 dJ6_bitCount_0f7a4_43 rfl kbipush_16 ?_
  refine V_iushr 46 dJ6_bitCount_0f7a4_45 rfl ?_
  refine V_iadd 47 dJ6_bitCount_0f7a4_46 rfl ?_
  refine V_istore_n [(0, .int (((((((a0 - ((ush a0 1) &&& 1431655765)) &&& 858993459) + ((ush (a0 - ((ush a0 1) &&& 1431655765)) 2) &&& 858993459)) + (ush (((a0 - ((ush a0 1) &&& 1431655765)) &&& 858993459) + ((ush (a0 - ((ush a0 1) &&& 1431655765)) 2) &&& 858993459)) 4)) &&& 252645135) + (ush (((((a0 - ((ush a0 1) &&& 1431655765)) &&& 858993459) + ((ush (a0 - ((ush a0 1) &&& 1431655765)) 2) &&& 858993459)) + (ush (((a0 - ((ush a0 1) &&& 1431655765)) &&& 858993459) + ((ush (a0 - ((ush a0 1) &&& 1431655765)) 2) &&& 858993459)) 4)) &&& 252645135) 8)) + (ush ((((((a0 - ((ush a0 1) &&& 1431655765)) &&& 858993459) + ((ush (a0 - ((ush a0 1) &&& 1431655765)) 2) &&& 858993459)) + (ush (((a0 - ((ush a0 1) &&& 1431655765)) &&& 858993459) + ((ush (a0 - ((ush a0 1) &&& 1431655765)) 2) &&& 858993459)) 4)) &&& 252645135) + (ush (((((a0 - ((ush a0 1) &&& 1431655765)) &&& 858993459) + ((ush (a0 - ((ush a0 1) &&& 1431655765)) 2) &&& 858993459)) + (ush (((a0 - ((ush a0 1) &&& 1431655765)) &&& 858993459) + ((ush (a0 - ((ush a0 1) &&& 1431655765)) 2) &&& 858993459)) 4)) &&& 252645135) 8)) 16)))] 48 dJ6_bitCount_0f7a4_47 rfl (by decide) rfl rfl ?_
  refine V_iload_n 0 49 rfl dJ6_bitCount_0f7a4_48 rfl rfl ?_
  refine V_bipush 63 51 dJ6_bitCount_0f7a4_49 rfl kbipush_63 ?_
  refine V_iand 52 dJ6_bitCount_0f7a4_51 rfl ?_
  have er := Option.some.inj hf
  subst er
  exact V_iret hQ rfl dJ6_bitCount_0f7a4_52
