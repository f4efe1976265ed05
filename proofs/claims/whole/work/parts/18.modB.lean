abbrev mi_X8_text_ : MI := (yX8_text_, cX8_text_, 3, some .int)
theorem ok_X8_text_ : OkN mi_X8_text_ 1 := ⟨wd_cd_X8_text_, wd_in_X8, ⟨by decide +kernel, by decide +kernel, by decide +kernel⟩, by decide⟩
theorem okv_X8_text_ : Cond.instanceMethod (mi_X8_text_).1 ∈ tb ∧ Cond.selects (mi_X8_text_).1.cls (mi_X8_text_).1 (mi_X8_text_).1 ∈ tb := ⟨wd_im_X8_text_, wd_se_X8_text_⟩
def f_X8_text__L123 (t : Nat) : Nat → Int32 → St → Option (Int32 × St)
  | 0, _, _ => none
  | n + 1, x2, σ => (gI σ 7 t 10).bind fun v39 => if v39 ≤ x2 then (some (x2, σ)) else ((gQ σ 7 t 0).bind fun q42 => (gI σ 7 t 6).bind fun v44 => (gQ σ 7 t 11).bind fun q46 => (aI σ 0 q46 x2).bind fun v48 => (sI σ q42 ((((1054 : Int32) + ((60 : Int32) * v44)) + 1) + x2) v48).bind fun s50 => f_X8_text__L123 t n (x2 + 1) s50)
def f_X8_text_ (σ : St) (t : Nat) (a0 : Int32) : Option (Int32 × St) := if isO σ 7 t = true then ((f_X8_within σ a0 0 2).bind fun v2 => if v2 = 0 then ((f_X8_finding σ t (-1000001)).bind fun p89 => some (p89.1, p89.2)) else ((pI σ 7 t 6 a0).bind fun s5 => (pI s5 7 t 5 0).bind fun s7 => (pI s7 7 t 7 0).bind fun s9 => (pI s9 7 t 8 0).bind fun s11 => (pZ s11 7 t 9 0).bind fun s13 => (pI s13 7 t 10 0).bind fun s15 => (g_X8_text s15 t).bind fun s17 => (gI s17 7 t 9).bind fun v19 => if v19 = 0 then ((gI s17 7 t 5).bind fun v58 => (gQ s17 7 t 0).bind fun q60 => (aI s17 0 q60 5).bind fun v62 => (pZ s17 7 t 9 (if v62 ≤ v58 then 0 else 1 : Int32)).bind fun s64 => (gQ s64 7 t 0).bind fun q66 => (sI s64 q66 5 0).bind fun s68 => (gI s68 7 t 9).bind fun v70 => if v70 = 0 then ((gQ s68 7 t 0).bind fun q73 => (gI s68 7 t 6).bind fun v75 => (gI s68 7 t 10).bind fun v77 => (sI s68 q73 ((1054 : Int32) + ((60 : Int32) * v75)) v77).bind fun s79 => (f_X8_text__L123 t 3000 0 s79).bind fun p80 => (gI p80.2 7 t 8).bind fun v83 => some (v83, p80.2)) else ((gI s68 7 t 5).bind fun v85 => some ((-10 : Int32) - v85, s68))) else ((pZ s17 7 t 9 1).bind fun s22 => (gQ s22 7 t 0).bind fun q24 => (sI s22 q24 5 0).bind fun s26 => (gI s26 7 t 9).bind fun v28 => if v28 = 0 then ((gQ s26 7 t 0).bind fun q31 => (gI s26 7 t 6).bind fun v33 => (gI s26 7 t 10).bind fun v35 => (sI s26 q31 ((1054 : Int32) + ((60 : Int32) * v33)) v35).bind fun s37 => (f_X8_text__L123 t 3000 0 s37).bind fun p51 => (gI p51.2 7 t 8).bind fun v54 => some (v54, p51.2)) else ((gI s26 7 t 5).bind fun v56 => some ((-10 : Int32) - v56, s26))))) else none
theorem gd_X8_text_ {σ : St} {t : Nat} {a0 : Int32} {r : Int32 × St} (h : f_X8_text_ σ t a0 = some r) : isO σ 7 t = true := by
  unfold f_X8_text_ at h
  by_cases hg : isO σ 7 t = true
  · exact hg
  · rw [if_neg hg] at h
    cases h
set_option maxRecDepth 100000 in
set_option maxHeartbeats 4000000 in
theorem c_X8_text_ (l : Launch) (G : Gd) (d : Nat) (σ : St) (t : Nat) (a0 : Int32) (r0 : Int32) (σ' : St) (hf : f_X8_text_ σ t a0 = some (r0, σ')) : MetV l G (d + 361) mi_X8_text_ [.ref t, .int a0] σ (some (.int r0)) σ' 0 0 := by
  unfold f_X8_text_ at hf
  refine MetV.of [(0, .ref t), (1, .int a0)] (by decide +kernel) rfl (Nat.le_of_ble_eq_true rfl) ?_
  intro X hQ
  have L123 : ∀  (n : Nat) (x2 : Int32) (σ : St) (p : Int32 × St), f_X8_text__L123 t n x2 σ = some p → V mi_X8_text_ l G (d + 361) 0 0 X 0 0 163 [(2, .int p.1), (0, .ref t)] [] p.2 → V mi_X8_text_ l G (d + 361) 0 0 X 0 0 123 [(2, .int x2), (0, .ref t)] [] σ := by
    intro  n
    induction n with
    | zero =>
      intro x2 σ p hf
      exact absurd (show (none : Option _) = some p from hf) (by simp)
    | succ n ih =>
      intro x2 σ p hf hk
      rw [f_X8_text__L123] at hf
      refine V_iload_n 0 124 rfl dX8_text__123 rfl rfl ?_
      refine V_aload_n 1 125 rfl dX8_text__124 rfl rfl ?_
      obtain ⟨v39, h38, hf⟩ := ob hf
      refine V_getI (n := 27) (ty := tyX8) 128 h38 cf_7 rfl wd_fl_X8_164 dX8_text__125 rfl ?_
      refine V_icmp_ge 163 131 dX8_text__128 (by decide) rfl (fun c40 => ?_) (fun c40 => ?_)
      · rw [if_pos c40] at hf
        have ep := Option.some.inj hf
        subst ep
        refine V_ls [(2, .int x2), (0, .ref t)] [0, 1] rfl ?_
        exact hk
      · rw [if_neg c40] at hf
        refine V_aload_n 1 132 rfl dX8_text__131 rfl rfl ?_
        obtain ⟨q42, h41, hf⟩ := ob hf
        refine V_getQ (n := 27) (ty := tyX8) 135 h41 cf_7 rfl wd_fl_X8_9 dX8_text__132 rfl ?_
        refine V_sipush 1054 138 dX8_text__135 rfl ksipush_1054 ?_
        refine V_bipush 60 140 dX8_text__138 rfl kbipush_60 ?_
        refine V_aload_n 1 141 rfl dX8_text__140 rfl rfl ?_
        obtain ⟨v44, h43, hf⟩ := ob hf
        refine V_getI (n := 27) (ty := tyX8) 144 h43 cf_7 rfl wd_fl_X8_195 dX8_text__141 rfl ?_
        refine V_imul 145 dX8_text__144 rfl ?_
        refine V_iadd 146 dX8_text__145 rfl ?_
        refine V_iconst 1 147 dX8_text__146 rfl kiconst_1 ?_
        refine V_iadd 148 dX8_text__147 rfl ?_
        refine V_iload_n 0 149 rfl dX8_text__148 rfl rfl ?_
        refine V_iadd 150 dX8_text__149 rfl ?_
        refine V_aload_n 1 151 rfl dX8_text__150 rfl rfl ?_
        obtain ⟨q46, h45, hf⟩ := ob hf
        refine V_getQ (n := 27) (ty := tyX8) 154 h45 cf_7 rfl wd_fl_X8_31 dX8_text__151 rfl ?_
        refine V_iload_n 0 155 rfl dX8_text__154 rfl rfl ?_
        obtain ⟨v48, h47, hf⟩ := ob hf
        refine V_iald 156 h47 dX8_text__155 rfl ?_
        obtain ⟨s50, h49, hf⟩ := ob hf
        refine V_iast 157 h49 dX8_text__156 rfl ?_
        refine V_iinc (x2 + 1) 0 [(2, .int (x2 + 1)), (0, .ref t)] 160 dX8_text__157 rfl (by rw [kiconst_1]) (by decide) rfl rfl ?_
        refine V_goto 123 dX8_text__160 (by decide) ?_
        refine V_ls [(2, .int (x2 + 1)), (0, .ref t)] [0, 1] rfl ?_
        exact ih _ _ _ hf hk
  by_cases hg : isO σ 7 t = true
  · rw [if_pos hg] at hf
    refine V_iload_n 1 1 rfl dX8_text__0 rfl rfl ?_
    refine V_iconst 0 2 dX8_text__1 rfl kiconst_0 ?_
    refine V_iconst 2 3 dX8_text__2 rfl kiconst_2 ?_
    obtain ⟨v2, h1, hf⟩ := ob hf
    refine V_callS (rest := []) 0 0 6 [.int v2] (c_X8_within l G (d + 359) _ _ _ _ _ h1) (by omega) ok_X8_within oks_X8_within wd_ml_X8_68 rfl rfl (Nat.le_of_ble_eq_true rfl) rfl rfl (Or.inl ⟨rfl, rfl⟩) dX8_text__3 rfl rfl ?_
    refine V_if_ne 16 9 dX8_text__6 (by decide) rfl (fun c3 => ?_) (fun c3 => ?_)
    · rw [if_neg c3] at hf
      refine V_aload_n 0 17 rfl dX8_text__16 rfl rfl ?_
      refine V_iload_n 1 18 rfl dX8_text__17 rfl rfl ?_
      obtain ⟨s5, h4, hf⟩ := ob hf
      refine V_putI (n := 27) (T := TX8) (ty := tyX8) (f := 6) 21 h4 cf_7 rfl rfl (Or.inl rfl) wd_fl_X8_195 dX8_text__18 rfl ?_
      refine V_aload_n 0 22 rfl dX8_text__21 rfl rfl ?_
      refine V_iconst 0 23 dX8_text__22 rfl kiconst_0 ?_
      obtain ⟨s7, h6, hf⟩ := ob hf
      refine V_putI (n := 27) (T := TX8) (ty := tyX8) (f := 5) 26 h6 cf_7 rfl rfl (Or.inl rfl) wd_fl_X8_156 dX8_text__23 rfl ?_
      refine V_aload_n 0 27 rfl dX8_text__26 rfl rfl ?_
      refine V_iconst 0 28 dX8_text__27 rfl kiconst_0 ?_
      obtain ⟨s9, h8, hf⟩ := ob hf
      refine V_putI (n := 27) (T := TX8) (ty := tyX8) (f := 7) 31 h8 cf_7 rfl rfl (Or.inl rfl) wd_fl_X8_205 dX8_text__28 rfl ?_
      refine V_aload_n 0 32 rfl dX8_text__31 rfl rfl ?_
      refine V_iconst 0 33 dX8_text__32 rfl kiconst_0 ?_
      obtain ⟨s11, h10, hf⟩ := ob hf
      refine V_putI (n := 27) (T := TX8) (ty := tyX8) (f := 8) 36 h10 cf_7 rfl rfl (Or.inl rfl) wd_fl_X8_167 dX8_text__33 rfl ?_
      refine V_aload_n 0 37 rfl dX8_text__36 rfl rfl ?_
      refine V_iconst 0 38 dX8_text__37 rfl kiconst_0 ?_
      obtain ⟨s13, h12, hf⟩ := ob hf
      refine V_putZ (n := 27) (T := TX8) (ty := tyX8) (f := 9) 41 h12 cf_7 rfl rfl (Or.inl rfl) wd_fl_X8_152 dX8_text__38 rfl ?_
      refine V_aload_n 0 42 rfl dX8_text__41 rfl rfl ?_
      refine V_iconst 0 43 dX8_text__42 rfl kiconst_0 ?_
      obtain ⟨s15, h14, hf⟩ := ob hf
      refine V_putI (n := 27) (T := TX8) (ty := tyX8) (f := 10) 46 h14 cf_7 rfl rfl (Or.inl rfl) wd_fl_X8_164 dX8_text__43 rfl ?_
      refine V_aload_n 0 47 rfl dX8_text__46 rfl rfl ?_
      obtain ⟨s17, h16, hf⟩ := ob hf
      refine V_callV (rest := []) (T := TX8) (n := 27) (ci := 7) 0 0 50 [] (c_X8_text l G (d + 0) _ _ _ h16) (by omega) ok_X8_text okv_X8_text (gd_X8_text h16) rfl wd_ml_X8_208 rfl rfl (Nat.le_of_ble_eq_true rfl) rfl rfl (Or.inl ⟨rfl, rfl⟩) dX8_text__47 rfl rfl ?_
      refine V_aload_n 0 51 rfl dX8_text__50 rfl rfl ?_
      refine V_aload_n 0 52 rfl dX8_text__51 rfl rfl ?_
      obtain ⟨v19, h18, hf⟩ := ob hf
      refine V_getI (n := 27) (ty := tyX8) 55 h18 cf_7 rfl wd_fl_X8_152 dX8_text__52 rfl ?_
      refine V_if_ne 71 58 dX8_text__55 (by decide) rfl (fun c20 => ?_) (fun c20 => ?_)
      · rw [if_neg c20] at hf
        refine V_iconst 1 72 dX8_text__71 rfl kiconst_1 ?_
        refine V_goto 76 dX8_text__72 (by decide) ?_
        obtain ⟨s22, h21, hf⟩ := ob hf
        refine V_putZ (n := 27) (T := TX8) (ty := tyX8) (f := 9) 79 h21 cf_7 rfl rfl (Or.inl rfl) wd_fl_X8_152 dX8_text__76 rfl ?_
        refine V_aload_n 0 80 rfl dX8_text__79 rfl rfl ?_
        obtain ⟨q24, h23, hf⟩ := ob hf
        refine V_getQ (n := 27) (ty := tyX8) 83 h23 cf_7 rfl wd_fl_X8_9 dX8_text__80 rfl ?_
        refine V_iconst 5 84 dX8_text__83 rfl kiconst_5 ?_
        refine V_iconst 0 85 dX8_text__84 rfl kiconst_0 ?_
        obtain ⟨s26, h25, hf⟩ := ob hf
        refine V_iast 86 h25 dX8_text__85 rfl ?_
        refine V_aload_n 0 87 rfl dX8_text__86 rfl rfl ?_
        obtain ⟨v28, h27, hf⟩ := ob hf
        refine V_getI (n := 27) (ty := tyX8) 90 h27 cf_7 rfl wd_fl_X8_152 dX8_text__87 rfl ?_
        refine V_if_eq 101 93 dX8_text__90 (by decide) rfl (fun c29 => ?_) (fun c29 => ?_)
        · rw [if_pos c29] at hf
          refine V_aload_n 0 102 rfl dX8_text__101 rfl rfl ?_
          obtain ⟨q31, h30, hf⟩ := ob hf
          refine V_getQ (n := 27) (ty := tyX8) 105 h30 cf_7 rfl wd_fl_X8_9 dX8_text__102 rfl ?_
          refine V_sipush 1054 108 dX8_text__105 rfl ksipush_1054 ?_
          refine V_bipush 60 110 dX8_text__108 rfl kbipush_60 ?_
          refine V_aload_n 0 111 rfl dX8_text__110 rfl rfl ?_
          obtain ⟨v33, h32, hf⟩ := ob hf
          refine V_getI (n := 27) (ty := tyX8) 114 h32 cf_7 rfl wd_fl_X8_195 dX8_text__111 rfl ?_
          refine V_imul 115 dX8_text__114 rfl ?_
          refine V_iadd 116 dX8_text__115 rfl ?_
          refine V_aload_n 0 117 rfl dX8_text__116 rfl rfl ?_
          obtain ⟨v35, h34, hf⟩ := ob hf
          refine V_getI (n := 27) (ty := tyX8) 120 h34 cf_7 rfl wd_fl_X8_164 dX8_text__117 rfl ?_
          obtain ⟨s37, h36, hf⟩ := ob hf
          refine V_iast 121 h36 dX8_text__120 rfl ?_
          refine V_iconst 0 122 dX8_text__121 rfl kiconst_0 ?_
          refine V_istore_n [(2, .int 0), (0, .ref t), (1, .int a0)] 123 dX8_text__122 rfl (by decide) rfl rfl ?_
          obtain ⟨p51, h52, hf⟩ := ob hf
          refine V_ls [(2, .int 0), (0, .ref t)] [0, 1] rfl ?_
          refine L123 3000 0 s37 p51 h52 ?_
          refine V_aload_n 1 164 rfl dX8_text__163 rfl rfl ?_
          obtain ⟨v54, h53, hf⟩ := ob hf
          refine V_getI (n := 27) (ty := tyX8) 167 h53 cf_7 rfl wd_fl_X8_167 dX8_text__164 rfl ?_
          have er := Option.some.inj hf
          obtain ⟨e1, e2⟩ := Prod.mk.inj er
          subst e1
          subst e2
          exact V_iret hQ rfl dX8_text__167
        · rw [if_neg c29] at hf
          refine V_bipush (-10) 95 dX8_text__93 rfl kbipush_m10 ?_
          refine V_aload_n 0 96 rfl dX8_text__95 rfl rfl ?_
          obtain ⟨v56, h55, hf⟩ := ob hf
          refine V_getI (n := 27) (ty := tyX8) 99 h55 cf_7 rfl wd_fl_X8_156 dX8_text__96 rfl ?_
          refine V_isub 100 dX8_text__99 rfl ?_
          have er := Option.some.inj hf
          obtain ⟨e1, e2⟩ := Prod.mk.inj er
          subst e1
          subst e2
          exact V_iret hQ rfl dX8_text__100
      · rw [if_pos c20] at hf
        refine V_aload_n 0 59 rfl dX8_text__58 rfl rfl ?_
        obtain ⟨v58, h57, hf⟩ := ob hf
        refine V_getI (n := 27) (ty := tyX8) 62 h57 cf_7 rfl wd_fl_X8_156 dX8_text__59 rfl ?_
        refine V_aload_n 0 63 rfl dX8_text__62 rfl rfl ?_
        obtain ⟨q60, h59, hf⟩ := ob hf
        refine V_getQ (n := 27) (ty := tyX8) 66 h59 cf_7 rfl wd_fl_X8_9 dX8_text__63 rfl ?_
        refine V_iconst 5 67 dX8_text__66 rfl kiconst_5 ?_
        obtain ⟨v62, h61, hf⟩ := ob hf
        refine V_iald 68 h61 dX8_text__67 rfl ?_
        have kj86 : V mi_X8_text_ l G (d + 361) 0 0 X 0 0 76 [(0, .ref t), (1, .int a0)] [.int (if v62 ≤ v58 then 0 else 1 : Int32), .ref t] s17 := by
          obtain ⟨s64, h63, hf⟩ := ob hf
          refine V_putZ (n := 27) (T := TX8) (ty := tyX8) (f := 9) 79 h63 cf_7 rfl rfl (Or.inl rfl) wd_fl_X8_152 dX8_text__76 rfl ?_
          refine V_aload_n 0 80 rfl dX8_text__79 rfl rfl ?_
          obtain ⟨q66, h65, hf⟩ := ob hf
          refine V_getQ (n := 27) (ty := tyX8) 83 h65 cf_7 rfl wd_fl_X8_9 dX8_text__80 rfl ?_
          refine V_iconst 5 84 dX8_text__83 rfl kiconst_5 ?_
          refine V_iconst 0 85 dX8_text__84 rfl kiconst_0 ?_
          obtain ⟨s68, h67, hf⟩ := ob hf
          refine V_iast 86 h67 dX8_text__85 rfl ?_
          refine V_aload_n 0 87 rfl dX8_text__86 rfl rfl ?_
          obtain ⟨v70, h69, hf⟩ := ob hf
          refine V_getI (n := 27) (ty := tyX8) 90 h69 cf_7 rfl wd_fl_X8_152 dX8_text__87 rfl ?_
          refine V_if_eq 101 93 dX8_text__90 (by decide) rfl (fun c71 => ?_) (fun c71 => ?_)
          · rw [if_pos c71] at hf
            refine V_aload_n 0 102 rfl dX8_text__101 rfl rfl ?_
            obtain ⟨q73, h72, hf⟩ := ob hf
            refine V_getQ (n := 27) (ty := tyX8) 105 h72 cf_7 rfl wd_fl_X8_9 dX8_text__102 rfl ?_
            refine V_sipush 1054 108 dX8_text__105 rfl ksipush_1054 ?_
            refine V_bipush 60 110 dX8_text__108 rfl kbipush_60 ?_
            refine V_aload_n 0 111 rfl dX8_text__110 rfl rfl ?_
            obtain ⟨v75, h74, hf⟩ := ob hf
            refine V_getI (n := 27) (ty := tyX8) 114 h74 cf_7 rfl wd_fl_X8_195 dX8_text__111 rfl ?_
            refine V_imul 115 dX8_text__114 rfl ?_
            refine V_iadd 116 dX8_text__115 rfl ?_
            refine V_aload_n 0 117 rfl dX8_text__116 rfl rfl ?_
            obtain ⟨v77, h76, hf⟩ := ob hf
            refine V_getI (n := 27) (ty := tyX8) 120 h76 cf_7 rfl wd_fl_X8_164 dX8_text__117 rfl ?_
            obtain ⟨s79, h78, hf⟩ := ob hf
            refine V_iast 121 h78 dX8_text__120 rfl ?_
            refine V_iconst 0 122 dX8_text__121 rfl kiconst_0 ?_
            refine V_istore_n [(2, .int 0), (0, .ref t), (1, .int a0)] 123 dX8_text__122 rfl (by decide) rfl rfl ?_
            obtain ⟨p80, h81, hf⟩ := ob hf
            refine V_ls [(2, .int 0), (0, .ref t)] [0, 1] rfl ?_
            refine L123 3000 0 s79 p80 h81 ?_
            refine V_aload_n 1 164 rfl dX8_text__163 rfl rfl ?_
            obtain ⟨v83, h82, hf⟩ := ob hf
            refine V_getI (n := 27) (ty := tyX8) 167 h82 cf_7 rfl wd_fl_X8_167 dX8_text__164 rfl ?_
            have er := Option.some.inj hf
            obtain ⟨e1, e2⟩ := Prod.mk.inj er
            subst e1
            subst e2
            exact V_iret hQ rfl dX8_text__167
          · rw [if_neg c71] at hf
            refine V_bipush (-10) 95 dX8_text__93 rfl kbipush_m10 ?_
            refine V_aload_n 0 96 rfl dX8_text__95 rfl rfl ?_
            obtain ⟨v85, h84, hf⟩ := ob hf
            refine V_getI (n := 27) (ty := tyX8) 99 h84 cf_7 rfl wd_fl_X8_156 dX8_text__96 rfl ?_
            refine V_isub 100 dX8_text__99 rfl ?_
            have er := Option.some.inj hf
            obtain ⟨e1, e2⟩ := Prod.mk.inj er
            subst e1
            subst e2
            exact V_iret hQ rfl dX8_text__100
        refine V_icmp_ge 75 71 dX8_text__68 (by decide) rfl (fun c87 => ?_) (fun c87 => ?_)
        · refine V_iconst 0 76 dX8_text__75 rfl kiconst_0 ?_
          refine V_ls [(0, .ref t), (1, .int a0)] [0, 1] rfl ?_
          simp only [if_pos c87] at kj86
          exact kj86
        · refine V_iconst 1 72 dX8_text__71 rfl kiconst_1 ?_
          refine V_goto 76 dX8_text__72 (by decide) ?_
          refine V_ls [(0, .ref t), (1, .int a0)] [0, 1] rfl ?_
          simp only [if_neg c87] at kj86
          exact kj86
    · rw [if_pos c3] at hf
      refine V_aload_n 0 10 rfl dX8_text__9 rfl rfl ?_
      refine V_ldc (-1000001) 12 dX8_text__10 rfl wd_kk_X8_76 ?_
      obtain ⟨p89, h88, hf⟩ := ob hf
      refine V_callV (rest := []) (T := TX8) (n := 27) (ci := 7) 0 0 15 [.int p89.1] (c_X8_finding l G (d + 359) _ _ _ _ _ h88) (by omega) ok_X8_finding okv_X8_finding (gd_X8_finding h88) rfl wd_ml_X8_77 rfl rfl (Nat.le_of_ble_eq_true rfl) rfl rfl (Or.inl ⟨rfl, rfl⟩) dX8_text__12 rfl rfl ?_
      have er := Option.some.inj hf
      obtain ⟨e1, e2⟩ := Prod.mk.inj er
      subst e1
      subst e2
      exact V_iret hQ rfl dX8_text__15
  · rw [if_neg hg] at hf
    cases hf
abbrev mi_X8_law : MI := (yX8_law, cX8_law, 5, some .int)
theorem ok_X8_law : OkN mi_X8_law 4 := ⟨wd_cd_X8_law, wd_in_X8, ⟨by decide +kernel, by decide +kernel, by decide +kernel⟩, by decide⟩
theorem okv_X8_law : Cond.instanceMethod (mi_X8_law).1 ∈ tb ∧ Cond.selects (mi_X8_law).1.cls (mi_X8_law).1 (mi_X8_law).1 ∈ tb := ⟨wd_im_X8_law, wd_se_X8_law⟩
def f_X8_law (σ : St) (t : Nat) (a0 : Int32) (a1 : Int32) (a2 : Int32) (a3 : Int32) : Option (Int32 × St) := if isO σ 7 t = true then ((f_X8_within σ a0 0 2).bind fun v2 => if v2 = 0 then ((f_X8_finding σ t (-1000001)).bind fun p5 => some (p5.1, p5.2)) else ((f_X8_given σ t a0 a1 a2 a3).bind fun p7 => some (p7.1, p7.2))) else none
theorem gd_X8_law {σ : St} {t : Nat} {a0 : Int32} {a1 : Int32} {a2 : Int32} {a3 : Int32} {r : Int32 × St} (h : f_X8_law σ t a0 a1 a2 a3 = some r) : isO σ 7 t = true := by
  unfold f_X8_law at h
  by_cases hg : isO σ 7 t = true
  · exact hg
  · rw [if_neg hg] at h
    cases h
set_option maxRecDepth 100000 in
set_option maxHeartbeats 4000000 in
theorem c_X8_law (l : Launch) (G : Gd) (d : Nat) (σ : St) (t : Nat) (a0 : Int32) (a1 : Int32) (a2 : Int32) (a3 : Int32) (r0 : Int32) (σ' : St) (hf : f_X8_law σ t a0 a1 a2 a3 = some (r0, σ')) : MetV l G (d + 3) mi_X8_law [.ref t, .int a0, .int a1, .int a2, .int a3] σ (some (.int r0)) σ' 0 0 := by
  unfold f_X8_law at hf
  refine MetV.of [(0, .ref t), (1, .int a0), (2, .int a1), (3, .int a2), (4, .int a3)] (by decide +kernel) rfl (Nat.le_of_ble_eq_true rfl) ?_
  intro X hQ
  by_cases hg : isO σ 7 t = true
  · rw [if_pos hg] at hf
    refine V_iload_n 1 1 rfl dX8_law_0 rfl rfl ?_
    refine V_iconst 0 2 dX8_law_1 rfl kiconst_0 ?_
    refine V_iconst 2 3 dX8_law_2 rfl kiconst_2 ?_
    obtain ⟨v2, h1, hf⟩ := ob hf
    refine V_callS (rest := []) 0 0 6 [.int v2] (c_X8_within l G (d + 1) _ _ _ _ _ h1) (by omega) ok_X8_within oks_X8_within wd_ml_X8_68 rfl rfl (Nat.le_of_ble_eq_true rfl) rfl rfl (Or.inl ⟨rfl, rfl⟩) dX8_law_3 rfl rfl ?_
    refine V_if_eq 21 9 dX8_law_6 (by decide) rfl (fun c3 => ?_) (fun c3 => ?_)
    · rw [if_pos c3] at hf
      refine V_aload_n 0 22 rfl dX8_law_21 rfl rfl ?_
      refine V_ldc (-1000001) 24 dX8_law_22 rfl wd_kk_X8_76 ?_
      obtain ⟨p5, h4, hf⟩ := ob hf
      refine V_callV (rest := []) (T := TX8) (n := 27) (ci := 7) 0 0 27 [.int p5.1] (c_X8_finding l G (d + 1) _ _ _ _ _ h4) (by omega) ok_X8_finding okv_X8_finding (gd_X8_finding h4) rfl wd_ml_X8_77 rfl rfl (Nat.le_of_ble_eq_true rfl) rfl rfl (Or.inl ⟨rfl, rfl⟩) dX8_law_24 rfl rfl ?_
      have er := Option.some.inj hf
      obtain ⟨e1, e2⟩ := Prod.mk.inj er
      subst e1
      subst e2
      exact V_iret hQ rfl dX8_law_27
    · rw [if_neg c3] at hf
      refine V_aload_n 0 10 rfl dX8_law_9 rfl rfl ?_
      refine V_iload_n 1 11 rfl dX8_law_10 rfl rfl ?_
      refine V_iload_n 2 12 rfl dX8_law_11 rfl rfl ?_
      refine V_iload_n 3 13 rfl dX8_law_12 rfl rfl ?_
      refine V_iload 4 15 rfl dX8_law_13 rfl ?_
      obtain ⟨p7, h6, hf⟩ := ob hf
      refine V_callV (rest := []) (T := TX8) (n := 27) (ci := 7) 0 0 18 [.int p7.1] (c_X8_given l G (d + 0) _ _ _ _ _ _ _ _ h6) (by omega) ok_X8_given okv_X8_given (gd_X8_given h6) rfl wd_ml_X8_218 rfl rfl (Nat.le_of_ble_eq_true rfl) rfl rfl (Or.inl ⟨rfl, rfl⟩) dX8_law_15 rfl rfl ?_
      refine V_goto 27 dX8_law_18 (by decide) ?_
      have er := Option.some.inj hf
      obtain ⟨e1, e2⟩ := Prod.mk.inj er
      subst e1
      subst e2
      exact V_iret hQ rfl dX8_law_27
  · rw [if_neg hg] at hf
    cases hf
abbrev mi_X8_areTwo : MI := (yX8_areTwo, cX8_areTwo, 3, some .boolean)
theorem ok_X8_areTwo : OkN mi_X8_areTwo 2 := ⟨wd_cd_X8_areTwo, wd_in_X8, ⟨by decide +kernel, by decide +kernel, by decide +kernel⟩, by decide⟩
theorem okv_X8_areTwo : Cond.instanceMethod (mi_X8_areTwo).1 ∈ tb ∧ Cond.selects (mi_X8_areTwo).1.cls (mi_X8_areTwo).1 (mi_X8_areTwo).1 ∈ tb := ⟨wd_im_X8_areTwo, wd_se_X8_areTwo⟩
def f_X8_areTwo (σ : St) (t : Nat) (a0 : Int32) (a1 : Int32) : Option Int32 := if isO σ 7 t = true then ((f_X8_is σ t a0 1).bind fun v2 => if v2 = 0 then (some 0) else ((f_X8_is σ t a1 1).bind fun v5 => (zr (if v5 = 0 then 0 else (if a0 = a1 then 0 else 1) : Int32)).bind fun z6 => some (if v5 = 0 then 0 else (if a0 = a1 then 0 else 1) : Int32))) else none
theorem gd_X8_areTwo {σ : St} {t : Nat} {a0 : Int32} {a1 : Int32} {r : Int32} (h : f_X8_areTwo σ t a0 a1 = some r) : isO σ 7 t = true := by
  unfold f_X8_areTwo at h
  by_cases hg : isO σ 7 t = true
  · exact hg
  · rw [if_neg hg] at h
    cases h
set_option maxRecDepth 100000 in
set_option maxHeartbeats 4000000 in
theorem c_X8_areTwo (l : Launch) (G : Gd) (d : Nat) (σ : St) (t : Nat) (a0 : Int32) (a1 : Int32) (r0 : Int32) (hf : f_X8_areTwo σ t a0 a1 = some r0) : MetV l G (d + 3) mi_X8_areTwo [.ref t, .int a0, .int a1] σ (some (.int r0)) σ 0 0 := by
  unfold f_X8_areTwo at hf
  refine MetV.of [(0, .ref t), (1, .int a0), (2, .int a1)] (by decide +kernel) rfl (Nat.le_of_ble_eq_true rfl) ?_
  intro X hQ
  by_cases hg : isO σ 7 t = true
  · rw [if_pos hg] at hf
    refine V_aload_n 0 1 rfl dX8_areTwo_0 rfl rfl ?_
    refine V_iload_n 1 2 rfl dX8_areTwo_1 rfl rfl ?_
    refine V_iconst 1 3 dX8_areTwo_2 rfl kiconst_1 ?_
    obtain ⟨v2, h1, hf⟩ := ob hf
    refine V_callV (rest := []) (T := TX8) (n := 27) (ci := 7) 0 0 6 [.int v2] (c_X8_is l G (d + 0) _ _ _ _ _ h1) (by omega) ok_X8_is okv_X8_is (gd_X8_is h1) rfl wd_ml_X8_83 rfl rfl (Nat.le_of_ble_eq_true rfl) rfl rfl (Or.inl ⟨rfl, rfl⟩) dX8_areTwo_3 rfl rfl ?_
    refine V_if_eq 27 9 dX8_areTwo_6 (by decide) rfl (fun c3 => ?_) (fun c3 => ?_)
    · rw [if_pos c3] at hf
      refine V_iconst 0 28 dX8_areTwo_27 rfl kiconst_0 ?_
      have er := Option.some.inj hf
      subst er
      exact V_zret (by decide) hQ rfl dX8_areTwo_28
    · rw [if_neg c3] at hf
      refine V_aload_n 0 10 rfl dX8_areTwo_9 rfl rfl ?_
      refine V_iload_n 2 11 rfl dX8_areTwo_10 rfl rfl ?_
      refine V_iconst 1 12 dX8_areTwo_11 rfl kiconst_1 ?_
      obtain ⟨v5, h4, hf⟩ := ob hf
      refine V_callV (rest := []) (T := TX8) (n := 27) (ci := 7) 0 0 15 [.int v5] (c_X8_is l G (d + 0) _ _ _ _ _ h4) (by omega) ok_X8_is okv_X8_is (gd_X8_is h4) rfl wd_ml_X8_83 rfl rfl (Nat.le_of_ble_eq_true rfl) rfl rfl (Or.inl ⟨rfl, rfl⟩) dX8_areTwo_12 rfl rfl ?_
      have kj8 : V mi_X8_areTwo l G (d + 3) 0 0 X 0 0 28 [(0, .ref t), (1, .int a0), (2, .int a1)] [.int (if v5 = 0 then 0 else (if a0 = a1 then 0 else 1) : Int32)] σ := by
        obtain ⟨z6, h7, hf⟩ := ob hf
        have er := Option.some.inj hf
        subst er
        exact V_zret (zr_ok h7) hQ rfl dX8_areTwo_28
      refine V_if_eq 27 18 dX8_areTwo_15 (by decide) rfl (fun c9 => ?_) (fun c9 => ?_)
      · refine V_iconst 0 28 dX8_areTwo_27 rfl kiconst_0 ?_
        refine V_ls [(0, .ref t), (1, .int a0), (2, .int a1)] [0, 1, 2] rfl ?_
        simp only [if_pos c9] at kj8
        exact kj8
      · refine V_iload_n 1 19 rfl dX8_areTwo_18 rfl rfl ?_
        refine V_iload_n 2 20 rfl dX8_areTwo_19 rfl rfl ?_
        refine V_icmp_eq 27 23 dX8_areTwo_20 (by decide) rfl (fun c10 => ?_) (fun c10 => ?_)
        · refine V_iconst 0 28 dX8_areTwo_27 rfl kiconst_0 ?_
          refine V_ls [(0, .ref t), (1, .int a0), (2, .int a1)] [0, 1, 2] rfl ?_
          simp only [if_neg c9, if_pos c10] at kj8
          exact kj8
        · refine V_iconst 1 24 dX8_areTwo_23 rfl kiconst_1 ?_
          refine V_goto 28 dX8_areTwo_24 (by decide) ?_
          refine V_ls [(0, .ref t), (1, .int a0), (2, .int a1)] [0, 1, 2] rfl ?_
          simp only [if_neg c9, if_neg c10] at kj8
          exact kj8
  · rw [if_neg hg] at hf
    cases hf
abbrev mi_X8_same : MI := (yX8_same, cX8_same, 10, some .int)
theorem ok_X8_same : OkN mi_X8_same 3 := ⟨wd_cd_X8_same, wd_in_X8, ⟨by decide +kernel, by decide +kernel, by decide +kernel⟩, by decide⟩
theorem okv_X8_same : Cond.instanceMethod (mi_X8_same).1 ∈ tb ∧ Cond.selects (mi_X8_same).1.cls (mi_X8_same).1 (mi_X8_same).1 ∈ tb := ⟨wd_im_X8_same, wd_se_X8_same⟩
def f_X8_same_L67 (σ : St) (x8 : Int32) (x7 : Int32) (t : Nat) (x1 : Int32) (x2 : Int32) : Nat → Int32 → Option (Int32)
  | 0, _ => none
  | n + 1, x9 => (f_X8_many σ t x1).bind fun v16 => if (v16 - 1) ≤ (x7 + x9) then (some x9) else ((f_X8_many σ t x2).bind fun v19 => if (v19 - 1) ≤ (x8 + x9) then (some x9) else ((f_X8_hairOf σ t x1 (x7 + x9)).bind fun v22 => (f_X8_hairOf σ t x2 (x8 + x9)).bind fun v24 => if v22 = v24 then (f_X8_same_L67 σ x8 x7 t x1 x2 n (x9 + 1)) else (some x9)))
def f_X8_same_L52 (σ : St) (x7 : Int32) (t : Nat) (x1 : Int32) (x2 : Int32) : Nat → Int32 → Int32 → Int32 → Int32 → Option (Int32 × Int32 × Int32 × Int32)
  | 0, _, _, _, _ => none
  | n + 1, x8, x6, x5, x4 => (f_X8_many σ t x2).bind fun v13 => if (v13 - 1) ≤ x8 then (some (x8, x6, x5, x4)) else ((f_X8_same_L67 σ x8 x7 t x1 x2 3000 0).bind fun p26 => f_X8_same_L52 σ x7 t x1 x2 n (x8 + 1) (if p26 ≤ x4 then x6 else x8 : Int32) (if p26 ≤ x4 then x5 else x7 : Int32) (if p26 ≤ x4 then x4 else p26 : Int32))
def f_X8_same_L37 (σ : St) (t : Nat) (x1 : Int32) (x2 : Int32) : Nat → Int32 → Int32 → Int32 → Int32 → Option (Int32 × Int32 × Int32 × Int32)
  | 0, _, _, _, _ => none
  | n + 1, x7, x6, x5, x4 => (f_X8_many σ t x1).bind fun v10 => if (v10 - 1) ≤ x7 then (some (x7, x6, x5, x4)) else ((f_X8_same_L52 σ x7 t x1 x2 3000 1 x6 x5 x4).bind fun p30 => f_X8_same_L37 σ t x1 x2 n (x7 + 1) p30.2.1 p30.2.2.1 p30.2.2.2)
def f_X8_same (σ : St) (t : Nat) (a0 : Int32) (a1 : Int32) (a2 : Int32) : Option (Int32 × St) := if isO σ 7 t = true then ((f_X8_areTwo σ t a0 a1).bind fun v2 => if v2 = 0 then ((f_X8_finding σ t (-1000001)).bind fun p5 => some (p5.1, p5.2)) else ((f_X8_within σ a2 0 2).bind fun v7 => if v7 = 0 then ((f_X8_finding σ t (-1000001)).bind fun p38 => some (p38.1, p38.2)) else ((f_X8_same_L37 σ t a0 a1 3000 1 0 0 0).bind fun p32 => some ((if a2 = 0 then (p32.2.2.2) else (if a2 = 1 then (p32.2.2.1) else (p32.2.1)) : Int32), σ)))) else none
theorem gd_X8_same {σ : St} {t : Nat} {a0 : Int32} {a1 : Int32} {a2 : Int32} {r : Int32 × St} (h : f_X8_same σ t a0 a1 a2 = some r) : isO σ 7 t = true := by
  unfold f_X8_same at h
  by_cases hg : isO σ 7 t = true
  · exact hg
  · rw [if_neg hg] at h
    cases h
set_option maxRecDepth 100000 in
set_option maxHeartbeats 4000000 in
theorem c_X8_same (l : Launch) (G : Gd) (d : Nat) (σ : St) (t : Nat) (a0 : Int32) (a1 : Int32) (a2 : Int32) (r0 : Int32) (σ' : St) (hf : f_X8_same σ t a0 a1 a2 = some (r0, σ')) : MetV l G (d + 4) mi_X8_same [.ref t, .int a0, .int a1, .int a2] σ (some (.int r0)) σ' 0 0 := by
  unfold f_X8_same at hf
  refine MetV.of [(0, .ref t), (1, .int a0), (2, .int a1), (3, .int a2)] (by decide +kernel) rfl (Nat.le_of_ble_eq_true rfl) ?_
  intro X hQ
  have L67 : ∀ (σ : St) (x8 : Int32) (x7 : Int32) (x6 : Int32) (x5 : Int32) (x4 : Int32) (x1 : Int32) (x2 : Int32) (x3 : Int32) (n : Nat) (x9 : Int32) (p : Int32), f_X8_same_L67 σ x8 x7 t x1 x2 n x9 = some p → V mi_X8_same l G (d + 4) 0 0 X 0 0 126 [(9, .int p), (8, .int x8), (7, .int x7), (6, .int x6), (5, .int x5), (4, .int x4), (0, .ref t), (1, .int x1), (2, .int x2), (3, .int x3)] [] σ → V mi_X8_same l G (d + 4) 0 0 X 0 0 67 [(9, .int x9), (8, .int x8), (7, .int x7), (6, .int x6), (5, .int x5), (4, .int x4), (0, .ref t), (1, .int x1), (2, .int x2), (3, .int x3)] [] σ := by
    intro σ x8 x7 x6 x5 x4 x1 x2 x3 n
    induction n with
    | zero =>
      intro x9 p hf
      exact absurd (show (none : Option _) = some p from hf) (by simp)
    | succ n ih =>
      intro x9 p hf hk
      rw [f_X8_same_L67] at hf
      refine V_iload 2 69 rfl dX8_same_67 rfl ?_
      refine V_iload 0 71 rfl dX8_same_69 rfl ?_
      refine V_iadd 72 dX8_same_71 rfl ?_
      refine V_aload_n 6 73 rfl dX8_same_72 rfl rfl ?_
      refine V_iload_n 7 74 rfl dX8_same_73 rfl rfl ?_
      obtain ⟨v16, h15, hf⟩ := ob hf
      refine V_callV (rest := [.int (x7 + x9)]) (T := TX8) (n := 27) (ci := 7) 0 0 77 [.int v16, .int (x7 + x9)] (c_X8_many l G (d + 1) _ _ _ _ h15) (by omega) ok_X8_many okv_X8_many (gd_X8_many h15) rfl wd_ml_X8_134 rfl rfl (Nat.le_of_ble_eq_true rfl) rfl rfl (Or.inl ⟨rfl, rfl⟩) dX8_same_74 rfl rfl ?_
      refine V_iconst 1 78 dX8_same_77 rfl kiconst_1 ?_
      refine V_isub 79 dX8_same_78 rfl ?_
      refine V_icmp_ge 126 82 dX8_same_79 (by decide) rfl (fun c17 => ?_) (fun c17 => ?_)
      · rw [if_pos c17] at hf
        have ep := Option.some.inj hf
        subst ep
        refine V_ls [(9, .int x9), (8, .int x8), (7, .int x7), (6, .int x6), (5, .int x5), (4, .int x4), (0, .ref t), (1, .int x1), (2, .int x2), (3, .int x3)] [0, 1, 2, 3, 4, 5, 6, 7, 8, 9] rfl ?_
        exact hk
      · rw [if_neg c17] at hf
        refine V_iload 1 84 rfl dX8_same_82 rfl ?_
        refine V_iload 0 86 rfl dX8_same_84 rfl ?_
        refine V_iadd 87 dX8_same_86 rfl ?_
        refine V_aload_n 6 88 rfl dX8_same_87 rfl rfl ?_
        refine V_iload_n 8 89 rfl dX8_same_88 rfl rfl ?_
        obtain ⟨v19, h18, hf⟩ := ob hf
        refine V_callV (rest := [.int (x8 + x9)]) (T := TX8) (n := 27) (ci := 7) 0 0 92 [.int v19, .int (x8 + x9)] (c_X8_many l G (d + 1) _ _ _ _ h18) (by omega) ok_X8_many okv_X8_many (gd_X8_many h18) rfl wd_ml_X8_134 rfl rfl (Nat.le_of_ble_eq_true rfl) rfl rfl (Or.inl ⟨rfl, rfl⟩) dX8_same_89 rfl rfl ?_
        refine V_iconst 1 93 dX8_same_92 rfl kiconst_1 ?_
        refine V_isub 94 dX8_same_93 rfl ?_
        refine V_icmp_ge 126 97 dX8_same_94 (by decide) rfl (fun c20 => ?_) (fun c20 => ?_)
        · rw [if_pos c20] at hf
          have ep := Option.some.inj hf
          subst ep
          refine V_ls [(9, .int x9), (8, .int x8), (7, .int x7), (6, .int x6), (5, .int x5), (4, .int x4), (0, .ref t), (1, .int x1), (2, .int x2), (3, .int x3)] [0, 1, 2, 3, 4, 5, 6, 7, 8, 9] rfl ?_
          exact hk
        · rw [if_neg c20] at hf
          refine V_aload_n 6 98 rfl dX8_same_97 rfl rfl ?_
          refine V_iload_n 7 99 rfl dX8_same_98 rfl rfl ?_
          refine V_iload 2 101 rfl dX8_same_99 rfl ?_
          refine V_iload 0 103 rfl dX8_same_101 rfl ?_
          refine V_iadd 104 dX8_same_103 rfl ?_
          obtain ⟨v22, h21, hf⟩ := ob hf
          refine V_callV (rest := []) (T := TX8) (n := 27) (ci := 7) 0 0 107 [.int v22] (c_X8_hairOf l G (d + 0) _ _ _ _ _ h21) (by omega) ok_X8_hairOf okv_X8_hairOf (gd_X8_hairOf h21) rfl wd_ml_X8_147 rfl rfl (Nat.le_of_ble_eq_true rfl) rfl rfl (Or.inl ⟨rfl, rfl⟩) dX8_same_104 rfl rfl ?_
          refine V_aload_n 6 108 rfl dX8_same_107 rfl rfl ?_
          refine V_iload_n 8 109 rfl dX8_same_108 rfl rfl ?_
          refine V_iload 1 111 rfl dX8_same_109 rfl ?_
          refine V_iload 0 113 rfl dX8_same_111 rfl ?_
          refine V_iadd 114 dX8_same_113 rfl ?_
          obtain ⟨v24, h23, hf⟩ := ob hf
          refine V_callV (rest := [.int v22]) (T := TX8) (n := 27) (ci := 7) 0 0 117 [.int v24, .int v22] (c_X8_hairOf l G (d + 0) _ _ _ _ _ h23) (by omega) ok_X8_hairOf okv_X8_hairOf (gd_X8_hairOf h23) rfl wd_ml_X8_147 rfl rfl (Nat.le_of_ble_eq_true rfl) rfl rfl (Or.inl ⟨rfl, rfl⟩) dX8_same_114 rfl rfl ?_
          refine V_icmp_ne 126 120 dX8_same_117 (by decide) rfl (fun c25 => ?_) (fun c25 => ?_)
          · rw [if_neg c25] at hf
            have ep := Option.some.inj hf
            subst ep
            refine V_ls [(9, .int x9), (8, .int x8), (7, .int x7), (6, .int x6), (5, .int x5), (4, .int x4), (0, .ref t), (1, .int x1), (2, .int x2), (3, .int x3)] [0, 1, 2, 3, 4, 5, 6, 7, 8, 9] rfl ?_
            exact hk
          · rw [if_pos c25] at hf
            refine V_iinc (x9 + 1) 0 [(9, .int (x9 + 1)), (8, .int x8), (7, .int x7), (6, .int x6), (5, .int x5), (4, .int x4), (0, .ref t), (1, .int x1), (2, .int x2), (3, .int x3)] 123 dX8_same_120 rfl (by rw [kiconst_1]) (by decide) rfl rfl ?_
            refine V_goto 67 dX8_same_123 (by decide) ?_
            refine V_ls [(9, .int (x9 + 1)), (8, .int x8), (7, .int x7), (6, .int x6), (5, .int x5), (4, .int x4), (0, .ref t), (1, .int x1), (2, .int x2), (3, .int x3)] [0, 1, 2, 3, 4, 5, 6, 7, 8, 9] rfl ?_
            exact ih _ _ hf hk
  have L52 : ∀ (σ : St) (x7 : Int32) (x1 : Int32) (x2 : Int32) (x3 : Int32) (n : Nat) (x8 : Int32) (x6 : Int32) (x5 : Int32) (x4 : Int32) (p : Int32 × Int32 × Int32 × Int32), f_X8_same_L52 σ x7 t x1 x2 n x8 x6 x5 x4 = some p → V mi_X8_same l G (d + 4) 0 0 X 0 0 151 [(8, .int p.1), (7, .int x7), (6, .int p.2.1), (5, .int p.2.2.1), (4, .int p.2.2.2), (0, .ref t), (1, .int x1), (2, .int x2), (3, .int x3)] [] σ → V mi_X8_same l G (d + 4) 0 0 X 0 0 52 [(8, .int x8), (7, .int x7), (6, .int x6), (5, .int x5), (4, .int x4), (0, .ref t), (1, .int x1), (2, .int x2), (3, .int x3)] [] σ := by
    intro σ x7 x1 x2 x3 n
    induction n with
    | zero =>
      intro x8 x6 x5 x4 p hf
      exact absurd (show (none : Option _) = some p from hf) (by simp)
    | succ n ih =>
      intro x8 x6 x5 x4 p hf hk
      rw [f_X8_same_L52] at hf
      refine V_iload 0 54 rfl dX8_same_52 rfl ?_
      refine V_aload_n 5 55 rfl dX8_same_54 rfl rfl ?_
      refine V_iload_n 7 56 rfl dX8_same_55 rfl rfl ?_
      obtain ⟨v13, h12, hf⟩ := ob hf
      refine V_callV (rest := [.int x8]) (T := TX8) (n := 27) (ci := 7) 0 0 59 [.int v13, .int x8] (c_X8_many l G (d + 1) _ _ _ _ h12) (by omega) ok_X8_many okv_X8_many (gd_X8_many h12) rfl wd_ml_X8_134 rfl rfl (Nat.le_of_ble_eq_true rfl) rfl rfl (Or.inl ⟨rfl, rfl⟩) dX8_same_56 rfl rfl ?_
      refine V_iconst 1 60 dX8_same_59 rfl kiconst_1 ?_
      refine V_isub 61 dX8_same_60 rfl ?_
      refine V_icmp_ge 151 64 dX8_same_61 (by decide) rfl (fun c14 => ?_) (fun c14 => ?_)
      · rw [if_pos c14] at hf
        have ep := Option.some.inj hf
        subst ep
        refine V_ls [(8, .int x8), (7, .int x7), (6, .int x6), (5, .int x5), (4, .int x4), (0, .ref t), (1, .int x1), (2, .int x2), (3, .int x3)] [0, 1, 2, 3, 4, 5, 6, 7, 8] rfl ?_
        exact hk
      · rw [if_neg c14] at hf
        refine V_iconst 0 65 dX8_same_64 rfl kiconst_0 ?_
        refine V_istore [(9, .int 0), (8, .int x8), (7, .int x7), (6, .int x6), (5, .int x5), (4, .int x4), (0, .ref t), (1, .int x1), (2, .int x2), (3, .int x3)] 67 dX8_same_65 (by decide) rfl rfl ?_
        obtain ⟨p26, h27, hf⟩ := ob hf
        refine V_ls [(9, .int 0), (8, .int x8), (7, .int x7), (6, .int x6), (5, .int x5), (4, .int x4), (0, .ref t), (1, .int x1), (2, .int x2), (3, .int x3)] [0, 1, 2, 3, 4, 5, 6, 7, 8, 9] rfl ?_
        refine L67 σ x8 x7 x6 x5 x4 x1 x2 x3 3000 0 p26 h27 ?_
        refine V_iload 0 128 rfl dX8_same_126 rfl ?_
        refine V_iload 5 130 rfl dX8_same_128 rfl ?_
        have kj28 : V mi_X8_same l G (d + 4) 0 0 X 0 0 145 [(9, .int p26), (8, .int x8), (7, .int x7), (6, .int (if p26 ≤ x4 then x6 else x8 : Int32)), (5, .int (if p26 ≤ x4 then x5 else x7 : Int32)), (4, .int (if p26 ≤ x4 then x4 else p26 : Int32)), (0, .ref t), (1, .int x1), (2, .int x2), (3, .int x3)] [] σ := by
          refine V_iinc (x8 + 1) 1 [(8, .int (x8 + 1)), (9, .int p26), (7, .int x7), (6, .int (if p26 ≤ x4 then x6 else x8 : Int32)), (5, .int (if p26 ≤ x4 then x5 else x7 : Int32)), (4, .int (if p26 ≤ x4 then x4 else p26 : Int32)), (0, .ref t), (1, .int x1), (2, .int x2), (3, .int x3)] 148 dX8_same_145 rfl (by rw [kiconst_1]) (by decide) rfl rfl ?_
          refine V_goto 52 dX8_same_148 (by decide) ?_
          refine V_ls [(8, .int (x8 + 1)), (7, .int x7), (6, .int (if p26 ≤ x4 then x6 else x8 : Int32)), (5, .int (if p26 ≤ x4 then x5 else x7 : Int32)), (4, .int (if p26 ≤ x4 then x4 else p26 : Int32)), (0, .ref t), (1, .int x1), (2, .int x2), (3, .int x3)] [0, 2, 3, 4, 5, 6, 7, 8, 9] rfl ?_
          exact ih _ _ _ _ _ hf hk
        refine V_icmp_le 145 133 dX8_same_130 (by decide) rfl (fun c29 => ?_) (fun c29 => ?_)
        · refine V_ls [(9, .int p26), (8, .int x8), (7, .int x7), (6, .int x6), (5, .int x5), (4, .int x4), (0, .ref t), (1, .int x1), (2, .int x2), (3, .int x3)] [0, 1, 2, 3, 4, 5, 6, 7, 8, 9] rfl ?_
          simp only [if_pos c29] at kj28
          exact kj28
        · refine V_iload 0 135 rfl dX8_same_133 rfl ?_
          refine V_istore [(4, .int p26), (9, .int p26), (8, .int x8), (7, .int x7), (6, .int x6), (5, .int x5), (0, .ref t), (1, .int x1), (2, .int x2), (3, .int x3)] 137 dX8_same_135 (by decide) rfl rfl ?_
          refine V_iload 3 139 rfl dX8_same_137 rfl ?_
          refine V_istore [(5, .int x7), (4, .int p26), (9, .int p26), (8, .int x8), (7, .int x7), (6, .int x6), (0, .ref t), (1, .int x1), (2, .int x2), (3, .int x3)] 141 dX8_same_139 (by decide) rfl rfl ?_
          refine V_iload 3 143 rfl dX8_same_141 rfl ?_
          refine V_istore [(6, .int x8), (5, .int x7), (4, .int p26), (9, .int p26), (8, .int x8), (7, .int x7), (0, .ref t), (1, .int x1), (2, .int x2), (3, .int x3)] 145 dX8_same_143 (by decide) rfl rfl ?_
          refine V_ls [(9, .int p26), (8, .int x8), (7, .int x7), (6, .int x8), (5, .int x7), (4, .int p26), (0, .ref t), (1, .int x1), (2, .int x2), (3, .int x3)] [3, 4, 5, 0, 1, 2, 6, 7, 8, 9] rfl ?_
          simp only [if_neg c29] at kj28
          exact kj28
  have L37 : ∀ (σ : St) (x1 : Int32) (x2 : Int32) (x3 : Int32) (n : Nat) (x7 : Int32) (x6 : Int32) (x5 : Int32) (x4 : Int32) (p : Int32 × Int32 × Int32 × Int32), f_X8_same_L37 σ t x1 x2 n x7 x6 x5 x4 = some p → V mi_X8_same l G (d + 4) 0 0 X 0 0 157 [(7, .int p.1), (6, .int p.2.1), (5, .int p.2.2.1), (4, .int p.2.2.2), (0, .ref t), (1, .int x1), (2, .int x2), (3, .int x3)] [] σ → V mi_X8_same l G (d + 4) 0 0 X 0 0 37 [(7, .int x7), (6, .int x6), (5, .int x5), (4, .int x4), (0, .ref t), (1, .int x1), (2, .int x2), (3, .int x3)] [] σ := by
    intro σ x1 x2 x3 n
    induction n with
    | zero =>
      intro x7 x6 x5 x4 p hf
      exact absurd (show (none : Option _) = some p from hf) (by simp)
    | succ n ih =>
      intro x7 x6 x5 x4 p hf hk
      rw [f_X8_same_L37] at hf
      refine V_iload 0 39 rfl dX8_same_37 rfl ?_
      refine V_aload_n 4 40 rfl dX8_same_39 rfl rfl ?_
      refine V_iload_n 5 41 rfl dX8_same_40 rfl rfl ?_
      obtain ⟨v10, h9, hf⟩ := ob hf
      refine V_callV (rest := [.int x7]) (T := TX8) (n := 27) (ci := 7) 0 0 44 [.int v10, .int x7] (c_X8_many l G (d + 1) _ _ _ _ h9) (by omega) ok_X8_many okv_X8_many (gd_X8_many h9) rfl wd_ml_X8_134 rfl rfl (Nat.le_of_ble_eq_true rfl) rfl rfl (Or.inl ⟨rfl, rfl⟩) dX8_same_41 rfl rfl ?_
      refine V_iconst 1 45 dX8_same_44 rfl kiconst_1 ?_
      refine V_isub 46 dX8_same_45 rfl ?_
      refine V_icmp_ge 157 49 dX8_same_46 (by decide) rfl (fun c11 => ?_) (fun c11 => ?_)
      · rw [if_pos c11] at hf
        have ep := Option.some.inj hf
        subst ep
        refine V_ls [(7, .int x7), (6, .int x6), (5, .int x5), (4, .int x4), (0, .ref t), (1, .int x1), (2, .int x2), (3, .int x3)] [0, 1, 2, 3, 4, 5, 6, 7] rfl ?_
        exact hk
      · rw [if_neg c11] at hf
        refine V_iconst 1 50 dX8_same_49 rfl kiconst_1 ?_
        refine V_istore [(8, .int 1), (7, .int x7), (6, .int x6), (5, .int x5), (4, .int x4), (0, .ref t), (1, .int x1), (2, .int x2), (3, .int x3)] 52 dX8_same_50 (by decide) rfl rfl ?_
        obtain ⟨p30, h31, hf⟩ := ob hf
        refine V_ls [(8, .int 1), (7, .int x7), (6, .int x6), (5, .int x5), (4, .int x4), (0, .ref t), (1, .int x1), (2, .int x2), (3, .int x3)] [0, 1, 2, 3, 4, 5, 6, 7, 8] rfl ?_
        refine L52 σ x7 x1 x2 x3 3000 1 x6 x5 x4 p30 h31 ?_
        refine V_iinc (x7 + 1) 1 [(7, .int (x7 + 1)), (8, .int p30.1), (6, .int p30.2.1), (5, .int p30.2.2.1), (4, .int p30.2.2.2), (0, .ref t), (1, .int x1), (2, .int x2), (3, .int x3)] 154 dX8_same_151 rfl (by rw [kiconst_1]) (by decide) rfl rfl ?_
        refine V_goto 37 dX8_same_154 (by decide) ?_
        refine V_ls [(7, .int (x7 + 1)), (6, .int p30.2.1), (5, .int p30.2.2.1), (4, .int p30.2.2.2), (0, .ref t), (1, .int x1), (2, .int x2), (3, .int x3)] [0, 2, 3, 4, 5, 6, 7, 8] rfl ?_
        exact ih _ _ _ _ _ hf hk
  by_cases hg : isO σ 7 t = true
  · rw [if_pos hg] at hf
    refine V_aload_n 0 1 rfl dX8_same_0 rfl rfl ?_
    refine V_iload_n 1 2 rfl dX8_same_1 rfl rfl ?_
    refine V_iload_n 2 3 rfl dX8_same_2 rfl rfl ?_
    obtain ⟨v2, h1, hf⟩ := ob hf
    refine V_callV (rest := []) (T := TX8) (n := 27) (ci := 7) 0 0 6 [.int v2] (c_X8_areTwo l G (d + 0) _ _ _ _ _ h1) (by omega) ok_X8_areTwo okv_X8_areTwo (gd_X8_areTwo h1) rfl wd_ml_X8_225 rfl rfl (Nat.le_of_ble_eq_true rfl) rfl rfl (Or.inl ⟨rfl, rfl⟩) dX8_same_3 rfl rfl ?_
    refine V_if_eq 18 9 dX8_same_6 (by decide) rfl (fun c3 => ?_) (fun c3 => ?_)
    · rw [if_pos c3] at hf
      refine V_aload_n 0 19 rfl dX8_same_18 rfl rfl ?_
      refine V_ldc (-1000001) 21 dX8_same_19 rfl wd_kk_X8_76 ?_
      obtain ⟨p5, h4, hf⟩ := ob hf
      refine V_callV (rest := []) (T := TX8) (n := 27) (ci := 7) 0 0 24 [.int p5.1] (c_X8_finding l G (d + 2) _ _ _ _ _ h4) (by omega) ok_X8_finding okv_X8_finding (gd_X8_finding h4) rfl wd_ml_X8_77 rfl rfl (Nat.le_of_ble_eq_true rfl) rfl rfl (Or.inl ⟨rfl, rfl⟩) dX8_same_21 rfl rfl ?_
      have er := Option.some.inj hf
      obtain ⟨e1, e2⟩ := Prod.mk.inj er
      subst e1
      subst e2
      exact V_iret hQ rfl dX8_same_24
    · rw [if_neg c3] at hf
      refine V_iload_n 3 10 rfl dX8_same_9 rfl rfl ?_
      refine V_iconst 0 11 dX8_same_10 rfl kiconst_0 ?_
      refine V_iconst 2 12 dX8_same_11 rfl kiconst_2 ?_
      obtain ⟨v7, h6, hf⟩ := ob hf
      refine V_callS (rest := []) 0 0 15 [.int v7] (c_X8_within l G (d + 2) _ _ _ _ _ h6) (by omega) ok_X8_within oks_X8_within wd_ml_X8_68 rfl rfl (Nat.le_of_ble_eq_true rfl) rfl rfl (Or.inl ⟨rfl, rfl⟩) dX8_same_12 rfl rfl ?_
      refine V_if_ne 25 18 dX8_same_15 (by decide) rfl (fun c8 => ?_) (fun c8 => ?_)
      · rw [if_neg c8] at hf
        refine V_iconst 0 26 dX8_same_25 rfl kiconst_0 ?_
        refine V_istore [(4, .int 0), (0, .ref t), (1, .int a0), (2, .int a1), (3, .int a2)] 28 dX8_same_26 (by decide) rfl rfl ?_
        refine V_iconst 0 29 dX8_same_28 rfl kiconst_0 ?_
        refine V_istore [(5, .int 0), (4, .int 0), (0, .ref t), (1, .int a0), (2, .int a1), (3, .int a2)] 31 dX8_same_29 (by decide) rfl rfl ?_
        refine V_iconst 0 32 dX8_same_31 rfl kiconst_0 ?_
        refine V_istore [(6, .int 0), (5, .int 0), (4, .int 0), (0, .ref t), (1, .int a0), (2, .int a1), (3, .int a2)] 34 dX8_same_32 (by decide) rfl rfl ?_
        refine V_iconst 1 35 dX8_same_34 rfl kiconst_1 ?_
        refine V_istore [(7, .int 1), (6, .int 0), (5, .int 0), (4, .int 0), (0, .ref t), (1, .int a0), (2, .int a1), (3, .int a2)] 37 dX8_same_35 (by decide) rfl rfl ?_
        obtain ⟨p32, h33, hf⟩ := ob hf
        refine V_ls [(7, .int 1), (6, .int 0), (5, .int 0), (4, .int 0), (0, .ref t), (1, .int a0), (2, .int a1), (3, .int a2)] [0, 1, 2, 3, 4, 5, 6, 7] rfl ?_
        refine L37 σ a0 a1 a2 3000 1 0 0 0 p32 h33 ?_
        refine V_iload_n 7 158 rfl dX8_same_157 rfl rfl ?_
        have kj34 : V mi_X8_same l G (d + 4) 0 0 X 0 0 178 [(7, .int p32.1), (6, .int p32.2.1), (5, .int p32.2.2.1), (4, .int p32.2.2.2), (0, .ref t), (1, .int a0), (2, .int a1), (3, .int a2)] [.int (if a2 = 0 then (p32.2.2.2) else (if a2 = 1 then (p32.2.2.1) else (p32.2.1)) : Int32)] σ := by
          have er := Option.some.inj hf
          obtain ⟨e1, e2⟩ := Prod.mk.inj er
          subst e1
          subst e2
          exact V_iret hQ rfl dX8_same_178
        refine V_if_ne 166 161 dX8_same_158 (by decide) rfl (fun c35 => ?_) (fun c35 => ?_)
        · refine V_iload_n 7 167 rfl dX8_same_166 rfl rfl ?_
          refine V_iconst 1 168 dX8_same_167 rfl kiconst_1 ?_
          refine V_icmp_ne 176 171 dX8_same_168 (by decide) rfl (fun c36 => ?_) (fun c36 => ?_)
          · refine V_iload 1 178 rfl dX8_same_176 rfl ?_
            refine V_ls [(7, .int p32.1), (6, .int p32.2.1), (5, .int p32.2.2.1), (4, .int p32.2.2.2), (0, .ref t), (1, .int a0), (2, .int a1), (3, .int a2)] [0, 1, 2, 3, 4, 5, 6, 7] rfl ?_
            simp only [if_neg c35, if_neg c36] at kj34
            exact kj34
          · refine V_iload 2 173 rfl dX8_same_171 rfl ?_
            refine V_goto 178 dX8_same_173 (by decide) ?_
            refine V_ls [(7, .int p32.1), (6, .int p32.2.1), (5, .int p32.2.2.1), (4, .int p32.2.2.2), (0, .ref t), (1, .int a0), (2, .int a1), (3, .int a2)] [0, 1, 2, 3, 4, 5, 6, 7] rfl ?_
            simp only [if_neg c35, if_pos c36] at kj34
            exact kj34
        · refine V_iload 3 163 rfl dX8_same_161 rfl ?_
          refine V_goto 178 dX8_same_163 (by decide) ?_
          refine V_ls [(7, .int p32.1), (6, .int p32.2.1), (5, .int p32.2.2.1), (4, .int p32.2.2.2), (0, .ref t), (1, .int a0), (2, .int a1), (3, .int a2)] [0, 1, 2, 3, 4, 5, 6, 7] rfl ?_
          simp only [if_pos c35] at kj34
          exact kj34
      · rw [if_pos c8] at hf
        refine V_aload_n 0 19 rfl dX8_same_18 rfl rfl ?_
        refine V_ldc (-1000001) 21 dX8_same_19 rfl wd_kk_X8_76 ?_
        obtain ⟨p38, h37, hf⟩ := ob hf
        refine V_callV (rest := []) (T := TX8) (n := 27) (ci := 7) 0 0 24 [.int p38.1] (c_X8_finding l G (d + 2) _ _ _ _ _ h37) (by omega) ok_X8_finding okv_X8_finding (gd_X8_finding h37) rfl wd_ml_X8_77 rfl rfl (Nat.le_of_ble_eq_true rfl) rfl rfl (Or.inl ⟨rfl, rfl⟩) dX8_same_21 rfl rfl ?_
        have er := Option.some.inj hf
        obtain ⟨e1, e2⟩ := Prod.mk.inj er
        subst e1
        subst e2
        exact V_iret hQ rfl dX8_same_24
  · rw [if_neg hg] at hf
    cases hf
abbrev mi_X8_isFactor : MI := (yX8_isFactor, cX8_isFactor, 1, some .boolean)
theorem ok_X8_isFactor : OkN mi_X8_isFactor 1 := ⟨wd_cd_X8_isFactor, wd_in_X8, ⟨by decide +kernel, by decide +kernel, by decide +kernel⟩, by decide⟩
theorem oks_X8_isFactor : Cond.static (mi_X8_isFactor).1 ∈ tb := wd_sm_X8_isFactor
def f_X8_isFactor (σ : St) (a0 : Int32) : Option Int32 := (f_X8_within σ a0 1 5).bind fun v2 => (zr v2).bind fun z3 => some v2
set_option maxRecDepth 100000 in
set_option maxHeartbeats 4000000 in
theorem c_X8_isFactor (l : Launch) (G : Gd) (d : Nat) (σ : St) (a0 : Int32) (r0 : Int32) (hf : f_X8_isFactor σ a0 = some r0) : MetV l G (d + 2) mi_X8_isFactor [.int a0] σ (some (.int r0)) σ 0 0 := by
  unfold f_X8_isFactor at hf
  refine MetV.of [(0, .int a0)] (by decide +kernel) rfl (Nat.le_of_ble_eq_true rfl) ?_
  intro X hQ
  refine V_iload_n 0 1 rfl dX8_isFactor_0 rfl rfl ?_
  refine V_iconst 1 2 dX8_isFactor_1 rfl kiconst_1 ?_
  refine V_iconst 5 3 dX8_isFactor_2 rfl kiconst_5 ?_
  obtain ⟨v2, h1, hf⟩ := ob hf
  refine V_callS (rest := []) 0 0 6 [.int v2] (c_X8_within l G (d + 0) _ _ _ _ _ h1) (by omega) ok_X8_within oks_X8_within wd_ml_X8_68 rfl rfl (Nat.le_of_ble_eq_true rfl) rfl rfl (Or.inl ⟨rfl, rfl⟩) dX8_isFactor_3 rfl rfl ?_
  obtain ⟨z3, h4, hf⟩ := ob hf
  have er := Option.some.inj hf
  subst er
  exact V_zret (zr_ok h4) hQ rfl dX8_isFactor_6
abbrev mi_X8_divisor : MI := (yX8_divisor, cX8_divisor, 2, some .int)
theorem ok_X8_divisor : OkN mi_X8_divisor 2 := ⟨wd_cd_X8_divisor, wd_in_X8, ⟨by decide +kernel, by decide +kernel, by decide +kernel⟩, by decide⟩
theorem oks_X8_divisor : Cond.static (mi_X8_divisor).1 ∈ tb := wd_sm_X8_divisor
def f_X8_divisor (rc : Nat → List Int32 → St → Option (Int32 × St)) (σ : St) (a0 : Int32) (a1 : Int32) : Option Int32 := if a1 = 0 then (some a0) else ((ne0 a1).bind fun z2 => (rc 0 [a1, irm a0 a1] σ).bind fun p6 => some p6.1)
def ds_X8_divisor (rc : Nat → List Int32 → St → Option (Int32 × St)) (j : Nat) (as : List Int32) (σ : St) : Option (Int32 × St) := match j, as with
  | 0, [a0, a1] => (f_X8_divisor rc σ a0 a1).map fun v => (v, σ)
  | _, _ => none
def rc_X8_divisor : Nat → Nat → List Int32 → St → Option (Int32 × St)
  | 0, _, _, _ => none
  | n + 1, j, as, σ => ds_X8_divisor (rc_X8_divisor n) j as σ
def CT_X8_divisor (l : Launch) (G : Gd) (dr : Nat) (j : Nat) (as : List Int32) (σ : St) (p : Int32 × St) : Prop := True ∧ (j = 0 → ∀ a0 a1 : Int32, as = [a0, a1] → MetV l G dr mi_X8_divisor [.int a0, .int a1] σ (some (.int p.1)) σ 0 0)
set_option maxRecDepth 100000 in
set_option maxHeartbeats 4000000 in
theorem cb_X8_divisor (l : Launch) (G : Gd) (dr : Nat) (rc : Nat → List Int32 → St → Option (Int32 × St)) (ihr : ∀ j as σ p, rc j as σ = some p → CT_X8_divisor l G dr j as σ p) (σ : St) (a0 : Int32) (a1 : Int32) (r0 : Int32) (hf : f_X8_divisor rc σ a0 a1 = some r0) : MetV l G (dr + 1) mi_X8_divisor [.int a0, .int a1] σ (some (.int r0)) σ 0 0 := by
  unfold f_X8_divisor at hf
  refine MetV.of [(0, .int a0), (1, .int a1)] (by decide +kernel) rfl (Nat.le_of_ble_eq_true rfl) ?_
  intro X hQ
  refine V_iload_n 1 1 rfl dX8_divisor_0 rfl rfl ?_
  refine V_if_ne 8 4 dX8_divisor_1 (by decide) rfl (fun c1 => ?_) (fun c1 => ?_)
  · rw [if_neg c1] at hf
    refine V_iload_n 1 9 rfl dX8_divisor_8 rfl rfl ?_
    refine V_iload_n 0 10 rfl dX8_divisor_9 rfl rfl ?_
    refine V_iload_n 1 11 rfl dX8_divisor_10 rfl rfl ?_
    obtain ⟨z2, h3, hf⟩ := ob hf
    refine V_irem 12 dX8_divisor_11 rfl (ne0_ne h3) ?_
    obtain ⟨p6, h4, hf⟩ := ob hf
    refine V_callS (rest := []) 0 0 15 [.int p6.1] ((ihr 0 [a1, irm a0 a1] σ p6 h4).2 rfl _ _ rfl) (by omega) ok_X8_divisor oks_X8_divisor wd_ml_X8_228 rfl rfl (Nat.le_of_ble_eq_true rfl) rfl rfl (Or.inl ⟨rfl, rfl⟩) dX8_divisor_12 rfl rfl ?_
    have er := Option.some.inj hf
    subst er
    exact V_iret hQ rfl dX8_divisor_15
  · rw [if_pos c1] at hf
    refine V_iload_n 0 5 rfl dX8_divisor_4 rfl rfl ?_
    refine V_goto 15 dX8_divisor_5 (by decide) ?_
    have er := Option.some.inj hf
    subst er
    exact V_iret hQ rfl dX8_divisor_15
set_option maxRecDepth 100000 in
set_option maxHeartbeats 4000000 in
theorem cr_X8_divisor (l : Launch) (G : Gd) (d : Nat) : ∀ (n j : Nat) (as : List Int32) (σ : St) (p : Int32 × St), rc_X8_divisor n j as σ = some p → CT_X8_divisor l G (d + 1 * n) j as σ p := by
  intro n
  induction n with
  | zero =>
    intro j as σ p h
    exact absurd (show (none : Option _) = some p from h) (by simp)
  | succ n ih =>
    intro j as σ p h
    rw [rc_X8_divisor] at h
    unfold ds_X8_divisor at h
    rw [show d + 1 * (n + 1) = d + 1 * n + 1 from by omega]
    split at h
    · next a0 a1 =>
      obtain ⟨v, hv, rfl⟩ := Option.map_eq_some_iff.mp h
      exact ⟨trivial, fun _ b0 b1 e => by cases e; exact cb_X8_divisor l G (d + 1 * n) (rc_X8_divisor n) ih σ a0 a1 v hv⟩
    · cases h
def g_X8_divisor (σ : St) (a0 : Int32) (a1 : Int32) : Option (Int32) := (rc_X8_divisor 60 0 [a0, a1] σ).map fun p => p.1
theorem c_X8_divisor (l : Launch) (G : Gd) (d : Nat) (σ : St) (a0 : Int32) (a1 : Int32) (r0 : Int32) (hf : g_X8_divisor σ a0 a1 = some r0) : MetV l G (d + 60) mi_X8_divisor [.int a0, .int a1] σ (some (.int r0)) σ 0 0 := by
  unfold g_X8_divisor at hf
  obtain ⟨p, hp, rfl⟩ := Option.map_eq_some_iff.mp hf
  exact (cr_X8_divisor l G d 60 0 _ σ _ hp).2 rfl _ _ rfl
abbrev mi_X8_isBending : MI := (yX8_isBending, cX8_isBending, 12, some .boolean)
theorem ok_X8_isBending : OkN mi_X8_isBending 6 := ⟨wd_cd_X8_isBending, wd_in_X8, ⟨by decide +kernel, by decide +kernel, by decide +kernel⟩, by decide⟩
theorem okv_X8_isBending : Cond.instanceMethod (mi_X8_isBending).1 ∈ tb ∧ Cond.selects (mi_X8_isBending).1.cls (mi_X8_isBending).1 (mi_X8_isBending).1 ∈ tb := ⟨wd_im_X8_isBending, wd_se_X8_isBending⟩
def f_X8_isBending_L80 (σ : St) (x8 : Int32) (x7 : Int32) (t : Nat) (x1 : Int32) (x2 : Int32) (x5 : Int32) (x6 : Int32) : Nat → Int32 → Int32 → Option ((Int32) ⊕ (Int32 × Int32))
  | 0, _, _ => none
  | n + 1, x10, x9 => (f_X8_many σ t x2).bind fun v14 => if v14 ≤ x10 then (some (.inr (x10, x9))) else ((f_X8_dot σ t x1 (x6 + (x7 * x10))).bind fun v17 => (f_X8_dot σ t x1 x6).bind fun v19 => (f_X8_dot σ t x2 x10).bind fun v21 => (f_X8_dot σ t x2 0).bind fun v23 => if (x5 * (v21 - v23)) = (x8 * (v17 - v19)) then (f_X8_isBending_L80 σ x8 x7 t x1 x2 x5 x6 n (x10 + 1) (if x9 = 0 then 0 else (if (v17 - v19) = 0 then 1 else 0) : Int32)) else (some (.inl 0)))
def f_X8_isBending (σ : St) (t : Nat) (a0 : Int32) (a1 : Int32) (a2 : Int32) (a3 : Int32) (a4 : Int32) (a5 : Int32) : Option Int32 := if isO σ 7 t = true then ((f_X8_has σ a2 1).bind fun v2 => (f_X8_has σ a2 1).bind fun v4 => if v4 = 0 then ((f_X8_many σ t a0).bind fun v7 => (f_X8_many σ t a1).bind fun v9 => if a5 ≤ (v7 - v9) then ((f_X8_has σ a2 0).bind fun v12 => (f_X8_isBending_L80 σ (if v12 = 0 then a3 else (-a3) : Int32) (if v2 = 0 then 1 else (-1) : Int32) t a0 a1 a4 a5 3000 0 1).bind fun p28 => Sum.elim (some) (fun p30 => (zr (if p30.2 = 0 then 1 else 0 : Int32)).bind fun z31 => some (if p30.2 = 0 then 1 else 0 : Int32)) p28) else (some 0)) else ((f_X8_many σ t a1).bind fun v38 => if (v38 - 1) ≤ a5 then ((f_X8_has σ a2 0).bind fun v41 => (f_X8_isBending_L80 σ (if v41 = 0 then a3 else (-a3) : Int32) (if v2 = 0 then 1 else (-1) : Int32) t a0 a1 a4 a5 3000 0 1).bind fun p42 => Sum.elim (some) (fun p44 => (zr (if p44.2 = 0 then 1 else 0 : Int32)).bind fun z45 => some (if p44.2 = 0 then 1 else 0 : Int32)) p42) else (some 0))) else none
theorem gd_X8_isBending {σ : St} {t : Nat} {a0 : Int32} {a1 : Int32} {a2 : Int32} {a3 : Int32} {a4 : Int32} {a5 : Int32} {r : Int32} (h : f_X8_isBending σ t a0 a1 a2 a3 a4 a5 = some r) : isO σ 7 t = true := by
  unfold f_X8_isBending at h
  by_cases hg : isO σ 7 t = true
  · exact hg
  · rw [if_neg hg] at h
    cases h
set_option maxRecDepth 100000 in
set_option maxHeartbeats 4000000 in
theorem c_X8_isBending (l : Launch) (G : Gd) (d : Nat) (σ : St) (t : Nat) (a0 : Int32) (a1 : Int32) (a2 : Int32) (a3 : Int32) (a4 : Int32) (a5 : Int32) (r0 : Int32) (hf : f_X8_isBending σ t a0 a1 a2 a3 a4 a5 = some r0) : MetV l G (d + 3) mi_X8_isBending [.ref t, .int a0, .int a1, .int a2, .int a3, .int a4, .int a5] σ (some (.int r0)) σ 0 0 := by
  unfold f_X8_isBending at hf
  refine MetV.of [(0, .ref t), (1, .int a0), (2, .int a1), (3, .int a2), (4, .int a3), (5, .int a4), (6, .int a5)] (by decide +kernel) rfl (Nat.le_of_ble_eq_true rfl) ?_
  intro X hQ
  have L80 : ∀ (x8 : Int32) (x7 : Int32) (x1 : Int32) (x2 : Int32) (x5 : Int32) (x6 : Int32) (n : Nat) (x10 : Int32) (x9 : Int32) (p : (Int32) ⊕ (Int32 × Int32)), f_X8_isBending_L80 σ x8 x7 t x1 x2 x5 x6 n x10 x9 = some p → (∀ v, p = .inl v → v = r0) → (∀ q, p = .inr q → V mi_X8_isBending l G (d + 3) 0 0 X 0 0 163 [(10, .int q.1), (9, .int q.2), (8, .int x8), (7, .int x7), (0, .ref t), (1, .int x1), (2, .int x2), (5, .int x5), (6, .int x6)] [] σ) → V mi_X8_isBending l G (d + 3) 0 0 X 0 0 80 [(10, .int x10), (9, .int x9), (8, .int x8), (7, .int x7), (0, .ref t), (1, .int x1), (2, .int x2), (5, .int x5), (6, .int x6)] [] σ := by
    intro x8 x7 x1 x2 x5 x6 n
    induction n with
    | zero =>
      intro x10 x9 p hf
      exact absurd (show (none : Option _) = some p from hf) (by simp)
    | succ n ih =>
      intro x10 x9 p hf hk1 hk
      rw [f_X8_isBending_L80] at hf
      refine V_iload 0 82 rfl dX8_isBending_80 rfl ?_
      refine V_aload_n 4 83 rfl dX8_isBending_82 rfl rfl ?_
      refine V_iload_n 6 84 rfl dX8_isBending_83 rfl rfl ?_
      obtain ⟨v14, h13, hf⟩ := ob hf
      refine V_callV (rest := [.int x10]) (T := TX8) (n := 27) (ci := 7) 0 0 87 [.int v14, .int x10] (c_X8_many l G (d + 0) _ _ _ _ h13) (by omega) ok_X8_many okv_X8_many (gd_X8_many h13) rfl wd_ml_X8_134 rfl rfl (Nat.le_of_ble_eq_true rfl) rfl rfl (Or.inl ⟨rfl, rfl⟩) dX8_isBending_84 rfl rfl ?_
      refine V_icmp_ge 163 90 dX8_isBending_87 (by decide) rfl (fun c15 => ?_) (fun c15 => ?_)
      · rw [if_pos c15] at hf
        have ep := Option.some.inj hf
        subst ep
        refine V_ls [(10, .int x10), (9, .int x9), (8, .int x8), (7, .int x7), (0, .ref t), (1, .int x1), (2, .int x2), (5, .int x5), (6, .int x6)] [0, 1, 2, 3, 4, 5, 6, 7, 8] rfl ?_
        exact hk _ rfl
      · rw [if_neg c15] at hf
        refine V_aload_n 4 91 rfl dX8_isBending_90 rfl rfl ?_
        refine V_iload_n 5 92 rfl dX8_isBending_91 rfl rfl ?_
        refine V_iload 8 94 rfl dX8_isBending_92 rfl ?_
        refine V_iload 3 96 rfl dX8_isBending_94 rfl ?_
        refine V_iload 0 98 rfl dX8_isBending_96 rfl ?_
        refine V_imul 99 dX8_isBending_98 rfl ?_
        refine V_iadd 100 dX8_isBending_99 rfl ?_
        obtain ⟨v17, h16, hf⟩ := ob hf
        refine V_callV (rest := []) (T := TX8) (n := 27) (ci := 7) 0 0 103 [.int v17] (c_X8_dot l G (d + 0) _ _ _ _ _ h16) (by omega) ok_X8_dot okv_X8_dot (gd_X8_dot h16) rfl wd_ml_X8_140 rfl rfl (Nat.le_of_ble_eq_true rfl) rfl rfl (Or.inl ⟨rfl, rfl⟩) dX8_isBending_100 rfl rfl ?_
        refine V_aload_n 4 104 rfl dX8_isBending_103 rfl rfl ?_
        refine V_iload_n 5 105 rfl dX8_isBending_104 rfl rfl ?_
        refine V_iload 8 107 rfl dX8_isBending_105 rfl ?_
        obtain ⟨v19, h18, hf⟩ := ob hf
        refine V_callV (rest := [.int v17]) (T := TX8) (n := 27) (ci := 7) 0 0 110 [.int v19, .int v17] (c_X8_dot l G (d + 0) _ _ _ _ _ h18) (by omega) ok_X8_dot okv_X8_dot (gd_X8_dot h18) rfl wd_ml_X8_140 rfl rfl (Nat.le_of_ble_eq_true rfl) rfl rfl (Or.inl ⟨rfl, rfl⟩) dX8_isBending_107 rfl rfl ?_
        refine V_isub 111 dX8_isBending_110 rfl ?_
        refine V_istore [(11, .int (v17 - v19)), (10, .int x10), (9, .int x9), (8, .int x8), (7, .int x7), (0, .ref t), (1, .int x1), (2, .int x2), (5, .int x5), (6, .int x6)] 113 dX8_isBending_111 (by decide) rfl rfl ?_
        refine V_iload 2 115 rfl dX8_isBending_113 rfl ?_
        have kj25 : V mi_X8_isBending l G (d + 3) 0 0 X 0 0 128 [(11, .int (v17 - v19)), (10, .int x10), (9, .int x9), (8, .int x8), (7, .int x7), (0, .ref t), (1, .int x1), (2, .int x2), (5, .int x5), (6, .int x6)] [.int (if x9 = 0 then 0 else (if (v17 - v19) = 0 then 1 else 0) : Int32)] σ := by
          refine V_istore [(9, .int (if x9 = 0 then 0 else (if (v17 - v19) = 0 then 1 else 0) : Int32)), (11, .int (v17 - v19)), (10, .int x10), (8, .int x8), (7, .int x7), (0, .ref t), (1, .int x1), (2, .int x2), (5, .int x5), (6, .int x6)] 130 dX8_isBending_128 (by decide) rfl rfl ?_
          refine V_iload 8 132 rfl dX8_isBending_130 rfl ?_
          refine V_aload_n 5 133 rfl dX8_isBending_132 rfl rfl ?_
          refine V_iload_n 7 134 rfl dX8_isBending_133 rfl rfl ?_
          refine V_iload 2 136 rfl dX8_isBending_134 rfl ?_
          obtain ⟨v21, h20, hf⟩ := ob hf
          refine V_callV (rest := [.int x5]) (T := TX8) (n := 27) (ci := 7) 0 0 139 [.int v21, .int x5] (c_X8_dot l G (d + 0) _ _ _ _ _ h20) (by omega) ok_X8_dot okv_X8_dot (gd_X8_dot h20) rfl wd_ml_X8_140 rfl rfl (Nat.le_of_ble_eq_true rfl) rfl rfl (Or.inl ⟨rfl, rfl⟩) dX8_isBending_136 rfl rfl ?_
          refine V_aload_n 5 140 rfl dX8_isBending_139 rfl rfl ?_
          refine V_iload_n 7 141 rfl dX8_isBending_140 rfl rfl ?_
          refine V_iconst 0 142 dX8_isBending_141 rfl kiconst_0 ?_
          obtain ⟨v23, h22, hf⟩ := ob hf
          refine V_callV (rest := [.int v21, .int x5]) (T := TX8) (n := 27) (ci := 7) 0 0 145 [.int v23, .int v21, .int x5] (c_X8_dot l G (d + 0) _ _ _ _ _ h22) (by omega) ok_X8_dot okv_X8_dot (gd_X8_dot h22) rfl wd_ml_X8_140 rfl rfl (Nat.le_of_ble_eq_true rfl) rfl rfl (Or.inl ⟨rfl, rfl⟩) dX8_isBending_142 rfl rfl ?_
          refine V_isub 146 dX8_isBending_145 rfl ?_
          refine V_imul 147 dX8_isBending_146 rfl ?_
          refine V_iload 3 149 rfl dX8_isBending_147 rfl ?_
          refine V_iload 1 151 rfl dX8_isBending_149 rfl ?_
          refine V_imul 152 dX8_isBending_151 rfl ?_
          refine V_icmp_eq 157 155 dX8_isBending_152 (by decide) rfl (fun c24 => ?_) (fun c24 => ?_)
          · rw [if_pos c24] at hf
            refine V_iinc (x10 + 1) 2 [(10, .int (x10 + 1)), (9, .int (if x9 = 0 then 0 else (if (v17 - v19) = 0 then 1 else 0) : Int32)), (11, .int (v17 - v19)), (8, .int x8), (7, .int x7), (0, .ref t), (1, .int x1), (2, .int x2), (5, .int x5), (6, .int x6)] 160 dX8_isBending_157 rfl (by rw [kiconst_1]) (by decide) rfl rfl ?_
            refine V_goto 80 dX8_isBending_160 (by decide) ?_
            refine V_ls [(10, .int (x10 + 1)), (9, .int (if x9 = 0 then 0 else (if (v17 - v19) = 0 then 1 else 0) : Int32)), (8, .int x8), (7, .int x7), (0, .ref t), (1, .int x1), (2, .int x2), (5, .int x5), (6, .int x6)] [0, 1, 3, 4, 5, 6, 7, 8, 9] rfl ?_
            exact ih _ _ _ hf hk1 hk
          · rw [if_neg c24] at hf
            refine V_iconst 0 156 dX8_isBending_155 rfl kiconst_0 ?_
            have ep := Option.some.inj hf
            subst ep
            have er := hk1 _ rfl
            subst er
            exact V_zret (by decide) hQ rfl dX8_isBending_156
        refine V_if_eq 127 118 dX8_isBending_115 (by decide) rfl (fun c26 => ?_) (fun c26 => ?_)
        · refine V_iconst 0 128 dX8_isBending_127 rfl kiconst_0 ?_
          refine V_ls [(11, .int (v17 - v19)), (10, .int x10), (9, .int x9), (8, .int x8), (7, .int x7), (0, .ref t), (1, .int x1), (2, .int x2), (5, .int x5), (6, .int x6)] [0, 1, 2, 3, 4, 5, 6, 7, 8, 9] rfl ?_
          simp only [if_pos c26] at kj25
          exact kj25
        · refine V_iload 0 120 rfl dX8_isBending_118 rfl ?_
          refine V_if_ne 127 123 dX8_isBending_120 (by decide) rfl (fun c27 => ?_) (fun c27 => ?_)
          · refine V_iconst 0 128 dX8_isBending_127 rfl kiconst_0 ?_
            refine V_ls [(11, .int (v17 - v19)), (10, .int x10), (9, .int x9), (8, .int x8), (7, .int x7), (0, .ref t), (1, .int x1), (2, .int x2), (5, .int x5), (6, .int x6)] [0, 1, 2, 3, 4, 5, 6, 7, 8, 9] rfl ?_
            simp only [if_neg c26, if_neg c27] at kj25
            exact kj25
          · refine V_iconst 1 124 dX8_isBending_123 rfl kiconst_1 ?_
            refine V_goto 128 dX8_isBending_124 (by decide) ?_
            refine V_ls [(11, .int (v17 - v19)), (10, .int x10), (9, .int x9), (8, .int x8), (7, .int x7), (0, .ref t), (1, .int x1), (2, .int x2), (5, .int x5), (6, .int x6)] [0, 1, 2, 3, 4, 5, 6, 7, 8, 9] rfl ?_
            simp only [if_neg c26, if_pos c27] at kj25
            exact kj25
  by_cases hg : isO σ 7 t = true
  · rw [if_pos hg] at hf
    refine V_iload_n 3 1 rfl dX8_isBending_0 rfl rfl ?_
    refine V_iconst 1 2 dX8_isBending_1 rfl kiconst_1 ?_
    obtain ⟨v2, h1, hf⟩ := ob hf
    refine V_callS (rest := []) 0 0 5 [.int v2] (c_X8_has l G (d + 1) _ _ _ _ h1) (by omega) ok_X8_has oks_X8_has wd_ml_X8_137 rfl rfl (Nat.le_of_ble_eq_true rfl) rfl rfl (Or.inl ⟨rfl, rfl⟩) dX8_isBending_2 rfl rfl ?_
    have kj51 : V mi_X8_isBending l G (d + 3) 0 0 X 0 0 13 [(0, .ref t), (1, .int a0), (2, .int a1), (3, .int a2), (4, .int a3), (5, .int a4), (6, .int a5)] [.int (if v2 = 0 then 1 else (-1) : Int32)] σ := by
      refine V_istore [(7, .int (if v2 = 0 then 1 else (-1) : Int32)), (0, .ref t), (1, .int a0), (2, .int a1), (3, .int a2), (4, .int a3), (5, .int a4), (6, .int a5)] 15 dX8_isBending_13 (by decide) rfl rfl ?_
      refine V_iload_n 4 16 rfl dX8_isBending_15 rfl rfl ?_
      refine V_iconst 1 17 dX8_isBending_16 rfl kiconst_1 ?_
      obtain ⟨v4, h3, hf⟩ := ob hf
      refine V_callS (rest := []) 0 0 20 [.int v4] (c_X8_has l G (d + 1) _ _ _ _ h3) (by omega) ok_X8_has oks_X8_has wd_ml_X8_137 rfl rfl (Nat.le_of_ble_eq_true rfl) rfl rfl (Or.inl ⟨rfl, rfl⟩) dX8_isBending_17 rfl rfl ?_
      refine V_if_eq 38 23 dX8_isBending_20 (by decide) rfl (fun c5 => ?_) (fun c5 => ?_)
      · rw [if_pos c5] at hf
        refine V_iload 7 40 rfl dX8_isBending_38 rfl ?_
        refine V_aload_n 1 41 rfl dX8_isBending_40 rfl rfl ?_
        refine V_iload_n 2 42 rfl dX8_isBending_41 rfl rfl ?_
        obtain ⟨v7, h6, hf⟩ := ob hf
        refine V_callV (rest := [.int a5]) (T := TX8) (n := 27) (ci := 7) 0 0 45 [.int v7, .int a5] (c_X8_many l G (d + 0) _ _ _ _ h6) (by omega) ok_X8_many okv_X8_many (gd_X8_many h6) rfl wd_ml_X8_134 rfl rfl (Nat.le_of_ble_eq_true rfl) rfl rfl (Or.inl ⟨rfl, rfl⟩) dX8_isBending_42 rfl rfl ?_
        refine V_aload_n 1 46 rfl dX8_isBending_45 rfl rfl ?_
        refine V_iload_n 3 47 rfl dX8_isBending_46 rfl rfl ?_
        obtain ⟨v9, h8, hf⟩ := ob hf
        refine V_callV (rest := [.int v7, .int a5]) (T := TX8) (n := 27) (ci := 7) 0 0 50 [.int v9, .int v7, .int a5] (c_X8_many l G (d + 0) _ _ _ _ h8) (by omega) ok_X8_many okv_X8_many (gd_X8_many h8) rfl wd_ml_X8_134 rfl rfl (Nat.le_of_ble_eq_true rfl) rfl rfl (Or.inl ⟨rfl, rfl⟩) dX8_isBending_47 rfl rfl ?_
        refine V_isub 51 dX8_isBending_50 rfl ?_
        refine V_icmp_le 56 54 dX8_isBending_51 (by decide) rfl (fun c10 => ?_) (fun c10 => ?_)
        · rw [if_pos c10] at hf
          refine V_iload_n 4 57 rfl dX8_isBending_56 rfl rfl ?_
          refine V_iconst 0 58 dX8_isBending_57 rfl kiconst_0 ?_
          obtain ⟨v12, h11, hf⟩ := ob hf
          refine V_callS (rest := []) 0 0 61 [.int v12] (c_X8_has l G (d + 1) _ _ _ _ h11) (by omega) ok_X8_has oks_X8_has wd_ml_X8_137 rfl rfl (Nat.le_of_ble_eq_true rfl) rfl rfl (Or.inl ⟨rfl, rfl⟩) dX8_isBending_58 rfl rfl ?_
          have kj35 : V mi_X8_isBending l G (d + 3) 0 0 X 0 0 72 [(7, .int (if v2 = 0 then 1 else (-1) : Int32)), (0, .ref t), (1, .int a0), (2, .int a1), (3, .int a2), (4, .int a3), (5, .int a4), (6, .int a5)] [.int (if v12 = 0 then a3 else (-a3) : Int32)] σ := by
            refine V_istore [(8, .int (if v12 = 0 then a3 else (-a3) : Int32)), (7, .int (if v2 = 0 then 1 else (-1) : Int32)), (0, .ref t), (1, .int a0), (2, .int a1), (3, .int a2), (4, .int a3), (5, .int a4), (6, .int a5)] 74 dX8_isBending_72 (by decide) rfl rfl ?_
            refine V_iconst 1 75 dX8_isBending_74 rfl kiconst_1 ?_
            refine V_istore [(9, .int 1), (8, .int (if v12 = 0 then a3 else (-a3) : Int32)), (7, .int (if v2 = 0 then 1 else (-1) : Int32)), (0, .ref t), (1, .int a0), (2, .int a1), (3, .int a2), (4, .int a3), (5, .int a4), (6, .int a5)] 77 dX8_isBending_75 (by decide) rfl rfl ?_
            refine V_iconst 0 78 dX8_isBending_77 rfl kiconst_0 ?_
            refine V_istore [(10, .int 0), (9, .int 1), (8, .int (if v12 = 0 then a3 else (-a3) : Int32)), (7, .int (if v2 = 0 then 1 else (-1) : Int32)), (0, .ref t), (1, .int a0), (2, .int a1), (3, .int a2), (4, .int a3), (5, .int a4), (6, .int a5)] 80 dX8_isBending_78 (by decide) rfl rfl ?_
            obtain ⟨p28, h29, hf⟩ := ob hf
            refine V_ls [(10, .int 0), (9, .int 1), (8, .int (if v12 = 0 then a3 else (-a3) : Int32)), (7, .int (if v2 = 0 then 1 else (-1) : Int32)), (0, .ref t), (1, .int a0), (2, .int a1), (5, .int a4), (6, .int a5)] [0, 1, 2, 3, 4, 5, 6, 9, 10] rfl ?_
            refine L80 (if v12 = 0 then a3 else (-a3) : Int32) (if v2 = 0 then 1 else (-1) : Int32) a0 a1 a4 a5 3000 0 1 p28 h29 (fun v hv => ?_) (fun p30 hq => ?_)
            · subst hv
              cases hf
              rfl
            subst hq
            simp only [Sum.elim_inr] at hf
            refine V_iload 1 165 rfl dX8_isBending_163 rfl ?_
            have kj33 : V mi_X8_isBending l G (d + 3) 0 0 X 0 0 173 [(10, .int p30.1), (9, .int p30.2), (8, .int (if v12 = 0 then a3 else (-a3) : Int32)), (7, .int (if v2 = 0 then 1 else (-1) : Int32)), (0, .ref t), (1, .int a0), (2, .int a1), (5, .int a4), (6, .int a5)] [.int (if p30.2 = 0 then 1 else 0 : Int32)] σ := by
              obtain ⟨z31, h32, hf⟩ := ob hf
              have er := Option.some.inj hf
              subst er
              exact V_zret (zr_ok h32) hQ rfl dX8_isBending_173
            refine V_if_ne 172 168 dX8_isBending_165 (by decide) rfl (fun c34 => ?_) (fun c34 => ?_)
            · refine V_iconst 0 173 dX8_isBending_172 rfl kiconst_0 ?_
              refine V_ls [(10, .int p30.1), (9, .int p30.2), (8, .int (if v12 = 0 then a3 else (-a3) : Int32)), (7, .int (if v2 = 0 then 1 else (-1) : Int32)), (0, .ref t), (1, .int a0), (2, .int a1), (5, .int a4), (6, .int a5)] [0, 1, 2, 3, 4, 5, 6, 7, 8] rfl ?_
              simp only [if_neg c34] at kj33
              exact kj33
            · refine V_iconst 1 169 dX8_isBending_168 rfl kiconst_1 ?_
              refine V_goto 173 dX8_isBending_169 (by decide) ?_
              refine V_ls [(10, .int p30.1), (9, .int p30.2), (8, .int (if v12 = 0 then a3 else (-a3) : Int32)), (7, .int (if v2 = 0 then 1 else (-1) : Int32)), (0, .ref t), (1, .int a0), (2, .int a1), (5, .int a4), (6, .int a5)] [0, 1, 2, 3, 4, 5, 6, 7, 8] rfl ?_
              simp only [if_pos c34] at kj33
              exact kj33
          refine V_if_eq 70 64 dX8_isBending_61 (by decide) rfl (fun c36 => ?_) (fun c36 => ?_)
          · refine V_iload 5 72 rfl dX8_isBending_70 rfl ?_
            refine V_ls [(7, .int (if v2 = 0 then 1 else (-1) : Int32)), (0, .ref t), (1, .int a0), (2, .int a1), (3, .int a2), (4, .int a3), (5, .int a4), (6, .int a5)] [0, 1, 2, 3, 4, 5, 6, 7] rfl ?_
            simp only [if_pos c36] at kj35
            exact kj35
          · refine V_iload 5 66 rfl dX8_isBending_64 rfl ?_
            refine V_ineg 67 dX8_isBending_66 rfl ?_
            refine V_goto 72 dX8_isBending_67 (by decide) ?_
            refine V_ls [(7, .int (if v2 = 0 then 1 else (-1) : Int32)), (0, .ref t), (1, .int a0), (2, .int a1), (3, .int a2), (4, .int a3), (5, .int a4), (6, .int a5)] [0, 1, 2, 3, 4, 5, 6, 7] rfl ?_
            simp only [if_neg c36] at kj35
            exact kj35
        · rw [if_neg c10] at hf
          refine V_iconst 0 55 dX8_isBending_54 rfl kiconst_0 ?_
          have er := Option.some.inj hf
          subst er
          exact V_zret (by decide) hQ rfl dX8_isBending_55
      · rw [if_neg c5] at hf
        refine V_iload 7 25 rfl dX8_isBending_23 rfl ?_
        refine V_aload_n 1 26 rfl dX8_isBending_25 rfl rfl ?_
        refine V_iload_n 3 27 rfl dX8_isBending_26 rfl rfl ?_
        obtain ⟨v38, h37, hf⟩ := ob hf
        refine V_callV (rest := [.int a5]) (T := TX8) (n := 27) (ci := 7) 0 0 30 [.int v38, .int a5] (c_X8_many l G (d + 0) _ _ _ _ h37) (by omega) ok_X8_many okv_X8_many (gd_X8_many h37) rfl wd_ml_X8_134 rfl rfl (Nat.le_of_ble_eq_true rfl) rfl rfl (Or.inl ⟨rfl, rfl⟩) dX8_isBending_27 rfl rfl ?_
        refine V_iconst 1 31 dX8_isBending_30 rfl kiconst_1 ?_
        refine V_isub 32 dX8_isBending_31 rfl ?_
        refine V_icmp_ge 56 35 dX8_isBending_32 (by decide) rfl (fun c39 => ?_) (fun c39 => ?_)
        · rw [if_pos c39] at hf
          refine V_iload_n 4 57 rfl dX8_isBending_56 rfl rfl ?_
          refine V_iconst 0 58 dX8_isBending_57 rfl kiconst_0 ?_
          obtain ⟨v41, h40, hf⟩ := ob hf
          refine V_callS (rest := []) 0 0 61 [.int v41] (c_X8_has l G (d + 1) _ _ _ _ h40) (by omega) ok_X8_has oks_X8_has wd_ml_X8_137 rfl rfl (Nat.le_of_ble_eq_true rfl) rfl rfl (Or.inl ⟨rfl, rfl⟩) dX8_isBending_58 rfl rfl ?_
          have kj49 : V mi_X8_isBending l G (d + 3) 0 0 X 0 0 72 [(7, .int (if v2 = 0 then 1 else (-1) : Int32)), (0, .ref t), (1, .int a0), (2, .int a1), (3, .int a2), (4, .int a3), (5, .int a4), (6, .int a5)] [.int (if v41 = 0 then a3 else (-a3) : Int32)] σ := by
            refine V_istore [(8, .int (if v41 = 0 then a3 else (-a3) : Int32)), (7, .int (if v2 = 0 then 1 else (-1) : Int32)), (0, .ref t), (1, .int a0), (2, .int a1), (3, .int a2), (4, .int a3), (5, .int a4), (6, .int a5)] 74 dX8_isBending_72 (by decide) rfl rfl ?_
            refine V_iconst 1 75 dX8_isBending_74 rfl kiconst_1 ?_
            refine V_istore [(9, .int 1), (8, .int (if v41 = 0 then a3 else (-a3) : Int32)), (7, .int (if v2 = 0 then 1 else (-1) : Int32)), (0, .ref t), (1, .int a0), (2, .int a1), (3, .int a2), (4, .int a3), (5, .int a4), (6, .int a5)] 77 dX8_isBending_75 (by decide) rfl rfl ?_
            refine V_iconst 0 78 dX8_isBending_77 rfl kiconst_0 ?_
            refine V_istore [(10, .int 0), (9, .int 1), (8, .int (if v41 = 0 then a3 else (-a3) : Int32)), (7, .int (if v2 = 0 then 1 else (-1) : Int32)), (0, .ref t), (1, .int a0), (2, .int a1), (3, .int a2), (4, .int a3), (5, .int a4), (6, .int a5)] 80 dX8_isBending_78 (by decide) rfl rfl ?_
            obtain ⟨p42, h43, hf⟩ := ob hf
            refine V_ls [(10, .int 0), (9, .int 1), (8, .int (if v41 = 0 then a3 else (-a3) : Int32)), (7, .int (if v2 = 0 then 1 else (-1) : Int32)), (0, .ref t), (1, .int a0), (2, .int a1), (5, .int a4), (6, .int a5)] [0, 1, 2, 3, 4, 5, 6, 9, 10] rfl ?_
            refine L80 (if v41 = 0 then a3 else (-a3) : Int32) (if v2 = 0 then 1 else (-1) : Int32) a0 a1 a4 a5 3000 0 1 p42 h43 (fun v hv => ?_) (fun p44 hq => ?_)
            · subst hv
              cases hf
              rfl
            subst hq
            simp only [Sum.elim_inr] at hf
            refine V_iload 1 165 rfl dX8_isBending_163 rfl ?_
            have kj47 : V mi_X8_isBending l G (d + 3) 0 0 X 0 0 173 [(10, .int p44.1), (9, .int p44.2), (8, .int (if v41 = 0 then a3 else (-a3) : Int32)), (7, .int (if v2 = 0 then 1 else (-1) : Int32)), (0, .ref t), (1, .int a0), (2, .int a1), (5, .int a4), (6, .int a5)] [.int (if p44.2 = 0 then 1 else 0 : Int32)] σ := by
              obtain ⟨z45, h46, hf⟩ := ob hf
              have er := Option.some.inj hf
              subst er
              exact V_zret (zr_ok h46) hQ rfl dX8_isBending_173
            refine V_if_ne 172 168 dX8_isBending_165 (by decide) rfl (fun c48 => ?_) (fun c48 => ?_)
            · refine V_iconst 0 173 dX8_isBending_172 rfl kiconst_0 ?_
              refine V_ls [(10, .int p44.1), (9, .int p44.2), (8, .int (if v41 = 0 then a3 else (-a3) : Int32)), (7, .int (if v2 = 0 then 1 else (-1) : Int32)), (0, .ref t), (1, .int a0), (2, .int a1), (5, .int a4), (6, .int a5)] [0, 1, 2, 3, 4, 5, 6, 7, 8] rfl ?_
              simp only [if_neg c48] at kj47
              exact kj47
            · refine V_iconst 1 169 dX8_isBending_168 rfl kiconst_1 ?_
              refine V_goto 173 dX8_isBending_169 (by decide) ?_
              refine V_ls [(10, .int p44.1), (9, .int p44.2), (8, .int (if v41 = 0 then a3 else (-a3) : Int32)), (7, .int (if v2 = 0 then 1 else (-1) : Int32)), (0, .ref t), (1, .int a0), (2, .int a1), (5, .int a4), (6, .int a5)] [0, 1, 2, 3, 4, 5, 6, 7, 8] rfl ?_
              simp only [if_pos c48] at kj47
              exact kj47
          refine V_if_eq 70 64 dX8_isBending_61 (by decide) rfl (fun c50 => ?_) (fun c50 => ?_)
          · refine V_iload 5 72 rfl dX8_isBending_70 rfl ?_
            refine V_ls [(7, .int (if v2 = 0 then 1 else (-1) : Int32)), (0, .ref t), (1, .int a0), (2, .int a1), (3, .int a2), (4, .int a3), (5, .int a4), (6, .int a5)] [0, 1, 2, 3, 4, 5, 6, 7] rfl ?_
            simp only [if_pos c50] at kj49
            exact kj49
          · refine V_iload 5 66 rfl dX8_isBending_64 rfl ?_
            refine V_ineg 67 dX8_isBending_66 rfl ?_
            refine V_goto 72 dX8_isBending_67 (by decide) ?_
            refine V_ls [(7, .int (if v2 = 0 then 1 else (-1) : Int32)), (0, .ref t), (1, .int a0), (2, .int a1), (3, .int a2), (4, .int a3), (5, .int a4), (6, .int a5)] [0, 1, 2, 3, 4, 5, 6, 7] rfl ?_
            simp only [if_neg c50] at kj49
            exact kj49
        · rw [if_neg c39] at hf
          refine V_goto 54 dX8_isBending_35 (by decide) ?_
          refine V_iconst 0 55 dX8_isBending_54 rfl kiconst_0 ?_
          have er := Option.some.inj hf
          subst er
          exact V_zret (by decide) hQ rfl dX8_isBending_55
    refine V_if_eq 12 8 dX8_isBending_5 (by decide) rfl (fun c52 => ?_) (fun c52 => ?_)
    · refine V_iconst 1 13 dX8_isBending_12 rfl kiconst_1 ?_
      refine V_ls [(0, .ref t), (1, .int a0), (2, .int a1), (3, .int a2), (4, .int a3), (5, .int a4), (6, .int a5)] [0, 1, 2, 3, 4, 5, 6] rfl ?_
      simp only [if_pos c52] at kj51
      exact kj51
    · refine V_iconst (-1) 9 dX8_isBending_8 rfl kiconst_m1 ?_
      refine V_goto 13 dX8_isBending_9 (by decide) ?_
      refine V_ls [(0, .ref t), (1, .int a0), (2, .int a1), (3, .int a2), (4, .int a3), (5, .int a4), (6, .int a5)] [0, 1, 2, 3, 4, 5, 6] rfl ?_
      simp only [if_neg c52] at kj51
      exact kj51
  · rw [if_neg hg] at hf
    cases hf
abbrev mi_X8_findBendings : MI := (yX8_findBendings, cX8_findBendings, 9, none)
theorem ok_X8_findBendings : OkN mi_X8_findBendings 4 := ⟨wd_cd_X8_findBendings, wd_in_X8, ⟨by decide +kernel, by decide +kernel, by decide +kernel⟩, by decide⟩
theorem okv_X8_findBendings : Cond.instanceMethod (mi_X8_findBendings).1 ∈ tb ∧ Cond.selects (mi_X8_findBendings).1.cls (mi_X8_findBendings).1 (mi_X8_findBendings).1 ∈ tb := ⟨wd_im_X8_findBendings, wd_se_X8_findBendings⟩
def f_X8_findBendings_L35 (x7 : Int32) (x6 : Int32) (x5 : Int32) (t : Nat) (x1 : Int32) (x2 : Int32) (x4 : Int32) : Nat → Int32 → St → Option ((St) ⊕ (Int32 × St))
  | 0, _, _ => none
  | n + 1, x8, σ => (f_X8_many σ t x1).bind fun v7 => if v7 ≤ x8 then (some (.inr (x8, σ))) else ((g_X8_divisor σ x6 x7).bind fun v10 => if v10 = 1 then ((f_X8_isBending σ t x1 x2 x5 x6 x7 x8).bind fun v13 => if v13 = 0 then (f_X8_findBendings_L35 x7 x6 x5 t x1 x2 x4 n (x8 + 1) σ) else ((gI σ 7 t 14).bind fun v16 => if v16 = 0 then ((gQ σ 7 t 15).bind fun q24 => (sI σ q24 0 (x5 / 2)).bind fun s26 => (gQ s26 7 t 15).bind fun q28 => (sI s26 q28 1 (irm x5 2)).bind fun s30 => (gQ s30 7 t 15).bind fun q32 => (sI s30 q32 2 x6).bind fun s34 => (gQ s34 7 t 15).bind fun q36 => (sI s34 q36 3 x7).bind fun s38 => (gQ s38 7 t 15).bind fun q40 => (sI s38 q40 4 x8).bind fun s42 => (gI s42 7 t 14).bind fun v44 => (pI s42 7 t 14 (v44 + 1)).bind fun s46 => if x4 = 0 then (f_X8_findBendings_L35 x7 x6 x5 t x1 x2 x4 n (x8 + 1) s46) else (some (.inl s46))) else ((gI σ 7 t 14).bind fun v19 => (pI σ 7 t 14 (v19 + 1)).bind fun s21 => if x4 = 0 then (f_X8_findBendings_L35 x7 x6 x5 t x1 x2 x4 n (x8 + 1) s21) else (some (.inl s21))))) else (some (.inr (x8, σ))))
def f_X8_findBendings_L26 (x6 : Int32) (x5 : Int32) (t : Nat) (x1 : Int32) (x2 : Int32) (x3 : Int32) (x4 : Int32) : Nat → Int32 → St → Option ((St) ⊕ (Int32 × St))
  | 0, _, _ => none
  | n + 1, x7, σ => if x3 < x7 then (some (.inr (x7, σ))) else ((f_X8_findBendings_L35 x7 x6 x5 t x1 x2 x4 3000 0 σ).bind fun p48 => Sum.elim (fun v => some (.inl v)) (fun p50 => f_X8_findBendings_L26 x6 x5 t x1 x2 x3 x4 n (x7 + 1) p50.2) p48)
def f_X8_findBendings_L17 (x5 : Int32) (t : Nat) (x1 : Int32) (x2 : Int32) (x3 : Int32) (x4 : Int32) : Nat → Int32 → St → Option ((St) ⊕ (Int32 × St))
  | 0, _, _ => none
  | n + 1, x6, σ => if x3 < x6 then (some (.inr (x6, σ))) else ((f_X8_findBendings_L26 x6 x5 t x1 x2 x3 x4 3000 1 σ).bind fun p51 => Sum.elim (fun v => some (.inl v)) (fun p53 => f_X8_findBendings_L17 x5 t x1 x2 x3 x4 n (x6 + 1) p53.2) p51)
def f_X8_findBendings_L8 (t : Nat) (x1 : Int32) (x2 : Int32) (x3 : Int32) (x4 : Int32) : Nat → Int32 → St → Option ((St) ⊕ (Int32 × St))
  | 0, _, _ => none
  | n + 1, x5, σ => if 4 ≤ x5 then (some (.inr (x5, σ))) else ((f_X8_findBendings_L17 x5 t x1 x2 x3 x4 3000 1 σ).bind fun p54 => Sum.elim (fun v => some (.inl v)) (fun p56 => f_X8_findBendings_L8 t x1 x2 x3 x4 n (x5 + 1) p56.2) p54)
def f_X8_findBendings (σ : St) (t : Nat) (a0 : Int32) (a1 : Int32) (a2 : Int32) (a3 : Int32) : Option St := if isO σ 7 t = true then ((pI σ 7 t 14 0).bind fun s2 => (f_X8_findBendings_L8 t a0 a1 a2 a3 3000 0 s2).bind fun p57 => Sum.elim (some) (fun p59 => some p59.2) p57) else none
theorem gd_X8_findBendings {σ : St} {t : Nat} {a0 : Int32} {a1 : Int32} {a2 : Int32} {a3 : Int32} {r : St} (h : f_X8_findBendings σ t a0 a1 a2 a3 = some r) : isO σ 7 t = true := by
  unfold f_X8_findBendings at h
  by_cases hg : isO σ 7 t = true
  · exact hg
  · rw [if_neg hg] at h
    cases h
set_option maxRecDepth 100000 in
set_option maxHeartbeats 4000000 in
theorem c_X8_findBendings (l : Launch) (G : Gd) (d : Nat) (σ : St) (t : Nat) (a0 : Int32) (a1 : Int32) (a2 : Int32) (a3 : Int32) (σ' : St) (hf : f_X8_findBendings σ t a0 a1 a2 a3 = some σ') : MetV l G (d + 61) mi_X8_findBendings [.ref t, .int a0, .int a1, .int a2, .int a3] σ none σ' 0 0 := by
  unfold f_X8_findBendings at hf
  refine MetV.of [(0, .ref t), (1, .int a0), (2, .int a1), (3, .int a2), (4, .int a3)] (by decide +kernel) rfl (Nat.le_of_ble_eq_true rfl) ?_
  intro X hQ
  have L35 : ∀ (x7 : Int32) (x6 : Int32) (x5 : Int32) (x1 : Int32) (x2 : Int32) (x3 : Int32) (x4 : Int32) (n : Nat) (x8 : Int32) (σ : St) (p : (St) ⊕ (Int32 × St)), f_X8_findBendings_L35 x7 x6 x5 t x1 x2 x4 n x8 σ = some p → (∀ v, p = .inl v → v = σ') → (∀ q, p = .inr q → V mi_X8_findBendings l G (d + 61) 0 0 X 0 0 146 [(8, .int q.1), (7, .int x7), (6, .int x6), (5, .int x5), (0, .ref t), (1, .int x1), (2, .int x2), (3, .int x3), (4, .int x4)] [] q.2) → V mi_X8_findBendings l G (d + 61) 0 0 X 0 0 35 [(8, .int x8), (7, .int x7), (6, .int x6), (5, .int x5), (0, .ref t), (1, .int x1), (2, .int x2), (3, .int x3), (4, .int x4)] [] σ := by
    intro x7 x6 x5 x1 x2 x3 x4 n
    induction n with
    | zero =>
      intro x8 σ p hf
      exact absurd (show (none : Option _) = some p from hf) (by simp)
    | succ n ih =>
      intro x8 σ p hf hk1 hk
      rw [f_X8_findBendings_L35] at hf
      refine V_iload 0 37 rfl dX8_findBendings_35 rfl ?_
      refine V_aload_n 4 38 rfl dX8_findBendings_37 rfl rfl ?_
      refine V_iload_n 5 39 rfl dX8_findBendings_38 rfl rfl ?_
      obtain ⟨v7, h6, hf⟩ := ob hf
      refine V_callV (rest := [.int x8]) (T := TX8) (n := 27) (ci := 7) 0 0 42 [.int v7, .int x8] (c_X8_many l G (d + 58) _ _ _ _ h6) (by omega) ok_X8_many okv_X8_many (gd_X8_many h6) rfl wd_ml_X8_134 rfl rfl (Nat.le_of_ble_eq_true rfl) rfl rfl (Or.inl ⟨rfl, rfl⟩) dX8_findBendings_39 rfl rfl ?_
      refine V_icmp_ge 146 45 dX8_findBendings_42 (by decide) rfl (fun c8 => ?_) (fun c8 => ?_)
      · rw [if_pos c8] at hf
        have ep := Option.some.inj hf
        subst ep
        refine V_ls [(8, .int x8), (7, .int x7), (6, .int x6), (5, .int x5), (0, .ref t), (1, .int x1), (2, .int x2), (3, .int x3), (4, .int x4)] [0, 1, 2, 3, 4, 5, 6, 7, 8] rfl ?_
        exact hk _ rfl
      · rw [if_neg c8] at hf
        refine V_iload 2 47 rfl dX8_findBendings_45 rfl ?_
        refine V_iload 1 49 rfl dX8_findBendings_47 rfl ?_
        obtain ⟨v10, h9, hf⟩ := ob hf
        refine V_callS (rest := []) 0 0 52 [.int v10] (c_X8_divisor l G (d + 0) _ _ _ _ h9) (by omega) ok_X8_divisor oks_X8_divisor wd_ml_X8_228 rfl rfl (Nat.le_of_ble_eq_true rfl) rfl rfl (Or.inl ⟨rfl, rfl⟩) dX8_findBendings_49 rfl rfl ?_
        refine V_iconst 1 53 dX8_findBendings_52 rfl kiconst_1 ?_
        refine V_icmp_ne 146 56 dX8_findBendings_53 (by decide) rfl (fun c11 => ?_) (fun c11 => ?_)
        · rw [if_neg c11] at hf
          have ep := Option.some.inj hf
          subst ep
          refine V_ls [(8, .int x8), (7, .int x7), (6, .int x6), (5, .int x5), (0, .ref t), (1, .int x1), (2, .int x2), (3, .int x3), (4, .int x4)] [0, 1, 2, 3, 4, 5, 6, 7, 8] rfl ?_
          exact hk _ rfl
        · rw [if_pos c11] at hf
          refine V_aload_n 4 57 rfl dX8_findBendings_56 rfl rfl ?_
          refine V_iload_n 5 58 rfl dX8_findBendings_57 rfl rfl ?_
          refine V_iload_n 6 59 rfl dX8_findBendings_58 rfl rfl ?_
          refine V_iload 3 61 rfl dX8_findBendings_59 rfl ?_
          refine V_iload 2 63 rfl dX8_findBendings_61 rfl ?_
          refine V_iload 1 65 rfl dX8_findBendings_63 rfl ?_
          refine V_iload 0 67 rfl dX8_findBendings_65 rfl ?_
          obtain ⟨v13, h12, hf⟩ := ob hf
          refine V_callV (rest := []) (T := TX8) (n := 27) (ci := 7) 0 0 70 [.int v13] (c_X8_isBending l G (d + 57) _ _ _ _ _ _ _ _ _ h12) (by omega) ok_X8_isBending okv_X8_isBending (gd_X8_isBending h12) rfl wd_ml_X8_234 rfl rfl (Nat.le_of_ble_eq_true rfl) rfl rfl (Or.inl ⟨rfl, rfl⟩) dX8_findBendings_67 rfl rfl ?_
          refine V_if_eq 140 73 dX8_findBendings_70 (by decide) rfl (fun c14 => ?_) (fun c14 => ?_)
          · rw [if_pos c14] at hf
            refine V_iinc (x8 + 1) 0 [(8, .int (x8 + 1)), (7, .int x7), (6, .int x6), (5, .int x5), (0, .ref t), (1, .int x1), (2, .int x2), (3, .int x3), (4, .int x4)] 143 dX8_findBendings_140 rfl (by rw [kiconst_1]) (by decide) rfl rfl ?_
            refine V_goto 35 dX8_findBendings_143 (by decide) ?_
            refine V_ls [(8, .int (x8 + 1)), (7, .int x7), (6, .int x6), (5, .int x5), (0, .ref t), (1, .int x1), (2, .int x2), (3, .int x3), (4, .int x4)] [0, 1, 2, 3, 4, 5, 6, 7, 8] rfl ?_
            exact ih _ _ _ hf hk1 hk
          · rw [if_neg c14] at hf
            refine V_aload_n 4 74 rfl dX8_findBendings_73 rfl rfl ?_
            obtain ⟨v16, h15, hf⟩ := ob hf
            refine V_getI (n := 27) (ty := tyX8) 77 h15 cf_7 rfl wd_fl_X8_231 dX8_findBendings_74 rfl ?_
            refine V_if_ne 124 80 dX8_findBendings_77 (by decide) rfl (fun c17 => ?_) (fun c17 => ?_)
            · rw [if_neg c17] at hf
              refine V_aload_n 4 125 rfl dX8_findBendings_124 rfl rfl ?_
              refine V_dup 126 dX8_findBendings_125 rfl rfl ?_
              obtain ⟨v19, h18, hf⟩ := ob hf
              refine V_getI (n := 27) (ty := tyX8) 129 h18 cf_7 rfl wd_fl_X8_231 dX8_findBendings_126 rfl ?_
              refine V_iconst 1 130 dX8_findBendings_129 rfl kiconst_1 ?_
              refine V_iadd 131 dX8_findBendings_130 rfl ?_
              obtain ⟨s21, h20, hf⟩ := ob hf
              refine V_putI (n := 27) (T := TX8) (ty := tyX8) (f := 14) 134 h20 cf_7 rfl rfl (Or.inl rfl) wd_fl_X8_231 dX8_findBendings_131 rfl ?_
              refine V_iload 8 136 rfl dX8_findBendings_134 rfl ?_
              refine V_if_eq 140 139 dX8_findBendings_136 (by decide) rfl (fun c22 => ?_) (fun c22 => ?_)
              · rw [if_pos c22] at hf
                refine V_iinc (x8 + 1) 0 [(8, .int (x8 + 1)), (7, .int x7), (6, .int x6), (5, .int x5), (0, .ref t), (1, .int x1), (2, .int x2), (3, .int x3), (4, .int x4)] 143 dX8_findBendings_140 rfl (by rw [kiconst_1]) (by decide) rfl rfl ?_
                refine V_goto 35 dX8_findBendings_143 (by decide) ?_
                refine V_ls [(8, .int (x8 + 1)), (7, .int x7), (6, .int x6), (5, .int x5), (0, .ref t), (1, .int x1), (2, .int x2), (3, .int x3), (4, .int x4)] [0, 1, 2, 3, 4, 5, 6, 7, 8] rfl ?_
                exact ih _ _ _ hf hk1 hk
              · rw [if_neg c22] at hf
                have ep := Option.some.inj hf
                subst ep
                have er := hk1 _ rfl
                subst er
                exact V_vret hQ rfl dX8_findBendings_139
            · rw [if_pos c17] at hf
              refine V_aload_n 4 81 rfl dX8_findBendings_80 rfl rfl ?_
              obtain ⟨q24, h23, hf⟩ := ob hf
              refine V_getQ (n := 27) (ty := tyX8) 84 h23 cf_7 rfl wd_fl_X8_40 dX8_findBendings_81 rfl ?_
              refine V_iconst 0 85 dX8_findBendings_84 rfl kiconst_0 ?_
              refine V_iload 3 87 rfl dX8_findBendings_85 rfl ?_
              refine V_iconst 2 88 dX8_findBendings_87 rfl kiconst_2 ?_
              refine V_idiv 89 dX8_findBendings_88 rfl (by decide) ?_
              obtain ⟨s26, h25, hf⟩ := ob hf
              refine V_iast 90 h25 dX8_findBendings_89 rfl ?_
              refine V_aload_n 4 91 rfl dX8_findBendings_90 rfl rfl ?_
              obtain ⟨q28, h27, hf⟩ := ob hf
              refine V_getQ (n := 27) (ty := tyX8) 94 h27 cf_7 rfl wd_fl_X8_40 dX8_findBendings_91 rfl ?_
              refine V_iconst 1 95 dX8_findBendings_94 rfl kiconst_1 ?_
              refine V_iload 3 97 rfl dX8_findBendings_95 rfl ?_
              refine V_iconst 2 98 dX8_findBendings_97 rfl kiconst_2 ?_
              refine V_irem 99 dX8_findBendings_98 rfl (by decide) ?_
              obtain ⟨s30, h29, hf⟩ := ob hf
              refine V_iast 100 h29 dX8_findBendings_99 rfl ?_
              refine V_aload_n 4 101 rfl dX8_findBendings_100 rfl rfl ?_
              obtain ⟨q32, h31, hf⟩ := ob hf
              refine V_getQ (n := 27) (ty := tyX8) 104 h31 cf_7 rfl wd_fl_X8_40 dX8_findBendings_101 rfl ?_
              refine V_iconst 2 105 dX8_findBendings_104 rfl kiconst_2 ?_
              refine V_iload 2 107 rfl dX8_findBendings_105 rfl ?_
              obtain ⟨s34, h33, hf⟩ := ob hf
              refine V_iast 108 h33 dX8_findBendings_107 rfl ?_
              refine V_aload_n 4 109 rfl dX8_findBendings_108 rfl rfl ?_
              obtain ⟨q36, h35, hf⟩ := ob hf
              refine V_getQ (n := 27) (ty := tyX8) 112 h35 cf_7 rfl wd_fl_X8_40 dX8_findBendings_109 rfl ?_
              refine V_iconst 3 113 dX8_findBendings_112 rfl kiconst_3 ?_
              refine V_iload 1 115 rfl dX8_findBendings_113 rfl ?_
              obtain ⟨s38, h37, hf⟩ := ob hf
              refine V_iast 116 h37 dX8_findBendings_115 rfl ?_
              refine V_aload_n 4 117 rfl dX8_findBendings_116 rfl rfl ?_
              obtain ⟨q40, h39, hf⟩ := ob hf
              refine V_getQ (n := 27) (ty := tyX8) 120 h39 cf_7 rfl wd_fl_X8_40 dX8_findBendings_117 rfl ?_
              refine V_iconst 4 121 dX8_findBendings_120 rfl kiconst_4 ?_
              refine V_iload 0 123 rfl dX8_findBendings_121 rfl ?_
              obtain ⟨s42, h41, hf⟩ := ob hf
              refine V_iast 124 h41 dX8_findBendings_123 rfl ?_
              refine V_aload_n 4 125 rfl dX8_findBendings_124 rfl rfl ?_
              refine V_dup 126 dX8_findBendings_125 rfl rfl ?_
              obtain ⟨v44, h43, hf⟩ := ob hf
              refine V_getI (n := 27) (ty := tyX8) 129 h43 cf_7 rfl wd_fl_X8_231 dX8_findBendings_126 rfl ?_
              refine V_iconst 1 130 dX8_findBendings_129 rfl kiconst_1 ?_
              refine V_iadd 131 dX8_findBendings_130 rfl ?_
              obtain ⟨s46, h45, hf⟩ := ob hf
              refine V_putI (n := 27) (T := TX8) (ty := tyX8) (f := 14) 134 h45 cf_7 rfl rfl (Or.inl rfl) wd_fl_X8_231 dX8_findBendings_131 rfl ?_
              refine V_iload 8 136 rfl dX8_findBendings_134 rfl ?_
              refine V_if_eq 140 139 dX8_findBendings_136 (by decide) rfl (fun c47 => ?_) (fun c47 => ?_)
              · rw [if_pos c47] at hf
                refine V_iinc (x8 + 1) 0 [(8, .int (x8 + 1)), (7, .int x7), (6, .int x6), (5, .int x5), (0, .ref t), (1, .int x1), (2, .int x2), (3, .int x3), (4, .int x4)] 143 dX8_findBendings_140 rfl (by rw [kiconst_1]) (by decide) rfl rfl ?_
                refine V_goto 35 dX8_findBendings_143 (by decide) ?_
                refine V_ls [(8, .int (x8 + 1)), (7, .int x7), (6, .int x6), (5, .int x5), (0, .ref t), (1, .int x1), (2, .int x2), (3, .int x3), (4, .int x4)] [0, 1, 2, 3, 4, 5, 6, 7, 8] rfl ?_
                exact ih _ _ _ hf hk1 hk
              · rw [if_neg c47] at hf
                have ep := Option.some.inj hf
                subst ep
                have er := hk1 _ rfl
                subst er
                exact V_vret hQ rfl dX8_findBendings_139
  have L26 : ∀ (x6 : Int32) (x5 : Int32) (x1 : Int32) (x2 : Int32) (x3 : Int32) (x4 : Int32) (n : Nat) (x7 : Int32) (σ : St) (p : (St) ⊕ (Int32 × St)), f_X8_findBendings_L26 x6 x5 t x1 x2 x3 x4 n x7 σ = some p → (∀ v, p = .inl v → v = σ') → (∀ q, p = .inr q → V mi_X8_findBendings l G (d + 61) 0 0 X 0 0 152 [(7, .int q.1), (6, .int x6), (5, .int x5), (0, .ref t), (1, .int x1), (2, .int x2), (3, .int x3), (4, .int x4)] [] q.2) → V mi_X8_findBendings l G (d + 61) 0 0 X 0 0 26 [(7, .int x7), (6, .int x6), (5, .int x5), (0, .ref t), (1, .int x1), (2, .int x2), (3, .int x3), (4, .int x4)] [] σ := by
    intro x6 x5 x1 x2 x3 x4 n
    induction n with
    | zero =>
      intro x7 σ p hf
      exact absurd (show (none : Option _) = some p from hf) (by simp)
    | succ n ih =>
      intro x7 σ p hf hk1 hk
      rw [f_X8_findBendings_L26] at hf
      refine V_iload 0 28 rfl dX8_findBendings_26 rfl ?_
      refine V_iload_n 6 29 rfl dX8_findBendings_28 rfl rfl ?_
      refine V_icmp_gt 152 32 dX8_findBendings_29 (by decide) rfl (fun c5 => ?_) (fun c5 => ?_)
      · rw [if_pos c5] at hf
        have ep := Option.some.inj hf
        subst ep
        refine V_ls [(7, .int x7), (6, .int x6), (5, .int x5), (0, .ref t), (1, .int x1), (2, .int x2), (3, .int x3), (4, .int x4)] [0, 1, 2, 3, 4, 5, 6, 7] rfl ?_
        exact hk _ rfl
      · rw [if_neg c5] at hf
        refine V_iconst 0 33 dX8_findBendings_32 rfl kiconst_0 ?_
        refine V_istore [(8, .int 0), (7, .int x7), (6, .int x6), (5, .int x5), (0, .ref t), (1, .int x1), (2, .int x2), (3, .int x3), (4, .int x4)] 35 dX8_findBendings_33 (by decide) rfl rfl ?_
        obtain ⟨p48, h49, hf⟩ := ob hf
        refine V_ls [(8, .int 0), (7, .int x7), (6, .int x6), (5, .int x5), (0, .ref t), (1, .int x1), (2, .int x2), (3, .int x3), (4, .int x4)] [0, 1, 2, 3, 4, 5, 6, 7, 8] rfl ?_
        refine L35 x7 x6 x5 x1 x2 x3 x4 3000 0 σ p48 h49 (fun v hv => ?_) (fun p50 hq => ?_)
        · subst hv
          cases hf
          exact hk1 _ rfl
        subst hq
        simp only [Sum.elim_inr] at hf
        refine V_iinc (x7 + 1) 1 [(7, .int (x7 + 1)), (8, .int p50.1), (6, .int x6), (5, .int x5), (0, .ref t), (1, .int x1), (2, .int x2), (3, .int x3), (4, .int x4)] 149 dX8_findBendings_146 rfl (by rw [kiconst_1]) (by decide) rfl rfl ?_
        refine V_goto 26 dX8_findBendings_149 (by decide) ?_
        refine V_ls [(7, .int (x7 + 1)), (6, .int x6), (5, .int x5), (0, .ref t), (1, .int x1), (2, .int x2), (3, .int x3), (4, .int x4)] [0, 2, 3, 4, 5, 6, 7, 8] rfl ?_
        exact ih _ _ _ hf hk1 hk
  have L17 : ∀ (x5 : Int32) (x1 : Int32) (x2 : Int32) (x3 : Int32) (x4 : Int32) (n : Nat) (x6 : Int32) (σ : St) (p : (St) ⊕ (Int32 × St)), f_X8_findBendings_L17 x5 t x1 x2 x3 x4 n x6 σ = some p → (∀ v, p = .inl v → v = σ') → (∀ q, p = .inr q → V mi_X8_findBendings l G (d + 61) 0 0 X 0 0 158 [(6, .int q.1), (5, .int x5), (0, .ref t), (1, .int x1), (2, .int x2), (3, .int x3), (4, .int x4)] [] q.2) → V mi_X8_findBendings l G (d + 61) 0 0 X 0 0 17 [(6, .int x6), (5, .int x5), (0, .ref t), (1, .int x1), (2, .int x2), (3, .int x3), (4, .int x4)] [] σ := by
    intro x5 x1 x2 x3 x4 n
    induction n with
    | zero =>
      intro x6 σ p hf
      exact absurd (show (none : Option _) = some p from hf) (by simp)
    | succ n ih =>
      intro x6 σ p hf hk1 hk
      rw [f_X8_findBendings_L17] at hf
      refine V_iload 0 19 rfl dX8_findBendings_17 rfl ?_
      refine V_iload_n 5 20 rfl dX8_findBendings_19 rfl rfl ?_
      refine V_icmp_gt 158 23 dX8_findBendings_20 (by decide) rfl (fun c4 => ?_) (fun c4 => ?_)
      · rw [if_pos c4] at hf
        have ep := Option.some.inj hf
        subst ep
        refine V_ls [(6, .int x6), (5, .int x5), (0, .ref t), (1, .int x1), (2, .int x2), (3, .int x3), (4, .int x4)] [0, 1, 2, 3, 4, 5, 6] rfl ?_
        exact hk _ rfl
      · rw [if_neg c4] at hf
        refine V_iconst 1 24 dX8_findBendings_23 rfl kiconst_1 ?_
        refine V_istore [(7, .int 1), (6, .int x6), (5, .int x5), (0, .ref t), (1, .int x1), (2, .int x2), (3, .int x3), (4, .int x4)] 26 dX8_findBendings_24 (by decide) rfl rfl ?_
        obtain ⟨p51, h52, hf⟩ := ob hf
        refine V_ls [(7, .int 1), (6, .int x6), (5, .int x5), (0, .ref t), (1, .int x1), (2, .int x2), (3, .int x3), (4, .int x4)] [0, 1, 2, 3, 4, 5, 6, 7] rfl ?_
        refine L26 x6 x5 x1 x2 x3 x4 3000 1 σ p51 h52 (fun v hv => ?_) (fun p53 hq => ?_)
        · subst hv
          cases hf
          exact hk1 _ rfl
        subst hq
        simp only [Sum.elim_inr] at hf
        refine V_iinc (x6 + 1) 1 [(6, .int (x6 + 1)), (7, .int p53.1), (5, .int x5), (0, .ref t), (1, .int x1), (2, .int x2), (3, .int x3), (4, .int x4)] 155 dX8_findBendings_152 rfl (by rw [kiconst_1]) (by decide) rfl rfl ?_
        refine V_goto 17 dX8_findBendings_155 (by decide) ?_
        refine V_ls [(6, .int (x6 + 1)), (5, .int x5), (0, .ref t), (1, .int x1), (2, .int x2), (3, .int x3), (4, .int x4)] [0, 2, 3, 4, 5, 6, 7] rfl ?_
        exact ih _ _ _ hf hk1 hk
  have L8 : ∀ (x1 : Int32) (x2 : Int32) (x3 : Int32) (x4 : Int32) (n : Nat) (x5 : Int32) (σ : St) (p : (St) ⊕ (Int32 × St)), f_X8_findBendings_L8 t x1 x2 x3 x4 n x5 σ = some p → (∀ v, p = .inl v → v = σ') → (∀ q, p = .inr q → V mi_X8_findBendings l G (d + 61) 0 0 X 0 0 164 [(5, .int q.1), (0, .ref t), (1, .int x1), (2, .int x2), (3, .int x3), (4, .int x4)] [] q.2) → V mi_X8_findBendings l G (d + 61) 0 0 X 0 0 8 [(5, .int x5), (0, .ref t), (1, .int x1), (2, .int x2), (3, .int x3), (4, .int x4)] [] σ := by
    intro x1 x2 x3 x4 n
    induction n with
    | zero =>
      intro x5 σ p hf
      exact absurd (show (none : Option _) = some p from hf) (by simp)
    | succ n ih =>
      intro x5 σ p hf hk1 hk
      rw [f_X8_findBendings_L8] at hf
      refine V_iload 0 10 rfl dX8_findBendings_8 rfl ?_
      refine V_iconst 4 11 dX8_findBendings_10 rfl kiconst_4 ?_
      refine V_icmp_ge 164 14 dX8_findBendings_11 (by decide) rfl (fun c3 => ?_) (fun c3 => ?_)
      · rw [if_pos c3] at hf
        have ep := Option.some.inj hf
        subst ep
        refine V_ls [(5, .int x5), (0, .ref t), (1, .int x1), (2, .int x2), (3, .int x3), (4, .int x4)] [0, 1, 2, 3, 4, 5] rfl ?_
        exact hk _ rfl
      · rw [if_neg c3] at hf
        refine V_iconst 1 15 dX8_findBendings_14 rfl kiconst_1 ?_
        refine V_istore [(6, .int 1), (5, .int x5), (0, .ref t), (1, .int x1), (2, .int x2), (3, .int x3), (4, .int x4)] 17 dX8_findBendings_15 (by decide) rfl rfl ?_
        obtain ⟨p54, h55, hf⟩ := ob hf
        refine V_ls [(6, .int 1), (5, .int x5), (0, .ref t), (1, .int x1), (2, .int x2), (3, .int x3), (4, .int x4)] [0, 1, 2, 3, 4, 5, 6] rfl ?_
        refine L17 x5 x1 x2 x3 x4 3000 1 σ p54 h55 (fun v hv => ?_) (fun p56 hq => ?_)
        · subst hv
          cases hf
          exact hk1 _ rfl
        subst hq
        simp only [Sum.elim_inr] at hf
        refine V_iinc (x5 + 1) 1 [(5, .int (x5 + 1)), (6, .int p56.1), (0, .ref t), (1, .int x1), (2, .int x2), (3, .int x3), (4, .int x4)] 161 dX8_findBendings_158 rfl (by rw [kiconst_1]) (by decide) rfl rfl ?_
        refine V_goto 8 dX8_findBendings_161 (by decide) ?_
        refine V_ls [(5, .int (x5 + 1)), (0, .ref t), (1, .int x1), (2, .int x2), (3, .int x3), (4, .int x4)] [0, 2, 3, 4, 5, 6] rfl ?_
        exact ih _ _ _ hf hk1 hk
  by_cases hg : isO σ 7 t = true
  · rw [if_pos hg] at hf
    refine V_aload_n 0 1 rfl dX8_findBendings_0 rfl rfl ?_
    refine V_iconst 0 2 dX8_findBendings_1 rfl kiconst_0 ?_
    obtain ⟨s2, h1, hf⟩ := ob hf
    refine V_putI (n := 27) (T := TX8) (ty := tyX8) (f := 14) 5 h1 cf_7 rfl rfl (Or.inl rfl) wd_fl_X8_231 dX8_findBendings_2 rfl ?_
    refine V_iconst 0 6 dX8_findBendings_5 rfl kiconst_0 ?_
    refine V_istore [(5, .int 0), (0, .ref t), (1, .int a0), (2, .int a1), (3, .int a2), (4, .int a3)] 8 dX8_findBendings_6 (by decide) rfl rfl ?_
    obtain ⟨p57, h58, hf⟩ := ob hf
    refine V_ls [(5, .int 0), (0, .ref t), (1, .int a0), (2, .int a1), (3, .int a2), (4, .int a3)] [0, 1, 2, 3, 4, 5] rfl ?_
    refine L8 a0 a1 a2 a3 3000 0 s2 p57 h58 (fun v hv => ?_) (fun p59 hq => ?_)
    · subst hv
      cases hf
      rfl
    subst hq
    simp only [Sum.elim_inr] at hf
    have er := Option.some.inj hf
    subst er
    exact V_vret hQ rfl dX8_findBendings_164
  · rw [if_neg hg] at hf
    cases hf
abbrev mi_X8_bent : MI := (yX8_bent, cX8_bent, 5, some .int)
theorem ok_X8_bent : OkN mi_X8_bent 4 := ⟨wd_cd_X8_bent, wd_in_X8, ⟨by decide +kernel, by decide +kernel, by decide +kernel⟩, by decide⟩
theorem okv_X8_bent : Cond.instanceMethod (mi_X8_bent).1 ∈ tb ∧ Cond.selects (mi_X8_bent).1.cls (mi_X8_bent).1 (mi_X8_bent).1 ∈ tb := ⟨wd_im_X8_bent, wd_se_X8_bent⟩
def f_X8_bent (σ : St) (t : Nat) (a0 : Int32) (a1 : Int32) (a2 : Int32) (a3 : Int32) : Option (Int32 × St) := if isO σ 7 t = true then ((f_X8_areTwo σ t a0 a1).bind fun v2 => if v2 = 0 then ((f_X8_finding σ t (-1000001)).bind fun p5 => some (p5.1, p5.2)) else ((f_X8_isFactor σ a2).bind fun v7 => if v7 = 0 then ((f_X8_finding σ t (-1000001)).bind fun p10 => some (p10.1, p10.2)) else ((f_X8_within σ a3 0 5).bind fun v12 => if v12 = 0 then ((f_X8_finding σ t (-1000001)).bind fun p31 => some (p31.1, p31.2)) else ((f_X8_findBendings σ t a0 a1 a2 (if a3 ≤ 0 then 0 else 1 : Int32)).bind fun s15 => if a3 = 0 then ((gI s15 7 t 14).bind fun v27 => some (v27, s15)) else ((gI s15 7 t 14).bind fun v18 => if v18 = 0 then ((f_X8_finding s15 t (-1000002)).bind fun p25 => some (p25.1, p25.2)) else ((gQ s15 7 t 15).bind fun q21 => (aI s15 0 q21 (a3 - 1)).bind fun v23 => some (v23, s15))))))) else none
theorem gd_X8_bent {σ : St} {t : Nat} {a0 : Int32} {a1 : Int32} {a2 : Int32} {a3 : Int32} {r : Int32 × St} (h : f_X8_bent σ t a0 a1 a2 a3 = some r) : isO σ 7 t = true := by
  unfold f_X8_bent at h
  by_cases hg : isO σ 7 t = true
  · exact hg
  · rw [if_neg hg] at h
    cases h
set_option maxRecDepth 100000 in
set_option maxHeartbeats 4000000 in
theorem c_X8_bent (l : Launch) (G : Gd) (d : Nat) (σ : St) (t : Nat) (a0 : Int32) (a1 : Int32) (a2 : Int32) (a3 : Int32) (r0 : Int32) (σ' : St) (hf : f_X8_bent σ t a0 a1 a2 a3 = some (r0, σ')) : MetV l G (d + 62) mi_X8_bent [.ref t, .int a0, .int a1, .int a2, .int a3] σ (some (.int r0)) σ' 0 0 := by
  unfold f_X8_bent at hf
  refine MetV.of [(0, .ref t), (1, .int a0), (2, .int a1), (3, .int a2), (4, .int a3)] (by decide +kernel) rfl (Nat.le_of_ble_eq_true rfl) ?_
  intro X hQ
  by_cases hg : isO σ 7 t = true
  · rw [if_pos hg] at hf
    refine V_aload_n 0 1 rfl dX8_bent_0 rfl rfl ?_
    refine V_iload_n 1 2 rfl dX8_bent_1 rfl rfl ?_
    refine V_iload_n 2 3 rfl dX8_bent_2 rfl rfl ?_
    obtain ⟨v2, h1, hf⟩ := ob hf
    refine V_callV (rest := []) (T := TX8) (n := 27) (ci := 7) 0 0 6 [.int v2] (c_X8_areTwo l G (d + 58) _ _ _ _ _ h1) (by omega) ok_X8_areTwo okv_X8_areTwo (gd_X8_areTwo h1) rfl wd_ml_X8_225 rfl rfl (Nat.le_of_ble_eq_true rfl) rfl rfl (Or.inl ⟨rfl, rfl⟩) dX8_bent_3 rfl rfl ?_
    refine V_if_eq 26 9 dX8_bent_6 (by decide) rfl (fun c3 => ?_) (fun c3 => ?_)
    · rw [if_pos c3] at hf
      refine V_aload_n 0 27 rfl dX8_bent_26 rfl rfl ?_
      refine V_ldc (-1000001) 29 dX8_bent_27 rfl wd_kk_X8_76 ?_
      obtain ⟨p5, h4, hf⟩ := ob hf
      refine V_callV (rest := []) (T := TX8) (n := 27) (ci := 7) 0 0 32 [.int p5.1] (c_X8_finding l G (d + 60) _ _ _ _ _ h4) (by omega) ok_X8_finding okv_X8_finding (gd_X8_finding h4) rfl wd_ml_X8_77 rfl rfl (Nat.le_of_ble_eq_true rfl) rfl rfl (Or.inl ⟨rfl, rfl⟩) dX8_bent_29 rfl rfl ?_
      have er := Option.some.inj hf
      obtain ⟨e1, e2⟩ := Prod.mk.inj er
      subst e1
      subst e2
      exact V_iret hQ rfl dX8_bent_32
    · rw [if_neg c3] at hf
      refine V_iload_n 3 10 rfl dX8_bent_9 rfl rfl ?_
      obtain ⟨v7, h6, hf⟩ := ob hf
      refine V_callS (rest := []) 0 0 13 [.int v7] (c_X8_isFactor l G (d + 59) _ _ _ h6) (by omega) ok_X8_isFactor oks_X8_isFactor wd_ml_X8_242 rfl rfl (Nat.le_of_ble_eq_true rfl) rfl rfl (Or.inl ⟨rfl, rfl⟩) dX8_bent_10 rfl rfl ?_
      refine V_if_eq 26 16 dX8_bent_13 (by decide) rfl (fun c8 => ?_) (fun c8 => ?_)
      · rw [if_pos c8] at hf
        refine V_aload_n 0 27 rfl dX8_bent_26 rfl rfl ?_
        refine V_ldc (-1000001) 29 dX8_bent_27 rfl wd_kk_X8_76 ?_
        obtain ⟨p10, h9, hf⟩ := ob hf
        refine V_callV (rest := []) (T := TX8) (n := 27) (ci := 7) 0 0 32 [.int p10.1] (c_X8_finding l G (d + 60) _ _ _ _ _ h9) (by omega) ok_X8_finding okv_X8_finding (gd_X8_finding h9) rfl wd_ml_X8_77 rfl rfl (Nat.le_of_ble_eq_true rfl) rfl rfl (Or.inl ⟨rfl, rfl⟩) dX8_bent_29 rfl rfl ?_
        have er := Option.some.inj hf
        obtain ⟨e1, e2⟩ := Prod.mk.inj er
        subst e1
        subst e2
        exact V_iret hQ rfl dX8_bent_32
      · rw [if_neg c8] at hf
        refine V_iload 4 18 rfl dX8_bent_16 rfl ?_
        refine V_iconst 0 19 dX8_bent_18 rfl kiconst_0 ?_
        refine V_iconst 5 20 dX8_bent_19 rfl kiconst_5 ?_
        obtain ⟨v12, h11, hf⟩ := ob hf
        refine V_callS (rest := []) 0 0 23 [.int v12] (c_X8_within l G (d + 60) _ _ _ _ _ h11) (by omega) ok_X8_within oks_X8_within wd_ml_X8_68 rfl rfl (Nat.le_of_ble_eq_true rfl) rfl rfl (Or.inl ⟨rfl, rfl⟩) dX8_bent_20 rfl rfl ?_
        refine V_if_ne 33 26 dX8_bent_23 (by decide) rfl (fun c13 => ?_) (fun c13 => ?_)
        · rw [if_neg c13] at hf
          refine V_aload_n 0 34 rfl dX8_bent_33 rfl rfl ?_
          refine V_iload_n 1 35 rfl dX8_bent_34 rfl rfl ?_
          refine V_iload_n 2 36 rfl dX8_bent_35 rfl rfl ?_
          refine V_iload_n 3 37 rfl dX8_bent_36 rfl rfl ?_
          refine V_iload 4 39 rfl dX8_bent_37 rfl ?_
          have kj28 : V mi_X8_bent l G (d + 62) 0 0 X 0 0 47 [(0, .ref t), (1, .int a0), (2, .int a1), (3, .int a2), (4, .int a3)] [.int (if a3 ≤ 0 then 0 else 1 : Int32), .int a2, .int a1, .int a0, .ref t] σ := by
            obtain ⟨s15, h14, hf⟩ := ob hf
            refine V_callV (rest := []) (T := TX8) (n := 27) (ci := 7) 0 0 50 [] (c_X8_findBendings l G (d + 0) _ _ _ _ _ _ _ h14) (by omega) ok_X8_findBendings okv_X8_findBendings (gd_X8_findBendings h14) rfl wd_ml_X8_238 rfl rfl (Nat.le_of_ble_eq_true rfl) rfl rfl (Or.inl ⟨rfl, rfl⟩) dX8_bent_47 rfl rfl ?_
            refine V_iload 4 52 rfl dX8_bent_50 rfl ?_
            refine V_if_ne 60 55 dX8_bent_52 (by decide) rfl (fun c16 => ?_) (fun c16 => ?_)
            · rw [if_neg c16] at hf
              refine V_aload_n 0 61 rfl dX8_bent_60 rfl rfl ?_
              obtain ⟨v18, h17, hf⟩ := ob hf
              refine V_getI (n := 27) (ty := tyX8) 64 h17 cf_7 rfl wd_fl_X8_231 dX8_bent_61 rfl ?_
              refine V_if_ne 76 67 dX8_bent_64 (by decide) rfl (fun c19 => ?_) (fun c19 => ?_)
              · rw [if_neg c19] at hf
                refine V_aload_n 0 77 rfl dX8_bent_76 rfl rfl ?_
                obtain ⟨q21, h20, hf⟩ := ob hf
                refine V_getQ (n := 27) (ty := tyX8) 80 h20 cf_7 rfl wd_fl_X8_40 dX8_bent_77 rfl ?_
                refine V_iload 4 82 rfl dX8_bent_80 rfl ?_
                refine V_iconst 1 83 dX8_bent_82 rfl kiconst_1 ?_
                refine V_isub 84 dX8_bent_83 rfl ?_
                obtain ⟨v23, h22, hf⟩ := ob hf
                refine V_iald 85 h22 dX8_bent_84 rfl ?_
                have er := Option.some.inj hf
                obtain ⟨e1, e2⟩ := Prod.mk.inj er
                subst e1
                subst e2
                exact V_iret hQ rfl dX8_bent_85
              · rw [if_pos c19] at hf
                refine V_aload_n 0 68 rfl dX8_bent_67 rfl rfl ?_
                refine V_ldc (-1000002) 70 dX8_bent_68 rfl wd_kk_X8_113 ?_
                obtain ⟨p25, h24, hf⟩ := ob hf
                refine V_callV (rest := []) (T := TX8) (n := 27) (ci := 7) 0 0 73 [.int p25.1] (c_X8_finding l G (d + 60) _ _ _ _ _ h24) (by omega) ok_X8_finding okv_X8_finding (gd_X8_finding h24) rfl wd_ml_X8_77 rfl rfl (Nat.le_of_ble_eq_true rfl) rfl rfl (Or.inl ⟨rfl, rfl⟩) dX8_bent_70 rfl rfl ?_
                refine V_goto 85 dX8_bent_73 (by decide) ?_
                have er := Option.some.inj hf
                obtain ⟨e1, e2⟩ := Prod.mk.inj er
                subst e1
                subst e2
                exact V_iret hQ rfl dX8_bent_85
            · rw [if_pos c16] at hf
              refine V_aload_n 0 56 rfl dX8_bent_55 rfl rfl ?_
              obtain ⟨v27, h26, hf⟩ := ob hf
              refine V_getI (n := 27) (ty := tyX8) 59 h26 cf_7 rfl wd_fl_X8_231 dX8_bent_56 rfl ?_
              have er := Option.some.inj hf
              obtain ⟨e1, e2⟩ := Prod.mk.inj er
              subst e1
              subst e2
              exact V_iret hQ rfl dX8_bent_59
          refine V_if_le 46 42 dX8_bent_39 (by decide) rfl (fun c29 => ?_) (fun c29 => ?_)
          · refine V_iconst 0 47 dX8_bent_46 rfl kiconst_0 ?_
            refine V_ls [(0, .ref t), (1, .int a0), (2, .int a1), (3, .int a2), (4, .int a3)] [0, 1, 2, 3, 4] rfl ?_
            simp only [if_pos c29] at kj28
            exact kj28
          · refine V_iconst 1 43 dX8_bent_42 rfl kiconst_1 ?_
            refine V_goto 47 dX8_bent_43 (by decide) ?_
            refine V_ls [(0, .ref t), (1, .int a0), (2, .int a1), (3, .int a2), (4, .int a3)] [0, 1, 2, 3, 4] rfl ?_
            simp only [if_neg c29] at kj28
            exact kj28
        · rw [if_pos c13] at hf
          refine V_aload_n 0 27 rfl dX8_bent_26 rfl rfl ?_
          refine V_ldc (-1000001) 29 dX8_bent_27 rfl wd_kk_X8_76 ?_
          obtain ⟨p31, h30, hf⟩ := ob hf
          refine V_callV (rest := []) (T := TX8) (n := 27) (ci := 7) 0 0 32 [.int p31.1] (c_X8_finding l G (d + 60) _ _ _ _ _ h30) (by omega) ok_X8_finding okv_X8_finding (gd_X8_finding h30) rfl wd_ml_X8_77 rfl rfl (Nat.le_of_ble_eq_true rfl) rfl rfl (Or.inl ⟨rfl, rfl⟩) dX8_bent_29 rfl rfl ?_
          have er := Option.some.inj hf
          obtain ⟨e1, e2⟩ := Prod.mk.inj er
          subst e1
          subst e2
          exact V_iret hQ rfl dX8_bent_32
  · rw [if_neg hg] at hf
    cases hf
abbrev mi_X8_bends : MI := (yX8_bends, cX8_bends, 4, some .boolean)
theorem ok_X8_bends : OkN mi_X8_bends 3 := ⟨wd_cd_X8_bends, wd_in_X8, ⟨by decide +kernel, by decide +kernel, by decide +kernel⟩, by decide⟩
theorem okv_X8_bends : Cond.instanceMethod (mi_X8_bends).1 ∈ tb ∧ Cond.selects (mi_X8_bends).1.cls (mi_X8_bends).1 (mi_X8_bends).1 ∈ tb := ⟨wd_im_X8_bends, wd_se_X8_bends⟩
def f_X8_bends (σ : St) (t : Nat) (a0 : Int32) (a1 : Int32) (a2 : Int32) : Option (Int32 × St) := if isO σ 7 t = true then ((f_X8_findBendings σ t a0 a1 a2 1).bind fun s2 => (gI s2 7 t 14).bind fun v4 => (zr (if v4 ≤ 0 then 0 else 1 : Int32)).bind fun z5 => some ((if v4 ≤ 0 then 0 else 1 : Int32), s2)) else none
theorem gd_X8_bends {σ : St} {t : Nat} {a0 : Int32} {a1 : Int32} {a2 : Int32} {r : Int32 × St} (h : f_X8_bends σ t a0 a1 a2 = some r) : isO σ 7 t = true := by
  unfold f_X8_bends at h
  by_cases hg : isO σ 7 t = true
  · exact hg
  · rw [if_neg hg] at h
    cases h
set_option maxRecDepth 100000 in
set_option maxHeartbeats 4000000 in
theorem c_X8_bends (l : Launch) (G : Gd) (d : Nat) (σ : St) (t : Nat) (a0 : Int32) (a1 : Int32) (a2 : Int32) (r0 : Int32) (σ' : St) (hf : f_X8_bends σ t a0 a1 a2 = some (r0, σ')) : MetV l G (d + 62) mi_X8_bends [.ref t, .int a0, .int a1, .int a2] σ (some (.int r0)) σ' 0 0 := by
  unfold f_X8_bends at hf
  refine MetV.of [(0, .ref t), (1, .int a0), (2, .int a1), (3, .int a2)] (by decide +kernel) rfl (Nat.le_of_ble_eq_true rfl) ?_
  intro X hQ
  by_cases hg : isO σ 7 t = true
  · rw [if_pos hg] at hf
    refine V_aload_n 0 1 rfl dX8_bends_0 rfl rfl ?_
    refine V_iload_n 1 2 rfl dX8_bends_1 rfl rfl ?_
    refine V_iload_n 2 3 rfl dX8_bends_2 rfl rfl ?_
    refine V_iload_n 3 4 rfl dX8_bends_3 rfl rfl ?_
    refine V_iconst 1 5 dX8_bends_4 rfl kiconst_1 ?_
    obtain ⟨s2, h1, hf⟩ := ob hf
    refine V_callV (rest := []) (T := TX8) (n := 27) (ci := 7) 0 0 8 [] (c_X8_findBendings l G (d + 0) _ _ _ _ _ _ _ h1) (by omega) ok_X8_findBendings okv_X8_findBendings (gd_X8_findBendings h1) rfl wd_ml_X8_238 rfl rfl (Nat.le_of_ble_eq_true rfl) rfl rfl (Or.inl ⟨rfl, rfl⟩) dX8_bends_5 rfl rfl ?_
    refine V_aload_n 0 9 rfl dX8_bends_8 rfl rfl ?_
    obtain ⟨v4, h3, hf⟩ := ob hf
    refine V_getI (n := 27) (ty := tyX8) 12 h3 cf_7 rfl wd_fl_X8_231 dX8_bends_9 rfl ?_
    have kj7 : V mi_X8_bends l G (d + 62) 0 0 X 0 0 20 [(0, .ref t), (1, .int a0), (2, .int a1), (3, .int a2)] [.int (if v4 ≤ 0 then 0 else 1 : Int32)] s2 := by
      obtain ⟨z5, h6, hf⟩ := ob hf
      have er := Option.some.inj hf
      obtain ⟨e1, e2⟩ := Prod.mk.inj er
      subst e1
      subst e2
      exact V_zret (zr_ok h6) hQ rfl dX8_bends_20
    refine V_if_le 19 15 dX8_bends_12 (by decide) rfl (fun c8 => ?_) (fun c8 => ?_)
    · refine V_iconst 0 20 dX8_bends_19 rfl kiconst_0 ?_
      refine V_ls [(0, .ref t), (1, .int a0), (2, .int a1), (3, .int a2)] [0, 1, 2, 3] rfl ?_
      simp only [if_pos c8] at kj7
      exact kj7
    · refine V_iconst 1 16 dX8_bends_15 rfl kiconst_1 ?_
      refine V_goto 20 dX8_bends_16 (by decide) ?_
      refine V_ls [(0, .ref t), (1, .int a0), (2, .int a1), (3, .int a2)] [0, 1, 2, 3] rfl ?_
      simp only [if_neg c8] at kj7
      exact kj7
  · rw [if_neg hg] at hf
    cases hf
abbrev mi_X8_pairs : MI := (yX8_pairs, cX8_pairs, 5, some .int)
theorem ok_X8_pairs : OkN mi_X8_pairs 1 := ⟨wd_cd_X8_pairs, wd_in_X8, ⟨by decide +kernel, by decide +kernel, by decide +kernel⟩, by decide⟩
theorem okv_X8_pairs : Cond.instanceMethod (mi_X8_pairs).1 ∈ tb ∧ Cond.selects (mi_X8_pairs).1.cls (mi_X8_pairs).1 (mi_X8_pairs).1 ∈ tb := ⟨wd_im_X8_pairs, wd_se_X8_pairs⟩
def f_X8_pairs_L31 (x3 : Int32) (t : Nat) (x1 : Int32) : Nat → Int32 → Int32 → St → Option (Int32 × Int32 × St)
  | 0, _, _, _ => none
  | n + 1, x4, x2, σ => (gQ σ 7 t 0).bind fun q10 => (aI σ 0 q10 1).bind fun v12 => if v12 ≤ x4 then (some (x4, x2, σ)) else (if x3 = x4 then (f_X8_pairs_L31 x3 t x1 n (x4 + 1) (x2 + 0) σ) else ((f_X8_bends σ t x3 x4 x1).bind fun p16 => f_X8_pairs_L31 x3 t x1 n (x4 + 1) (x2 + (if p16.1 = 0 then 0 else 1 : Int32)) p16.2))
def f_X8_pairs_L18 (t : Nat) (x1 : Int32) : Nat → Int32 → Int32 → St → Option (Int32 × Int32 × St)
  | 0, _, _, _ => none
  | n + 1, x3, x2, σ => (gQ σ 7 t 0).bind fun q5 => (aI σ 0 q5 1).bind fun v7 => if v7 ≤ x3 then (some (x3, x2, σ)) else ((f_X8_pairs_L31 x3 t x1 3000 0 x2 σ).bind fun p19 => f_X8_pairs_L18 t x1 n (x3 + 1) p19.2.1 p19.2.2)
def f_X8_pairs (σ : St) (t : Nat) (a0 : Int32) : Option (Int32 × St) := if isO σ 7 t = true then ((f_X8_isFactor σ a0).bind fun v2 => if v2 = 0 then ((f_X8_finding σ t (-1000001)).bind fun p24 => some (p24.1, p24.2)) else ((f_X8_pairs_L18 t a0 3000 0 0 σ).bind fun p21 => some (p21.2.1, p21.2.2))) else none
theorem gd_X8_pairs {σ : St} {t : Nat} {a0 : Int32} {r : Int32 × St} (h : f_X8_pairs σ t a0 = some r) : isO σ 7 t = true := by
  unfold f_X8_pairs at h
  by_cases hg : isO σ 7 t = true
  · exact hg
  · rw [if_neg hg] at h
    cases h
set_option maxRecDepth 100000 in
set_option maxHeartbeats 4000000 in
theorem c_X8_pairs (l : Launch) (G : Gd) (d : Nat) (σ : St) (t : Nat) (a0 : Int32) (r0 : Int32) (σ' : St) (hf : f_X8_pairs σ t a0 = some (r0, σ')) : MetV l G (d + 63) mi_X8_pairs [.ref t, .int a0] σ (some (.int r0)) σ' 0 0 := by
  unfold f_X8_pairs at hf
  refine MetV.of [(0, .ref t), (1, .int a0)] (by decide +kernel) rfl (Nat.le_of_ble_eq_true rfl) ?_
  intro X hQ
  have L31 : ∀ (x3 : Int32) (x1 : Int32) (n : Nat) (x4 : Int32) (x2 : Int32) (σ : St) (p : Int32 × Int32 × St), f_X8_pairs_L31 x3 t x1 n x4 x2 σ = some p → V mi_X8_pairs l G (d + 63) 0 0 X 0 0 73 [(4, .int p.1), (3, .int x3), (2, .int p.2.1), (0, .ref t), (1, .int x1)] [] p.2.2 → V mi_X8_pairs l G (d + 63) 0 0 X 0 0 31 [(4, .int x4), (3, .int x3), (2, .int x2), (0, .ref t), (1, .int x1)] [] σ := by
    intro x3 x1 n
    induction n with
    | zero =>
      intro x4 x2 σ p hf
      exact absurd (show (none : Option _) = some p from hf) (by simp)
    | succ n ih =>
      intro x4 x2 σ p hf hk
      rw [f_X8_pairs_L31] at hf
      refine V_iload 0 33 rfl dX8_pairs_31 rfl ?_
      refine V_aload_n 3 34 rfl dX8_pairs_33 rfl rfl ?_
      obtain ⟨q10, h9, hf⟩ := ob hf
      refine V_getQ (n := 27) (ty := tyX8) 37 h9 cf_7 rfl wd_fl_X8_9 dX8_pairs_34 rfl ?_
      refine V_iconst 1 38 dX8_pairs_37 rfl kiconst_1 ?_
      obtain ⟨v12, h11, hf⟩ := ob hf
      refine V_iald 39 h11 dX8_pairs_38 rfl ?_
      refine V_icmp_ge 73 42 dX8_pairs_39 (by decide) rfl (fun c13 => ?_) (fun c13 => ?_)
      · rw [if_pos c13] at hf
        have ep := Option.some.inj hf
        subst ep
        refine V_ls [(4, .int x4), (3, .int x3), (2, .int x2), (0, .ref t), (1, .int x1)] [0, 1, 2, 3, 4] rfl ?_
        exact hk
      · rw [if_neg c13] at hf
        refine V_iload_n 2 43 rfl dX8_pairs_42 rfl rfl ?_
        refine V_iload_n 1 44 rfl dX8_pairs_43 rfl rfl ?_
        refine V_iload 0 46 rfl dX8_pairs_44 rfl ?_
        refine V_icmp_eq 64 49 dX8_pairs_46 (by decide) rfl (fun c14 => ?_) (fun c14 => ?_)
        · rw [if_pos c14] at hf
          refine V_iconst 0 65 dX8_pairs_64 rfl kiconst_0 ?_
          refine V_iadd 66 dX8_pairs_65 rfl ?_
          refine V_istore_n [(2, .int (x2 + 0)), (4, .int x4), (3, .int x3), (0, .ref t), (1, .int x1)] 67 dX8_pairs_66 rfl (by decide) rfl rfl ?_
          refine V_iinc (x4 + 1) 1 [(4, .int (x4 + 1)), (2, .int (x2 + 0)), (3, .int x3), (0, .ref t), (1, .int x1)] 70 dX8_pairs_67 rfl (by rw [kiconst_1]) (by decide) rfl rfl ?_
          refine V_goto 31 dX8_pairs_70 (by decide) ?_
          refine V_ls [(4, .int (x4 + 1)), (3, .int x3), (2, .int (x2 + 0)), (0, .ref t), (1, .int x1)] [0, 2, 1, 3, 4] rfl ?_
          exact ih _ _ _ _ hf hk
        · rw [if_neg c14] at hf
          refine V_aload_n 3 50 rfl dX8_pairs_49 rfl rfl ?_
          refine V_iload_n 1 51 rfl dX8_pairs_50 rfl rfl ?_
          refine V_iload 0 53 rfl dX8_pairs_51 rfl ?_
          refine V_iload_n 4 54 rfl dX8_pairs_53 rfl rfl ?_
          obtain ⟨p16, h15, hf⟩ := ob hf
          refine V_callV (rest := [.int x2]) (T := TX8) (n := 27) (ci := 7) 0 0 57 [.int p16.1, .int x2] (c_X8_bends l G (d + 0) _ _ _ _ _ _ _ h15) (by omega) ok_X8_bends okv_X8_bends (gd_X8_bends h15) rfl wd_ml_X8_245 rfl rfl (Nat.le_of_ble_eq_true rfl) rfl rfl (Or.inl ⟨rfl, rfl⟩) dX8_pairs_54 rfl rfl ?_
          have kj17 : V mi_X8_pairs l G (d + 63) 0 0 X 0 0 65 [(4, .int x4), (3, .int x3), (2, .int x2), (0, .ref t), (1, .int x1)] [.int (if p16.1 = 0 then 0 else 1 : Int32), .int x2] p16.2 := by
            refine V_iadd 66 dX8_pairs_65 rfl ?_
            refine V_istore_n [(2, .int (x2 + (if p16.1 = 0 then 0 else 1 : Int32))), (4, .int x4), (3, .int x3), (0, .ref t), (1, .int x1)] 67 dX8_pairs_66 rfl (by decide) rfl rfl ?_
            refine V_iinc (x4 + 1) 1 [(4, .int (x4 + 1)), (2, .int (x2 + (if p16.1 = 0 then 0 else 1 : Int32))), (3, .int x3), (0, .ref t), (1, .int x1)] 70 dX8_pairs_67 rfl (by rw [kiconst_1]) (by decide) rfl rfl ?_
            refine V_goto 31 dX8_pairs_70 (by decide) ?_
            refine V_ls [(4, .int (x4 + 1)), (3, .int x3), (2, .int (x2 + (if p16.1 = 0 then 0 else 1 : Int32))), (0, .ref t), (1, .int x1)] [0, 2, 1, 3, 4] rfl ?_
            exact ih _ _ _ _ hf hk
          refine V_if_eq 64 60 dX8_pairs_57 (by decide) rfl (fun c18 => ?_) (fun c18 => ?_)
          · refine V_iconst 0 65 dX8_pairs_64 rfl kiconst_0 ?_
            refine V_ls [(4, .int x4), (3, .int x3), (2, .int x2), (0, .ref t), (1, .int x1)] [0, 1, 2, 3, 4] rfl ?_
            simp only [if_pos c18] at kj17
            exact kj17
          · refine V_iconst 1 61 dX8_pairs_60 rfl kiconst_1 ?_
            refine V_goto 65 dX8_pairs_61 (by decide) ?_
            refine V_ls [(4, .int x4), (3, .int x3), (2, .int x2), (0, .ref t), (1, .int x1)] [0, 1, 2, 3, 4] rfl ?_
            simp only [if_neg c18] at kj17
            exact kj17
  have L18 : ∀ (x1 : Int32) (n : Nat) (x3 : Int32) (x2 : Int32) (σ : St) (p : Int32 × Int32 × St), f_X8_pairs_L18 t x1 n x3 x2 σ = some p → V mi_X8_pairs l G (d + 63) 0 0 X 0 0 79 [(3, .int p.1), (2, .int p.2.1), (0, .ref t), (1, .int x1)] [] p.2.2 → V mi_X8_pairs l G (d + 63) 0 0 X 0 0 18 [(3, .int x3), (2, .int x2), (0, .ref t), (1, .int x1)] [] σ := by
    intro x1 n
    induction n with
    | zero =>
      intro x3 x2 σ p hf
      exact absurd (show (none : Option _) = some p from hf) (by simp)
    | succ n ih =>
      intro x3 x2 σ p hf hk
      rw [f_X8_pairs_L18] at hf
      refine V_iload_n 0 19 rfl dX8_pairs_18 rfl rfl ?_
      refine V_aload_n 2 20 rfl dX8_pairs_19 rfl rfl ?_
      obtain ⟨q5, h4, hf⟩ := ob hf
      refine V_getQ (n := 27) (ty := tyX8) 23 h4 cf_7 rfl wd_fl_X8_9 dX8_pairs_20 rfl ?_
      refine V_iconst 1 24 dX8_pairs_23 rfl kiconst_1 ?_
      obtain ⟨v7, h6, hf⟩ := ob hf
      refine V_iald 25 h6 dX8_pairs_24 rfl ?_
      refine V_icmp_ge 79 28 dX8_pairs_25 (by decide) rfl (fun c8 => ?_) (fun c8 => ?_)
      · rw [if_pos c8] at hf
        have ep := Option.some.inj hf
        subst ep
        refine V_ls [(3, .int x3), (2, .int x2), (0, .ref t), (1, .int x1)] [0, 1, 2, 3] rfl ?_
        exact hk
      · rw [if_neg c8] at hf
        refine V_iconst 0 29 dX8_pairs_28 rfl kiconst_0 ?_
        refine V_istore [(4, .int 0), (3, .int x3), (2, .int x2), (0, .ref t), (1, .int x1)] 31 dX8_pairs_29 (by decide) rfl rfl ?_
        obtain ⟨p19, h20, hf⟩ := ob hf
        refine V_ls [(4, .int 0), (3, .int x3), (2, .int x2), (0, .ref t), (1, .int x1)] [0, 1, 2, 3, 4] rfl ?_
        refine L31 x3 x1 3000 0 x2 σ p19 h20 ?_
        refine V_iinc (x3 + 1) 1 [(3, .int (x3 + 1)), (4, .int p19.1), (2, .int p19.2.1), (0, .ref t), (1, .int x1)] 76 dX8_pairs_73 rfl (by rw [kiconst_1]) (by decide) rfl rfl ?_
        refine V_goto 18 dX8_pairs_76 (by decide) ?_
        refine V_ls [(3, .int (x3 + 1)), (2, .int p19.2.1), (0, .ref t), (1, .int x1)] [0, 2, 3, 4] rfl ?_
        exact ih _ _ _ _ hf hk
  by_cases hg : isO σ 7 t = true
  · rw [if_pos hg] at hf
    refine V_iload_n 1 1 rfl dX8_pairs_0 rfl rfl ?_
    obtain ⟨v2, h1, hf⟩ := ob hf
    refine V_callS (rest := []) 0 0 4 [.int v2] (c_X8_isFactor l G (d + 60) _ _ _ h1) (by omega) ok_X8_isFactor oks_X8_isFactor wd_ml_X8_242 rfl rfl (Nat.le_of_ble_eq_true rfl) rfl rfl (Or.inl ⟨rfl, rfl⟩) dX8_pairs_1 rfl rfl ?_
    refine V_if_ne 14 7 dX8_pairs_4 (by decide) rfl (fun c3 => ?_) (fun c3 => ?_)
    · rw [if_neg c3] at hf
      refine V_iconst 0 15 dX8_pairs_14 rfl kiconst_0 ?_
      refine V_istore_n [(2, .int 0), (0, .ref t), (1, .int a0)] 16 dX8_pairs_15 rfl (by decide) rfl rfl ?_
      refine V_iconst 0 17 dX8_pairs_16 rfl kiconst_0 ?_
      refine V_istore_n [(3, .int 0), (2, .int 0), (0, .ref t), (1, .int a0)] 18 dX8_pairs_17 rfl (by decide) rfl rfl ?_
      obtain ⟨p21, h22, hf⟩ := ob hf
      refine V_ls [(3, .int 0), (2, .int 0), (0, .ref t), (1, .int a0)] [0, 1, 2, 3] rfl ?_
      refine L18 a0 3000 0 0 σ p21 h22 ?_
      refine V_iload_n 1 80 rfl dX8_pairs_79 rfl rfl ?_
      have er := Option.some.inj hf
      obtain ⟨e1, e2⟩ := Prod.mk.inj er
      subst e1
      subst e2
      exact V_iret hQ rfl dX8_pairs_80
    · rw [if_pos c3] at hf
      refine V_aload_n 0 8 rfl dX8_pairs_7 rfl rfl ?_
      refine V_ldc (-1000001) 10 dX8_pairs_8 rfl wd_kk_X8_76 ?_
      obtain ⟨p24, h23, hf⟩ := ob hf
      refine V_callV (rest := []) (T := TX8) (n := 27) (ci := 7) 0 0 13 [.int p24.1] (c_X8_finding l G (d + 61) _ _ _ _ _ h23) (by omega) ok_X8_finding okv_X8_finding (gd_X8_finding h23) rfl wd_ml_X8_77 rfl rfl (Nat.le_of_ble_eq_true rfl) rfl rfl (Or.inl ⟨rfl, rfl⟩) dX8_pairs_10 rfl rfl ?_
      have er := Option.some.inj hf
      obtain ⟨e1, e2⟩ := Prod.mk.inj er
      subst e1
      subst e2
      exact V_iret hQ rfl dX8_pairs_13
  · rw [if_neg hg] at hf
    cases hf
abbrev mi_X8_prints : MI := (yX8_prints, cX8_prints, 6, some .int)
theorem ok_X8_prints : OkN mi_X8_prints 3 := ⟨wd_cd_X8_prints, wd_in_X8, ⟨by decide +kernel, by decide +kernel, by decide +kernel⟩, by decide⟩
theorem okv_X8_prints : Cond.instanceMethod (mi_X8_prints).1 ∈ tb ∧ Cond.selects (mi_X8_prints).1.cls (mi_X8_prints).1 (mi_X8_prints).1 ∈ tb := ⟨wd_im_X8_prints, wd_se_X8_prints⟩
def f_X8_prints_L33 (σ : St) (t : Nat) (x1 : Int32) (x2 : Int32) (x3 : Int32) : Nat → Int32 → Int32 → Option (Int32 × Int32)
  | 0, _, _ => none
  | n + 1, x5, x4 => (f_X8_many σ t x1).bind fun v10 => if v10 ≤ x5 then (some (x5, x4)) else ((f_X8_many σ t x2).bind fun v13 => if v13 ≤ x5 then (some (x5, x4)) else ((f_X8_dot σ t x1 x5).bind fun v16 => (f_J9_floorDiv_7cf53 σ v16 x3).bind fun v18 => (f_X8_dot σ t x2 x5).bind fun v20 => (f_J9_floorDiv_7cf53 σ v20 x3).bind fun v22 => f_X8_prints_L33 σ t x1 x2 x3 n (x5 + 1) (x4 + (if v18 = v22 then 0 else 1 : Int32))))
def f_X8_prints (σ : St) (t : Nat) (a0 : Int32) (a1 : Int32) (a2 : Int32) : Option (Int32 × St) := if isO σ 7 t = true then ((f_X8_areTwo σ t a0 a1).bind fun v2 => if v2 = 0 then ((f_X8_finding σ t (-1000001)).bind fun p5 => some (p5.1, p5.2)) else ((f_X8_within σ a2 1 9999).bind fun v7 => if v7 = 0 then ((f_X8_finding σ t (-1000001)).bind fun p28 => some (p28.1, p28.2)) else ((f_X8_prints_L33 σ t a0 a1 a2 3000 0 0).bind fun p25 => some (p25.2, σ)))) else none
theorem gd_X8_prints {σ : St} {t : Nat} {a0 : Int32} {a1 : Int32} {a2 : Int32} {r : Int32 × St} (h : f_X8_prints σ t a0 a1 a2 = some r) : isO σ 7 t = true := by
  unfold f_X8_prints at h
  by_cases hg : isO σ 7 t = true
  · exact hg
  · rw [if_neg hg] at h
    cases h
set_option maxRecDepth 100000 in
set_option maxHeartbeats 4000000 in
theorem c_X8_prints (l : Launch) (G : Gd) (d : Nat) (σ : St) (t : Nat) (a0 : Int32) (a1 : Int32) (a2 : Int32) (r0 : Int32) (σ' : St) (hf : f_X8_prints σ t a0 a1 a2 = some (r0, σ')) : MetV l G (d + 4) mi_X8_prints [.ref t, .int a0, .int a1, .int a2] σ (some (.int r0)) σ' 0 0 := by
  unfold f_X8_prints at hf
  refine MetV.of [(0, .ref t), (1, .int a0), (2, .int a1), (3, .int a2)] (by decide +kernel) rfl (Nat.le_of_ble_eq_true rfl) ?_
  intro X hQ
  have L33 : ∀ (σ : St) (x1 : Int32) (x2 : Int32) (x3 : Int32) (n : Nat) (x5 : Int32) (x4 : Int32) (p : Int32 × Int32), f_X8_prints_L33 σ t x1 x2 x3 n x5 x4 = some p → V mi_X8_prints l G (d + 4) 0 0 X 0 0 94 [(5, .int p.1), (4, .int p.2), (0, .ref t), (1, .int x1), (2, .int x2), (3, .int x3)] [] σ → V mi_X8_prints l G (d + 4) 0 0 X 0 0 33 [(5, .int x5), (4, .int x4), (0, .ref t), (1, .int x1), (2, .int x2), (3, .int x3)] [] σ := by
    intro σ x1 x2 x3 n
    induction n with
    | zero =>
      intro x5 x4 p hf
      exact absurd (show (none : Option _) = some p from hf) (by simp)
    | succ n ih =>
      intro x5 x4 p hf hk
      rw [f_X8_prints_L33] at hf
      refine V_iload 0 35 rfl dX8_prints_33 rfl ?_
      refine V_aload_n 2 36 rfl dX8_prints_35 rfl rfl ?_
      refine V_iload_n 3 37 rfl dX8_prints_36 rfl rfl ?_
      obtain ⟨v10, h9, hf⟩ := ob hf
      refine V_callV (rest := [.int x5]) (T := TX8) (n := 27) (ci := 7) 0 0 40 [.int v10, .int x5] (c_X8_many l G (d + 1) _ _ _ _ h9) (by omega) ok_X8_many okv_X8_many (gd_X8_many h9) rfl wd_ml_X8_134 rfl rfl (Nat.le_of_ble_eq_true rfl) rfl rfl (Or.inl ⟨rfl, rfl⟩) dX8_prints_37 rfl rfl ?_
      refine V_icmp_ge 94 43 dX8_prints_40 (by decide) rfl (fun c11 => ?_) (fun c11 => ?_)
      · rw [if_pos c11] at hf
        have ep := Option.some.inj hf
        subst ep
        refine V_ls [(5, .int x5), (4, .int x4), (0, .ref t), (1, .int x1), (2, .int x2), (3, .int x3)] [0, 1, 2, 3, 4, 5] rfl ?_
        exact hk
      · rw [if_neg c11] at hf
        refine V_iload 0 45 rfl dX8_prints_43 rfl ?_
        refine V_aload_n 2 46 rfl dX8_prints_45 rfl rfl ?_
        refine V_iload_n 4 47 rfl dX8_prints_46 rfl rfl ?_
        obtain ⟨v13, h12, hf⟩ := ob hf
        refine V_callV (rest := [.int x5]) (T := TX8) (n := 27) (ci := 7) 0 0 50 [.int v13, .int x5] (c_X8_many l G (d + 1) _ _ _ _ h12) (by omega) ok_X8_many okv_X8_many (gd_X8_many h12) rfl wd_ml_X8_134 rfl rfl (Nat.le_of_ble_eq_true rfl) rfl rfl (Or.inl ⟨rfl, rfl⟩) dX8_prints_47 rfl rfl ?_
        refine V_icmp_ge 94 53 dX8_prints_50 (by decide) rfl (fun c14 => ?_) (fun c14 => ?_)
        · rw [if_pos c14] at hf
          have ep := Option.some.inj hf
          subst ep
          refine V_ls [(5, .int x5), (4, .int x4), (0, .ref t), (1, .int x1), (2, .int x2), (3, .int x3)] [0, 1, 2, 3, 4, 5] rfl ?_
          exact hk
        · rw [if_neg c14] at hf
          refine V_iload 1 55 rfl dX8_prints_53 rfl ?_
          refine V_aload_n 2 56 rfl dX8_prints_55 rfl rfl ?_
          refine V_iload_n 3 57 rfl dX8_prints_56 rfl rfl ?_
          refine V_iload 0 59 rfl dX8_prints_57 rfl ?_
          obtain ⟨v16, h15, hf⟩ := ob hf
          refine V_callV (rest := [.int x4]) (T := TX8) (n := 27) (ci := 7) 0 0 62 [.int v16, .int x4] (c_X8_dot l G (d + 1) _ _ _ _ _ h15) (by omega) ok_X8_dot okv_X8_dot (gd_X8_dot h15) rfl wd_ml_X8_140 rfl rfl (Nat.le_of_ble_eq_true rfl) rfl rfl (Or.inl ⟨rfl, rfl⟩) dX8_prints_59 rfl rfl ?_
          refine V_iload_n 5 63 rfl dX8_prints_62 rfl rfl ?_
          obtain ⟨v18, h17, hf⟩ := ob hf
          refine V_callS (rest := [.int x4]) 0 0 66 [.int v18, .int x4] (c_J9_floorDiv_7cf53 l G (d + 2) _ _ _ _ h17) (by omega) ok_J9_floorDiv_7cf53 oks_J9_floorDiv_7cf53 wd_ml_X8_248 rfl rfl (Nat.le_of_ble_eq_true rfl) rfl rfl (Or.inl ⟨rfl, rfl⟩) dX8_prints_63 rfl rfl ?_
          refine V_aload_n 2 67 rfl dX8_prints_66 rfl rfl ?_
          refine V_iload_n 4 68 rfl dX8_prints_67 rfl rfl ?_
          refine V_iload 0 70 rfl dX8_prints_68 rfl ?_
          obtain ⟨v20, h19, hf⟩ := ob hf
          refine V_callV (rest := [.int v18, .int x4]) (T := TX8) (n := 27) (ci := 7) 0 0 73 [.int v20, .int v18, .int x4] (c_X8_dot l G (d + 1) _ _ _ _ _ h19) (by omega) ok_X8_dot okv_X8_dot (gd_X8_dot h19) rfl wd_ml_X8_140 rfl rfl (Nat.le_of_ble_eq_true rfl) rfl rfl (Or.inl ⟨rfl, rfl⟩) dX8_prints_70 rfl rfl ?_
          refine V_iload_n 5 74 rfl dX8_prints_73 rfl rfl ?_
          obtain ⟨v22, h21, hf⟩ := ob hf
          refine V_callS (rest := [.int v18, .int x4]) 0 0 77 [.int v22, .int v18, .int x4] (c_J9_floorDiv_7cf53 l G (d + 2) _ _ _ _ h21) (by omega) ok_J9_floorDiv_7cf53 oks_J9_floorDiv_7cf53 wd_ml_X8_248 rfl rfl (Nat.le_of_ble_eq_true rfl) rfl rfl (Or.inl ⟨rfl, rfl⟩) dX8_prints_74 rfl rfl ?_
          have kj23 : V mi_X8_prints l G (d + 4) 0 0 X 0 0 85 [(5, .int x5), (4, .int x4), (0, .ref t), (1, .int x1), (2, .int x2), (3, .int x3)] [.int (if v18 = v22 then 0 else 1 : Int32), .int x4] σ := by
            refine V_iadd 86 dX8_prints_85 rfl ?_
            refine V_istore [(4, .int (x4 + (if v18 = v22 then 0 else 1 : Int32))), (5, .int x5), (0, .ref t), (1, .int x1), (2, .int x2), (3, .int x3)] 88 dX8_prints_86 (by decide) rfl rfl ?_
            refine V_iinc (x5 + 1) 1 [(5, .int (x5 + 1)), (4, .int (x4 + (if v18 = v22 then 0 else 1 : Int32))), (0, .ref t), (1, .int x1), (2, .int x2), (3, .int x3)] 91 dX8_prints_88 rfl (by rw [kiconst_1]) (by decide) rfl rfl ?_
            refine V_goto 33 dX8_prints_91 (by decide) ?_
            refine V_ls [(5, .int (x5 + 1)), (4, .int (x4 + (if v18 = v22 then 0 else 1 : Int32))), (0, .ref t), (1, .int x1), (2, .int x2), (3, .int x3)] [0, 1, 2, 3, 4, 5] rfl ?_
            exact ih _ _ _ hf hk
          refine V_icmp_eq 84 80 dX8_prints_77 (by decide) rfl (fun c24 => ?_) (fun c24 => ?_)
          · refine V_iconst 0 85 dX8_prints_84 rfl kiconst_0 ?_
            refine V_ls [(5, .int x5), (4, .int x4), (0, .ref t), (1, .int x1), (2, .int x2), (3, .int x3)] [0, 1, 2, 3, 4, 5] rfl ?_
            simp only [if_pos c24] at kj23
            exact kj23
          · refine V_iconst 1 81 dX8_prints_80 rfl kiconst_1 ?_
            refine V_goto 85 dX8_prints_81 (by decide) ?_
            refine V_ls [(5, .int x5), (4, .int x4), (0, .ref t), (1, .int x1), (2, .int x2), (3, .int x3)] [0, 1, 2, 3, 4, 5] rfl ?_
            simp only [if_neg c24] at kj23
            exact kj23
  by_cases hg : isO σ 7 t = true
  · rw [if_pos hg] at hf
    refine V_aload_n 0 1 rfl dX8_prints_0 rfl rfl ?_
    refine V_iload_n 1 2 rfl dX8_prints_1 rfl rfl ?_
    refine V_iload_n 2 3 rfl dX8_prints_2 rfl rfl ?_
    obtain ⟨v2, h1, hf⟩ := ob hf
    refine V_callV (rest := []) (T := TX8) (n := 27) (ci := 7) 0 0 6 [.int v2] (c_X8_areTwo l G (d + 0) _ _ _ _ _ h1) (by omega) ok_X8_areTwo okv_X8_areTwo (gd_X8_areTwo h1) rfl wd_ml_X8_225 rfl rfl (Nat.le_of_ble_eq_true rfl) rfl rfl (Or.inl ⟨rfl, rfl⟩) dX8_prints_3 rfl rfl ?_
    refine V_if_eq 20 9 dX8_prints_6 (by decide) rfl (fun c3 => ?_) (fun c3 => ?_)
    · rw [if_pos c3] at hf
      refine V_aload_n 0 21 rfl dX8_prints_20 rfl rfl ?_
      refine V_ldc (-1000001) 23 dX8_prints_21 rfl wd_kk_X8_76 ?_
      obtain ⟨p5, h4, hf⟩ := ob hf
      refine V_callV (rest := []) (T := TX8) (n := 27) (ci := 7) 0 0 26 [.int p5.1] (c_X8_finding l G (d + 2) _ _ _ _ _ h4) (by omega) ok_X8_finding okv_X8_finding (gd_X8_finding h4) rfl wd_ml_X8_77 rfl rfl (Nat.le_of_ble_eq_true rfl) rfl rfl (Or.inl ⟨rfl, rfl⟩) dX8_prints_23 rfl rfl ?_
      have er := Option.some.inj hf
      obtain ⟨e1, e2⟩ := Prod.mk.inj er
      subst e1
      subst e2
      exact V_iret hQ rfl dX8_prints_26
    · rw [if_neg c3] at hf
      refine V_iload_n 3 10 rfl dX8_prints_9 rfl rfl ?_
      refine V_iconst 1 11 dX8_prints_10 rfl kiconst_1 ?_
      refine V_sipush 9999 14 dX8_prints_11 rfl ksipush_9999 ?_
      obtain ⟨v7, h6, hf⟩ := ob hf
      refine V_callS (rest := []) 0 0 17 [.int v7] (c_X8_within l G (d + 2) _ _ _ _ _ h6) (by omega) ok_X8_within oks_X8_within wd_ml_X8_68 rfl rfl (Nat.le_of_ble_eq_true rfl) rfl rfl (Or.inl ⟨rfl, rfl⟩) dX8_prints_14 rfl rfl ?_
      refine V_if_ne 27 20 dX8_prints_17 (by decide) rfl (fun c8 => ?_) (fun c8 => ?_)
      · rw [if_neg c8] at hf
        refine V_iconst 0 28 dX8_prints_27 rfl kiconst_0 ?_
        refine V_istore [(4, .int 0), (0, .ref t), (1, .int a0), (2, .int a1), (3, .int a2)] 30 dX8_prints_28 (by decide) rfl rfl ?_
        refine V_iconst 0 31 dX8_prints_30 rfl kiconst_0 ?_
        refine V_istore [(5, .int 0), (4, .int 0), (0, .ref t), (1, .int a0), (2, .int a1), (3, .int a2)] 33 dX8_prints_31 (by decide) rfl rfl ?_
        obtain ⟨p25, h26, hf⟩ := ob hf
        refine V_ls [(5, .int 0), (4, .int 0), (0, .ref t), (1, .int a0), (2, .int a1), (3, .int a2)] [0, 1, 2, 3, 4, 5] rfl ?_
        refine L33 σ a0 a1 a2 3000 0 0 p25 h26 ?_
        refine V_iload 1 96 rfl dX8_prints_94 rfl ?_
        have er := Option.some.inj hf
        obtain ⟨e1, e2⟩ := Prod.mk.inj er
        subst e1
        subst e2
        exact V_iret hQ rfl dX8_prints_96
      · rw [if_pos c8] at hf
        refine V_aload_n 0 21 rfl dX8_prints_20 rfl rfl ?_
        refine V_ldc (-1000001) 23 dX8_prints_21 rfl wd_kk_X8_76 ?_
        obtain ⟨p28, h27, hf⟩ := ob hf
        refine V_callV (rest := []) (T := TX8) (n := 27) (ci := 7) 0 0 26 [.int p28.1] (c_X8_finding l G (d + 2) _ _ _ _ _ h27) (by omega) ok_X8_finding okv_X8_finding (gd_X8_finding h27) rfl wd_ml_X8_77 rfl rfl (Nat.le_of_ble_eq_true rfl) rfl rfl (Or.inl ⟨rfl, rfl⟩) dX8_prints_23 rfl rfl ?_
        have er := Option.some.inj hf
        obtain ⟨e1, e2⟩ := Prod.mk.inj er
        subst e1
        subst e2
        exact V_iret hQ rfl dX8_prints_26
  · rw [if_neg hg] at hf
    cases hf
abbrev mi_X8_worked : MI := (yX8_worked, cX8_worked, 11, some .int)
theorem ok_X8_worked : OkN mi_X8_worked 3 := ⟨wd_cd_X8_worked, wd_in_X8, ⟨by decide +kernel, by decide +kernel, by decide +kernel⟩, by decide⟩
theorem okv_X8_worked : Cond.instanceMethod (mi_X8_worked).1 ∈ tb ∧ Cond.selects (mi_X8_worked).1.cls (mi_X8_worked).1 (mi_X8_worked).1 ∈ tb := ⟨wd_im_X8_worked, wd_se_X8_worked⟩
def f_X8_worked_L47 (t : Nat) (x1 : Int32) (x2 : Int32) : Nat → Int32 → Int64 → Int32 → Int32 → St → Option (Int32 × Int64 × Int32 × Int32 × St)
  | 0, _, _, _, _, _ => none
  | n + 1, x8, x6, x5, x4, σ => (f_X8_many σ t x1).bind fun v15 => if v15 ≤ x8 then (some (x8, x6, x5, x4, σ)) else ((f_X8_dot σ t x1 x8).bind fun v18 => (f_X8_lawAt σ t x1 x8).bind fun p20 => (f_J9_abs_067f4 p20.2 (v18.toInt64 - p20.1.toInt64)).bind fun v22 => (gQ p20.2 7 t 0).bind fun q24 => (f_X8_curve p20.2 t x1 2).bind fun v26 => (aI p20.2 0 q24 ((10 : Int32) + ((3 : Int32) * v26))).bind fun v28 => (neL v28.toInt64).bind fun z29 => (f_J9_max_f86c9 p20.2 x6 v22).bind fun v32 => f_X8_worked_L47 t x1 x2 n (x8 + 1) v32 (x5 + (if (lg_cmp (lrm v22 v28.toInt64) 0) = 0 then 0 else 1 : Int32)) (x4 + (if 0 < (lg_cmp v22 x2.toInt64) then 0 else 1 : Int32)) p20.2)
def f_X8_worked (σ : St) (t : Nat) (a0 : Int32) (a1 : Int32) (a2 : Int32) : Option (Int32 × St) := if isO σ 7 t = true then ((f_X8_is σ t a0 1).bind fun v2 => if v2 = 0 then ((f_X8_finding σ t (-1000001)).bind fun p5 => some (p5.1, p5.2)) else ((f_X8_within σ a1 0 99999).bind fun v7 => if v7 = 0 then ((f_X8_finding σ t (-1000001)).bind fun p10 => some (p10.1, p10.2)) else ((f_X8_within σ a2 0 2).bind fun v12 => if v12 = 0 then ((f_X8_finding σ t (-1000001)).bind fun p44 => some (p44.1, p44.2)) else ((f_X8_worked_L47 t a0 a1 3000 0 0 0 0 σ).bind fun p37 => if a2 = 0 then (some (p37.2.2.2.1, p37.2.2.2.2)) else (if a2 = 1 then ((f_J9_min_f86c9 p37.2.2.2.2 2000000000 p37.2.1).bind fun v42 => some (v42.toInt32, p37.2.2.2.2)) else (some (p37.2.2.1, p37.2.2.2.2))))))) else none
theorem gd_X8_worked {σ : St} {t : Nat} {a0 : Int32} {a1 : Int32} {a2 : Int32} {r : Int32 × St} (h : f_X8_worked σ t a0 a1 a2 = some r) : isO σ 7 t = true := by
  unfold f_X8_worked at h
  by_cases hg : isO σ 7 t = true
  · exact hg
  · rw [if_neg hg] at h
    cases h
set_option maxRecDepth 100000 in
set_option maxHeartbeats 4000000 in
theorem c_X8_worked (l : Launch) (G : Gd) (d : Nat) (σ : St) (t : Nat) (a0 : Int32) (a1 : Int32) (a2 : Int32) (r0 : Int32) (σ' : St) (hf : f_X8_worked σ t a0 a1 a2 = some (r0, σ')) : MetV l G (d + 4) mi_X8_worked [.ref t, .int a0, .int a1, .int a2] σ (some (.int r0)) σ' 0 0 := by
  unfold f_X8_worked at hf
  refine MetV.of [(0, .ref t), (1, .int a0), (2, .int a1), (3, .int a2)] (by decide +kernel) rfl (Nat.le_of_ble_eq_true rfl) ?_
  intro X hQ
  have L47 : ∀ (x1 : Int32) (x2 : Int32) (x3 : Int32) (n : Nat) (x8 : Int32) (x6 : Int64) (x5 : Int32) (x4 : Int32) (σ : St) (p : Int32 × Int64 × Int32 × Int32 × St), f_X8_worked_L47 t x1 x2 n x8 x6 x5 x4 σ = some p → V mi_X8_worked l G (d + 4) 0 0 X 0 0 147 [(8, .int p.1), (6, .long p.2.1), (5, .int p.2.2.1), (4, .int p.2.2.2.1), (0, .ref t), (1, .int x1), (2, .int x2), (3, .int x3)] [] p.2.2.2.2 → V mi_X8_worked l G (d + 4) 0 0 X 0 0 47 [(8, .int x8), (6, .long x6), (5, .int x5), (4, .int x4), (0, .ref t), (1, .int x1), (2, .int x2), (3, .int x3)] [] σ := by
    intro x1 x2 x3 n
    induction n with
    | zero =>
      intro x8 x6 x5 x4 σ p hf
      exact absurd (show (none : Option _) = some p from hf) (by simp)
    | succ n ih =>
      intro x8 x6 x5 x4 σ p hf hk
      rw [f_X8_worked_L47] at hf
      refine V_iload 0 49 rfl dX8_worked_47 rfl ?_
      refine V_aload_n 4 50 rfl dX8_worked_49 rfl rfl ?_
      refine V_iload_n 5 51 rfl dX8_worked_50 rfl rfl ?_
      obtain ⟨v15, h14, hf⟩ := ob hf
      refine V_callV (rest := [.int x8]) (T := TX8) (n := 27) (ci := 7) 0 0 54 [.int v15, .int x8] (c_X8_many l G (d + 1) _ _ _ _ h14) (by omega) ok_X8_many okv_X8_many (gd_X8_many h14) rfl wd_ml_X8_134 rfl rfl (Nat.le_of_ble_eq_true rfl) rfl rfl (Or.inl ⟨rfl, rfl⟩) dX8_worked_51 rfl rfl ?_
      refine V_icmp_ge 147 57 dX8_worked_54 (by decide) rfl (fun c16 => ?_) (fun c16 => ?_)
      · rw [if_pos c16] at hf
        have ep := Option.some.inj hf
        subst ep
        refine V_ls [(8, .int x8), (6, .long x6), (5, .int x5), (4, .int x4), (0, .ref t), (1, .int x1), (2, .int x2), (3, .int x3)] [0, 1, 2, 3, 4, 5, 6, 7] rfl ?_
        exact hk
      · rw [if_neg c16] at hf
        refine V_aload_n 4 58 rfl dX8_worked_57 rfl rfl ?_
        refine V_iload_n 5 59 rfl dX8_worked_58 rfl rfl ?_
        refine V_iload 0 61 rfl dX8_worked_59 rfl ?_
        obtain ⟨v18, h17, hf⟩ := ob hf
        refine V_callV (rest := []) (T := TX8) (n := 27) (ci := 7) 0 0 64 [.int v18] (c_X8_dot l G (d + 1) _ _ _ _ _ h17) (by omega) ok_X8_dot okv_X8_dot (gd_X8_dot h17) rfl wd_ml_X8_140 rfl rfl (Nat.le_of_ble_eq_true rfl) rfl rfl (Or.inl ⟨rfl, rfl⟩) dX8_worked_61 rfl rfl ?_
        refine V_i2l 65 dX8_worked_64 rfl ?_
        refine V_aload_n 4 66 rfl dX8_worked_65 rfl rfl ?_
        refine V_iload_n 5 67 rfl dX8_worked_66 rfl rfl ?_
        refine V_iload 0 69 rfl dX8_worked_67 rfl ?_
        obtain ⟨p20, h19, hf⟩ := ob hf
        refine V_callV (rest := [.long v18.toInt64]) (T := TX8) (n := 27) (ci := 7) 0 0 72 [.int p20.1, .long v18.toInt64] (c_X8_lawAt l G (d + 0) _ _ _ _ _ _ h19) (by omega) ok_X8_lawAt okv_X8_lawAt (gd_X8_lawAt h19) rfl wd_ml_X8_124 rfl rfl (Nat.le_of_ble_eq_true rfl) rfl rfl (Or.inl ⟨rfl, rfl⟩) dX8_worked_69 rfl rfl ?_
        refine V_i2l 73 dX8_worked_72 rfl ?_
        refine V_lsub 74 dX8_worked_73 rfl ?_
        obtain ⟨v22, h21, hf⟩ := ob hf
        refine V_callS (rest := []) 0 0 77 [.long v22] (c_J9_abs_067f4 l G (d + 2) _ _ _ h21) (by omega) ok_J9_abs_067f4 oks_J9_abs_067f4 wd_ml_X8_251 rfl rfl (Nat.le_of_ble_eq_true rfl) rfl rfl (Or.inl ⟨rfl, rfl⟩) dX8_worked_74 rfl rfl ?_
        refine V_lstore [(9, .long v22), (8, .int x8), (6, .long x6), (5, .int x5), (4, .int x4), (0, .ref t), (1, .int x1), (2, .int x2), (3, .int x3)] 79 dX8_worked_77 (by decide) rfl rfl ?_
        refine V_iload 4 81 rfl dX8_worked_79 rfl ?_
        refine V_lload 0 83 rfl dX8_worked_81 rfl ?_
        refine V_iload_n 7 84 rfl dX8_worked_83 rfl rfl ?_
        refine V_i2l 85 dX8_worked_84 rfl ?_
        refine V_lcmp 86 dX8_worked_85 rfl ?_
        have kj35 : V mi_X8_worked l G (d + 4) 0 0 X 0 0 94 [(9, .long v22), (8, .int x8), (6, .long x6), (5, .int x5), (4, .int x4), (0, .ref t), (1, .int x1), (2, .int x2), (3, .int x3)] [.int (if 0 < (lg_cmp v22 x2.toInt64) then 0 else 1 : Int32), .int x4] p20.2 := by
          refine V_iadd 95 dX8_worked_94 rfl ?_
          refine V_istore [(4, .int (x4 + (if 0 < (lg_cmp v22 x2.toInt64) then 0 else 1 : Int32))), (9, .long v22), (8, .int x8), (6, .long x6), (5, .int x5), (0, .ref t), (1, .int x1), (2, .int x2), (3, .int x3)] 97 dX8_worked_95 (by decide) rfl rfl ?_
          refine V_iload 4 99 rfl dX8_worked_97 rfl ?_
          refine V_lload 1 101 rfl dX8_worked_99 rfl ?_
          refine V_aload_n 5 102 rfl dX8_worked_101 rfl rfl ?_
          obtain ⟨q24, h23, hf⟩ := ob hf
          refine V_getQ (n := 27) (ty := tyX8) 105 h23 cf_7 rfl wd_fl_X8_9 dX8_worked_102 rfl ?_
          refine V_bipush 10 107 dX8_worked_105 rfl kbipush_10 ?_
          refine V_iconst 3 108 dX8_worked_107 rfl kiconst_3 ?_
          refine V_aload_n 5 109 rfl dX8_worked_108 rfl rfl ?_
          refine V_iload_n 6 110 rfl dX8_worked_109 rfl rfl ?_
          refine V_iconst 2 111 dX8_worked_110 rfl kiconst_2 ?_
          obtain ⟨v26, h25, hf⟩ := ob hf
          refine V_callV (rest := [.int 3, .int 10, .ref q24, .long v22, .int x5]) (T := TX8) (n := 27) (ci := 7) 0 0 114 [.int v26, .int 3, .int 10, .ref q24, .long v22, .int x5] (c_X8_curve l G (d + 2) _ _ _ _ _ h25) (by omega) ok_X8_curve okv_X8_curve (gd_X8_curve h25) rfl wd_ml_X8_87 rfl rfl (Nat.le_of_ble_eq_true rfl) rfl rfl (Or.inl ⟨rfl, rfl⟩) dX8_worked_111 rfl rfl ?_
          refine V_imul 115 dX8_worked_114 rfl ?_
          refine V_iadd 116 dX8_worked_115 rfl ?_
          obtain ⟨v28, h27, hf⟩ := ob hf
          refine V_iald 117 h27 dX8_worked_116 rfl ?_
          refine V_i2l 118 dX8_worked_117 rfl ?_
          obtain ⟨z29, h30, hf⟩ := ob hf
          refine V_lrem 119 dX8_worked_118 rfl (neL_ne h30) ?_
          refine V_lconst 0 120 dX8_worked_119 rfl klconst_0 ?_
          refine V_lcmp 121 dX8_worked_120 rfl ?_
          have kj33 : V mi_X8_worked l G (d + 4) 0 0 X 0 0 129 [(4, .int (x4 + (if 0 < (lg_cmp v22 x2.toInt64) then 0 else 1 : Int32))), (9, .long v22), (8, .int x8), (6, .long x6), (5, .int x5), (0, .ref t), (1, .int x1), (2, .int x2), (3, .int x3)] [.int (if (lg_cmp (lrm v22 v28.toInt64) 0) = 0 then 0 else 1 : Int32), .int x5] p20.2 := by
            refine V_iadd 130 dX8_worked_129 rfl ?_
            refine V_istore [(5, .int (x5 + (if (lg_cmp (lrm v22 v28.toInt64) 0) = 0 then 0 else 1 : Int32))), (4, .int (x4 + (if 0 < (lg_cmp v22 x2.toInt64) then 0 else 1 : Int32))), (9, .long v22), (8, .int x8), (6, .long x6), (0, .ref t), (1, .int x1), (2, .int x2), (3, .int x3)] 132 dX8_worked_130 (by decide) rfl rfl ?_
            refine V_lload 4 134 rfl dX8_worked_132 rfl ?_
            refine V_lload 2 136 rfl dX8_worked_134 rfl ?_
            obtain ⟨v32, h31, hf⟩ := ob hf
            refine V_callS (rest := []) 0 0 139 [.long v32] (c_J9_max_f86c9 l G (d + 2) _ _ _ _ h31) (by omega) ok_J9_max_f86c9 oks_J9_max_f86c9 wd_ml_X8_103 rfl rfl (Nat.le_of_ble_eq_true rfl) rfl rfl (Or.inl ⟨rfl, rfl⟩) dX8_worked_136 rfl rfl ?_
            refine V_lstore [(6, .long v32), (5, .int (x5 + (if (lg_cmp (lrm v22 v28.toInt64) 0) = 0 then 0 else 1 : Int32))), (4, .int (x4 + (if 0 < (lg_cmp v22 x2.toInt64) then 0 else 1 : Int32))), (9, .long v22), (8, .int x8), (0, .ref t), (1, .int x1), (2, .int x2), (3, .int x3)] 141 dX8_worked_139 (by decide) rfl rfl ?_
            refine V_iinc (x8 + 1) 4 [(8, .int (x8 + 1)), (6, .long v32), (5, .int (x5 + (if (lg_cmp (lrm v22 v28.toInt64) 0) = 0 then 0 else 1 : Int32))), (4, .int (x4 + (if 0 < (lg_cmp v22 x2.toInt64) then 0 else 1 : Int32))), (9, .long v22), (0, .ref t), (1, .int x1), (2, .int x2), (3, .int x3)] 144 dX8_worked_141 rfl (by rw [kiconst_1]) (by decide) rfl rfl ?_
            refine V_goto 47 dX8_worked_144 (by decide) ?_
            refine V_ls [(8, .int (x8 + 1)), (6, .long v32), (5, .int (x5 + (if (lg_cmp (lrm v22 v28.toInt64) 0) = 0 then 0 else 1 : Int32))), (4, .int (x4 + (if 0 < (lg_cmp v22 x2.toInt64) then 0 else 1 : Int32))), (0, .ref t), (1, .int x1), (2, .int x2), (3, .int x3)] [0, 1, 2, 3, 5, 6, 7, 8] rfl ?_
            exact ih _ _ _ _ _ _ hf hk
          refine V_if_eq 128 124 dX8_worked_121 (by decide) rfl (fun c34 => ?_) (fun c34 => ?_)
          · refine V_iconst 0 129 dX8_worked_128 rfl kiconst_0 ?_
            refine V_ls [(4, .int (x4 + (if 0 < (lg_cmp v22 x2.toInt64) then 0 else 1 : Int32))), (9, .long v22), (8, .int x8), (6, .long x6), (5, .int x5), (0, .ref t), (1, .int x1), (2, .int x2), (3, .int x3)] [0, 1, 2, 3, 4, 5, 6, 7, 8] rfl ?_
            simp only [if_pos c34] at kj33
            exact kj33
          · refine V_iconst 1 125 dX8_worked_124 rfl kiconst_1 ?_
            refine V_goto 129 dX8_worked_125 (by decide) ?_
            refine V_ls [(4, .int (x4 + (if 0 < (lg_cmp v22 x2.toInt64) then 0 else 1 : Int32))), (9, .long v22), (8, .int x8), (6, .long x6), (5, .int x5), (0, .ref t), (1, .int x1), (2, .int x2), (3, .int x3)] [0, 1, 2, 3, 4, 5, 6, 7, 8] rfl ?_
            simp only [if_neg c34] at kj33
            exact kj33
        refine V_if_gt 93 89 dX8_worked_86 (by decide) rfl (fun c36 => ?_) (fun c36 => ?_)
        · refine V_iconst 0 94 dX8_worked_93 rfl kiconst_0 ?_
          refine V_ls [(9, .long v22), (8, .int x8), (6, .long x6), (5, .int x5), (4, .int x4), (0, .ref t), (1, .int x1), (2, .int x2), (3, .int x3)] [0, 1, 2, 3, 4, 5, 6, 7, 8] rfl ?_
          simp only [if_pos c36] at kj35
          exact kj35
        · refine V_iconst 1 90 dX8_worked_89 rfl kiconst_1 ?_
          refine V_goto 94 dX8_worked_90 (by decide) ?_
          refine V_ls [(9, .long v22), (8, .int x8), (6, .long x6), (5, .int x5), (4, .int x4), (0, .ref t), (1, .int x1), (2, .int x2), (3, .int x3)] [0, 1, 2, 3, 4, 5, 6, 7, 8] rfl ?_
          simp only [if_neg c36] at kj35
          exact kj35
  by_cases hg : isO σ 7 t = true
  · rw [if_pos hg] at hf
    refine V_aload_n 0 1 rfl dX8_worked_0 rfl rfl ?_
    refine V_iload_n 1 2 rfl dX8_worked_1 rfl rfl ?_
    refine V_iconst 1 3 dX8_worked_2 rfl kiconst_1 ?_
    obtain ⟨v2, h1, hf⟩ := ob hf
    refine V_callV (rest := []) (T := TX8) (n := 27) (ci := 7) 0 0 6 [.int v2] (c_X8_is l G (d + 1) _ _ _ _ _ h1) (by omega) ok_X8_is okv_X8_is (gd_X8_is h1) rfl wd_ml_X8_83 rfl rfl (Nat.le_of_ble_eq_true rfl) rfl rfl (Or.inl ⟨rfl, rfl⟩) dX8_worked_3 rfl rfl ?_
    refine V_if_eq 28 9 dX8_worked_6 (by decide) rfl (fun c3 => ?_) (fun c3 => ?_)
    · rw [if_pos c3] at hf
      refine V_aload_n 0 29 rfl dX8_worked_28 rfl rfl ?_
      refine V_ldc (-1000001) 31 dX8_worked_29 rfl wd_kk_X8_76 ?_
      obtain ⟨p5, h4, hf⟩ := ob hf
      refine V_callV (rest := []) (T := TX8) (n := 27) (ci := 7) 0 0 34 [.int p5.1] (c_X8_finding l G (d + 2) _ _ _ _ _ h4) (by omega) ok_X8_finding okv_X8_finding (gd_X8_finding h4) rfl wd_ml_X8_77 rfl rfl (Nat.le_of_ble_eq_true rfl) rfl rfl (Or.inl ⟨rfl, rfl⟩) dX8_worked_31 rfl rfl ?_
      have er := Option.some.inj hf
      obtain ⟨e1, e2⟩ := Prod.mk.inj er
      subst e1
      subst e2
      exact V_iret hQ rfl dX8_worked_34
    · rw [if_neg c3] at hf
      refine V_iload_n 2 10 rfl dX8_worked_9 rfl rfl ?_
      refine V_iconst 0 11 dX8_worked_10 rfl kiconst_0 ?_
      refine V_ldc 99999 13 dX8_worked_11 rfl wd_kk_X8_115 ?_
      obtain ⟨v7, h6, hf⟩ := ob hf
      refine V_callS (rest := []) 0 0 16 [.int v7] (c_X8_within l G (d + 2) _ _ _ _ _ h6) (by omega) ok_X8_within oks_X8_within wd_ml_X8_68 rfl rfl (Nat.le_of_ble_eq_true rfl) rfl rfl (Or.inl ⟨rfl, rfl⟩) dX8_worked_13 rfl rfl ?_
      refine V_if_eq 28 19 dX8_worked_16 (by decide) rfl (fun c8 => ?_) (fun c8 => ?_)
      · rw [if_pos c8] at hf
        refine V_aload_n 0 29 rfl dX8_worked_28 rfl rfl ?_
        refine V_ldc (-1000001) 31 dX8_worked_29 rfl wd_kk_X8_76 ?_
        obtain ⟨p10, h9, hf⟩ := ob hf
        refine V_callV (rest := []) (T := TX8) (n := 27) (ci := 7) 0 0 34 [.int p10.1] (c_X8_finding l G (d + 2) _ _ _ _ _ h9) (by omega) ok_X8_finding okv_X8_finding (gd_X8_finding h9) rfl wd_ml_X8_77 rfl rfl (Nat.le_of_ble_eq_true rfl) rfl rfl (Or.inl ⟨rfl, rfl⟩) dX8_worked_31 rfl rfl ?_
        have er := Option.some.inj hf
        obtain ⟨e1, e2⟩ := Prod.mk.inj er
        subst e1
        subst e2
        exact V_iret hQ rfl dX8_worked_34
      · rw [if_neg c8] at hf
        refine V_iload_n 3 20 rfl dX8_worked_19 rfl rfl ?_
        refine V_iconst 0 21 dX8_worked_20 rfl kiconst_0 ?_
        refine V_iconst 2 22 dX8_worked_21 rfl kiconst_2 ?_
        obtain ⟨v12, h11, hf⟩ := ob hf
        refine V_callS (rest := []) 0 0 25 [.int v12] (c_X8_within l G (d + 2) _ _ _ _ _ h11) (by omega) ok_X8_within oks_X8_within wd_ml_X8_68 rfl rfl (Nat.le_of_ble_eq_true rfl) rfl rfl (Or.inl ⟨rfl, rfl⟩) dX8_worked_22 rfl rfl ?_
        refine V_if_ne 35 28 dX8_worked_25 (by decide) rfl (fun c13 => ?_) (fun c13 => ?_)
        · rw [if_neg c13] at hf
          refine V_iconst 0 36 dX8_worked_35 rfl kiconst_0 ?_
          refine V_istore [(4, .int 0), (0, .ref t), (1, .int a0), (2, .int a1), (3, .int a2)] 38 dX8_worked_36 (by decide) rfl rfl ?_
          refine V_iconst 0 39 dX8_worked_38 rfl kiconst_0 ?_
          refine V_istore [(5, .int 0), (4, .int 0), (0, .ref t), (1, .int a0), (2, .int a1), (3, .int a2)] 41 dX8_worked_39 (by decide) rfl rfl ?_
          refine V_lconst 0 42 dX8_worked_41 rfl klconst_0 ?_
          refine V_lstore [(6, .long 0), (5, .int 0), (4, .int 0), (0, .ref t), (1, .int a0), (2, .int a1), (3, .int a2)] 44 dX8_worked_42 (by decide) rfl rfl ?_
          refine V_iconst 0 45 dX8_worked_44 rfl kiconst_0 ?_
          refine V_istore [(8, .int 0), (6, .long 0), (5, .int 0), (4, .int 0), (0, .ref t), (1, .int a0), (2, .int a1), (3, .int a2)] 47 dX8_worked_45 (by decide) rfl rfl ?_
          obtain ⟨p37, h38, hf⟩ := ob hf
          refine V_ls [(8, .int 0), (6, .long 0), (5, .int 0), (4, .int 0), (0, .ref t), (1, .int a0), (2, .int a1), (3, .int a2)] [0, 1, 2, 3, 4, 5, 6, 7] rfl ?_
          refine L47 a0 a1 a2 3000 0 0 0 0 σ p37 h38 ?_
          refine V_iload_n 7 148 rfl dX8_worked_147 rfl rfl ?_
          refine V_if_ne 156 151 dX8_worked_148 (by decide) rfl (fun c39 => ?_) (fun c39 => ?_)
          · rw [if_neg c39] at hf
            refine V_iload_n 7 157 rfl dX8_worked_156 rfl rfl ?_
            refine V_iconst 1 158 dX8_worked_157 rfl kiconst_1 ?_
            refine V_icmp_ne 173 161 dX8_worked_158 (by decide) rfl (fun c40 => ?_) (fun c40 => ?_)
            · rw [if_neg c40] at hf
              refine V_iload 2 175 rfl dX8_worked_173 rfl ?_
              have er := Option.some.inj hf
              obtain ⟨e1, e2⟩ := Prod.mk.inj er
              subst e1
              subst e2
              exact V_iret hQ rfl dX8_worked_175
            · rw [if_pos c40] at hf
              refine V_ldc2 2000000000 164 dX8_worked_161 rfl wd_kl_X8_255 ?_
              refine V_lload 1 166 rfl dX8_worked_164 rfl ?_
              obtain ⟨v42, h41, hf⟩ := ob hf
              refine V_callS (rest := []) 0 0 169 [.long v42] (c_J9_min_f86c9 l G (d + 2) _ _ _ _ h41) (by omega) ok_J9_min_f86c9 oks_J9_min_f86c9 wd_ml_X8_97 rfl rfl (Nat.le_of_ble_eq_true rfl) rfl rfl (Or.inl ⟨rfl, rfl⟩) dX8_worked_166 rfl rfl ?_
              refine V_l2i 170 dX8_worked_169 rfl ?_
              refine V_goto 175 dX8_worked_170 (by decide) ?_
              have er := Option.some.inj hf
              obtain ⟨e1, e2⟩ := Prod.mk.inj er
              subst e1
              subst e2
              exact V_iret hQ rfl dX8_worked_175
          · rw [if_pos c39] at hf
            refine V_iload 3 153 rfl dX8_worked_151 rfl ?_
            refine V_goto 175 dX8_worked_153 (by decide) ?_
            have er := Option.some.inj hf
            obtain ⟨e1, e2⟩ := Prod.mk.inj er
            subst e1
            subst e2
            exact V_iret hQ rfl dX8_worked_175
        · rw [if_pos c13] at hf
          refine V_aload_n 0 29 rfl dX8_worked_28 rfl rfl ?_
          refine V_ldc (-1000001) 31 dX8_worked_29 rfl wd_kk_X8_76 ?_
          obtain ⟨p44, h43, hf⟩ := ob hf
          refine V_callV (rest := []) (T := TX8) (n := 27) (ci := 7) 0 0 34 [.int p44.1] (c_X8_finding l G (d + 2) _ _ _ _ _ h43) (by omega) ok_X8_finding okv_X8_finding (gd_X8_finding h43) rfl wd_ml_X8_77 rfl rfl (Nat.le_of_ble_eq_true rfl) rfl rfl (Or.inl ⟨rfl, rfl⟩) dX8_worked_31 rfl rfl ?_
          have er := Option.some.inj hf
          obtain ⟨e1, e2⟩ := Prod.mk.inj er
          subst e1
          subst e2
          exact V_iret hQ rfl dX8_worked_34
  · rw [if_neg hg] at hf
    cases hf
abbrev mi_X8_signOf : MI := (yX8_signOf, cX8_signOf, 6, some .int)
theorem ok_X8_signOf : OkN mi_X8_signOf 1 := ⟨wd_cd_X8_signOf, wd_in_X8, ⟨by decide +kernel, by decide +kernel, by decide +kernel⟩, by decide⟩
theorem okv_X8_signOf : Cond.instanceMethod (mi_X8_signOf).1 ∈ tb ∧ Cond.selects (mi_X8_signOf).1.cls (mi_X8_signOf).1 (mi_X8_signOf).1 ∈ tb := ⟨wd_im_X8_signOf, wd_se_X8_signOf⟩
def f_X8_signOf_L44 (σ : St) (x3 : Int32) (t : Nat) (x1 : Int32) : Nat → Int32 → Int32 → Option (Int32 × Int32)
  | 0, _, _ => none
  | n + 1, x5, x4 => (f_X8_many σ t x1).bind fun v13 => if (v13 - 1) ≤ x5 then (some (x5, x4)) else (if x4 = 0 then ((f_X8_hairOf σ t x1 x5).bind fun v17 => if x3 < v17 then (f_X8_signOf_L44 σ x3 t x1 n (x5 + 1) 1) else ((f_X8_hairOf σ t x1 x5).bind fun v20 => f_X8_signOf_L44 σ x3 t x1 n (x5 + 1) (if (-x3) ≤ v20 then 0 else 1 : Int32))) else (f_X8_signOf_L44 σ x3 t x1 n (x5 + 1) 1))
def f_X8_signOf (σ : St) (t : Nat) (a0 : Int32) : Option (Int32 × St) := if isO σ 7 t = true then ((f_X8_curve σ t a0 2).bind fun v2 => (f_X8_dayOf σ t a0).bind fun v4 => (f_X8_given σ t 1 v2 v4 0).bind fun p6 => if p6.1 = 0 then (some (0, p6.2)) else ((gQ p6.2 7 t 0).bind fun q9 => (aI p6.2 0 q9 (((10 : Int32) + ((3 : Int32) * v2)) + 2)).bind fun v11 => (f_X8_signOf_L44 p6.2 v11 t a0 3000 1 0).bind fun p23 => some ((if p23.2 = 0 then 2 else 1 : Int32), p6.2))) else none
theorem gd_X8_signOf {σ : St} {t : Nat} {a0 : Int32} {r : Int32 × St} (h : f_X8_signOf σ t a0 = some r) : isO σ 7 t = true := by
  unfold f_X8_signOf at h
  by_cases hg : isO σ 7 t = true
  · exact hg
  · rw [if_neg hg] at h
    cases h
set_option maxRecDepth 100000 in
set_option maxHeartbeats 4000000 in
theorem c_X8_signOf (l : Launch) (G : Gd) (d : Nat) (σ : St) (t : Nat) (a0 : Int32) (r0 : Int32) (σ' : St) (hf : f_X8_signOf σ t a0 = some (r0, σ')) : MetV l G (d + 4) mi_X8_signOf [.ref t, .int a0] σ (some (.int r0)) σ' 0 0 := by
  unfold f_X8_signOf at hf
  refine MetV.of [(0, .ref t), (1, .int a0)] (by decide +kernel) rfl (Nat.le_of_ble_eq_true rfl) ?_
  intro X hQ
  have L44 : ∀ (σ : St) (x3 : Int32) (x1 : Int32) (n : Nat) (x5 : Int32) (x4 : Int32) (p : Int32 × Int32), f_X8_signOf_L44 σ x3 t x1 n x5 x4 = some p → V mi_X8_signOf l G (d + 4) 0 0 X 0 0 97 [(5, .int p.1), (4, .int p.2), (3, .int x3), (0, .ref t), (1, .int x1)] [] σ → V mi_X8_signOf l G (d + 4) 0 0 X 0 0 44 [(5, .int x5), (4, .int x4), (3, .int x3), (0, .ref t), (1, .int x1)] [] σ := by
    intro σ x3 x1 n
    induction n with
    | zero =>
      intro x5 x4 p hf
      exact absurd (show (none : Option _) = some p from hf) (by simp)
    | succ n ih =>
      intro x5 x4 p hf hk
      rw [f_X8_signOf_L44] at hf
      refine V_iload 0 46 rfl dX8_signOf_44 rfl ?_
      refine V_aload_n 3 47 rfl dX8_signOf_46 rfl rfl ?_
      refine V_iload_n 4 48 rfl dX8_signOf_47 rfl rfl ?_
      obtain ⟨v13, h12, hf⟩ := ob hf
      refine V_callV (rest := [.int x5]) (T := TX8) (n := 27) (ci := 7) 0 0 51 [.int v13, .int x5] (c_X8_many l G (d + 1) _ _ _ _ h12) (by omega) ok_X8_many okv_X8_many (gd_X8_many h12) rfl wd_ml_X8_134 rfl rfl (Nat.le_of_ble_eq_true rfl) rfl rfl (Or.inl ⟨rfl, rfl⟩) dX8_signOf_48 rfl rfl ?_
      refine V_iconst 1 52 dX8_signOf_51 rfl kiconst_1 ?_
      refine V_isub 53 dX8_signOf_52 rfl ?_
      refine V_icmp_ge 97 56 dX8_signOf_53 (by decide) rfl (fun c14 => ?_) (fun c14 => ?_)
      · rw [if_pos c14] at hf
        have ep := Option.some.inj hf
        subst ep
        refine V_ls [(5, .int x5), (4, .int x4), (3, .int x3), (0, .ref t), (1, .int x1)] [0, 1, 2, 3, 4] rfl ?_
        exact hk
      · rw [if_neg c14] at hf
        refine V_iload 1 58 rfl dX8_signOf_56 rfl ?_
        refine V_if_ne 84 61 dX8_signOf_58 (by decide) rfl (fun c15 => ?_) (fun c15 => ?_)
        · rw [if_neg c15] at hf
          refine V_iconst 1 85 dX8_signOf_84 rfl kiconst_1 ?_
          refine V_goto 89 dX8_signOf_85 (by decide) ?_
          refine V_istore [(4, .int 1), (5, .int x5), (3, .int x3), (0, .ref t), (1, .int x1)] 91 dX8_signOf_89 (by decide) rfl rfl ?_
          refine V_iinc (x5 + 1) 1 [(5, .int (x5 + 1)), (4, .int 1), (3, .int x3), (0, .ref t), (1, .int x1)] 94 dX8_signOf_91 rfl (by rw [kiconst_1]) (by decide) rfl rfl ?_
          refine V_goto 44 dX8_signOf_94 (by decide) ?_
          refine V_ls [(5, .int (x5 + 1)), (4, .int 1), (3, .int x3), (0, .ref t), (1, .int x1)] [0, 1, 2, 3, 4] rfl ?_
          exact ih _ _ _ hf hk
        · rw [if_pos c15] at hf
          refine V_aload_n 3 62 rfl dX8_signOf_61 rfl rfl ?_
          refine V_iload_n 4 63 rfl dX8_signOf_62 rfl rfl ?_
          refine V_iload 0 65 rfl dX8_signOf_63 rfl ?_
          obtain ⟨v17, h16, hf⟩ := ob hf
          refine V_callV (rest := []) (T := TX8) (n := 27) (ci := 7) 0 0 68 [.int v17] (c_X8_hairOf l G (d + 0) _ _ _ _ _ h16) (by omega) ok_X8_hairOf okv_X8_hairOf (gd_X8_hairOf h16) rfl wd_ml_X8_147 rfl rfl (Nat.le_of_ble_eq_true rfl) rfl rfl (Or.inl ⟨rfl, rfl⟩) dX8_signOf_65 rfl rfl ?_
          refine V_iload_n 2 69 rfl dX8_signOf_68 rfl rfl ?_
          refine V_icmp_gt 84 72 dX8_signOf_69 (by decide) rfl (fun c18 => ?_) (fun c18 => ?_)
          · rw [if_pos c18] at hf
            refine V_iconst 1 85 dX8_signOf_84 rfl kiconst_1 ?_
            refine V_goto 89 dX8_signOf_85 (by decide) ?_
            refine V_istore [(4, .int 1), (5, .int x5), (3, .int x3), (0, .ref t), (1, .int x1)] 91 dX8_signOf_89 (by decide) rfl rfl ?_
            refine V_iinc (x5 + 1) 1 [(5, .int (x5 + 1)), (4, .int 1), (3, .int x3), (0, .ref t), (1, .int x1)] 94 dX8_signOf_91 rfl (by rw [kiconst_1]) (by decide) rfl rfl ?_
            refine V_goto 44 dX8_signOf_94 (by decide) ?_
            refine V_ls [(5, .int (x5 + 1)), (4, .int 1), (3, .int x3), (0, .ref t), (1, .int x1)] [0, 1, 2, 3, 4] rfl ?_
            exact ih _ _ _ hf hk
          · rw [if_neg c18] at hf
            refine V_aload_n 3 73 rfl dX8_signOf_72 rfl rfl ?_
            refine V_iload_n 4 74 rfl dX8_signOf_73 rfl rfl ?_
            refine V_iload 0 76 rfl dX8_signOf_74 rfl ?_
            obtain ⟨v20, h19, hf⟩ := ob hf
            refine V_callV (rest := []) (T := TX8) (n := 27) (ci := 7) 0 0 79 [.int v20] (c_X8_hairOf l G (d + 0) _ _ _ _ _ h19) (by omega) ok_X8_hairOf okv_X8_hairOf (gd_X8_hairOf h19) rfl wd_ml_X8_147 rfl rfl (Nat.le_of_ble_eq_true rfl) rfl rfl (Or.inl ⟨rfl, rfl⟩) dX8_signOf_76 rfl rfl ?_
            refine V_iload_n 2 80 rfl dX8_signOf_79 rfl rfl ?_
            refine V_ineg 81 dX8_signOf_80 rfl ?_
            have kj21 : V mi_X8_signOf l G (d + 4) 0 0 X 0 0 89 [(5, .int x5), (4, .int x4), (3, .int x3), (0, .ref t), (1, .int x1)] [.int (if (-x3) ≤ v20 then 0 else 1 : Int32)] σ := by
              refine V_istore [(4, .int (if (-x3) ≤ v20 then 0 else 1 : Int32)), (5, .int x5), (3, .int x3), (0, .ref t), (1, .int x1)] 91 dX8_signOf_89 (by decide) rfl rfl ?_
              refine V_iinc (x5 + 1) 1 [(5, .int (x5 + 1)), (4, .int (if (-x3) ≤ v20 then 0 else 1 : Int32)), (3, .int x3), (0, .ref t), (1, .int x1)] 94 dX8_signOf_91 rfl (by rw [kiconst_1]) (by decide) rfl rfl ?_
              refine V_goto 44 dX8_signOf_94 (by decide) ?_
              refine V_ls [(5, .int (x5 + 1)), (4, .int (if (-x3) ≤ v20 then 0 else 1 : Int32)), (3, .int x3), (0, .ref t), (1, .int x1)] [0, 1, 2, 3, 4] rfl ?_
              exact ih _ _ _ hf hk
            refine V_icmp_ge 88 84 dX8_signOf_81 (by decide) rfl (fun c22 => ?_) (fun c22 => ?_)
            · refine V_iconst 0 89 dX8_signOf_88 rfl kiconst_0 ?_
              refine V_ls [(5, .int x5), (4, .int x4), (3, .int x3), (0, .ref t), (1, .int x1)] [0, 1, 2, 3, 4] rfl ?_
              simp only [if_pos c22] at kj21
              exact kj21
            · refine V_iconst 1 85 dX8_signOf_84 rfl kiconst_1 ?_
              refine V_goto 89 dX8_signOf_85 (by decide) ?_
              refine V_ls [(5, .int x5), (4, .int x4), (3, .int x3), (0, .ref t), (1, .int x1)] [0, 1, 2, 3, 4] rfl ?_
              simp only [if_neg c22] at kj21
              exact kj21
  by_cases hg : isO σ 7 t = true
  · rw [if_pos hg] at hf
    refine V_aload_n 0 1 rfl dX8_signOf_0 rfl rfl ?_
    refine V_iload_n 1 2 rfl dX8_signOf_1 rfl rfl ?_
    refine V_iconst 2 3 dX8_signOf_2 rfl kiconst_2 ?_
    obtain ⟨v2, h1, hf⟩ := ob hf
    refine V_callV (rest := []) (T := TX8) (n := 27) (ci := 7) 0 0 6 [.int v2] (c_X8_curve l G (d + 2) _ _ _ _ _ h1) (by omega) ok_X8_curve okv_X8_curve (gd_X8_curve h1) rfl wd_ml_X8_87 rfl rfl (Nat.le_of_ble_eq_true rfl) rfl rfl (Or.inl ⟨rfl, rfl⟩) dX8_signOf_3 rfl rfl ?_
    refine V_istore_n [(2, .int v2), (0, .ref t), (1, .int a0)] 7 dX8_signOf_6 rfl (by decide) rfl rfl ?_
    refine V_aload_n 1 8 rfl dX8_signOf_7 rfl rfl ?_
    refine V_iconst 1 9 dX8_signOf_8 rfl kiconst_1 ?_
    refine V_iload_n 0 10 rfl dX8_signOf_9 rfl rfl ?_
    refine V_aload_n 1 11 rfl dX8_signOf_10 rfl rfl ?_
    refine V_iload_n 2 12 rfl dX8_signOf_11 rfl rfl ?_
    obtain ⟨v4, h3, hf⟩ := ob hf
    refine V_callV (rest := [.int v2, .int 1, .ref t]) (T := TX8) (n := 27) (ci := 7) 0 0 15 [.int v4, .int v2, .int 1, .ref t] (c_X8_dayOf l G (d + 1) _ _ _ _ h3) (by omega) ok_X8_dayOf okv_X8_dayOf (gd_X8_dayOf h3) rfl wd_ml_X8_222 rfl rfl (Nat.le_of_ble_eq_true rfl) rfl rfl (Or.inl ⟨rfl, rfl⟩) dX8_signOf_12 rfl rfl ?_
    refine V_iconst 0 16 dX8_signOf_15 rfl kiconst_0 ?_
    obtain ⟨p6, h5, hf⟩ := ob hf
    refine V_callV (rest := []) (T := TX8) (n := 27) (ci := 7) 0 0 19 [.int p6.1] (c_X8_given l G (d + 1) _ _ _ _ _ _ _ _ h5) (by omega) ok_X8_given okv_X8_given (gd_X8_given h5) rfl wd_ml_X8_218 rfl rfl (Nat.le_of_ble_eq_true rfl) rfl rfl (Or.inl ⟨rfl, rfl⟩) dX8_signOf_16 rfl rfl ?_
    refine V_if_ne 24 22 dX8_signOf_19 (by decide) rfl (fun c7 => ?_) (fun c7 => ?_)
    · rw [if_neg c7] at hf
      refine V_aload_n 1 25 rfl dX8_signOf_24 rfl rfl ?_
      obtain ⟨q9, h8, hf⟩ := ob hf
      refine V_getQ (n := 27) (ty := tyX8) 28 h8 cf_7 rfl wd_fl_X8_9 dX8_signOf_25 rfl ?_
      refine V_bipush 10 30 dX8_signOf_28 rfl kbipush_10 ?_
      refine V_iconst 3 31 dX8_signOf_30 rfl kiconst_3 ?_
      refine V_iload_n 0 32 rfl dX8_signOf_31 rfl rfl ?_
      refine V_imul 33 dX8_signOf_32 rfl ?_
      refine V_iadd 34 dX8_signOf_33 rfl ?_
      refine V_iconst 2 35 dX8_signOf_34 rfl kiconst_2 ?_
      refine V_iadd 36 dX8_signOf_35 rfl ?_
      obtain ⟨v11, h10, hf⟩ := ob hf
      refine V_iald 37 h10 dX8_signOf_36 rfl ?_
      refine V_istore_n [(3, .int v11), (2, .int v2), (0, .ref t), (1, .int a0)] 38 dX8_signOf_37 rfl (by decide) rfl rfl ?_
      refine V_iconst 0 39 dX8_signOf_38 rfl kiconst_0 ?_
      refine V_istore [(4, .int 0), (3, .int v11), (2, .int v2), (0, .ref t), (1, .int a0)] 41 dX8_signOf_39 (by decide) rfl rfl ?_
      refine V_iconst 1 42 dX8_signOf_41 rfl kiconst_1 ?_
      refine V_istore [(5, .int 1), (4, .int 0), (3, .int v11), (2, .int v2), (0, .ref t), (1, .int a0)] 44 dX8_signOf_42 (by decide) rfl rfl ?_
      obtain ⟨p23, h24, hf⟩ := ob hf
      refine V_ls [(5, .int 1), (4, .int 0), (3, .int v11), (0, .ref t), (1, .int a0)] [0, 1, 2, 4, 5] rfl ?_
      refine L44 p6.2 v11 a0 3000 1 0 p23 h24 ?_
      refine V_iload 1 99 rfl dX8_signOf_97 rfl ?_
      have kj25 : V mi_X8_signOf l G (d + 4) 0 0 X 0 0 107 [(5, .int p23.1), (4, .int p23.2), (3, .int v11), (0, .ref t), (1, .int a0)] [.int (if p23.2 = 0 then 2 else 1 : Int32)] p6.2 := by
        have er := Option.some.inj hf
        obtain ⟨e1, e2⟩ := Prod.mk.inj er
        subst e1
        subst e2
        exact V_iret hQ rfl dX8_signOf_107
      refine V_if_eq 106 102 dX8_signOf_99 (by decide) rfl (fun c26 => ?_) (fun c26 => ?_)
      · refine V_iconst 2 107 dX8_signOf_106 rfl kiconst_2 ?_
        refine V_ls [(5, .int p23.1), (4, .int p23.2), (3, .int v11), (0, .ref t), (1, .int a0)] [0, 1, 2, 3, 4] rfl ?_
        simp only [if_pos c26] at kj25
        exact kj25
      · refine V_iconst 1 103 dX8_signOf_102 rfl kiconst_1 ?_
        refine V_goto 107 dX8_signOf_103 (by decide) ?_
        refine V_ls [(5, .int p23.1), (4, .int p23.2), (3, .int v11), (0, .ref t), (1, .int a0)] [0, 1, 2, 3, 4] rfl ?_
        simp only [if_neg c26] at kj25
        exact kj25
    · rw [if_pos c7] at hf
      refine V_iconst 0 23 dX8_signOf_22 rfl kiconst_0 ?_
      have er := Option.some.inj hf
      obtain ⟨e1, e2⟩ := Prod.mk.inj er
      subst e1
      subst e2
      exact V_iret hQ rfl dX8_signOf_23
  · rw [if_neg hg] at hf
    cases hf
abbrev mi_X8_sign : MI := (yX8_sign, cX8_sign, 2, some .int)
theorem ok_X8_sign : OkN mi_X8_sign 1 := ⟨wd_cd_X8_sign, wd_in_X8, ⟨by decide +kernel, by decide +kernel, by decide +kernel⟩, by decide⟩
theorem okv_X8_sign : Cond.instanceMethod (mi_X8_sign).1 ∈ tb ∧ Cond.selects (mi_X8_sign).1.cls (mi_X8_sign).1 (mi_X8_sign).1 ∈ tb := ⟨wd_im_X8_sign, wd_se_X8_sign⟩
def f_X8_sign (σ : St) (t : Nat) (a0 : Int32) : Option (Int32 × St) := if isO σ 7 t = true then ((f_X8_is σ t a0 1).bind fun v2 => if v2 = 0 then ((f_X8_finding σ t (-1000001)).bind fun p5 => some (p5.1, p5.2)) else ((f_X8_signOf σ t a0).bind fun p7 => some (p7.1, p7.2))) else none
theorem gd_X8_sign {σ : St} {t : Nat} {a0 : Int32} {r : Int32 × St} (h : f_X8_sign σ t a0 = some r) : isO σ 7 t = true := by
  unfold f_X8_sign at h
  by_cases hg : isO σ 7 t = true
  · exact hg
  · rw [if_neg hg] at h
    cases h
set_option maxRecDepth 100000 in
set_option maxHeartbeats 4000000 in
theorem c_X8_sign (l : Launch) (G : Gd) (d : Nat) (σ : St) (t : Nat) (a0 : Int32) (r0 : Int32) (σ' : St) (hf : f_X8_sign σ t a0 = some (r0, σ')) : MetV l G (d + 5) mi_X8_sign [.ref t, .int a0] σ (some (.int r0)) σ' 0 0 := by
  unfold f_X8_sign at hf
  refine MetV.of [(0, .ref t), (1, .int a0)] (by decide +kernel) rfl (Nat.le_of_ble_eq_true rfl) ?_
  intro X hQ
  by_cases hg : isO σ 7 t = true
  · rw [if_pos hg] at hf
    refine V_aload_n 0 1 rfl dX8_sign_0 rfl rfl ?_
    refine V_iload_n 1 2 rfl dX8_sign_1 rfl rfl ?_
    refine V_iconst 1 3 dX8_sign_2 rfl kiconst_1 ?_
    obtain ⟨v2, h1, hf⟩ := ob hf
    refine V_callV (rest := []) (T := TX8) (n := 27) (ci := 7) 0 0 6 [.int v2] (c_X8_is l G (d + 2) _ _ _ _ _ h1) (by omega) ok_X8_is okv_X8_is (gd_X8_is h1) rfl wd_ml_X8_83 rfl rfl (Nat.le_of_ble_eq_true rfl) rfl rfl (Or.inl ⟨rfl, rfl⟩) dX8_sign_3 rfl rfl ?_
    refine V_if_eq 17 9 dX8_sign_6 (by decide) rfl (fun c3 => ?_) (fun c3 => ?_)
    · rw [if_pos c3] at hf
      refine V_aload_n 0 18 rfl dX8_sign_17 rfl rfl ?_
      refine V_ldc (-1000001) 20 dX8_sign_18 rfl wd_kk_X8_76 ?_
      obtain ⟨p5, h4, hf⟩ := ob hf
      refine V_callV (rest := []) (T := TX8) (n := 27) (ci := 7) 0 0 23 [.int p5.1] (c_X8_finding l G (d + 3) _ _ _ _ _ h4) (by omega) ok_X8_finding okv_X8_finding (gd_X8_finding h4) rfl wd_ml_X8_77 rfl rfl (Nat.le_of_ble_eq_true rfl) rfl rfl (Or.inl ⟨rfl, rfl⟩) dX8_sign_20 rfl rfl ?_
      have er := Option.some.inj hf
      obtain ⟨e1, e2⟩ := Prod.mk.inj er
      subst e1
      subst e2
      exact V_iret hQ rfl dX8_sign_23
    · rw [if_neg c3] at hf
      refine V_aload_n 0 10 rfl dX8_sign_9 rfl rfl ?_
      refine V_iload_n 1 11 rfl dX8_sign_10 rfl rfl ?_
      obtain ⟨p7, h6, hf⟩ := ob hf
      refine V_callV (rest := []) (T := TX8) (n := 27) (ci := 7) 0 0 14 [.int p7.1] (c_X8_signOf l G (d + 0) _ _ _ _ _ h6) (by omega) ok_X8_signOf okv_X8_signOf (gd_X8_signOf h6) rfl wd_ml_X8_257 rfl rfl (Nat.le_of_ble_eq_true rfl) rfl rfl (Or.inl ⟨rfl, rfl⟩) dX8_sign_11 rfl rfl ?_
      refine V_goto 23 dX8_sign_14 (by decide) ?_
      have er := Option.some.inj hf
      obtain ⟨e1, e2⟩ := Prod.mk.inj er
      subst e1
      subst e2
      exact V_iret hQ rfl dX8_sign_23
  · rw [if_neg hg] at hf
    cases hf
abbrev mi_X8_unsigned : MI := (yX8_unsigned, cX8_unsigned, 3, some .int)
theorem ok_X8_unsigned : OkN mi_X8_unsigned 0 := ⟨wd_cd_X8_unsigned, wd_in_X8, ⟨by decide +kernel, by decide +kernel, by decide +kernel⟩, by decide⟩
theorem okv_X8_unsigned : Cond.instanceMethod (mi_X8_unsigned).1 ∈ tb ∧ Cond.selects (mi_X8_unsigned).1.cls (mi_X8_unsigned).1 (mi_X8_unsigned).1 ∈ tb := ⟨wd_im_X8_unsigned, wd_se_X8_unsigned⟩
def f_X8_unsigned_L4 (t : Nat) : Nat → Int32 → Int32 → St → Option (Int32 × Int32 × St)
  | 0, _, _, _ => none
  | n + 1, x2, x1, σ => (gQ σ 7 t 0).bind fun q2 => (aI σ 0 q2 1).bind fun v4 => if v4 ≤ x2 then (some (x2, x1, σ)) else ((f_X8_signOf σ t x2).bind fun p7 => f_X8_unsigned_L4 t n (x2 + 1) (x1 ||| (if p7.1 = 2 then (1 : Int32) <<< (x2 &&& 31) else 0 : Int32)) p7.2)
def f_X8_unsigned (σ : St) (t : Nat) : Option (Int32 × St) := if isO σ 7 t = true then ((f_X8_unsigned_L4 t 3000 0 0 σ).bind fun p10 => some (p10.2.1, p10.2.2)) else none
theorem gd_X8_unsigned {σ : St} {t : Nat} {r : Int32 × St} (h : f_X8_unsigned σ t = some r) : isO σ 7 t = true := by
  unfold f_X8_unsigned at h
  by_cases hg : isO σ 7 t = true
  · exact hg
  · rw [if_neg hg] at h
    cases h
set_option maxRecDepth 100000 in
set_option maxHeartbeats 4000000 in
theorem c_X8_unsigned (l : Launch) (G : Gd) (d : Nat) (σ : St) (t : Nat) (r0 : Int32) (σ' : St) (hf : f_X8_unsigned σ t = some (r0, σ')) : MetV l G (d + 5) mi_X8_unsigned [.ref t] σ (some (.int r0)) σ' 0 0 := by
  unfold f_X8_unsigned at hf
  refine MetV.of [(0, .ref t)] (by decide +kernel) rfl (Nat.le_of_ble_eq_true rfl) ?_
  intro X hQ
  have L4 : ∀  (n : Nat) (x2 : Int32) (x1 : Int32) (σ : St) (p : Int32 × Int32 × St), f_X8_unsigned_L4 t n x2 x1 σ = some p → V mi_X8_unsigned l G (d + 5) 0 0 X 0 0 39 [(2, .int p.1), (1, .int p.2.1), (0, .ref t)] [] p.2.2 → V mi_X8_unsigned l G (d + 5) 0 0 X 0 0 4 [(2, .int x2), (1, .int x1), (0, .ref t)] [] σ := by
    intro  n
    induction n with
    | zero =>
      intro x2 x1 σ p hf
      exact absurd (show (none : Option _) = some p from hf) (by simp)
    | succ n ih =>
      intro x2 x1 σ p hf hk
      rw [f_X8_unsigned_L4] at hf
      refine V_iload_n 0 5 rfl dX8_unsigned_4 rfl rfl ?_
      refine V_aload_n 2 6 rfl dX8_unsigned_5 rfl rfl ?_
      obtain ⟨q2, h1, hf⟩ := ob hf
      refine V_getQ (n := 27) (ty := tyX8) 9 h1 cf_7 rfl wd_fl_X8_9 dX8_unsigned_6 rfl ?_
      refine V_iconst 1 10 dX8_unsigned_9 rfl kiconst_1 ?_
      obtain ⟨v4, h3, hf⟩ := ob hf
      refine V_iald 11 h3 dX8_unsigned_10 rfl ?_
      refine V_icmp_ge 39 14 dX8_unsigned_11 (by decide) rfl (fun c5 => ?_) (fun c5 => ?_)
      · rw [if_pos c5] at hf
        have ep := Option.some.inj hf
        subst ep
        refine V_ls [(2, .int x2), (1, .int x1), (0, .ref t)] [0, 1, 2] rfl ?_
        exact hk
      · rw [if_neg c5] at hf
        refine V_iload_n 1 15 rfl dX8_unsigned_14 rfl rfl ?_
        refine V_aload_n 2 16 rfl dX8_unsigned_15 rfl rfl ?_
        refine V_iload_n 0 17 rfl dX8_unsigned_16 rfl rfl ?_
        obtain ⟨p7, h6, hf⟩ := ob hf
        refine V_callV (rest := [.int x1]) (T := TX8) (n := 27) (ci := 7) 0 0 20 [.int p7.1, .int x1] (c_X8_signOf l G (d + 0) _ _ _ _ _ h6) (by omega) ok_X8_signOf okv_X8_signOf (gd_X8_signOf h6) rfl wd_ml_X8_257 rfl rfl (Nat.le_of_ble_eq_true rfl) rfl rfl (Or.inl ⟨rfl, rfl⟩) dX8_unsigned_17 rfl rfl ?_
        refine V_iconst 2 21 dX8_unsigned_20 rfl kiconst_2 ?_
        have kj8 : V mi_X8_unsigned l G (d + 5) 0 0 X 0 0 31 [(2, .int x2), (1, .int x1), (0, .ref t)] [.int (if p7.1 = 2 then (1 : Int32) <<< (x2 &&& 31) else 0 : Int32), .int x1] p7.2 := by
          refine V_ior 32 dX8_unsigned_31 rfl ?_
          refine V_istore_n [(1, .int (x1 ||| (if p7.1 = 2 then (1 : Int32) <<< (x2 &&& 31) else 0 : Int32))), (2, .int x2), (0, .ref t)] 33 dX8_unsigned_32 rfl (by decide) rfl rfl ?_
          refine V_iinc (x2 + 1) 1 [(2, .int (x2 + 1)), (1, .int (x1 ||| (if p7.1 = 2 then (1 : Int32) <<< (x2 &&& 31) else 0 : Int32))), (0, .ref t)] 36 dX8_unsigned_33 rfl (by rw [kiconst_1]) (by decide) rfl rfl ?_
          refine V_goto 4 dX8_unsigned_36 (by decide) ?_
          refine V_ls [(2, .int (x2 + 1)), (1, .int (x1 ||| (if p7.1 = 2 then (1 : Int32) <<< (x2 &&& 31) else 0 : Int32))), (0, .ref t)] [0, 1, 2] rfl ?_
          exact ih _ _ _ _ hf hk
        refine V_icmp_ne 30 24 dX8_unsigned_21 (by decide) rfl (fun c9 => ?_) (fun c9 => ?_)
        · refine V_iconst 0 31 dX8_unsigned_30 rfl kiconst_0 ?_
          refine V_ls [(2, .int x2), (1, .int x1), (0, .ref t)] [0, 1, 2] rfl ?_
          simp only [if_neg c9] at kj8
          exact kj8
        · refine V_iconst 1 25 dX8_unsigned_24 rfl kiconst_1 ?_
          refine V_iload_n 0 26 rfl dX8_unsigned_25 rfl rfl ?_
          refine V_ishl 27 dX8_unsigned_26 rfl ?_
          refine V_goto 31 dX8_unsigned_27 (by decide) ?_
          refine V_ls [(2, .int x2), (1, .int x1), (0, .ref t)] [0, 1, 2] rfl ?_
          simp only [if_pos c9] at kj8
          exact kj8
  by_cases hg : isO σ 7 t = true
  · rw [if_pos hg] at hf
    refine V_iconst 0 1 dX8_unsigned_0 rfl kiconst_0 ?_
    refine V_istore_n [(1, .int 0), (0, .ref t)] 2 dX8_unsigned_1 rfl (by decide) rfl rfl ?_
    refine V_iconst 0 3 dX8_unsigned_2 rfl kiconst_0 ?_
    refine V_istore_n [(2, .int 0), (1, .int 0), (0, .ref t)] 4 dX8_unsigned_3 rfl (by decide) rfl rfl ?_
    obtain ⟨p10, h11, hf⟩ := ob hf
    refine V_ls [(2, .int 0), (1, .int 0), (0, .ref t)] [0, 1, 2] rfl ?_
    refine L4 3000 0 0 σ p10 h11 ?_
    refine V_iload_n 1 40 rfl dX8_unsigned_39 rfl rfl ?_
    have er := Option.some.inj hf
    obtain ⟨e1, e2⟩ := Prod.mk.inj er
    subst e1
    subst e2
    exact V_iret hQ rfl dX8_unsigned_40
  · rw [if_neg hg] at hf
    cases hf
abbrev mi_X8_honest : MI := (yX8_honest, cX8_honest, 9, some .long)
theorem ok_X8_honest : OkN mi_X8_honest 4 := ⟨wd_cd_X8_honest, wd_in_X8, ⟨by decide +kernel, by decide +kernel, by decide +kernel⟩, by decide⟩
theorem okv_X8_honest : Cond.instanceMethod (mi_X8_honest).1 ∈ tb ∧ Cond.selects (mi_X8_honest).1.cls (mi_X8_honest).1 (mi_X8_honest).1 ∈ tb := ⟨wd_im_X8_honest, wd_se_X8_honest⟩
def f_X8_honest_L68 (x5 : Int32) (x1 : Int32) (x2 : Int32) (x3 : Int32) (x4 : Int32) : Nat → Int32 → Int64 → Option (Int32 × Int64)
  | 0, _, _ => none
  | n + 1, x8, x6 => if x1 ≤ x8 then (some (x8, x6)) else ((ne0 x5).bind fun z22 => f_X8_honest_L68 x5 x1 x2 x3 x4 n (x8 + 1) (x6 * (((if x4 = 0 then (((2 : Int32) * x3) + 1) else (((2 : Int32) * x2) + 1) : Int32) / x5).toInt64)))
def f_X8_honest (σ : St) (t : Nat) (a0 : Int32) (a1 : Int32) (a2 : Int32) (a3 : Int32) : Option (Int64 × St) := if isO σ 7 t = true then ((f_X8_within σ a0 1 8).bind fun v2 => if v2 = 0 then ((f_X8_finding σ t (-1000001)).bind fun p5 => some (p5.1.toInt64, p5.2)) else ((f_X8_within σ a1 1 50).bind fun v7 => if v7 = 0 then ((f_X8_finding σ t (-1000001)).bind fun p10 => some (p10.1.toInt64, p10.2)) else ((f_X8_within σ a2 0 a1).bind fun v12 => if v12 = 0 then ((f_X8_finding σ t (-1000001)).bind fun p15 => some (p15.1.toInt64, p15.2)) else ((f_X8_within σ a3 0 1).bind fun v17 => if v17 = 0 then ((f_X8_finding σ t (-1000001)).bind fun p29 => some (p29.1.toInt64, p29.2)) else ((g_X8_divisor σ (((2 : Int32) * a2) + 1) (((2 : Int32) * a1) + 1)).bind fun v20 => (f_X8_honest_L68 v20 a0 a1 a2 a3 3000 0 1).bind fun p26 => some (p26.2, σ)))))) else none
theorem gd_X8_honest {σ : St} {t : Nat} {a0 : Int32} {a1 : Int32} {a2 : Int32} {a3 : Int32} {r : Int64 × St} (h : f_X8_honest σ t a0 a1 a2 a3 = some r) : isO σ 7 t = true := by
  unfold f_X8_honest at h
  by_cases hg : isO σ 7 t = true
  · exact hg
  · rw [if_neg hg] at h
    cases h
set_option maxRecDepth 100000 in
set_option maxHeartbeats 4000000 in
theorem c_X8_honest (l : Launch) (G : Gd) (d : Nat) (σ : St) (t : Nat) (a0 : Int32) (a1 : Int32) (a2 : Int32) (a3 : Int32) (r0 : Int64) (σ' : St) (hf : f_X8_honest σ t a0 a1 a2 a3 = some (r0, σ')) : MetV l G (d + 61) mi_X8_honest [.ref t, .int a0, .int a1, .int a2, .int a3] σ (some (.long r0)) σ' 0 0 := by
  unfold f_X8_honest at hf
  refine MetV.of [(0, .ref t), (1, .int a0), (2, .int a1), (3, .int a2), (4, .int a3)] (by decide +kernel) rfl (Nat.le_of_ble_eq_true rfl) ?_
  intro X hQ
  have L68 : ∀ (σ : St) (x5 : Int32) (x1 : Int32) (x2 : Int32) (x3 : Int32) (x4 : Int32) (n : Nat) (x8 : Int32) (x6 : Int64) (p : Int32 × Int64), f_X8_honest_L68 x5 x1 x2 x3 x4 n x8 x6 = some p → V mi_X8_honest l G (d + 61) 0 0 X 0 0 107 [(8, .int p.1), (6, .long p.2), (5, .int x5), (1, .int x1), (2, .int x2), (3, .int x3), (4, .int x4)] [] σ → V mi_X8_honest l G (d + 61) 0 0 X 0 0 68 [(8, .int x8), (6, .long x6), (5, .int x5), (1, .int x1), (2, .int x2), (3, .int x3), (4, .int x4)] [] σ := by
    intro σ x5 x1 x2 x3 x4 n
    induction n with
    | zero =>
      intro x8 x6 p hf
      exact absurd (show (none : Option _) = some p from hf) (by simp)
    | succ n ih =>
      intro x8 x6 p hf hk
      rw [f_X8_honest_L68] at hf
      refine V_iload 0 70 rfl dX8_honest_68 rfl ?_
      refine V_iload_n 3 71 rfl dX8_honest_70 rfl rfl ?_
      refine V_icmp_ge 107 74 dX8_honest_71 (by decide) rfl (fun c21 => ?_) (fun c21 => ?_)
      · rw [if_pos c21] at hf
        have ep := Option.some.inj hf
        subst ep
        refine V_ls [(8, .int x8), (6, .long x6), (5, .int x5), (1, .int x1), (2, .int x2), (3, .int x3), (4, .int x4)] [0, 1, 2, 3, 4, 5, 6] rfl ?_
        exact hk
      · rw [if_neg c21] at hf
        refine V_lload 1 76 rfl dX8_honest_74 rfl ?_
        refine V_iload 6 78 rfl dX8_honest_76 rfl ?_
        have kj24 : V mi_X8_honest l G (d + 61) 0 0 X 0 0 94 [(8, .int x8), (6, .long x6), (5, .int x5), (1, .int x1), (2, .int x2), (3, .int x3), (4, .int x4)] [.int (if x4 = 0 then (((2 : Int32) * x3) + 1) else (((2 : Int32) * x2) + 1) : Int32), .long x6] σ := by
          refine V_iload 2 96 rfl dX8_honest_94 rfl ?_
          obtain ⟨z22, h23, hf⟩ := ob hf
          refine V_idiv 97 dX8_honest_96 rfl (ne0_ne h23) ?_
          refine V_i2l 98 dX8_honest_97 rfl ?_
          refine V_lmul 99 dX8_honest_98 rfl ?_
          refine V_lstore [(6, .long (x6 * (((if x4 = 0 then (((2 : Int32) * x3) + 1) else (((2 : Int32) * x2) + 1) : Int32) / x5).toInt64))), (8, .int x8), (5, .int x5), (1, .int x1), (2, .int x2), (3, .int x3), (4, .int x4)] 101 dX8_honest_99 (by decide) rfl rfl ?_
          refine V_iinc (x8 + 1) 1 [(8, .int (x8 + 1)), (6, .long (x6 * (((if x4 = 0 then (((2 : Int32) * x3) + 1) else (((2 : Int32) * x2) + 1) : Int32) / x5).toInt64))), (5, .int x5), (1, .int x1), (2, .int x2), (3, .int x3), (4, .int x4)] 104 dX8_honest_101 rfl (by rw [kiconst_1]) (by decide) rfl rfl ?_
          refine V_goto 68 dX8_honest_104 (by decide) ?_
          refine V_ls [(8, .int (x8 + 1)), (6, .long (x6 * (((if x4 = 0 then (((2 : Int32) * x3) + 1) else (((2 : Int32) * x2) + 1) : Int32) / x5).toInt64))), (5, .int x5), (1, .int x1), (2, .int x2), (3, .int x3), (4, .int x4)] [0, 1, 2, 3, 4, 5, 6] rfl ?_
          exact ih _ _ _ hf hk
        refine V_if_ne 89 81 dX8_honest_78 (by decide) rfl (fun c25 => ?_) (fun c25 => ?_)
        · refine V_iconst 2 90 dX8_honest_89 rfl kiconst_2 ?_
          refine V_iload_n 4 91 rfl dX8_honest_90 rfl rfl ?_
          refine V_imul 92 dX8_honest_91 rfl ?_
          refine V_iconst 1 93 dX8_honest_92 rfl kiconst_1 ?_
          refine V_iadd 94 dX8_honest_93 rfl ?_
          refine V_ls [(8, .int x8), (6, .long x6), (5, .int x5), (1, .int x1), (2, .int x2), (3, .int x3), (4, .int x4)] [0, 1, 2, 3, 4, 5, 6] rfl ?_
          simp only [if_neg c25] at kj24
          exact kj24
        · refine V_iconst 2 82 dX8_honest_81 rfl kiconst_2 ?_
          refine V_iload_n 5 83 rfl dX8_honest_82 rfl rfl ?_
          refine V_imul 84 dX8_honest_83 rfl ?_
          refine V_iconst 1 85 dX8_honest_84 rfl kiconst_1 ?_
          refine V_iadd 86 dX8_honest_85 rfl ?_
          refine V_goto 94 dX8_honest_86 (by decide) ?_
          refine V_ls [(8, .int x8), (6, .long x6), (5, .int x5), (1, .int x1), (2, .int x2), (3, .int x3), (4, .int x4)] [0, 1, 2, 3, 4, 5, 6] rfl ?_
          simp only [if_pos c25] at kj24
          exact kj24
  by_cases hg : isO σ 7 t = true
  · rw [if_pos hg] at hf
    refine V_iload_n 1 1 rfl dX8_honest_0 rfl rfl ?_
    refine V_iconst 1 2 dX8_honest_1 rfl kiconst_1 ?_
    refine V_bipush 8 4 dX8_honest_2 rfl kbipush_8 ?_
    obtain ⟨v2, h1, hf⟩ := ob hf
    refine V_callS (rest := []) 0 0 7 [.int v2] (c_X8_within l G (d + 59) _ _ _ _ _ h1) (by omega) ok_X8_within oks_X8_within wd_ml_X8_68 rfl rfl (Nat.le_of_ble_eq_true rfl) rfl rfl (Or.inl ⟨rfl, rfl⟩) dX8_honest_4 rfl rfl ?_
    refine V_if_eq 39 10 dX8_honest_7 (by decide) rfl (fun c3 => ?_) (fun c3 => ?_)
    · rw [if_pos c3] at hf
      refine V_aload_n 0 40 rfl dX8_honest_39 rfl rfl ?_
      refine V_ldc (-1000001) 42 dX8_honest_40 rfl wd_kk_X8_76 ?_
      obtain ⟨p5, h4, hf⟩ := ob hf
      refine V_callV (rest := []) (T := TX8) (n := 27) (ci := 7) 0 0 45 [.int p5.1] (c_X8_finding l G (d + 59) _ _ _ _ _ h4) (by omega) ok_X8_finding okv_X8_finding (gd_X8_finding h4) rfl wd_ml_X8_77 rfl rfl (Nat.le_of_ble_eq_true rfl) rfl rfl (Or.inl ⟨rfl, rfl⟩) dX8_honest_42 rfl rfl ?_
      refine V_i2l 46 dX8_honest_45 rfl ?_
      have er := Option.some.inj hf
      obtain ⟨e1, e2⟩ := Prod.mk.inj er
      subst e1
      subst e2
      exact V_lret hQ rfl dX8_honest_46
    · rw [if_neg c3] at hf
      refine V_iload_n 2 11 rfl dX8_honest_10 rfl rfl ?_
      refine V_iconst 1 12 dX8_honest_11 rfl kiconst_1 ?_
      refine V_bipush 50 14 dX8_honest_12 rfl kbipush_50 ?_
      obtain ⟨v7, h6, hf⟩ := ob hf
      refine V_callS (rest := []) 0 0 17 [.int v7] (c_X8_within l G (d + 59) _ _ _ _ _ h6) (by omega) ok_X8_within oks_X8_within wd_ml_X8_68 rfl rfl (Nat.le_of_ble_eq_true rfl) rfl rfl (Or.inl ⟨rfl, rfl⟩) dX8_honest_14 rfl rfl ?_
      refine V_if_eq 39 20 dX8_honest_17 (by decide) rfl (fun c8 => ?_) (fun c8 => ?_)
      · rw [if_pos c8] at hf
        refine V_aload_n 0 40 rfl dX8_honest_39 rfl rfl ?_
        refine V_ldc (-1000001) 42 dX8_honest_40 rfl wd_kk_X8_76 ?_
        obtain ⟨p10, h9, hf⟩ := ob hf
        refine V_callV (rest := []) (T := TX8) (n := 27) (ci := 7) 0 0 45 [.int p10.1] (c_X8_finding l G (d + 59) _ _ _ _ _ h9) (by omega) ok_X8_finding okv_X8_finding (gd_X8_finding h9) rfl wd_ml_X8_77 rfl rfl (Nat.le_of_ble_eq_true rfl) rfl rfl (Or.inl ⟨rfl, rfl⟩) dX8_honest_42 rfl rfl ?_
        refine V_i2l 46 dX8_honest_45 rfl ?_
        have er := Option.some.inj hf
        obtain ⟨e1, e2⟩ := Prod.mk.inj er
        subst e1
        subst e2
        exact V_lret hQ rfl dX8_honest_46
      · rw [if_neg c8] at hf
        refine V_iload_n 3 21 rfl dX8_honest_20 rfl rfl ?_
        refine V_iconst 0 22 dX8_honest_21 rfl kiconst_0 ?_
        refine V_iload_n 2 23 rfl dX8_honest_22 rfl rfl ?_
        obtain ⟨v12, h11, hf⟩ := ob hf
        refine V_callS (rest := []) 0 0 26 [.int v12] (c_X8_within l G (d + 59) _ _ _ _ _ h11) (by omega) ok_X8_within oks_X8_within wd_ml_X8_68 rfl rfl (Nat.le_of_ble_eq_true rfl) rfl rfl (Or.inl ⟨rfl, rfl⟩) dX8_honest_23 rfl rfl ?_
        refine V_if_eq 39 29 dX8_honest_26 (by decide) rfl (fun c13 => ?_) (fun c13 => ?_)
        · rw [if_pos c13] at hf
          refine V_aload_n 0 40 rfl dX8_honest_39 rfl rfl ?_
          refine V_ldc (-1000001) 42 dX8_honest_40 rfl wd_kk_X8_76 ?_
          obtain ⟨p15, h14, hf⟩ := ob hf
          refine V_callV (rest := []) (T := TX8) (n := 27) (ci := 7) 0 0 45 [.int p15.1] (c_X8_finding l G (d + 59) _ _ _ _ _ h14) (by omega) ok_X8_finding okv_X8_finding (gd_X8_finding h14) rfl wd_ml_X8_77 rfl rfl (Nat.le_of_ble_eq_true rfl) rfl rfl (Or.inl ⟨rfl, rfl⟩) dX8_honest_42 rfl rfl ?_
          refine V_i2l 46 dX8_honest_45 rfl ?_
          have er := Option.some.inj hf
          obtain ⟨e1, e2⟩ := Prod.mk.inj er
          subst e1
          subst e2
          exact V_lret hQ rfl dX8_honest_46
        · rw [if_neg c13] at hf
          refine V_iload 4 31 rfl dX8_honest_29 rfl ?_
          refine V_iconst 0 32 dX8_honest_31 rfl kiconst_0 ?_
          refine V_iconst 1 33 dX8_honest_32 rfl kiconst_1 ?_
          obtain ⟨v17, h16, hf⟩ := ob hf
          refine V_callS (rest := []) 0 0 36 [.int v17] (c_X8_within l G (d + 59) _ _ _ _ _ h16) (by omega) ok_X8_within oks_X8_within wd_ml_X8_68 rfl rfl (Nat.le_of_ble_eq_true rfl) rfl rfl (Or.inl ⟨rfl, rfl⟩) dX8_honest_33 rfl rfl ?_
          refine V_if_ne 47 39 dX8_honest_36 (by decide) rfl (fun c18 => ?_) (fun c18 => ?_)
          · rw [if_neg c18] at hf
            refine V_iconst 2 48 dX8_honest_47 rfl kiconst_2 ?_
            refine V_iload_n 3 49 rfl dX8_honest_48 rfl rfl ?_
            refine V_imul 50 dX8_honest_49 rfl ?_
            refine V_iconst 1 51 dX8_honest_50 rfl kiconst_1 ?_
            refine V_iadd 52 dX8_honest_51 rfl ?_
            refine V_iconst 2 53 dX8_honest_52 rfl kiconst_2 ?_
            refine V_iload_n 2 54 rfl dX8_honest_53 rfl rfl ?_
            refine V_imul 55 dX8_honest_54 rfl ?_
            refine V_iconst 1 56 dX8_honest_55 rfl kiconst_1 ?_
            refine V_iadd 57 dX8_honest_56 rfl ?_
            obtain ⟨v20, h19, hf⟩ := ob hf
            refine V_callS (rest := []) 0 0 60 [.int v20] (c_X8_divisor l G (d + 0) _ _ _ _ h19) (by omega) ok_X8_divisor oks_X8_divisor wd_ml_X8_228 rfl rfl (Nat.le_of_ble_eq_true rfl) rfl rfl (Or.inl ⟨rfl, rfl⟩) dX8_honest_57 rfl rfl ?_
            refine V_istore [(5, .int v20), (0, .ref t), (1, .int a0), (2, .int a1), (3, .int a2), (4, .int a3)] 62 dX8_honest_60 (by decide) rfl rfl ?_
            refine V_lconst 1 63 dX8_honest_62 rfl klconst_1 ?_
            refine V_lstore [(6, .long 1), (5, .int v20), (0, .ref t), (1, .int a0), (2, .int a1), (3, .int a2), (4, .int a3)] 65 dX8_honest_63 (by decide) rfl rfl ?_
            refine V_iconst 0 66 dX8_honest_65 rfl kiconst_0 ?_
            refine V_istore [(8, .int 0), (6, .long 1), (5, .int v20), (0, .ref t), (1, .int a0), (2, .int a1), (3, .int a2), (4, .int a3)] 68 dX8_honest_66 (by decide) rfl rfl ?_
            obtain ⟨p26, h27, hf⟩ := ob hf
            refine V_ls [(8, .int 0), (6, .long 1), (5, .int v20), (1, .int a0), (2, .int a1), (3, .int a2), (4, .int a3)] [0, 1, 2, 4, 5, 6, 7] rfl ?_
            refine L68 σ v20 a0 a1 a2 a3 3000 0 1 p26 h27 ?_
            refine V_lload 1 109 rfl dX8_honest_107 rfl ?_
            have er := Option.some.inj hf
            obtain ⟨e1, e2⟩ := Prod.mk.inj er
            subst e1
            subst e2
            exact V_lret hQ rfl dX8_honest_109
          · rw [if_pos c18] at hf
            refine V_aload_n 0 40 rfl dX8_honest_39 rfl rfl ?_
            refine V_ldc (-1000001) 42 dX8_honest_40 rfl wd_kk_X8_76 ?_
            obtain ⟨p29, h28, hf⟩ := ob hf
            refine V_callV (rest := []) (T := TX8) (n := 27) (ci := 7) 0 0 45 [.int p29.1] (c_X8_finding l G (d + 59) _ _ _ _ _ h28) (by omega) ok_X8_finding okv_X8_finding (gd_X8_finding h28) rfl wd_ml_X8_77 rfl rfl (Nat.le_of_ble_eq_true rfl) rfl rfl (Or.inl ⟨rfl, rfl⟩) dX8_honest_42 rfl rfl ?_
            refine V_i2l 46 dX8_honest_45 rfl ?_
            have er := Option.some.inj hf
            obtain ⟨e1, e2⟩ := Prod.mk.inj er
            subst e1
            subst e2
            exact V_lret hQ rfl dX8_honest_46
  · rw [if_neg hg] at hf
    cases hf
abbrev mi_X8_namesOf : MI := (yX8_namesOf, cX8_namesOf, 2, some .int)
theorem ok_X8_namesOf : OkN mi_X8_namesOf 1 := ⟨wd_cd_X8_namesOf, wd_in_X8, ⟨by decide +kernel, by decide +kernel, by decide +kernel⟩, by decide⟩
theorem okv_X8_namesOf : Cond.instanceMethod (mi_X8_namesOf).1 ∈ tb ∧ Cond.selects (mi_X8_namesOf).1.cls (mi_X8_namesOf).1 (mi_X8_namesOf).1 ∈ tb := ⟨wd_im_X8_namesOf, wd_se_X8_namesOf⟩
def f_X8_namesOf (σ : St) (t : Nat) (a0 : Int32) : Option Int32 := if isO σ 7 t = true then ((f_X8_curve σ t a0 1).bind fun v2 => (f_X8_paper σ t v2 1).bind fun v4 => some v4) else none
theorem gd_X8_namesOf {σ : St} {t : Nat} {a0 : Int32} {r : Int32} (h : f_X8_namesOf σ t a0 = some r) : isO σ 7 t = true := by
  unfold f_X8_namesOf at h
  by_cases hg : isO σ 7 t = true
  · exact hg
  · rw [if_neg hg] at h
    cases h
set_option maxRecDepth 100000 in
set_option maxHeartbeats 4000000 in
theorem c_X8_namesOf (l : Launch) (G : Gd) (d : Nat) (σ : St) (t : Nat) (a0 : Int32) (r0 : Int32) (hf : f_X8_namesOf σ t a0 = some r0) : MetV l G (d + 2) mi_X8_namesOf [.ref t, .int a0] σ (some (.int r0)) σ 0 0 := by
  unfold f_X8_namesOf at hf
  refine MetV.of [(0, .ref t), (1, .int a0)] (by decide +kernel) rfl (Nat.le_of_ble_eq_true rfl) ?_
  intro X hQ
  by_cases hg : isO σ 7 t = true
  · rw [if_pos hg] at hf
    refine V_aload_n 0 1 rfl dX8_namesOf_0 rfl rfl ?_
    refine V_aload_n 0 2 rfl dX8_namesOf_1 rfl rfl ?_
    refine V_iload_n 1 3 rfl dX8_namesOf_2 rfl rfl ?_
    refine V_iconst 1 4 dX8_namesOf_3 rfl kiconst_1 ?_
    obtain ⟨v2, h1, hf⟩ := ob hf
    refine V_callV (rest := [.ref t]) (T := TX8) (n := 27) (ci := 7) 0 0 7 [.int v2, .ref t] (c_X8_curve l G (d + 0) _ _ _ _ _ h1) (by omega) ok_X8_curve okv_X8_curve (gd_X8_curve h1) rfl wd_ml_X8_87 rfl rfl (Nat.le_of_ble_eq_true rfl) rfl rfl (Or.inl ⟨rfl, rfl⟩) dX8_namesOf_4 rfl rfl ?_
    refine V_iconst 1 8 dX8_namesOf_7 rfl kiconst_1 ?_
    obtain ⟨v4, h3, hf⟩ := ob hf
    refine V_callV (rest := []) (T := TX8) (n := 27) (ci := 7) 0 0 11 [.int v4] (c_X8_paper l G (d + 0) _ _ _ _ _ h3) (by omega) ok_X8_paper okv_X8_paper (gd_X8_paper h3) rfl wd_ml_X8_90 rfl rfl (Nat.le_of_ble_eq_true rfl) rfl rfl (Or.inl ⟨rfl, rfl⟩) dX8_namesOf_8 rfl rfl ?_
    have er := Option.some.inj hf
    subst er
    exact V_iret hQ rfl dX8_namesOf_11
  · rw [if_neg hg] at hf
    cases hf
abbrev mi_X8_couldOf : MI := (yX8_couldOf, cX8_couldOf, 6, some .int)
theorem ok_X8_couldOf : OkN mi_X8_couldOf 2 := ⟨wd_cd_X8_couldOf, wd_in_X8, ⟨by decide +kernel, by decide +kernel, by decide +kernel⟩, by decide⟩
theorem okv_X8_couldOf : Cond.instanceMethod (mi_X8_couldOf).1 ∈ tb ∧ Cond.selects (mi_X8_couldOf).1.cls (mi_X8_couldOf).1 (mi_X8_couldOf).1 ∈ tb := ⟨wd_im_X8_couldOf, wd_se_X8_couldOf⟩
def f_X8_couldOf_L5 (t : Nat) (x1 : Int32) (x2 : Int32) : Nat → Int32 → Int32 → St → Option (Int32 × Int32 × St)
  | 0, _, _, _ => none
  | n + 1, x4, x3, σ => (gQ σ 7 t 0).bind fun q2 => (aI σ 0 q2 1).bind fun v4 => if v4 ≤ x4 then (some (x4, x3, σ)) else ((f_X8_dayOf σ t x4).bind fun v7 => (f_X8_dayOf σ t x1).bind fun v9 => if v7 < v9 then ((f_X8_namesOf σ t x4).bind fun v12 => (f_X8_namesOf σ t x1).bind fun v14 => if (v12 &&& v14) = 0 then (f_X8_couldOf_L5 t x1 x2 n (x4 + 1) (x3 ||| 0) σ) else ((f_X8_bends σ t x4 x1 x2).bind fun p17 => f_X8_couldOf_L5 t x1 x2 n (x4 + 1) (x3 ||| (if p17.1 = 0 then 0 else (1 : Int32) <<< (x4 &&& 31) : Int32)) p17.2)) else ((f_X8_dayOf σ t x4).bind fun v21 => (f_X8_dayOf σ t x1).bind fun v23 => if (if v21 = v23 then (if x1 ≤ x4 then 0 else 1) else 0 : Int32) = 0 then (f_X8_couldOf_L5 t x1 x2 n (x4 + 1) (x3 ||| 0) σ) else ((f_X8_namesOf σ t x4).bind fun v26 => (f_X8_namesOf σ t x1).bind fun v28 => if (v26 &&& v28) = 0 then (f_X8_couldOf_L5 t x1 x2 n (x4 + 1) (x3 ||| 0) σ) else ((f_X8_bends σ t x4 x1 x2).bind fun p31 => f_X8_couldOf_L5 t x1 x2 n (x4 + 1) (x3 ||| (if p31.1 = 0 then 0 else (1 : Int32) <<< (x4 &&& 31) : Int32)) p31.2))))
def f_X8_couldOf (σ : St) (t : Nat) (a0 : Int32) (a1 : Int32) : Option (Int32 × St) := if isO σ 7 t = true then ((f_X8_couldOf_L5 t a0 a1 3000 0 0 σ).bind fun p37 => some (p37.2.1, p37.2.2)) else none
theorem gd_X8_couldOf {σ : St} {t : Nat} {a0 : Int32} {a1 : Int32} {r : Int32 × St} (h : f_X8_couldOf σ t a0 a1 = some r) : isO σ 7 t = true := by
  unfold f_X8_couldOf at h
  by_cases hg : isO σ 7 t = true
  · exact hg
  · rw [if_neg hg] at h
    cases h
set_option maxRecDepth 100000 in
set_option maxHeartbeats 4000000 in
theorem c_X8_couldOf (l : Launch) (G : Gd) (d : Nat) (σ : St) (t : Nat) (a0 : Int32) (a1 : Int32) (r0 : Int32) (σ' : St) (hf : f_X8_couldOf σ t a0 a1 = some (r0, σ')) : MetV l G (d + 63) mi_X8_couldOf [.ref t, .int a0, .int a1] σ (some (.int r0)) σ' 0 0 := by
  unfold f_X8_couldOf at hf
  refine MetV.of [(0, .ref t), (1, .int a0), (2, .int a1)] (by decide +kernel) rfl (Nat.le_of_ble_eq_true rfl) ?_
  intro X hQ
  have L5 : ∀ (x1 : Int32) (x2 : Int32) (n : Nat) (x4 : Int32) (x3 : Int32) (σ : St) (p : Int32 × Int32 × St), f_X8_couldOf_L5 t x1 x2 n x4 x3 σ = some p → V mi_X8_couldOf l G (d + 63) 0 0 X 0 0 105 [(4, .int p.1), (3, .int p.2.1), (0, .ref t), (1, .int x1), (2, .int x2)] [] p.2.2 → V mi_X8_couldOf l G (d + 63) 0 0 X 0 0 5 [(4, .int x4), (3, .int x3), (0, .ref t), (1, .int x1), (2, .int x2)] [] σ := by
    intro x1 x2 n
    induction n with
    | zero =>
      intro x4 x3 σ p hf
      exact absurd (show (none : Option _) = some p from hf) (by simp)
    | succ n ih =>
      intro x4 x3 σ p hf hk
      rw [f_X8_couldOf_L5] at hf
      refine V_iload 0 7 rfl dX8_couldOf_5 rfl ?_
      refine V_aload_n 2 8 rfl dX8_couldOf_7 rfl rfl ?_
      obtain ⟨q2, h1, hf⟩ := ob hf
      refine V_getQ (n := 27) (ty := tyX8) 11 h1 cf_7 rfl wd_fl_X8_9 dX8_couldOf_8 rfl ?_
      refine V_iconst 1 12 dX8_couldOf_11 rfl kiconst_1 ?_
      obtain ⟨v4, h3, hf⟩ := ob hf
      refine V_iald 13 h3 dX8_couldOf_12 rfl ?_
      refine V_icmp_ge 105 16 dX8_couldOf_13 (by decide) rfl (fun c5 => ?_) (fun c5 => ?_)
      · rw [if_pos c5] at hf
        have ep := Option.some.inj hf
        subst ep
        refine V_ls [(4, .int x4), (3, .int x3), (0, .ref t), (1, .int x1), (2, .int x2)] [0, 1, 2, 3, 4] rfl ?_
        exact hk
      · rw [if_neg c5] at hf
        refine V_aload_n 2 17 rfl dX8_couldOf_16 rfl rfl ?_
        refine V_iload 0 19 rfl dX8_couldOf_17 rfl ?_
        obtain ⟨v7, h6, hf⟩ := ob hf
        refine V_callV (rest := []) (T := TX8) (n := 27) (ci := 7) 0 0 22 [.int v7] (c_X8_dayOf l G (d + 60) _ _ _ _ h6) (by omega) ok_X8_dayOf okv_X8_dayOf (gd_X8_dayOf h6) rfl wd_ml_X8_222 rfl rfl (Nat.le_of_ble_eq_true rfl) rfl rfl (Or.inl ⟨rfl, rfl⟩) dX8_couldOf_19 rfl rfl ?_
        refine V_aload_n 2 23 rfl dX8_couldOf_22 rfl rfl ?_
        refine V_iload_n 3 24 rfl dX8_couldOf_23 rfl rfl ?_
        obtain ⟨v9, h8, hf⟩ := ob hf
        refine V_callV (rest := [.int v7]) (T := TX8) (n := 27) (ci := 7) 0 0 27 [.int v9, .int v7] (c_X8_dayOf l G (d + 60) _ _ _ _ h8) (by omega) ok_X8_dayOf okv_X8_dayOf (gd_X8_dayOf h8) rfl wd_ml_X8_222 rfl rfl (Nat.le_of_ble_eq_true rfl) rfl rfl (Or.inl ⟨rfl, rfl⟩) dX8_couldOf_24 rfl rfl ?_
        refine V_icmp_lt 50 30 dX8_couldOf_27 (by decide) rfl (fun c10 => ?_) (fun c10 => ?_)
        · rw [if_pos c10] at hf
          refine V_iconst 1 51 dX8_couldOf_50 rfl kiconst_1 ?_
          refine V_goto 55 dX8_couldOf_51 (by decide) ?_
          refine V_istore [(5, .int 1), (4, .int x4), (3, .int x3), (0, .ref t), (1, .int x1), (2, .int x2)] 57 dX8_couldOf_55 (by decide) rfl rfl ?_
          refine V_iload_n 2 58 rfl dX8_couldOf_57 rfl rfl ?_
          refine V_iload 0 60 rfl dX8_couldOf_58 rfl ?_
          refine V_if_eq 96 63 dX8_couldOf_60 (by decide) rfl (fun hc => absurd hc (by decide)) (fun _ => ?_)
          refine V_aload_n 3 64 rfl dX8_couldOf_63 rfl rfl ?_
          refine V_iload 1 66 rfl dX8_couldOf_64 rfl ?_
          obtain ⟨v12, h11, hf⟩ := ob hf
          refine V_callV (rest := [.int x3]) (T := TX8) (n := 27) (ci := 7) 0 0 69 [.int v12, .int x3] (c_X8_namesOf l G (d + 60) _ _ _ _ h11) (by omega) ok_X8_namesOf okv_X8_namesOf (gd_X8_namesOf h11) rfl wd_ml_X8_260 rfl rfl (Nat.le_of_ble_eq_true rfl) rfl rfl (Or.inl ⟨rfl, rfl⟩) dX8_couldOf_66 rfl rfl ?_
          refine V_aload_n 3 70 rfl dX8_couldOf_69 rfl rfl ?_
          refine V_iload_n 4 71 rfl dX8_couldOf_70 rfl rfl ?_
          obtain ⟨v14, h13, hf⟩ := ob hf
          refine V_callV (rest := [.int v12, .int x3]) (T := TX8) (n := 27) (ci := 7) 0 0 74 [.int v14, .int v12, .int x3] (c_X8_namesOf l G (d + 60) _ _ _ _ h13) (by omega) ok_X8_namesOf okv_X8_namesOf (gd_X8_namesOf h13) rfl wd_ml_X8_260 rfl rfl (Nat.le_of_ble_eq_true rfl) rfl rfl (Or.inl ⟨rfl, rfl⟩) dX8_couldOf_71 rfl rfl ?_
          refine V_iand 75 dX8_couldOf_74 rfl ?_
          refine V_if_eq 96 78 dX8_couldOf_75 (by decide) rfl (fun c15 => ?_) (fun c15 => ?_)
          · rw [if_pos c15] at hf
            refine V_iconst 0 97 dX8_couldOf_96 rfl kiconst_0 ?_
            refine V_ior 98 dX8_couldOf_97 rfl ?_
            refine V_istore_n [(3, .int (x3 ||| 0)), (5, .int 1), (4, .int x4), (0, .ref t), (1, .int x1), (2, .int x2)] 99 dX8_couldOf_98 rfl (by decide) rfl rfl ?_
            refine V_iinc (x4 + 1) 2 [(4, .int (x4 + 1)), (3, .int (x3 ||| 0)), (5, .int 1), (0, .ref t), (1, .int x1), (2, .int x2)] 102 dX8_couldOf_99 rfl (by rw [kiconst_1]) (by decide) rfl rfl ?_
            refine V_goto 5 dX8_couldOf_102 (by decide) ?_
            refine V_ls [(4, .int (x4 + 1)), (3, .int (x3 ||| 0)), (0, .ref t), (1, .int x1), (2, .int x2)] [0, 1, 3, 4, 5] rfl ?_
            exact ih _ _ _ _ hf hk
          · rw [if_neg c15] at hf
            refine V_aload_n 3 79 rfl dX8_couldOf_78 rfl rfl ?_
            refine V_iload 1 81 rfl dX8_couldOf_79 rfl ?_
            refine V_iload_n 4 82 rfl dX8_couldOf_81 rfl rfl ?_
            refine V_iload_n 5 83 rfl dX8_couldOf_82 rfl rfl ?_
            obtain ⟨p17, h16, hf⟩ := ob hf
            refine V_callV (rest := [.int x3]) (T := TX8) (n := 27) (ci := 7) 0 0 86 [.int p17.1, .int x3] (c_X8_bends l G (d + 0) _ _ _ _ _ _ _ h16) (by omega) ok_X8_bends okv_X8_bends (gd_X8_bends h16) rfl wd_ml_X8_245 rfl rfl (Nat.le_of_ble_eq_true rfl) rfl rfl (Or.inl ⟨rfl, rfl⟩) dX8_couldOf_83 rfl rfl ?_
            have kj18 : V mi_X8_couldOf l G (d + 63) 0 0 X 0 0 97 [(5, .int 1), (4, .int x4), (3, .int x3), (0, .ref t), (1, .int x1), (2, .int x2)] [.int (if p17.1 = 0 then 0 else (1 : Int32) <<< (x4 &&& 31) : Int32), .int x3] p17.2 := by
              refine V_ior 98 dX8_couldOf_97 rfl ?_
              refine V_istore_n [(3, .int (x3 ||| (if p17.1 = 0 then 0 else (1 : Int32) <<< (x4 &&& 31) : Int32))), (5, .int 1), (4, .int x4), (0, .ref t), (1, .int x1), (2, .int x2)] 99 dX8_couldOf_98 rfl (by decide) rfl rfl ?_
              refine V_iinc (x4 + 1) 2 [(4, .int (x4 + 1)), (3, .int (x3 ||| (if p17.1 = 0 then 0 else (1 : Int32) <<< (x4 &&& 31) : Int32))), (5, .int 1), (0, .ref t), (1, .int x1), (2, .int x2)] 102 dX8_couldOf_99 rfl (by rw [kiconst_1]) (by decide) rfl rfl ?_
              refine V_goto 5 dX8_couldOf_102 (by decide) ?_
              refine V_ls [(4, .int (x4 + 1)), (3, .int (x3 ||| (if p17.1 = 0 then 0 else (1 : Int32) <<< (x4 &&& 31) : Int32))), (0, .ref t), (1, .int x1), (2, .int x2)] [0, 1, 3, 4, 5] rfl ?_
              exact ih _ _ _ _ hf hk
            refine V_if_eq 96 89 dX8_couldOf_86 (by decide) rfl (fun c19 => ?_) (fun c19 => ?_)
            · refine V_iconst 0 97 dX8_couldOf_96 rfl kiconst_0 ?_
              refine V_ls [(5, .int 1), (4, .int x4), (3, .int x3), (0, .ref t), (1, .int x1), (2, .int x2)] [0, 1, 2, 3, 4, 5] rfl ?_
              simp only [if_pos c19] at kj18
              exact kj18
            · refine V_iconst 1 90 dX8_couldOf_89 rfl kiconst_1 ?_
              refine V_iload 1 92 rfl dX8_couldOf_90 rfl ?_
              refine V_ishl 93 dX8_couldOf_92 rfl ?_
              refine V_goto 97 dX8_couldOf_93 (by decide) ?_
              refine V_ls [(5, .int 1), (4, .int x4), (3, .int x3), (0, .ref t), (1, .int x1), (2, .int x2)] [0, 1, 2, 3, 4, 5] rfl ?_
              simp only [if_neg c19] at kj18
              exact kj18
        · rw [if_neg c10] at hf
          refine V_aload_n 2 31 rfl dX8_couldOf_30 rfl rfl ?_
          refine V_iload 0 33 rfl dX8_couldOf_31 rfl ?_
          obtain ⟨v21, h20, hf⟩ := ob hf
          refine V_callV (rest := []) (T := TX8) (n := 27) (ci := 7) 0 0 36 [.int v21] (c_X8_dayOf l G (d + 60) _ _ _ _ h20) (by omega) ok_X8_dayOf okv_X8_dayOf (gd_X8_dayOf h20) rfl wd_ml_X8_222 rfl rfl (Nat.le_of_ble_eq_true rfl) rfl rfl (Or.inl ⟨rfl, rfl⟩) dX8_couldOf_33 rfl rfl ?_
          refine V_aload_n 2 37 rfl dX8_couldOf_36 rfl rfl ?_
          refine V_iload_n 3 38 rfl dX8_couldOf_37 rfl rfl ?_
          obtain ⟨v23, h22, hf⟩ := ob hf
          refine V_callV (rest := [.int v21]) (T := TX8) (n := 27) (ci := 7) 0 0 41 [.int v23, .int v21] (c_X8_dayOf l G (d + 60) _ _ _ _ h22) (by omega) ok_X8_dayOf okv_X8_dayOf (gd_X8_dayOf h22) rfl wd_ml_X8_222 rfl rfl (Nat.le_of_ble_eq_true rfl) rfl rfl (Or.inl ⟨rfl, rfl⟩) dX8_couldOf_38 rfl rfl ?_
          have kj34 : V mi_X8_couldOf l G (d + 63) 0 0 X 0 0 55 [(4, .int x4), (3, .int x3), (0, .ref t), (1, .int x1), (2, .int x2)] [.int (if v21 = v23 then (if x1 ≤ x4 then 0 else 1) else 0 : Int32)] σ := by
            refine V_istore [(5, .int (if v21 = v23 then (if x1 ≤ x4 then 0 else 1) else 0 : Int32)), (4, .int x4), (3, .int x3), (0, .ref t), (1, .int x1), (2, .int x2)] 57 dX8_couldOf_55 (by decide) rfl rfl ?_
            refine V_iload_n 2 58 rfl dX8_couldOf_57 rfl rfl ?_
            refine V_iload 0 60 rfl dX8_couldOf_58 rfl ?_
            refine V_if_eq 96 63 dX8_couldOf_60 (by decide) rfl (fun c24 => ?_) (fun c24 => ?_)
            · rw [if_pos c24] at hf
              refine V_iconst 0 97 dX8_couldOf_96 rfl kiconst_0 ?_
              refine V_ior 98 dX8_couldOf_97 rfl ?_
              refine V_istore_n [(3, .int (x3 ||| 0)), (5, .int (if v21 = v23 then (if x1 ≤ x4 then 0 else 1) else 0 : Int32)), (4, .int x4), (0, .ref t), (1, .int x1), (2, .int x2)] 99 dX8_couldOf_98 rfl (by decide) rfl rfl ?_
              refine V_iinc (x4 + 1) 2 [(4, .int (x4 + 1)), (3, .int (x3 ||| 0)), (5, .int (if v21 = v23 then (if x1 ≤ x4 then 0 else 1) else 0 : Int32)), (0, .ref t), (1, .int x1), (2, .int x2)] 102 dX8_couldOf_99 rfl (by rw [kiconst_1]) (by decide) rfl rfl ?_
              refine V_goto 5 dX8_couldOf_102 (by decide) ?_
              refine V_ls [(4, .int (x4 + 1)), (3, .int (x3 ||| 0)), (0, .ref t), (1, .int x1), (2, .int x2)] [0, 1, 3, 4, 5] rfl ?_
              exact ih _ _ _ _ hf hk
            · rw [if_neg c24] at hf
              refine V_aload_n 3 64 rfl dX8_couldOf_63 rfl rfl ?_
              refine V_iload 1 66 rfl dX8_couldOf_64 rfl ?_
              obtain ⟨v26, h25, hf⟩ := ob hf
              refine V_callV (rest := [.int x3]) (T := TX8) (n := 27) (ci := 7) 0 0 69 [.int v26, .int x3] (c_X8_namesOf l G (d + 60) _ _ _ _ h25) (by omega) ok_X8_namesOf okv_X8_namesOf (gd_X8_namesOf h25) rfl wd_ml_X8_260 rfl rfl (Nat.le_of_ble_eq_true rfl) rfl rfl (Or.inl ⟨rfl, rfl⟩) dX8_couldOf_66 rfl rfl ?_
              refine V_aload_n 3 70 rfl dX8_couldOf_69 rfl rfl ?_
              refine V_iload_n 4 71 rfl dX8_couldOf_70 rfl rfl ?_
              obtain ⟨v28, h27, hf⟩ := ob hf
              refine V_callV (rest := [.int v26, .int x3]) (T := TX8) (n := 27) (ci := 7) 0 0 74 [.int v28, .int v26, .int x3] (c_X8_namesOf l G (d + 60) _ _ _ _ h27) (by omega) ok_X8_namesOf okv_X8_namesOf (gd_X8_namesOf h27) rfl wd_ml_X8_260 rfl rfl (Nat.le_of_ble_eq_true rfl) rfl rfl (Or.inl ⟨rfl, rfl⟩) dX8_couldOf_71 rfl rfl ?_
              refine V_iand 75 dX8_couldOf_74 rfl ?_
              refine V_if_eq 96 78 dX8_couldOf_75 (by decide) rfl (fun c29 => ?_) (fun c29 => ?_)
              · rw [if_pos c29] at hf
                refine V_iconst 0 97 dX8_couldOf_96 rfl kiconst_0 ?_
                refine V_ior 98 dX8_couldOf_97 rfl ?_
                refine V_istore_n [(3, .int (x3 ||| 0)), (5, .int (if v21 = v23 then (if x1 ≤ x4 then 0 else 1) else 0 : Int32)), (4, .int x4), (0, .ref t), (1, .int x1), (2, .int x2)] 99 dX8_couldOf_98 rfl (by decide) rfl rfl ?_
                refine V_iinc (x4 + 1) 2 [(4, .int (x4 + 1)), (3, .int (x3 ||| 0)), (5, .int (if v21 = v23 then (if x1 ≤ x4 then 0 else 1) else 0 : Int32)), (0, .ref t), (1, .int x1), (2, .int x2)] 102 dX8_couldOf_99 rfl (by rw [kiconst_1]) (by decide) rfl rfl ?_
                refine V_goto 5 dX8_couldOf_102 (by decide) ?_
                refine V_ls [(4, .int (x4 + 1)), (3, .int (x3 ||| 0)), (0, .ref t), (1, .int x1), (2, .int x2)] [0, 1, 3, 4, 5] rfl ?_
                exact ih _ _ _ _ hf hk
              · rw [if_neg c29] at hf
                refine V_aload_n 3 79 rfl dX8_couldOf_78 rfl rfl ?_
                refine V_iload 1 81 rfl dX8_couldOf_79 rfl ?_
                refine V_iload_n 4 82 rfl dX8_couldOf_81 rfl rfl ?_
                refine V_iload_n 5 83 rfl dX8_couldOf_82 rfl rfl ?_
                obtain ⟨p31, h30, hf⟩ := ob hf
                refine V_callV (rest := [.int x3]) (T := TX8) (n := 27) (ci := 7) 0 0 86 [.int p31.1, .int x3] (c_X8_bends l G (d + 0) _ _ _ _ _ _ _ h30) (by omega) ok_X8_bends okv_X8_bends (gd_X8_bends h30) rfl wd_ml_X8_245 rfl rfl (Nat.le_of_ble_eq_true rfl) rfl rfl (Or.inl ⟨rfl, rfl⟩) dX8_couldOf_83 rfl rfl ?_
                have kj32 : V mi_X8_couldOf l G (d + 63) 0 0 X 0 0 97 [(5, .int (if v21 = v23 then (if x1 ≤ x4 then 0 else 1) else 0 : Int32)), (4, .int x4), (3, .int x3), (0, .ref t), (1, .int x1), (2, .int x2)] [.int (if p31.1 = 0 then 0 else (1 : Int32) <<< (x4 &&& 31) : Int32), .int x3] p31.2 := by
                  refine V_ior 98 dX8_couldOf_97 rfl ?_
                  refine V_istore_n [(3, .int (x3 ||| (if p31.1 = 0 then 0 else (1 : Int32) <<< (x4 &&& 31) : Int32))), (5, .int (if v21 = v23 then (if x1 ≤ x4 then 0 else 1) else 0 : Int32)), (4, .int x4), (0, .ref t), (1, .int x1), (2, .int x2)] 99 dX8_couldOf_98 rfl (by decide) rfl rfl ?_
                  refine V_iinc (x4 + 1) 2 [(4, .int (x4 + 1)), (3, .int (x3 ||| (if p31.1 = 0 then 0 else (1 : Int32) <<< (x4 &&& 31) : Int32))), (5, .int (if v21 = v23 then (if x1 ≤ x4 then 0 else 1) else 0 : Int32)), (0, .ref t), (1, .int x1), (2, .int x2)] 102 dX8_couldOf_99 rfl (by rw [kiconst_1]) (by decide) rfl rfl ?_
                  refine V_goto 5 dX8_couldOf_102 (by decide) ?_
                  refine V_ls [(4, .int (x4 + 1)), (3, .int (x3 ||| (if p31.1 = 0 then 0 else (1 : Int32) <<< (x4 &&& 31) : Int32))), (0, .ref t), (1, .int x1), (2, .int x2)] [0, 1, 3, 4, 5] rfl ?_
                  exact ih _ _ _ _ hf hk
                refine V_if_eq 96 89 dX8_couldOf_86 (by decide) rfl (fun c33 => ?_) (fun c33 => ?_)
                · refine V_iconst 0 97 dX8_couldOf_96 rfl kiconst_0 ?_
                  refine V_ls [(5, .int (if v21 = v23 then (if x1 ≤ x4 then 0 else 1) else 0 : Int32)), (4, .int x4), (3, .int x3), (0, .ref t), (1, .int x1), (2, .int x2)] [0, 1, 2, 3, 4, 5] rfl ?_
                  simp only [if_pos c33] at kj32
                  exact kj32
                · refine V_iconst 1 90 dX8_couldOf_89 rfl kiconst_1 ?_
                  refine V_iload 1 92 rfl dX8_couldOf_90 rfl ?_
                  refine V_ishl 93 dX8_couldOf_92 rfl ?_
                  refine V_goto 97 dX8_couldOf_93 (by decide) ?_
                  refine V_ls [(5, .int (if v21 = v23 then (if x1 ≤ x4 then 0 else 1) else 0 : Int32)), (4, .int x4), (3, .int x3), (0, .ref t), (1, .int x1), (2, .int x2)] [0, 1, 2, 3, 4, 5] rfl ?_
                  simp only [if_neg c33] at kj32
                  exact kj32
          refine V_icmp_ne 54 44 dX8_couldOf_41 (by decide) rfl (fun c35 => ?_) (fun c35 => ?_)
          · refine V_iconst 0 55 dX8_couldOf_54 rfl kiconst_0 ?_
            refine V_ls [(4, .int x4), (3, .int x3), (0, .ref t), (1, .int x1), (2, .int x2)] [0, 1, 2, 3, 4] rfl ?_
            simp only [if_neg c35] at kj34
            exact kj34
          · refine V_iload 0 46 rfl dX8_couldOf_44 rfl ?_
            refine V_iload_n 3 47 rfl dX8_couldOf_46 rfl rfl ?_
            refine V_icmp_ge 54 50 dX8_couldOf_47 (by decide) rfl (fun c36 => ?_) (fun c36 => ?_)
            · refine V_iconst 0 55 dX8_couldOf_54 rfl kiconst_0 ?_
              refine V_ls [(4, .int x4), (3, .int x3), (0, .ref t), (1, .int x1), (2, .int x2)] [0, 1, 2, 3, 4] rfl ?_
              simp only [if_pos c35, if_pos c36] at kj34
              exact kj34
            · refine V_iconst 1 51 dX8_couldOf_50 rfl kiconst_1 ?_
              refine V_goto 55 dX8_couldOf_51 (by decide) ?_
              refine V_ls [(4, .int x4), (3, .int x3), (0, .ref t), (1, .int x1), (2, .int x2)] [0, 1, 2, 3, 4] rfl ?_
              simp only [if_pos c35, if_neg c36] at kj34
              exact kj34
  by_cases hg : isO σ 7 t = true
  · rw [if_pos hg] at hf
    refine V_iconst 0 1 dX8_couldOf_0 rfl kiconst_0 ?_
    refine V_istore_n [(3, .int 0), (0, .ref t), (1, .int a0), (2, .int a1)] 2 dX8_couldOf_1 rfl (by decide) rfl rfl ?_
    refine V_iconst 0 3 dX8_couldOf_2 rfl kiconst_0 ?_
    refine V_istore [(4, .int 0), (3, .int 0), (0, .ref t), (1, .int a0), (2, .int a1)] 5 dX8_couldOf_3 (by decide) rfl rfl ?_
    obtain ⟨p37, h38, hf⟩ := ob hf
    refine V_ls [(4, .int 0), (3, .int 0), (0, .ref t), (1, .int a0), (2, .int a1)] [0, 1, 2, 3, 4] rfl ?_
    refine L5 a0 a1 3000 0 0 σ p37 h38 ?_
    refine V_iload_n 1 106 rfl dX8_couldOf_105 rfl rfl ?_
    have er := Option.some.inj hf
    obtain ⟨e1, e2⟩ := Prod.mk.inj er
    subst e1
    subst e2
    exact V_iret hQ rfl dX8_couldOf_106
  · rw [if_neg hg] at hf
    cases hf
abbrev mi_X8_could : MI := (yX8_could, cX8_could, 3, some .int)
theorem ok_X8_could : OkN mi_X8_could 2 := ⟨wd_cd_X8_could, wd_in_X8, ⟨by decide +kernel, by decide +kernel, by decide +kernel⟩, by decide⟩
theorem okv_X8_could : Cond.instanceMethod (mi_X8_could).1 ∈ tb ∧ Cond.selects (mi_X8_could).1.cls (mi_X8_could).1 (mi_X8_could).1 ∈ tb := ⟨wd_im_X8_could, wd_se_X8_could⟩
def f_X8_could (σ : St) (t : Nat) (a0 : Int32) (a1 : Int32) : Option (Int32 × St) := if isO σ 7 t = true then ((f_X8_is σ t a0 1).bind fun v2 => if v2 = 0 then ((f_X8_finding σ t (-1000001)).bind fun p5 => some (p5.1, p5.2)) else ((f_X8_isFactor σ a1).bind fun v7 => if v7 = 0 then ((f_X8_finding σ t (-1000001)).bind fun p10 => some (p10.1, p10.2)) else ((f_X8_couldOf σ t a0 a1).bind fun p12 => some (p12.1, p12.2)))) else none
theorem gd_X8_could {σ : St} {t : Nat} {a0 : Int32} {a1 : Int32} {r : Int32 × St} (h : f_X8_could σ t a0 a1 = some r) : isO σ 7 t = true := by
  unfold f_X8_could at h
  by_cases hg : isO σ 7 t = true
  · exact hg
  · rw [if_neg hg] at h
    cases h
set_option maxRecDepth 100000 in
set_option maxHeartbeats 4000000 in
theorem c_X8_could (l : Launch) (G : Gd) (d : Nat) (σ : St) (t : Nat) (a0 : Int32) (a1 : Int32) (r0 : Int32) (σ' : St) (hf : f_X8_could σ t a0 a1 = some (r0, σ')) : MetV l G (d + 64) mi_X8_could [.ref t, .int a0, .int a1] σ (some (.int r0)) σ' 0 0 := by
  unfold f_X8_could at hf
  refine MetV.of [(0, .ref t), (1, .int a0), (2, .int a1)] (by decide +kernel) rfl (Nat.le_of_ble_eq_true rfl) ?_
  intro X hQ
  by_cases hg : isO σ 7 t = true
  · rw [if_pos hg] at hf
    refine V_aload_n 0 1 rfl dX8_could_0 rfl rfl ?_
    refine V_iload_n 1 2 rfl dX8_could_1 rfl rfl ?_
    refine V_iconst 1 3 dX8_could_2 rfl kiconst_1 ?_
    obtain ⟨v2, h1, hf⟩ := ob hf
    refine V_callV (rest := []) (T := TX8) (n := 27) (ci := 7) 0 0 6 [.int v2] (c_X8_is l G (d + 61) _ _ _ _ _ h1) (by omega) ok_X8_is okv_X8_is (gd_X8_is h1) rfl wd_ml_X8_83 rfl rfl (Nat.le_of_ble_eq_true rfl) rfl rfl (Or.inl ⟨rfl, rfl⟩) dX8_could_3 rfl rfl ?_
    refine V_if_eq 25 9 dX8_could_6 (by decide) rfl (fun c3 => ?_) (fun c3 => ?_)
    · rw [if_pos c3] at hf
      refine V_aload_n 0 26 rfl dX8_could_25 rfl rfl ?_
      refine V_ldc (-1000001) 28 dX8_could_26 rfl wd_kk_X8_76 ?_
      obtain ⟨p5, h4, hf⟩ := ob hf
      refine V_callV (rest := []) (T := TX8) (n := 27) (ci := 7) 0 0 31 [.int p5.1] (c_X8_finding l G (d + 62) _ _ _ _ _ h4) (by omega) ok_X8_finding okv_X8_finding (gd_X8_finding h4) rfl wd_ml_X8_77 rfl rfl (Nat.le_of_ble_eq_true rfl) rfl rfl (Or.inl ⟨rfl, rfl⟩) dX8_could_28 rfl rfl ?_
      have er := Option.some.inj hf
      obtain ⟨e1, e2⟩ := Prod.mk.inj er
      subst e1
      subst e2
      exact V_iret hQ rfl dX8_could_31
    · rw [if_neg c3] at hf
      refine V_iload_n 2 10 rfl dX8_could_9 rfl rfl ?_
      obtain ⟨v7, h6, hf⟩ := ob hf
      refine V_callS (rest := []) 0 0 13 [.int v7] (c_X8_isFactor l G (d + 61) _ _ _ h6) (by omega) ok_X8_isFactor oks_X8_isFactor wd_ml_X8_242 rfl rfl (Nat.le_of_ble_eq_true rfl) rfl rfl (Or.inl ⟨rfl, rfl⟩) dX8_could_10 rfl rfl ?_
      refine V_if_eq 25 16 dX8_could_13 (by decide) rfl (fun c8 => ?_) (fun c8 => ?_)
      · rw [if_pos c8] at hf
        refine V_aload_n 0 26 rfl dX8_could_25 rfl rfl ?_
        refine V_ldc (-1000001) 28 dX8_could_26 rfl wd_kk_X8_76 ?_
        obtain ⟨p10, h9, hf⟩ := ob hf
        refine V_callV (rest := []) (T := TX8) (n := 27) (ci := 7) 0 0 31 [.int p10.1] (c_X8_finding l G (d + 62) _ _ _ _ _ h9) (by omega) ok_X8_finding okv_X8_finding (gd_X8_finding h9) rfl wd_ml_X8_77 rfl rfl (Nat.le_of_ble_eq_true rfl) rfl rfl (Or.inl ⟨rfl, rfl⟩) dX8_could_28 rfl rfl ?_
        have er := Option.some.inj hf
        obtain ⟨e1, e2⟩ := Prod.mk.inj er
        subst e1
        subst e2
        exact V_iret hQ rfl dX8_could_31
      · rw [if_neg c8] at hf
        refine V_aload_n 0 17 rfl dX8_could_16 rfl rfl ?_
        refine V_iload_n 1 18 rfl dX8_could_17 rfl rfl ?_
        refine V_iload_n 2 19 rfl dX8_could_18 rfl rfl ?_
        obtain ⟨p12, h11, hf⟩ := ob hf
        refine V_callV (rest := []) (T := TX8) (n := 27) (ci := 7) 0 0 22 [.int p12.1] (c_X8_couldOf l G (d + 0) _ _ _ _ _ _ h11) (by omega) ok_X8_couldOf okv_X8_couldOf (gd_X8_couldOf h11) rfl wd_ml_X8_263 rfl rfl (Nat.le_of_ble_eq_true rfl) rfl rfl (Or.inl ⟨rfl, rfl⟩) dX8_could_19 rfl rfl ?_
        refine V_goto 31 dX8_could_22 (by decide) ?_
        have er := Option.some.inj hf
        obtain ⟨e1, e2⟩ := Prod.mk.inj er
        subst e1
        subst e2
        exact V_iret hQ rfl dX8_could_31
  · rw [if_neg hg] at hf
    cases hf
abbrev mi_X8_findCould : MI := (yX8_findCould, cX8_findCould, 3, none)
theorem ok_X8_findCould : OkN mi_X8_findCould 1 := ⟨wd_cd_X8_findCould, wd_in_X8, ⟨by decide +kernel, by decide +kernel, by decide +kernel⟩, by decide⟩
theorem okv_X8_findCould : Cond.instanceMethod (mi_X8_findCould).1 ∈ tb ∧ Cond.selects (mi_X8_findCould).1.cls (mi_X8_findCould).1 (mi_X8_findCould).1 ∈ tb := ⟨wd_im_X8_findCould, wd_se_X8_findCould⟩
def f_X8_findCould_L2 (t : Nat) (x1 : Int32) : Nat → Int32 → St → Option (Int32 × St)
  | 0, _, _ => none
  | n + 1, x2, σ => (gQ σ 7 t 0).bind fun q2 => (aI σ 0 q2 1).bind fun v4 => if v4 ≤ x2 then (some (x2, σ)) else ((gQ σ 7 t 16).bind fun q7 => (f_X8_couldOf σ t x2 x1).bind fun p9 => (sI p9.2 q7 x2 p9.1).bind fun s11 => f_X8_findCould_L2 t x1 n (x2 + 1) s11)
def f_X8_findCould (σ : St) (t : Nat) (a0 : Int32) : Option St := if isO σ 7 t = true then ((f_X8_findCould_L2 t a0 3000 0 σ).bind fun p12 => some p12.2) else none
theorem gd_X8_findCould {σ : St} {t : Nat} {a0 : Int32} {r : St} (h : f_X8_findCould σ t a0 = some r) : isO σ 7 t = true := by
  unfold f_X8_findCould at h
  by_cases hg : isO σ 7 t = true
  · exact hg
  · rw [if_neg hg] at h
    cases h
set_option maxRecDepth 100000 in
set_option maxHeartbeats 4000000 in
theorem c_X8_findCould (l : Launch) (G : Gd) (d : Nat) (σ : St) (t : Nat) (a0 : Int32) (σ' : St) (hf : f_X8_findCould σ t a0 = some σ') : MetV l G (d + 64) mi_X8_findCould [.ref t, .int a0] σ none σ' 0 0 := by
  unfold f_X8_findCould at hf
  refine MetV.of [(0, .ref t), (1, .int a0)] (by decide +kernel) rfl (Nat.le_of_ble_eq_true rfl) ?_
  intro X hQ
  have L2 : ∀ (x1 : Int32) (n : Nat) (x2 : Int32) (σ : St) (p : Int32 × St), f_X8_findCould_L2 t x1 n x2 σ = some p → V mi_X8_findCould l G (d + 64) 0 0 X 0 0 30 [(2, .int p.1), (0, .ref t), (1, .int x1)] [] p.2 → V mi_X8_findCould l G (d + 64) 0 0 X 0 0 2 [(2, .int x2), (0, .ref t), (1, .int x1)] [] σ := by
    intro x1 n
    induction n with
    | zero =>
      intro x2 σ p hf
      exact absurd (show (none : Option _) = some p from hf) (by simp)
    | succ n ih =>
      intro x2 σ p hf hk
      rw [f_X8_findCould_L2] at hf
      refine V_iload_n 0 3 rfl dX8_findCould_2 rfl rfl ?_
      refine V_aload_n 1 4 rfl dX8_findCould_3 rfl rfl ?_
      obtain ⟨q2, h1, hf⟩ := ob hf
      refine V_getQ (n := 27) (ty := tyX8) 7 h1 cf_7 rfl wd_fl_X8_9 dX8_findCould_4 rfl ?_
      refine V_iconst 1 8 dX8_findCould_7 rfl kiconst_1 ?_
      obtain ⟨v4, h3, hf⟩ := ob hf
      refine V_iald 9 h3 dX8_findCould_8 rfl ?_
      refine V_icmp_ge 30 12 dX8_findCould_9 (by decide) rfl (fun c5 => ?_) (fun c5 => ?_)
      · rw [if_pos c5] at hf
        have ep := Option.some.inj hf
        subst ep
        refine V_ls [(2, .int x2), (0, .ref t), (1, .int x1)] [0, 1, 2] rfl ?_
        exact hk
      · rw [if_neg c5] at hf
        refine V_aload_n 1 13 rfl dX8_findCould_12 rfl rfl ?_
        obtain ⟨q7, h6, hf⟩ := ob hf
        refine V_getQ (n := 27) (ty := tyX8) 16 h6 cf_7 rfl wd_fl_X8_43 dX8_findCould_13 rfl ?_
        refine V_iload_n 0 17 rfl dX8_findCould_16 rfl rfl ?_
        refine V_aload_n 1 18 rfl dX8_findCould_17 rfl rfl ?_
        refine V_iload_n 0 19 rfl dX8_findCould_18 rfl rfl ?_
        refine V_iload_n 2 20 rfl dX8_findCould_19 rfl rfl ?_
        obtain ⟨p9, h8, hf⟩ := ob hf
        refine V_callV (rest := [.int x2, .ref q7]) (T := TX8) (n := 27) (ci := 7) 0 0 23 [.int p9.1, .int x2, .ref q7] (c_X8_couldOf l G (d + 0) _ _ _ _ _ _ h8) (by omega) ok_X8_couldOf okv_X8_couldOf (gd_X8_couldOf h8) rfl wd_ml_X8_263 rfl rfl (Nat.le_of_ble_eq_true rfl) rfl rfl (Or.inl ⟨rfl, rfl⟩) dX8_findCould_20 rfl rfl ?_
        obtain ⟨s11, h10, hf⟩ := ob hf
        refine V_iast 24 h10 dX8_findCould_23 rfl ?_
        refine V_iinc (x2 + 1) 0 [(2, .int (x2 + 1)), (0, .ref t), (1, .int x1)] 27 dX8_findCould_24 rfl (by rw [kiconst_1]) (by decide) rfl rfl ?_
        refine V_goto 2 dX8_findCould_27 (by decide) ?_
        refine V_ls [(2, .int (x2 + 1)), (0, .ref t), (1, .int x1)] [0, 1, 2] rfl ?_
        exact ih _ _ _ hf hk
  by_cases hg : isO σ 7 t = true
  · rw [if_pos hg] at hf
    refine V_iconst 0 1 dX8_findCould_0 rfl kiconst_0 ?_
    refine V_istore_n [(2, .int 0), (0, .ref t), (1, .int a0)] 2 dX8_findCould_1 rfl (by decide) rfl rfl ?_
    obtain ⟨p12, h13, hf⟩ := ob hf
    refine V_ls [(2, .int 0), (0, .ref t), (1, .int a0)] [0, 1, 2] rfl ?_
    refine L2 a0 3000 0 σ p12 h13 ?_
    have er := Option.some.inj hf
    subst er
    exact V_vret hQ rfl dX8_findCould_30
  · rw [if_neg hg] at hf
    cases hf
abbrev mi_X8_sources : MI := (yX8_sources, cX8_sources, 4, some .int)
theorem ok_X8_sources : OkN mi_X8_sources 1 := ⟨wd_cd_X8_sources, wd_in_X8, ⟨by decide +kernel, by decide +kernel, by decide +kernel⟩, by decide⟩
theorem okv_X8_sources : Cond.instanceMethod (mi_X8_sources).1 ∈ tb ∧ Cond.selects (mi_X8_sources).1.cls (mi_X8_sources).1 (mi_X8_sources).1 ∈ tb := ⟨wd_im_X8_sources, wd_se_X8_sources⟩
def f_X8_sources_L23 (σ : St) (t : Nat) : Nat → Int32 → Int32 → Option (Int32 × Int32)
  | 0, _, _ => none
  | n + 1, x3, x2 => (gQ σ 7 t 0).bind fun q7 => (aI σ 0 q7 1).bind fun v9 => if v9 ≤ x3 then (some (x3, x2)) else ((gQ σ 7 t 16).bind fun q12 => (aI σ 0 q12 x3).bind fun v14 => f_X8_sources_L23 σ t n (x3 + 1) (x2 ||| (if v14 = 0 then (1 : Int32) <<< (x3 &&& 31) else 0 : Int32)))
def f_X8_sources (σ : St) (t : Nat) (a0 : Int32) : Option (Int32 × St) := if isO σ 7 t = true then ((f_X8_isFactor σ a0).bind fun v2 => if v2 = 0 then ((f_X8_finding σ t (-1000001)).bind fun p20 => some (p20.1, p20.2)) else ((f_X8_findCould σ t a0).bind fun s5 => (f_X8_sources_L23 s5 t 3000 0 0).bind fun p17 => some (p17.2, s5))) else none
theorem gd_X8_sources {σ : St} {t : Nat} {a0 : Int32} {r : Int32 × St} (h : f_X8_sources σ t a0 = some r) : isO σ 7 t = true := by
  unfold f_X8_sources at h
  by_cases hg : isO σ 7 t = true
  · exact hg
  · rw [if_neg hg] at h
    cases h
set_option maxRecDepth 100000 in
set_option maxHeartbeats 4000000 in
theorem c_X8_sources (l : Launch) (G : Gd) (d : Nat) (σ : St) (t : Nat) (a0 : Int32) (r0 : Int32) (σ' : St) (hf : f_X8_sources σ t a0 = some (r0, σ')) : MetV l G (d + 65) mi_X8_sources [.ref t, .int a0] σ (some (.int r0)) σ' 0 0 := by
  unfold f_X8_sources at hf
  refine MetV.of [(0, .ref t), (1, .int a0)] (by decide +kernel) rfl (Nat.le_of_ble_eq_true rfl) ?_
  intro X hQ
  have L23 : ∀ (σ : St)  (n : Nat) (x3 : Int32) (x2 : Int32) (p : Int32 × Int32), f_X8_sources_L23 σ t n x3 x2 = some p → V mi_X8_sources l G (d + 65) 0 0 X 0 0 58 [(3, .int p.1), (2, .int p.2), (0, .ref t)] [] σ → V mi_X8_sources l G (d + 65) 0 0 X 0 0 23 [(3, .int x3), (2, .int x2), (0, .ref t)] [] σ := by
    intro σ  n
    induction n with
    | zero =>
      intro x3 x2 p hf
      exact absurd (show (none : Option _) = some p from hf) (by simp)
    | succ n ih =>
      intro x3 x2 p hf hk
      rw [f_X8_sources_L23] at hf
      refine V_iload_n 0 24 rfl dX8_sources_23 rfl rfl ?_
      refine V_aload_n 2 25 rfl dX8_sources_24 rfl rfl ?_
      obtain ⟨q7, h6, hf⟩ := ob hf
      refine V_getQ (n := 27) (ty := tyX8) 28 h6 cf_7 rfl wd_fl_X8_9 dX8_sources_25 rfl ?_
      refine V_iconst 1 29 dX8_sources_28 rfl kiconst_1 ?_
      obtain ⟨v9, h8, hf⟩ := ob hf
      refine V_iald 30 h8 dX8_sources_29 rfl ?_
      refine V_icmp_ge 58 33 dX8_sources_30 (by decide) rfl (fun c10 => ?_) (fun c10 => ?_)
      · rw [if_pos c10] at hf
        have ep := Option.some.inj hf
        subst ep
        refine V_ls [(3, .int x3), (2, .int x2), (0, .ref t)] [0, 1, 2] rfl ?_
        exact hk
      · rw [if_neg c10] at hf
        refine V_iload_n 1 34 rfl dX8_sources_33 rfl rfl ?_
        refine V_aload_n 2 35 rfl dX8_sources_34 rfl rfl ?_
        obtain ⟨q12, h11, hf⟩ := ob hf
        refine V_getQ (n := 27) (ty := tyX8) 38 h11 cf_7 rfl wd_fl_X8_43 dX8_sources_35 rfl ?_
        refine V_iload_n 0 39 rfl dX8_sources_38 rfl rfl ?_
        obtain ⟨v14, h13, hf⟩ := ob hf
        refine V_iald 40 h13 dX8_sources_39 rfl ?_
        have kj15 : V mi_X8_sources l G (d + 65) 0 0 X 0 0 50 [(3, .int x3), (2, .int x2), (0, .ref t)] [.int (if v14 = 0 then (1 : Int32) <<< (x3 &&& 31) else 0 : Int32), .int x2] σ := by
          refine V_ior 51 dX8_sources_50 rfl ?_
          refine V_istore_n [(2, .int (x2 ||| (if v14 = 0 then (1 : Int32) <<< (x3 &&& 31) else 0 : Int32))), (3, .int x3), (0, .ref t)] 52 dX8_sources_51 rfl (by decide) rfl rfl ?_
          refine V_iinc (x3 + 1) 1 [(3, .int (x3 + 1)), (2, .int (x2 ||| (if v14 = 0 then (1 : Int32) <<< (x3 &&& 31) else 0 : Int32))), (0, .ref t)] 55 dX8_sources_52 rfl (by rw [kiconst_1]) (by decide) rfl rfl ?_
          refine V_goto 23 dX8_sources_55 (by decide) ?_
          refine V_ls [(3, .int (x3 + 1)), (2, .int (x2 ||| (if v14 = 0 then (1 : Int32) <<< (x3 &&& 31) else 0 : Int32))), (0, .ref t)] [0, 1, 2] rfl ?_
          exact ih _ _ _ hf hk
        refine V_if_ne 49 43 dX8_sources_40 (by decide) rfl (fun c16 => ?_) (fun c16 => ?_)
        · refine V_iconst 0 50 dX8_sources_49 rfl kiconst_0 ?_
          refine V_ls [(3, .int x3), (2, .int x2), (0, .ref t)] [0, 1, 2] rfl ?_
          simp only [if_neg c16] at kj15
          exact kj15
        · refine V_iconst 1 44 dX8_sources_43 rfl kiconst_1 ?_
          refine V_iload_n 0 45 rfl dX8_sources_44 rfl rfl ?_
          refine V_ishl 46 dX8_sources_45 rfl ?_
          refine V_goto 50 dX8_sources_46 (by decide) ?_
          refine V_ls [(3, .int x3), (2, .int x2), (0, .ref t)] [0, 1, 2] rfl ?_
          simp only [if_pos c16] at kj15
          exact kj15
  by_cases hg : isO σ 7 t = true
  · rw [if_pos hg] at hf
    refine V_iload_n 1 1 rfl dX8_sources_0 rfl rfl ?_
    obtain ⟨v2, h1, hf⟩ := ob hf
    refine V_callS (rest := []) 0 0 4 [.int v2] (c_X8_isFactor l G (d + 62) _ _ _ h1) (by omega) ok_X8_isFactor oks_X8_isFactor wd_ml_X8_242 rfl rfl (Nat.le_of_ble_eq_true rfl) rfl rfl (Or.inl ⟨rfl, rfl⟩) dX8_sources_1 rfl rfl ?_
    refine V_if_ne 14 7 dX8_sources_4 (by decide) rfl (fun c3 => ?_) (fun c3 => ?_)
    · rw [if_neg c3] at hf
      refine V_aload_n 0 15 rfl dX8_sources_14 rfl rfl ?_
      refine V_iload_n 1 16 rfl dX8_sources_15 rfl rfl ?_
      obtain ⟨s5, h4, hf⟩ := ob hf
      refine V_callV (rest := []) (T := TX8) (n := 27) (ci := 7) 0 0 19 [] (c_X8_findCould l G (d + 0) _ _ _ _ h4) (by omega) ok_X8_findCould okv_X8_findCould (gd_X8_findCould h4) rfl wd_ml_X8_266 rfl rfl (Nat.le_of_ble_eq_true rfl) rfl rfl (Or.inl ⟨rfl, rfl⟩) dX8_sources_16 rfl rfl ?_
      refine V_iconst 0 20 dX8_sources_19 rfl kiconst_0 ?_
      refine V_istore_n [(2, .int 0), (0, .ref t), (1, .int a0)] 21 dX8_sources_20 rfl (by decide) rfl rfl ?_
      refine V_iconst 0 22 dX8_sources_21 rfl kiconst_0 ?_
      refine V_istore_n [(3, .int 0), (2, .int 0), (0, .ref t), (1, .int a0)] 23 dX8_sources_22 rfl (by decide) rfl rfl ?_
      obtain ⟨p17, h18, hf⟩ := ob hf
      refine V_ls [(3, .int 0), (2, .int 0), (0, .ref t)] [0, 1, 2] rfl ?_
      refine L23 s5 3000 0 0 p17 h18 ?_
      refine V_iload_n 1 59 rfl dX8_sources_58 rfl rfl ?_
      have er := Option.some.inj hf
      obtain ⟨e1, e2⟩ := Prod.mk.inj er
      subst e1
      subst e2
      exact V_iret hQ rfl dX8_sources_59
    · rw [if_pos c3] at hf
      refine V_aload_n 0 8 rfl dX8_sources_7 rfl rfl ?_
      refine V_ldc (-1000001) 10 dX8_sources_8 rfl wd_kk_X8_76 ?_
      obtain ⟨p20, h19, hf⟩ := ob hf
      refine V_callV (rest := []) (T := TX8) (n := 27) (ci := 7) 0 0 13 [.int p20.1] (c_X8_finding l G (d + 63) _ _ _ _ _ h19) (by omega) ok_X8_finding okv_X8_finding (gd_X8_finding h19) rfl wd_ml_X8_77 rfl rfl (Nat.le_of_ble_eq_true rfl) rfl rfl (Or.inl ⟨rfl, rfl⟩) dX8_sources_10 rfl rfl ?_
      have er := Option.some.inj hf
      obtain ⟨e1, e2⟩ := Prod.mk.inj er
      subst e1
      subst e2
      exact V_iret hQ rfl dX8_sources_13
  · rw [if_neg hg] at hf
    cases hf
abbrev mi_X8_bits : MI := (yX8_bits, cX8_bits, 3, some .int)
theorem ok_X8_bits : OkN mi_X8_bits 1 := ⟨wd_cd_X8_bits, wd_in_X8, ⟨by decide +kernel, by decide +kernel, by decide +kernel⟩, by decide⟩
theorem oks_X8_bits : Cond.static (mi_X8_bits).1 ∈ tb := wd_sm_X8_bits
def f_X8_bits_L4 (x0 : Int32) : Nat → Int32 → Int32 → Option (Int32 × Int32)
  | 0, _, _ => none
  | n + 1, x2, x1 => if 24 ≤ x2 then (some (x2, x1)) else (f_X8_bits_L4 x0 n (x2 + 1) (x1 + ((x0 >>> (x2 &&& 31)) &&& 1)))
def f_X8_bits (σ : St) (a0 : Int32) : Option Int32 := (f_X8_bits_L4 a0 3000 0 0).bind fun p2 => some p2.2
set_option maxRecDepth 100000 in
set_option maxHeartbeats 4000000 in
theorem c_X8_bits (l : Launch) (G : Gd) (d : Nat) (σ : St) (a0 : Int32) (r0 : Int32) (hf : f_X8_bits σ a0 = some r0) : MetV l G (d + 1) mi_X8_bits [.int a0] σ (some (.int r0)) σ 0 0 := by
  unfold f_X8_bits at hf
  refine MetV.of [(0, .int a0)] (by decide +kernel) rfl (Nat.le_of_ble_eq_true rfl) ?_
  intro X hQ
  have L4 : ∀ (x0 : Int32) (n : Nat) (x2 : Int32) (x1 : Int32) (p : Int32 × Int32), f_X8_bits_L4 x0 n x2 x1 = some p → V mi_X8_bits l G (d + 1) 0 0 X 0 0 24 [(2, .int p.1), (1, .int p.2), (0, .int x0)] [] σ → V mi_X8_bits l G (d + 1) 0 0 X 0 0 4 [(2, .int x2), (1, .int x1), (0, .int x0)] [] σ := by
    intro x0 n
    induction n with
    | zero =>
      intro x2 x1 p hf
      exact absurd (show (none : Option _) = some p from hf) (by simp)
    | succ n ih =>
      intro x2 x1 p hf hk
      rw [f_X8_bits_L4] at hf
      refine V_iload_n 0 5 rfl dX8_bits_4 rfl rfl ?_
      refine V_bipush 24 7 dX8_bits_5 rfl kbipush_24 ?_
      refine V_icmp_ge 24 10 dX8_bits_7 (by decide) rfl (fun c1 => ?_) (fun c1 => ?_)
      · rw [if_pos c1] at hf
        have ep := Option.some.inj hf
        subst ep
        refine V_ls [(2, .int x2), (1, .int x1), (0, .int x0)] [0, 1, 2] rfl ?_
        exact hk
      · rw [if_neg c1] at hf
        refine V_iload_n 1 11 rfl dX8_bits_10 rfl rfl ?_
        refine V_iload_n 2 12 rfl dX8_bits_11 rfl rfl ?_
        refine V_iload_n 0 13 rfl dX8_bits_12 rfl rfl ?_
        refine V_ishr 14 dX8_bits_13 rfl ?_
        refine V_iconst 1 15 dX8_bits_14 rfl kiconst_1 ?_
        refine V_iand 16 dX8_bits_15 rfl ?_
        refine V_iadd 17 dX8_bits_16 rfl ?_
        refine V_istore_n [(1, .int (x1 + ((x0 >>> (x2 &&& 31)) &&& 1))), (2, .int x2), (0, .int x0)] 18 dX8_bits_17 rfl (by decide) rfl rfl ?_
        refine V_iinc (x2 + 1) 1 [(2, .int (x2 + 1)), (1, .int (x1 + ((x0 >>> (x2 &&& 31)) &&& 1))), (0, .int x0)] 21 dX8_bits_18 rfl (by rw [kiconst_1]) (by decide) rfl rfl ?_
        refine V_goto 4 dX8_bits_21 (by decide) ?_
        refine V_ls [(2, .int (x2 + 1)), (1, .int (x1 + ((x0 >>> (x2 &&& 31)) &&& 1))), (0, .int x0)] [0, 1, 2] rfl ?_
        exact ih _ _ _ hf hk
  refine V_iconst 0 1 dX8_bits_0 rfl kiconst_0 ?_
  refine V_istore_n [(1, .int 0), (0, .int a0)] 2 dX8_bits_1 rfl (by decide) rfl rfl ?_
  refine V_iconst 0 3 dX8_bits_2 rfl kiconst_0 ?_
  refine V_istore_n [(2, .int 0), (1, .int 0), (0, .int a0)] 4 dX8_bits_3 rfl (by decide) rfl rfl ?_
  obtain ⟨p2, h3, hf⟩ := ob hf
  refine V_ls [(2, .int 0), (1, .int 0), (0, .int a0)] [0, 1, 2] rfl ?_
  refine L4 a0 3000 0 0 p2 h3 ?_
  refine V_iload_n 1 25 rfl dX8_bits_24 rfl rfl ?_
  have er := Option.some.inj hf
  subst er
  exact V_iret hQ rfl dX8_bits_25
abbrev mi_X8_both : MI := (yX8_both, cX8_both, 4, some .int)
theorem ok_X8_both : OkN mi_X8_both 1 := ⟨wd_cd_X8_both, wd_in_X8, ⟨by decide +kernel, by decide +kernel, by decide +kernel⟩, by decide⟩
theorem okv_X8_both : Cond.instanceMethod (mi_X8_both).1 ∈ tb ∧ Cond.selects (mi_X8_both).1.cls (mi_X8_both).1 (mi_X8_both).1 ∈ tb := ⟨wd_im_X8_both, wd_se_X8_both⟩
def f_X8_both_L4 (σ : St) (t : Nat) (x1 : Int32) : Nat → Int32 → Int32 → Option (Int32 × Int32)
  | 0, _, _ => none
  | n + 1, x3, x2 => (gQ σ 7 t 0).bind fun q2 => (aI σ 0 q2 1).bind fun v4 => if v4 ≤ x3 then (some (x3, x2)) else ((gQ σ 7 t 16).bind fun q7 => (aI σ 0 q7 x1).bind fun v9 => (f_X8_has σ v9 x3).bind fun v11 => if v11 = 0 then (f_X8_both_L4 σ t x1 n (x3 + 1) (x2 ||| 0)) else ((f_X8_namesOf σ t x3).bind fun v14 => (f_X8_namesOf σ t x1).bind fun v16 => f_X8_both_L4 σ t x1 n (x3 + 1) (x2 ||| (v14 &&& v16))))
def f_X8_both (σ : St) (t : Nat) (a0 : Int32) : Option Int32 := if isO σ 7 t = true then ((f_X8_both_L4 σ t a0 3000 0 0).bind fun p17 => some p17.2) else none
theorem gd_X8_both {σ : St} {t : Nat} {a0 : Int32} {r : Int32} (h : f_X8_both σ t a0 = some r) : isO σ 7 t = true := by
  unfold f_X8_both at h
  by_cases hg : isO σ 7 t = true
  · exact hg
  · rw [if_neg hg] at h
    cases h
set_option maxRecDepth 100000 in
set_option maxHeartbeats 4000000 in
theorem c_X8_both (l : Launch) (G : Gd) (d : Nat) (σ : St) (t : Nat) (a0 : Int32) (r0 : Int32) (hf : f_X8_both σ t a0 = some r0) : MetV l G (d + 3) mi_X8_both [.ref t, .int a0] σ (some (.int r0)) σ 0 0 := by
  unfold f_X8_both at hf
  refine MetV.of [(0, .ref t), (1, .int a0)] (by decide +kernel) rfl (Nat.le_of_ble_eq_true rfl) ?_
  intro X hQ
  have L4 : ∀ (x1 : Int32) (n : Nat) (x3 : Int32) (x2 : Int32) (p : Int32 × Int32), f_X8_both_L4 σ t x1 n x3 x2 = some p → V mi_X8_both l G (d + 3) 0 0 X 0 0 51 [(3, .int p.1), (2, .int p.2), (0, .ref t), (1, .int x1)] [] σ → V mi_X8_both l G (d + 3) 0 0 X 0 0 4 [(3, .int x3), (2, .int x2), (0, .ref t), (1, .int x1)] [] σ := by
    intro x1 n
    induction n with
    | zero =>
      intro x3 x2 p hf
      exact absurd (show (none : Option _) = some p from hf) (by simp)
    | succ n ih =>
      intro x3 x2 p hf hk
      rw [f_X8_both_L4] at hf
      refine V_iload_n 0 5 rfl dX8_both_4 rfl rfl ?_
      refine V_aload_n 2 6 rfl dX8_both_5 rfl rfl ?_
      obtain ⟨q2, h1, hf⟩ := ob hf
      refine V_getQ (n := 27) (ty := tyX8) 9 h1 cf_7 rfl wd_fl_X8_9 dX8_both_6 rfl ?_
      refine V_iconst 1 10 dX8_both_9 rfl kiconst_1 ?_
      obtain ⟨v4, h3, hf⟩ := ob hf
      refine V_iald 11 h3 dX8_both_10 rfl ?_
      refine V_icmp_ge 51 14 dX8_both_11 (by decide) rfl (fun c5 => ?_) (fun c5 => ?_)
      · rw [if_pos c5] at hf
        have ep := Option.some.inj hf
        subst ep
        refine V_ls [(3, .int x3), (2, .int x2), (0, .ref t), (1, .int x1)] [0, 1, 2, 3] rfl ?_
        exact hk
      · rw [if_neg c5] at hf
        refine V_iload_n 1 15 rfl dX8_both_14 rfl rfl ?_
        refine V_aload_n 2 16 rfl dX8_both_15 rfl rfl ?_
        obtain ⟨q7, h6, hf⟩ := ob hf
        refine V_getQ (n := 27) (ty := tyX8) 19 h6 cf_7 rfl wd_fl_X8_43 dX8_both_16 rfl ?_
        refine V_iload_n 3 20 rfl dX8_both_19 rfl rfl ?_
        obtain ⟨v9, h8, hf⟩ := ob hf
        refine V_iald 21 h8 dX8_both_20 rfl ?_
        refine V_iload_n 0 22 rfl dX8_both_21 rfl rfl ?_
        obtain ⟨v11, h10, hf⟩ := ob hf
        refine V_callS (rest := [.int x2]) 0 0 25 [.int v11, .int x2] (c_X8_has l G (d + 1) _ _ _ _ h10) (by omega) ok_X8_has oks_X8_has wd_ml_X8_137 rfl rfl (Nat.le_of_ble_eq_true rfl) rfl rfl (Or.inl ⟨rfl, rfl⟩) dX8_both_22 rfl rfl ?_
        refine V_if_eq 42 28 dX8_both_25 (by decide) rfl (fun c12 => ?_) (fun c12 => ?_)
        · rw [if_pos c12] at hf
          refine V_iconst 0 43 dX8_both_42 rfl kiconst_0 ?_
          refine V_ior 44 dX8_both_43 rfl ?_
          refine V_istore_n [(2, .int (x2 ||| 0)), (3, .int x3), (0, .ref t), (1, .int x1)] 45 dX8_both_44 rfl (by decide) rfl rfl ?_
          refine V_iinc (x3 + 1) 1 [(3, .int (x3 + 1)), (2, .int (x2 ||| 0)), (0, .ref t), (1, .int x1)] 48 dX8_both_45 rfl (by rw [kiconst_1]) (by decide) rfl rfl ?_
          refine V_goto 4 dX8_both_48 (by decide) ?_
          refine V_ls [(3, .int (x3 + 1)), (2, .int (x2 ||| 0)), (0, .ref t), (1, .int x1)] [0, 1, 2, 3] rfl ?_
          exact ih _ _ _ hf hk
        · rw [if_neg c12] at hf
          refine V_aload_n 2 29 rfl dX8_both_28 rfl rfl ?_
          refine V_iload_n 0 30 rfl dX8_both_29 rfl rfl ?_
          obtain ⟨v14, h13, hf⟩ := ob hf
          refine V_callV (rest := [.int x2]) (T := TX8) (n := 27) (ci := 7) 0 0 33 [.int v14, .int x2] (c_X8_namesOf l G (d + 0) _ _ _ _ h13) (by omega) ok_X8_namesOf okv_X8_namesOf (gd_X8_namesOf h13) rfl wd_ml_X8_260 rfl rfl (Nat.le_of_ble_eq_true rfl) rfl rfl (Or.inl ⟨rfl, rfl⟩) dX8_both_30 rfl rfl ?_
          refine V_aload_n 2 34 rfl dX8_both_33 rfl rfl ?_
          refine V_iload_n 3 35 rfl dX8_both_34 rfl rfl ?_
          obtain ⟨v16, h15, hf⟩ := ob hf
          refine V_callV (rest := [.int v14, .int x2]) (T := TX8) (n := 27) (ci := 7) 0 0 38 [.int v16, .int v14, .int x2] (c_X8_namesOf l G (d + 0) _ _ _ _ h15) (by omega) ok_X8_namesOf okv_X8_namesOf (gd_X8_namesOf h15) rfl wd_ml_X8_260 rfl rfl (Nat.le_of_ble_eq_true rfl) rfl rfl (Or.inl ⟨rfl, rfl⟩) dX8_both_35 rfl rfl ?_
          refine V_iand 39 dX8_both_38 rfl ?_
          refine V_goto 43 dX8_both_39 (by decide) ?_
          refine V_ior 44 dX8_both_43 rfl ?_
          refine V_istore_n [(2, .int (x2 ||| (v14 &&& v16))), (3, .int x3), (0, .ref t), (1, .int x1)] 45 dX8_both_44 rfl (by decide) rfl rfl ?_
          refine V_iinc (x3 + 1) 1 [(3, .int (x3 + 1)), (2, .int (x2 ||| (v14 &&& v16))), (0, .ref t), (1, .int x1)] 48 dX8_both_45 rfl (by rw [kiconst_1]) (by decide) rfl rfl ?_
          refine V_goto 4 dX8_both_48 (by decide) ?_
          refine V_ls [(3, .int (x3 + 1)), (2, .int (x2 ||| (v14 &&& v16))), (0, .ref t), (1, .int x1)] [0, 1, 2, 3] rfl ?_
          exact ih _ _ _ hf hk
  by_cases hg : isO σ 7 t = true
  · rw [if_pos hg] at hf
    refine V_iconst 0 1 dX8_both_0 rfl kiconst_0 ?_
    refine V_istore_n [(2, .int 0), (0, .ref t), (1, .int a0)] 2 dX8_both_1 rfl (by decide) rfl rfl ?_
    refine V_iconst 0 3 dX8_both_2 rfl kiconst_0 ?_
    refine V_istore_n [(3, .int 0), (2, .int 0), (0, .ref t), (1, .int a0)] 4 dX8_both_3 rfl (by decide) rfl rfl ?_
    obtain ⟨p17, h18, hf⟩ := ob hf
    refine V_ls [(3, .int 0), (2, .int 0), (0, .ref t), (1, .int a0)] [0, 1, 2, 3] rfl ?_
    refine L4 a0 3000 0 0 p17 h18 ?_
    refine V_iload_n 1 52 rfl dX8_both_51 rfl rfl ?_
    have er := Option.some.inj hf
    subst er
    exact V_iret hQ rfl dX8_both_52
  · rw [if_neg hg] at hf
    cases hf
abbrev mi_X8_hands : MI := (yX8_hands, cX8_hands, 6, some .int)
theorem ok_X8_hands : OkN mi_X8_hands 1 := ⟨wd_cd_X8_hands, wd_in_X8, ⟨by decide +kernel, by decide +kernel, by decide +kernel⟩, by decide⟩
theorem okv_X8_hands : Cond.instanceMethod (mi_X8_hands).1 ∈ tb ∧ Cond.selects (mi_X8_hands).1.cls (mi_X8_hands).1 (mi_X8_hands).1 ∈ tb := ⟨wd_im_X8_hands, wd_se_X8_hands⟩
def f_X8_hands_L69 (σ : St) (x3 : Int32) (t : Nat) : Nat → Int32 → Int32 → Option (Int32 × Int32)
  | 0, _, _ => none
  | n + 1, x5, x4 => (gQ σ 7 t 0).bind fun q13 => (aI σ 0 q13 1).bind fun v15 => if v15 ≤ x5 then (some (x5, x4)) else (if x4 = 0 then (some (x5, x4)) else ((gQ σ 7 t 16).bind fun q19 => (aI σ 0 q19 x5).bind fun v21 => if v21 = 0 then (f_X8_hands_L69 σ x3 t n (x5 + 1) 1) else ((f_X8_both σ t x5).bind fun v24 => f_X8_hands_L69 σ x3 t n (x5 + 1) (if (v24 &&& x3) = 0 then 0 else 1 : Int32))))
def f_X8_hands_L25 (σ : St) (t : Nat) : Nat → Int32 → Int32 → Option (Int32 × Int32)
  | 0, _, _ => none
  | n + 1, x3, x2 => if 256 ≤ x3 then (some (x3, x2)) else ((f_X8_bits σ x3).bind fun v8 => (f_X8_bits σ x2).bind fun v10 => if v8 < v10 then ((f_X8_hands_L69 σ x3 t 3000 0 1).bind fun p27 => f_X8_hands_L25 σ t n (x3 + 1) (if p27.2 = 0 then x2 else x3 : Int32)) else ((f_X8_bits σ x3).bind fun v32 => (f_X8_bits σ x2).bind fun v34 => (f_X8_hands_L69 σ x3 t 3000 0 (if v32 = v34 then (if x2 ≤ x3 then 0 else 1) else 0 : Int32)).bind fun p35 => f_X8_hands_L25 σ t n (x3 + 1) (if p35.2 = 0 then x2 else x3 : Int32)))
def f_X8_hands (σ : St) (t : Nat) (a0 : Int32) : Option (Int32 × St) := if isO σ 7 t = true then ((f_X8_isFactor σ a0).bind fun v2 => if v2 = 0 then ((f_X8_finding σ t (-1000001)).bind fun p45 => some (p45.1, p45.2)) else ((f_X8_findCould σ t a0).bind fun s5 => (f_X8_hands_L25 s5 t 3000 0 255).bind fun p42 => some (p42.2, s5))) else none
theorem gd_X8_hands {σ : St} {t : Nat} {a0 : Int32} {r : Int32 × St} (h : f_X8_hands σ t a0 = some r) : isO σ 7 t = true := by
  unfold f_X8_hands at h
  by_cases hg : isO σ 7 t = true
  · exact hg
  · rw [if_neg hg] at h
    cases h
set_option maxRecDepth 100000 in
set_option maxHeartbeats 4000000 in
theorem c_X8_hands (l : Launch) (G : Gd) (d : Nat) (σ : St) (t : Nat) (a0 : Int32) (r0 : Int32) (σ' : St) (hf : f_X8_hands σ t a0 = some (r0, σ')) : MetV l G (d + 65) mi_X8_hands [.ref t, .int a0] σ (some (.int r0)) σ' 0 0 := by
  unfold f_X8_hands at hf
  refine MetV.of [(0, .ref t), (1, .int a0)] (by decide +kernel) rfl (Nat.le_of_ble_eq_true rfl) ?_
  intro X hQ
  have L69 : ∀ (σ : St) (x3 : Int32) (x2 : Int32) (n : Nat) (x5 : Int32) (x4 : Int32) (p : Int32 × Int32), f_X8_hands_L69 σ x3 t n x5 x4 = some p → V mi_X8_hands l G (d + 65) 0 0 X 0 0 119 [(5, .int p.1), (4, .int p.2), (3, .int x3), (2, .int x2), (0, .ref t)] [] σ → V mi_X8_hands l G (d + 65) 0 0 X 0 0 69 [(5, .int x5), (4, .int x4), (3, .int x3), (2, .int x2), (0, .ref t)] [] σ := by
    intro σ x3 x2 n
    induction n with
    | zero =>
      intro x5 x4 p hf
      exact absurd (show (none : Option _) = some p from hf) (by simp)
    | succ n ih =>
      intro x5 x4 p hf hk
      rw [f_X8_hands_L69] at hf
      refine V_iload 0 71 rfl dX8_hands_69 rfl ?_
      refine V_aload_n 4 72 rfl dX8_hands_71 rfl rfl ?_
      obtain ⟨q13, h12, hf⟩ := ob hf
      refine V_getQ (n := 27) (ty := tyX8) 75 h12 cf_7 rfl wd_fl_X8_9 dX8_hands_72 rfl ?_
      refine V_iconst 1 76 dX8_hands_75 rfl kiconst_1 ?_
      obtain ⟨v15, h14, hf⟩ := ob hf
      refine V_iald 77 h14 dX8_hands_76 rfl ?_
      refine V_icmp_ge 119 80 dX8_hands_77 (by decide) rfl (fun c16 => ?_) (fun c16 => ?_)
      · rw [if_pos c16] at hf
        have ep := Option.some.inj hf
        subst ep
        refine V_ls [(5, .int x5), (4, .int x4), (3, .int x3), (2, .int x2), (0, .ref t)] [0, 1, 2, 3, 4] rfl ?_
        exact hk
      · rw [if_neg c16] at hf
        refine V_iload 1 82 rfl dX8_hands_80 rfl ?_
        refine V_if_eq 119 85 dX8_hands_82 (by decide) rfl (fun c17 => ?_) (fun c17 => ?_)
        · rw [if_pos c17] at hf
          have ep := Option.some.inj hf
          subst ep
          refine V_ls [(5, .int x5), (4, .int x4), (3, .int x3), (2, .int x2), (0, .ref t)] [0, 1, 2, 3, 4] rfl ?_
          exact hk
        · rw [if_neg c17] at hf
          refine V_aload_n 4 86 rfl dX8_hands_85 rfl rfl ?_
          obtain ⟨q19, h18, hf⟩ := ob hf
          refine V_getQ (n := 27) (ty := tyX8) 89 h18 cf_7 rfl wd_fl_X8_43 dX8_hands_86 rfl ?_
          refine V_iload 0 91 rfl dX8_hands_89 rfl ?_
          obtain ⟨v21, h20, hf⟩ := ob hf
          refine V_iald 92 h20 dX8_hands_91 rfl ?_
          refine V_if_eq 106 95 dX8_hands_92 (by decide) rfl (fun c22 => ?_) (fun c22 => ?_)
          · rw [if_pos c22] at hf
            refine V_iconst 1 107 dX8_hands_106 rfl kiconst_1 ?_
            refine V_goto 111 dX8_hands_107 (by decide) ?_
            refine V_istore [(4, .int 1), (5, .int x5), (3, .int x3), (2, .int x2), (0, .ref t)] 113 dX8_hands_111 (by decide) rfl rfl ?_
            refine V_iinc (x5 + 1) 1 [(5, .int (x5 + 1)), (4, .int 1), (3, .int x3), (2, .int x2), (0, .ref t)] 116 dX8_hands_113 rfl (by rw [kiconst_1]) (by decide) rfl rfl ?_
            refine V_goto 69 dX8_hands_116 (by decide) ?_
            refine V_ls [(5, .int (x5 + 1)), (4, .int 1), (3, .int x3), (2, .int x2), (0, .ref t)] [0, 1, 2, 3, 4] rfl ?_
            exact ih _ _ _ hf hk
          · rw [if_neg c22] at hf
            refine V_aload_n 4 96 rfl dX8_hands_95 rfl rfl ?_
            refine V_iload 0 98 rfl dX8_hands_96 rfl ?_
            obtain ⟨v24, h23, hf⟩ := ob hf
            refine V_callV (rest := []) (T := TX8) (n := 27) (ci := 7) 0 0 101 [.int v24] (c_X8_both l G (d + 61) _ _ _ _ h23) (by omega) ok_X8_both okv_X8_both (gd_X8_both h23) rfl wd_ml_X8_272 rfl rfl (Nat.le_of_ble_eq_true rfl) rfl rfl (Or.inl ⟨rfl, rfl⟩) dX8_hands_98 rfl rfl ?_
            refine V_iload_n 2 102 rfl dX8_hands_101 rfl rfl ?_
            refine V_iand 103 dX8_hands_102 rfl ?_
            have kj25 : V mi_X8_hands l G (d + 65) 0 0 X 0 0 111 [(5, .int x5), (4, .int x4), (3, .int x3), (2, .int x2), (0, .ref t)] [.int (if (v24 &&& x3) = 0 then 0 else 1 : Int32)] σ := by
              refine V_istore [(4, .int (if (v24 &&& x3) = 0 then 0 else 1 : Int32)), (5, .int x5), (3, .int x3), (2, .int x2), (0, .ref t)] 113 dX8_hands_111 (by decide) rfl rfl ?_
              refine V_iinc (x5 + 1) 1 [(5, .int (x5 + 1)), (4, .int (if (v24 &&& x3) = 0 then 0 else 1 : Int32)), (3, .int x3), (2, .int x2), (0, .ref t)] 116 dX8_hands_113 rfl (by rw [kiconst_1]) (by decide) rfl rfl ?_
              refine V_goto 69 dX8_hands_116 (by decide) ?_
              refine V_ls [(5, .int (x5 + 1)), (4, .int (if (v24 &&& x3) = 0 then 0 else 1 : Int32)), (3, .int x3), (2, .int x2), (0, .ref t)] [0, 1, 2, 3, 4] rfl ?_
              exact ih _ _ _ hf hk
            refine V_if_eq 110 106 dX8_hands_103 (by decide) rfl (fun c26 => ?_) (fun c26 => ?_)
            · refine V_iconst 0 111 dX8_hands_110 rfl kiconst_0 ?_
              refine V_ls [(5, .int x5), (4, .int x4), (3, .int x3), (2, .int x2), (0, .ref t)] [0, 1, 2, 3, 4] rfl ?_
              simp only [if_pos c26] at kj25
              exact kj25
            · refine V_iconst 1 107 dX8_hands_106 rfl kiconst_1 ?_
              refine V_goto 111 dX8_hands_107 (by decide) ?_
              refine V_ls [(5, .int x5), (4, .int x4), (3, .int x3), (2, .int x2), (0, .ref t)] [0, 1, 2, 3, 4] rfl ?_
              simp only [if_neg c26] at kj25
              exact kj25
  have L25 : ∀ (σ : St)  (n : Nat) (x3 : Int32) (x2 : Int32) (p : Int32 × Int32), f_X8_hands_L25 σ t n x3 x2 = some p → V mi_X8_hands l G (d + 65) 0 0 X 0 0 136 [(3, .int p.1), (2, .int p.2), (0, .ref t)] [] σ → V mi_X8_hands l G (d + 65) 0 0 X 0 0 25 [(3, .int x3), (2, .int x2), (0, .ref t)] [] σ := by
    intro σ  n
    induction n with
    | zero =>
      intro x3 x2 p hf
      exact absurd (show (none : Option _) = some p from hf) (by simp)
    | succ n ih =>
      intro x3 x2 p hf hk
      rw [f_X8_hands_L25] at hf
      refine V_iload_n 0 26 rfl dX8_hands_25 rfl rfl ?_
      refine V_sipush 256 29 dX8_hands_26 rfl ksipush_256 ?_
      refine V_icmp_ge 136 32 dX8_hands_29 (by decide) rfl (fun c6 => ?_) (fun c6 => ?_)
      · rw [if_pos c6] at hf
        have ep := Option.some.inj hf
        subst ep
        refine V_ls [(3, .int x3), (2, .int x2), (0, .ref t)] [0, 1, 2] rfl ?_
        exact hk
      · rw [if_neg c6] at hf
        refine V_iload_n 0 33 rfl dX8_hands_32 rfl rfl ?_
        obtain ⟨v8, h7, hf⟩ := ob hf
        refine V_callS (rest := []) 0 0 36 [.int v8] (c_X8_bits l G (d + 63) _ _ _ h7) (by omega) ok_X8_bits oks_X8_bits wd_ml_X8_269 rfl rfl (Nat.le_of_ble_eq_true rfl) rfl rfl (Or.inl ⟨rfl, rfl⟩) dX8_hands_33 rfl rfl ?_
        refine V_iload_n 1 37 rfl dX8_hands_36 rfl rfl ?_
        obtain ⟨v10, h9, hf⟩ := ob hf
        refine V_callS (rest := [.int v8]) 0 0 40 [.int v10, .int v8] (c_X8_bits l G (d + 63) _ _ _ h9) (by omega) ok_X8_bits oks_X8_bits wd_ml_X8_269 rfl rfl (Nat.le_of_ble_eq_true rfl) rfl rfl (Or.inl ⟨rfl, rfl⟩) dX8_hands_37 rfl rfl ?_
        refine V_icmp_lt 59 43 dX8_hands_40 (by decide) rfl (fun c11 => ?_) (fun c11 => ?_)
        · rw [if_pos c11] at hf
          refine V_iconst 1 60 dX8_hands_59 rfl kiconst_1 ?_
          refine V_goto 64 dX8_hands_60 (by decide) ?_
          refine V_istore [(4, .int 1), (3, .int x3), (2, .int x2), (0, .ref t)] 66 dX8_hands_64 (by decide) rfl rfl ?_
          refine V_iconst 0 67 dX8_hands_66 rfl kiconst_0 ?_
          refine V_istore [(5, .int 0), (4, .int 1), (3, .int x3), (2, .int x2), (0, .ref t)] 69 dX8_hands_67 (by decide) rfl rfl ?_
          obtain ⟨p27, h28, hf⟩ := ob hf
          refine V_ls [(5, .int 0), (4, .int 1), (3, .int x3), (2, .int x2), (0, .ref t)] [0, 1, 2, 3, 4] rfl ?_
          refine L69 σ x3 x2 3000 0 1 p27 h28 ?_
          refine V_iload 1 121 rfl dX8_hands_119 rfl ?_
          have kj29 : V mi_X8_hands l G (d + 65) 0 0 X 0 0 129 [(5, .int p27.1), (4, .int p27.2), (3, .int x3), (2, .int x2), (0, .ref t)] [.int (if p27.2 = 0 then x2 else x3 : Int32)] σ := by
            refine V_istore_n [(2, .int (if p27.2 = 0 then x2 else x3 : Int32)), (5, .int p27.1), (4, .int p27.2), (3, .int x3), (0, .ref t)] 130 dX8_hands_129 rfl (by decide) rfl rfl ?_
            refine V_iinc (x3 + 1) 3 [(3, .int (x3 + 1)), (2, .int (if p27.2 = 0 then x2 else x3 : Int32)), (5, .int p27.1), (4, .int p27.2), (0, .ref t)] 133 dX8_hands_130 rfl (by rw [kiconst_1]) (by decide) rfl rfl ?_
            refine V_goto 25 dX8_hands_133 (by decide) ?_
            refine V_ls [(3, .int (x3 + 1)), (2, .int (if p27.2 = 0 then x2 else x3 : Int32)), (0, .ref t)] [0, 1, 4] rfl ?_
            exact ih _ _ _ hf hk
          refine V_if_eq 128 124 dX8_hands_121 (by decide) rfl (fun c30 => ?_) (fun c30 => ?_)
          · refine V_iload_n 3 129 rfl dX8_hands_128 rfl rfl ?_
            refine V_ls [(5, .int p27.1), (4, .int p27.2), (3, .int x3), (2, .int x2), (0, .ref t)] [0, 1, 2, 3, 4] rfl ?_
            simp only [if_pos c30] at kj29
            exact kj29
          · refine V_iload_n 2 125 rfl dX8_hands_124 rfl rfl ?_
            refine V_goto 129 dX8_hands_125 (by decide) ?_
            refine V_ls [(5, .int p27.1), (4, .int p27.2), (3, .int x3), (2, .int x2), (0, .ref t)] [0, 1, 2, 3, 4] rfl ?_
            simp only [if_neg c30] at kj29
            exact kj29
        · rw [if_neg c11] at hf
          refine V_iload_n 0 44 rfl dX8_hands_43 rfl rfl ?_
          obtain ⟨v32, h31, hf⟩ := ob hf
          refine V_callS (rest := []) 0 0 47 [.int v32] (c_X8_bits l G (d + 63) _ _ _ h31) (by omega) ok_X8_bits oks_X8_bits wd_ml_X8_269 rfl rfl (Nat.le_of_ble_eq_true rfl) rfl rfl (Or.inl ⟨rfl, rfl⟩) dX8_hands_44 rfl rfl ?_
          refine V_iload_n 1 48 rfl dX8_hands_47 rfl rfl ?_
          obtain ⟨v34, h33, hf⟩ := ob hf
          refine V_callS (rest := [.int v32]) 0 0 51 [.int v34, .int v32] (c_X8_bits l G (d + 63) _ _ _ h33) (by omega) ok_X8_bits oks_X8_bits wd_ml_X8_269 rfl rfl (Nat.le_of_ble_eq_true rfl) rfl rfl (Or.inl ⟨rfl, rfl⟩) dX8_hands_48 rfl rfl ?_
          have kj39 : V mi_X8_hands l G (d + 65) 0 0 X 0 0 64 [(3, .int x3), (2, .int x2), (0, .ref t)] [.int (if v32 = v34 then (if x2 ≤ x3 then 0 else 1) else 0 : Int32)] σ := by
            refine V_istore [(4, .int (if v32 = v34 then (if x2 ≤ x3 then 0 else 1) else 0 : Int32)), (3, .int x3), (2, .int x2), (0, .ref t)] 66 dX8_hands_64 (by decide) rfl rfl ?_
            refine V_iconst 0 67 dX8_hands_66 rfl kiconst_0 ?_
            refine V_istore [(5, .int 0), (4, .int (if v32 = v34 then (if x2 ≤ x3 then 0 else 1) else 0 : Int32)), (3, .int x3), (2, .int x2), (0, .ref t)] 69 dX8_hands_67 (by decide) rfl rfl ?_
            obtain ⟨p35, h36, hf⟩ := ob hf
            refine V_ls [(5, .int 0), (4, .int (if v32 = v34 then (if x2 ≤ x3 then 0 else 1) else 0 : Int32)), (3, .int x3), (2, .int x2), (0, .ref t)] [0, 1, 2, 3, 4] rfl ?_
            refine L69 σ x3 x2 3000 0 (if v32 = v34 then (if x2 ≤ x3 then 0 else 1) else 0 : Int32) p35 h36 ?_
            refine V_iload 1 121 rfl dX8_hands_119 rfl ?_
            have kj37 : V mi_X8_hands l G (d + 65) 0 0 X 0 0 129 [(5, .int p35.1), (4, .int p35.2), (3, .int x3), (2, .int x2), (0, .ref t)] [.int (if p35.2 = 0 then x2 else x3 : Int32)] σ := by
              refine V_istore_n [(2, .int (if p35.2 = 0 then x2 else x3 : Int32)), (5, .int p35.1), (4, .int p35.2), (3, .int x3), (0, .ref t)] 130 dX8_hands_129 rfl (by decide) rfl rfl ?_
              refine V_iinc (x3 + 1) 3 [(3, .int (x3 + 1)), (2, .int (if p35.2 = 0 then x2 else x3 : Int32)), (5, .int p35.1), (4, .int p35.2), (0, .ref t)] 133 dX8_hands_130 rfl (by rw [kiconst_1]) (by decide) rfl rfl ?_
              refine V_goto 25 dX8_hands_133 (by decide) ?_
              refine V_ls [(3, .int (x3 + 1)), (2, .int (if p35.2 = 0 then x2 else x3 : Int32)), (0, .ref t)] [0, 1, 4] rfl ?_
              exact ih _ _ _ hf hk
            refine V_if_eq 128 124 dX8_hands_121 (by decide) rfl (fun c38 => ?_) (fun c38 => ?_)
            · refine V_iload_n 3 129 rfl dX8_hands_128 rfl rfl ?_
              refine V_ls [(5, .int p35.1), (4, .int p35.2), (3, .int x3), (2, .int x2), (0, .ref t)] [0, 1, 2, 3, 4] rfl ?_
              simp only [if_pos c38] at kj37
              exact kj37
            · refine V_iload_n 2 125 rfl dX8_hands_124 rfl rfl ?_
              refine V_goto 129 dX8_hands_125 (by decide) ?_
              refine V_ls [(5, .int p35.1), (4, .int p35.2), (3, .int x3), (2, .int x2), (0, .ref t)] [0, 1, 2, 3, 4] rfl ?_
              simp only [if_neg c38] at kj37
              exact kj37
          refine V_icmp_ne 63 54 dX8_hands_51 (by decide) rfl (fun c40 => ?_) (fun c40 => ?_)
          · refine V_iconst 0 64 dX8_hands_63 rfl kiconst_0 ?_
            refine V_ls [(3, .int x3), (2, .int x2), (0, .ref t)] [0, 1, 2] rfl ?_
            simp only [if_neg c40] at kj39
            exact kj39
          · refine V_iload_n 0 55 rfl dX8_hands_54 rfl rfl ?_
            refine V_iload_n 1 56 rfl dX8_hands_55 rfl rfl ?_
            refine V_icmp_ge 63 59 dX8_hands_56 (by decide) rfl (fun c41 => ?_) (fun c41 => ?_)
            · refine V_iconst 0 64 dX8_hands_63 rfl kiconst_0 ?_
              refine V_ls [(3, .int x3), (2, .int x2), (0, .ref t)] [0, 1, 2] rfl ?_
              simp only [if_pos c40, if_pos c41] at kj39
              exact kj39
            · refine V_iconst 1 60 dX8_hands_59 rfl kiconst_1 ?_
              refine V_goto 64 dX8_hands_60 (by decide) ?_
              refine V_ls [(3, .int x3), (2, .int x2), (0, .ref t)] [0, 1, 2] rfl ?_
              simp only [if_pos c40, if_neg c41] at kj39
              exact kj39
  by_cases hg : isO σ 7 t = true
  · rw [if_pos hg] at hf
    refine V_iload_n 1 1 rfl dX8_hands_0 rfl rfl ?_
    obtain ⟨v2, h1, hf⟩ := ob hf
    refine V_callS (rest := []) 0 0 4 [.int v2] (c_X8_isFactor l G (d + 62) _ _ _ h1) (by omega) ok_X8_isFactor oks_X8_isFactor wd_ml_X8_242 rfl rfl (Nat.le_of_ble_eq_true rfl) rfl rfl (Or.inl ⟨rfl, rfl⟩) dX8_hands_1 rfl rfl ?_
    refine V_if_ne 14 7 dX8_hands_4 (by decide) rfl (fun c3 => ?_) (fun c3 => ?_)
    · rw [if_neg c3] at hf
      refine V_aload_n 0 15 rfl dX8_hands_14 rfl rfl ?_
      refine V_iload_n 1 16 rfl dX8_hands_15 rfl rfl ?_
      obtain ⟨s5, h4, hf⟩ := ob hf
      refine V_callV (rest := []) (T := TX8) (n := 27) (ci := 7) 0 0 19 [] (c_X8_findCould l G (d + 0) _ _ _ _ h4) (by omega) ok_X8_findCould okv_X8_findCould (gd_X8_findCould h4) rfl wd_ml_X8_266 rfl rfl (Nat.le_of_ble_eq_true rfl) rfl rfl (Or.inl ⟨rfl, rfl⟩) dX8_hands_16 rfl rfl ?_
      refine V_sipush 255 22 dX8_hands_19 rfl ksipush_255 ?_
      refine V_istore_n [(2, .int 255), (0, .ref t), (1, .int a0)] 23 dX8_hands_22 rfl (by decide) rfl rfl ?_
      refine V_iconst 0 24 dX8_hands_23 rfl kiconst_0 ?_
      refine V_istore_n [(3, .int 0), (2, .int 255), (0, .ref t), (1, .int a0)] 25 dX8_hands_24 rfl (by decide) rfl rfl ?_
      obtain ⟨p42, h43, hf⟩ := ob hf
      refine V_ls [(3, .int 0), (2, .int 255), (0, .ref t)] [0, 1, 2] rfl ?_
      refine L25 s5 3000 0 255 p42 h43 ?_
      refine V_iload_n 1 137 rfl dX8_hands_136 rfl rfl ?_
      have er := Option.some.inj hf
      obtain ⟨e1, e2⟩ := Prod.mk.inj er
      subst e1
      subst e2
      exact V_iret hQ rfl dX8_hands_137
    · rw [if_pos c3] at hf
      refine V_aload_n 0 8 rfl dX8_hands_7 rfl rfl ?_
      refine V_ldc (-1000001) 10 dX8_hands_8 rfl wd_kk_X8_76 ?_
      obtain ⟨p45, h44, hf⟩ := ob hf
      refine V_callV (rest := []) (T := TX8) (n := 27) (ci := 7) 0 0 13 [.int p45.1] (c_X8_finding l G (d + 63) _ _ _ _ _ h44) (by omega) ok_X8_finding okv_X8_finding (gd_X8_finding h44) rfl wd_ml_X8_77 rfl rfl (Nat.le_of_ble_eq_true rfl) rfl rfl (Or.inl ⟨rfl, rfl⟩) dX8_hands_10 rfl rfl ?_
      have er := Option.some.inj hf
      obtain ⟨e1, e2⟩ := Prod.mk.inj er
      subst e1
      subst e2
      exact V_iret hQ rfl dX8_hands_13
  · rw [if_neg hg] at hf
    cases hf
