theorem wd_cl_TwiceNoiseLaw_7 : (.classLink "TwiceNoiseLaw" 7 "TwiceNoise" : Cond) ∈ tb := tbm 86 (by decide +kernel) rfl
theorem wd_ia_X7 : (.instantiable "TwiceNoise" 10 : Cond) ∈ tb := tbm 87 (by decide +kernel) rfl
theorem wd_ml_TwiceNoiseLaw_9 : (.methodLink "TwiceNoiseLaw" 9 ⟨"TwiceNoise", "<init>", "()V"⟩ : Cond) ∈ tb := tbm 88 (by decide +kernel) rfl
theorem wd_cl_TwiceNoiseLaw_10 : (.classLink "TwiceNoiseLaw" 10 "TwiceNoiseModel" : Cond) ∈ tb := tbm 922 (by decide +kernel) rfl
theorem wd_ia_X8 : (.instantiable "TwiceNoiseModel" 27 : Cond) ∈ tb := tbm 923 (by decide +kernel) rfl
theorem wd_ml_TwiceNoiseLaw_12 : (.methodLink "TwiceNoiseLaw" 12 ⟨"TwiceNoiseModel", "<init>", "()V"⟩ : Cond) ∈ tb := tbm 924 (by decide +kernel) rfl
theorem wd_ml_TwiceNoiseLaw_13 : (.methodLink "TwiceNoiseLaw" 13 ⟨"TwiceNoise", "machine", "(III)I"⟩ : Cond) ∈ tb := tbm 309 (by decide +kernel) rfl
theorem wd_ml_TwiceNoiseLaw_17 : (.methodLink "TwiceNoiseLaw" 17 ⟨"TwiceNoiseModel", "machine", "(III)I"⟩ : Cond) ∈ tb := tbm 1015 (by decide +kernel) rfl
theorem wd_ml_TwiceNoiseLaw_18 : (.methodLink "TwiceNoiseLaw" 18 ⟨"TwiceNoise", "draws", "(I)I"⟩ : Cond) ∈ tb := tbm 331 (by decide +kernel) rfl
theorem wd_ml_TwiceNoiseLaw_22 : (.methodLink "TwiceNoiseLaw" 22 ⟨"TwiceNoiseModel", "draws", "(I)I"⟩ : Cond) ∈ tb := tbm 1032 (by decide +kernel) rfl
theorem wd_ml_TwiceNoiseLaw_23 : (.methodLink "TwiceNoiseLaw" 23 ⟨"TwiceNoise", "paper", "(III)I"⟩ : Cond) ∈ tb := tbm 335 (by decide +kernel) rfl
theorem wd_ml_TwiceNoiseLaw_26 : (.methodLink "TwiceNoiseLaw" 26 ⟨"TwiceNoiseModel", "paper", "(III)I"⟩ : Cond) ∈ tb := tbm 1036 (by decide +kernel) rfl
theorem wd_ml_TwiceNoiseLaw_27 : (.methodLink "TwiceNoiseLaw" 27 ⟨"TwiceNoise", "paperIs", "(II)I"⟩ : Cond) ∈ tb := tbm 345 (by decide +kernel) rfl
theorem wd_ml_TwiceNoiseLaw_31 : (.methodLink "TwiceNoiseLaw" 31 ⟨"TwiceNoiseModel", "paperIs", "(II)I"⟩ : Cond) ∈ tb := tbm 1041 (by decide +kernel) rfl
theorem wd_ml_TwiceNoiseLaw_32 : (.methodLink "TwiceNoiseLaw" 32 ⟨"TwiceNoise", "curve", "(IIIII)I"⟩ : Cond) ∈ tb := tbm 358 (by decide +kernel) rfl
theorem wd_ml_TwiceNoiseLaw_36 : (.methodLink "TwiceNoiseLaw" 36 ⟨"TwiceNoiseModel", "curve", "(IIIII)I"⟩ : Cond) ∈ tb := tbm 1057 (by decide +kernel) rfl
theorem wd_ml_TwiceNoiseLaw_37 : (.methodLink "TwiceNoiseLaw" 37 ⟨"TwiceNoise", "measure", "(II)I"⟩ : Cond) ∈ tb := tbm 396 (by decide +kernel) rfl
theorem wd_ml_TwiceNoiseLaw_40 : (.methodLink "TwiceNoiseLaw" 40 ⟨"TwiceNoiseModel", "measure", "(II)I"⟩ : Cond) ∈ tb := tbm 1079 (by decide +kernel) rfl
theorem wd_ml_TwiceNoiseLaw_41 : (.methodLink "TwiceNoiseLaw" 41 ⟨"TwiceNoise", "make", "(IIIII)I"⟩ : Cond) ∈ tb := tbm 560 (by decide +kernel) rfl
theorem wd_ml_TwiceNoiseLaw_44 : (.methodLink "TwiceNoiseLaw" 44 ⟨"TwiceNoiseModel", "make", "(IIIII)I"⟩ : Cond) ∈ tb := tbm 1110 (by decide +kernel) rfl
theorem wd_ml_TwiceNoiseLaw_45 : (.methodLink "TwiceNoiseLaw" 45 ⟨"TwiceNoise", "curveIs", "(II)I"⟩ : Cond) ∈ tb := tbm 579 (by decide +kernel) rfl
theorem wd_ml_TwiceNoiseLaw_48 : (.methodLink "TwiceNoiseLaw" 48 ⟨"TwiceNoiseModel", "curveIs", "(II)I"⟩ : Cond) ∈ tb := tbm 1125 (by decide +kernel) rfl
theorem wd_ml_TwiceNoiseLaw_49 : (.methodLink "TwiceNoiseLaw" 49 ⟨"TwiceNoise", "as", "(II)I"⟩ : Cond) ∈ tb := tbm 583 (by decide +kernel) rfl
theorem wd_ml_TwiceNoiseLaw_52 : (.methodLink "TwiceNoiseLaw" 52 ⟨"TwiceNoiseModel", "as", "(II)I"⟩ : Cond) ∈ tb := tbm 1129 (by decide +kernel) rfl
theorem wd_ml_TwiceNoiseLaw_53 : (.methodLink "TwiceNoiseLaw" 53 ⟨"TwiceNoise", "point", "(II)I"⟩ : Cond) ∈ tb := tbm 594 (by decide +kernel) rfl
theorem wd_ml_TwiceNoiseLaw_56 : (.methodLink "TwiceNoiseLaw" 56 ⟨"TwiceNoiseModel", "point", "(II)I"⟩ : Cond) ∈ tb := tbm 1137 (by decide +kernel) rfl
theorem wd_ml_TwiceNoiseLaw_57 : (.methodLink "TwiceNoiseLaw" 57 ⟨"TwiceNoise", "hair", "(II)I"⟩ : Cond) ∈ tb := tbm 598 (by decide +kernel) rfl
theorem wd_ml_TwiceNoiseLaw_60 : (.methodLink "TwiceNoiseLaw" 60 ⟨"TwiceNoiseModel", "hair", "(II)I"⟩ : Cond) ∈ tb := tbm 1141 (by decide +kernel) rfl
theorem wd_kl_TwiceNoiseLaw_61 : (.constantLong "TwiceNoiseLaw" 61 (4294967295) : Cond) ∈ tb := tbm 1436 (by decide +kernel) rfl
theorem wd_ml_TwiceNoiseLaw_63 : (.methodLink "TwiceNoiseLaw" 63 ⟨"TwiceNoise", "feed", "(JI)I"⟩ : Cond) ∈ tb := tbm 607 (by decide +kernel) rfl
theorem wd_ml_TwiceNoiseLaw_67 : (.methodLink "TwiceNoiseLaw" 67 ⟨"TwiceNoiseModel", "feed", "(JI)I"⟩ : Cond) ∈ tb := tbm 1149 (by decide +kernel) rfl
theorem wd_ml_TwiceNoiseLaw_68 : (.methodLink "TwiceNoiseLaw" 68 ⟨"TwiceNoise", "text", "(I)I"⟩ : Cond) ∈ tb := tbm 615 (by decide +kernel) rfl
theorem wd_ml_TwiceNoiseLaw_71 : (.methodLink "TwiceNoiseLaw" 71 ⟨"TwiceNoiseModel", "text", "(I)I"⟩ : Cond) ∈ tb := tbm 1154 (by decide +kernel) rfl
theorem wd_ml_TwiceNoiseLaw_72 : (.methodLink "TwiceNoiseLaw" 72 ⟨"TwiceNoise", "law", "(IIII)I"⟩ : Cond) ∈ tb := tbm 633 (by decide +kernel) rfl
theorem wd_ml_TwiceNoiseLaw_76 : (.methodLink "TwiceNoiseLaw" 76 ⟨"TwiceNoiseModel", "law", "(IIII)I"⟩ : Cond) ∈ tb := tbm 1223 (by decide +kernel) rfl
theorem wd_ml_TwiceNoiseLaw_77 : (.methodLink "TwiceNoiseLaw" 77 ⟨"TwiceNoise", "same", "(III)I"⟩ : Cond) ∈ tb := tbm 637 (by decide +kernel) rfl
theorem wd_ml_TwiceNoiseLaw_80 : (.methodLink "TwiceNoiseLaw" 80 ⟨"TwiceNoiseModel", "same", "(III)I"⟩ : Cond) ∈ tb := tbm 1227 (by decide +kernel) rfl
theorem wd_ml_TwiceNoiseLaw_81 : (.methodLink "TwiceNoiseLaw" 81 ⟨"TwiceNoise", "bent", "(IIII)I"⟩ : Cond) ∈ tb := tbm 650 (by decide +kernel) rfl
theorem wd_ml_TwiceNoiseLaw_84 : (.methodLink "TwiceNoiseLaw" 84 ⟨"TwiceNoiseModel", "bent", "(IIII)I"⟩ : Cond) ∈ tb := tbm 1235 (by decide +kernel) rfl
theorem wd_ml_TwiceNoiseLaw_85 : (.methodLink "TwiceNoiseLaw" 85 ⟨"TwiceNoise", "pairs", "(I)I"⟩ : Cond) ∈ tb := tbm 675 (by decide +kernel) rfl
theorem wd_ml_TwiceNoiseLaw_88 : (.methodLink "TwiceNoiseLaw" 88 ⟨"TwiceNoiseModel", "pairs", "(I)I"⟩ : Cond) ∈ tb := tbm 1253 (by decide +kernel) rfl
theorem wd_ml_TwiceNoiseLaw_89 : (.methodLink "TwiceNoiseLaw" 89 ⟨"TwiceNoise", "prints", "(III)I"⟩ : Cond) ∈ tb := tbm 679 (by decide +kernel) rfl
theorem wd_ml_TwiceNoiseLaw_92 : (.methodLink "TwiceNoiseLaw" 92 ⟨"TwiceNoiseModel", "prints", "(III)I"⟩ : Cond) ∈ tb := tbm 1261 (by decide +kernel) rfl
theorem wd_ml_TwiceNoiseLaw_93 : (.methodLink "TwiceNoiseLaw" 93 ⟨"TwiceNoise", "worked", "(III)I"⟩ : Cond) ∈ tb := tbm 686 (by decide +kernel) rfl
theorem wd_ml_TwiceNoiseLaw_96 : (.methodLink "TwiceNoiseLaw" 96 ⟨"TwiceNoiseModel", "worked", "(III)I"⟩ : Cond) ∈ tb := tbm 1266 (by decide +kernel) rfl
theorem wd_ml_TwiceNoiseLaw_97 : (.methodLink "TwiceNoiseLaw" 97 ⟨"TwiceNoise", "sign", "(I)I"⟩ : Cond) ∈ tb := tbm 695 (by decide +kernel) rfl
theorem wd_ml_TwiceNoiseLaw_100 : (.methodLink "TwiceNoiseLaw" 100 ⟨"TwiceNoiseModel", "sign", "(I)I"⟩ : Cond) ∈ tb := tbm 1272 (by decide +kernel) rfl
theorem wd_ml_TwiceNoiseLaw_101 : (.methodLink "TwiceNoiseLaw" 101 ⟨"TwiceNoise", "unsigned", "()I"⟩ : Cond) ∈ tb := tbm 704 (by decide +kernel) rfl
theorem wd_ml_TwiceNoiseLaw_105 : (.methodLink "TwiceNoiseLaw" 105 ⟨"TwiceNoiseModel", "unsigned", "()I"⟩ : Cond) ∈ tb := tbm 1280 (by decide +kernel) rfl
theorem wd_ml_TwiceNoiseLaw_106 : (.methodLink "TwiceNoiseLaw" 106 ⟨"TwiceNoise", "honest", "(IIII)J"⟩ : Cond) ∈ tb := tbm 708 (by decide +kernel) rfl
theorem wd_ml_TwiceNoiseLaw_110 : (.methodLink "TwiceNoiseLaw" 110 ⟨"TwiceNoiseModel", "honest", "(IIII)J"⟩ : Cond) ∈ tb := tbm 1284 (by decide +kernel) rfl
theorem wd_ml_TwiceNoiseLaw_111 : (.methodLink "TwiceNoiseLaw" 111 ⟨"TwiceNoise", "could", "(II)I"⟩ : Cond) ∈ tb := tbm 713 (by decide +kernel) rfl
theorem wd_ml_TwiceNoiseLaw_114 : (.methodLink "TwiceNoiseLaw" 114 ⟨"TwiceNoiseModel", "could", "(II)I"⟩ : Cond) ∈ tb := tbm 1288 (by decide +kernel) rfl
theorem wd_ml_TwiceNoiseLaw_115 : (.methodLink "TwiceNoiseLaw" 115 ⟨"TwiceNoise", "sources", "(I)I"⟩ : Cond) ∈ tb := tbm 726 (by decide +kernel) rfl
theorem wd_ml_TwiceNoiseLaw_118 : (.methodLink "TwiceNoiseLaw" 118 ⟨"TwiceNoiseModel", "sources", "(I)I"⟩ : Cond) ∈ tb := tbm 1300 (by decide +kernel) rfl
theorem wd_ml_TwiceNoiseLaw_119 : (.methodLink "TwiceNoiseLaw" 119 ⟨"TwiceNoise", "hands", "(I)I"⟩ : Cond) ∈ tb := tbm 730 (by decide +kernel) rfl
theorem wd_ml_TwiceNoiseLaw_122 : (.methodLink "TwiceNoiseLaw" 122 ⟨"TwiceNoiseModel", "hands", "(I)I"⟩ : Cond) ∈ tb := tbm 1308 (by decide +kernel) rfl
theorem wd_ml_TwiceNoiseLaw_123 : (.methodLink "TwiceNoiseLaw" 123 ⟨"TwiceNoise", "saw", "(II)I"⟩ : Cond) ∈ tb := tbm 749 (by decide +kernel) rfl
theorem wd_ml_TwiceNoiseLaw_126 : (.methodLink "TwiceNoiseLaw" 126 ⟨"TwiceNoiseModel", "saw", "(II)I"⟩ : Cond) ∈ tb := tbm 1319 (by decide +kernel) rfl
theorem wd_ml_TwiceNoiseLaw_127 : (.methodLink "TwiceNoiseLaw" 127 ⟨"TwiceNoise", "rests", "(II)I"⟩ : Cond) ∈ tb := tbm 753 (by decide +kernel) rfl
theorem wd_ml_TwiceNoiseLaw_130 : (.methodLink "TwiceNoiseLaw" 130 ⟨"TwiceNoiseModel", "rests", "(II)I"⟩ : Cond) ∈ tb := tbm 1323 (by decide +kernel) rfl
theorem wd_ml_TwiceNoiseLaw_131 : (.methodLink "TwiceNoiseLaw" 131 ⟨"TwiceNoise", "needs", "(II)I"⟩ : Cond) ∈ tb := tbm 758 (by decide +kernel) rfl
theorem wd_ml_TwiceNoiseLaw_134 : (.methodLink "TwiceNoiseLaw" 134 ⟨"TwiceNoiseModel", "needs", "(II)I"⟩ : Cond) ∈ tb := tbm 1328 (by decide +kernel) rfl
theorem wd_ml_TwiceNoiseLaw_135 : (.methodLink "TwiceNoiseLaw" 135 ⟨"TwiceNoise", "fall", "(I)I"⟩ : Cond) ∈ tb := tbm 762 (by decide +kernel) rfl
theorem wd_ml_TwiceNoiseLaw_138 : (.methodLink "TwiceNoiseLaw" 138 ⟨"TwiceNoiseModel", "fall", "(I)I"⟩ : Cond) ∈ tb := tbm 1332 (by decide +kernel) rfl
theorem wd_ml_TwiceNoiseLaw_139 : (.methodLink "TwiceNoiseLaw" 139 ⟨"TwiceNoise", "link", "(III)I"⟩ : Cond) ∈ tb := tbm 769 (by decide +kernel) rfl
theorem wd_ml_TwiceNoiseLaw_142 : (.methodLink "TwiceNoiseLaw" 142 ⟨"TwiceNoiseModel", "link", "(III)I"⟩ : Cond) ∈ tb := tbm 1336 (by decide +kernel) rfl
theorem wd_ml_TwiceNoiseLaw_143 : (.methodLink "TwiceNoiseLaw" 143 ⟨"TwiceNoise", "tries", "(IIIZ)I"⟩ : Cond) ∈ tb := tbm 776 (by decide +kernel) rfl
theorem wd_ml_TwiceNoiseLaw_147 : (.methodLink "TwiceNoiseLaw" 147 ⟨"TwiceNoiseModel", "tries", "(IIIZ)I"⟩ : Cond) ∈ tb := tbm 1343 (by decide +kernel) rfl
theorem wd_ml_TwiceNoiseLaw_148 : (.methodLink "TwiceNoiseLaw" 148 ⟨"TwiceNoise", "knows", "(III)I"⟩ : Cond) ∈ tb := tbm 780 (by decide +kernel) rfl
theorem wd_ml_TwiceNoiseLaw_151 : (.methodLink "TwiceNoiseLaw" 151 ⟨"TwiceNoiseModel", "knows", "(III)I"⟩ : Cond) ∈ tb := tbm 1347 (by decide +kernel) rfl
theorem wd_ml_TwiceNoiseLaw_152 : (.methodLink "TwiceNoiseLaw" 152 ⟨"TwiceNoise", "rule", "(II)I"⟩ : Cond) ∈ tb := tbm 797 (by decide +kernel) rfl
theorem wd_ml_TwiceNoiseLaw_155 : (.methodLink "TwiceNoiseLaw" 155 ⟨"TwiceNoiseModel", "rule", "(II)I"⟩ : Cond) ∈ tb := tbm 1357 (by decide +kernel) rfl
theorem wd_ml_TwiceNoiseLaw_156 : (.methodLink "TwiceNoiseLaw" 156 ⟨"TwiceNoise", "rules", "(III)I"⟩ : Cond) ∈ tb := tbm 801 (by decide +kernel) rfl
theorem wd_ml_TwiceNoiseLaw_159 : (.methodLink "TwiceNoiseLaw" 159 ⟨"TwiceNoiseModel", "rules", "(III)I"⟩ : Cond) ∈ tb := tbm 1365 (by decide +kernel) rfl
theorem wd_ml_TwiceNoiseLaw_160 : (.methodLink "TwiceNoiseLaw" 160 ⟨"TwiceNoise", "voice", "(III)I"⟩ : Cond) ∈ tb := tbm 817 (by decide +kernel) rfl
theorem wd_ml_TwiceNoiseLaw_163 : (.methodLink "TwiceNoiseLaw" 163 ⟨"TwiceNoiseModel", "voice", "(III)I"⟩ : Cond) ∈ tb := tbm 1369 (by decide +kernel) rfl
theorem wd_ml_TwiceNoiseLaw_164 : (.methodLink "TwiceNoiseLaw" 164 ⟨"TwiceNoise", "trace", "(I)I"⟩ : Cond) ∈ tb := tbm 840 (by decide +kernel) rfl
theorem wd_ml_TwiceNoiseLaw_167 : (.methodLink "TwiceNoiseLaw" 167 ⟨"TwiceNoiseModel", "trace", "(I)I"⟩ : Cond) ∈ tb := tbm 1393 (by decide +kernel) rfl
theorem wd_ml_TwiceNoiseLaw_168 : (.methodLink "TwiceNoiseLaw" 168 ⟨"TwiceNoise", "sheet", "(III)I"⟩ : Cond) ∈ tb := tbm 844 (by decide +kernel) rfl
theorem wd_ml_TwiceNoiseLaw_171 : (.methodLink "TwiceNoiseLaw" 171 ⟨"TwiceNoiseModel", "sheet", "(III)I"⟩ : Cond) ∈ tb := tbm 1397 (by decide +kernel) rfl
theorem wd_ml_TwiceNoiseLaw_172 : (.methodLink "TwiceNoiseLaw" 172 ⟨"TwiceNoise", "put", "(III)I"⟩ : Cond) ∈ tb := tbm 857 (by decide +kernel) rfl
theorem wd_ml_TwiceNoiseLaw_175 : (.methodLink "TwiceNoiseLaw" 175 ⟨"TwiceNoiseModel", "put", "(III)I"⟩ : Cond) ∈ tb := tbm 1401 (by decide +kernel) rfl
theorem wd_ml_TwiceNoiseLaw_176 : (.methodLink "TwiceNoiseLaw" 176 ⟨"TwiceNoise", "move", "(IIIII)I"⟩ : Cond) ∈ tb := tbm 865 (by decide +kernel) rfl
theorem wd_ml_TwiceNoiseLaw_179 : (.methodLink "TwiceNoiseLaw" 179 ⟨"TwiceNoiseModel", "move", "(IIIII)I"⟩ : Cond) ∈ tb := tbm 1405 (by decide +kernel) rfl
theorem wd_ml_TwiceNoiseLaw_180 : (.methodLink "TwiceNoiseLaw" 180 ⟨"TwiceNoise", "image", "()I"⟩ : Cond) ∈ tb := tbm 870 (by decide +kernel) rfl
theorem wd_ml_TwiceNoiseLaw_183 : (.methodLink "TwiceNoiseLaw" 183 ⟨"TwiceNoiseModel", "image", "()I"⟩ : Cond) ∈ tb := tbm 1409 (by decide +kernel) rfl
theorem wd_ml_TwiceNoiseLaw_184 : (.methodLink "TwiceNoiseLaw" 184 ⟨"TwiceNoise", "restore", "()I"⟩ : Cond) ∈ tb := tbm 886 (by decide +kernel) rfl
theorem wd_ml_TwiceNoiseLaw_187 : (.methodLink "TwiceNoiseLaw" 187 ⟨"TwiceNoiseModel", "restore", "()I"⟩ : Cond) ∈ tb := tbm 1416 (by decide +kernel) rfl
theorem wd_ml_TwiceNoiseLaw_188 : (.methodLink "TwiceNoiseLaw" 188 ⟨"TwiceNoise", "tell", "(I)I"⟩ : Cond) ∈ tb := tbm 890 (by decide +kernel) rfl
theorem wd_ml_TwiceNoiseLaw_191 : (.methodLink "TwiceNoiseLaw" 191 ⟨"TwiceNoiseModel", "tell", "(I)I"⟩ : Cond) ∈ tb := tbm 1420 (by decide +kernel) rfl
theorem wd_ml_TwiceNoiseLaw_192 : (.methodLink "TwiceNoiseLaw" 192 ⟨"TwiceNoise", "check", "(I)I"⟩ : Cond) ∈ tb := tbm 894 (by decide +kernel) rfl
theorem wd_ml_TwiceNoiseLaw_195 : (.methodLink "TwiceNoiseLaw" 195 ⟨"TwiceNoiseModel", "check", "(I)I"⟩ : Cond) ∈ tb := tbm 1424 (by decide +kernel) rfl
theorem wd_ml_TwiceNoiseLaw_196 : (.methodLink "TwiceNoiseLaw" 196 ⟨"TwiceNoise", "count", "(I)I"⟩ : Cond) ∈ tb := tbm 909 (by decide +kernel) rfl
theorem wd_ml_TwiceNoiseLaw_199 : (.methodLink "TwiceNoiseLaw" 199 ⟨"TwiceNoiseModel", "count", "(I)I"⟩ : Cond) ∈ tb := tbm 1428 (by decide +kernel) rfl
theorem wd_ml_TwiceNoiseLaw_200 : (.methodLink "TwiceNoiseLaw" 200 ⟨"TwiceNoise", "told", "(I)I"⟩ : Cond) ∈ tb := tbm 918 (by decide +kernel) rfl
theorem wd_ml_TwiceNoiseLaw_203 : (.methodLink "TwiceNoiseLaw" 203 ⟨"TwiceNoiseModel", "told", "(I)I"⟩ : Cond) ∈ tb := tbm 1432 (by decide +kernel) rfl
theorem kiconst_6 : Int32.ofInt 6 = (6 : Int32) := by decide
def R_law : String := "TwiceNoiseLaw"
def lw_P (b : Addr) (xs : List Int32) (args : Array Value) (s : State) : Prop := args = #[.ref b] ∧ s.IntsAt b xs ∧ xs.length ≤ 384 ∧ (Jvm.Cond.and given_1 narrow_1).before args s = true
def lw_Q (_ : Array Value) (s : State) (o : Outcome) (t : State) : Prop := o = .returned (some (.int 1)) ∧ Framed s o t [] 600000 7302250
def lw_Z (below : List Frame) (a : Array Value) (s : State) : State → Prop := fun t => ∃ o, t.status = .running ∧ Ended t below o ∧ lw_Q a s o t
/-- the law's own end, with 1 on the stack, nothing written that was there before, its room as the claim has it -/
theorem lw_ret {p : Program} {l : Launch} {e : Env} {s : State} {m : MethodId} {below : List Frame} {meth : Method} {c : Code} {b : Nat} (hx : p.tables.exec = Jvm.exec) (hb : c.code = code) (hr : meth.sig.returnType = ret) (hlocks : meth.locks = false) {pc : Nat} {H : Heap} {ls : Array Slot} (hdg : decode code pc = .ok (.ireturn, 1)) : W p l e room_1 s m #[Value.ref b] below meth c H [] 600000 7302250 (lw_Z below #[Value.ref b] s) (F0 m pc ls [.int 1]) := by
  intro T hT X
  obtain ⟨fs, hret, hrun, hended, hW, hframe⟩ := X.leave (v := some (.int 1)) (hlocks := hlocks) (fun h => by rw [hr] at h; cases h)
  have hmeth' : T.vm.method? m = some meth := X.method'
  refine ⟨T.setFrames fs, ?_, .returned (some (.int 1)), hrun, hended, rfl, ⟨_, rfl⟩, hW, hframe⟩
  jvm_step X.here [X.here.top, hx, hb, hdg, hmeth', hr, ret, narrow_b1]
  (try refine ⟨rfl, ?_⟩); (try refine ⟨rfl, ?_⟩)
  first | (intro acts; rw [hret _ acts rfl rfl rfl]) | rw [hret _ _ rfl rfl rfl]
  exact Steps.refl _
/-- what holds at the law's entry: the machine, the code, the tables' words (any of lw_tbl by 'hts w (by decide +kernel)'), the script of L ints xs at the cell b, what the Statement gives of the start (any of its parts by flat_of_before) -/
def lw_At (p : Program) (s : State) (m : MethodId) (meth : Method) (c : Code) (b L : Nat) (xs : Nat → Int32) : Prop :=
  p.tables.exec = Jvm.exec ∧ c.code = code ∧ meth.sig.returnType = ret ∧ c.maxLocals = 4 ∧ s.vm.findClass R_law = some m.cls ∧ (∀ w ∈ lw_tbl, w.before #[Value.ref b] s = true) ∧ va_X b L xs s s.heap ∧ b < s.heap.size ∧ meth.locks = false ∧ (Jvm.Cond.and given_1 narrow_1).before #[Value.ref b] s = true
section VLW
variable {M N : MI} {l : Launch} {G : Gd} {d mc ms : Nat} {X : Cx} {ce sl pc : Nat} {ls : List (Nat × Value)} {st : List Value} {σ σ1 : St}
/-- the script in the law's walk: the old cell 11 -/
def ScrOk (G : Gd) (xs : Nat → Int32) (L : Nat) (X : Cx) : Prop := match X with
  | (_, _, _, s, _, _, _, _, _, _) => va_X (G.2.1 11) L xs s s.heap ∧ G.2.1 11 < s.heap.size ∧ ¬ ar G (G.2.1 11)
def scI (xs : Nat → Int32) (L : Nat) (i : Int32) : Option Int32 := if inB i L = true then some (xs i.toNatClampNeg) else none
theorem V_sld {xs : Nat → Int32} {L : Nat} {i v : Int32} (pc1 : Nat) (h : scI xs L i = some v) (hX : ScrOk G xs L X) (dg : decode M.2.1 pc = .ok (.iaload, 1)) (hp : pc + 1 = pc1) (kk : V M l G d mc ms X ce sl pc1 ls (.int v :: st) σ) : V M l G d mc ms X ce sl pc ls (.int i :: .ref (1000 + 11) :: st) σ := by
  subst hp
  obtain ⟨p, e, R, s, m, args, below, meth, c, Q⟩ := X
  intro hO h1 h2 H locs arr z hP hS hl
  unfold scI at h
  split at h
  · next hi =>
    cases h
    show W _ _ _ _ _ _ _ _ _ _ _ _ _ _ _ (F0 _ _ _ (.int i :: .ref (adr G (1000 + 11)) :: _))
    rw [adr_old]
    exact va_sld hO.1 hO.2.1 hX.1 hX.2.1 hX.2.2 hS (inB_in hi) dg (kk hO h1 h2 H locs arr z hP hS hl)
  · cases h
theorem V_slen {xs : Nat → Int32} {L : Nat} (pc1 : Nat) (hX : ScrOk G xs L X) (dg : decode M.2.1 pc = .ok (.arraylength, 1)) (hp : pc + 1 = pc1) (kk : V M l G d mc ms X ce sl pc1 ls (.int (nI L) :: st) σ) : V M l G d mc ms X ce sl pc ls (.ref (1000 + 11) :: st) σ := by
  subst hp
  obtain ⟨p, e, R, s, m, args, below, meth, c, Q⟩ := X
  intro hO h1 h2 H locs arr z hP hS hl
  show W _ _ _ _ _ _ _ _ _ _ _ _ _ _ _ (F0 _ _ _ (.ref (adr G (1000 + 11)) :: _))
  rw [adr_old]
  exact va_slen hO.1 hO.2.1 hX.1 hX.2.1 hX.2.2 hS dg (kk hO h1 h2 H locs arr z hP hS hl)
abbrev mi_L_law (nm : String) : MI := (⟨RL, nm, "([I)Z"⟩, code, 4, some .boolean)
def LawQ (G : Gd) (X : Cx) : Prop := match X with
  | (_, _, R, s, _, args, below, _, _, Q) => R = room_1 ∧ args = #[Value.ref (G.2.1 11)] ∧ Q = lw_Z below #[Value.ref (G.2.1 11)] s ∧ G.1 = s.heap.size
theorem V_lawret {nm : String} (hQ : LawQ G X) (dg : decode code pc = .ok (.ireturn, 1)) : V (mi_L_law nm) l G d 600000 7302250 X ce sl pc ls [.int 1] σ := by
  obtain ⟨p, e, R, s, m, args, below, meth, c, Q⟩ := X
  intro hO h1 h2 H locs arr z hP hS hl
  obtain ⟨q1, q2, q3, q4⟩ := hQ
  subst q1 q2 q3
  refine va_forget (fun q hq => ?_) ?_
  · have := hS.2.2 q hq
    have hg : G.1 ≤ q.base := this
    show s.heap.size ≤ q.base
    omega
  · exact W.widen h1 h2 (lw_ret hO.1 hO.2.1 hO.2.2.1 hO.2.2.2.2.2.2.1 dg)
end VLW
def f_L_law_L18 (xs : Nat → Int32) (L : Nat) (x2 : Nat) (x1 : Nat) : Nat → Int32 → St → Option (Int32 × St)
  | 0, _, _ => none
  | n + 1, x3, σ => if ((nI L) - 6) < x3 then (some (x3, σ)) else ((scI xs L x3).bind fun v11 => if (v11 &&& 63) = 0 then ((scI xs L (x3 + 1)).bind fun v14 => (scI xs L (x3 + 2)).bind fun v16 => (scI xs L (x3 + 3)).bind fun v18 => (f_X7_machine σ x1 v14 v16 v18).bind fun p20 => (scI xs L (x3 + 1)).bind fun v22 => (scI xs L (x3 + 2)).bind fun v24 => (scI xs L (x3 + 3)).bind fun v26 => (f_X8_machine p20.2 x2 v22 v24 v26).bind fun p28 => if p20.1 = p28.1 then (f_L_law_L18 xs L x2 x1 n (x3 + 6) p28.2) else (none)) else (if (v11 &&& 63) = 1 then ((scI xs L (x3 + 1)).bind fun v32 => (f_X7_draws σ x1 v32).bind fun p34 => (scI xs L (x3 + 1)).bind fun v36 => (f_X8_draws p34.2 x2 v36).bind fun p38 => if p34.1 = p38.1 then (f_L_law_L18 xs L x2 x1 n (x3 + 6) p38.2) else (none)) else (if (v11 &&& 63) = 2 then ((scI xs L (x3 + 1)).bind fun v42 => (scI xs L (x3 + 2)).bind fun v44 => (scI xs L (x3 + 3)).bind fun v46 => (f_X7_paper σ x1 v42 v44 v46).bind fun p48 => (scI xs L (x3 + 1)).bind fun v50 => (scI xs L (x3 + 2)).bind fun v52 => (scI xs L (x3 + 3)).bind fun v54 => (f_X8_paper_ p48.2 x2 v50 v52 v54).bind fun p56 => if p48.1 = p56.1 then (f_L_law_L18 xs L x2 x1 n (x3 + 6) p56.2) else (none)) else (if (v11 &&& 63) = 3 then ((scI xs L (x3 + 1)).bind fun v60 => (scI xs L (x3 + 2)).bind fun v62 => (f_X7_paperIs σ x1 v60 v62).bind fun p64 => (scI xs L (x3 + 1)).bind fun v66 => (scI xs L (x3 + 2)).bind fun v68 => (f_X8_paperIs p64.2 x2 v66 v68).bind fun p70 => if p64.1 = p70.1 then (f_L_law_L18 xs L x2 x1 n (x3 + 6) p70.2) else (none)) else (if (v11 &&& 63) = 4 then ((scI xs L (x3 + 1)).bind fun v74 => (scI xs L (x3 + 2)).bind fun v76 => (scI xs L (x3 + 3)).bind fun v78 => (scI xs L (x3 + 4)).bind fun v80 => (scI xs L (x3 + 5)).bind fun v82 => (f_X7_curve σ x1 v74 v76 v78 v80 v82).bind fun p84 => (scI xs L (x3 + 1)).bind fun v86 => (scI xs L (x3 + 2)).bind fun v88 => (scI xs L (x3 + 3)).bind fun v90 => (scI xs L (x3 + 4)).bind fun v92 => (scI xs L (x3 + 5)).bind fun v94 => (f_X8_curve_ p84.2 x2 v86 v88 v90 v92 v94).bind fun p96 => if p84.1 = p96.1 then (f_L_law_L18 xs L x2 x1 n (x3 + 6) p96.2) else (none)) else (if (v11 &&& 63) = 5 then ((scI xs L (x3 + 1)).bind fun v100 => (scI xs L (x3 + 2)).bind fun v102 => (f_X7_measure σ x1 v100 v102).bind fun p104 => (scI xs L (x3 + 1)).bind fun v106 => (scI xs L (x3 + 2)).bind fun v108 => (f_X8_measure p104.2 x2 v106 v108).bind fun p110 => if p104.1 = p110.1 then (f_L_law_L18 xs L x2 x1 n (x3 + 6) p110.2) else (none)) else (if (v11 &&& 63) = 6 then ((scI xs L (x3 + 1)).bind fun v114 => (scI xs L (x3 + 2)).bind fun v116 => (scI xs L (x3 + 3)).bind fun v118 => (scI xs L (x3 + 4)).bind fun v120 => (scI xs L (x3 + 5)).bind fun v122 => (f_X7_make σ x1 v114 v116 v118 v120 v122).bind fun p124 => (scI xs L (x3 + 1)).bind fun v126 => (scI xs L (x3 + 2)).bind fun v128 => (scI xs L (x3 + 3)).bind fun v130 => (scI xs L (x3 + 4)).bind fun v132 => (scI xs L (x3 + 5)).bind fun v134 => (f_X8_make p124.2 x2 v126 v128 v130 v132 v134).bind fun p136 => if p124.1 = p136.1 then (f_L_law_L18 xs L x2 x1 n (x3 + 6) p136.2) else (none)) else (if (v11 &&& 63) = 7 then ((scI xs L (x3 + 1)).bind fun v140 => (scI xs L (x3 + 2)).bind fun v142 => (f_X7_curveIs σ x1 v140 v142).bind fun p144 => (scI xs L (x3 + 1)).bind fun v146 => (scI xs L (x3 + 2)).bind fun v148 => (f_X8_curveIs p144.2 x2 v146 v148).bind fun p150 => if p144.1 = p150.1 then (f_L_law_L18 xs L x2 x1 n (x3 + 6) p150.2) else (none)) else (if (v11 &&& 63) = 8 then ((scI xs L (x3 + 1)).bind fun v154 => (scI xs L (x3 + 2)).bind fun v156 => (f_X7_as σ x1 v154 v156).bind fun p158 => (scI xs L (x3 + 1)).bind fun v160 => (scI xs L (x3 + 2)).bind fun v162 => (f_X8_as p158.2 x2 v160 v162).bind fun p164 => if p158.1 = p164.1 then (f_L_law_L18 xs L x2 x1 n (x3 + 6) p164.2) else (none)) else (if (v11 &&& 63) = 9 then ((scI xs L (x3 + 1)).bind fun v168 => (scI xs L (x3 + 2)).bind fun v170 => (f_X7_point σ x1 v168 v170).bind fun p172 => (scI xs L (x3 + 1)).bind fun v174 => (scI xs L (x3 + 2)).bind fun v176 => (f_X8_point p172.2 x2 v174 v176).bind fun p178 => if p172.1 = p178.1 then (f_L_law_L18 xs L x2 x1 n (x3 + 6) p178.2) else (none)) else (if (v11 &&& 63) = 10 then ((scI xs L (x3 + 1)).bind fun v182 => (scI xs L (x3 + 2)).bind fun v184 => (f_X7_hair σ x1 v182 v184).bind fun p186 => (scI xs L (x3 + 1)).bind fun v188 => (scI xs L (x3 + 2)).bind fun v190 => (f_X8_hair p186.2 x2 v188 v190).bind fun p192 => if p186.1 = p192.1 then (f_L_law_L18 xs L x2 x1 n (x3 + 6) p192.2) else (none)) else (if (v11 &&& 63) = 11 then ((scI xs L (x3 + 1)).bind fun v196 => (scI xs L (x3 + 2)).bind fun v198 => (scI xs L (x3 + 3)).bind fun v200 => (f_X7_feed σ x1 ((v196.toInt64 <<< ((32 : Int32).toInt64 &&& 63)) ||| (v198.toInt64 &&& 4294967295)) v200).bind fun p202 => (scI xs L (x3 + 1)).bind fun v204 => (scI xs L (x3 + 2)).bind fun v206 => (scI xs L (x3 + 3)).bind fun v208 => (f_X8_feed p202.2 x2 ((v204.toInt64 <<< ((32 : Int32).toInt64 &&& 63)) ||| (v206.toInt64 &&& 4294967295)) v208).bind fun p210 => if p202.1 = p210.1 then (f_L_law_L18 xs L x2 x1 n (x3 + 6) p210.2) else (none)) else (if (v11 &&& 63) = 12 then ((scI xs L (x3 + 1)).bind fun v214 => (f_X7_text σ x1 v214).bind fun p216 => (scI xs L (x3 + 1)).bind fun v218 => (f_X8_text_ p216.2 x2 v218).bind fun p220 => if p216.1 = p220.1 then (f_L_law_L18 xs L x2 x1 n (x3 + 6) p220.2) else (none)) else (if (v11 &&& 63) = 13 then ((scI xs L (x3 + 1)).bind fun v224 => (scI xs L (x3 + 2)).bind fun v226 => (scI xs L (x3 + 3)).bind fun v228 => (scI xs L (x3 + 4)).bind fun v230 => (f_X7_law σ x1 v224 v226 v228 v230).bind fun p232 => (scI xs L (x3 + 1)).bind fun v234 => (scI xs L (x3 + 2)).bind fun v236 => (scI xs L (x3 + 3)).bind fun v238 => (scI xs L (x3 + 4)).bind fun v240 => (f_X8_law p232.2 x2 v234 v236 v238 v240).bind fun p242 => if p232.1 = p242.1 then (f_L_law_L18 xs L x2 x1 n (x3 + 6) p242.2) else (none)) else (if (v11 &&& 63) = 14 then ((scI xs L (x3 + 1)).bind fun v246 => (scI xs L (x3 + 2)).bind fun v248 => (scI xs L (x3 + 3)).bind fun v250 => (f_X7_same σ x1 v246 v248 v250).bind fun p252 => (scI xs L (x3 + 1)).bind fun v254 => (scI xs L (x3 + 2)).bind fun v256 => (scI xs L (x3 + 3)).bind fun v258 => (f_X8_same p252.2 x2 v254 v256 v258).bind fun p260 => if p252.1 = p260.1 then (f_L_law_L18 xs L x2 x1 n (x3 + 6) p260.2) else (none)) else (if (v11 &&& 63) = 15 then ((scI xs L (x3 + 1)).bind fun v264 => (scI xs L (x3 + 2)).bind fun v266 => (scI xs L (x3 + 3)).bind fun v268 => (scI xs L (x3 + 4)).bind fun v270 => (f_X7_bent σ x1 v264 v266 v268 v270).bind fun p272 => (scI xs L (x3 + 1)).bind fun v274 => (scI xs L (x3 + 2)).bind fun v276 => (scI xs L (x3 + 3)).bind fun v278 => (scI xs L (x3 + 4)).bind fun v280 => (f_X8_bent p272.2 x2 v274 v276 v278 v280).bind fun p282 => if p272.1 = p282.1 then (f_L_law_L18 xs L x2 x1 n (x3 + 6) p282.2) else (none)) else (if (v11 &&& 63) = 16 then ((scI xs L (x3 + 1)).bind fun v286 => (f_X7_pairs σ x1 v286).bind fun p288 => (scI xs L (x3 + 1)).bind fun v290 => (f_X8_pairs p288.2 x2 v290).bind fun p292 => if p288.1 = p292.1 then (f_L_law_L18 xs L x2 x1 n (x3 + 6) p292.2) else (none)) else (if (v11 &&& 63) = 17 then ((scI xs L (x3 + 1)).bind fun v296 => (scI xs L (x3 + 2)).bind fun v298 => (scI xs L (x3 + 3)).bind fun v300 => (f_X7_prints σ x1 v296 v298 v300).bind fun p302 => (scI xs L (x3 + 1)).bind fun v304 => (scI xs L (x3 + 2)).bind fun v306 => (scI xs L (x3 + 3)).bind fun v308 => (f_X8_prints p302.2 x2 v304 v306 v308).bind fun p310 => if p302.1 = p310.1 then (f_L_law_L18 xs L x2 x1 n (x3 + 6) p310.2) else (none)) else (if (v11 &&& 63) = 18 then ((scI xs L (x3 + 1)).bind fun v314 => (scI xs L (x3 + 2)).bind fun v316 => (scI xs L (x3 + 3)).bind fun v318 => (f_X7_worked σ x1 v314 v316 v318).bind fun p320 => (scI xs L (x3 + 1)).bind fun v322 => (scI xs L (x3 + 2)).bind fun v324 => (scI xs L (x3 + 3)).bind fun v326 => (f_X8_worked p320.2 x2 v322 v324 v326).bind fun p328 => if p320.1 = p328.1 then (f_L_law_L18 xs L x2 x1 n (x3 + 6) p328.2) else (none)) else (if (v11 &&& 63) = 19 then ((scI xs L (x3 + 1)).bind fun v332 => (f_X7_sign σ x1 v332).bind fun p334 => (scI xs L (x3 + 1)).bind fun v336 => (f_X8_sign p334.2 x2 v336).bind fun p338 => if p334.1 = p338.1 then (f_L_law_L18 xs L x2 x1 n (x3 + 6) p338.2) else (none)) else (if (v11 &&& 63) = 20 then ((f_X7_unsigned σ x1).bind fun p342 => (f_X8_unsigned p342.2 x2).bind fun p344 => if p342.1 = p344.1 then (f_L_law_L18 xs L x2 x1 n (x3 + 6) p344.2) else (none)) else (if (v11 &&& 63) = 21 then ((scI xs L (x3 + 1)).bind fun v348 => (scI xs L (x3 + 2)).bind fun v350 => (scI xs L (x3 + 3)).bind fun v352 => (scI xs L (x3 + 4)).bind fun v354 => (f_X7_honest σ x1 v348 v350 v352 v354).bind fun p356 => (scI xs L (x3 + 1)).bind fun v358 => (scI xs L (x3 + 2)).bind fun v360 => (scI xs L (x3 + 3)).bind fun v362 => (scI xs L (x3 + 4)).bind fun v364 => (f_X8_honest p356.2 x2 v358 v360 v362 v364).bind fun p366 => if (lg_cmp p356.1 p366.1) = 0 then (f_L_law_L18 xs L x2 x1 n (x3 + 6) p366.2) else (none)) else (if (v11 &&& 63) = 22 then ((scI xs L (x3 + 1)).bind fun v370 => (scI xs L (x3 + 2)).bind fun v372 => (f_X7_could σ x1 v370 v372).bind fun p374 => (scI xs L (x3 + 1)).bind fun v376 => (scI xs L (x3 + 2)).bind fun v378 => (f_X8_could p374.2 x2 v376 v378).bind fun p380 => if p374.1 = p380.1 then (f_L_law_L18 xs L x2 x1 n (x3 + 6) p380.2) else (none)) else (if (v11 &&& 63) = 23 then ((scI xs L (x3 + 1)).bind fun v384 => (f_X7_sources σ x1 v384).bind fun p386 => (scI xs L (x3 + 1)).bind fun v388 => (f_X8_sources p386.2 x2 v388).bind fun p390 => if p386.1 = p390.1 then (f_L_law_L18 xs L x2 x1 n (x3 + 6) p390.2) else (none)) else (if (v11 &&& 63) = 24 then ((scI xs L (x3 + 1)).bind fun v394 => (f_X7_hands σ x1 v394).bind fun p396 => (scI xs L (x3 + 1)).bind fun v398 => (f_X8_hands p396.2 x2 v398).bind fun p400 => if p396.1 = p400.1 then (f_L_law_L18 xs L x2 x1 n (x3 + 6) p400.2) else (none)) else (if (v11 &&& 63) = 25 then ((scI xs L (x3 + 1)).bind fun v404 => (scI xs L (x3 + 2)).bind fun v406 => (f_X7_saw σ x1 v404 v406).bind fun p408 => (scI xs L (x3 + 1)).bind fun v410 => (scI xs L (x3 + 2)).bind fun v412 => (f_X8_saw p408.2 x2 v410 v412).bind fun p414 => if p408.1 = p414.1 then (f_L_law_L18 xs L x2 x1 n (x3 + 6) p414.2) else (none)) else (if (v11 &&& 63) = 26 then ((scI xs L (x3 + 1)).bind fun v418 => (scI xs L (x3 + 2)).bind fun v420 => (f_X7_rests σ x1 v418 v420).bind fun p422 => (scI xs L (x3 + 1)).bind fun v424 => (scI xs L (x3 + 2)).bind fun v426 => (f_X8_rests p422.2 x2 v424 v426).bind fun p428 => if p422.1 = p428.1 then (f_L_law_L18 xs L x2 x1 n (x3 + 6) p428.2) else (none)) else (if (v11 &&& 63) = 27 then ((scI xs L (x3 + 1)).bind fun v432 => (scI xs L (x3 + 2)).bind fun v434 => (f_X7_needs σ x1 v432 v434).bind fun p436 => (scI xs L (x3 + 1)).bind fun v438 => (scI xs L (x3 + 2)).bind fun v440 => (f_X8_needs p436.2 x2 v438 v440).bind fun p442 => if p436.1 = p442.1 then (f_L_law_L18 xs L x2 x1 n (x3 + 6) p442.2) else (none)) else (if (v11 &&& 63) = 28 then ((scI xs L (x3 + 1)).bind fun v446 => (f_X7_fall σ x1 v446).bind fun p448 => (scI xs L (x3 + 1)).bind fun v450 => (f_X8_fall p448.2 x2 v450).bind fun p452 => if p448.1 = p452.1 then (f_L_law_L18 xs L x2 x1 n (x3 + 6) p452.2) else (none)) else (if (v11 &&& 63) = 29 then ((scI xs L (x3 + 1)).bind fun v456 => (scI xs L (x3 + 2)).bind fun v458 => (scI xs L (x3 + 3)).bind fun v460 => (f_X7_link σ x1 v456 v458 v460).bind fun p462 => (scI xs L (x3 + 1)).bind fun v464 => (scI xs L (x3 + 2)).bind fun v466 => (scI xs L (x3 + 3)).bind fun v468 => (f_X8_link p462.2 x2 v464 v466 v468).bind fun p470 => if p462.1 = p470.1 then (f_L_law_L18 xs L x2 x1 n (x3 + 6) p470.2) else (none)) else (if (v11 &&& 63) = 30 then ((scI xs L (x3 + 1)).bind fun v474 => (scI xs L (x3 + 2)).bind fun v476 => (scI xs L (x3 + 3)).bind fun v478 => (scI xs L (x3 + 4)).bind fun v480 => (f_X7_tries σ x1 v474 v476 v478 (if v480 = 0 then 0 else 1 : Int32)).bind fun p482 => (scI xs L (x3 + 1)).bind fun v484 => (scI xs L (x3 + 2)).bind fun v486 => (scI xs L (x3 + 3)).bind fun v488 => (scI xs L (x3 + 4)).bind fun v490 => (f_X8_tries p482.2 x2 v484 v486 v488 (if v490 = 0 then 0 else 1 : Int32)).bind fun p492 => if p482.1 = p492.1 then (f_L_law_L18 xs L x2 x1 n (x3 + 6) p492.2) else (none)) else (if (v11 &&& 63) = 31 then ((scI xs L (x3 + 1)).bind fun v500 => (scI xs L (x3 + 2)).bind fun v502 => (scI xs L (x3 + 3)).bind fun v504 => (f_X7_knows σ x1 v500 v502 v504).bind fun p506 => (scI xs L (x3 + 1)).bind fun v508 => (scI xs L (x3 + 2)).bind fun v510 => (scI xs L (x3 + 3)).bind fun v512 => (f_X8_knows p506.2 x2 v508 v510 v512).bind fun p514 => if p506.1 = p514.1 then (f_L_law_L18 xs L x2 x1 n (x3 + 6) p514.2) else (none)) else (if (v11 &&& 63) = 32 then ((scI xs L (x3 + 1)).bind fun v518 => (scI xs L (x3 + 2)).bind fun v520 => (f_X7_rule σ x1 v518 v520).bind fun p522 => (scI xs L (x3 + 1)).bind fun v524 => (scI xs L (x3 + 2)).bind fun v526 => (f_X8_rule p522.2 x2 v524 v526).bind fun p528 => if p522.1 = p528.1 then (f_L_law_L18 xs L x2 x1 n (x3 + 6) p528.2) else (none)) else (if (v11 &&& 63) = 33 then ((scI xs L (x3 + 1)).bind fun v532 => (scI xs L (x3 + 2)).bind fun v534 => (scI xs L (x3 + 3)).bind fun v536 => (f_X7_rules σ x1 v532 v534 v536).bind fun p538 => (scI xs L (x3 + 1)).bind fun v540 => (scI xs L (x3 + 2)).bind fun v542 => (scI xs L (x3 + 3)).bind fun v544 => (f_X8_rules p538.2 x2 v540 v542 v544).bind fun p546 => if p538.1 = p546.1 then (f_L_law_L18 xs L x2 x1 n (x3 + 6) p546.2) else (none)) else (if (v11 &&& 63) = 34 then ((scI xs L (x3 + 1)).bind fun v550 => (scI xs L (x3 + 2)).bind fun v552 => (scI xs L (x3 + 3)).bind fun v554 => (f_X7_voice σ x1 v550 v552 v554).bind fun p556 => (scI xs L (x3 + 1)).bind fun v558 => (scI xs L (x3 + 2)).bind fun v560 => (scI xs L (x3 + 3)).bind fun v562 => (f_X8_voice p556.2 x2 v558 v560 v562).bind fun p564 => if p556.1 = p564.1 then (f_L_law_L18 xs L x2 x1 n (x3 + 6) p564.2) else (none)) else (if (v11 &&& 63) = 35 then ((scI xs L (x3 + 1)).bind fun v568 => (f_X7_trace σ x1 v568).bind fun p570 => (scI xs L (x3 + 1)).bind fun v572 => (f_X8_trace p570.2 x2 v572).bind fun p574 => if p570.1 = p574.1 then (f_L_law_L18 xs L x2 x1 n (x3 + 6) p574.2) else (none)) else (if (v11 &&& 63) = 36 then ((scI xs L (x3 + 1)).bind fun v578 => (scI xs L (x3 + 2)).bind fun v580 => (scI xs L (x3 + 3)).bind fun v582 => (f_X7_sheet σ x1 v578 v580 v582).bind fun p584 => (scI xs L (x3 + 1)).bind fun v586 => (scI xs L (x3 + 2)).bind fun v588 => (scI xs L (x3 + 3)).bind fun v590 => (f_X8_sheet p584.2 x2 v586 v588 v590).bind fun p592 => if p584.1 = p592.1 then (f_L_law_L18 xs L x2 x1 n (x3 + 6) p592.2) else (none)) else (if (v11 &&& 63) = 37 then ((scI xs L (x3 + 1)).bind fun v596 => (scI xs L (x3 + 2)).bind fun v598 => (scI xs L (x3 + 3)).bind fun v600 => (f_X7_put σ x1 v596 v598 v600).bind fun p602 => (scI xs L (x3 + 1)).bind fun v604 => (scI xs L (x3 + 2)).bind fun v606 => (scI xs L (x3 + 3)).bind fun v608 => (f_X8_put p602.2 x2 v604 v606 v608).bind fun p610 => if p602.1 = p610.1 then (f_L_law_L18 xs L x2 x1 n (x3 + 6) p610.2) else (none)) else (if (v11 &&& 63) = 38 then ((scI xs L (x3 + 1)).bind fun v614 => (scI xs L (x3 + 2)).bind fun v616 => (scI xs L (x3 + 3)).bind fun v618 => (scI xs L (x3 + 4)).bind fun v620 => (scI xs L (x3 + 5)).bind fun v622 => (f_X7_move σ x1 v614 v616 v618 v620 v622).bind fun p624 => (scI xs L (x3 + 1)).bind fun v626 => (scI xs L (x3 + 2)).bind fun v628 => (scI xs L (x3 + 3)).bind fun v630 => (scI xs L (x3 + 4)).bind fun v632 => (scI xs L (x3 + 5)).bind fun v634 => (f_X8_move p624.2 x2 v626 v628 v630 v632 v634).bind fun p636 => if p624.1 = p636.1 then (f_L_law_L18 xs L x2 x1 n (x3 + 6) p636.2) else (none)) else (if (v11 &&& 63) = 39 then ((f_X7_image σ x1).bind fun p640 => (f_X8_image p640.2 x2).bind fun p642 => if p640.1 = p642.1 then (f_L_law_L18 xs L x2 x1 n (x3 + 6) p642.2) else (none)) else (if (v11 &&& 63) = 40 then ((f_X7_restore σ x1).bind fun p646 => (f_X8_restore p646.2 x2).bind fun p648 => if p646.1 = p648.1 then (f_L_law_L18 xs L x2 x1 n (x3 + 6) p648.2) else (none)) else (if (v11 &&& 63) = 41 then ((scI xs L (x3 + 1)).bind fun v652 => (f_X7_tell σ x1 v652).bind fun p654 => (scI xs L (x3 + 1)).bind fun v656 => (f_X8_tell p654.2 x2 v656).bind fun p658 => if p654.1 = p658.1 then (f_L_law_L18 xs L x2 x1 n (x3 + 6) p658.2) else (none)) else (if (v11 &&& 63) = 42 then ((scI xs L (x3 + 1)).bind fun v662 => (f_X7_check σ x1 v662).bind fun p664 => (scI xs L (x3 + 1)).bind fun v666 => (f_X8_check p664.2 x2 v666).bind fun p668 => if p664.1 = p668.1 then (f_L_law_L18 xs L x2 x1 n (x3 + 6) p668.2) else (none)) else (if (v11 &&& 63) = 43 then ((scI xs L (x3 + 1)).bind fun v672 => (f_X7_count σ x1 v672).bind fun p674 => (scI xs L (x3 + 1)).bind fun v676 => (f_X8_count p674.2 x2 v676).bind fun p678 => if p674.1 = p678.1 then (f_L_law_L18 xs L x2 x1 n (x3 + 6) p678.2) else (none)) else (if (v11 &&& 63) = 44 then ((scI xs L (x3 + 1)).bind fun v682 => (f_X7_told σ x1 v682).bind fun p684 => (scI xs L (x3 + 1)).bind fun v686 => (f_X8_told p684.2 x2 v686).bind fun p688 => if p684.1 = p688.1 then (f_L_law_L18 xs L x2 x1 n (x3 + 6) p688.2) else (none)) else (f_L_law_L18 xs L x2 x1 n (x3 + 6) σ))))))))))))))))))))))))))))))))))))))))))))))
def f_L_law (xs : Nat → Int32) (L : Nat) (σ : St) : Option Int32 := (nwO σ 6).bind fun s2 => (f_X7_init s2 σ.2.2).bind fun s4 => (nwO s4 7).bind fun s6 => (f_X8_init s6 s4.2.2).bind fun s8 => (f_L_law_L18 xs L s4.2.2 σ.2.2 70 0 s8).bind fun p690 => some 1
set_option maxRecDepth 100000 in
set_option maxHeartbeats 40000000 in
theorem c_L_law (nm : String) (l : Launch) (G : Gd) (d : Nat) (xs : Nat → Int32) (L : Nat) (X : Cx) (hX : ScrOk G xs L X) (hQ : LawQ G X) (σ : St) (hf : f_L_law xs L σ = some 1) : V (mi_L_law nm) l G (d + 362) 600000 7302250 X 0 0 0 [(0, .ref (1000 + 11))] [] σ := by
  unfold f_L_law at hf
  have L18 : ∀ (x2 : Nat) (x1 : Nat) (n ce sl : Nat) (x3 : Int32) (σ : St) (p : Int32 × St), f_L_law_L18 xs L x2 x1 n x3 σ = some p → ce + 35 * n ≤ 600000 → sl + 10240 * n ≤ 7302250 → V (mi_L_law nm) l G (d + 362) 600000 7302250 X (ce + 35 * n) (sl + 10240 * n) 1866 [(3, .int p.1), (2, .ref x2), (1, .ref x1), (0, .ref (1000 + 11))] [] p.2 → V (mi_L_law nm) l G (d + 362) 600000 7302250 X ce sl 18 [(3, .int x3), (2, .ref x2), (1, .ref x1), (0, .ref (1000 + 11))] [] σ := by
    intro x2 x1 n
    induction n with
    | zero =>
      intro ce sl x3 σ p hf
      exact absurd (show (none : Option _) = some p from hf) (by simp)
    | succ n ih =>
      intro ce sl x3 σ p hf hce hsl hk
      rw [f_L_law_L18] at hf
      refine V_iload_n 0 19 rfl dL_law_18 rfl rfl ?_
      refine V_aload_n 3 20 rfl dL_law_19 rfl rfl ?_
      refine V_slen 21 hX dL_law_20 rfl ?_
      refine V_bipush 6 23 dL_law_21 rfl kbipush_6 ?_
      refine V_isub 24 dL_law_23 rfl ?_
      refine V_icmp_gt 1866 27 dL_law_24 (by decide) rfl (fun c9 => ?_) (fun c9 => ?_)
      · rw [if_pos c9] at hf
        have ep := Option.some.inj hf
        subst ep
        refine V_ls [(3, .int x3), (2, .ref x2), (1, .ref x1), (0, .ref (1000 + 11))] [0, 1, 2, 3] rfl ?_
        refine V_cnt (ce1 := ce + 35 * (n + 1)) (sl1 := sl + 10240 * (n + 1)) (by omega) (by omega) ?_
        exact hk
      · rw [if_neg c9] at hf
        refine V_aload_n 3 28 rfl dL_law_27 rfl rfl ?_
        refine V_iload_n 0 29 rfl dL_law_28 rfl rfl ?_
        obtain ⟨v11, h10, hf⟩ := ob hf
        refine V_sld 30 h10 hX dL_law_29 rfl ?_
        refine V_bipush 63 32 dL_law_30 rfl kbipush_63 ?_
        refine V_iand 33 dL_law_32 rfl ?_
        by_cases c12 : (v11 &&& 63) = 0
        · rw [if_pos c12] at hf
          refine V_tsw 0 195 228 dL_law_33 c12 (by decide) (by decide) (by decide) (by decide) ?_
          refine V_aload_n 2 229 rfl dL_law_228 rfl rfl ?_
          refine V_aload_n 3 230 rfl dL_law_229 rfl rfl ?_
          refine V_iload_n 0 231 rfl dL_law_230 rfl rfl ?_
          refine V_iconst 1 232 dL_law_231 rfl kiconst_1 ?_
          refine V_iadd 233 dL_law_232 rfl ?_
          obtain ⟨v14, h13, hf⟩ := ob hf
          refine V_sld 234 h13 hX dL_law_233 rfl ?_
          refine V_aload_n 3 235 rfl dL_law_234 rfl rfl ?_
          refine V_iload_n 0 236 rfl dL_law_235 rfl rfl ?_
          refine V_iconst 2 237 dL_law_236 rfl kiconst_2 ?_
          refine V_iadd 238 dL_law_237 rfl ?_
          obtain ⟨v16, h15, hf⟩ := ob hf
          refine V_sld 239 h15 hX dL_law_238 rfl ?_
          refine V_aload_n 3 240 rfl dL_law_239 rfl rfl ?_
          refine V_iload_n 0 241 rfl dL_law_240 rfl rfl ?_
          refine V_iconst 3 242 dL_law_241 rfl kiconst_3 ?_
          refine V_iadd 243 dL_law_242 rfl ?_
          obtain ⟨v18, h17, hf⟩ := ob hf
          refine V_sld 244 h17 hX dL_law_243 rfl ?_
          obtain ⟨p20, h19, hf⟩ := ob hf
          refine V_callV (rest := []) (T := TX7) (n := 10) (ci := 6) ce sl 247 [.int p20.1] (c_X7_machine l G (d + 358) _ _ _ _ _ _ _ h19) (by omega) ok_X7_machine okv_X7_machine (gd_X7_machine h19) rfl wd_ml_TwiceNoiseLaw_13 rfl rfl (Nat.le_of_ble_eq_true rfl) rfl rfl (Or.inl ⟨rfl, rfl⟩) dL_law_244 rfl rfl ?_
          refine V_aload_n 1 248 rfl dL_law_247 rfl rfl ?_
          refine V_aload_n 3 249 rfl dL_law_248 rfl rfl ?_
          refine V_iload_n 0 250 rfl dL_law_249 rfl rfl ?_
          refine V_iconst 1 251 dL_law_250 rfl kiconst_1 ?_
          refine V_iadd 252 dL_law_251 rfl ?_
          obtain ⟨v22, h21, hf⟩ := ob hf
          refine V_sld 253 h21 hX dL_law_252 rfl ?_
          refine V_aload_n 3 254 rfl dL_law_253 rfl rfl ?_
          refine V_iload_n 0 255 rfl dL_law_254 rfl rfl ?_
          refine V_iconst 2 256 dL_law_255 rfl kiconst_2 ?_
          refine V_iadd 257 dL_law_256 rfl ?_
          obtain ⟨v24, h23, hf⟩ := ob hf
          refine V_sld 258 h23 hX dL_law_257 rfl ?_
          refine V_aload_n 3 259 rfl dL_law_258 rfl rfl ?_
          refine V_iload_n 0 260 rfl dL_law_259 rfl rfl ?_
          refine V_iconst 3 261 dL_law_260 rfl kiconst_3 ?_
          refine V_iadd 262 dL_law_261 rfl ?_
          obtain ⟨v26, h25, hf⟩ := ob hf
          refine V_sld 263 h25 hX dL_law_262 rfl ?_
          obtain ⟨p28, h27, hf⟩ := ob hf
          refine V_callV (rest := [.int p20.1]) (T := TX8) (n := 27) (ci := 7) ce sl 266 [.int p28.1, .int p20.1] (c_X8_machine l G (d + 359) _ _ _ _ _ _ _ h27) (by omega) ok_X8_machine okv_X8_machine (gd_X8_machine h27) rfl wd_ml_TwiceNoiseLaw_17 rfl rfl (Nat.le_of_ble_eq_true rfl) rfl rfl (Or.inl ⟨rfl, rfl⟩) dL_law_263 rfl rfl ?_
          refine V_icmp_eq 1860 269 dL_law_266 (by decide) rfl (fun c29 => ?_) (fun c29 => ?_)
          · rw [if_pos c29] at hf
            refine V_iinc (x3 + 6) 0 [(3, .int (x3 + 6)), (2, .ref x2), (1, .ref x1), (0, .ref (1000 + 11))] 1863 dL_law_1860 rfl (by rw [kiconst_6]) (Nat.le_of_ble_eq_true rfl) rfl rfl ?_
            refine V_goto 18 dL_law_1863 (by decide) ?_
            refine V_ls [(3, .int (x3 + 6)), (2, .ref x2), (1, .ref x1), (0, .ref (1000 + 11))] [0, 1, 2, 3] rfl ?_
            refine V_cnt (ce1 := ce + 35) (sl1 := sl + 10240) (by omega) (by omega) ?_
            exact ih (ce + 35) (sl + 10240) (x3 + 6) p28.2 p hf (by omega) (by omega) (by rw [show ce + 35 + 35 * n = ce + 35 * (n + 1) from by omega, show sl + 10240 + 10240 * n = sl + 10240 * (n + 1) from by omega]; exact hk)
          · rw [if_neg c29] at hf
            refine V_iconst 0 270 dL_law_269 rfl kiconst_0 ?_
            cases hf
        rw [if_neg c12] at hf
        by_cases c30 : (v11 &&& 63) = 1
        · rw [if_pos c30] at hf
          refine V_tsw 1 238 271 dL_law_33 c30 (by decide) (by decide) (by decide) (by decide) ?_
          refine V_aload_n 2 272 rfl dL_law_271 rfl rfl ?_
          refine V_aload_n 3 273 rfl dL_law_272 rfl rfl ?_
          refine V_iload_n 0 274 rfl dL_law_273 rfl rfl ?_
          refine V_iconst 1 275 dL_law_274 rfl kiconst_1 ?_
          refine V_iadd 276 dL_law_275 rfl ?_
          obtain ⟨v32, h31, hf⟩ := ob hf
          refine V_sld 277 h31 hX dL_law_276 rfl ?_
          obtain ⟨p34, h33, hf⟩ := ob hf
          refine V_callV (rest := []) (T := TX7) (n := 10) (ci := 6) ce sl 280 [.int p34.1] (c_X7_draws l G (d + 360) _ _ _ _ _ h33) (by omega) ok_X7_draws okv_X7_draws (gd_X7_draws h33) rfl wd_ml_TwiceNoiseLaw_18 rfl rfl (Nat.le_of_ble_eq_true rfl) rfl rfl (Or.inl ⟨rfl, rfl⟩) dL_law_277 rfl rfl ?_
          refine V_aload_n 1 281 rfl dL_law_280 rfl rfl ?_
          refine V_aload_n 3 282 rfl dL_law_281 rfl rfl ?_
          refine V_iload_n 0 283 rfl dL_law_282 rfl rfl ?_
          refine V_iconst 1 284 dL_law_283 rfl kiconst_1 ?_
          refine V_iadd 285 dL_law_284 rfl ?_
          obtain ⟨v36, h35, hf⟩ := ob hf
          refine V_sld 286 h35 hX dL_law_285 rfl ?_
          obtain ⟨p38, h37, hf⟩ := ob hf
          refine V_callV (rest := [.int p34.1]) (T := TX8) (n := 27) (ci := 7) ce sl 289 [.int p38.1, .int p34.1] (c_X8_draws l G (d + 359) _ _ _ _ _ h37) (by omega) ok_X8_draws okv_X8_draws (gd_X8_draws h37) rfl wd_ml_TwiceNoiseLaw_22 rfl rfl (Nat.le_of_ble_eq_true rfl) rfl rfl (Or.inl ⟨rfl, rfl⟩) dL_law_286 rfl rfl ?_
          refine V_icmp_eq 1860 292 dL_law_289 (by decide) rfl (fun c39 => ?_) (fun c39 => ?_)
          · rw [if_pos c39] at hf
            refine V_iinc (x3 + 6) 0 [(3, .int (x3 + 6)), (2, .ref x2), (1, .ref x1), (0, .ref (1000 + 11))] 1863 dL_law_1860 rfl (by rw [kiconst_6]) (Nat.le_of_ble_eq_true rfl) rfl rfl ?_
            refine V_goto 18 dL_law_1863 (by decide) ?_
            refine V_ls [(3, .int (x3 + 6)), (2, .ref x2), (1, .ref x1), (0, .ref (1000 + 11))] [0, 1, 2, 3] rfl ?_
            refine V_cnt (ce1 := ce + 35) (sl1 := sl + 10240) (by omega) (by omega) ?_
            exact ih (ce + 35) (sl + 10240) (x3 + 6) p38.2 p hf (by omega) (by omega) (by rw [show ce + 35 + 35 * n = ce + 35 * (n + 1) from by omega, show sl + 10240 + 10240 * n = sl + 10240 * (n + 1) from by omega]; exact hk)
          · rw [if_neg c39] at hf
            refine V_iconst 0 293 dL_law_292 rfl kiconst_0 ?_
            cases hf
        rw [if_neg c30] at hf
        by_cases c40 : (v11 &&& 63) = 2
        · rw [if_pos c40] at hf
          refine V_tsw 2 261 294 dL_law_33 c40 (by decide) (by decide) (by decide) (by decide) ?_
          refine V_aload_n 2 295 rfl dL_law_294 rfl rfl ?_
          refine V_aload_n 3 296 rfl dL_law_295 rfl rfl ?_
          refine V_iload_n 0 297 rfl dL_law_296 rfl rfl ?_
          refine V_iconst 1 298 dL_law_297 rfl kiconst_1 ?_
          refine V_iadd 299 dL_law_298 rfl ?_
          obtain ⟨v42, h41, hf⟩ := ob hf
          refine V_sld 300 h41 hX dL_law_299 rfl ?_
          refine V_aload_n 3 301 rfl dL_law_300 rfl rfl ?_
          refine V_iload_n 0 302 rfl dL_law_301 rfl rfl ?_
          refine V_iconst 2 303 dL_law_302 rfl kiconst_2 ?_
          refine V_iadd 304 dL_law_303 rfl ?_
          obtain ⟨v44, h43, hf⟩ := ob hf
          refine V_sld 305 h43 hX dL_law_304 rfl ?_
          refine V_aload_n 3 306 rfl dL_law_305 rfl rfl ?_
          refine V_iload_n 0 307 rfl dL_law_306 rfl rfl ?_
          refine V_iconst 3 308 dL_law_307 rfl kiconst_3 ?_
          refine V_iadd 309 dL_law_308 rfl ?_
          obtain ⟨v46, h45, hf⟩ := ob hf
          refine V_sld 310 h45 hX dL_law_309 rfl ?_
          obtain ⟨p48, h47, hf⟩ := ob hf
          refine V_callV (rest := []) (T := TX7) (n := 10) (ci := 6) ce sl 313 [.int p48.1] (c_X7_paper l G (d + 358) _ _ _ _ _ _ _ h47) (by omega) ok_X7_paper okv_X7_paper (gd_X7_paper h47) rfl wd_ml_TwiceNoiseLaw_23 rfl rfl (Nat.le_of_ble_eq_true rfl) rfl rfl (Or.inl ⟨rfl, rfl⟩) dL_law_310 rfl rfl ?_
          refine V_aload_n 1 314 rfl dL_law_313 rfl rfl ?_
          refine V_aload_n 3 315 rfl dL_law_314 rfl rfl ?_
          refine V_iload_n 0 316 rfl dL_law_315 rfl rfl ?_
          refine V_iconst 1 317 dL_law_316 rfl kiconst_1 ?_
          refine V_iadd 318 dL_law_317 rfl ?_
          obtain ⟨v50, h49, hf⟩ := ob hf
          refine V_sld 319 h49 hX dL_law_318 rfl ?_
          refine V_aload_n 3 320 rfl dL_law_319 rfl rfl ?_
          refine V_iload_n 0 321 rfl dL_law_320 rfl rfl ?_
          refine V_iconst 2 322 dL_law_321 rfl kiconst_2 ?_
          refine V_iadd 323 dL_law_322 rfl ?_
          obtain ⟨v52, h51, hf⟩ := ob hf
          refine V_sld 324 h51 hX dL_law_323 rfl ?_
          refine V_aload_n 3 325 rfl dL_law_324 rfl rfl ?_
          refine V_iload_n 0 326 rfl dL_law_325 rfl rfl ?_
          refine V_iconst 3 327 dL_law_326 rfl kiconst_3 ?_
          refine V_iadd 328 dL_law_327 rfl ?_
          obtain ⟨v54, h53, hf⟩ := ob hf
          refine V_sld 329 h53 hX dL_law_328 rfl ?_
          obtain ⟨p56, h55, hf⟩ := ob hf
          refine V_callV (rest := [.int p48.1]) (T := TX8) (n := 27) (ci := 7) ce sl 332 [.int p56.1, .int p48.1] (c_X8_paper_ l G (d + 359) _ _ _ _ _ _ _ h55) (by omega) ok_X8_paper_ okv_X8_paper_ (gd_X8_paper_ h55) rfl wd_ml_TwiceNoiseLaw_26 rfl rfl (Nat.le_of_ble_eq_true rfl) rfl rfl (Or.inl ⟨rfl, rfl⟩) dL_law_329 rfl rfl ?_
          refine V_icmp_eq 1860 335 dL_law_332 (by decide) rfl (fun c57 => ?_) (fun c57 => ?_)
          · rw [if_pos c57] at hf
            refine V_iinc (x3 + 6) 0 [(3, .int (x3 + 6)), (2, .ref x2), (1, .ref x1), (0, .ref (1000 + 11))] 1863 dL_law_1860 rfl (by rw [kiconst_6]) (Nat.le_of_ble_eq_true rfl) rfl rfl ?_
            refine V_goto 18 dL_law_1863 (by decide) ?_
            refine V_ls [(3, .int (x3 + 6)), (2, .ref x2), (1, .ref x1), (0, .ref (1000 + 11))] [0, 1, 2, 3] rfl ?_
            refine V_cnt (ce1 := ce + 35) (sl1 := sl + 10240) (by omega) (by omega) ?_
            exact ih (ce + 35) (sl + 10240) (x3 + 6) p56.2 p hf (by omega) (by omega) (by rw [show ce + 35 + 35 * n = ce + 35 * (n + 1) from by omega, show sl + 10240 + 10240 * n = sl + 10240 * (n + 1) from by omega]; exact hk)
          · rw [if_neg c57] at hf
            refine V_iconst 0 336 dL_law_335 rfl kiconst_0 ?_
            cases hf
        rw [if_neg c40] at hf
        by_cases c58 : (v11 &&& 63) = 3
        · rw [if_pos c58] at hf
          refine V_tsw 3 304 337 dL_law_33 c58 (by decide) (by decide) (by decide) (by decide) ?_
          refine V_aload_n 2 338 rfl dL_law_337 rfl rfl ?_
          refine V_aload_n 3 339 rfl dL_law_338 rfl rfl ?_
          refine V_iload_n 0 340 rfl dL_law_339 rfl rfl ?_
          refine V_iconst 1 341 dL_law_340 rfl kiconst_1 ?_
          refine V_iadd 342 dL_law_341 rfl ?_
          obtain ⟨v60, h59, hf⟩ := ob hf
          refine V_sld 343 h59 hX dL_law_342 rfl ?_
          refine V_aload_n 3 344 rfl dL_law_343 rfl rfl ?_
          refine V_iload_n 0 345 rfl dL_law_344 rfl rfl ?_
          refine V_iconst 2 346 dL_law_345 rfl kiconst_2 ?_
          refine V_iadd 347 dL_law_346 rfl ?_
          obtain ⟨v62, h61, hf⟩ := ob hf
          refine V_sld 348 h61 hX dL_law_347 rfl ?_
          obtain ⟨p64, h63, hf⟩ := ob hf
          refine V_callV (rest := []) (T := TX7) (n := 10) (ci := 6) ce sl 351 [.int p64.1] (c_X7_paperIs l G (d + 358) _ _ _ _ _ _ h63) (by omega) ok_X7_paperIs okv_X7_paperIs (gd_X7_paperIs h63) rfl wd_ml_TwiceNoiseLaw_27 rfl rfl (Nat.le_of_ble_eq_true rfl) rfl rfl (Or.inl ⟨rfl, rfl⟩) dL_law_348 rfl rfl ?_
          refine V_aload_n 1 352 rfl dL_law_351 rfl rfl ?_
          refine V_aload_n 3 353 rfl dL_law_352 rfl rfl ?_
          refine V_iload_n 0 354 rfl dL_law_353 rfl rfl ?_
          refine V_iconst 1 355 dL_law_354 rfl kiconst_1 ?_
          refine V_iadd 356 dL_law_355 rfl ?_
          obtain ⟨v66, h65, hf⟩ := ob hf
          refine V_sld 357 h65 hX dL_law_356 rfl ?_
          refine V_aload_n 3 358 rfl dL_law_357 rfl rfl ?_
          refine V_iload_n 0 359 rfl dL_law_358 rfl rfl ?_
          refine V_iconst 2 360 dL_law_359 rfl kiconst_2 ?_
          refine V_iadd 361 dL_law_360 rfl ?_
          obtain ⟨v68, h67, hf⟩ := ob hf
          refine V_sld 362 h67 hX dL_law_361 rfl ?_
          obtain ⟨p70, h69, hf⟩ := ob hf
          refine V_callV (rest := [.int p64.1]) (T := TX8) (n := 27) (ci := 7) ce sl 365 [.int p70.1, .int p64.1] (c_X8_paperIs l G (d + 358) _ _ _ _ _ _ h69) (by omega) ok_X8_paperIs okv_X8_paperIs (gd_X8_paperIs h69) rfl wd_ml_TwiceNoiseLaw_31 rfl rfl (Nat.le_of_ble_eq_true rfl) rfl rfl (Or.inl ⟨rfl, rfl⟩) dL_law_362 rfl rfl ?_
          refine V_icmp_eq 1860 368 dL_law_365 (by decide) rfl (fun c71 => ?_) (fun c71 => ?_)
          · rw [if_pos c71] at hf
            refine V_iinc (x3 + 6) 0 [(3, .int (x3 + 6)), (2, .ref x2), (1, .ref x1), (0, .ref (1000 + 11))] 1863 dL_law_1860 rfl (by rw [kiconst_6]) (Nat.le_of_ble_eq_true rfl) rfl rfl ?_
            refine V_goto 18 dL_law_1863 (by decide) ?_
            refine V_ls [(3, .int (x3 + 6)), (2, .ref x2), (1, .ref x1), (0, .ref (1000 + 11))] [0, 1, 2, 3] rfl ?_
            refine V_cnt (ce1 := ce + 35) (sl1 := sl + 10240) (by omega) (by omega) ?_
            exact ih (ce + 35) (sl + 10240) (x3 + 6) p70.2 p hf (by omega) (by omega) (by rw [show ce + 35 + 35 * n = ce + 35 * (n + 1) from by omega, show sl + 10240 + 10240 * n = sl + 10240 * (n + 1) from by omega]; exact hk)
          · rw [if_neg c71] at hf
            refine V_iconst 0 369 dL_law_368 rfl kiconst_0 ?_
            cases hf
        rw [if_neg c58] at hf
        by_cases c72 : (v11 &&& 63) = 4
        · rw [if_pos c72] at hf
          refine V_tsw 4 337 370 dL_law_33 c72 (by decide) (by decide) (by decide) (by decide) ?_
          refine V_aload_n 2 371 rfl dL_law_370 rfl rfl ?_
          refine V_aload_n 3 372 rfl dL_law_371 rfl rfl ?_
          refine V_iload_n 0 373 rfl dL_law_372 rfl rfl ?_
          refine V_iconst 1 374 dL_law_373 rfl kiconst_1 ?_
          refine V_iadd 375 dL_law_374 rfl ?_
          obtain ⟨v74, h73, hf⟩ := ob hf
          refine V_sld 376 h73 hX dL_law_375 rfl ?_
          refine V_aload_n 3 377 rfl dL_law_376 rfl rfl ?_
          refine V_iload_n 0 378 rfl dL_law_377 rfl rfl ?_
          refine V_iconst 2 379 dL_law_378 rfl kiconst_2 ?_
          refine V_iadd 380 dL_law_379 rfl ?_
          obtain ⟨v76, h75, hf⟩ := ob hf
          refine V_sld 381 h75 hX dL_law_380 rfl ?_
          refine V_aload_n 3 382 rfl dL_law_381 rfl rfl ?_
          refine V_iload_n 0 383 rfl dL_law_382 rfl rfl ?_
          refine V_iconst 3 384 dL_law_383 rfl kiconst_3 ?_
          refine V_iadd 385 dL_law_384 rfl ?_
          obtain ⟨v78, h77, hf⟩ := ob hf
          refine V_sld 386 h77 hX dL_law_385 rfl ?_
          refine V_aload_n 3 387 rfl dL_law_386 rfl rfl ?_
          refine V_iload_n 0 388 rfl dL_law_387 rfl rfl ?_
          refine V_iconst 4 389 dL_law_388 rfl kiconst_4 ?_
          refine V_iadd 390 dL_law_389 rfl ?_
          obtain ⟨v80, h79, hf⟩ := ob hf
          refine V_sld 391 h79 hX dL_law_390 rfl ?_
          refine V_aload_n 3 392 rfl dL_law_391 rfl rfl ?_
          refine V_iload_n 0 393 rfl dL_law_392 rfl rfl ?_
          refine V_iconst 5 394 dL_law_393 rfl kiconst_5 ?_
          refine V_iadd 395 dL_law_394 rfl ?_
          obtain ⟨v82, h81, hf⟩ := ob hf
          refine V_sld 396 h81 hX dL_law_395 rfl ?_
          obtain ⟨p84, h83, hf⟩ := ob hf
          refine V_callV (rest := []) (T := TX7) (n := 10) (ci := 6) ce sl 399 [.int p84.1] (c_X7_curve l G (d + 357) _ _ _ _ _ _ _ _ _ h83) (by omega) ok_X7_curve okv_X7_curve (gd_X7_curve h83) rfl wd_ml_TwiceNoiseLaw_32 rfl rfl (Nat.le_of_ble_eq_true rfl) rfl rfl (Or.inl ⟨rfl, rfl⟩) dL_law_396 rfl rfl ?_
          refine V_aload_n 1 400 rfl dL_law_399 rfl rfl ?_
          refine V_aload_n 3 401 rfl dL_law_400 rfl rfl ?_
          refine V_iload_n 0 402 rfl dL_law_401 rfl rfl ?_
          refine V_iconst 1 403 dL_law_402 rfl kiconst_1 ?_
          refine V_iadd 404 dL_law_403 rfl ?_
          obtain ⟨v86, h85, hf⟩ := ob hf
          refine V_sld 405 h85 hX dL_law_404 rfl ?_
          refine V_aload_n 3 406 rfl dL_law_405 rfl rfl ?_
          refine V_iload_n 0 407 rfl dL_law_406 rfl rfl ?_
          refine V_iconst 2 408 dL_law_407 rfl kiconst_2 ?_
          refine V_iadd 409 dL_law_408 rfl ?_
          obtain ⟨v88, h87, hf⟩ := ob hf
          refine V_sld 410 h87 hX dL_law_409 rfl ?_
          refine V_aload_n 3 411 rfl dL_law_410 rfl rfl ?_
          refine V_iload_n 0 412 rfl dL_law_411 rfl rfl ?_
          refine V_iconst 3 413 dL_law_412 rfl kiconst_3 ?_
          refine V_iadd 414 dL_law_413 rfl ?_
          obtain ⟨v90, h89, hf⟩ := ob hf
          refine V_sld 415 h89 hX dL_law_414 rfl ?_
          refine V_aload_n 3 416 rfl dL_law_415 rfl rfl ?_
          refine V_iload_n 0 417 rfl dL_law_416 rfl rfl ?_
          refine V_iconst 4 418 dL_law_417 rfl kiconst_4 ?_
          refine V_iadd 419 dL_law_418 rfl ?_
          obtain ⟨v92, h91, hf⟩ := ob hf
          refine V_sld 420 h91 hX dL_law_419 rfl ?_
          refine V_aload_n 3 421 rfl dL_law_420 rfl rfl ?_
          refine V_iload_n 0 422 rfl dL_law_421 rfl rfl ?_
          refine V_iconst 5 423 dL_law_422 rfl kiconst_5 ?_
          refine V_iadd 424 dL_law_423 rfl ?_
          obtain ⟨v94, h93, hf⟩ := ob hf
          refine V_sld 425 h93 hX dL_law_424 rfl ?_
          obtain ⟨p96, h95, hf⟩ := ob hf
          refine V_callV (rest := [.int p84.1]) (T := TX8) (n := 27) (ci := 7) ce sl 428 [.int p96.1, .int p84.1] (c_X8_curve_ l G (d + 357) _ _ _ _ _ _ _ _ _ h95) (by omega) ok_X8_curve_ okv_X8_curve_ (gd_X8_curve_ h95) rfl wd_ml_TwiceNoiseLaw_36 rfl rfl (Nat.le_of_ble_eq_true rfl) rfl rfl (Or.inl ⟨rfl, rfl⟩) dL_law_425 rfl rfl ?_
          refine V_icmp_eq 1860 431 dL_law_428 (by decide) rfl (fun c97 => ?_) (fun c97 => ?_)
          · rw [if_pos c97] at hf
            refine V_iinc (x3 + 6) 0 [(3, .int (x3 + 6)), (2, .ref x2), (1, .ref x1), (0, .ref (1000 + 11))] 1863 dL_law_1860 rfl (by rw [kiconst_6]) (Nat.le_of_ble_eq_true rfl) rfl rfl ?_
            refine V_goto 18 dL_law_1863 (by decide) ?_
            refine V_ls [(3, .int (x3 + 6)), (2, .ref x2), (1, .ref x1), (0, .ref (1000 + 11))] [0, 1, 2, 3] rfl ?_
            refine V_cnt (ce1 := ce + 35) (sl1 := sl + 10240) (by omega) (by omega) ?_
            exact ih (ce + 35) (sl + 10240) (x3 + 6) p96.2 p hf (by omega) (by omega) (by rw [show ce + 35 + 35 * n = ce + 35 * (n + 1) from by omega, show sl + 10240 + 10240 * n = sl + 10240 * (n + 1) from by omega]; exact hk)
          · rw [if_neg c97] at hf
            refine V_iconst 0 432 dL_law_431 rfl kiconst_0 ?_
            cases hf
        rw [if_neg c72] at hf
        by_cases c98 : (v11 &&& 63) = 5
        · rw [if_pos c98] at hf
          refine V_tsw 5 400 433 dL_law_33 c98 (by decide) (by decide) (by decide) (by decide) ?_
          refine V_aload_n 2 434 rfl dL_law_433 rfl rfl ?_
          refine V_aload_n 3 435 rfl dL_law_434 rfl rfl ?_
          refine V_iload_n 0 436 rfl dL_law_435 rfl rfl ?_
          refine V_iconst 1 437 dL_law_436 rfl kiconst_1 ?_
          refine V_iadd 438 dL_law_437 rfl ?_
          obtain ⟨v100, h99, hf⟩ := ob hf
          refine V_sld 439 h99 hX dL_law_438 rfl ?_
          refine V_aload_n 3 440 rfl dL_law_439 rfl rfl ?_
          refine V_iload_n 0 441 rfl dL_law_440 rfl rfl ?_
          refine V_iconst 2 442 dL_law_441 rfl kiconst_2 ?_
          refine V_iadd 443 dL_law_442 rfl ?_
          obtain ⟨v102, h101, hf⟩ := ob hf
          refine V_sld 444 h101 hX dL_law_443 rfl ?_
          obtain ⟨p104, h103, hf⟩ := ob hf
          refine V_callV (rest := []) (T := TX7) (n := 10) (ci := 6) ce sl 447 [.int p104.1] (c_X7_measure l G (d + 57) _ _ _ _ _ _ h103) (by omega) ok_X7_measure okv_X7_measure (gd_X7_measure h103) rfl wd_ml_TwiceNoiseLaw_37 rfl rfl (Nat.le_of_ble_eq_true rfl) rfl rfl (Or.inl ⟨rfl, rfl⟩) dL_law_444 rfl rfl ?_
          refine V_aload_n 1 448 rfl dL_law_447 rfl rfl ?_
          refine V_aload_n 3 449 rfl dL_law_448 rfl rfl ?_
          refine V_iload_n 0 450 rfl dL_law_449 rfl rfl ?_
          refine V_iconst 1 451 dL_law_450 rfl kiconst_1 ?_
          refine V_iadd 452 dL_law_451 rfl ?_
          obtain ⟨v106, h105, hf⟩ := ob hf
          refine V_sld 453 h105 hX dL_law_452 rfl ?_
          refine V_aload_n 3 454 rfl dL_law_453 rfl rfl ?_
          refine V_iload_n 0 455 rfl dL_law_454 rfl rfl ?_
          refine V_iconst 2 456 dL_law_455 rfl kiconst_2 ?_
          refine V_iadd 457 dL_law_456 rfl ?_
          obtain ⟨v108, h107, hf⟩ := ob hf
          refine V_sld 458 h107 hX dL_law_457 rfl ?_
          obtain ⟨p110, h109, hf⟩ := ob hf
          refine V_callV (rest := [.int p104.1]) (T := TX8) (n := 27) (ci := 7) ce sl 461 [.int p110.1, .int p104.1] (c_X8_measure l G (d + 357) _ _ _ _ _ _ h109) (by omega) ok_X8_measure okv_X8_measure (gd_X8_measure h109) rfl wd_ml_TwiceNoiseLaw_40 rfl rfl (Nat.le_of_ble_eq_true rfl) rfl rfl (Or.inl ⟨rfl, rfl⟩) dL_law_458 rfl rfl ?_
          refine V_icmp_eq 1860 464 dL_law_461 (by decide) rfl (fun c111 => ?_) (fun c111 => ?_)
          · rw [if_pos c111] at hf
            refine V_iinc (x3 + 6) 0 [(3, .int (x3 + 6)), (2, .ref x2), (1, .ref x1), (0, .ref (1000 + 11))] 1863 dL_law_1860 rfl (by rw [kiconst_6]) (Nat.le_of_ble_eq_true rfl) rfl rfl ?_
            refine V_goto 18 dL_law_1863 (by decide) ?_
            refine V_ls [(3, .int (x3 + 6)), (2, .ref x2), (1, .ref x1), (0, .ref (1000 + 11))] [0, 1, 2, 3] rfl ?_
            refine V_cnt (ce1 := ce + 35) (sl1 := sl + 10240) (by omega) (by omega) ?_
            exact ih (ce + 35) (sl + 10240) (x3 + 6) p110.2 p hf (by omega) (by omega) (by rw [show ce + 35 + 35 * n = ce + 35 * (n + 1) from by omega, show sl + 10240 + 10240 * n = sl + 10240 * (n + 1) from by omega]; exact hk)
          · rw [if_neg c111] at hf
            refine V_iconst 0 465 dL_law_464 rfl kiconst_0 ?_
            cases hf
        rw [if_neg c98] at hf
        by_cases c112 : (v11 &&& 63) = 6
        · rw [if_pos c112] at hf
          refine V_tsw 6 433 466 dL_law_33 c112 (by decide) (by decide) (by decide) (by decide) ?_
          refine V_aload_n 2 467 rfl dL_law_466 rfl rfl ?_
          refine V_aload_n 3 468 rfl dL_law_467 rfl rfl ?_
          refine V_iload_n 0 469 rfl dL_law_468 rfl rfl ?_
          refine V_iconst 1 470 dL_law_469 rfl kiconst_1 ?_
          refine V_iadd 471 dL_law_470 rfl ?_
          obtain ⟨v114, h113, hf⟩ := ob hf
          refine V_sld 472 h113 hX dL_law_471 rfl ?_
          refine V_aload_n 3 473 rfl dL_law_472 rfl rfl ?_
          refine V_iload_n 0 474 rfl dL_law_473 rfl rfl ?_
          refine V_iconst 2 475 dL_law_474 rfl kiconst_2 ?_
          refine V_iadd 476 dL_law_475 rfl ?_
          obtain ⟨v116, h115, hf⟩ := ob hf
          refine V_sld 477 h115 hX dL_law_476 rfl ?_
          refine V_aload_n 3 478 rfl dL_law_477 rfl rfl ?_
          refine V_iload_n 0 479 rfl dL_law_478 rfl rfl ?_
          refine V_iconst 3 480 dL_law_479 rfl kiconst_3 ?_
          refine V_iadd 481 dL_law_480 rfl ?_
          obtain ⟨v118, h117, hf⟩ := ob hf
          refine V_sld 482 h117 hX dL_law_481 rfl ?_
          refine V_aload_n 3 483 rfl dL_law_482 rfl rfl ?_
          refine V_iload_n 0 484 rfl dL_law_483 rfl rfl ?_
          refine V_iconst 4 485 dL_law_484 rfl kiconst_4 ?_
          refine V_iadd 486 dL_law_485 rfl ?_
          obtain ⟨v120, h119, hf⟩ := ob hf
          refine V_sld 487 h119 hX dL_law_486 rfl ?_
          refine V_aload_n 3 488 rfl dL_law_487 rfl rfl ?_
          refine V_iload_n 0 489 rfl dL_law_488 rfl rfl ?_
          refine V_iconst 5 490 dL_law_489 rfl kiconst_5 ?_
          refine V_iadd 491 dL_law_490 rfl ?_
          obtain ⟨v122, h121, hf⟩ := ob hf
          refine V_sld 492 h121 hX dL_law_491 rfl ?_
          obtain ⟨p124, h123, hf⟩ := ob hf
          refine V_callV (rest := []) (T := TX7) (n := 10) (ci := 6) ce sl 495 [.int p124.1] (c_X7_make l G (d + 357) _ _ _ _ _ _ _ _ _ h123) (by omega) ok_X7_make okv_X7_make (gd_X7_make h123) rfl wd_ml_TwiceNoiseLaw_41 rfl rfl (Nat.le_of_ble_eq_true rfl) rfl rfl (Or.inl ⟨rfl, rfl⟩) dL_law_492 rfl rfl ?_
          refine V_aload_n 1 496 rfl dL_law_495 rfl rfl ?_
          refine V_aload_n 3 497 rfl dL_law_496 rfl rfl ?_
          refine V_iload_n 0 498 rfl dL_law_497 rfl rfl ?_
          refine V_iconst 1 499 dL_law_498 rfl kiconst_1 ?_
          refine V_iadd 500 dL_law_499 rfl ?_
          obtain ⟨v126, h125, hf⟩ := ob hf
          refine V_sld 501 h125 hX dL_law_500 rfl ?_
          refine V_aload_n 3 502 rfl dL_law_501 rfl rfl ?_
          refine V_iload_n 0 503 rfl dL_law_502 rfl rfl ?_
          refine V_iconst 2 504 dL_law_503 rfl kiconst_2 ?_
          refine V_iadd 505 dL_law_504 rfl ?_
          obtain ⟨v128, h127, hf⟩ := ob hf
          refine V_sld 506 h127 hX dL_law_505 rfl ?_
          refine V_aload_n 3 507 rfl dL_law_506 rfl rfl ?_
          refine V_iload_n 0 508 rfl dL_law_507 rfl rfl ?_
          refine V_iconst 3 509 dL_law_508 rfl kiconst_3 ?_
          refine V_iadd 510 dL_law_509 rfl ?_
          obtain ⟨v130, h129, hf⟩ := ob hf
          refine V_sld 511 h129 hX dL_law_510 rfl ?_
          refine V_aload_n 3 512 rfl dL_law_511 rfl rfl ?_
          refine V_iload_n 0 513 rfl dL_law_512 rfl rfl ?_
          refine V_iconst 4 514 dL_law_513 rfl kiconst_4 ?_
          refine V_iadd 515 dL_law_514 rfl ?_
          obtain ⟨v132, h131, hf⟩ := ob hf
          refine V_sld 516 h131 hX dL_law_515 rfl ?_
          refine V_aload_n 3 517 rfl dL_law_516 rfl rfl ?_
          refine V_iload_n 0 518 rfl dL_law_517 rfl rfl ?_
          refine V_iconst 5 519 dL_law_518 rfl kiconst_5 ?_
          refine V_iadd 520 dL_law_519 rfl ?_
          obtain ⟨v134, h133, hf⟩ := ob hf
          refine V_sld 521 h133 hX dL_law_520 rfl ?_
          obtain ⟨p136, h135, hf⟩ := ob hf
          refine V_callV (rest := [.int p124.1]) (T := TX8) (n := 27) (ci := 7) ce sl 524 [.int p136.1, .int p124.1] (c_X8_make l G (d + 358) _ _ _ _ _ _ _ _ _ h135) (by omega) ok_X8_make okv_X8_make (gd_X8_make h135) rfl wd_ml_TwiceNoiseLaw_44 rfl rfl (Nat.le_of_ble_eq_true rfl) rfl rfl (Or.inl ⟨rfl, rfl⟩) dL_law_521 rfl rfl ?_
          refine V_icmp_eq 1860 527 dL_law_524 (by decide) rfl (fun c137 => ?_) (fun c137 => ?_)
          · rw [if_pos c137] at hf
            refine V_iinc (x3 + 6) 0 [(3, .int (x3 + 6)), (2, .ref x2), (1, .ref x1), (0, .ref (1000 + 11))] 1863 dL_law_1860 rfl (by rw [kiconst_6]) (Nat.le_of_ble_eq_true rfl) rfl rfl ?_
            refine V_goto 18 dL_law_1863 (by decide) ?_
            refine V_ls [(3, .int (x3 + 6)), (2, .ref x2), (1, .ref x1), (0, .ref (1000 + 11))] [0, 1, 2, 3] rfl ?_
            refine V_cnt (ce1 := ce + 35) (sl1 := sl + 10240) (by omega) (by omega) ?_
            exact ih (ce + 35) (sl + 10240) (x3 + 6) p136.2 p hf (by omega) (by omega) (by rw [show ce + 35 + 35 * n = ce + 35 * (n + 1) from by omega, show sl + 10240 + 10240 * n = sl + 10240 * (n + 1) from by omega]; exact hk)
          · rw [if_neg c137] at hf
            refine V_iconst 0 528 dL_law_527 rfl kiconst_0 ?_
            cases hf
        rw [if_neg c112] at hf
        by_cases c138 : (v11 &&& 63) = 7
        · rw [if_pos c138] at hf
          refine V_tsw 7 496 529 dL_law_33 c138 (by decide) (by decide) (by decide) (by decide) ?_
          refine V_aload_n 2 530 rfl dL_law_529 rfl rfl ?_
          refine V_aload_n 3 531 rfl dL_law_530 rfl rfl ?_
          refine V_iload_n 0 532 rfl dL_law_531 rfl rfl ?_
          refine V_iconst 1 533 dL_law_532 rfl kiconst_1 ?_
          refine V_iadd 534 dL_law_533 rfl ?_
          obtain ⟨v140, h139, hf⟩ := ob hf
          refine V_sld 535 h139 hX dL_law_534 rfl ?_
          refine V_aload_n 3 536 rfl dL_law_535 rfl rfl ?_
          refine V_iload_n 0 537 rfl dL_law_536 rfl rfl ?_
          refine V_iconst 2 538 dL_law_537 rfl kiconst_2 ?_
          refine V_iadd 539 dL_law_538 rfl ?_
          obtain ⟨v142, h141, hf⟩ := ob hf
          refine V_sld 540 h141 hX dL_law_539 rfl ?_
          obtain ⟨p144, h143, hf⟩ := ob hf
          refine V_callV (rest := []) (T := TX7) (n := 10) (ci := 6) ce sl 543 [.int p144.1] (c_X7_curveIs l G (d + 358) _ _ _ _ _ _ h143) (by omega) ok_X7_curveIs okv_X7_curveIs (gd_X7_curveIs h143) rfl wd_ml_TwiceNoiseLaw_45 rfl rfl (Nat.le_of_ble_eq_true rfl) rfl rfl (Or.inl ⟨rfl, rfl⟩) dL_law_540 rfl rfl ?_
          refine V_aload_n 1 544 rfl dL_law_543 rfl rfl ?_
          refine V_aload_n 3 545 rfl dL_law_544 rfl rfl ?_
          refine V_iload_n 0 546 rfl dL_law_545 rfl rfl ?_
          refine V_iconst 1 547 dL_law_546 rfl kiconst_1 ?_
          refine V_iadd 548 dL_law_547 rfl ?_
          obtain ⟨v146, h145, hf⟩ := ob hf
          refine V_sld 549 h145 hX dL_law_548 rfl ?_
          refine V_aload_n 3 550 rfl dL_law_549 rfl rfl ?_
          refine V_iload_n 0 551 rfl dL_law_550 rfl rfl ?_
          refine V_iconst 2 552 dL_law_551 rfl kiconst_2 ?_
          refine V_iadd 553 dL_law_552 rfl ?_
          obtain ⟨v148, h147, hf⟩ := ob hf
          refine V_sld 554 h147 hX dL_law_553 rfl ?_
          obtain ⟨p150, h149, hf⟩ := ob hf
          refine V_callV (rest := [.int p144.1]) (T := TX8) (n := 27) (ci := 7) ce sl 557 [.int p150.1, .int p144.1] (c_X8_curveIs l G (d + 358) _ _ _ _ _ _ h149) (by omega) ok_X8_curveIs okv_X8_curveIs (gd_X8_curveIs h149) rfl wd_ml_TwiceNoiseLaw_48 rfl rfl (Nat.le_of_ble_eq_true rfl) rfl rfl (Or.inl ⟨rfl, rfl⟩) dL_law_554 rfl rfl ?_
          refine V_icmp_eq 1860 560 dL_law_557 (by decide) rfl (fun c151 => ?_) (fun c151 => ?_)
          · rw [if_pos c151] at hf
            refine V_iinc (x3 + 6) 0 [(3, .int (x3 + 6)), (2, .ref x2), (1, .ref x1), (0, .ref (1000 + 11))] 1863 dL_law_1860 rfl (by rw [kiconst_6]) (Nat.le_of_ble_eq_true rfl) rfl rfl ?_
            refine V_goto 18 dL_law_1863 (by decide) ?_
            refine V_ls [(3, .int (x3 + 6)), (2, .ref x2), (1, .ref x1), (0, .ref (1000 + 11))] [0, 1, 2, 3] rfl ?_
            refine V_cnt (ce1 := ce + 35) (sl1 := sl + 10240) (by omega) (by omega) ?_
            exact ih (ce + 35) (sl + 10240) (x3 + 6) p150.2 p hf (by omega) (by omega) (by rw [show ce + 35 + 35 * n = ce + 35 * (n + 1) from by omega, show sl + 10240 + 10240 * n = sl + 10240 * (n + 1) from by omega]; exact hk)
          · rw [if_neg c151] at hf
            refine V_iconst 0 561 dL_law_560 rfl kiconst_0 ?_
            cases hf
        rw [if_neg c138] at hf
        by_cases c152 : (v11 &&& 63) = 8
        · rw [if_pos c152] at hf
          refine V_tsw 8 529 562 dL_law_33 c152 (by decide) (by decide) (by decide) (by decide) ?_
          refine V_aload_n 2 563 rfl dL_law_562 rfl rfl ?_
          refine V_aload_n 3 564 rfl dL_law_563 rfl rfl ?_
          refine V_iload_n 0 565 rfl dL_law_564 rfl rfl ?_
          refine V_iconst 1 566 dL_law_565 rfl kiconst_1 ?_
          refine V_iadd 567 dL_law_566 rfl ?_
          obtain ⟨v154, h153, hf⟩ := ob hf
          refine V_sld 568 h153 hX dL_law_567 rfl ?_
          refine V_aload_n 3 569 rfl dL_law_568 rfl rfl ?_
          refine V_iload_n 0 570 rfl dL_law_569 rfl rfl ?_
          refine V_iconst 2 571 dL_law_570 rfl kiconst_2 ?_
          refine V_iadd 572 dL_law_571 rfl ?_
          obtain ⟨v156, h155, hf⟩ := ob hf
          refine V_sld 573 h155 hX dL_law_572 rfl ?_
          obtain ⟨p158, h157, hf⟩ := ob hf
          refine V_callV (rest := []) (T := TX7) (n := 10) (ci := 6) ce sl 576 [.int p158.1] (c_X7_as l G (d + 358) _ _ _ _ _ _ h157) (by omega) ok_X7_as okv_X7_as (gd_X7_as h157) rfl wd_ml_TwiceNoiseLaw_49 rfl rfl (Nat.le_of_ble_eq_true rfl) rfl rfl (Or.inl ⟨rfl, rfl⟩) dL_law_573 rfl rfl ?_
          refine V_aload_n 1 577 rfl dL_law_576 rfl rfl ?_
          refine V_aload_n 3 578 rfl dL_law_577 rfl rfl ?_
          refine V_iload_n 0 579 rfl dL_law_578 rfl rfl ?_
          refine V_iconst 1 580 dL_law_579 rfl kiconst_1 ?_
          refine V_iadd 581 dL_law_580 rfl ?_
          obtain ⟨v160, h159, hf⟩ := ob hf
          refine V_sld 582 h159 hX dL_law_581 rfl ?_
          refine V_aload_n 3 583 rfl dL_law_582 rfl rfl ?_
          refine V_iload_n 0 584 rfl dL_law_583 rfl rfl ?_
          refine V_iconst 2 585 dL_law_584 rfl kiconst_2 ?_
          refine V_iadd 586 dL_law_585 rfl ?_
          obtain ⟨v162, h161, hf⟩ := ob hf
          refine V_sld 587 h161 hX dL_law_586 rfl ?_
          obtain ⟨p164, h163, hf⟩ := ob hf
          refine V_callV (rest := [.int p158.1]) (T := TX8) (n := 27) (ci := 7) ce sl 590 [.int p164.1, .int p158.1] (c_X8_as l G (d + 358) _ _ _ _ _ _ h163) (by omega) ok_X8_as okv_X8_as (gd_X8_as h163) rfl wd_ml_TwiceNoiseLaw_52 rfl rfl (Nat.le_of_ble_eq_true rfl) rfl rfl (Or.inl ⟨rfl, rfl⟩) dL_law_587 rfl rfl ?_
          refine V_icmp_eq 1860 593 dL_law_590 (by decide) rfl (fun c165 => ?_) (fun c165 => ?_)
          · rw [if_pos c165] at hf
            refine V_iinc (x3 + 6) 0 [(3, .int (x3 + 6)), (2, .ref x2), (1, .ref x1), (0, .ref (1000 + 11))] 1863 dL_law_1860 rfl (by rw [kiconst_6]) (Nat.le_of_ble_eq_true rfl) rfl rfl ?_
            refine V_goto 18 dL_law_1863 (by decide) ?_
            refine V_ls [(3, .int (x3 + 6)), (2, .ref x2), (1, .ref x1), (0, .ref (1000 + 11))] [0, 1, 2, 3] rfl ?_
            refine V_cnt (ce1 := ce + 35) (sl1 := sl + 10240) (by omega) (by omega) ?_
            exact ih (ce + 35) (sl + 10240) (x3 + 6) p164.2 p hf (by omega) (by omega) (by rw [show ce + 35 + 35 * n = ce + 35 * (n + 1) from by omega, show sl + 10240 + 10240 * n = sl + 10240 * (n + 1) from by omega]; exact hk)
          · rw [if_neg c165] at hf
            refine V_iconst 0 594 dL_law_593 rfl kiconst_0 ?_
            cases hf
        rw [if_neg c152] at hf
        by_cases c166 : (v11 &&& 63) = 9
        · rw [if_pos c166] at hf
          refine V_tsw 9 562 595 dL_law_33 c166 (by decide) (by decide) (by decide) (by decide) ?_
          refine V_aload_n 2 596 rfl dL_law_595 rfl rfl ?_
          refine V_aload_n 3 597 rfl dL_law_596 rfl rfl ?_
          refine V_iload_n 0 598 rfl dL_law_597 rfl rfl ?_
          refine V_iconst 1 599 dL_law_598 rfl kiconst_1 ?_
          refine V_iadd 600 dL_law_599 rfl ?_
          obtain ⟨v168, h167, hf⟩ := ob hf
          refine V_sld 601 h167 hX dL_law_600 rfl ?_
          refine V_aload_n 3 602 rfl dL_law_601 rfl rfl ?_
          refine V_iload_n 0 603 rfl dL_law_602 rfl rfl ?_
          refine V_iconst 2 604 dL_law_603 rfl kiconst_2 ?_
          refine V_iadd 605 dL_law_604 rfl ?_
          obtain ⟨v170, h169, hf⟩ := ob hf
          refine V_sld 606 h169 hX dL_law_605 rfl ?_
          obtain ⟨p172, h171, hf⟩ := ob hf
          refine V_callV (rest := []) (T := TX7) (n := 10) (ci := 6) ce sl 609 [.int p172.1] (c_X7_point l G (d + 358) _ _ _ _ _ _ h171) (by omega) ok_X7_point okv_X7_point (gd_X7_point h171) rfl wd_ml_TwiceNoiseLaw_53 rfl rfl (Nat.le_of_ble_eq_true rfl) rfl rfl (Or.inl ⟨rfl, rfl⟩) dL_law_606 rfl rfl ?_
          refine V_aload_n 1 610 rfl dL_law_609 rfl rfl ?_
          refine V_aload_n 3 611 rfl dL_law_610 rfl rfl ?_
          refine V_iload_n 0 612 rfl dL_law_611 rfl rfl ?_
          refine V_iconst 1 613 dL_law_612 rfl kiconst_1 ?_
          refine V_iadd 614 dL_law_613 rfl ?_
          obtain ⟨v174, h173, hf⟩ := ob hf
          refine V_sld 615 h173 hX dL_law_614 rfl ?_
          refine V_aload_n 3 616 rfl dL_law_615 rfl rfl ?_
          refine V_iload_n 0 617 rfl dL_law_616 rfl rfl ?_
          refine V_iconst 2 618 dL_law_617 rfl kiconst_2 ?_
          refine V_iadd 619 dL_law_618 rfl ?_
          obtain ⟨v176, h175, hf⟩ := ob hf
          refine V_sld 620 h175 hX dL_law_619 rfl ?_
          obtain ⟨p178, h177, hf⟩ := ob hf
          refine V_callV (rest := [.int p172.1]) (T := TX8) (n := 27) (ci := 7) ce sl 623 [.int p178.1, .int p172.1] (c_X8_point l G (d + 358) _ _ _ _ _ _ h177) (by omega) ok_X8_point okv_X8_point (gd_X8_point h177) rfl wd_ml_TwiceNoiseLaw_56 rfl rfl (Nat.le_of_ble_eq_true rfl) rfl rfl (Or.inl ⟨rfl, rfl⟩) dL_law_620 rfl rfl ?_
          refine V_icmp_eq 1860 626 dL_law_623 (by decide) rfl (fun c179 => ?_) (fun c179 => ?_)
          · rw [if_pos c179] at hf
            refine V_iinc (x3 + 6) 0 [(3, .int (x3 + 6)), (2, .ref x2), (1, .ref x1), (0, .ref (1000 + 11))] 1863 dL_law_1860 rfl (by rw [kiconst_6]) (Nat.le_of_ble_eq_true rfl) rfl rfl ?_
            refine V_goto 18 dL_law_1863 (by decide) ?_
            refine V_ls [(3, .int (x3 + 6)), (2, .ref x2), (1, .ref x1), (0, .ref (1000 + 11))] [0, 1, 2, 3] rfl ?_
            refine V_cnt (ce1 := ce + 35) (sl1 := sl + 10240) (by omega) (by omega) ?_
            exact ih (ce + 35) (sl + 10240) (x3 + 6) p178.2 p hf (by omega) (by omega) (by rw [show ce + 35 + 35 * n = ce + 35 * (n + 1) from by omega, show sl + 10240 + 10240 * n = sl + 10240 * (n + 1) from by omega]; exact hk)
          · rw [if_neg c179] at hf
            refine V_iconst 0 627 dL_law_626 rfl kiconst_0 ?_
            cases hf
        rw [if_neg c166] at hf
        by_cases c180 : (v11 &&& 63) = 10
        · rw [if_pos c180] at hf
          refine V_tsw 10 595 628 dL_law_33 c180 (by decide) (by decide) (by decide) (by decide) ?_
          refine V_aload_n 2 629 rfl dL_law_628 rfl rfl ?_
          refine V_aload_n 3 630 rfl dL_law_629 rfl rfl ?_
          refine V_iload_n 0 631 rfl dL_law_630 rfl rfl ?_
          refine V_iconst 1 632 dL_law_631 rfl kiconst_1 ?_
          refine V_iadd 633 dL_law_632 rfl ?_
          obtain ⟨v182, h181, hf⟩ := ob hf
          refine V_sld 634 h181 hX dL_law_633 rfl ?_
          refine V_aload_n 3 635 rfl dL_law_634 rfl rfl ?_
          refine V_iload_n 0 636 rfl dL_law_635 rfl rfl ?_
          refine V_iconst 2 637 dL_law_636 rfl kiconst_2 ?_
          refine V_iadd 638 dL_law_637 rfl ?_
          obtain ⟨v184, h183, hf⟩ := ob hf
          refine V_sld 639 h183 hX dL_law_638 rfl ?_
          obtain ⟨p186, h185, hf⟩ := ob hf
          refine V_callV (rest := []) (T := TX7) (n := 10) (ci := 6) ce sl 642 [.int p186.1] (c_X7_hair l G (d + 358) _ _ _ _ _ _ h185) (by omega) ok_X7_hair okv_X7_hair (gd_X7_hair h185) rfl wd_ml_TwiceNoiseLaw_57 rfl rfl (Nat.le_of_ble_eq_true rfl) rfl rfl (Or.inl ⟨rfl, rfl⟩) dL_law_639 rfl rfl ?_
          refine V_aload_n 1 643 rfl dL_law_642 rfl rfl ?_
          refine V_aload_n 3 644 rfl dL_law_643 rfl rfl ?_
          refine V_iload_n 0 645 rfl dL_law_644 rfl rfl ?_
          refine V_iconst 1 646 dL_law_645 rfl kiconst_1 ?_
          refine V_iadd 647 dL_law_646 rfl ?_
          obtain ⟨v188, h187, hf⟩ := ob hf
          refine V_sld 648 h187 hX dL_law_647 rfl ?_
          refine V_aload_n 3 649 rfl dL_law_648 rfl rfl ?_
          refine V_iload_n 0 650 rfl dL_law_649 rfl rfl ?_
          refine V_iconst 2 651 dL_law_650 rfl kiconst_2 ?_
          refine V_iadd 652 dL_law_651 rfl ?_
          obtain ⟨v190, h189, hf⟩ := ob hf
          refine V_sld 653 h189 hX dL_law_652 rfl ?_
          obtain ⟨p192, h191, hf⟩ := ob hf
          refine V_callV (rest := [.int p186.1]) (T := TX8) (n := 27) (ci := 7) ce sl 656 [.int p192.1, .int p186.1] (c_X8_hair l G (d + 357) _ _ _ _ _ _ h191) (by omega) ok_X8_hair okv_X8_hair (gd_X8_hair h191) rfl wd_ml_TwiceNoiseLaw_60 rfl rfl (Nat.le_of_ble_eq_true rfl) rfl rfl (Or.inl ⟨rfl, rfl⟩) dL_law_653 rfl rfl ?_
          refine V_icmp_eq 1860 659 dL_law_656 (by decide) rfl (fun c193 => ?_) (fun c193 => ?_)
          · rw [if_pos c193] at hf
            refine V_iinc (x3 + 6) 0 [(3, .int (x3 + 6)), (2, .ref x2), (1, .ref x1), (0, .ref (1000 + 11))] 1863 dL_law_1860 rfl (by rw [kiconst_6]) (Nat.le_of_ble_eq_true rfl) rfl rfl ?_
            refine V_goto 18 dL_law_1863 (by decide) ?_
            refine V_ls [(3, .int (x3 + 6)), (2, .ref x2), (1, .ref x1), (0, .ref (1000 + 11))] [0, 1, 2, 3] rfl ?_
            refine V_cnt (ce1 := ce + 35) (sl1 := sl + 10240) (by omega) (by omega) ?_
            exact ih (ce + 35) (sl + 10240) (x3 + 6) p192.2 p hf (by omega) (by omega) (by rw [show ce + 35 + 35 * n = ce + 35 * (n + 1) from by omega, show sl + 10240 + 10240 * n = sl + 10240 * (n + 1) from by omega]; exact hk)
          · rw [if_neg c193] at hf
            refine V_iconst 0 660 dL_law_659 rfl kiconst_0 ?_
            cases hf
        rw [if_neg c180] at hf
        by_cases c194 : (v11 &&& 63) = 11
        · rw [if_pos c194] at hf
          refine V_tsw 11 628 661 dL_law_33 c194 (by decide) (by decide) (by decide) (by decide) ?_
          refine V_aload_n 2 662 rfl dL_law_661 rfl rfl ?_
          refine V_aload_n 3 663 rfl dL_law_662 rfl rfl ?_
          refine V_iload_n 0 664 rfl dL_law_663 rfl rfl ?_
          refine V_iconst 1 665 dL_law_664 rfl kiconst_1 ?_
          refine V_iadd 666 dL_law_665 rfl ?_
          obtain ⟨v196, h195, hf⟩ := ob hf
          refine V_sld 667 h195 hX dL_law_666 rfl ?_
          refine V_i2l 668 dL_law_667 rfl ?_
          refine V_bipush 32 670 dL_law_668 rfl kbipush_32 ?_
          refine V_lshl 671 dL_law_670 rfl ?_
          refine V_aload_n 3 672 rfl dL_law_671 rfl rfl ?_
          refine V_iload_n 0 673 rfl dL_law_672 rfl rfl ?_
          refine V_iconst 2 674 dL_law_673 rfl kiconst_2 ?_
          refine V_iadd 675 dL_law_674 rfl ?_
          obtain ⟨v198, h197, hf⟩ := ob hf
          refine V_sld 676 h197 hX dL_law_675 rfl ?_
          refine V_i2l 677 dL_law_676 rfl ?_
          refine V_ldc2 4294967295 680 dL_law_677 rfl wd_kl_TwiceNoiseLaw_61 ?_
          refine V_land 681 dL_law_680 rfl ?_
          refine V_lor 682 dL_law_681 rfl ?_
          refine V_aload_n 3 683 rfl dL_law_682 rfl rfl ?_
          refine V_iload_n 0 684 rfl dL_law_683 rfl rfl ?_
          refine V_iconst 3 685 dL_law_684 rfl kiconst_3 ?_
          refine V_iadd 686 dL_law_685 rfl ?_
          obtain ⟨v200, h199, hf⟩ := ob hf
          refine V_sld 687 h199 hX dL_law_686 rfl ?_
          obtain ⟨p202, h201, hf⟩ := ob hf
          refine V_callV (rest := []) (T := TX7) (n := 10) (ci := 6) ce sl 690 [.int p202.1] (c_X7_feed l G (d + 358) _ _ _ _ _ _ h201) (by omega) ok_X7_feed okv_X7_feed (gd_X7_feed h201) rfl wd_ml_TwiceNoiseLaw_63 rfl rfl (Nat.le_of_ble_eq_true rfl) rfl rfl (Or.inl ⟨rfl, rfl⟩) dL_law_687 rfl rfl ?_
          refine V_aload_n 1 691 rfl dL_law_690 rfl rfl ?_
          refine V_aload_n 3 692 rfl dL_law_691 rfl rfl ?_
          refine V_iload_n 0 693 rfl dL_law_692 rfl rfl ?_
          refine V_iconst 1 694 dL_law_693 rfl kiconst_1 ?_
          refine V_iadd 695 dL_law_694 rfl ?_
          obtain ⟨v204, h203, hf⟩ := ob hf
          refine V_sld 696 h203 hX dL_law_695 rfl ?_
          refine V_i2l 697 dL_law_696 rfl ?_
          refine V_bipush 32 699 dL_law_697 rfl kbipush_32 ?_
          refine V_lshl 700 dL_law_699 rfl ?_
          refine V_aload_n 3 701 rfl dL_law_700 rfl rfl ?_
          refine V_iload_n 0 702 rfl dL_law_701 rfl rfl ?_
          refine V_iconst 2 703 dL_law_702 rfl kiconst_2 ?_
          refine V_iadd 704 dL_law_703 rfl ?_
          obtain ⟨v206, h205, hf⟩ := ob hf
          refine V_sld 705 h205 hX dL_law_704 rfl ?_
          refine V_i2l 706 dL_law_705 rfl ?_
          refine V_ldc2 4294967295 709 dL_law_706 rfl wd_kl_TwiceNoiseLaw_61 ?_
          refine V_land 710 dL_law_709 rfl ?_
          refine V_lor 711 dL_law_710 rfl ?_
          refine V_aload_n 3 712 rfl dL_law_711 rfl rfl ?_
          refine V_iload_n 0 713 rfl dL_law_712 rfl rfl ?_
          refine V_iconst 3 714 dL_law_713 rfl kiconst_3 ?_
          refine V_iadd 715 dL_law_714 rfl ?_
          obtain ⟨v208, h207, hf⟩ := ob hf
          refine V_sld 716 h207 hX dL_law_715 rfl ?_
          obtain ⟨p210, h209, hf⟩ := ob hf
          refine V_callV (rest := [.int p202.1]) (T := TX8) (n := 27) (ci := 7) ce sl 719 [.int p210.1, .int p202.1] (c_X8_feed l G (d + 359) _ _ _ _ _ _ h209) (by omega) ok_X8_feed okv_X8_feed (gd_X8_feed h209) rfl wd_ml_TwiceNoiseLaw_67 rfl rfl (Nat.le_of_ble_eq_true rfl) rfl rfl (Or.inl ⟨rfl, rfl⟩) dL_law_716 rfl rfl ?_
          refine V_icmp_eq 1860 722 dL_law_719 (by decide) rfl (fun c211 => ?_) (fun c211 => ?_)
          · rw [if_pos c211] at hf
            refine V_iinc (x3 + 6) 0 [(3, .int (x3 + 6)), (2, .ref x2), (1, .ref x1), (0, .ref (1000 + 11))] 1863 dL_law_1860 rfl (by rw [kiconst_6]) (Nat.le_of_ble_eq_true rfl) rfl rfl ?_
            refine V_goto 18 dL_law_1863 (by decide) ?_
            refine V_ls [(3, .int (x3 + 6)), (2, .ref x2), (1, .ref x1), (0, .ref (1000 + 11))] [0, 1, 2, 3] rfl ?_
            refine V_cnt (ce1 := ce + 35) (sl1 := sl + 10240) (by omega) (by omega) ?_
            exact ih (ce + 35) (sl + 10240) (x3 + 6) p210.2 p hf (by omega) (by omega) (by rw [show ce + 35 + 35 * n = ce + 35 * (n + 1) from by omega, show sl + 10240 + 10240 * n = sl + 10240 * (n + 1) from by omega]; exact hk)
          · rw [if_neg c211] at hf
            refine V_iconst 0 723 dL_law_722 rfl kiconst_0 ?_
            cases hf
        rw [if_neg c194] at hf
        by_cases c212 : (v11 &&& 63) = 12
        · rw [if_pos c212] at hf
          refine V_tsw 12 691 724 dL_law_33 c212 (by decide) (by decide) (by decide) (by decide) ?_
          refine V_aload_n 2 725 rfl dL_law_724 rfl rfl ?_
          refine V_aload_n 3 726 rfl dL_law_725 rfl rfl ?_
          refine V_iload_n 0 727 rfl dL_law_726 rfl rfl ?_
          refine V_iconst 1 728 dL_law_727 rfl kiconst_1 ?_
          refine V_iadd 729 dL_law_728 rfl ?_
          obtain ⟨v214, h213, hf⟩ := ob hf
          refine V_sld 730 h213 hX dL_law_729 rfl ?_
          obtain ⟨p216, h215, hf⟩ := ob hf
          refine V_callV (rest := []) (T := TX7) (n := 10) (ci := 6) ce sl 733 [.int p216.1] (c_X7_text l G (d + 59) _ _ _ _ _ h215) (by omega) ok_X7_text okv_X7_text (gd_X7_text h215) rfl wd_ml_TwiceNoiseLaw_68 rfl rfl (Nat.le_of_ble_eq_true rfl) rfl rfl (Or.inl ⟨rfl, rfl⟩) dL_law_730 rfl rfl ?_
          refine V_aload_n 1 734 rfl dL_law_733 rfl rfl ?_
          refine V_aload_n 3 735 rfl dL_law_734 rfl rfl ?_
          refine V_iload_n 0 736 rfl dL_law_735 rfl rfl ?_
          refine V_iconst 1 737 dL_law_736 rfl kiconst_1 ?_
          refine V_iadd 738 dL_law_737 rfl ?_
          obtain ⟨v218, h217, hf⟩ := ob hf
          refine V_sld 739 h217 hX dL_law_738 rfl ?_
          obtain ⟨p220, h219, hf⟩ := ob hf
          refine V_callV (rest := [.int p216.1]) (T := TX8) (n := 27) (ci := 7) ce sl 742 [.int p220.1, .int p216.1] (c_X8_text_ l G (d + 0) _ _ _ _ _ h219) (by omega) ok_X8_text_ okv_X8_text_ (gd_X8_text_ h219) rfl wd_ml_TwiceNoiseLaw_71 rfl rfl (Nat.le_of_ble_eq_true rfl) rfl rfl (Or.inl ⟨rfl, rfl⟩) dL_law_739 rfl rfl ?_
          refine V_icmp_eq 1860 745 dL_law_742 (by decide) rfl (fun c221 => ?_) (fun c221 => ?_)
          · rw [if_pos c221] at hf
            refine V_iinc (x3 + 6) 0 [(3, .int (x3 + 6)), (2, .ref x2), (1, .ref x1), (0, .ref (1000 + 11))] 1863 dL_law_1860 rfl (by rw [kiconst_6]) (Nat.le_of_ble_eq_true rfl) rfl rfl ?_
            refine V_goto 18 dL_law_1863 (by decide) ?_
            refine V_ls [(3, .int (x3 + 6)), (2, .ref x2), (1, .ref x1), (0, .ref (1000 + 11))] [0, 1, 2, 3] rfl ?_
            refine V_cnt (ce1 := ce + 35) (sl1 := sl + 10240) (by omega) (by omega) ?_
            exact ih (ce + 35) (sl + 10240) (x3 + 6) p220.2 p hf (by omega) (by omega) (by rw [show ce + 35 + 35 * n = ce + 35 * (n + 1) from by omega, show sl + 10240 + 10240 * n = sl + 10240 * (n + 1) from by omega]; exact hk)
          · rw [if_neg c221] at hf
            refine V_iconst 0 746 dL_law_745 rfl kiconst_0 ?_
            cases hf
        rw [if_neg c212] at hf
        by_cases c222 : (v11 &&& 63) = 13
        · rw [if_pos c222] at hf
          refine V_tsw 13 714 747 dL_law_33 c222 (by decide) (by decide) (by decide) (by decide) ?_
          refine V_aload_n 2 748 rfl dL_law_747 rfl rfl ?_
          refine V_aload_n 3 749 rfl dL_law_748 rfl rfl ?_
          refine V_iload_n 0 750 rfl dL_law_749 rfl rfl ?_
          refine V_iconst 1 751 dL_law_750 rfl kiconst_1 ?_
          refine V_iadd 752 dL_law_751 rfl ?_
          obtain ⟨v224, h223, hf⟩ := ob hf
          refine V_sld 753 h223 hX dL_law_752 rfl ?_
          refine V_aload_n 3 754 rfl dL_law_753 rfl rfl ?_
          refine V_iload_n 0 755 rfl dL_law_754 rfl rfl ?_
          refine V_iconst 2 756 dL_law_755 rfl kiconst_2 ?_
          refine V_iadd 757 dL_law_756 rfl ?_
          obtain ⟨v226, h225, hf⟩ := ob hf
          refine V_sld 758 h225 hX dL_law_757 rfl ?_
          refine V_aload_n 3 759 rfl dL_law_758 rfl rfl ?_
          refine V_iload_n 0 760 rfl dL_law_759 rfl rfl ?_
          refine V_iconst 3 761 dL_law_760 rfl kiconst_3 ?_
          refine V_iadd 762 dL_law_761 rfl ?_
          obtain ⟨v228, h227, hf⟩ := ob hf
          refine V_sld 763 h227 hX dL_law_762 rfl ?_
          refine V_aload_n 3 764 rfl dL_law_763 rfl rfl ?_
          refine V_iload_n 0 765 rfl dL_law_764 rfl rfl ?_
          refine V_iconst 4 766 dL_law_765 rfl kiconst_4 ?_
          refine V_iadd 767 dL_law_766 rfl ?_
          obtain ⟨v230, h229, hf⟩ := ob hf
          refine V_sld 768 h229 hX dL_law_767 rfl ?_
          obtain ⟨p232, h231, hf⟩ := ob hf
          refine V_callV (rest := []) (T := TX7) (n := 10) (ci := 6) ce sl 771 [.int p232.1] (c_X7_law l G (d + 58) _ _ _ _ _ _ _ _ h231) (by omega) ok_X7_law okv_X7_law (gd_X7_law h231) rfl wd_ml_TwiceNoiseLaw_72 rfl rfl (Nat.le_of_ble_eq_true rfl) rfl rfl (Or.inl ⟨rfl, rfl⟩) dL_law_768 rfl rfl ?_
          refine V_aload_n 1 772 rfl dL_law_771 rfl rfl ?_
          refine V_aload_n 3 773 rfl dL_law_772 rfl rfl ?_
          refine V_iload_n 0 774 rfl dL_law_773 rfl rfl ?_
          refine V_iconst 1 775 dL_law_774 rfl kiconst_1 ?_
          refine V_iadd 776 dL_law_775 rfl ?_
          obtain ⟨v234, h233, hf⟩ := ob hf
          refine V_sld 777 h233 hX dL_law_776 rfl ?_
          refine V_aload_n 3 778 rfl dL_law_777 rfl rfl ?_
          refine V_iload_n 0 779 rfl dL_law_778 rfl rfl ?_
          refine V_iconst 2 780 dL_law_779 rfl kiconst_2 ?_
          refine V_iadd 781 dL_law_780 rfl ?_
          obtain ⟨v236, h235, hf⟩ := ob hf
          refine V_sld 782 h235 hX dL_law_781 rfl ?_
          refine V_aload_n 3 783 rfl dL_law_782 rfl rfl ?_
          refine V_iload_n 0 784 rfl dL_law_783 rfl rfl ?_
          refine V_iconst 3 785 dL_law_784 rfl kiconst_3 ?_
          refine V_iadd 786 dL_law_785 rfl ?_
          obtain ⟨v238, h237, hf⟩ := ob hf
          refine V_sld 787 h237 hX dL_law_786 rfl ?_
          refine V_aload_n 3 788 rfl dL_law_787 rfl rfl ?_
          refine V_iload_n 0 789 rfl dL_law_788 rfl rfl ?_
          refine V_iconst 4 790 dL_law_789 rfl kiconst_4 ?_
          refine V_iadd 791 dL_law_790 rfl ?_
          obtain ⟨v240, h239, hf⟩ := ob hf
          refine V_sld 792 h239 hX dL_law_791 rfl ?_
          obtain ⟨p242, h241, hf⟩ := ob hf
          refine V_callV (rest := [.int p232.1]) (T := TX8) (n := 27) (ci := 7) ce sl 795 [.int p242.1, .int p232.1] (c_X8_law l G (d + 358) _ _ _ _ _ _ _ _ h241) (by omega) ok_X8_law okv_X8_law (gd_X8_law h241) rfl wd_ml_TwiceNoiseLaw_76 rfl rfl (Nat.le_of_ble_eq_true rfl) rfl rfl (Or.inl ⟨rfl, rfl⟩) dL_law_792 rfl rfl ?_
          refine V_icmp_eq 1860 798 dL_law_795 (by decide) rfl (fun c243 => ?_) (fun c243 => ?_)
          · rw [if_pos c243] at hf
            refine V_iinc (x3 + 6) 0 [(3, .int (x3 + 6)), (2, .ref x2), (1, .ref x1), (0, .ref (1000 + 11))] 1863 dL_law_1860 rfl (by rw [kiconst_6]) (Nat.le_of_ble_eq_true rfl) rfl rfl ?_
            refine V_goto 18 dL_law_1863 (by decide) ?_
            refine V_ls [(3, .int (x3 + 6)), (2, .ref x2), (1, .ref x1), (0, .ref (1000 + 11))] [0, 1, 2, 3] rfl ?_
            refine V_cnt (ce1 := ce + 35) (sl1 := sl + 10240) (by omega) (by omega) ?_
            exact ih (ce + 35) (sl + 10240) (x3 + 6) p242.2 p hf (by omega) (by omega) (by rw [show ce + 35 + 35 * n = ce + 35 * (n + 1) from by omega, show sl + 10240 + 10240 * n = sl + 10240 * (n + 1) from by omega]; exact hk)
          · rw [if_neg c243] at hf
            refine V_iconst 0 799 dL_law_798 rfl kiconst_0 ?_
            cases hf
        rw [if_neg c222] at hf
        by_cases c244 : (v11 &&& 63) = 14
        · rw [if_pos c244] at hf
          refine V_tsw 14 767 800 dL_law_33 c244 (by decide) (by decide) (by decide) (by decide) ?_
          refine V_aload_n 2 801 rfl dL_law_800 rfl rfl ?_
          refine V_aload_n 3 802 rfl dL_law_801 rfl rfl ?_
          refine V_iload_n 0 803 rfl dL_law_802 rfl rfl ?_
          refine V_iconst 1 804 dL_law_803 rfl kiconst_1 ?_
          refine V_iadd 805 dL_law_804 rfl ?_
          obtain ⟨v246, h245, hf⟩ := ob hf
          refine V_sld 806 h245 hX dL_law_805 rfl ?_
          refine V_aload_n 3 807 rfl dL_law_806 rfl rfl ?_
          refine V_iload_n 0 808 rfl dL_law_807 rfl rfl ?_
          refine V_iconst 2 809 dL_law_808 rfl kiconst_2 ?_
          refine V_iadd 810 dL_law_809 rfl ?_
          obtain ⟨v248, h247, hf⟩ := ob hf
          refine V_sld 811 h247 hX dL_law_810 rfl ?_
          refine V_aload_n 3 812 rfl dL_law_811 rfl rfl ?_
          refine V_iload_n 0 813 rfl dL_law_812 rfl rfl ?_
          refine V_iconst 3 814 dL_law_813 rfl kiconst_3 ?_
          refine V_iadd 815 dL_law_814 rfl ?_
          obtain ⟨v250, h249, hf⟩ := ob hf
          refine V_sld 816 h249 hX dL_law_815 rfl ?_
          obtain ⟨p252, h251, hf⟩ := ob hf
          refine V_callV (rest := []) (T := TX7) (n := 10) (ci := 6) ce sl 819 [.int p252.1] (c_X7_same l G (d + 357) _ _ _ _ _ _ _ h251) (by omega) ok_X7_same okv_X7_same (gd_X7_same h251) rfl wd_ml_TwiceNoiseLaw_77 rfl rfl (Nat.le_of_ble_eq_true rfl) rfl rfl (Or.inl ⟨rfl, rfl⟩) dL_law_816 rfl rfl ?_
          refine V_aload_n 1 820 rfl dL_law_819 rfl rfl ?_
          refine V_aload_n 3 821 rfl dL_law_820 rfl rfl ?_
          refine V_iload_n 0 822 rfl dL_law_821 rfl rfl ?_
          refine V_iconst 1 823 dL_law_822 rfl kiconst_1 ?_
          refine V_iadd 824 dL_law_823 rfl ?_
          obtain ⟨v254, h253, hf⟩ := ob hf
          refine V_sld 825 h253 hX dL_law_824 rfl ?_
          refine V_aload_n 3 826 rfl dL_law_825 rfl rfl ?_
          refine V_iload_n 0 827 rfl dL_law_826 rfl rfl ?_
          refine V_iconst 2 828 dL_law_827 rfl kiconst_2 ?_
          refine V_iadd 829 dL_law_828 rfl ?_
          obtain ⟨v256, h255, hf⟩ := ob hf
          refine V_sld 830 h255 hX dL_law_829 rfl ?_
          refine V_aload_n 3 831 rfl dL_law_830 rfl rfl ?_
          refine V_iload_n 0 832 rfl dL_law_831 rfl rfl ?_
          refine V_iconst 3 833 dL_law_832 rfl kiconst_3 ?_
          refine V_iadd 834 dL_law_833 rfl ?_
          obtain ⟨v258, h257, hf⟩ := ob hf
          refine V_sld 835 h257 hX dL_law_834 rfl ?_
          obtain ⟨p260, h259, hf⟩ := ob hf
          refine V_callV (rest := [.int p252.1]) (T := TX8) (n := 27) (ci := 7) ce sl 838 [.int p260.1, .int p252.1] (c_X8_same l G (d + 357) _ _ _ _ _ _ _ h259) (by omega) ok_X8_same okv_X8_same (gd_X8_same h259) rfl wd_ml_TwiceNoiseLaw_80 rfl rfl (Nat.le_of_ble_eq_true rfl) rfl rfl (Or.inl ⟨rfl, rfl⟩) dL_law_835 rfl rfl ?_
          refine V_icmp_eq 1860 841 dL_law_838 (by decide) rfl (fun c261 => ?_) (fun c261 => ?_)
          · rw [if_pos c261] at hf
            refine V_iinc (x3 + 6) 0 [(3, .int (x3 + 6)), (2, .ref x2), (1, .ref x1), (0, .ref (1000 + 11))] 1863 dL_law_1860 rfl (by rw [kiconst_6]) (Nat.le_of_ble_eq_true rfl) rfl rfl ?_
            refine V_goto 18 dL_law_1863 (by decide) ?_
            refine V_ls [(3, .int (x3 + 6)), (2, .ref x2), (1, .ref x1), (0, .ref (1000 + 11))] [0, 1, 2, 3] rfl ?_
            refine V_cnt (ce1 := ce + 35) (sl1 := sl + 10240) (by omega) (by omega) ?_
            exact ih (ce + 35) (sl + 10240) (x3 + 6) p260.2 p hf (by omega) (by omega) (by rw [show ce + 35 + 35 * n = ce + 35 * (n + 1) from by omega, show sl + 10240 + 10240 * n = sl + 10240 * (n + 1) from by omega]; exact hk)
          · rw [if_neg c261] at hf
            refine V_iconst 0 842 dL_law_841 rfl kiconst_0 ?_
            cases hf
        rw [if_neg c244] at hf
        by_cases c262 : (v11 &&& 63) = 15
        · rw [if_pos c262] at hf
          refine V_tsw 15 810 843 dL_law_33 c262 (by decide) (by decide) (by decide) (by decide) ?_
          refine V_aload_n 2 844 rfl dL_law_843 rfl rfl ?_
          refine V_aload_n 3 845 rfl dL_law_844 rfl rfl ?_
          refine V_iload_n 0 846 rfl dL_law_845 rfl rfl ?_
          refine V_iconst 1 847 dL_law_846 rfl kiconst_1 ?_
          refine V_iadd 848 dL_law_847 rfl ?_
          obtain ⟨v264, h263, hf⟩ := ob hf
          refine V_sld 849 h263 hX dL_law_848 rfl ?_
          refine V_aload_n 3 850 rfl dL_law_849 rfl rfl ?_
          refine V_iload_n 0 851 rfl dL_law_850 rfl rfl ?_
          refine V_iconst 2 852 dL_law_851 rfl kiconst_2 ?_
          refine V_iadd 853 dL_law_852 rfl ?_
          obtain ⟨v266, h265, hf⟩ := ob hf
          refine V_sld 854 h265 hX dL_law_853 rfl ?_
          refine V_aload_n 3 855 rfl dL_law_854 rfl rfl ?_
          refine V_iload_n 0 856 rfl dL_law_855 rfl rfl ?_
          refine V_iconst 3 857 dL_law_856 rfl kiconst_3 ?_
          refine V_iadd 858 dL_law_857 rfl ?_
          obtain ⟨v268, h267, hf⟩ := ob hf
          refine V_sld 859 h267 hX dL_law_858 rfl ?_
          refine V_aload_n 3 860 rfl dL_law_859 rfl rfl ?_
          refine V_iload_n 0 861 rfl dL_law_860 rfl rfl ?_
          refine V_iconst 4 862 dL_law_861 rfl kiconst_4 ?_
          refine V_iadd 863 dL_law_862 rfl ?_
          obtain ⟨v270, h269, hf⟩ := ob hf
          refine V_sld 864 h269 hX dL_law_863 rfl ?_
          obtain ⟨p272, h271, hf⟩ := ob hf
          refine V_callV (rest := []) (T := TX7) (n := 10) (ci := 6) ce sl 867 [.int p272.1] (c_X7_bent l G (d + 356) _ _ _ _ _ _ _ _ h271) (by omega) ok_X7_bent okv_X7_bent (gd_X7_bent h271) rfl wd_ml_TwiceNoiseLaw_81 rfl rfl (Nat.le_of_ble_eq_true rfl) rfl rfl (Or.inl ⟨rfl, rfl⟩) dL_law_864 rfl rfl ?_
          refine V_aload_n 1 868 rfl dL_law_867 rfl rfl ?_
          refine V_aload_n 3 869 rfl dL_law_868 rfl rfl ?_
          refine V_iload_n 0 870 rfl dL_law_869 rfl rfl ?_
          refine V_iconst 1 871 dL_law_870 rfl kiconst_1 ?_
          refine V_iadd 872 dL_law_871 rfl ?_
          obtain ⟨v274, h273, hf⟩ := ob hf
          refine V_sld 873 h273 hX dL_law_872 rfl ?_
          refine V_aload_n 3 874 rfl dL_law_873 rfl rfl ?_
          refine V_iload_n 0 875 rfl dL_law_874 rfl rfl ?_
          refine V_iconst 2 876 dL_law_875 rfl kiconst_2 ?_
          refine V_iadd 877 dL_law_876 rfl ?_
          obtain ⟨v276, h275, hf⟩ := ob hf
          refine V_sld 878 h275 hX dL_law_877 rfl ?_
          refine V_aload_n 3 879 rfl dL_law_878 rfl rfl ?_
          refine V_iload_n 0 880 rfl dL_law_879 rfl rfl ?_
          refine V_iconst 3 881 dL_law_880 rfl kiconst_3 ?_
          refine V_iadd 882 dL_law_881 rfl ?_
          obtain ⟨v278, h277, hf⟩ := ob hf
          refine V_sld 883 h277 hX dL_law_882 rfl ?_
          refine V_aload_n 3 884 rfl dL_law_883 rfl rfl ?_
          refine V_iload_n 0 885 rfl dL_law_884 rfl rfl ?_
          refine V_iconst 4 886 dL_law_885 rfl kiconst_4 ?_
          refine V_iadd 887 dL_law_886 rfl ?_
          obtain ⟨v280, h279, hf⟩ := ob hf
          refine V_sld 888 h279 hX dL_law_887 rfl ?_
          obtain ⟨p282, h281, hf⟩ := ob hf
          refine V_callV (rest := [.int p272.1]) (T := TX8) (n := 27) (ci := 7) ce sl 891 [.int p282.1, .int p272.1] (c_X8_bent l G (d + 299) _ _ _ _ _ _ _ _ h281) (by omega) ok_X8_bent okv_X8_bent (gd_X8_bent h281) rfl wd_ml_TwiceNoiseLaw_84 rfl rfl (Nat.le_of_ble_eq_true rfl) rfl rfl (Or.inl ⟨rfl, rfl⟩) dL_law_888 rfl rfl ?_
          refine V_icmp_eq 1860 894 dL_law_891 (by decide) rfl (fun c283 => ?_) (fun c283 => ?_)
          · rw [if_pos c283] at hf
            refine V_iinc (x3 + 6) 0 [(3, .int (x3 + 6)), (2, .ref x2), (1, .ref x1), (0, .ref (1000 + 11))] 1863 dL_law_1860 rfl (by rw [kiconst_6]) (Nat.le_of_ble_eq_true rfl) rfl rfl ?_
            refine V_goto 18 dL_law_1863 (by decide) ?_
            refine V_ls [(3, .int (x3 + 6)), (2, .ref x2), (1, .ref x1), (0, .ref (1000 + 11))] [0, 1, 2, 3] rfl ?_
            refine V_cnt (ce1 := ce + 35) (sl1 := sl + 10240) (by omega) (by omega) ?_
            exact ih (ce + 35) (sl + 10240) (x3 + 6) p282.2 p hf (by omega) (by omega) (by rw [show ce + 35 + 35 * n = ce + 35 * (n + 1) from by omega, show sl + 10240 + 10240 * n = sl + 10240 * (n + 1) from by omega]; exact hk)
          · rw [if_neg c283] at hf
            refine V_iconst 0 895 dL_law_894 rfl kiconst_0 ?_
            cases hf
        rw [if_neg c262] at hf
        by_cases c284 : (v11 &&& 63) = 16
        · rw [if_pos c284] at hf
          refine V_tsw 16 863 896 dL_law_33 c284 (by decide) (by decide) (by decide) (by decide) ?_
          refine V_aload_n 2 897 rfl dL_law_896 rfl rfl ?_
          refine V_aload_n 3 898 rfl dL_law_897 rfl rfl ?_
          refine V_iload_n 0 899 rfl dL_law_898 rfl rfl ?_
          refine V_iconst 1 900 dL_law_899 rfl kiconst_1 ?_
          refine V_iadd 901 dL_law_900 rfl ?_
          obtain ⟨v286, h285, hf⟩ := ob hf
          refine V_sld 902 h285 hX dL_law_901 rfl ?_
          obtain ⟨p288, h287, hf⟩ := ob hf
          refine V_callV (rest := []) (T := TX7) (n := 10) (ci := 6) ce sl 905 [.int p288.1] (c_X7_pairs l G (d + 356) _ _ _ _ _ h287) (by omega) ok_X7_pairs okv_X7_pairs (gd_X7_pairs h287) rfl wd_ml_TwiceNoiseLaw_85 rfl rfl (Nat.le_of_ble_eq_true rfl) rfl rfl (Or.inl ⟨rfl, rfl⟩) dL_law_902 rfl rfl ?_
          refine V_aload_n 1 906 rfl dL_law_905 rfl rfl ?_
          refine V_aload_n 3 907 rfl dL_law_906 rfl rfl ?_
          refine V_iload_n 0 908 rfl dL_law_907 rfl rfl ?_
          refine V_iconst 1 909 dL_law_908 rfl kiconst_1 ?_
          refine V_iadd 910 dL_law_909 rfl ?_
          obtain ⟨v290, h289, hf⟩ := ob hf
          refine V_sld 911 h289 hX dL_law_910 rfl ?_
          obtain ⟨p292, h291, hf⟩ := ob hf
          refine V_callV (rest := [.int p288.1]) (T := TX8) (n := 27) (ci := 7) ce sl 914 [.int p292.1, .int p288.1] (c_X8_pairs l G (d + 298) _ _ _ _ _ h291) (by omega) ok_X8_pairs okv_X8_pairs (gd_X8_pairs h291) rfl wd_ml_TwiceNoiseLaw_88 rfl rfl (Nat.le_of_ble_eq_true rfl) rfl rfl (Or.inl ⟨rfl, rfl⟩) dL_law_911 rfl rfl ?_
          refine V_icmp_eq 1860 917 dL_law_914 (by decide) rfl (fun c293 => ?_) (fun c293 => ?_)
          · rw [if_pos c293] at hf
            refine V_iinc (x3 + 6) 0 [(3, .int (x3 + 6)), (2, .ref x2), (1, .ref x1), (0, .ref (1000 + 11))] 1863 dL_law_1860 rfl (by rw [kiconst_6]) (Nat.le_of_ble_eq_true rfl) rfl rfl ?_
            refine V_goto 18 dL_law_1863 (by decide) ?_
            refine V_ls [(3, .int (x3 + 6)), (2, .ref x2), (1, .ref x1), (0, .ref (1000 + 11))] [0, 1, 2, 3] rfl ?_
            refine V_cnt (ce1 := ce + 35) (sl1 := sl + 10240) (by omega) (by omega) ?_
            exact ih (ce + 35) (sl + 10240) (x3 + 6) p292.2 p hf (by omega) (by omega) (by rw [show ce + 35 + 35 * n = ce + 35 * (n + 1) from by omega, show sl + 10240 + 10240 * n = sl + 10240 * (n + 1) from by omega]; exact hk)
          · rw [if_neg c293] at hf
            refine V_iconst 0 918 dL_law_917 rfl kiconst_0 ?_
            cases hf
        rw [if_neg c284] at hf
        by_cases c294 : (v11 &&& 63) = 17
        · rw [if_pos c294] at hf
          refine V_tsw 17 886 919 dL_law_33 c294 (by decide) (by decide) (by decide) (by decide) ?_
          refine V_aload_n 2 920 rfl dL_law_919 rfl rfl ?_
          refine V_aload_n 3 921 rfl dL_law_920 rfl rfl ?_
          refine V_iload_n 0 922 rfl dL_law_921 rfl rfl ?_
          refine V_iconst 1 923 dL_law_922 rfl kiconst_1 ?_
          refine V_iadd 924 dL_law_923 rfl ?_
          obtain ⟨v296, h295, hf⟩ := ob hf
          refine V_sld 925 h295 hX dL_law_924 rfl ?_
          refine V_aload_n 3 926 rfl dL_law_925 rfl rfl ?_
          refine V_iload_n 0 927 rfl dL_law_926 rfl rfl ?_
          refine V_iconst 2 928 dL_law_927 rfl kiconst_2 ?_
          refine V_iadd 929 dL_law_928 rfl ?_
          obtain ⟨v298, h297, hf⟩ := ob hf
          refine V_sld 930 h297 hX dL_law_929 rfl ?_
          refine V_aload_n 3 931 rfl dL_law_930 rfl rfl ?_
          refine V_iload_n 0 932 rfl dL_law_931 rfl rfl ?_
          refine V_iconst 3 933 dL_law_932 rfl kiconst_3 ?_
          refine V_iadd 934 dL_law_933 rfl ?_
          obtain ⟨v300, h299, hf⟩ := ob hf
          refine V_sld 935 h299 hX dL_law_934 rfl ?_
          obtain ⟨p302, h301, hf⟩ := ob hf
          refine V_callV (rest := []) (T := TX7) (n := 10) (ci := 6) ce sl 938 [.int p302.1] (c_X7_prints l G (d + 358) _ _ _ _ _ _ _ h301) (by omega) ok_X7_prints okv_X7_prints (gd_X7_prints h301) rfl wd_ml_TwiceNoiseLaw_89 rfl rfl (Nat.le_of_ble_eq_true rfl) rfl rfl (Or.inl ⟨rfl, rfl⟩) dL_law_935 rfl rfl ?_
          refine V_aload_n 1 939 rfl dL_law_938 rfl rfl ?_
          refine V_aload_n 3 940 rfl dL_law_939 rfl rfl ?_
          refine V_iload_n 0 941 rfl dL_law_940 rfl rfl ?_
          refine V_iconst 1 942 dL_law_941 rfl kiconst_1 ?_
          refine V_iadd 943 dL_law_942 rfl ?_
          obtain ⟨v304, h303, hf⟩ := ob hf
          refine V_sld 944 h303 hX dL_law_943 rfl ?_
          refine V_aload_n 3 945 rfl dL_law_944 rfl rfl ?_
          refine V_iload_n 0 946 rfl dL_law_945 rfl rfl ?_
          refine V_iconst 2 947 dL_law_946 rfl kiconst_2 ?_
          refine V_iadd 948 dL_law_947 rfl ?_
          obtain ⟨v306, h305, hf⟩ := ob hf
          refine V_sld 949 h305 hX dL_law_948 rfl ?_
          refine V_aload_n 3 950 rfl dL_law_949 rfl rfl ?_
          refine V_iload_n 0 951 rfl dL_law_950 rfl rfl ?_
          refine V_iconst 3 952 dL_law_951 rfl kiconst_3 ?_
          refine V_iadd 953 dL_law_952 rfl ?_
          obtain ⟨v308, h307, hf⟩ := ob hf
          refine V_sld 954 h307 hX dL_law_953 rfl ?_
          obtain ⟨p310, h309, hf⟩ := ob hf
          refine V_callV (rest := [.int p302.1]) (T := TX8) (n := 27) (ci := 7) ce sl 957 [.int p310.1, .int p302.1] (c_X8_prints l G (d + 357) _ _ _ _ _ _ _ h309) (by omega) ok_X8_prints okv_X8_prints (gd_X8_prints h309) rfl wd_ml_TwiceNoiseLaw_92 rfl rfl (Nat.le_of_ble_eq_true rfl) rfl rfl (Or.inl ⟨rfl, rfl⟩) dL_law_954 rfl rfl ?_
          refine V_icmp_eq 1860 960 dL_law_957 (by decide) rfl (fun c311 => ?_) (fun c311 => ?_)
          · rw [if_pos c311] at hf
            refine V_iinc (x3 + 6) 0 [(3, .int (x3 + 6)), (2, .ref x2), (1, .ref x1), (0, .ref (1000 + 11))] 1863 dL_law_1860 rfl (by rw [kiconst_6]) (Nat.le_of_ble_eq_true rfl) rfl rfl ?_
            refine V_goto 18 dL_law_1863 (by decide) ?_
            refine V_ls [(3, .int (x3 + 6)), (2, .ref x2), (1, .ref x1), (0, .ref (1000 + 11))] [0, 1, 2, 3] rfl ?_
            refine V_cnt (ce1 := ce + 35) (sl1 := sl + 10240) (by omega) (by omega) ?_
            exact ih (ce + 35) (sl + 10240) (x3 + 6) p310.2 p hf (by omega) (by omega) (by rw [show ce + 35 + 35 * n = ce + 35 * (n + 1) from by omega, show sl + 10240 + 10240 * n = sl + 10240 * (n + 1) from by omega]; exact hk)
          · rw [if_neg c311] at hf
            refine V_iconst 0 961 dL_law_960 rfl kiconst_0 ?_
            cases hf
        rw [if_neg c294] at hf
        by_cases c312 : (v11 &&& 63) = 18
        · rw [if_pos c312] at hf
          refine V_tsw 18 929 962 dL_law_33 c312 (by decide) (by decide) (by decide) (by decide) ?_
          refine V_aload_n 2 963 rfl dL_law_962 rfl rfl ?_
          refine V_aload_n 3 964 rfl dL_law_963 rfl rfl ?_
          refine V_iload_n 0 965 rfl dL_law_964 rfl rfl ?_
          refine V_iconst 1 966 dL_law_965 rfl kiconst_1 ?_
          refine V_iadd 967 dL_law_966 rfl ?_
          obtain ⟨v314, h313, hf⟩ := ob hf
          refine V_sld 968 h313 hX dL_law_967 rfl ?_
          refine V_aload_n 3 969 rfl dL_law_968 rfl rfl ?_
          refine V_iload_n 0 970 rfl dL_law_969 rfl rfl ?_
          refine V_iconst 2 971 dL_law_970 rfl kiconst_2 ?_
          refine V_iadd 972 dL_law_971 rfl ?_
          obtain ⟨v316, h315, hf⟩ := ob hf
          refine V_sld 973 h315 hX dL_law_972 rfl ?_
          refine V_aload_n 3 974 rfl dL_law_973 rfl rfl ?_
          refine V_iload_n 0 975 rfl dL_law_974 rfl rfl ?_
          refine V_iconst 3 976 dL_law_975 rfl kiconst_3 ?_
          refine V_iadd 977 dL_law_976 rfl ?_
          obtain ⟨v318, h317, hf⟩ := ob hf
          refine V_sld 978 h317 hX dL_law_977 rfl ?_
          obtain ⟨p320, h319, hf⟩ := ob hf
          refine V_callV (rest := []) (T := TX7) (n := 10) (ci := 6) ce sl 981 [.int p320.1] (c_X7_worked l G (d + 57) _ _ _ _ _ _ _ h319) (by omega) ok_X7_worked okv_X7_worked (gd_X7_worked h319) rfl wd_ml_TwiceNoiseLaw_93 rfl rfl (Nat.le_of_ble_eq_true rfl) rfl rfl (Or.inl ⟨rfl, rfl⟩) dL_law_978 rfl rfl ?_
          refine V_aload_n 1 982 rfl dL_law_981 rfl rfl ?_
          refine V_aload_n 3 983 rfl dL_law_982 rfl rfl ?_
          refine V_iload_n 0 984 rfl dL_law_983 rfl rfl ?_
          refine V_iconst 1 985 dL_law_984 rfl kiconst_1 ?_
          refine V_iadd 986 dL_law_985 rfl ?_
          obtain ⟨v322, h321, hf⟩ := ob hf
          refine V_sld 987 h321 hX dL_law_986 rfl ?_
          refine V_aload_n 3 988 rfl dL_law_987 rfl rfl ?_
          refine V_iload_n 0 989 rfl dL_law_988 rfl rfl ?_
          refine V_iconst 2 990 dL_law_989 rfl kiconst_2 ?_
          refine V_iadd 991 dL_law_990 rfl ?_
          obtain ⟨v324, h323, hf⟩ := ob hf
          refine V_sld 992 h323 hX dL_law_991 rfl ?_
          refine V_aload_n 3 993 rfl dL_law_992 rfl rfl ?_
          refine V_iload_n 0 994 rfl dL_law_993 rfl rfl ?_
          refine V_iconst 3 995 dL_law_994 rfl kiconst_3 ?_
          refine V_iadd 996 dL_law_995 rfl ?_
          obtain ⟨v326, h325, hf⟩ := ob hf
          refine V_sld 997 h325 hX dL_law_996 rfl ?_
          obtain ⟨p328, h327, hf⟩ := ob hf
          refine V_callV (rest := [.int p320.1]) (T := TX8) (n := 27) (ci := 7) ce sl 1000 [.int p328.1, .int p320.1] (c_X8_worked l G (d + 357) _ _ _ _ _ _ _ h327) (by omega) ok_X8_worked okv_X8_worked (gd_X8_worked h327) rfl wd_ml_TwiceNoiseLaw_96 rfl rfl (Nat.le_of_ble_eq_true rfl) rfl rfl (Or.inl ⟨rfl, rfl⟩) dL_law_997 rfl rfl ?_
          refine V_icmp_eq 1860 1003 dL_law_1000 (by decide) rfl (fun c329 => ?_) (fun c329 => ?_)
          · rw [if_pos c329] at hf
            refine V_iinc (x3 + 6) 0 [(3, .int (x3 + 6)), (2, .ref x2), (1, .ref x1), (0, .ref (1000 + 11))] 1863 dL_law_1860 rfl (by rw [kiconst_6]) (Nat.le_of_ble_eq_true rfl) rfl rfl ?_
            refine V_goto 18 dL_law_1863 (by decide) ?_
            refine V_ls [(3, .int (x3 + 6)), (2, .ref x2), (1, .ref x1), (0, .ref (1000 + 11))] [0, 1, 2, 3] rfl ?_
            refine V_cnt (ce1 := ce + 35) (sl1 := sl + 10240) (by omega) (by omega) ?_
            exact ih (ce + 35) (sl + 10240) (x3 + 6) p328.2 p hf (by omega) (by omega) (by rw [show ce + 35 + 35 * n = ce + 35 * (n + 1) from by omega, show sl + 10240 + 10240 * n = sl + 10240 * (n + 1) from by omega]; exact hk)
          · rw [if_neg c329] at hf
            refine V_iconst 0 1004 dL_law_1003 rfl kiconst_0 ?_
            cases hf
        rw [if_neg c312] at hf
        by_cases c330 : (v11 &&& 63) = 19
        · rw [if_pos c330] at hf
          refine V_tsw 19 972 1005 dL_law_33 c330 (by decide) (by decide) (by decide) (by decide) ?_
          refine V_aload_n 2 1006 rfl dL_law_1005 rfl rfl ?_
          refine V_aload_n 3 1007 rfl dL_law_1006 rfl rfl ?_
          refine V_iload_n 0 1008 rfl dL_law_1007 rfl rfl ?_
          refine V_iconst 1 1009 dL_law_1008 rfl kiconst_1 ?_
          refine V_iadd 1010 dL_law_1009 rfl ?_
          obtain ⟨v332, h331, hf⟩ := ob hf
          refine V_sld 1011 h331 hX dL_law_1010 rfl ?_
          obtain ⟨p334, h333, hf⟩ := ob hf
          refine V_callV (rest := []) (T := TX7) (n := 10) (ci := 6) ce sl 1014 [.int p334.1] (c_X7_sign l G (d + 57) _ _ _ _ _ h333) (by omega) ok_X7_sign okv_X7_sign (gd_X7_sign h333) rfl wd_ml_TwiceNoiseLaw_97 rfl rfl (Nat.le_of_ble_eq_true rfl) rfl rfl (Or.inl ⟨rfl, rfl⟩) dL_law_1011 rfl rfl ?_
          refine V_aload_n 1 1015 rfl dL_law_1014 rfl rfl ?_
          refine V_aload_n 3 1016 rfl dL_law_1015 rfl rfl ?_
          refine V_iload_n 0 1017 rfl dL_law_1016 rfl rfl ?_
          refine V_iconst 1 1018 dL_law_1017 rfl kiconst_1 ?_
          refine V_iadd 1019 dL_law_1018 rfl ?_
          obtain ⟨v336, h335, hf⟩ := ob hf
          refine V_sld 1020 h335 hX dL_law_1019 rfl ?_
          obtain ⟨p338, h337, hf⟩ := ob hf
          refine V_callV (rest := [.int p334.1]) (T := TX8) (n := 27) (ci := 7) ce sl 1023 [.int p338.1, .int p334.1] (c_X8_sign l G (d + 356) _ _ _ _ _ h337) (by omega) ok_X8_sign okv_X8_sign (gd_X8_sign h337) rfl wd_ml_TwiceNoiseLaw_100 rfl rfl (Nat.le_of_ble_eq_true rfl) rfl rfl (Or.inl ⟨rfl, rfl⟩) dL_law_1020 rfl rfl ?_
          refine V_icmp_eq 1860 1026 dL_law_1023 (by decide) rfl (fun c339 => ?_) (fun c339 => ?_)
          · rw [if_pos c339] at hf
            refine V_iinc (x3 + 6) 0 [(3, .int (x3 + 6)), (2, .ref x2), (1, .ref x1), (0, .ref (1000 + 11))] 1863 dL_law_1860 rfl (by rw [kiconst_6]) (Nat.le_of_ble_eq_true rfl) rfl rfl ?_
            refine V_goto 18 dL_law_1863 (by decide) ?_
            refine V_ls [(3, .int (x3 + 6)), (2, .ref x2), (1, .ref x1), (0, .ref (1000 + 11))] [0, 1, 2, 3] rfl ?_
            refine V_cnt (ce1 := ce + 35) (sl1 := sl + 10240) (by omega) (by omega) ?_
            exact ih (ce + 35) (sl + 10240) (x3 + 6) p338.2 p hf (by omega) (by omega) (by rw [show ce + 35 + 35 * n = ce + 35 * (n + 1) from by omega, show sl + 10240 + 10240 * n = sl + 10240 * (n + 1) from by omega]; exact hk)
          · rw [if_neg c339] at hf
            refine V_iconst 0 1027 dL_law_1026 rfl kiconst_0 ?_
            cases hf
        rw [if_neg c330] at hf
        by_cases c340 : (v11 &&& 63) = 20
        · rw [if_pos c340] at hf
          refine V_tsw 20 995 1028 dL_law_33 c340 (by decide) (by decide) (by decide) (by decide) ?_
          refine V_aload_n 2 1029 rfl dL_law_1028 rfl rfl ?_
          obtain ⟨p342, h341, hf⟩ := ob hf
          refine V_callV (rest := []) (T := TX7) (n := 10) (ci := 6) ce sl 1032 [.int p342.1] (c_X7_unsigned l G (d + 57) _ _ _ _ h341) (by omega) ok_X7_unsigned okv_X7_unsigned (gd_X7_unsigned h341) rfl wd_ml_TwiceNoiseLaw_101 rfl rfl (Nat.le_of_ble_eq_true rfl) rfl rfl (Or.inl ⟨rfl, rfl⟩) dL_law_1029 rfl rfl ?_
          refine V_aload_n 1 1033 rfl dL_law_1032 rfl rfl ?_
          obtain ⟨p344, h343, hf⟩ := ob hf
          refine V_callV (rest := [.int p342.1]) (T := TX8) (n := 27) (ci := 7) ce sl 1036 [.int p344.1, .int p342.1] (c_X8_unsigned l G (d + 356) _ _ _ _ h343) (by omega) ok_X8_unsigned okv_X8_unsigned (gd_X8_unsigned h343) rfl wd_ml_TwiceNoiseLaw_105 rfl rfl (Nat.le_of_ble_eq_true rfl) rfl rfl (Or.inl ⟨rfl, rfl⟩) dL_law_1033 rfl rfl ?_
          refine V_icmp_eq 1860 1039 dL_law_1036 (by decide) rfl (fun c345 => ?_) (fun c345 => ?_)
          · rw [if_pos c345] at hf
            refine V_iinc (x3 + 6) 0 [(3, .int (x3 + 6)), (2, .ref x2), (1, .ref x1), (0, .ref (1000 + 11))] 1863 dL_law_1860 rfl (by rw [kiconst_6]) (Nat.le_of_ble_eq_true rfl) rfl rfl ?_
            refine V_goto 18 dL_law_1863 (by decide) ?_
            refine V_ls [(3, .int (x3 + 6)), (2, .ref x2), (1, .ref x1), (0, .ref (1000 + 11))] [0, 1, 2, 3] rfl ?_
            refine V_cnt (ce1 := ce + 35) (sl1 := sl + 10240) (by omega) (by omega) ?_
            exact ih (ce + 35) (sl + 10240) (x3 + 6) p344.2 p hf (by omega) (by omega) (by rw [show ce + 35 + 35 * n = ce + 35 * (n + 1) from by omega, show sl + 10240 + 10240 * n = sl + 10240 * (n + 1) from by omega]; exact hk)
          · rw [if_neg c345] at hf
            refine V_iconst 0 1040 dL_law_1039 rfl kiconst_0 ?_
            cases hf
        rw [if_neg c340] at hf
        by_cases c346 : (v11 &&& 63) = 21
        · rw [if_pos c346] at hf
          refine V_tsw 21 1008 1041 dL_law_33 c346 (by decide) (by decide) (by decide) (by decide) ?_
          refine V_aload_n 2 1042 rfl dL_law_1041 rfl rfl ?_
          refine V_aload_n 3 1043 rfl dL_law_1042 rfl rfl ?_
          refine V_iload_n 0 1044 rfl dL_law_1043 rfl rfl ?_
          refine V_iconst 1 1045 dL_law_1044 rfl kiconst_1 ?_
          refine V_iadd 1046 dL_law_1045 rfl ?_
          obtain ⟨v348, h347, hf⟩ := ob hf
          refine V_sld 1047 h347 hX dL_law_1046 rfl ?_
          refine V_aload_n 3 1048 rfl dL_law_1047 rfl rfl ?_
          refine V_iload_n 0 1049 rfl dL_law_1048 rfl rfl ?_
          refine V_iconst 2 1050 dL_law_1049 rfl kiconst_2 ?_
          refine V_iadd 1051 dL_law_1050 rfl ?_
          obtain ⟨v350, h349, hf⟩ := ob hf
          refine V_sld 1052 h349 hX dL_law_1051 rfl ?_
          refine V_aload_n 3 1053 rfl dL_law_1052 rfl rfl ?_
          refine V_iload_n 0 1054 rfl dL_law_1053 rfl rfl ?_
          refine V_iconst 3 1055 dL_law_1054 rfl kiconst_3 ?_
          refine V_iadd 1056 dL_law_1055 rfl ?_
          obtain ⟨v352, h351, hf⟩ := ob hf
          refine V_sld 1057 h351 hX dL_law_1056 rfl ?_
          refine V_aload_n 3 1058 rfl dL_law_1057 rfl rfl ?_
          refine V_iload_n 0 1059 rfl dL_law_1058 rfl rfl ?_
          refine V_iconst 4 1060 dL_law_1059 rfl kiconst_4 ?_
          refine V_iadd 1061 dL_law_1060 rfl ?_
          obtain ⟨v354, h353, hf⟩ := ob hf
          refine V_sld 1062 h353 hX dL_law_1061 rfl ?_
          obtain ⟨p356, h355, hf⟩ := ob hf
          refine V_callV (rest := []) (T := TX7) (n := 10) (ci := 6) ce sl 1065 [.long p356.1] (c_X7_honest l G (d + 358) _ _ _ _ _ _ _ _ h355) (by omega) ok_X7_honest okv_X7_honest (gd_X7_honest h355) rfl wd_ml_TwiceNoiseLaw_106 rfl rfl (Nat.le_of_ble_eq_true rfl) rfl rfl (Or.inl ⟨rfl, rfl⟩) dL_law_1062 rfl rfl ?_
          refine V_aload_n 1 1066 rfl dL_law_1065 rfl rfl ?_
          refine V_aload_n 3 1067 rfl dL_law_1066 rfl rfl ?_
          refine V_iload_n 0 1068 rfl dL_law_1067 rfl rfl ?_
          refine V_iconst 1 1069 dL_law_1068 rfl kiconst_1 ?_
          refine V_iadd 1070 dL_law_1069 rfl ?_
          obtain ⟨v358, h357, hf⟩ := ob hf
          refine V_sld 1071 h357 hX dL_law_1070 rfl ?_
          refine V_aload_n 3 1072 rfl dL_law_1071 rfl rfl ?_
          refine V_iload_n 0 1073 rfl dL_law_1072 rfl rfl ?_
          refine V_iconst 2 1074 dL_law_1073 rfl kiconst_2 ?_
          refine V_iadd 1075 dL_law_1074 rfl ?_
          obtain ⟨v360, h359, hf⟩ := ob hf
          refine V_sld 1076 h359 hX dL_law_1075 rfl ?_
          refine V_aload_n 3 1077 rfl dL_law_1076 rfl rfl ?_
          refine V_iload_n 0 1078 rfl dL_law_1077 rfl rfl ?_
          refine V_iconst 3 1079 dL_law_1078 rfl kiconst_3 ?_
          refine V_iadd 1080 dL_law_1079 rfl ?_
          obtain ⟨v362, h361, hf⟩ := ob hf
          refine V_sld 1081 h361 hX dL_law_1080 rfl ?_
          refine V_aload_n 3 1082 rfl dL_law_1081 rfl rfl ?_
          refine V_iload_n 0 1083 rfl dL_law_1082 rfl rfl ?_
          refine V_iconst 4 1084 dL_law_1083 rfl kiconst_4 ?_
          refine V_iadd 1085 dL_law_1084 rfl ?_
          obtain ⟨v364, h363, hf⟩ := ob hf
          refine V_sld 1086 h363 hX dL_law_1085 rfl ?_
          obtain ⟨p366, h365, hf⟩ := ob hf
          refine V_callV (rest := [.long p356.1]) (T := TX8) (n := 27) (ci := 7) ce sl 1089 [.long p366.1, .long p356.1] (c_X8_honest l G (d + 300) _ _ _ _ _ _ _ _ h365) (by omega) ok_X8_honest okv_X8_honest (gd_X8_honest h365) rfl wd_ml_TwiceNoiseLaw_110 rfl rfl (Nat.le_of_ble_eq_true rfl) rfl rfl (Or.inl ⟨rfl, rfl⟩) dL_law_1086 rfl rfl ?_
          refine V_lcmp 1090 dL_law_1089 rfl ?_
          refine V_if_eq 1860 1093 dL_law_1090 (by decide) rfl (fun c367 => ?_) (fun c367 => ?_)
          · rw [if_pos c367] at hf
            refine V_iinc (x3 + 6) 0 [(3, .int (x3 + 6)), (2, .ref x2), (1, .ref x1), (0, .ref (1000 + 11))] 1863 dL_law_1860 rfl (by rw [kiconst_6]) (Nat.le_of_ble_eq_true rfl) rfl rfl ?_
            refine V_goto 18 dL_law_1863 (by decide) ?_
            refine V_ls [(3, .int (x3 + 6)), (2, .ref x2), (1, .ref x1), (0, .ref (1000 + 11))] [0, 1, 2, 3] rfl ?_
            refine V_cnt (ce1 := ce + 35) (sl1 := sl + 10240) (by omega) (by omega) ?_
            exact ih (ce + 35) (sl + 10240) (x3 + 6) p366.2 p hf (by omega) (by omega) (by rw [show ce + 35 + 35 * n = ce + 35 * (n + 1) from by omega, show sl + 10240 + 10240 * n = sl + 10240 * (n + 1) from by omega]; exact hk)
          · rw [if_neg c367] at hf
            refine V_iconst 0 1094 dL_law_1093 rfl kiconst_0 ?_
            cases hf
        rw [if_neg c346] at hf
        by_cases c368 : (v11 &&& 63) = 22
        · rw [if_pos c368] at hf
          refine V_tsw 22 1062 1095 dL_law_33 c368 (by decide) (by decide) (by decide) (by decide) ?_
          refine V_aload_n 2 1096 rfl dL_law_1095 rfl rfl ?_
          refine V_aload_n 3 1097 rfl dL_law_1096 rfl rfl ?_
          refine V_iload_n 0 1098 rfl dL_law_1097 rfl rfl ?_
          refine V_iconst 1 1099 dL_law_1098 rfl kiconst_1 ?_
          refine V_iadd 1100 dL_law_1099 rfl ?_
          obtain ⟨v370, h369, hf⟩ := ob hf
          refine V_sld 1101 h369 hX dL_law_1100 rfl ?_
          refine V_aload_n 3 1102 rfl dL_law_1101 rfl rfl ?_
          refine V_iload_n 0 1103 rfl dL_law_1102 rfl rfl ?_
          refine V_iconst 2 1104 dL_law_1103 rfl kiconst_2 ?_
          refine V_iadd 1105 dL_law_1104 rfl ?_
          obtain ⟨v372, h371, hf⟩ := ob hf
          refine V_sld 1106 h371 hX dL_law_1105 rfl ?_
          obtain ⟨p374, h373, hf⟩ := ob hf
          refine V_callV (rest := []) (T := TX7) (n := 10) (ci := 6) ce sl 1109 [.int p374.1] (c_X7_could l G (d + 355) _ _ _ _ _ _ h373) (by omega) ok_X7_could okv_X7_could (gd_X7_could h373) rfl wd_ml_TwiceNoiseLaw_111 rfl rfl (Nat.le_of_ble_eq_true rfl) rfl rfl (Or.inl ⟨rfl, rfl⟩) dL_law_1106 rfl rfl ?_
          refine V_aload_n 1 1110 rfl dL_law_1109 rfl rfl ?_
          refine V_aload_n 3 1111 rfl dL_law_1110 rfl rfl ?_
          refine V_iload_n 0 1112 rfl dL_law_1111 rfl rfl ?_
          refine V_iconst 1 1113 dL_law_1112 rfl kiconst_1 ?_
          refine V_iadd 1114 dL_law_1113 rfl ?_
          obtain ⟨v376, h375, hf⟩ := ob hf
          refine V_sld 1115 h375 hX dL_law_1114 rfl ?_
          refine V_aload_n 3 1116 rfl dL_law_1115 rfl rfl ?_
          refine V_iload_n 0 1117 rfl dL_law_1116 rfl rfl ?_
          refine V_iconst 2 1118 dL_law_1117 rfl kiconst_2 ?_
          refine V_iadd 1119 dL_law_1118 rfl ?_
          obtain ⟨v378, h377, hf⟩ := ob hf
          refine V_sld 1120 h377 hX dL_law_1119 rfl ?_
          obtain ⟨p380, h379, hf⟩ := ob hf
          refine V_callV (rest := [.int p374.1]) (T := TX8) (n := 27) (ci := 7) ce sl 1123 [.int p380.1, .int p374.1] (c_X8_could l G (d + 297) _ _ _ _ _ _ h379) (by omega) ok_X8_could okv_X8_could (gd_X8_could h379) rfl wd_ml_TwiceNoiseLaw_114 rfl rfl (Nat.le_of_ble_eq_true rfl) rfl rfl (Or.inl ⟨rfl, rfl⟩) dL_law_1120 rfl rfl ?_
          refine V_icmp_eq 1860 1126 dL_law_1123 (by decide) rfl (fun c381 => ?_) (fun c381 => ?_)
          · rw [if_pos c381] at hf
            refine V_iinc (x3 + 6) 0 [(3, .int (x3 + 6)), (2, .ref x2), (1, .ref x1), (0, .ref (1000 + 11))] 1863 dL_law_1860 rfl (by rw [kiconst_6]) (Nat.le_of_ble_eq_true rfl) rfl rfl ?_
            refine V_goto 18 dL_law_1863 (by decide) ?_
            refine V_ls [(3, .int (x3 + 6)), (2, .ref x2), (1, .ref x1), (0, .ref (1000 + 11))] [0, 1, 2, 3] rfl ?_
            refine V_cnt (ce1 := ce + 35) (sl1 := sl + 10240) (by omega) (by omega) ?_
            exact ih (ce + 35) (sl + 10240) (x3 + 6) p380.2 p hf (by omega) (by omega) (by rw [show ce + 35 + 35 * n = ce + 35 * (n + 1) from by omega, show sl + 10240 + 10240 * n = sl + 10240 * (n + 1) from by omega]; exact hk)
          · rw [if_neg c381] at hf
            refine V_iconst 0 1127 dL_law_1126 rfl kiconst_0 ?_
            cases hf
        rw [if_neg c368] at hf
        by_cases c382 : (v11 &&& 63) = 23
        · rw [if_pos c382] at hf
          refine V_tsw 23 1095 1128 dL_law_33 c382 (by decide) (by decide) (by decide) (by decide) ?_
          refine V_aload_n 2 1129 rfl dL_law_1128 rfl rfl ?_
          refine V_aload_n 3 1130 rfl dL_law_1129 rfl rfl ?_
          refine V_iload_n 0 1131 rfl dL_law_1130 rfl rfl ?_
          refine V_iconst 1 1132 dL_law_1131 rfl kiconst_1 ?_
          refine V_iadd 1133 dL_law_1132 rfl ?_
          obtain ⟨v384, h383, hf⟩ := ob hf
          refine V_sld 1134 h383 hX dL_law_1133 rfl ?_
          obtain ⟨p386, h385, hf⟩ := ob hf
          refine V_callV (rest := []) (T := TX7) (n := 10) (ci := 6) ce sl 1137 [.int p386.1] (c_X7_sources l G (d + 355) _ _ _ _ _ h385) (by omega) ok_X7_sources okv_X7_sources (gd_X7_sources h385) rfl wd_ml_TwiceNoiseLaw_115 rfl rfl (Nat.le_of_ble_eq_true rfl) rfl rfl (Or.inl ⟨rfl, rfl⟩) dL_law_1134 rfl rfl ?_
          refine V_aload_n 1 1138 rfl dL_law_1137 rfl rfl ?_
          refine V_aload_n 3 1139 rfl dL_law_1138 rfl rfl ?_
          refine V_iload_n 0 1140 rfl dL_law_1139 rfl rfl ?_
          refine V_iconst 1 1141 dL_law_1140 rfl kiconst_1 ?_
          refine V_iadd 1142 dL_law_1141 rfl ?_
          obtain ⟨v388, h387, hf⟩ := ob hf
          refine V_sld 1143 h387 hX dL_law_1142 rfl ?_
          obtain ⟨p390, h389, hf⟩ := ob hf
          refine V_callV (rest := [.int p386.1]) (T := TX8) (n := 27) (ci := 7) ce sl 1146 [.int p390.1, .int p386.1] (c_X8_sources l G (d + 296) _ _ _ _ _ h389) (by omega) ok_X8_sources okv_X8_sources (gd_X8_sources h389) rfl wd_ml_TwiceNoiseLaw_118 rfl rfl (Nat.le_of_ble_eq_true rfl) rfl rfl (Or.inl ⟨rfl, rfl⟩) dL_law_1143 rfl rfl ?_
          refine V_icmp_eq 1860 1149 dL_law_1146 (by decide) rfl (fun c391 => ?_) (fun c391 => ?_)
          · rw [if_pos c391] at hf
            refine V_iinc (x3 + 6) 0 [(3, .int (x3 + 6)), (2, .ref x2), (1, .ref x1), (0, .ref (1000 + 11))] 1863 dL_law_1860 rfl (by rw [kiconst_6]) (Nat.le_of_ble_eq_true rfl) rfl rfl ?_
            refine V_goto 18 dL_law_1863 (by decide) ?_
            refine V_ls [(3, .int (x3 + 6)), (2, .ref x2), (1, .ref x1), (0, .ref (1000 + 11))] [0, 1, 2, 3] rfl ?_
            refine V_cnt (ce1 := ce + 35) (sl1 := sl + 10240) (by omega) (by omega) ?_
            exact ih (ce + 35) (sl + 10240) (x3 + 6) p390.2 p hf (by omega) (by omega) (by rw [show ce + 35 + 35 * n = ce + 35 * (n + 1) from by omega, show sl + 10240 + 10240 * n = sl + 10240 * (n + 1) from by omega]; exact hk)
          · rw [if_neg c391] at hf
            refine V_iconst 0 1150 dL_law_1149 rfl kiconst_0 ?_
            cases hf
        rw [if_neg c382] at hf
        by_cases c392 : (v11 &&& 63) = 24
        · rw [if_pos c392] at hf
          refine V_tsw 24 1118 1151 dL_law_33 c392 (by decide) (by decide) (by decide) (by decide) ?_
          refine V_aload_n 2 1152 rfl dL_law_1151 rfl rfl ?_
          refine V_aload_n 3 1153 rfl dL_law_1152 rfl rfl ?_
          refine V_iload_n 0 1154 rfl dL_law_1153 rfl rfl ?_
          refine V_iconst 1 1155 dL_law_1154 rfl kiconst_1 ?_
          refine V_iadd 1156 dL_law_1155 rfl ?_
          obtain ⟨v394, h393, hf⟩ := ob hf
          refine V_sld 1157 h393 hX dL_law_1156 rfl ?_
          obtain ⟨p396, h395, hf⟩ := ob hf
          refine V_callV (rest := []) (T := TX7) (n := 10) (ci := 6) ce sl 1160 [.int p396.1] (c_X7_hands l G (d + 354) _ _ _ _ _ h395) (by omega) ok_X7_hands okv_X7_hands (gd_X7_hands h395) rfl wd_ml_TwiceNoiseLaw_119 rfl rfl (Nat.le_of_ble_eq_true rfl) rfl rfl (Or.inl ⟨rfl, rfl⟩) dL_law_1157 rfl rfl ?_
          refine V_aload_n 1 1161 rfl dL_law_1160 rfl rfl ?_
          refine V_aload_n 3 1162 rfl dL_law_1161 rfl rfl ?_
          refine V_iload_n 0 1163 rfl dL_law_1162 rfl rfl ?_
          refine V_iconst 1 1164 dL_law_1163 rfl kiconst_1 ?_
          refine V_iadd 1165 dL_law_1164 rfl ?_
          obtain ⟨v398, h397, hf⟩ := ob hf
          refine V_sld 1166 h397 hX dL_law_1165 rfl ?_
          obtain ⟨p400, h399, hf⟩ := ob hf
          refine V_callV (rest := [.int p396.1]) (T := TX8) (n := 27) (ci := 7) ce sl 1169 [.int p400.1, .int p396.1] (c_X8_hands l G (d + 296) _ _ _ _ _ h399) (by omega) ok_X8_hands okv_X8_hands (gd_X8_hands h399) rfl wd_ml_TwiceNoiseLaw_122 rfl rfl (Nat.le_of_ble_eq_true rfl) rfl rfl (Or.inl ⟨rfl, rfl⟩) dL_law_1166 rfl rfl ?_
          refine V_icmp_eq 1860 1172 dL_law_1169 (by decide) rfl (fun c401 => ?_) (fun c401 => ?_)
          · rw [if_pos c401] at hf
            refine V_iinc (x3 + 6) 0 [(3, .int (x3 + 6)), (2, .ref x2), (1, .ref x1), (0, .ref (1000 + 11))] 1863 dL_law_1860 rfl (by rw [kiconst_6]) (Nat.le_of_ble_eq_true rfl) rfl rfl ?_
            refine V_goto 18 dL_law_1863 (by decide) ?_
            refine V_ls [(3, .int (x3 + 6)), (2, .ref x2), (1, .ref x1), (0, .ref (1000 + 11))] [0, 1, 2, 3] rfl ?_
            refine V_cnt (ce1 := ce + 35) (sl1 := sl + 10240) (by omega) (by omega) ?_
            exact ih (ce + 35) (sl + 10240) (x3 + 6) p400.2 p hf (by omega) (by omega) (by rw [show ce + 35 + 35 * n = ce + 35 * (n + 1) from by omega, show sl + 10240 + 10240 * n = sl + 10240 * (n + 1) from by omega]; exact hk)
          · rw [if_neg c401] at hf
            refine V_iconst 0 1173 dL_law_1172 rfl kiconst_0 ?_
            cases hf
        rw [if_neg c392] at hf
        by_cases c402 : (v11 &&& 63) = 25
        · rw [if_pos c402] at hf
          refine V_tsw 25 1141 1174 dL_law_33 c402 (by decide) (by decide) (by decide) (by decide) ?_
          refine V_aload_n 2 1175 rfl dL_law_1174 rfl rfl ?_
          refine V_aload_n 3 1176 rfl dL_law_1175 rfl rfl ?_
          refine V_iload_n 0 1177 rfl dL_law_1176 rfl rfl ?_
          refine V_iconst 1 1178 dL_law_1177 rfl kiconst_1 ?_
          refine V_iadd 1179 dL_law_1178 rfl ?_
          obtain ⟨v404, h403, hf⟩ := ob hf
          refine V_sld 1180 h403 hX dL_law_1179 rfl ?_
          refine V_aload_n 3 1181 rfl dL_law_1180 rfl rfl ?_
          refine V_iload_n 0 1182 rfl dL_law_1181 rfl rfl ?_
          refine V_iconst 2 1183 dL_law_1182 rfl kiconst_2 ?_
          refine V_iadd 1184 dL_law_1183 rfl ?_
          obtain ⟨v406, h405, hf⟩ := ob hf
          refine V_sld 1185 h405 hX dL_law_1184 rfl ?_
          obtain ⟨p408, h407, hf⟩ := ob hf
          refine V_callV (rest := []) (T := TX7) (n := 10) (ci := 6) ce sl 1188 [.int p408.1] (c_X7_saw l G (d + 358) _ _ _ _ _ _ h407) (by omega) ok_X7_saw okv_X7_saw (gd_X7_saw h407) rfl wd_ml_TwiceNoiseLaw_123 rfl rfl (Nat.le_of_ble_eq_true rfl) rfl rfl (Or.inl ⟨rfl, rfl⟩) dL_law_1185 rfl rfl ?_
          refine V_aload_n 1 1189 rfl dL_law_1188 rfl rfl ?_
          refine V_aload_n 3 1190 rfl dL_law_1189 rfl rfl ?_
          refine V_iload_n 0 1191 rfl dL_law_1190 rfl rfl ?_
          refine V_iconst 1 1192 dL_law_1191 rfl kiconst_1 ?_
          refine V_iadd 1193 dL_law_1192 rfl ?_
          obtain ⟨v410, h409, hf⟩ := ob hf
          refine V_sld 1194 h409 hX dL_law_1193 rfl ?_
          refine V_aload_n 3 1195 rfl dL_law_1194 rfl rfl ?_
          refine V_iload_n 0 1196 rfl dL_law_1195 rfl rfl ?_
          refine V_iconst 2 1197 dL_law_1196 rfl kiconst_2 ?_
          refine V_iadd 1198 dL_law_1197 rfl ?_
          obtain ⟨v412, h411, hf⟩ := ob hf
          refine V_sld 1199 h411 hX dL_law_1198 rfl ?_
          obtain ⟨p414, h413, hf⟩ := ob hf
          refine V_callV (rest := [.int p408.1]) (T := TX8) (n := 27) (ci := 7) ce sl 1202 [.int p414.1, .int p408.1] (c_X8_saw l G (d + 359) _ _ _ _ _ _ h413) (by omega) ok_X8_saw okv_X8_saw (gd_X8_saw h413) rfl wd_ml_TwiceNoiseLaw_126 rfl rfl (Nat.le_of_ble_eq_true rfl) rfl rfl (Or.inl ⟨rfl, rfl⟩) dL_law_1199 rfl rfl ?_
          refine V_icmp_eq 1860 1205 dL_law_1202 (by decide) rfl (fun c415 => ?_) (fun c415 => ?_)
          · rw [if_pos c415] at hf
            refine V_iinc (x3 + 6) 0 [(3, .int (x3 + 6)), (2, .ref x2), (1, .ref x1), (0, .ref (1000 + 11))] 1863 dL_law_1860 rfl (by rw [kiconst_6]) (Nat.le_of_ble_eq_true rfl) rfl rfl ?_
            refine V_goto 18 dL_law_1863 (by decide) ?_
            refine V_ls [(3, .int (x3 + 6)), (2, .ref x2), (1, .ref x1), (0, .ref (1000 + 11))] [0, 1, 2, 3] rfl ?_
            refine V_cnt (ce1 := ce + 35) (sl1 := sl + 10240) (by omega) (by omega) ?_
            exact ih (ce + 35) (sl + 10240) (x3 + 6) p414.2 p hf (by omega) (by omega) (by rw [show ce + 35 + 35 * n = ce + 35 * (n + 1) from by omega, show sl + 10240 + 10240 * n = sl + 10240 * (n + 1) from by omega]; exact hk)
          · rw [if_neg c415] at hf
            refine V_iconst 0 1206 dL_law_1205 rfl kiconst_0 ?_
            cases hf
        rw [if_neg c402] at hf
        by_cases c416 : (v11 &&& 63) = 26
        · rw [if_pos c416] at hf
          refine V_tsw 26 1174 1207 dL_law_33 c416 (by decide) (by decide) (by decide) (by decide) ?_
          refine V_aload_n 2 1208 rfl dL_law_1207 rfl rfl ?_
          refine V_aload_n 3 1209 rfl dL_law_1208 rfl rfl ?_
          refine V_iload_n 0 1210 rfl dL_law_1209 rfl rfl ?_
          refine V_iconst 1 1211 dL_law_1210 rfl kiconst_1 ?_
          refine V_iadd 1212 dL_law_1211 rfl ?_
          obtain ⟨v418, h417, hf⟩ := ob hf
          refine V_sld 1213 h417 hX dL_law_1212 rfl ?_
          refine V_aload_n 3 1214 rfl dL_law_1213 rfl rfl ?_
          refine V_iload_n 0 1215 rfl dL_law_1214 rfl rfl ?_
          refine V_iconst 2 1216 dL_law_1215 rfl kiconst_2 ?_
          refine V_iadd 1217 dL_law_1216 rfl ?_
          obtain ⟨v420, h419, hf⟩ := ob hf
          refine V_sld 1218 h419 hX dL_law_1217 rfl ?_
          obtain ⟨p422, h421, hf⟩ := ob hf
          refine V_callV (rest := []) (T := TX7) (n := 10) (ci := 6) ce sl 1221 [.int p422.1] (c_X7_rests l G (d + 358) _ _ _ _ _ _ h421) (by omega) ok_X7_rests okv_X7_rests (gd_X7_rests h421) rfl wd_ml_TwiceNoiseLaw_127 rfl rfl (Nat.le_of_ble_eq_true rfl) rfl rfl (Or.inl ⟨rfl, rfl⟩) dL_law_1218 rfl rfl ?_
          refine V_aload_n 1 1222 rfl dL_law_1221 rfl rfl ?_
          refine V_aload_n 3 1223 rfl dL_law_1222 rfl rfl ?_
          refine V_iload_n 0 1224 rfl dL_law_1223 rfl rfl ?_
          refine V_iconst 1 1225 dL_law_1224 rfl kiconst_1 ?_
          refine V_iadd 1226 dL_law_1225 rfl ?_
          obtain ⟨v424, h423, hf⟩ := ob hf
          refine V_sld 1227 h423 hX dL_law_1226 rfl ?_
          refine V_aload_n 3 1228 rfl dL_law_1227 rfl rfl ?_
          refine V_iload_n 0 1229 rfl dL_law_1228 rfl rfl ?_
          refine V_iconst 2 1230 dL_law_1229 rfl kiconst_2 ?_
          refine V_iadd 1231 dL_law_1230 rfl ?_
          obtain ⟨v426, h425, hf⟩ := ob hf
          refine V_sld 1232 h425 hX dL_law_1231 rfl ?_
          obtain ⟨p428, h427, hf⟩ := ob hf
          refine V_callV (rest := [.int p422.1]) (T := TX8) (n := 27) (ci := 7) ce sl 1235 [.int p428.1, .int p422.1] (c_X8_rests l G (d + 358) _ _ _ _ _ _ h427) (by omega) ok_X8_rests okv_X8_rests (gd_X8_rests h427) rfl wd_ml_TwiceNoiseLaw_130 rfl rfl (Nat.le_of_ble_eq_true rfl) rfl rfl (Or.inl ⟨rfl, rfl⟩) dL_law_1232 rfl rfl ?_
          refine V_icmp_eq 1860 1238 dL_law_1235 (by decide) rfl (fun c429 => ?_) (fun c429 => ?_)
          · rw [if_pos c429] at hf
            refine V_iinc (x3 + 6) 0 [(3, .int (x3 + 6)), (2, .ref x2), (1, .ref x1), (0, .ref (1000 + 11))] 1863 dL_law_1860 rfl (by rw [kiconst_6]) (Nat.le_of_ble_eq_true rfl) rfl rfl ?_
            refine V_goto 18 dL_law_1863 (by decide) ?_
            refine V_ls [(3, .int (x3 + 6)), (2, .ref x2), (1, .ref x1), (0, .ref (1000 + 11))] [0, 1, 2, 3] rfl ?_
            refine V_cnt (ce1 := ce + 35) (sl1 := sl + 10240) (by omega) (by omega) ?_
            exact ih (ce + 35) (sl + 10240) (x3 + 6) p428.2 p hf (by omega) (by omega) (by rw [show ce + 35 + 35 * n = ce + 35 * (n + 1) from by omega, show sl + 10240 + 10240 * n = sl + 10240 * (n + 1) from by omega]; exact hk)
          · rw [if_neg c429] at hf
            refine V_iconst 0 1239 dL_law_1238 rfl kiconst_0 ?_
            cases hf
        rw [if_neg c416] at hf
        by_cases c430 : (v11 &&& 63) = 27
        · rw [if_pos c430] at hf
          refine V_tsw 27 1207 1240 dL_law_33 c430 (by decide) (by decide) (by decide) (by decide) ?_
          refine V_aload_n 2 1241 rfl dL_law_1240 rfl rfl ?_
          refine V_aload_n 3 1242 rfl dL_law_1241 rfl rfl ?_
          refine V_iload_n 0 1243 rfl dL_law_1242 rfl rfl ?_
          refine V_iconst 1 1244 dL_law_1243 rfl kiconst_1 ?_
          refine V_iadd 1245 dL_law_1244 rfl ?_
          obtain ⟨v432, h431, hf⟩ := ob hf
          refine V_sld 1246 h431 hX dL_law_1245 rfl ?_
          refine V_aload_n 3 1247 rfl dL_law_1246 rfl rfl ?_
          refine V_iload_n 0 1248 rfl dL_law_1247 rfl rfl ?_
          refine V_iconst 2 1249 dL_law_1248 rfl kiconst_2 ?_
          refine V_iadd 1250 dL_law_1249 rfl ?_
          obtain ⟨v434, h433, hf⟩ := ob hf
          refine V_sld 1251 h433 hX dL_law_1250 rfl ?_
          obtain ⟨p436, h435, hf⟩ := ob hf
          refine V_callV (rest := []) (T := TX7) (n := 10) (ci := 6) ce sl 1254 [.int p436.1] (c_X7_needs l G (d + 358) _ _ _ _ _ _ h435) (by omega) ok_X7_needs okv_X7_needs (gd_X7_needs h435) rfl wd_ml_TwiceNoiseLaw_131 rfl rfl (Nat.le_of_ble_eq_true rfl) rfl rfl (Or.inl ⟨rfl, rfl⟩) dL_law_1251 rfl rfl ?_
          refine V_aload_n 1 1255 rfl dL_law_1254 rfl rfl ?_
          refine V_aload_n 3 1256 rfl dL_law_1255 rfl rfl ?_
          refine V_iload_n 0 1257 rfl dL_law_1256 rfl rfl ?_
          refine V_iconst 1 1258 dL_law_1257 rfl kiconst_1 ?_
          refine V_iadd 1259 dL_law_1258 rfl ?_
          obtain ⟨v438, h437, hf⟩ := ob hf
          refine V_sld 1260 h437 hX dL_law_1259 rfl ?_
          refine V_aload_n 3 1261 rfl dL_law_1260 rfl rfl ?_
          refine V_iload_n 0 1262 rfl dL_law_1261 rfl rfl ?_
          refine V_iconst 2 1263 dL_law_1262 rfl kiconst_2 ?_
          refine V_iadd 1264 dL_law_1263 rfl ?_
          obtain ⟨v440, h439, hf⟩ := ob hf
          refine V_sld 1265 h439 hX dL_law_1264 rfl ?_
          obtain ⟨p442, h441, hf⟩ := ob hf
          refine V_callV (rest := [.int p436.1]) (T := TX8) (n := 27) (ci := 7) ce sl 1268 [.int p442.1, .int p436.1] (c_X8_needs l G (d + 358) _ _ _ _ _ _ h441) (by omega) ok_X8_needs okv_X8_needs (gd_X8_needs h441) rfl wd_ml_TwiceNoiseLaw_134 rfl rfl (Nat.le_of_ble_eq_true rfl) rfl rfl (Or.inl ⟨rfl, rfl⟩) dL_law_1265 rfl rfl ?_
          refine V_icmp_eq 1860 1271 dL_law_1268 (by decide) rfl (fun c443 => ?_) (fun c443 => ?_)
          · rw [if_pos c443] at hf
            refine V_iinc (x3 + 6) 0 [(3, .int (x3 + 6)), (2, .ref x2), (1, .ref x1), (0, .ref (1000 + 11))] 1863 dL_law_1860 rfl (by rw [kiconst_6]) (Nat.le_of_ble_eq_true rfl) rfl rfl ?_
            refine V_goto 18 dL_law_1863 (by decide) ?_
            refine V_ls [(3, .int (x3 + 6)), (2, .ref x2), (1, .ref x1), (0, .ref (1000 + 11))] [0, 1, 2, 3] rfl ?_
            refine V_cnt (ce1 := ce + 35) (sl1 := sl + 10240) (by omega) (by omega) ?_
            exact ih (ce + 35) (sl + 10240) (x3 + 6) p442.2 p hf (by omega) (by omega) (by rw [show ce + 35 + 35 * n = ce + 35 * (n + 1) from by omega, show sl + 10240 + 10240 * n = sl + 10240 * (n + 1) from by omega]; exact hk)
          · rw [if_neg c443] at hf
            refine V_iconst 0 1272 dL_law_1271 rfl kiconst_0 ?_
            cases hf
        rw [if_neg c430] at hf
        by_cases c444 : (v11 &&& 63) = 28
        · rw [if_pos c444] at hf
          refine V_tsw 28 1240 1273 dL_law_33 c444 (by decide) (by decide) (by decide) (by decide) ?_
          refine V_aload_n 2 1274 rfl dL_law_1273 rfl rfl ?_
          refine V_aload_n 3 1275 rfl dL_law_1274 rfl rfl ?_
          refine V_iload_n 0 1276 rfl dL_law_1275 rfl rfl ?_
          refine V_iconst 1 1277 dL_law_1276 rfl kiconst_1 ?_
          refine V_iadd 1278 dL_law_1277 rfl ?_
          obtain ⟨v446, h445, hf⟩ := ob hf
          refine V_sld 1279 h445 hX dL_law_1278 rfl ?_
          obtain ⟨p448, h447, hf⟩ := ob hf
          refine V_callV (rest := []) (T := TX7) (n := 10) (ci := 6) ce sl 1282 [.int p448.1] (c_X7_fall l G (d + 358) _ _ _ _ _ h447) (by omega) ok_X7_fall okv_X7_fall (gd_X7_fall h447) rfl wd_ml_TwiceNoiseLaw_135 rfl rfl (Nat.le_of_ble_eq_true rfl) rfl rfl (Or.inl ⟨rfl, rfl⟩) dL_law_1279 rfl rfl ?_
          refine V_aload_n 1 1283 rfl dL_law_1282 rfl rfl ?_
          refine V_aload_n 3 1284 rfl dL_law_1283 rfl rfl ?_
          refine V_iload_n 0 1285 rfl dL_law_1284 rfl rfl ?_
          refine V_iconst 1 1286 dL_law_1285 rfl kiconst_1 ?_
          refine V_iadd 1287 dL_law_1286 rfl ?_
          obtain ⟨v450, h449, hf⟩ := ob hf
          refine V_sld 1288 h449 hX dL_law_1287 rfl ?_
          obtain ⟨p452, h451, hf⟩ := ob hf
          refine V_callV (rest := [.int p448.1]) (T := TX8) (n := 27) (ci := 7) ce sl 1291 [.int p452.1, .int p448.1] (c_X8_fall l G (d + 359) _ _ _ _ _ h451) (by omega) ok_X8_fall okv_X8_fall (gd_X8_fall h451) rfl wd_ml_TwiceNoiseLaw_138 rfl rfl (Nat.le_of_ble_eq_true rfl) rfl rfl (Or.inl ⟨rfl, rfl⟩) dL_law_1288 rfl rfl ?_
          refine V_icmp_eq 1860 1294 dL_law_1291 (by decide) rfl (fun c453 => ?_) (fun c453 => ?_)
          · rw [if_pos c453] at hf
            refine V_iinc (x3 + 6) 0 [(3, .int (x3 + 6)), (2, .ref x2), (1, .ref x1), (0, .ref (1000 + 11))] 1863 dL_law_1860 rfl (by rw [kiconst_6]) (Nat.le_of_ble_eq_true rfl) rfl rfl ?_
            refine V_goto 18 dL_law_1863 (by decide) ?_
            refine V_ls [(3, .int (x3 + 6)), (2, .ref x2), (1, .ref x1), (0, .ref (1000 + 11))] [0, 1, 2, 3] rfl ?_
            refine V_cnt (ce1 := ce + 35) (sl1 := sl + 10240) (by omega) (by omega) ?_
            exact ih (ce + 35) (sl + 10240) (x3 + 6) p452.2 p hf (by omega) (by omega) (by rw [show ce + 35 + 35 * n = ce + 35 * (n + 1) from by omega, show sl + 10240 + 10240 * n = sl + 10240 * (n + 1) from by omega]; exact hk)
          · rw [if_neg c453] at hf
            refine V_iconst 0 1295 dL_law_1294 rfl kiconst_0 ?_
            cases hf
        rw [if_neg c444] at hf
        by_cases c454 : (v11 &&& 63) = 29
        · rw [if_pos c454] at hf
          refine V_tsw 29 1263 1296 dL_law_33 c454 (by decide) (by decide) (by decide) (by decide) ?_
          refine V_aload_n 2 1297 rfl dL_law_1296 rfl rfl ?_
          refine V_aload_n 3 1298 rfl dL_law_1297 rfl rfl ?_
          refine V_iload_n 0 1299 rfl dL_law_1298 rfl rfl ?_
          refine V_iconst 1 1300 dL_law_1299 rfl kiconst_1 ?_
          refine V_iadd 1301 dL_law_1300 rfl ?_
          obtain ⟨v456, h455, hf⟩ := ob hf
          refine V_sld 1302 h455 hX dL_law_1301 rfl ?_
          refine V_aload_n 3 1303 rfl dL_law_1302 rfl rfl ?_
          refine V_iload_n 0 1304 rfl dL_law_1303 rfl rfl ?_
          refine V_iconst 2 1305 dL_law_1304 rfl kiconst_2 ?_
          refine V_iadd 1306 dL_law_1305 rfl ?_
          obtain ⟨v458, h457, hf⟩ := ob hf
          refine V_sld 1307 h457 hX dL_law_1306 rfl ?_
          refine V_aload_n 3 1308 rfl dL_law_1307 rfl rfl ?_
          refine V_iload_n 0 1309 rfl dL_law_1308 rfl rfl ?_
          refine V_iconst 3 1310 dL_law_1309 rfl kiconst_3 ?_
          refine V_iadd 1311 dL_law_1310 rfl ?_
          obtain ⟨v460, h459, hf⟩ := ob hf
          refine V_sld 1312 h459 hX dL_law_1311 rfl ?_
          obtain ⟨p462, h461, hf⟩ := ob hf
          refine V_callV (rest := []) (T := TX7) (n := 10) (ci := 6) ce sl 1315 [.int p462.1] (c_X7_link l G (d + 358) _ _ _ _ _ _ _ h461) (by omega) ok_X7_link okv_X7_link (gd_X7_link h461) rfl wd_ml_TwiceNoiseLaw_139 rfl rfl (Nat.le_of_ble_eq_true rfl) rfl rfl (Or.inl ⟨rfl, rfl⟩) dL_law_1312 rfl rfl ?_
          refine V_aload_n 1 1316 rfl dL_law_1315 rfl rfl ?_
          refine V_aload_n 3 1317 rfl dL_law_1316 rfl rfl ?_
          refine V_iload_n 0 1318 rfl dL_law_1317 rfl rfl ?_
          refine V_iconst 1 1319 dL_law_1318 rfl kiconst_1 ?_
          refine V_iadd 1320 dL_law_1319 rfl ?_
          obtain ⟨v464, h463, hf⟩ := ob hf
          refine V_sld 1321 h463 hX dL_law_1320 rfl ?_
          refine V_aload_n 3 1322 rfl dL_law_1321 rfl rfl ?_
          refine V_iload_n 0 1323 rfl dL_law_1322 rfl rfl ?_
          refine V_iconst 2 1324 dL_law_1323 rfl kiconst_2 ?_
          refine V_iadd 1325 dL_law_1324 rfl ?_
          obtain ⟨v466, h465, hf⟩ := ob hf
          refine V_sld 1326 h465 hX dL_law_1325 rfl ?_
          refine V_aload_n 3 1327 rfl dL_law_1326 rfl rfl ?_
          refine V_iload_n 0 1328 rfl dL_law_1327 rfl rfl ?_
          refine V_iconst 3 1329 dL_law_1328 rfl kiconst_3 ?_
          refine V_iadd 1330 dL_law_1329 rfl ?_
          obtain ⟨v468, h467, hf⟩ := ob hf
          refine V_sld 1331 h467 hX dL_law_1330 rfl ?_
          obtain ⟨p470, h469, hf⟩ := ob hf
          refine V_callV (rest := [.int p462.1]) (T := TX8) (n := 27) (ci := 7) ce sl 1334 [.int p470.1, .int p462.1] (c_X8_link l G (d + 358) _ _ _ _ _ _ _ h469) (by omega) ok_X8_link okv_X8_link (gd_X8_link h469) rfl wd_ml_TwiceNoiseLaw_142 rfl rfl (Nat.le_of_ble_eq_true rfl) rfl rfl (Or.inl ⟨rfl, rfl⟩) dL_law_1331 rfl rfl ?_
          refine V_icmp_eq 1860 1337 dL_law_1334 (by decide) rfl (fun c471 => ?_) (fun c471 => ?_)
          · rw [if_pos c471] at hf
            refine V_iinc (x3 + 6) 0 [(3, .int (x3 + 6)), (2, .ref x2), (1, .ref x1), (0, .ref (1000 + 11))] 1863 dL_law_1860 rfl (by rw [kiconst_6]) (Nat.le_of_ble_eq_true rfl) rfl rfl ?_
            refine V_goto 18 dL_law_1863 (by decide) ?_
            refine V_ls [(3, .int (x3 + 6)), (2, .ref x2), (1, .ref x1), (0, .ref (1000 + 11))] [0, 1, 2, 3] rfl ?_
            refine V_cnt (ce1 := ce + 35) (sl1 := sl + 10240) (by omega) (by omega) ?_
            exact ih (ce + 35) (sl + 10240) (x3 + 6) p470.2 p hf (by omega) (by omega) (by rw [show ce + 35 + 35 * n = ce + 35 * (n + 1) from by omega, show sl + 10240 + 10240 * n = sl + 10240 * (n + 1) from by omega]; exact hk)
          · rw [if_neg c471] at hf
            refine V_iconst 0 1338 dL_law_1337 rfl kiconst_0 ?_
            cases hf
        rw [if_neg c454] at hf
        by_cases c472 : (v11 &&& 63) = 30
        · rw [if_pos c472] at hf
          refine V_tsw 30 1306 1339 dL_law_33 c472 (by decide) (by decide) (by decide) (by decide) ?_
          refine V_aload_n 2 1340 rfl dL_law_1339 rfl rfl ?_
          refine V_aload_n 3 1341 rfl dL_law_1340 rfl rfl ?_
          refine V_iload_n 0 1342 rfl dL_law_1341 rfl rfl ?_
          refine V_iconst 1 1343 dL_law_1342 rfl kiconst_1 ?_
          refine V_iadd 1344 dL_law_1343 rfl ?_
          obtain ⟨v474, h473, hf⟩ := ob hf
          refine V_sld 1345 h473 hX dL_law_1344 rfl ?_
          refine V_aload_n 3 1346 rfl dL_law_1345 rfl rfl ?_
          refine V_iload_n 0 1347 rfl dL_law_1346 rfl rfl ?_
          refine V_iconst 2 1348 dL_law_1347 rfl kiconst_2 ?_
          refine V_iadd 1349 dL_law_1348 rfl ?_
          obtain ⟨v476, h475, hf⟩ := ob hf
          refine V_sld 1350 h475 hX dL_law_1349 rfl ?_
          refine V_aload_n 3 1351 rfl dL_law_1350 rfl rfl ?_
          refine V_iload_n 0 1352 rfl dL_law_1351 rfl rfl ?_
          refine V_iconst 3 1353 dL_law_1352 rfl kiconst_3 ?_
          refine V_iadd 1354 dL_law_1353 rfl ?_
          obtain ⟨v478, h477, hf⟩ := ob hf
          refine V_sld 1355 h477 hX dL_law_1354 rfl ?_
          refine V_aload_n 3 1356 rfl dL_law_1355 rfl rfl ?_
          refine V_iload_n 0 1357 rfl dL_law_1356 rfl rfl ?_
          refine V_iconst 4 1358 dL_law_1357 rfl kiconst_4 ?_
          refine V_iadd 1359 dL_law_1358 rfl ?_
          obtain ⟨v480, h479, hf⟩ := ob hf
          refine V_sld 1360 h479 hX dL_law_1359 rfl ?_
          have kj496 : V (mi_L_law nm) l G (d + 362) 600000 7302250 X ce sl 1368 [(3, .int x3), (2, .ref x2), (1, .ref x1), (0, .ref (1000 + 11))] [.int (if v480 = 0 then 0 else 1 : Int32), .int v478, .int v476, .int v474, .ref x1] σ := by
            obtain ⟨p482, h481, hf⟩ := ob hf
            refine V_callV (rest := []) (T := TX7) (n := 10) (ci := 6) ce sl 1371 [.int p482.1] (c_X7_tries l G (d + 358) _ _ _ _ _ _ _ _ h481) (by omega) ok_X7_tries okv_X7_tries (gd_X7_tries h481) rfl wd_ml_TwiceNoiseLaw_143 rfl rfl (Nat.le_of_ble_eq_true rfl) rfl rfl (Or.inl ⟨rfl, rfl⟩) dL_law_1368 rfl rfl ?_
            refine V_aload_n 1 1372 rfl dL_law_1371 rfl rfl ?_
            refine V_aload_n 3 1373 rfl dL_law_1372 rfl rfl ?_
            refine V_iload_n 0 1374 rfl dL_law_1373 rfl rfl ?_
            refine V_iconst 1 1375 dL_law_1374 rfl kiconst_1 ?_
            refine V_iadd 1376 dL_law_1375 rfl ?_
            obtain ⟨v484, h483, hf⟩ := ob hf
            refine V_sld 1377 h483 hX dL_law_1376 rfl ?_
            refine V_aload_n 3 1378 rfl dL_law_1377 rfl rfl ?_
            refine V_iload_n 0 1379 rfl dL_law_1378 rfl rfl ?_
            refine V_iconst 2 1380 dL_law_1379 rfl kiconst_2 ?_
            refine V_iadd 1381 dL_law_1380 rfl ?_
            obtain ⟨v486, h485, hf⟩ := ob hf
            refine V_sld 1382 h485 hX dL_law_1381 rfl ?_
            refine V_aload_n 3 1383 rfl dL_law_1382 rfl rfl ?_
            refine V_iload_n 0 1384 rfl dL_law_1383 rfl rfl ?_
            refine V_iconst 3 1385 dL_law_1384 rfl kiconst_3 ?_
            refine V_iadd 1386 dL_law_1385 rfl ?_
            obtain ⟨v488, h487, hf⟩ := ob hf
            refine V_sld 1387 h487 hX dL_law_1386 rfl ?_
            refine V_aload_n 3 1388 rfl dL_law_1387 rfl rfl ?_
            refine V_iload_n 0 1389 rfl dL_law_1388 rfl rfl ?_
            refine V_iconst 4 1390 dL_law_1389 rfl kiconst_4 ?_
            refine V_iadd 1391 dL_law_1390 rfl ?_
            obtain ⟨v490, h489, hf⟩ := ob hf
            refine V_sld 1392 h489 hX dL_law_1391 rfl ?_
            have kj494 : V (mi_L_law nm) l G (d + 362) 600000 7302250 X ce sl 1400 [(3, .int x3), (2, .ref x2), (1, .ref x1), (0, .ref (1000 + 11))] [.int (if v490 = 0 then 0 else 1 : Int32), .int v488, .int v486, .int v484, .ref x2, .int p482.1] p482.2 := by
              obtain ⟨p492, h491, hf⟩ := ob hf
              refine V_callV (rest := [.int p482.1]) (T := TX8) (n := 27) (ci := 7) ce sl 1403 [.int p492.1, .int p482.1] (c_X8_tries l G (d + 358) _ _ _ _ _ _ _ _ h491) (by omega) ok_X8_tries okv_X8_tries (gd_X8_tries h491) rfl wd_ml_TwiceNoiseLaw_147 rfl rfl (Nat.le_of_ble_eq_true rfl) rfl rfl (Or.inl ⟨rfl, rfl⟩) dL_law_1400 rfl rfl ?_
              refine V_icmp_eq 1860 1406 dL_law_1403 (by decide) rfl (fun c493 => ?_) (fun c493 => ?_)
              · rw [if_pos c493] at hf
                refine V_iinc (x3 + 6) 0 [(3, .int (x3 + 6)), (2, .ref x2), (1, .ref x1), (0, .ref (1000 + 11))] 1863 dL_law_1860 rfl (by rw [kiconst_6]) (Nat.le_of_ble_eq_true rfl) rfl rfl ?_
                refine V_goto 18 dL_law_1863 (by decide) ?_
                refine V_ls [(3, .int (x3 + 6)), (2, .ref x2), (1, .ref x1), (0, .ref (1000 + 11))] [0, 1, 2, 3] rfl ?_
                refine V_cnt (ce1 := ce + 35) (sl1 := sl + 10240) (by omega) (by omega) ?_
                exact ih (ce + 35) (sl + 10240) (x3 + 6) p492.2 p hf (by omega) (by omega) (by rw [show ce + 35 + 35 * n = ce + 35 * (n + 1) from by omega, show sl + 10240 + 10240 * n = sl + 10240 * (n + 1) from by omega]; exact hk)
              · rw [if_neg c493] at hf
                refine V_iconst 0 1407 dL_law_1406 rfl kiconst_0 ?_
                cases hf
            refine V_if_eq 1399 1395 dL_law_1392 (by decide) rfl (fun c495 => ?_) (fun c495 => ?_)
            · refine V_iconst 0 1400 dL_law_1399 rfl kiconst_0 ?_
              refine V_ls [(3, .int x3), (2, .ref x2), (1, .ref x1), (0, .ref (1000 + 11))] [0, 1, 2, 3] rfl ?_
              simp only [if_pos c495] at kj494
              exact kj494
            · refine V_iconst 1 1396 dL_law_1395 rfl kiconst_1 ?_
              refine V_goto 1400 dL_law_1396 (by decide) ?_
              refine V_ls [(3, .int x3), (2, .ref x2), (1, .ref x1), (0, .ref (1000 + 11))] [0, 1, 2, 3] rfl ?_
              simp only [if_neg c495] at kj494
              exact kj494
          refine V_if_eq 1367 1363 dL_law_1360 (by decide) rfl (fun c497 => ?_) (fun c497 => ?_)
          · refine V_iconst 0 1368 dL_law_1367 rfl kiconst_0 ?_
            refine V_ls [(3, .int x3), (2, .ref x2), (1, .ref x1), (0, .ref (1000 + 11))] [0, 1, 2, 3] rfl ?_
            simp only [if_pos c497] at kj496
            exact kj496
          · refine V_iconst 1 1364 dL_law_1363 rfl kiconst_1 ?_
            refine V_goto 1368 dL_law_1364 (by decide) ?_
            refine V_ls [(3, .int x3), (2, .ref x2), (1, .ref x1), (0, .ref (1000 + 11))] [0, 1, 2, 3] rfl ?_
            simp only [if_neg c497] at kj496
            exact kj496
        rw [if_neg c472] at hf
        by_cases c498 : (v11 &&& 63) = 31
        · rw [if_pos c498] at hf
          refine V_tsw 31 1375 1408 dL_law_33 c498 (by decide) (by decide) (by decide) (by decide) ?_
          refine V_aload_n 2 1409 rfl dL_law_1408 rfl rfl ?_
          refine V_aload_n 3 1410 rfl dL_law_1409 rfl rfl ?_
          refine V_iload_n 0 1411 rfl dL_law_1410 rfl rfl ?_
          refine V_iconst 1 1412 dL_law_1411 rfl kiconst_1 ?_
          refine V_iadd 1413 dL_law_1412 rfl ?_
          obtain ⟨v500, h499, hf⟩ := ob hf
          refine V_sld 1414 h499 hX dL_law_1413 rfl ?_
          refine V_aload_n 3 1415 rfl dL_law_1414 rfl rfl ?_
          refine V_iload_n 0 1416 rfl dL_law_1415 rfl rfl ?_
          refine V_iconst 2 1417 dL_law_1416 rfl kiconst_2 ?_
          refine V_iadd 1418 dL_law_1417 rfl ?_
          obtain ⟨v502, h501, hf⟩ := ob hf
          refine V_sld 1419 h501 hX dL_law_1418 rfl ?_
          refine V_aload_n 3 1420 rfl dL_law_1419 rfl rfl ?_
          refine V_iload_n 0 1421 rfl dL_law_1420 rfl rfl ?_
          refine V_iconst 3 1422 dL_law_1421 rfl kiconst_3 ?_
          refine V_iadd 1423 dL_law_1422 rfl ?_
          obtain ⟨v504, h503, hf⟩ := ob hf
          refine V_sld 1424 h503 hX dL_law_1423 rfl ?_
          obtain ⟨p506, h505, hf⟩ := ob hf
          refine V_callV (rest := []) (T := TX7) (n := 10) (ci := 6) ce sl 1427 [.int p506.1] (c_X7_knows l G (d + 57) _ _ _ _ _ _ _ h505) (by omega) ok_X7_knows okv_X7_knows (gd_X7_knows h505) rfl wd_ml_TwiceNoiseLaw_148 rfl rfl (Nat.le_of_ble_eq_true rfl) rfl rfl (Or.inl ⟨rfl, rfl⟩) dL_law_1424 rfl rfl ?_
          refine V_aload_n 1 1428 rfl dL_law_1427 rfl rfl ?_
          refine V_aload_n 3 1429 rfl dL_law_1428 rfl rfl ?_
          refine V_iload_n 0 1430 rfl dL_law_1429 rfl rfl ?_
          refine V_iconst 1 1431 dL_law_1430 rfl kiconst_1 ?_
          refine V_iadd 1432 dL_law_1431 rfl ?_
          obtain ⟨v508, h507, hf⟩ := ob hf
          refine V_sld 1433 h507 hX dL_law_1432 rfl ?_
          refine V_aload_n 3 1434 rfl dL_law_1433 rfl rfl ?_
          refine V_iload_n 0 1435 rfl dL_law_1434 rfl rfl ?_
          refine V_iconst 2 1436 dL_law_1435 rfl kiconst_2 ?_
          refine V_iadd 1437 dL_law_1436 rfl ?_
          obtain ⟨v510, h509, hf⟩ := ob hf
          refine V_sld 1438 h509 hX dL_law_1437 rfl ?_
          refine V_aload_n 3 1439 rfl dL_law_1438 rfl rfl ?_
          refine V_iload_n 0 1440 rfl dL_law_1439 rfl rfl ?_
          refine V_iconst 3 1441 dL_law_1440 rfl kiconst_3 ?_
          refine V_iadd 1442 dL_law_1441 rfl ?_
          obtain ⟨v512, h511, hf⟩ := ob hf
          refine V_sld 1443 h511 hX dL_law_1442 rfl ?_
          obtain ⟨p514, h513, hf⟩ := ob hf
          refine V_callV (rest := [.int p506.1]) (T := TX8) (n := 27) (ci := 7) ce sl 1446 [.int p514.1, .int p506.1] (c_X8_knows l G (d + 358) _ _ _ _ _ _ _ h513) (by omega) ok_X8_knows okv_X8_knows (gd_X8_knows h513) rfl wd_ml_TwiceNoiseLaw_151 rfl rfl (Nat.le_of_ble_eq_true rfl) rfl rfl (Or.inl ⟨rfl, rfl⟩) dL_law_1443 rfl rfl ?_
          refine V_icmp_eq 1860 1449 dL_law_1446 (by decide) rfl (fun c515 => ?_) (fun c515 => ?_)
          · rw [if_pos c515] at hf
            refine V_iinc (x3 + 6) 0 [(3, .int (x3 + 6)), (2, .ref x2), (1, .ref x1), (0, .ref (1000 + 11))] 1863 dL_law_1860 rfl (by rw [kiconst_6]) (Nat.le_of_ble_eq_true rfl) rfl rfl ?_
            refine V_goto 18 dL_law_1863 (by decide) ?_
            refine V_ls [(3, .int (x3 + 6)), (2, .ref x2), (1, .ref x1), (0, .ref (1000 + 11))] [0, 1, 2, 3] rfl ?_
            refine V_cnt (ce1 := ce + 35) (sl1 := sl + 10240) (by omega) (by omega) ?_
            exact ih (ce + 35) (sl + 10240) (x3 + 6) p514.2 p hf (by omega) (by omega) (by rw [show ce + 35 + 35 * n = ce + 35 * (n + 1) from by omega, show sl + 10240 + 10240 * n = sl + 10240 * (n + 1) from by omega]; exact hk)
          · rw [if_neg c515] at hf
            refine V_iconst 0 1450 dL_law_1449 rfl kiconst_0 ?_
            cases hf
        rw [if_neg c498] at hf
        by_cases c516 : (v11 &&& 63) = 32
        · rw [if_pos c516] at hf
          refine V_tsw 32 1418 1451 dL_law_33 c516 (by decide) (by decide) (by decide) (by decide) ?_
          refine V_aload_n 2 1452 rfl dL_law_1451 rfl rfl ?_
          refine V_aload_n 3 1453 rfl dL_law_1452 rfl rfl ?_
          refine V_iload_n 0 1454 rfl dL_law_1453 rfl rfl ?_
          refine V_iconst 1 1455 dL_law_1454 rfl kiconst_1 ?_
          refine V_iadd 1456 dL_law_1455 rfl ?_
          obtain ⟨v518, h517, hf⟩ := ob hf
          refine V_sld 1457 h517 hX dL_law_1456 rfl ?_
          refine V_aload_n 3 1458 rfl dL_law_1457 rfl rfl ?_
          refine V_iload_n 0 1459 rfl dL_law_1458 rfl rfl ?_
          refine V_iconst 2 1460 dL_law_1459 rfl kiconst_2 ?_
          refine V_iadd 1461 dL_law_1460 rfl ?_
          obtain ⟨v520, h519, hf⟩ := ob hf
          refine V_sld 1462 h519 hX dL_law_1461 rfl ?_
          obtain ⟨p522, h521, hf⟩ := ob hf
          refine V_callV (rest := []) (T := TX7) (n := 10) (ci := 6) ce sl 1465 [.int p522.1] (c_X7_rule l G (d + 358) _ _ _ _ _ _ h521) (by omega) ok_X7_rule okv_X7_rule (gd_X7_rule h521) rfl wd_ml_TwiceNoiseLaw_152 rfl rfl (Nat.le_of_ble_eq_true rfl) rfl rfl (Or.inl ⟨rfl, rfl⟩) dL_law_1462 rfl rfl ?_
          refine V_aload_n 1 1466 rfl dL_law_1465 rfl rfl ?_
          refine V_aload_n 3 1467 rfl dL_law_1466 rfl rfl ?_
          refine V_iload_n 0 1468 rfl dL_law_1467 rfl rfl ?_
          refine V_iconst 1 1469 dL_law_1468 rfl kiconst_1 ?_
          refine V_iadd 1470 dL_law_1469 rfl ?_
          obtain ⟨v524, h523, hf⟩ := ob hf
          refine V_sld 1471 h523 hX dL_law_1470 rfl ?_
          refine V_aload_n 3 1472 rfl dL_law_1471 rfl rfl ?_
          refine V_iload_n 0 1473 rfl dL_law_1472 rfl rfl ?_
          refine V_iconst 2 1474 dL_law_1473 rfl kiconst_2 ?_
          refine V_iadd 1475 dL_law_1474 rfl ?_
          obtain ⟨v526, h525, hf⟩ := ob hf
          refine V_sld 1476 h525 hX dL_law_1475 rfl ?_
          obtain ⟨p528, h527, hf⟩ := ob hf
          refine V_callV (rest := [.int p522.1]) (T := TX8) (n := 27) (ci := 7) ce sl 1479 [.int p528.1, .int p522.1] (c_X8_rule l G (d + 358) _ _ _ _ _ _ h527) (by omega) ok_X8_rule okv_X8_rule (gd_X8_rule h527) rfl wd_ml_TwiceNoiseLaw_155 rfl rfl (Nat.le_of_ble_eq_true rfl) rfl rfl (Or.inl ⟨rfl, rfl⟩) dL_law_1476 rfl rfl ?_
          refine V_icmp_eq 1860 1482 dL_law_1479 (by decide) rfl (fun c529 => ?_) (fun c529 => ?_)
          · rw [if_pos c529] at hf
            refine V_iinc (x3 + 6) 0 [(3, .int (x3 + 6)), (2, .ref x2), (1, .ref x1), (0, .ref (1000 + 11))] 1863 dL_law_1860 rfl (by rw [kiconst_6]) (Nat.le_of_ble_eq_true rfl) rfl rfl ?_
            refine V_goto 18 dL_law_1863 (by decide) ?_
            refine V_ls [(3, .int (x3 + 6)), (2, .ref x2), (1, .ref x1), (0, .ref (1000 + 11))] [0, 1, 2, 3] rfl ?_
            refine V_cnt (ce1 := ce + 35) (sl1 := sl + 10240) (by omega) (by omega) ?_
            exact ih (ce + 35) (sl + 10240) (x3 + 6) p528.2 p hf (by omega) (by omega) (by rw [show ce + 35 + 35 * n = ce + 35 * (n + 1) from by omega, show sl + 10240 + 10240 * n = sl + 10240 * (n + 1) from by omega]; exact hk)
          · rw [if_neg c529] at hf
            refine V_iconst 0 1483 dL_law_1482 rfl kiconst_0 ?_
            cases hf
        rw [if_neg c516] at hf
        by_cases c530 : (v11 &&& 63) = 33
        · rw [if_pos c530] at hf
          refine V_tsw 33 1451 1484 dL_law_33 c530 (by decide) (by decide) (by decide) (by decide) ?_
          refine V_aload_n 2 1485 rfl dL_law_1484 rfl rfl ?_
          refine V_aload_n 3 1486 rfl dL_law_1485 rfl rfl ?_
          refine V_iload_n 0 1487 rfl dL_law_1486 rfl rfl ?_
          refine V_iconst 1 1488 dL_law_1487 rfl kiconst_1 ?_
          refine V_iadd 1489 dL_law_1488 rfl ?_
          obtain ⟨v532, h531, hf⟩ := ob hf
          refine V_sld 1490 h531 hX dL_law_1489 rfl ?_
          refine V_aload_n 3 1491 rfl dL_law_1490 rfl rfl ?_
          refine V_iload_n 0 1492 rfl dL_law_1491 rfl rfl ?_
          refine V_iconst 2 1493 dL_law_1492 rfl kiconst_2 ?_
          refine V_iadd 1494 dL_law_1493 rfl ?_
          obtain ⟨v534, h533, hf⟩ := ob hf
          refine V_sld 1495 h533 hX dL_law_1494 rfl ?_
          refine V_aload_n 3 1496 rfl dL_law_1495 rfl rfl ?_
          refine V_iload_n 0 1497 rfl dL_law_1496 rfl rfl ?_
          refine V_iconst 3 1498 dL_law_1497 rfl kiconst_3 ?_
          refine V_iadd 1499 dL_law_1498 rfl ?_
          obtain ⟨v536, h535, hf⟩ := ob hf
          refine V_sld 1500 h535 hX dL_law_1499 rfl ?_
          obtain ⟨p538, h537, hf⟩ := ob hf
          refine V_callV (rest := []) (T := TX7) (n := 10) (ci := 6) ce sl 1503 [.int p538.1] (c_X7_rules l G (d + 357) _ _ _ _ _ _ _ h537) (by omega) ok_X7_rules okv_X7_rules (gd_X7_rules h537) rfl wd_ml_TwiceNoiseLaw_156 rfl rfl (Nat.le_of_ble_eq_true rfl) rfl rfl (Or.inl ⟨rfl, rfl⟩) dL_law_1500 rfl rfl ?_
          refine V_aload_n 1 1504 rfl dL_law_1503 rfl rfl ?_
          refine V_aload_n 3 1505 rfl dL_law_1504 rfl rfl ?_
          refine V_iload_n 0 1506 rfl dL_law_1505 rfl rfl ?_
          refine V_iconst 1 1507 dL_law_1506 rfl kiconst_1 ?_
          refine V_iadd 1508 dL_law_1507 rfl ?_
          obtain ⟨v540, h539, hf⟩ := ob hf
          refine V_sld 1509 h539 hX dL_law_1508 rfl ?_
          refine V_aload_n 3 1510 rfl dL_law_1509 rfl rfl ?_
          refine V_iload_n 0 1511 rfl dL_law_1510 rfl rfl ?_
          refine V_iconst 2 1512 dL_law_1511 rfl kiconst_2 ?_
          refine V_iadd 1513 dL_law_1512 rfl ?_
          obtain ⟨v542, h541, hf⟩ := ob hf
          refine V_sld 1514 h541 hX dL_law_1513 rfl ?_
          refine V_aload_n 3 1515 rfl dL_law_1514 rfl rfl ?_
          refine V_iload_n 0 1516 rfl dL_law_1515 rfl rfl ?_
          refine V_iconst 3 1517 dL_law_1516 rfl kiconst_3 ?_
          refine V_iadd 1518 dL_law_1517 rfl ?_
          obtain ⟨v544, h543, hf⟩ := ob hf
          refine V_sld 1519 h543 hX dL_law_1518 rfl ?_
          obtain ⟨p546, h545, hf⟩ := ob hf
          refine V_callV (rest := [.int p538.1]) (T := TX8) (n := 27) (ci := 7) ce sl 1522 [.int p546.1, .int p538.1] (c_X8_rules l G (d + 358) _ _ _ _ _ _ _ h545) (by omega) ok_X8_rules okv_X8_rules (gd_X8_rules h545) rfl wd_ml_TwiceNoiseLaw_159 rfl rfl (Nat.le_of_ble_eq_true rfl) rfl rfl (Or.inl ⟨rfl, rfl⟩) dL_law_1519 rfl rfl ?_
          refine V_icmp_eq 1860 1525 dL_law_1522 (by decide) rfl (fun c547 => ?_) (fun c547 => ?_)
          · rw [if_pos c547] at hf
            refine V_iinc (x3 + 6) 0 [(3, .int (x3 + 6)), (2, .ref x2), (1, .ref x1), (0, .ref (1000 + 11))] 1863 dL_law_1860 rfl (by rw [kiconst_6]) (Nat.le_of_ble_eq_true rfl) rfl rfl ?_
            refine V_goto 18 dL_law_1863 (by decide) ?_
            refine V_ls [(3, .int (x3 + 6)), (2, .ref x2), (1, .ref x1), (0, .ref (1000 + 11))] [0, 1, 2, 3] rfl ?_
            refine V_cnt (ce1 := ce + 35) (sl1 := sl + 10240) (by omega) (by omega) ?_
            exact ih (ce + 35) (sl + 10240) (x3 + 6) p546.2 p hf (by omega) (by omega) (by rw [show ce + 35 + 35 * n = ce + 35 * (n + 1) from by omega, show sl + 10240 + 10240 * n = sl + 10240 * (n + 1) from by omega]; exact hk)
          · rw [if_neg c547] at hf
            refine V_iconst 0 1526 dL_law_1525 rfl kiconst_0 ?_
            cases hf
        rw [if_neg c530] at hf
        by_cases c548 : (v11 &&& 63) = 34
        · rw [if_pos c548] at hf
          refine V_tsw 34 1494 1527 dL_law_33 c548 (by decide) (by decide) (by decide) (by decide) ?_
          refine V_aload_n 2 1528 rfl dL_law_1527 rfl rfl ?_
          refine V_aload_n 3 1529 rfl dL_law_1528 rfl rfl ?_
          refine V_iload_n 0 1530 rfl dL_law_1529 rfl rfl ?_
          refine V_iconst 1 1531 dL_law_1530 rfl kiconst_1 ?_
          refine V_iadd 1532 dL_law_1531 rfl ?_
          obtain ⟨v550, h549, hf⟩ := ob hf
          refine V_sld 1533 h549 hX dL_law_1532 rfl ?_
          refine V_aload_n 3 1534 rfl dL_law_1533 rfl rfl ?_
          refine V_iload_n 0 1535 rfl dL_law_1534 rfl rfl ?_
          refine V_iconst 2 1536 dL_law_1535 rfl kiconst_2 ?_
          refine V_iadd 1537 dL_law_1536 rfl ?_
          obtain ⟨v552, h551, hf⟩ := ob hf
          refine V_sld 1538 h551 hX dL_law_1537 rfl ?_
          refine V_aload_n 3 1539 rfl dL_law_1538 rfl rfl ?_
          refine V_iload_n 0 1540 rfl dL_law_1539 rfl rfl ?_
          refine V_iconst 3 1541 dL_law_1540 rfl kiconst_3 ?_
          refine V_iadd 1542 dL_law_1541 rfl ?_
          obtain ⟨v554, h553, hf⟩ := ob hf
          refine V_sld 1543 h553 hX dL_law_1542 rfl ?_
          obtain ⟨p556, h555, hf⟩ := ob hf
          refine V_callV (rest := []) (T := TX7) (n := 10) (ci := 6) ce sl 1546 [.int p556.1] (c_X7_voice l G (d + 299) _ _ _ _ _ _ _ h555) (by omega) ok_X7_voice okv_X7_voice (gd_X7_voice h555) rfl wd_ml_TwiceNoiseLaw_160 rfl rfl (Nat.le_of_ble_eq_true rfl) rfl rfl (Or.inl ⟨rfl, rfl⟩) dL_law_1543 rfl rfl ?_
          refine V_aload_n 1 1547 rfl dL_law_1546 rfl rfl ?_
          refine V_aload_n 3 1548 rfl dL_law_1547 rfl rfl ?_
          refine V_iload_n 0 1549 rfl dL_law_1548 rfl rfl ?_
          refine V_iconst 1 1550 dL_law_1549 rfl kiconst_1 ?_
          refine V_iadd 1551 dL_law_1550 rfl ?_
          obtain ⟨v558, h557, hf⟩ := ob hf
          refine V_sld 1552 h557 hX dL_law_1551 rfl ?_
          refine V_aload_n 3 1553 rfl dL_law_1552 rfl rfl ?_
          refine V_iload_n 0 1554 rfl dL_law_1553 rfl rfl ?_
          refine V_iconst 2 1555 dL_law_1554 rfl kiconst_2 ?_
          refine V_iadd 1556 dL_law_1555 rfl ?_
          obtain ⟨v560, h559, hf⟩ := ob hf
          refine V_sld 1557 h559 hX dL_law_1556 rfl ?_
          refine V_aload_n 3 1558 rfl dL_law_1557 rfl rfl ?_
          refine V_iload_n 0 1559 rfl dL_law_1558 rfl rfl ?_
          refine V_iconst 3 1560 dL_law_1559 rfl kiconst_3 ?_
          refine V_iadd 1561 dL_law_1560 rfl ?_
          obtain ⟨v562, h561, hf⟩ := ob hf
          refine V_sld 1562 h561 hX dL_law_1561 rfl ?_
          obtain ⟨p564, h563, hf⟩ := ob hf
          refine V_callV (rest := [.int p556.1]) (T := TX8) (n := 27) (ci := 7) ce sl 1565 [.int p564.1, .int p556.1] (c_X8_voice l G (d + 180) _ _ _ _ _ _ _ h563) (by omega) ok_X8_voice okv_X8_voice (gd_X8_voice h563) rfl wd_ml_TwiceNoiseLaw_163 rfl rfl (Nat.le_of_ble_eq_true rfl) rfl rfl (Or.inl ⟨rfl, rfl⟩) dL_law_1562 rfl rfl ?_
          refine V_icmp_eq 1860 1568 dL_law_1565 (by decide) rfl (fun c565 => ?_) (fun c565 => ?_)
          · rw [if_pos c565] at hf
            refine V_iinc (x3 + 6) 0 [(3, .int (x3 + 6)), (2, .ref x2), (1, .ref x1), (0, .ref (1000 + 11))] 1863 dL_law_1860 rfl (by rw [kiconst_6]) (Nat.le_of_ble_eq_true rfl) rfl rfl ?_
            refine V_goto 18 dL_law_1863 (by decide) ?_
            refine V_ls [(3, .int (x3 + 6)), (2, .ref x2), (1, .ref x1), (0, .ref (1000 + 11))] [0, 1, 2, 3] rfl ?_
            refine V_cnt (ce1 := ce + 35) (sl1 := sl + 10240) (by omega) (by omega) ?_
            exact ih (ce + 35) (sl + 10240) (x3 + 6) p564.2 p hf (by omega) (by omega) (by rw [show ce + 35 + 35 * n = ce + 35 * (n + 1) from by omega, show sl + 10240 + 10240 * n = sl + 10240 * (n + 1) from by omega]; exact hk)
          · rw [if_neg c565] at hf
            refine V_iconst 0 1569 dL_law_1568 rfl kiconst_0 ?_
            cases hf
        rw [if_neg c548] at hf
        by_cases c566 : (v11 &&& 63) = 35
        · rw [if_pos c566] at hf
          refine V_tsw 35 1537 1570 dL_law_33 c566 (by decide) (by decide) (by decide) (by decide) ?_
          refine V_aload_n 2 1571 rfl dL_law_1570 rfl rfl ?_
          refine V_aload_n 3 1572 rfl dL_law_1571 rfl rfl ?_
          refine V_iload_n 0 1573 rfl dL_law_1572 rfl rfl ?_
          refine V_iconst 1 1574 dL_law_1573 rfl kiconst_1 ?_
          refine V_iadd 1575 dL_law_1574 rfl ?_
          obtain ⟨v568, h567, hf⟩ := ob hf
          refine V_sld 1576 h567 hX dL_law_1575 rfl ?_
          obtain ⟨p570, h569, hf⟩ := ob hf
          refine V_callV (rest := []) (T := TX7) (n := 10) (ci := 6) ce sl 1579 [.int p570.1] (c_X7_trace l G (d + 358) _ _ _ _ _ h569) (by omega) ok_X7_trace okv_X7_trace (gd_X7_trace h569) rfl wd_ml_TwiceNoiseLaw_164 rfl rfl (Nat.le_of_ble_eq_true rfl) rfl rfl (Or.inl ⟨rfl, rfl⟩) dL_law_1576 rfl rfl ?_
          refine V_aload_n 1 1580 rfl dL_law_1579 rfl rfl ?_
          refine V_aload_n 3 1581 rfl dL_law_1580 rfl rfl ?_
          refine V_iload_n 0 1582 rfl dL_law_1581 rfl rfl ?_
          refine V_iconst 1 1583 dL_law_1582 rfl kiconst_1 ?_
          refine V_iadd 1584 dL_law_1583 rfl ?_
          obtain ⟨v572, h571, hf⟩ := ob hf
          refine V_sld 1585 h571 hX dL_law_1584 rfl ?_
          obtain ⟨p574, h573, hf⟩ := ob hf
          refine V_callV (rest := [.int p570.1]) (T := TX8) (n := 27) (ci := 7) ce sl 1588 [.int p574.1, .int p570.1] (c_X8_trace l G (d + 359) _ _ _ _ _ h573) (by omega) ok_X8_trace okv_X8_trace (gd_X8_trace h573) rfl wd_ml_TwiceNoiseLaw_167 rfl rfl (Nat.le_of_ble_eq_true rfl) rfl rfl (Or.inl ⟨rfl, rfl⟩) dL_law_1585 rfl rfl ?_
          refine V_icmp_eq 1860 1591 dL_law_1588 (by decide) rfl (fun c575 => ?_) (fun c575 => ?_)
          · rw [if_pos c575] at hf
            refine V_iinc (x3 + 6) 0 [(3, .int (x3 + 6)), (2, .ref x2), (1, .ref x1), (0, .ref (1000 + 11))] 1863 dL_law_1860 rfl (by rw [kiconst_6]) (Nat.le_of_ble_eq_true rfl) rfl rfl ?_
            refine V_goto 18 dL_law_1863 (by decide) ?_
            refine V_ls [(3, .int (x3 + 6)), (2, .ref x2), (1, .ref x1), (0, .ref (1000 + 11))] [0, 1, 2, 3] rfl ?_
            refine V_cnt (ce1 := ce + 35) (sl1 := sl + 10240) (by omega) (by omega) ?_
            exact ih (ce + 35) (sl + 10240) (x3 + 6) p574.2 p hf (by omega) (by omega) (by rw [show ce + 35 + 35 * n = ce + 35 * (n + 1) from by omega, show sl + 10240 + 10240 * n = sl + 10240 * (n + 1) from by omega]; exact hk)
          · rw [if_neg c575] at hf
            refine V_iconst 0 1592 dL_law_1591 rfl kiconst_0 ?_
            cases hf
        rw [if_neg c566] at hf
        by_cases c576 : (v11 &&& 63) = 36
        · rw [if_pos c576] at hf
          refine V_tsw 36 1560 1593 dL_law_33 c576 (by decide) (by decide) (by decide) (by decide) ?_
          refine V_aload_n 2 1594 rfl dL_law_1593 rfl rfl ?_
          refine V_aload_n 3 1595 rfl dL_law_1594 rfl rfl ?_
          refine V_iload_n 0 1596 rfl dL_law_1595 rfl rfl ?_
          refine V_iconst 1 1597 dL_law_1596 rfl kiconst_1 ?_
          refine V_iadd 1598 dL_law_1597 rfl ?_
          obtain ⟨v578, h577, hf⟩ := ob hf
          refine V_sld 1599 h577 hX dL_law_1598 rfl ?_
          refine V_aload_n 3 1600 rfl dL_law_1599 rfl rfl ?_
          refine V_iload_n 0 1601 rfl dL_law_1600 rfl rfl ?_
          refine V_iconst 2 1602 dL_law_1601 rfl kiconst_2 ?_
          refine V_iadd 1603 dL_law_1602 rfl ?_
          obtain ⟨v580, h579, hf⟩ := ob hf
          refine V_sld 1604 h579 hX dL_law_1603 rfl ?_
          refine V_aload_n 3 1605 rfl dL_law_1604 rfl rfl ?_
          refine V_iload_n 0 1606 rfl dL_law_1605 rfl rfl ?_
          refine V_iconst 3 1607 dL_law_1606 rfl kiconst_3 ?_
          refine V_iadd 1608 dL_law_1607 rfl ?_
          obtain ⟨v582, h581, hf⟩ := ob hf
          refine V_sld 1609 h581 hX dL_law_1608 rfl ?_
          obtain ⟨p584, h583, hf⟩ := ob hf
          refine V_callV (rest := []) (T := TX7) (n := 10) (ci := 6) ce sl 1612 [.int p584.1] (c_X7_sheet l G (d + 358) _ _ _ _ _ _ _ h583) (by omega) ok_X7_sheet okv_X7_sheet (gd_X7_sheet h583) rfl wd_ml_TwiceNoiseLaw_168 rfl rfl (Nat.le_of_ble_eq_true rfl) rfl rfl (Or.inl ⟨rfl, rfl⟩) dL_law_1609 rfl rfl ?_
          refine V_aload_n 1 1613 rfl dL_law_1612 rfl rfl ?_
          refine V_aload_n 3 1614 rfl dL_law_1613 rfl rfl ?_
          refine V_iload_n 0 1615 rfl dL_law_1614 rfl rfl ?_
          refine V_iconst 1 1616 dL_law_1615 rfl kiconst_1 ?_
          refine V_iadd 1617 dL_law_1616 rfl ?_
          obtain ⟨v586, h585, hf⟩ := ob hf
          refine V_sld 1618 h585 hX dL_law_1617 rfl ?_
          refine V_aload_n 3 1619 rfl dL_law_1618 rfl rfl ?_
          refine V_iload_n 0 1620 rfl dL_law_1619 rfl rfl ?_
          refine V_iconst 2 1621 dL_law_1620 rfl kiconst_2 ?_
          refine V_iadd 1622 dL_law_1621 rfl ?_
          obtain ⟨v588, h587, hf⟩ := ob hf
          refine V_sld 1623 h587 hX dL_law_1622 rfl ?_
          refine V_aload_n 3 1624 rfl dL_law_1623 rfl rfl ?_
          refine V_iload_n 0 1625 rfl dL_law_1624 rfl rfl ?_
          refine V_iconst 3 1626 dL_law_1625 rfl kiconst_3 ?_
          refine V_iadd 1627 dL_law_1626 rfl ?_
          obtain ⟨v590, h589, hf⟩ := ob hf
          refine V_sld 1628 h589 hX dL_law_1627 rfl ?_
          obtain ⟨p592, h591, hf⟩ := ob hf
          refine V_callV (rest := [.int p584.1]) (T := TX8) (n := 27) (ci := 7) ce sl 1631 [.int p592.1, .int p584.1] (c_X8_sheet l G (d + 358) _ _ _ _ _ _ _ h591) (by omega) ok_X8_sheet okv_X8_sheet (gd_X8_sheet h591) rfl wd_ml_TwiceNoiseLaw_171 rfl rfl (Nat.le_of_ble_eq_true rfl) rfl rfl (Or.inl ⟨rfl, rfl⟩) dL_law_1628 rfl rfl ?_
          refine V_icmp_eq 1860 1634 dL_law_1631 (by decide) rfl (fun c593 => ?_) (fun c593 => ?_)
          · rw [if_pos c593] at hf
            refine V_iinc (x3 + 6) 0 [(3, .int (x3 + 6)), (2, .ref x2), (1, .ref x1), (0, .ref (1000 + 11))] 1863 dL_law_1860 rfl (by rw [kiconst_6]) (Nat.le_of_ble_eq_true rfl) rfl rfl ?_
            refine V_goto 18 dL_law_1863 (by decide) ?_
            refine V_ls [(3, .int (x3 + 6)), (2, .ref x2), (1, .ref x1), (0, .ref (1000 + 11))] [0, 1, 2, 3] rfl ?_
            refine V_cnt (ce1 := ce + 35) (sl1 := sl + 10240) (by omega) (by omega) ?_
            exact ih (ce + 35) (sl + 10240) (x3 + 6) p592.2 p hf (by omega) (by omega) (by rw [show ce + 35 + 35 * n = ce + 35 * (n + 1) from by omega, show sl + 10240 + 10240 * n = sl + 10240 * (n + 1) from by omega]; exact hk)
          · rw [if_neg c593] at hf
            refine V_iconst 0 1635 dL_law_1634 rfl kiconst_0 ?_
            cases hf
        rw [if_neg c576] at hf
        by_cases c594 : (v11 &&& 63) = 37
        · rw [if_pos c594] at hf
          refine V_tsw 37 1603 1636 dL_law_33 c594 (by decide) (by decide) (by decide) (by decide) ?_
          refine V_aload_n 2 1637 rfl dL_law_1636 rfl rfl ?_
          refine V_aload_n 3 1638 rfl dL_law_1637 rfl rfl ?_
          refine V_iload_n 0 1639 rfl dL_law_1638 rfl rfl ?_
          refine V_iconst 1 1640 dL_law_1639 rfl kiconst_1 ?_
          refine V_iadd 1641 dL_law_1640 rfl ?_
          obtain ⟨v596, h595, hf⟩ := ob hf
          refine V_sld 1642 h595 hX dL_law_1641 rfl ?_
          refine V_aload_n 3 1643 rfl dL_law_1642 rfl rfl ?_
          refine V_iload_n 0 1644 rfl dL_law_1643 rfl rfl ?_
          refine V_iconst 2 1645 dL_law_1644 rfl kiconst_2 ?_
          refine V_iadd 1646 dL_law_1645 rfl ?_
          obtain ⟨v598, h597, hf⟩ := ob hf
          refine V_sld 1647 h597 hX dL_law_1646 rfl ?_
          refine V_aload_n 3 1648 rfl dL_law_1647 rfl rfl ?_
          refine V_iload_n 0 1649 rfl dL_law_1648 rfl rfl ?_
          refine V_iconst 3 1650 dL_law_1649 rfl kiconst_3 ?_
          refine V_iadd 1651 dL_law_1650 rfl ?_
          obtain ⟨v600, h599, hf⟩ := ob hf
          refine V_sld 1652 h599 hX dL_law_1651 rfl ?_
          obtain ⟨p602, h601, hf⟩ := ob hf
          refine V_callV (rest := []) (T := TX7) (n := 10) (ci := 6) ce sl 1655 [.int p602.1] (c_X7_put l G (d + 358) _ _ _ _ _ _ _ h601) (by omega) ok_X7_put okv_X7_put (gd_X7_put h601) rfl wd_ml_TwiceNoiseLaw_172 rfl rfl (Nat.le_of_ble_eq_true rfl) rfl rfl (Or.inl ⟨rfl, rfl⟩) dL_law_1652 rfl rfl ?_
          refine V_aload_n 1 1656 rfl dL_law_1655 rfl rfl ?_
          refine V_aload_n 3 1657 rfl dL_law_1656 rfl rfl ?_
          refine V_iload_n 0 1658 rfl dL_law_1657 rfl rfl ?_
          refine V_iconst 1 1659 dL_law_1658 rfl kiconst_1 ?_
          refine V_iadd 1660 dL_law_1659 rfl ?_
          obtain ⟨v604, h603, hf⟩ := ob hf
          refine V_sld 1661 h603 hX dL_law_1660 rfl ?_
          refine V_aload_n 3 1662 rfl dL_law_1661 rfl rfl ?_
          refine V_iload_n 0 1663 rfl dL_law_1662 rfl rfl ?_
          refine V_iconst 2 1664 dL_law_1663 rfl kiconst_2 ?_
          refine V_iadd 1665 dL_law_1664 rfl ?_
          obtain ⟨v606, h605, hf⟩ := ob hf
          refine V_sld 1666 h605 hX dL_law_1665 rfl ?_
          refine V_aload_n 3 1667 rfl dL_law_1666 rfl rfl ?_
          refine V_iload_n 0 1668 rfl dL_law_1667 rfl rfl ?_
          refine V_iconst 3 1669 dL_law_1668 rfl kiconst_3 ?_
          refine V_iadd 1670 dL_law_1669 rfl ?_
          obtain ⟨v608, h607, hf⟩ := ob hf
          refine V_sld 1671 h607 hX dL_law_1670 rfl ?_
          obtain ⟨p610, h609, hf⟩ := ob hf
          refine V_callV (rest := [.int p602.1]) (T := TX8) (n := 27) (ci := 7) ce sl 1674 [.int p610.1, .int p602.1] (c_X8_put l G (d + 358) _ _ _ _ _ _ _ h609) (by omega) ok_X8_put okv_X8_put (gd_X8_put h609) rfl wd_ml_TwiceNoiseLaw_175 rfl rfl (Nat.le_of_ble_eq_true rfl) rfl rfl (Or.inl ⟨rfl, rfl⟩) dL_law_1671 rfl rfl ?_
          refine V_icmp_eq 1860 1677 dL_law_1674 (by decide) rfl (fun c611 => ?_) (fun c611 => ?_)
          · rw [if_pos c611] at hf
            refine V_iinc (x3 + 6) 0 [(3, .int (x3 + 6)), (2, .ref x2), (1, .ref x1), (0, .ref (1000 + 11))] 1863 dL_law_1860 rfl (by rw [kiconst_6]) (Nat.le_of_ble_eq_true rfl) rfl rfl ?_
            refine V_goto 18 dL_law_1863 (by decide) ?_
            refine V_ls [(3, .int (x3 + 6)), (2, .ref x2), (1, .ref x1), (0, .ref (1000 + 11))] [0, 1, 2, 3] rfl ?_
            refine V_cnt (ce1 := ce + 35) (sl1 := sl + 10240) (by omega) (by omega) ?_
            exact ih (ce + 35) (sl + 10240) (x3 + 6) p610.2 p hf (by omega) (by omega) (by rw [show ce + 35 + 35 * n = ce + 35 * (n + 1) from by omega, show sl + 10240 + 10240 * n = sl + 10240 * (n + 1) from by omega]; exact hk)
          · rw [if_neg c611] at hf
            refine V_iconst 0 1678 dL_law_1677 rfl kiconst_0 ?_
            cases hf
        rw [if_neg c594] at hf
        by_cases c612 : (v11 &&& 63) = 38
        · rw [if_pos c612] at hf
          refine V_tsw 38 1646 1679 dL_law_33 c612 (by decide) (by decide) (by decide) (by decide) ?_
          refine V_aload_n 2 1680 rfl dL_law_1679 rfl rfl ?_
          refine V_aload_n 3 1681 rfl dL_law_1680 rfl rfl ?_
          refine V_iload_n 0 1682 rfl dL_law_1681 rfl rfl ?_
          refine V_iconst 1 1683 dL_law_1682 rfl kiconst_1 ?_
          refine V_iadd 1684 dL_law_1683 rfl ?_
          obtain ⟨v614, h613, hf⟩ := ob hf
          refine V_sld 1685 h613 hX dL_law_1684 rfl ?_
          refine V_aload_n 3 1686 rfl dL_law_1685 rfl rfl ?_
          refine V_iload_n 0 1687 rfl dL_law_1686 rfl rfl ?_
          refine V_iconst 2 1688 dL_law_1687 rfl kiconst_2 ?_
          refine V_iadd 1689 dL_law_1688 rfl ?_
          obtain ⟨v616, h615, hf⟩ := ob hf
          refine V_sld 1690 h615 hX dL_law_1689 rfl ?_
          refine V_aload_n 3 1691 rfl dL_law_1690 rfl rfl ?_
          refine V_iload_n 0 1692 rfl dL_law_1691 rfl rfl ?_
          refine V_iconst 3 1693 dL_law_1692 rfl kiconst_3 ?_
          refine V_iadd 1694 dL_law_1693 rfl ?_
          obtain ⟨v618, h617, hf⟩ := ob hf
          refine V_sld 1695 h617 hX dL_law_1694 rfl ?_
          refine V_aload_n 3 1696 rfl dL_law_1695 rfl rfl ?_
          refine V_iload_n 0 1697 rfl dL_law_1696 rfl rfl ?_
          refine V_iconst 4 1698 dL_law_1697 rfl kiconst_4 ?_
          refine V_iadd 1699 dL_law_1698 rfl ?_
          obtain ⟨v620, h619, hf⟩ := ob hf
          refine V_sld 1700 h619 hX dL_law_1699 rfl ?_
          refine V_aload_n 3 1701 rfl dL_law_1700 rfl rfl ?_
          refine V_iload_n 0 1702 rfl dL_law_1701 rfl rfl ?_
          refine V_iconst 5 1703 dL_law_1702 rfl kiconst_5 ?_
          refine V_iadd 1704 dL_law_1703 rfl ?_
          obtain ⟨v622, h621, hf⟩ := ob hf
          refine V_sld 1705 h621 hX dL_law_1704 rfl ?_
          obtain ⟨p624, h623, hf⟩ := ob hf
          refine V_callV (rest := []) (T := TX7) (n := 10) (ci := 6) ce sl 1708 [.int p624.1] (c_X7_move l G (d + 358) _ _ _ _ _ _ _ _ _ h623) (by omega) ok_X7_move okv_X7_move (gd_X7_move h623) rfl wd_ml_TwiceNoiseLaw_176 rfl rfl (Nat.le_of_ble_eq_true rfl) rfl rfl (Or.inl ⟨rfl, rfl⟩) dL_law_1705 rfl rfl ?_
          refine V_aload_n 1 1709 rfl dL_law_1708 rfl rfl ?_
          refine V_aload_n 3 1710 rfl dL_law_1709 rfl rfl ?_
          refine V_iload_n 0 1711 rfl dL_law_1710 rfl rfl ?_
          refine V_iconst 1 1712 dL_law_1711 rfl kiconst_1 ?_
          refine V_iadd 1713 dL_law_1712 rfl ?_
          obtain ⟨v626, h625, hf⟩ := ob hf
          refine V_sld 1714 h625 hX dL_law_1713 rfl ?_
          refine V_aload_n 3 1715 rfl dL_law_1714 rfl rfl ?_
          refine V_iload_n 0 1716 rfl dL_law_1715 rfl rfl ?_
          refine V_iconst 2 1717 dL_law_1716 rfl kiconst_2 ?_
          refine V_iadd 1718 dL_law_1717 rfl ?_
          obtain ⟨v628, h627, hf⟩ := ob hf
          refine V_sld 1719 h627 hX dL_law_1718 rfl ?_
          refine V_aload_n 3 1720 rfl dL_law_1719 rfl rfl ?_
          refine V_iload_n 0 1721 rfl dL_law_1720 rfl rfl ?_
          refine V_iconst 3 1722 dL_law_1721 rfl kiconst_3 ?_
          refine V_iadd 1723 dL_law_1722 rfl ?_
          obtain ⟨v630, h629, hf⟩ := ob hf
          refine V_sld 1724 h629 hX dL_law_1723 rfl ?_
          refine V_aload_n 3 1725 rfl dL_law_1724 rfl rfl ?_
          refine V_iload_n 0 1726 rfl dL_law_1725 rfl rfl ?_
          refine V_iconst 4 1727 dL_law_1726 rfl kiconst_4 ?_
          refine V_iadd 1728 dL_law_1727 rfl ?_
          obtain ⟨v632, h631, hf⟩ := ob hf
          refine V_sld 1729 h631 hX dL_law_1728 rfl ?_
          refine V_aload_n 3 1730 rfl dL_law_1729 rfl rfl ?_
          refine V_iload_n 0 1731 rfl dL_law_1730 rfl rfl ?_
          refine V_iconst 5 1732 dL_law_1731 rfl kiconst_5 ?_
          refine V_iadd 1733 dL_law_1732 rfl ?_
          obtain ⟨v634, h633, hf⟩ := ob hf
          refine V_sld 1734 h633 hX dL_law_1733 rfl ?_
          obtain ⟨p636, h635, hf⟩ := ob hf
          refine V_callV (rest := [.int p624.1]) (T := TX8) (n := 27) (ci := 7) ce sl 1737 [.int p636.1, .int p624.1] (c_X8_move l G (d + 358) _ _ _ _ _ _ _ _ _ h635) (by omega) ok_X8_move okv_X8_move (gd_X8_move h635) rfl wd_ml_TwiceNoiseLaw_179 rfl rfl (Nat.le_of_ble_eq_true rfl) rfl rfl (Or.inl ⟨rfl, rfl⟩) dL_law_1734 rfl rfl ?_
          refine V_icmp_eq 1860 1740 dL_law_1737 (by decide) rfl (fun c637 => ?_) (fun c637 => ?_)
          · rw [if_pos c637] at hf
            refine V_iinc (x3 + 6) 0 [(3, .int (x3 + 6)), (2, .ref x2), (1, .ref x1), (0, .ref (1000 + 11))] 1863 dL_law_1860 rfl (by rw [kiconst_6]) (Nat.le_of_ble_eq_true rfl) rfl rfl ?_
            refine V_goto 18 dL_law_1863 (by decide) ?_
            refine V_ls [(3, .int (x3 + 6)), (2, .ref x2), (1, .ref x1), (0, .ref (1000 + 11))] [0, 1, 2, 3] rfl ?_
            refine V_cnt (ce1 := ce + 35) (sl1 := sl + 10240) (by omega) (by omega) ?_
            exact ih (ce + 35) (sl + 10240) (x3 + 6) p636.2 p hf (by omega) (by omega) (by rw [show ce + 35 + 35 * n = ce + 35 * (n + 1) from by omega, show sl + 10240 + 10240 * n = sl + 10240 * (n + 1) from by omega]; exact hk)
          · rw [if_neg c637] at hf
            refine V_iconst 0 1741 dL_law_1740 rfl kiconst_0 ?_
            cases hf
        rw [if_neg c612] at hf
        by_cases c638 : (v11 &&& 63) = 39
        · rw [if_pos c638] at hf
          refine V_tsw 39 1709 1742 dL_law_33 c638 (by decide) (by decide) (by decide) (by decide) ?_
          refine V_aload_n 2 1743 rfl dL_law_1742 rfl rfl ?_
          obtain ⟨p640, h639, hf⟩ := ob hf
          refine V_callV (rest := []) (T := TX7) (n := 10) (ci := 6) (ce + 35) (sl + 10240) 1746 [.int p640.1] (c_X7_image l G (d + 357) _ _ _ _ h639) (by omega) ok_X7_image okv_X7_image (gd_X7_image h639) rfl wd_ml_TwiceNoiseLaw_180 rfl rfl (Nat.le_of_ble_eq_true rfl) rfl rfl (Or.inr ⟨by omega, by omega⟩) dL_law_1743 rfl rfl ?_
          refine V_aload_n 1 1747 rfl dL_law_1746 rfl rfl ?_
          obtain ⟨p642, h641, hf⟩ := ob hf
          refine V_callV (rest := [.int p640.1]) (T := TX8) (n := 27) (ci := 7) (ce + 35) (sl + 10240) 1750 [.int p642.1, .int p640.1] (c_X8_image l G (d + 359) _ _ _ _ h641) (by omega) ok_X8_image okv_X8_image (gd_X8_image h641) rfl wd_ml_TwiceNoiseLaw_183 rfl rfl (Nat.le_of_ble_eq_true rfl) rfl rfl (Or.inl ⟨rfl, rfl⟩) dL_law_1747 rfl rfl ?_
          refine V_icmp_eq 1860 1753 dL_law_1750 (by decide) rfl (fun c643 => ?_) (fun c643 => ?_)
          · rw [if_pos c643] at hf
            refine V_iinc (x3 + 6) 0 [(3, .int (x3 + 6)), (2, .ref x2), (1, .ref x1), (0, .ref (1000 + 11))] 1863 dL_law_1860 rfl (by rw [kiconst_6]) (Nat.le_of_ble_eq_true rfl) rfl rfl ?_
            refine V_goto 18 dL_law_1863 (by decide) ?_
            refine V_ls [(3, .int (x3 + 6)), (2, .ref x2), (1, .ref x1), (0, .ref (1000 + 11))] [0, 1, 2, 3] rfl ?_
            refine V_cnt (ce1 := ce + 35) (sl1 := sl + 10240) (by omega) (by omega) ?_
            exact ih (ce + 35) (sl + 10240) (x3 + 6) p642.2 p hf (by omega) (by omega) (by rw [show ce + 35 + 35 * n = ce + 35 * (n + 1) from by omega, show sl + 10240 + 10240 * n = sl + 10240 * (n + 1) from by omega]; exact hk)
          · rw [if_neg c643] at hf
            refine V_iconst 0 1754 dL_law_1753 rfl kiconst_0 ?_
            cases hf
        rw [if_neg c638] at hf
        by_cases c644 : (v11 &&& 63) = 40
        · rw [if_pos c644] at hf
          refine V_tsw 40 1722 1755 dL_law_33 c644 (by decide) (by decide) (by decide) (by decide) ?_
          refine V_aload_n 2 1756 rfl dL_law_1755 rfl rfl ?_
          obtain ⟨p646, h645, hf⟩ := ob hf
          refine V_callV (rest := []) (T := TX7) (n := 10) (ci := 6) ce sl 1759 [.int p646.1] (c_X7_restore l G (d + 357) _ _ _ _ h645) (by omega) ok_X7_restore okv_X7_restore (gd_X7_restore h645) rfl wd_ml_TwiceNoiseLaw_184 rfl rfl (Nat.le_of_ble_eq_true rfl) rfl rfl (Or.inl ⟨rfl, rfl⟩) dL_law_1756 rfl rfl ?_
          refine V_aload_n 1 1760 rfl dL_law_1759 rfl rfl ?_
          obtain ⟨p648, h647, hf⟩ := ob hf
          refine V_callV (rest := [.int p646.1]) (T := TX8) (n := 27) (ci := 7) ce sl 1763 [.int p648.1, .int p646.1] (c_X8_restore l G (d + 359) _ _ _ _ h647) (by omega) ok_X8_restore okv_X8_restore (gd_X8_restore h647) rfl wd_ml_TwiceNoiseLaw_187 rfl rfl (Nat.le_of_ble_eq_true rfl) rfl rfl (Or.inl ⟨rfl, rfl⟩) dL_law_1760 rfl rfl ?_
          refine V_icmp_eq 1860 1766 dL_law_1763 (by decide) rfl (fun c649 => ?_) (fun c649 => ?_)
          · rw [if_pos c649] at hf
            refine V_iinc (x3 + 6) 0 [(3, .int (x3 + 6)), (2, .ref x2), (1, .ref x1), (0, .ref (1000 + 11))] 1863 dL_law_1860 rfl (by rw [kiconst_6]) (Nat.le_of_ble_eq_true rfl) rfl rfl ?_
            refine V_goto 18 dL_law_1863 (by decide) ?_
            refine V_ls [(3, .int (x3 + 6)), (2, .ref x2), (1, .ref x1), (0, .ref (1000 + 11))] [0, 1, 2, 3] rfl ?_
            refine V_cnt (ce1 := ce + 35) (sl1 := sl + 10240) (by omega) (by omega) ?_
            exact ih (ce + 35) (sl + 10240) (x3 + 6) p648.2 p hf (by omega) (by omega) (by rw [show ce + 35 + 35 * n = ce + 35 * (n + 1) from by omega, show sl + 10240 + 10240 * n = sl + 10240 * (n + 1) from by omega]; exact hk)
          · rw [if_neg c649] at hf
            refine V_iconst 0 1767 dL_law_1766 rfl kiconst_0 ?_
            cases hf
        rw [if_neg c644] at hf
        by_cases c650 : (v11 &&& 63) = 41
        · rw [if_pos c650] at hf
          refine V_tsw 41 1735 1768 dL_law_33 c650 (by decide) (by decide) (by decide) (by decide) ?_
          refine V_aload_n 2 1769 rfl dL_law_1768 rfl rfl ?_
          refine V_aload_n 3 1770 rfl dL_law_1769 rfl rfl ?_
          refine V_iload_n 0 1771 rfl dL_law_1770 rfl rfl ?_
          refine V_iconst 1 1772 dL_law_1771 rfl kiconst_1 ?_
          refine V_iadd 1773 dL_law_1772 rfl ?_
          obtain ⟨v652, h651, hf⟩ := ob hf
          refine V_sld 1774 h651 hX dL_law_1773 rfl ?_
          obtain ⟨p654, h653, hf⟩ := ob hf
          refine V_callV (rest := []) (T := TX7) (n := 10) (ci := 6) ce sl 1777 [.int p654.1] (c_X7_tell l G (d + 358) _ _ _ _ _ h653) (by omega) ok_X7_tell okv_X7_tell (gd_X7_tell h653) rfl wd_ml_TwiceNoiseLaw_188 rfl rfl (Nat.le_of_ble_eq_true rfl) rfl rfl (Or.inl ⟨rfl, rfl⟩) dL_law_1774 rfl rfl ?_
          refine V_aload_n 1 1778 rfl dL_law_1777 rfl rfl ?_
          refine V_aload_n 3 1779 rfl dL_law_1778 rfl rfl ?_
          refine V_iload_n 0 1780 rfl dL_law_1779 rfl rfl ?_
          refine V_iconst 1 1781 dL_law_1780 rfl kiconst_1 ?_
          refine V_iadd 1782 dL_law_1781 rfl ?_
          obtain ⟨v656, h655, hf⟩ := ob hf
          refine V_sld 1783 h655 hX dL_law_1782 rfl ?_
          obtain ⟨p658, h657, hf⟩ := ob hf
          refine V_callV (rest := [.int p654.1]) (T := TX8) (n := 27) (ci := 7) ce sl 1786 [.int p658.1, .int p654.1] (c_X8_tell l G (d + 359) _ _ _ _ _ h657) (by omega) ok_X8_tell okv_X8_tell (gd_X8_tell h657) rfl wd_ml_TwiceNoiseLaw_191 rfl rfl (Nat.le_of_ble_eq_true rfl) rfl rfl (Or.inl ⟨rfl, rfl⟩) dL_law_1783 rfl rfl ?_
          refine V_icmp_eq 1860 1789 dL_law_1786 (by decide) rfl (fun c659 => ?_) (fun c659 => ?_)
          · rw [if_pos c659] at hf
            refine V_iinc (x3 + 6) 0 [(3, .int (x3 + 6)), (2, .ref x2), (1, .ref x1), (0, .ref (1000 + 11))] 1863 dL_law_1860 rfl (by rw [kiconst_6]) (Nat.le_of_ble_eq_true rfl) rfl rfl ?_
            refine V_goto 18 dL_law_1863 (by decide) ?_
            refine V_ls [(3, .int (x3 + 6)), (2, .ref x2), (1, .ref x1), (0, .ref (1000 + 11))] [0, 1, 2, 3] rfl ?_
            refine V_cnt (ce1 := ce + 35) (sl1 := sl + 10240) (by omega) (by omega) ?_
            exact ih (ce + 35) (sl + 10240) (x3 + 6) p658.2 p hf (by omega) (by omega) (by rw [show ce + 35 + 35 * n = ce + 35 * (n + 1) from by omega, show sl + 10240 + 10240 * n = sl + 10240 * (n + 1) from by omega]; exact hk)
          · rw [if_neg c659] at hf
            refine V_iconst 0 1790 dL_law_1789 rfl kiconst_0 ?_
            cases hf
        rw [if_neg c650] at hf
        by_cases c660 : (v11 &&& 63) = 42
        · rw [if_pos c660] at hf
          refine V_tsw 42 1758 1791 dL_law_33 c660 (by decide) (by decide) (by decide) (by decide) ?_
          refine V_aload_n 2 1792 rfl dL_law_1791 rfl rfl ?_
          refine V_aload_n 3 1793 rfl dL_law_1792 rfl rfl ?_
          refine V_iload_n 0 1794 rfl dL_law_1793 rfl rfl ?_
          refine V_iconst 1 1795 dL_law_1794 rfl kiconst_1 ?_
          refine V_iadd 1796 dL_law_1795 rfl ?_
          obtain ⟨v662, h661, hf⟩ := ob hf
          refine V_sld 1797 h661 hX dL_law_1796 rfl ?_
          obtain ⟨p664, h663, hf⟩ := ob hf
          refine V_callV (rest := []) (T := TX7) (n := 10) (ci := 6) ce sl 1800 [.int p664.1] (c_X7_check l G (d + 354) _ _ _ _ _ h663) (by omega) ok_X7_check okv_X7_check (gd_X7_check h663) rfl wd_ml_TwiceNoiseLaw_192 rfl rfl (Nat.le_of_ble_eq_true rfl) rfl rfl (Or.inl ⟨rfl, rfl⟩) dL_law_1797 rfl rfl ?_
          refine V_aload_n 1 1801 rfl dL_law_1800 rfl rfl ?_
          refine V_aload_n 3 1802 rfl dL_law_1801 rfl rfl ?_
          refine V_iload_n 0 1803 rfl dL_law_1802 rfl rfl ?_
          refine V_iconst 1 1804 dL_law_1803 rfl kiconst_1 ?_
          refine V_iadd 1805 dL_law_1804 rfl ?_
          obtain ⟨v666, h665, hf⟩ := ob hf
          refine V_sld 1806 h665 hX dL_law_1805 rfl ?_
          obtain ⟨p668, h667, hf⟩ := ob hf
          refine V_callV (rest := [.int p664.1]) (T := TX8) (n := 27) (ci := 7) ce sl 1809 [.int p668.1, .int p664.1] (c_X8_check l G (d + 297) _ _ _ _ _ h667) (by omega) ok_X8_check okv_X8_check (gd_X8_check h667) rfl wd_ml_TwiceNoiseLaw_195 rfl rfl (Nat.le_of_ble_eq_true rfl) rfl rfl (Or.inl ⟨rfl, rfl⟩) dL_law_1806 rfl rfl ?_
          refine V_icmp_eq 1860 1812 dL_law_1809 (by decide) rfl (fun c669 => ?_) (fun c669 => ?_)
          · rw [if_pos c669] at hf
            refine V_iinc (x3 + 6) 0 [(3, .int (x3 + 6)), (2, .ref x2), (1, .ref x1), (0, .ref (1000 + 11))] 1863 dL_law_1860 rfl (by rw [kiconst_6]) (Nat.le_of_ble_eq_true rfl) rfl rfl ?_
            refine V_goto 18 dL_law_1863 (by decide) ?_
            refine V_ls [(3, .int (x3 + 6)), (2, .ref x2), (1, .ref x1), (0, .ref (1000 + 11))] [0, 1, 2, 3] rfl ?_
            refine V_cnt (ce1 := ce + 35) (sl1 := sl + 10240) (by omega) (by omega) ?_
            exact ih (ce + 35) (sl + 10240) (x3 + 6) p668.2 p hf (by omega) (by omega) (by rw [show ce + 35 + 35 * n = ce + 35 * (n + 1) from by omega, show sl + 10240 + 10240 * n = sl + 10240 * (n + 1) from by omega]; exact hk)
          · rw [if_neg c669] at hf
            refine V_iconst 0 1813 dL_law_1812 rfl kiconst_0 ?_
            cases hf
        rw [if_neg c660] at hf
        by_cases c670 : (v11 &&& 63) = 43
        · rw [if_pos c670] at hf
          refine V_tsw 43 1781 1814 dL_law_33 c670 (by decide) (by decide) (by decide) (by decide) ?_
          refine V_aload_n 2 1815 rfl dL_law_1814 rfl rfl ?_
          refine V_aload_n 3 1816 rfl dL_law_1815 rfl rfl ?_
          refine V_iload_n 0 1817 rfl dL_law_1816 rfl rfl ?_
          refine V_iconst 1 1818 dL_law_1817 rfl kiconst_1 ?_
          refine V_iadd 1819 dL_law_1818 rfl ?_
          obtain ⟨v672, h671, hf⟩ := ob hf
          refine V_sld 1820 h671 hX dL_law_1819 rfl ?_
          obtain ⟨p674, h673, hf⟩ := ob hf
          refine V_callV (rest := []) (T := TX7) (n := 10) (ci := 6) ce sl 1823 [.int p674.1] (c_X7_count l G (d + 358) _ _ _ _ _ h673) (by omega) ok_X7_count okv_X7_count (gd_X7_count h673) rfl wd_ml_TwiceNoiseLaw_196 rfl rfl (Nat.le_of_ble_eq_true rfl) rfl rfl (Or.inl ⟨rfl, rfl⟩) dL_law_1820 rfl rfl ?_
          refine V_aload_n 1 1824 rfl dL_law_1823 rfl rfl ?_
          refine V_aload_n 3 1825 rfl dL_law_1824 rfl rfl ?_
          refine V_iload_n 0 1826 rfl dL_law_1825 rfl rfl ?_
          refine V_iconst 1 1827 dL_law_1826 rfl kiconst_1 ?_
          refine V_iadd 1828 dL_law_1827 rfl ?_
          obtain ⟨v676, h675, hf⟩ := ob hf
          refine V_sld 1829 h675 hX dL_law_1828 rfl ?_
          obtain ⟨p678, h677, hf⟩ := ob hf
          refine V_callV (rest := [.int p674.1]) (T := TX8) (n := 27) (ci := 7) ce sl 1832 [.int p678.1, .int p674.1] (c_X8_count l G (d + 358) _ _ _ _ _ h677) (by omega) ok_X8_count okv_X8_count (gd_X8_count h677) rfl wd_ml_TwiceNoiseLaw_199 rfl rfl (Nat.le_of_ble_eq_true rfl) rfl rfl (Or.inl ⟨rfl, rfl⟩) dL_law_1829 rfl rfl ?_
          refine V_icmp_eq 1860 1835 dL_law_1832 (by decide) rfl (fun c679 => ?_) (fun c679 => ?_)
          · rw [if_pos c679] at hf
            refine V_iinc (x3 + 6) 0 [(3, .int (x3 + 6)), (2, .ref x2), (1, .ref x1), (0, .ref (1000 + 11))] 1863 dL_law_1860 rfl (by rw [kiconst_6]) (Nat.le_of_ble_eq_true rfl) rfl rfl ?_
            refine V_goto 18 dL_law_1863 (by decide) ?_
            refine V_ls [(3, .int (x3 + 6)), (2, .ref x2), (1, .ref x1), (0, .ref (1000 + 11))] [0, 1, 2, 3] rfl ?_
            refine V_cnt (ce1 := ce + 35) (sl1 := sl + 10240) (by omega) (by omega) ?_
            exact ih (ce + 35) (sl + 10240) (x3 + 6) p678.2 p hf (by omega) (by omega) (by rw [show ce + 35 + 35 * n = ce + 35 * (n + 1) from by omega, show sl + 10240 + 10240 * n = sl + 10240 * (n + 1) from by omega]; exact hk)
          · rw [if_neg c679] at hf
            refine V_iconst 0 1836 dL_law_1835 rfl kiconst_0 ?_
            cases hf
        rw [if_neg c670] at hf
        by_cases c680 : (v11 &&& 63) = 44
        · rw [if_pos c680] at hf
          refine V_tsw 44 1804 1837 dL_law_33 c680 (by decide) (by decide) (by decide) (by decide) ?_
          refine V_aload_n 2 1838 rfl dL_law_1837 rfl rfl ?_
          refine V_aload_n 3 1839 rfl dL_law_1838 rfl rfl ?_
          refine V_iload_n 0 1840 rfl dL_law_1839 rfl rfl ?_
          refine V_iconst 1 1841 dL_law_1840 rfl kiconst_1 ?_
          refine V_iadd 1842 dL_law_1841 rfl ?_
          obtain ⟨v682, h681, hf⟩ := ob hf
          refine V_sld 1843 h681 hX dL_law_1842 rfl ?_
          obtain ⟨p684, h683, hf⟩ := ob hf
          refine V_callV (rest := []) (T := TX7) (n := 10) (ci := 6) ce sl 1846 [.int p684.1] (c_X7_told l G (d + 358) _ _ _ _ _ h683) (by omega) ok_X7_told okv_X7_told (gd_X7_told h683) rfl wd_ml_TwiceNoiseLaw_200 rfl rfl (Nat.le_of_ble_eq_true rfl) rfl rfl (Or.inl ⟨rfl, rfl⟩) dL_law_1843 rfl rfl ?_
          refine V_aload_n 1 1847 rfl dL_law_1846 rfl rfl ?_
          refine V_aload_n 3 1848 rfl dL_law_1847 rfl rfl ?_
          refine V_iload_n 0 1849 rfl dL_law_1848 rfl rfl ?_
          refine V_iconst 1 1850 dL_law_1849 rfl kiconst_1 ?_
          refine V_iadd 1851 dL_law_1850 rfl ?_
          obtain ⟨v686, h685, hf⟩ := ob hf
          refine V_sld 1852 h685 hX dL_law_1851 rfl ?_
          obtain ⟨p688, h687, hf⟩ := ob hf
          refine V_callV (rest := [.int p684.1]) (T := TX8) (n := 27) (ci := 7) ce sl 1855 [.int p688.1, .int p684.1] (c_X8_told l G (d + 359) _ _ _ _ _ h687) (by omega) ok_X8_told okv_X8_told (gd_X8_told h687) rfl wd_ml_TwiceNoiseLaw_203 rfl rfl (Nat.le_of_ble_eq_true rfl) rfl rfl (Or.inl ⟨rfl, rfl⟩) dL_law_1852 rfl rfl ?_
          refine V_icmp_eq 1860 1858 dL_law_1855 (by decide) rfl (fun c689 => ?_) (fun c689 => ?_)
          · rw [if_pos c689] at hf
            refine V_iinc (x3 + 6) 0 [(3, .int (x3 + 6)), (2, .ref x2), (1, .ref x1), (0, .ref (1000 + 11))] 1863 dL_law_1860 rfl (by rw [kiconst_6]) (Nat.le_of_ble_eq_true rfl) rfl rfl ?_
            refine V_goto 18 dL_law_1863 (by decide) ?_
            refine V_ls [(3, .int (x3 + 6)), (2, .ref x2), (1, .ref x1), (0, .ref (1000 + 11))] [0, 1, 2, 3] rfl ?_
            refine V_cnt (ce1 := ce + 35) (sl1 := sl + 10240) (by omega) (by omega) ?_
            exact ih (ce + 35) (sl + 10240) (x3 + 6) p688.2 p hf (by omega) (by omega) (by rw [show ce + 35 + 35 * n = ce + 35 * (n + 1) from by omega, show sl + 10240 + 10240 * n = sl + 10240 * (n + 1) from by omega]; exact hk)
          · rw [if_neg c689] at hf
            refine V_iconst 0 1859 dL_law_1858 rfl kiconst_0 ?_
            cases hf
        rw [if_neg c680] at hf
        refine V_tswD [0, 1, 2, 3, 4, 5, 6, 7, 8, 9, 10, 11, 12, 13, 14, 15, 16, 17, 18, 19, 20, 21, 22, 23, 24, 25, 26, 27, 28, 29, 30, 31, 32, 33, 34, 35, 36, 37, 38, 39, 40, 41, 42, 43, 44] 1860 dL_law_33 (fun q hq => by simp only [List.mem_cons, List.not_mem_nil, or_false] at hq; rcases hq with rfl | rfl | rfl | rfl | rfl | rfl | rfl | rfl | rfl | rfl | rfl | rfl | rfl | rfl | rfl | rfl | rfl | rfl | rfl | rfl | rfl | rfl | rfl | rfl | rfl | rfl | rfl | rfl | rfl | rfl | rfl | rfl | rfl | rfl | rfl | rfl | rfl | rfl | rfl | rfl | rfl | rfl | rfl | rfl | rfl <;> assumption) (by decide) (by decide) (by decide) ?_
        refine V_iinc (x3 + 6) 0 [(3, .int (x3 + 6)), (2, .ref x2), (1, .ref x1), (0, .ref (1000 + 11))] 1863 dL_law_1860 rfl (by rw [kiconst_6]) (Nat.le_of_ble_eq_true rfl) rfl rfl ?_
        refine V_goto 18 dL_law_1863 (by decide) ?_
        refine V_ls [(3, .int (x3 + 6)), (2, .ref x2), (1, .ref x1), (0, .ref (1000 + 11))] [0, 1, 2, 3] rfl ?_
        refine V_cnt (ce1 := ce + 35) (sl1 := sl + 10240) (by omega) (by omega) ?_
        exact ih (ce + 35) (sl + 10240) (x3 + 6) σ p hf (by omega) (by omega) (by rw [show ce + 35 + 35 * n = ce + 35 * (n + 1) from by omega, show sl + 10240 + 10240 * n = sl + 10240 * (n + 1) from by omega]; exact hk)
  obtain ⟨s2, h1, hf⟩ := ob hf
  refine V_new (n := 10) (T := TX7) (ty := tyX7) 3 h1 cf_6 df_6 wd_cl_TwiceNoiseLaw_7 wd_ia_X7 wd_in_X7 (by omega) (by omega) dL_law_0 rfl ?_
  refine V_dup 4 dL_law_3 rfl rfl ?_
  obtain ⟨s4, h3, hf⟩ := ob hf
  refine V_callI (rest := [.ref σ.2.2]) ((0 + 1) + 59) ((0 + 10) + 10573) 7 (c_X7_init l G (d + 357) _ _ _ h3) (by omega) ok_X7_init oki_X7_init wd_ml_TwiceNoiseLaw_9 rfl rfl (Nat.le_of_ble_eq_true rfl) rfl rfl (Or.inr ⟨by omega, by omega⟩) dL_law_4 rfl ?_
  refine V_astore_n [(1, .ref σ.2.2), (0, .ref (1000 + 11))] 8 dL_law_7 rfl (Nat.le_of_ble_eq_true rfl) rfl rfl ?_
  obtain ⟨s6, h5, hf⟩ := ob hf
  refine V_new (n := 27) (T := TX8) (ty := tyX8) 11 h5 cf_7 df_7 wd_cl_TwiceNoiseLaw_10 wd_ia_X8 wd_in_X8 (by omega) (by omega) dL_law_8 rfl ?_
  refine V_dup 12 dL_law_11 rfl rfl ?_
  obtain ⟨s8, h7, hf⟩ := ob hf
  refine V_callI (rest := [.ref s4.2.2]) ((((0 + 1) + 59) + 1) + 16) ((((0 + 10) + 10573) + 27) + 2820) 15 (c_X8_init l G (d + 359) _ _ _ h7) (by omega) ok_X8_init oki_X8_init wd_ml_TwiceNoiseLaw_12 rfl rfl (Nat.le_of_ble_eq_true rfl) rfl rfl (Or.inr ⟨by omega, by omega⟩) dL_law_12 rfl ?_
  refine V_astore_n [(2, .ref s4.2.2), (1, .ref σ.2.2), (0, .ref (1000 + 11))] 16 dL_law_15 rfl (Nat.le_of_ble_eq_true rfl) rfl rfl ?_
  refine V_iconst 0 17 dL_law_16 rfl kiconst_0 ?_
  refine V_istore_n [(3, .int 0), (2, .ref s4.2.2), (1, .ref σ.2.2), (0, .ref (1000 + 11))] 18 dL_law_17 rfl (Nat.le_of_ble_eq_true rfl) rfl rfl ?_
  obtain ⟨p690, h691, hf⟩ := ob hf
  refine V_ls [(3, .int 0), (2, .ref s4.2.2), (1, .ref σ.2.2), (0, .ref (1000 + 11))] [0, 1, 2, 3] rfl ?_
  refine L18 s4.2.2 σ.2.2 70 ((((0 + 1) + 59) + 1) + 16) ((((0 + 10) + 10573) + 27) + 2820) 0 s8 p690 h691 (by omega) (by omega) ?_
  refine V_iconst 1 1867 dL_law_1866 rfl kiconst_1 ?_
  exact V_lawret hQ dL_law_1867
