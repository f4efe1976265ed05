theorem lvl_3 {c : Int32} (h : lvl c = 3) : c = 37 ∨ c = 42 ∨ c = 47 := by
  unfold lvl at h
  by_cases h37 : c = 37
  · exact Or.inl h37
  rw [if_neg h37] at h
  by_cases h38 : c = 38
  · rw [if_pos h38] at h; exact absurd h (by decide)
  rw [if_neg h38] at h
  by_cases h42 : c = 42
  · exact Or.inr (Or.inl h42)
  rw [if_neg h42] at h
  by_cases h43 : c = 43
  · rw [if_pos h43] at h; exact absurd h (by decide)
  rw [if_neg h43] at h
  by_cases h45 : c = 45
  · rw [if_pos h45] at h; exact absurd h (by decide)
  rw [if_neg h45] at h
  by_cases h47 : c = 47
  · exact Or.inr (Or.inr (h47))
  rw [if_neg h47] at h
  by_cases h60 : c = 60
  · rw [if_pos h60] at h; exact absurd h (by decide)
  rw [if_neg h60] at h
  by_cases h61 : c = 61
  · rw [if_pos h61] at h; exact absurd h (by decide)
  rw [if_neg h61] at h
  by_cases h62 : c = 62
  · rw [if_pos h62] at h; exact absurd h (by decide)
  rw [if_neg h62] at h
  by_cases h124 : c = 124
  · rw [if_pos h124] at h; exact absurd h (by decide)
  rw [if_neg h124] at h
  exact absurd h (by decide)
theorem lvl_2 {c : Int32} (h : lvl c = 2) : c = 43 ∨ c = 45 := by
  unfold lvl at h
  by_cases h37 : c = 37
  · rw [if_pos h37] at h; exact absurd h (by decide)
  rw [if_neg h37] at h
  by_cases h38 : c = 38
  · rw [if_pos h38] at h; exact absurd h (by decide)
  rw [if_neg h38] at h
  by_cases h42 : c = 42
  · rw [if_pos h42] at h; exact absurd h (by decide)
  rw [if_neg h42] at h
  by_cases h43 : c = 43
  · exact Or.inl h43
  rw [if_neg h43] at h
  by_cases h45 : c = 45
  · exact Or.inr (h45)
  rw [if_neg h45] at h
  by_cases h47 : c = 47
  · rw [if_pos h47] at h; exact absurd h (by decide)
  rw [if_neg h47] at h
  by_cases h60 : c = 60
  · rw [if_pos h60] at h; exact absurd h (by decide)
  rw [if_neg h60] at h
  by_cases h61 : c = 61
  · rw [if_pos h61] at h; exact absurd h (by decide)
  rw [if_neg h61] at h
  by_cases h62 : c = 62
  · rw [if_pos h62] at h; exact absurd h (by decide)
  rw [if_neg h62] at h
  by_cases h124 : c = 124
  · rw [if_pos h124] at h; exact absurd h (by decide)
  rw [if_neg h124] at h
  exact absurd h (by decide)
theorem lvl_1 {c : Int32} (h : lvl c = 1) : c = 60 ∨ c = 61 ∨ c = 62 := by
  unfold lvl at h
  by_cases h37 : c = 37
  · rw [if_pos h37] at h; exact absurd h (by decide)
  rw [if_neg h37] at h
  by_cases h38 : c = 38
  · rw [if_pos h38] at h; exact absurd h (by decide)
  rw [if_neg h38] at h
  by_cases h42 : c = 42
  · rw [if_pos h42] at h; exact absurd h (by decide)
  rw [if_neg h42] at h
  by_cases h43 : c = 43
  · rw [if_pos h43] at h; exact absurd h (by decide)
  rw [if_neg h43] at h
  by_cases h45 : c = 45
  · rw [if_pos h45] at h; exact absurd h (by decide)
  rw [if_neg h45] at h
  by_cases h47 : c = 47
  · rw [if_pos h47] at h; exact absurd h (by decide)
  rw [if_neg h47] at h
  by_cases h60 : c = 60
  · exact Or.inl h60
  rw [if_neg h60] at h
  by_cases h61 : c = 61
  · exact Or.inr (Or.inl h61)
  rw [if_neg h61] at h
  by_cases h62 : c = 62
  · exact Or.inr (Or.inr (h62))
  rw [if_neg h62] at h
  by_cases h124 : c = 124
  · rw [if_pos h124] at h; exact absurd h (by decide)
  rw [if_neg h124] at h
  exact absurd h (by decide)
theorem lvl_0 {c : Int32} (h : lvl c = 0) : c = 38 ∨ c = 124 := by
  unfold lvl at h
  by_cases h37 : c = 37
  · rw [if_pos h37] at h; exact absurd h (by decide)
  rw [if_neg h37] at h
  by_cases h38 : c = 38
  · exact Or.inl h38
  rw [if_neg h38] at h
  by_cases h42 : c = 42
  · rw [if_pos h42] at h; exact absurd h (by decide)
  rw [if_neg h42] at h
  by_cases h43 : c = 43
  · rw [if_pos h43] at h; exact absurd h (by decide)
  rw [if_neg h43] at h
  by_cases h45 : c = 45
  · rw [if_pos h45] at h; exact absurd h (by decide)
  rw [if_neg h45] at h
  by_cases h47 : c = 47
  · rw [if_pos h47] at h; exact absurd h (by decide)
  rw [if_neg h47] at h
  by_cases h60 : c = 60
  · rw [if_pos h60] at h; exact absurd h (by decide)
  rw [if_neg h60] at h
  by_cases h61 : c = 61
  · rw [if_pos h61] at h; exact absurd h (by decide)
  rw [if_neg h61] at h
  by_cases h62 : c = 62
  · rw [if_pos h62] at h; exact absurd h (by decide)
  rw [if_neg h62] at h
  by_cases h124 : c = 124
  · exact Or.inr (h124)
  rw [if_neg h124] at h
  exact absurd h (by decide)
/-! texts: the reference's reader -/
def sgc : List Int32 → Nat
  | [] => 0
  | v :: r => (if v < 20000 then 0 else 1) + sgc r
theorem sgc_app : ∀ a c : List Int32, sgc (a ++ c) = sgc a + sgc c
  | [], c => by show sgc c = 0 + sgc c; omega
  | v :: a, c => by
    show (if v < 20000 then 0 else 1) + sgc (a ++ c) = (if v < 20000 then 0 else 1) + sgc a + sgc c
    rw [sgc_app a c]; omega
def cdW (m : Nat → Nat → Int32) (cs : List Int32) : Nat → Nat → Int32 := wrow m 47 0 cs.length (fun k => cs.getD k 0)
def mS (m : Nat → Nat → Int32) (st : PSt) (cs : List Int32) (o : Nat) : Nat → Nat → Int32 := st1 (st1 (st1 (st1 (st1 (cdW m cs) 42 5 (nI st.1)) 42 7 (nI o)) 42 8 (nI (sgc cs))) 42 9 (if st.2.1 = true then 1 else 0)) 42 10 (nI cs.length)
def MdC (m : Nat → Nat → Int32) (s u : Nat) (B : Nat → Int32) : Prop := s ≤ 56 ∧ m 43 5 = nI s ∧ (∀ k, k < 56 → m 43 (974 + k) = B k ∧ ∃ x, x < 256 ∧ B k = nI x) ∧ m 42 6 = nI u ∧ u < 3
section TC
variable {m : Nat → Nat → Int32} {kp : Bool} {b : Option Nat} {s u o : Nat} {B : Nat → Int32} {st : PSt} {cs : List Int32}
theorem mS_5 : mS m st cs o 42 5 = nI st.1 := by unfold mS; rw [st1_nf (by decide), st1_nf (by decide), st1_nf (by decide), st1_nf (by decide), st1_eq]
theorem mS_7 : mS m st cs o 42 7 = nI o := by unfold mS; rw [st1_nf (by decide), st1_nf (by decide), st1_nf (by decide), st1_eq]
theorem mS_8 : mS m st cs o 42 8 = nI (sgc cs) := by unfold mS; rw [st1_nf (by decide), st1_nf (by decide), st1_eq]
theorem mS_9 : mS m st cs o 42 9 = if st.2.1 = true then 1 else 0 := by unfold mS; rw [st1_nf (by decide), st1_eq]
theorem mS_10 : mS m st cs o 42 10 = nI cs.length := by unfold mS; rw [st1_eq]
theorem mS_6 : mS m st cs o 42 6 = m 42 6 := by unfold mS cdW; rw [st1_nf (by decide), st1_nf (by decide), st1_nf (by decide), st1_nf (by decide), st1_nf (by decide), wrow_ne (by decide)]
theorem mS_ne {k : Nat} (h : k ≠ 42) (h2 : k ≠ 47) : mS m st cs o k = m k := by unfold mS cdW; rw [st1_ne h, st1_ne h, st1_ne h, st1_ne h, st1_ne h, wrow_ne h2]
theorem mS_s5 : st1 (mS m st cs o) 42 5 (nI (st.1 + 1)) = mS m (st.1 + 1, st.2.1, st.2.2) cs o := by
  unfold mS
  funext q j
  simp only [st1_app]
  repeat' split
  all_goals first | rfl | (exfalso; omega)
theorem mS_s5i : st1 (mS m st cs o) 42 5 (nI st.1) = mS m st cs o := by
  have := st1_id (m := mS m st cs o) (k := 42) (f := 5)
  rw [mS_5] at this
  exact this
theorem mS_s7 {w : Nat} : st1 (mS m st cs o) 42 7 (nI w) = mS m st cs w := by
  unfold mS
  funext q j
  simp only [st1_app]
  repeat' split
  all_goals first | rfl | (exfalso; omega)
theorem mS_s91 : st1 (mS m st cs o) 42 9 1 = mS m (st.1, true, st.2.2) cs o := by
  unfold mS
  funext q j
  simp only [st1_app]
  repeat' split
  all_goals first | rfl | (exfalso; omega) | contradiction
theorem mS_s90 (h : st.2.1 = false) : st1 (mS m st cs o) 42 9 0 = mS m st cs o := by
  have := st1_id (m := mS m st cs o) (k := 42) (f := 9)
  rw [mS_9, h, if_neg (by decide)] at this
  exact this
theorem cdW_s {v : Int32} : st1 (cdW m cs) 47 cs.length v = cdW m (cs ++ [v]) := by
  unfold cdW
  funext q j
  rw [st1_app, wrow_app, wrow_app, List.length_append]
  by_cases hq : q = 47
  · by_cases hj : j = cs.length
    · rw [if_pos ⟨hq, hj⟩, if_pos ⟨hq, by omega, by simp; omega⟩, Nat.sub_zero, hj, List.getD_eq_getElem?_getD, List.getElem?_append_right (Nat.le_refl _), Nat.sub_self]
      rfl
    · rw [if_neg (fun x => hj x.2)]
      by_cases hl : j < cs.length
      · rw [if_pos ⟨hq, by omega, by omega⟩, if_pos ⟨hq, by omega, by simp; omega⟩, Nat.sub_zero, List.getD_eq_getElem?_getD, List.getD_eq_getElem?_getD, List.getElem?_append_left hl]
      · rw [if_neg (by omega), if_neg (by simp; omega)]
  · rw [if_neg (fun x => hq x.1), if_neg (fun x => hq x.1), if_neg (fun x => hq x.1)]
theorem mS_code {v : Int32} {w : Nat} (hw : w = sgc (cs ++ [v])) : st1 (st1 (st1 (mS m st cs o) 47 cs.length v) 42 10 (nI (cs.length + 1))) 42 8 (nI w) = mS m st (cs ++ [v]) o := by
  unfold mS
  rw [← cdW_s, ← hw, List.length_append]
  funext q j
  simp only [st1_app, List.length_cons, List.length_nil]
  repeat' split
  all_goals first | rfl | (exfalso; omega)
theorem here8 (h : MdC m s u B) (hst : st.1 ≤ s) : f_X8_here (mkS (mS m st cs o) kp b) 42 = some (nx B s st) := by
  have hs := h.1
  unfold f_X8_here nx
  rw [if_pos io_42, gI_42, Option.bind_some, mS_9]
  by_cases hf : st.2.1 = true
  · rw [if_pos hf, if_neg (show ¬ (1 : Int32) = 0 by decide), if_pos hf]
  · rw [if_neg hf, if_pos rfl, if_neg hf, gI_42, Option.bind_some, gq_42_0, Option.bind_some, rdl_5, Option.bind_some, mS_5, mS_ne (by decide) (by decide), h.2.1]
    by_cases hl : st.1 < s
    · have e : (974 : Int32) + nI st.1 = nI (974 + st.1) := nI_add 974 st.1
      rw [if_neg (nI_ge hl (by omega)), if_pos hl, Option.bind_some, Option.bind_some, e, rd_43 (show 974 + st.1 < 1234 by omega), Option.bind_some, mS_ne (by decide) (by decide), (h.2.2.1 st.1 (by omega)).1]
    · rw [if_pos (nI_le (by omega) (by omega)), if_neg hl]
theorem takes8 (h : MdC m s u B) (hst : st.1 ≤ s) {c : Int32} : f_X8_takes (mkS (mS m st cs o) kp b) 42 c = if nx B s st = c then some (1, mkS (mS m (st.1 + 1, st.2.1, st.2.2) cs o) kp b) else some (0, mkS (mS m st cs o) kp b) := by
  unfold f_X8_takes
  rw [if_pos io_42, here8 h hst, Option.bind_some, gI_42, Option.bind_some, mS_5, pI_42, Option.bind_some, z10, Option.bind_some]
  by_cases hc : nx B s st = c
  · rw [if_pos hc, if_pos hc, if_neg (show ¬ (1 : Int32) = 0 by decide), nI_a1, mS_s5]
  · rw [if_neg hc, if_neg hc, if_pos rfl, Int32.add_zero, mS_s5i]
theorem codes8 {v : Int32} (hl : cs.length ≤ 56) : f_X8_codes (mkS (mS m st cs o) kp b) 42 v = some (mkS (mS m st (cs ++ em st.2.1 v) o) kp b) := by
  unfold f_X8_codes em
  rw [if_pos io_42, gI_42, Option.bind_some, mS_9]
  by_cases hf : st.2.1 = true
  · rw [if_pos hf, if_neg (show ¬ (1 : Int32) = 0 by decide), if_pos hf, List.append_nil]
  · have e10 : st1 (mS m st cs o) 47 cs.length v 42 10 = nI cs.length := by rw [st1_ne (by decide), mS_10]
    have e8 : st1 (st1 (mS m st cs o) 47 cs.length v) 42 10 (nI (cs.length + 1)) 42 8 = nI (sgc cs) := by rw [st1_nf (by decide), st1_ne (by decide), mS_8]
    have ew : nI (sgc cs) + (if v < 20000 then 0 else 1 : Int32) = nI (sgc (cs ++ [v])) := by
      rw [sgc_app]
      show _ = nI (sgc cs + ((if v < 20000 then 0 else 1) + 0))
      by_cases hv : v < 20000
      · rw [if_pos hv, if_pos hv, Int32.add_zero]; rfl
      · rw [if_neg hv, if_neg hv, nI_a1]
    rw [if_neg hf, if_pos rfl, if_neg hf, gq_42_11, Option.bind_some, gI_42, Option.bind_some, mS_10, wr_47 (show cs.length < 57 by omega), Option.bind_some, gI_42, Option.bind_some, e10, nI_a1, pI_42, Option.bind_some, gI_42, Option.bind_some, e8, ew, pI_42, Option.bind_some, mS_code rfl]
theorem must8 (h : MdC m s u B) (hst : st.1 ≤ s) {c : Int32} (hc1 : c ≠ -1) : f_X8_must (mkS (mS m st cs o) kp b) 42 c = some (mkS (mS m (wnt B s c st) cs o) kp b) := by
  unfold f_X8_must wnt
  rw [if_pos io_42, takes8 h hst]
  by_cases hc : nx B s st = c
  · obtain ⟨n1, n2⟩ := nx_m1 (B := B) (s := s) (st := st) (by rw [hc]; exact hc1)
    rw [if_pos hc, if_pos hc, Option.bind_some, if_neg (show ¬ (1 : Int32) = 0 by decide)]
    dsimp only
    rw [pZ_42, if_pos (Or.inl rfl), Option.bind_some, mS_s90 (by exact n1)]
  · rw [if_neg hc, if_neg hc, Option.bind_some, if_pos rfl]
    dsimp only
    rw [pZ_42, if_pos (Or.inr rfl), Option.bind_some, mS_s91]
def Cmp8 (m : Nat → Nat → Int32) (kp : Bool) (b : Option Nat) (s o : Nat) (F : St → Option (Int32 × St)) (p : PSt → PR) : Prop := ∀ (st : PSt) (cs : List Int32), cs.length ≤ st.1 → st.1 ≤ s → F (mkS (mS m st cs o) kp b) = some (0, mkS (mS m (p st).1 (cs ++ (p st).2.1) o) kp b)
def tkT (B : Nat → Int32) (s : Nat) (l : Int32) (st : PSt) : PSt := if lvl (nx B s st) = l then (st.1 + 1, st.2.1, st.2.2) else st
def tkO (B : Nat → Int32) (s : Nat) (l : Int32) (st : PSt) : Int32 := if lvl (nx B s st) = l then opc (nx B s st) else 0
def TK3 {ρ : Type} (K : Int32 → St → Option ρ) (σ : St) : Option ρ := (f_X8_takes σ 42 42).bind fun p5 => if p5.1 = 0 then ((f_X8_takes p5.2 42 47).bind fun p8 => if p8.1 = 0 then ((f_X8_takes p8.2 42 37).bind fun p11 => K (if p11.1 = 0 then 0 else 20009 : Int32) p11.2) else K 20008 p8.2) else K 20007 p5.2
def TK2 {ρ : Type} (K : Int32 → St → Option ρ) (σ : St) : Option ρ := (f_X8_takes σ 42 43).bind fun p5 => if p5.1 = 0 then ((f_X8_takes p5.2 42 45).bind fun p8 => K (if p8.1 = 0 then 0 else 20006 : Int32) p8.2) else K 20005 p5.2
def TK1 {ρ : Type} (K : Int32 → St → Option ρ) (σ : St) : Option ρ := (f_X8_takes σ 42 60).bind fun p5 => if p5.1 = 0 then ((f_X8_takes p5.2 42 61).bind fun p8 => if p8.1 = 0 then ((f_X8_takes p8.2 42 62).bind fun p11 => K (if p11.1 = 0 then 0 else 20004 : Int32) p11.2) else K 20003 p8.2) else K 20002 p5.2
def TK0 {ρ : Type} (K : Int32 → St → Option ρ) (σ : St) : Option ρ := (f_X8_takes σ 42 38).bind fun p5 => if p5.1 = 0 then ((f_X8_takes p5.2 42 124).bind fun p8 => K (if p8.1 = 0 then 0 else 20001 : Int32) p8.2) else K 20000 p5.2
theorem tk3 {ρ : Type} {K : Int32 → St → Option ρ} (h : MdC m s u B) (hst : st.1 ≤ s) : TK3 K (mkS (mS m st cs o) kp b) = K (tkO B s 3 st) (mkS (mS m (tkT B s 3 st) cs o) kp b) := by
  unfold TK3 tkO tkT
  rw [takes8 h hst]
  by_cases h1 : nx B s st = 42
  · rw [if_pos h1, Option.bind_some, if_neg (show ¬ (1 : Int32) = 0 by decide), if_pos (show lvl (nx B s st) = 3 by rw [h1]; decide), if_pos (show lvl (nx B s st) = 3 by rw [h1]; decide), h1]
    rfl
  · rw [if_neg h1, Option.bind_some, if_pos rfl, takes8 h hst]
    by_cases h2 : nx B s st = 47
    · rw [if_pos h2, Option.bind_some, if_neg (show ¬ (1 : Int32) = 0 by decide), if_pos (show lvl (nx B s st) = 3 by rw [h2]; decide), if_pos (show lvl (nx B s st) = 3 by rw [h2]; decide), h2]
      rfl
    · rw [if_neg h2, Option.bind_some, if_pos rfl, takes8 h hst]
      by_cases h3 : nx B s st = 37
      · rw [if_pos h3, Option.bind_some, if_neg (show ¬ (1 : Int32) = 0 by decide), if_pos (show lvl (nx B s st) = 3 by rw [h3]; decide), if_pos (show lvl (nx B s st) = 3 by rw [h3]; decide), h3]
        rfl
      · have hn : ¬ lvl (nx B s st) = 3 := fun y => by rcases lvl_3 y with q | q | q <;> contradiction
        rw [if_neg h3, Option.bind_some, if_pos rfl, if_neg hn, if_neg hn]
theorem tk1 {ρ : Type} {K : Int32 → St → Option ρ} (h : MdC m s u B) (hst : st.1 ≤ s) : TK1 K (mkS (mS m st cs o) kp b) = K (tkO B s 1 st) (mkS (mS m (tkT B s 1 st) cs o) kp b) := by
  unfold TK1 tkO tkT
  rw [takes8 h hst]
  by_cases h1 : nx B s st = 60
  · rw [if_pos h1, Option.bind_some, if_neg (show ¬ (1 : Int32) = 0 by decide), if_pos (show lvl (nx B s st) = 1 by rw [h1]; decide), if_pos (show lvl (nx B s st) = 1 by rw [h1]; decide), h1]
    rfl
  · rw [if_neg h1, Option.bind_some, if_pos rfl, takes8 h hst]
    by_cases h2 : nx B s st = 61
    · rw [if_pos h2, Option.bind_some, if_neg (show ¬ (1 : Int32) = 0 by decide), if_pos (show lvl (nx B s st) = 1 by rw [h2]; decide), if_pos (show lvl (nx B s st) = 1 by rw [h2]; decide), h2]
      rfl
    · rw [if_neg h2, Option.bind_some, if_pos rfl, takes8 h hst]
      by_cases h3 : nx B s st = 62
      · rw [if_pos h3, Option.bind_some, if_neg (show ¬ (1 : Int32) = 0 by decide), if_pos (show lvl (nx B s st) = 1 by rw [h3]; decide), if_pos (show lvl (nx B s st) = 1 by rw [h3]; decide), h3]
        rfl
      · have hn : ¬ lvl (nx B s st) = 1 := fun y => by rcases lvl_1 y with q | q | q <;> contradiction
        rw [if_neg h3, Option.bind_some, if_pos rfl, if_neg hn, if_neg hn]
theorem tk2 {ρ : Type} {K : Int32 → St → Option ρ} (h : MdC m s u B) (hst : st.1 ≤ s) : TK2 K (mkS (mS m st cs o) kp b) = K (tkO B s 2 st) (mkS (mS m (tkT B s 2 st) cs o) kp b) := by
  unfold TK2 tkO tkT
  rw [takes8 h hst]
  by_cases h1 : nx B s st = 43
  · rw [if_pos h1, Option.bind_some, if_neg (show ¬ (1 : Int32) = 0 by decide), if_pos (show lvl (nx B s st) = 2 by rw [h1]; decide), if_pos (show lvl (nx B s st) = 2 by rw [h1]; decide), h1]
    rfl
  · rw [if_neg h1, Option.bind_some, if_pos rfl, takes8 h hst]
    by_cases h3 : nx B s st = 45
    · rw [if_pos h3, Option.bind_some, if_neg (show ¬ (1 : Int32) = 0 by decide), if_pos (show lvl (nx B s st) = 2 by rw [h3]; decide), if_pos (show lvl (nx B s st) = 2 by rw [h3]; decide), h3]
      rfl
    · have hn : ¬ lvl (nx B s st) = 2 := fun y => by rcases lvl_2 y with q | q <;> contradiction
      rw [if_neg h3, Option.bind_some, if_pos rfl, if_neg hn, if_neg hn]
theorem tk0 {ρ : Type} {K : Int32 → St → Option ρ} (h : MdC m s u B) (hst : st.1 ≤ s) : TK0 K (mkS (mS m st cs o) kp b) = K (tkO B s 0 st) (mkS (mS m (tkT B s 0 st) cs o) kp b) := by
  unfold TK0 tkO tkT
  rw [takes8 h hst]
  by_cases h1 : nx B s st = 38
  · rw [if_pos h1, Option.bind_some, if_neg (show ¬ (1 : Int32) = 0 by decide), if_pos (show lvl (nx B s st) = 0 by rw [h1]; decide), if_pos (show lvl (nx B s st) = 0 by rw [h1]; decide), h1]
    rfl
  · rw [if_neg h1, Option.bind_some, if_pos rfl, takes8 h hst]
    by_cases h3 : nx B s st = 124
    · rw [if_pos h3, Option.bind_some, if_neg (show ¬ (1 : Int32) = 0 by decide), if_pos (show lvl (nx B s st) = 0 by rw [h3]; decide), if_pos (show lvl (nx B s st) = 0 by rw [h3]; decide), h3]
      rfl
    · have hn : ¬ lvl (nx B s st) = 0 := fun y => by rcases lvl_0 y with q | q <;> contradiction
      rw [if_neg h3, Option.bind_some, if_pos rfl, if_neg hn, if_neg hn]
theorem opc_p (c : Int32) : ¬ opc c ≤ 0 := by
  unfold opc
  repeat' split
  all_goals decide
theorem lpG {F : St → Option (Int32 × St)} {p : PSt → PR} {l : Int32} (hs56 : s ≤ 56) (hl : l ≠ -1) (hp : Gd1 B s p) (hF : Cmp8 m kp b s o F p) (L : Nat → Int32 → St → Option (Int32 × St)) (TK : (Int32 → St → Option (Int32 × St)) → St → Option (Int32 × St)) (hL : ∀ f x σ, L (f + 1) x σ = if x ≤ 0 then some (x, σ) else (F σ).bind fun p15 => (f_X8_codes p15.2 42 x).bind fun s17 => TK (L f) s17) (hT : ∀ K (st : PSt) (cs : List Int32), st.1 ≤ s → TK K (mkS (mS m st cs o) kp b) = K (tkO B s l st) (mkS (mS m (tkT B s l st) cs o) kp b)) : ∀ k f (r : PR) (cs : List Int32), 56 ≤ k + r.1.1 → k < f → (cs ++ r.2.1).length ≤ r.1.1 → r.1.1 ≤ s → ∃ y, L f (tkO B s l r.1) (mkS (mS m (tkT B s l r.1) (cs ++ r.2.1) o) kp b) = some (y, mkS (mS m (lp B s p l k r).1 (cs ++ (lp B s p l k r).2.1) o) kp b) := by
  intro k
  induction k with
  | zero =>
    intro f r cs h1 h2 h3 h4
    obtain ⟨f, rfl⟩ : ∃ q, f = q + 1 := ⟨f - 1, by omega⟩
    have e : ¬ lvl (nx B s r.1) = l := fun y => hl (by rw [← y, nx_e (show s ≤ r.1.1 by omega), lvl_m1])
    have e1 : tkO B s l r.1 = 0 := if_neg e
    have e2 : tkT B s l r.1 = r.1 := if_neg e
    exact ⟨0, by rw [e1, e2, hL, if_pos (by decide)]; rfl⟩
  | succ k ih =>
    intro f r cs h1 h2 h3 h4
    obtain ⟨f, rfl⟩ : ∃ q, f = q + 1 := ⟨f - 1, by omega⟩
    have el : lp B s p l (k + 1) r = if lvl (nx B s r.1) = l then lp B s p l k ((p (r.1.1 + 1, r.1.2.1, r.1.2.2 + 1)).1, r.2.1 ++ (p (r.1.1 + 1, r.1.2.1, r.1.2.2 + 1)).2.1 ++ em (p (r.1.1 + 1, r.1.2.1, r.1.2.2 + 1)).1.2.1 (opc (nx B s r.1)), fun e => jnv (nx B s r.1) (r.2.2 e) ((p (r.1.1 + 1, r.1.2.1, r.1.2.2 + 1)).2.2 e)) else r := rfl
    rw [el]
    by_cases e : lvl (nx B s r.1) = l
    · have e1 : tkO B s l r.1 = opc (nx B s r.1) := if_pos e
      have e2 : tkT B s l r.1 = (r.1.1 + 1, r.1.2.1, r.1.2.2) := if_pos e
      have hn : nx B s r.1 ≠ -1 := fun y => hl (by rw [← e, y, lvl_m1])
      obtain ⟨n1, n2⟩ := nx_m1 hn
      have hle : (r.1.1 + 1, r.1.2.1, r.1.2.2 + 1).1 ≤ s := by show r.1.1 + 1 ≤ s; omega
      obtain ⟨g1, g2, g3⟩ := hp _ hle
      have hF1 := hF (r.1.1 + 1, r.1.2.1, r.1.2.2 + 1) (cs ++ r.2.1) (by show _ ≤ r.1.1 + 1; omega) hle
      have hms : mS m (r.1.1 + 1, r.1.2.1, r.1.2.2) (cs ++ r.2.1) o = mS m (r.1.1 + 1, r.1.2.1, r.1.2.2 + 1) (cs ++ r.2.1) o := rfl
      generalize p (r.1.1 + 1, r.1.2.1, r.1.2.2 + 1) = r2 at *
      dsimp only at g1
      rw [List.length_append] at h3
      have hle2 : (cs ++ r.2.1 ++ r2.2.1).length ≤ 56 := by simp only [List.length_append]; omega
      rw [e1, e2, hL, if_neg (opc_p _), hms, hF1, Option.bind_some]
      dsimp only
      rw [codes8 hle2, Option.bind_some, hT _ _ _ g2, if_pos e]
      have hem := em_len (fl := r2.1.2.1) (c := opc (nx B s r.1))
      have := ih f (r2.1, r.2.1 ++ r2.2.1 ++ em r2.1.2.1 (opc (nx B s r.1)), fun e => jnv (nx B s r.1) (r.2.2 e) (r2.2.2 e)) cs (by dsimp only; omega) (by omega) (by dsimp only; simp only [List.length_append]; omega) g2
      dsimp only at this
      rw [show cs ++ (r.2.1 ++ r2.2.1 ++ em r2.1.2.1 (opc (nx B s r.1))) = cs ++ r.2.1 ++ r2.2.1 ++ em r2.1.2.1 (opc (nx B s r.1)) by simp only [List.append_assoc]] at this
      exact this
    · have e1 : tkO B s l r.1 = 0 := if_neg e
      have e2 : tkT B s l r.1 = r.1 := if_neg e
      exact ⟨0, by rw [e1, e2, hL, if_pos (by decide), if_neg e]⟩
theorem prod8 {n : Nat} {p : PSt → PR} (h : MdC m s u B) (hp : Gd1 B s p) (hF : Cmp8 m kp b s o (rc_X8_compared 42 n 2 []) p) : Cmp8 m kp b s o (rc_X8_compared 42 (n + 1) 3 []) (lev B s 3 p) := by
  intro st cs hc hst
  have hs := h.1
  have hw : rc_X8_compared 42 (n + 1) 3 [] (mkS (mS m st cs o) kp b) = (f_X8_product (rc_X8_compared 42 n) (mkS (mS m st cs o) kp b) 42).map (fun s => (0, s)) := rfl
  have hu : f_X8_product (rc_X8_compared 42 n) (mkS (mS m st cs o) kp b) 42 = if isO (mkS (mS m st cs o) kp b) 7 42 = true then (rc_X8_compared 42 n 2 [] (mkS (mS m st cs o) kp b)).bind fun p3 => TK3 (fun is σ => (f_X8_product_L51 (rc_X8_compared 42 n) 42 3000 is σ).bind fun p => some p.2) p3.2 else none := rfl
  obtain ⟨g1, g2, g3⟩ := hp st hst
  rw [hw, hu, if_pos io_42, hF st cs hc hst, Option.bind_some]
  dsimp only
  rw [tk3 h g2]
  obtain ⟨y, hy⟩ := lpG hs (by decide) hp hF (f_X8_product_L51 (rc_X8_compared 42 n) 42) TK3 (fun f x σ => rfl) (fun K st cs hst => tk3 h hst) 56 3000 (p st) cs (by omega) (by omega) (by simp only [List.length_append]; omega) g2
  rw [hy]
  rfl
theorem sum8 {n : Nat} {p : PSt → PR} (h : MdC m s u B) (hp : Gd1 B s p) (hF : Cmp8 m kp b s o (rc_X8_compared 42 n 3 []) p) : Cmp8 m kp b s o (rc_X8_compared 42 (n + 1) 4 []) (lev B s 2 p) := by
  intro st cs hc hst
  have hs := h.1
  have hw : rc_X8_compared 42 (n + 1) 4 [] (mkS (mS m st cs o) kp b) = (f_X8_sum (rc_X8_compared 42 n) (mkS (mS m st cs o) kp b) 42).map (fun s => (0, s)) := rfl
  have hu : f_X8_sum (rc_X8_compared 42 n) (mkS (mS m st cs o) kp b) 42 = if isO (mkS (mS m st cs o) kp b) 7 42 = true then (rc_X8_compared 42 n 3 [] (mkS (mS m st cs o) kp b)).bind fun p3 => TK2 (fun is σ => (f_X8_sum_L36 (rc_X8_compared 42 n) 42 3000 is σ).bind fun p => some p.2) p3.2 else none := rfl
  obtain ⟨g1, g2, g3⟩ := hp st hst
  rw [hw, hu, if_pos io_42, hF st cs hc hst, Option.bind_some]
  dsimp only
  rw [tk2 h g2]
  obtain ⟨y, hy⟩ := lpG hs (by decide) hp hF (f_X8_sum_L36 (rc_X8_compared 42 n) 42) TK2 (fun f x σ => rfl) (fun K st cs hst => tk2 h hst) 56 3000 (p st) cs (by omega) (by omega) (by simp only [List.length_append]; omega) g2
  rw [hy]
  rfl
theorem cmp8 {n : Nat} {p : PSt → PR} (h : MdC m s u B) (hp : Gd1 B s p) (hF : Cmp8 m kp b s o (rc_X8_compared 42 n 4 []) p) : Cmp8 m kp b s o (rc_X8_compared 42 (n + 1) 0 []) (lev B s 1 p) := by
  intro st cs hc hst
  have hs := h.1
  have hw : rc_X8_compared 42 (n + 1) 0 [] (mkS (mS m st cs o) kp b) = (f_X8_compared (rc_X8_compared 42 n) (mkS (mS m st cs o) kp b) 42).map (fun s => (0, s)) := rfl
  have hu : f_X8_compared (rc_X8_compared 42 n) (mkS (mS m st cs o) kp b) 42 = if isO (mkS (mS m st cs o) kp b) 7 42 = true then (rc_X8_compared 42 n 4 [] (mkS (mS m st cs o) kp b)).bind fun p3 => TK1 (fun is σ => if is ≤ 0 then some σ else (rc_X8_compared 42 n 4 [] σ).bind fun p15 => (f_X8_codes p15.2 42 is).bind fun s17 => some s17) p3.2 else none := by
    unfold f_X8_compared TK1
    simp only [show ¬ (20002 : Int32) ≤ 0 by decide, show ¬ (20003 : Int32) ≤ 0 by decide, if_false]
  obtain ⟨g1, g2, g3⟩ := hp st hst
  rw [hw, hu, if_pos io_42, hF st cs hc hst, Option.bind_some]
  dsimp only
  rw [tk1 h g2]
  have el : lev B s 1 p st = if lvl (nx B s (p st).1) = 1 then ((p ((p st).1.1 + 1, (p st).1.2.1, (p st).1.2.2 + 1)).1, (p st).2.1 ++ (p ((p st).1.1 + 1, (p st).1.2.1, (p st).1.2.2 + 1)).2.1 ++ em (p ((p st).1.1 + 1, (p st).1.2.1, (p st).1.2.2 + 1)).1.2.1 (opc (nx B s (p st).1)), fun e => jnv (nx B s (p st).1) ((p st).2.2 e) ((p ((p st).1.1 + 1, (p st).1.2.1, (p st).1.2.2 + 1)).2.2 e)) else p st := rfl
  rw [el]
  generalize p st = r at *
  unfold tkO tkT
  by_cases e : lvl (nx B s r.1) = 1
  · rw [if_pos e, if_pos e, if_pos e, if_neg (opc_p _)]
    have hn : nx B s r.1 ≠ -1 := fun y => by rw [y, lvl_m1] at e; exact absurd e (by decide)
    obtain ⟨n1, n2⟩ := nx_m1 hn
    have hle : (r.1.1 + 1, r.1.2.1, r.1.2.2 + 1).1 ≤ s := by show r.1.1 + 1 ≤ s; omega
    obtain ⟨a1, a2, a3⟩ := hp _ hle
    have hF1 := hF (r.1.1 + 1, r.1.2.1, r.1.2.2 + 1) (cs ++ r.2.1) (by show _ ≤ r.1.1 + 1; simp only [List.length_append]; omega) hle
    have hms : mS m (r.1.1 + 1, r.1.2.1, r.1.2.2) (cs ++ r.2.1) o = mS m (r.1.1 + 1, r.1.2.1, r.1.2.2 + 1) (cs ++ r.2.1) o := rfl
    generalize p (r.1.1 + 1, r.1.2.1, r.1.2.2 + 1) = r2 at *
    dsimp only at a1
    have hle2 : (cs ++ r.2.1 ++ r2.2.1).length ≤ 56 := by simp only [List.length_append]; omega
    rw [hms, hF1, Option.bind_some]
    dsimp only
    rw [codes8 hle2, Option.bind_some]
    simp only [List.append_assoc]
    rfl
  · rw [if_neg e, if_neg e, if_neg e, if_pos (by decide)]
    rfl
theorem eith8 {n : Nat} {p : PSt → PR} (h : MdC m s u B) (hp : Gd1 B s p) (hF : Cmp8 m kp b s o (rc_X8_compared 42 n 0 []) p) : Cmp8 m kp b s o (rc_X8_compared 42 (n + 1) 1 []) (lev B s 0 p) := by
  intro st cs hc hst
  have hs := h.1
  have hw : rc_X8_compared 42 (n + 1) 1 [] (mkS (mS m st cs o) kp b) = (f_X8_either (rc_X8_compared 42 n) (mkS (mS m st cs o) kp b) 42).map (fun s => (0, s)) := rfl
  have hu : f_X8_either (rc_X8_compared 42 n) (mkS (mS m st cs o) kp b) 42 = if isO (mkS (mS m st cs o) kp b) 7 42 = true then (rc_X8_compared 42 n 0 [] (mkS (mS m st cs o) kp b)).bind fun p3 => TK0 (fun is σ => (f_X8_either_L36 (rc_X8_compared 42 n) 42 3000 is σ).bind fun p => some p.2) p3.2 else none := rfl
  obtain ⟨g1, g2, g3⟩ := hp st hst
  rw [hw, hu, if_pos io_42, hF st cs hc hst, Option.bind_some]
  dsimp only
  rw [tk0 h g2]
  obtain ⟨y, hy⟩ := lpG hs (by decide) hp hF (f_X8_either_L36 (rc_X8_compared 42 n) 42) TK0 (fun f x σ => rfl) (fun K st cs hst => tk0 h hst) 56 3000 (p st) cs (by omega) (by omega) (by simp only [List.length_append]; omega) g2
  rw [hy]
  rfl
theorem j08 {n : Nat} {p : PSt → PR} (h : MdC m s u B) (hp : Gd1 B s p) (hF : Cmp8 m kp b s o (rc_X8_compared 42 n 2 []) p) : Cmp8 m kp b s o (rc_X8_compared 42 (n + 4) 1 []) (j0 B s p) := by
  have g3 := lev_g (B := B) (s := s) (l := 3) (by decide) hp
  have g2 := lev_g (B := B) (s := s) (l := 2) (by decide) g3
  have g1 := lev_g (B := B) (s := s) (l := 1) (by decide) g2
  exact eith8 h g1 (cmp8 h g2 (sum8 h g3 (prod8 h hp hF)))
theorem text8 {n : Nat} {p : PSt → PR} (h : MdC m s u B) (hp : Gd1 B s p) (hF : Cmp8 m kp b s o (rc_X8_compared 42 n 2 []) p) : Cmp8 m kp b s o (rc_X8_compared 42 (n + 5) 5 []) (ch B s p) := by
  have cj := j08 h hp hF
  have gj := j0_g hp
  have hs := h.1
  intro st cs hc hst
  have hw : rc_X8_compared 42 (n + 5) 5 [] (mkS (mS m st cs o) kp b) = (f_X8_text (rc_X8_compared 42 (n + 4)) (mkS (mS m st cs o) kp b) 42).map (fun s => (0, s)) := rfl
  rw [hw]
  unfold f_X8_text ch ch2
  rw [if_pos io_42, cj st cs hc hst, Option.bind_some]
  obtain ⟨g1, g2, g3⟩ := gj st hst
  generalize j0 B s p st = r at *
  dsimp only
  rw [takes8 h g2]
  by_cases e1 : nx B s r.1 = 63
  · rw [if_pos e1, if_pos e1, Option.bind_some, if_neg (show ¬ (1 : Int32) = 0 by decide)]
    obtain ⟨n1, n2⟩ := nx_m1 (B := B) (s := s) (st := r.1) (by rw [e1]; decide)
    have hle : (r.1.1 + 1, r.1.2.1, r.1.2.2 + 1).1 ≤ s := by show r.1.1 + 1 ≤ s; omega
    have hms : mS m (r.1.1 + 1, r.1.2.1, r.1.2.2) (cs ++ r.2.1) o = mS m (r.1.1 + 1, r.1.2.1, r.1.2.2 + 1) (cs ++ r.2.1) o := rfl
    have hF1 := cj (r.1.1 + 1, r.1.2.1, r.1.2.2 + 1) (cs ++ r.2.1) (by show _ ≤ r.1.1 + 1; simp only [List.length_append]; omega) hle
    obtain ⟨a1, a2, a3⟩ := gj _ hle
    generalize j0 B s p (r.1.1 + 1, r.1.2.1, r.1.2.2 + 1) = r2 at *
    dsimp only at a1 ⊢
    rw [hms, hF1, Option.bind_some]
    dsimp only
    rw [must8 h a2 (by decide), Option.bind_some]
    obtain ⟨w1, w2, w3, w4⟩ := wnt_g (B := B) (s := s) (st := r2.1) (c := 58) (by decide) a2
    generalize wnt B s 58 r2.1 = st3 at *
    have hF2 := cj st3 (cs ++ r.2.1 ++ r2.2.1) (by simp only [List.length_append]; omega) w2
    obtain ⟨b1, b2, b3⟩ := gj st3 w2
    unfold ch3
    rw [hF2, Option.bind_some]
    dsimp only
    by_cases f3 : st3.2.1 = true
    · obtain ⟨c1, c2⟩ := b3 f3
      rw [if_pos f3, c1, c2, List.append_nil, codes8 (by simp only [List.length_append]; omega), Option.bind_some]
      have : em st3.2.1 20011 = [] := by unfold em; rw [if_pos f3]
      rw [this, List.append_nil, List.append_assoc]
      rfl
    · generalize j0 B s p st3 = r3 at *
      have hf3 : st3.2.1 = false := Bool.eq_false_iff.mpr f3
      have := w4 hf3
      rw [if_neg f3, codes8 (by simp only [List.length_append]; omega), Option.bind_some]
      simp only [List.append_assoc]
      rfl
  · rw [if_neg e1, if_neg e1, Option.bind_some, if_pos rfl]
    rfl
theorem num_8 (h : MdC m s u B) {rc : Nat → List Int32 → St → Option (Int32 × St)} : ∀ k i f (st : PSt) (cs : List Int32) (v : Int32), i + k = 4 → k < f → st.1 ≤ s → ∃ y, f_X8_one_L119 rc 42 f (nI i) v (mkS (mS m st cs o) kp b) = some (y, (num B s k st v).2, mkS (mS m (num B s k st v).1 cs o) kp b) := by
  intro k
  induction k with
  | zero =>
    intro i f st cs v h1 h2 h3
    obtain ⟨f, rfl⟩ : ∃ q, f = q + 1 := ⟨f - 1, by omega⟩
    have e : i = 4 := by omega
    subst e
    exact ⟨_, by rw [f_X8_one_L119, if_pos (show (4 : Int32) ≤ nI 4 by decide)]; rfl⟩
  | succ k ih =>
    intro i f st cs v h1 h2 h3
    obtain ⟨f, rfl⟩ : ∃ q, f = q + 1 := ⟨f - 1, by omega⟩
    have en : num B s (k + 1) st v = if 48 ≤ nx B s st ∧ nx B s st ≤ 57 then num B s k (st.1 + 1, st.2.1, st.2.2) (v * 10 + nx B s st - 48) else (st, v) := rfl
    rw [f_X8_one_L119, if_neg (n4 (by omega)), here8 h h3, Option.bind_some, within_eq, Option.bind_some, en]
    by_cases hd : 48 ≤ nx B s st ∧ nx B s st ≤ 57
    · rw [if_pos hd, if_pos hd, if_neg (show ¬ (1 : Int32) = 0 by decide), Option.bind_some, gI_42, Option.bind_some, mS_5, nI_a1, nI_a1, pI_42, Option.bind_some, mS_s5, Int32.mul_comm (10 : Int32)]
      obtain ⟨n1, n2⟩ := nx_m1 (B := B) (s := s) (st := st) (fun y => by rw [y] at hd; exact absurd hd.1 (by decide))
      exact ih (i + 1) f (st.1 + 1, st.2.1, st.2.2) cs (v * 10 + nx B s st - 48) (by omega) (by omega) (by show st.1 + 1 ≤ s; omega)
    · rw [if_neg hd, if_neg hd, if_pos rfl]
      exact ⟨_, rfl⟩
end TC
