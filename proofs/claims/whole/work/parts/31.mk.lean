/-! the states that occur: numbers m; refs by whether there is an IMAGE and by what the reader reads -/
def st1 (m : Nat → Nat → Int32) (k f : Nat) (v : Int32) : Nat → Nat → Int32 := upI m k (up1 (m k) f v)
theorem st1_eq {m : Nat → Nat → Int32} {k f : Nat} {v : Int32} : st1 m k f v k f = v := by simp [st1, upI, up1]
theorem st1_ne {m : Nat → Nat → Int32} {k f k' : Nat} {v : Int32} (h : k' ≠ k) : st1 m k f v k' = m k' := upI_ne h
theorem st1_nf {m : Nat → Nat → Int32} {k f f' : Nat} {v : Int32} (h : f' ≠ f) : st1 m k f v k f' = m k f' := by simp [st1, upI, up1, h]
theorem st1_at {m : Nat → Nat → Int32} {k f f' : Nat} {v : Int32} : st1 m k f v k f' = if f' = f then v else m k f' := by simp [st1, upI, up1]
def svi : St := ((f_X7_image sv8 0).getD (0, σ00)).2
def RF1 : Nat → Nat → Option Nat := svi.2.1
def rfF (kp : Bool) (b : Option Nat) (k f : Nat) : Option Nat := if k = 26 ∧ f = 0 then b else if kp = true then RF1 k f else RF0 k f
def nnF (kp : Bool) : Nat := if kp = true then 84 else 59
def mkS (m : Nat → Nat → Int32) (kp : Bool) (b : Option Nat) : St := (m, rfF kp b, nnF kp)
section MK
variable {m : Nat → Nat → Int32} {kp : Bool} {b : Option Nat}
theorem mk_1 : (mkS m kp b).1 = m := rfl
theorem mk_rf {k f : Nat} : (mkS m kp b).2.1 k f = rfF kp b k f := rfl
theorem isO_mk {ci k : Nat} (h1 : k < 59) (h2 : lay k = .inl ci) : isO (mkS m kp b) ci k = true := by
  have h3 : k < (mkS m kp b).2.2 := by cases kp <;> (show k < _; simp [mkS, nnF]; omega)
  simp only [isO, h2, Bool.and_eq_true, decide_eq_true_eq, and_true]
  exact ⟨h3, by omega⟩
theorem arL_mk {t k n : Nat} (h1 : k < 59) (h2 : lay k = .inr (t, n)) : arL (mkS m kp b) t k = some n := by
  have h3 : k < (mkS m kp b).2.2 := by cases kp <;> (show k < _; simp [mkS, nnF]; omega)
  unfold arL
  rw [if_pos ⟨h3, by omega⟩, h2]
  simp
theorem isO_mk1 {ci k : Nat} (h1 : k < 84) (h2 : lay k = .inl ci) : isO (mkS m true b) ci k = true := by
  have h3 : k < (mkS m true b).2.2 := by show k < _; simp [mkS, nnF]; omega
  simp only [isO, h2, Bool.and_eq_true, decide_eq_true_eq, and_true]
  exact ⟨h3, by omega⟩
theorem arL_mk1 {t k n : Nat} (h1 : k < 84) (h2 : lay k = .inr (t, n)) : arL (mkS m true b) t k = some n := by
  have h3 : k < (mkS m true b).2.2 := by show k < _; simp [mkS, nnF]; omega
  unfold arL
  rw [if_pos ⟨h3, by omega⟩, h2]
  simp
theorem gI_of {σ : St} {ci k f : Nat} (h : isO σ ci k = true) : gI σ ci k f = some (σ.1 k f) := by simp [gI, h]
theorem gQ_of {σ : St} {ci k f : Nat} (h : isO σ ci k = true) : gQ σ ci k f = σ.2.1 k f := by simp [gQ, h]
theorem gR_of {σ : St} {ci k f : Nat} (h : isO σ ci k = true) : gR σ ci k f = some (σ.2.1 k f) := by simp [gR, h]
theorem pI_of {ci k f : Nat} {v : Int32} (h : isO (mkS m kp b) ci k = true) : pI (mkS m kp b) ci k f v = some (mkS (st1 m k f v) kp b) := by
  unfold pI
  rw [if_pos h]
  rfl
theorem pZ_of {ci k f : Nat} {v : Int32} (h : isO (mkS m kp b) ci k = true) : pZ (mkS m kp b) ci k f v = if v = 0 ∨ v = 1 then some (mkS (st1 m k f v) kp b) else none := by
  unfold pZ
  simp only [h, true_and]
  rfl
theorem aI_of {σ : St} {t k n : Nat} {i : Int32} (h : arL σ t k = some n) : aI σ t k i = if inB i n = true then some (σ.1 k i.toNatClampNeg) else none := by simp [aI, h]
theorem aL_of {σ : St} {t k n : Nat} (h : arL σ t k = some n) : aL σ t k = some (nI n) := by simp [aL, h]
theorem sI_of {k n : Nat} {i v : Int32} (h : arL (mkS m kp b) 0 k = some n) : sI (mkS m kp b) k i v = if inB i n = true then some (mkS (st1 m k i.toNatClampNeg v) kp b) else none := by
  unfold sI
  rw [h]
  rfl
theorem sB_of {k n : Nat} {i v : Int32} (h : arL (mkS m kp b) 1 k = some n) : sB (mkS m kp b) k i v = if inB i n = true then some (mkS (st1 m k i.toNatClampNeg v.toInt8.toInt32) kp b) else none := by
  unfold sB
  rw [h]
  rfl
theorem aQ_of {σ : St} {t k n : Nat} {i : Int32} (h : arL σ t k = some n) : aQ σ t k i = if inB i n = true then σ.2.1 k i.toNatClampNeg else none := by simp [aQ, h]
theorem io_0 : isO (mkS m kp b) 6 0 = true := isO_mk (by decide) rfl
theorem gI_0 {f : Nat} : gI (mkS m kp b) 6 0 f = some (m 0 f) := gI_of io_0
theorem pI_0 {f : Nat} {v : Int32} : pI (mkS m kp b) 6 0 f v = some (mkS (st1 m 0 f v) kp b) := pI_of io_0
theorem pZ_0 {f : Nat} {v : Int32} : pZ (mkS m kp b) 6 0 f v = if v = 0 ∨ v = 1 then some (mkS (st1 m 0 f v) kp b) else none := pZ_of io_0
theorem io_1 : isO (mkS m kp b) 3 1 = true := isO_mk (by decide) rfl
theorem gI_1 {f : Nat} : gI (mkS m kp b) 3 1 f = some (m 1 f) := gI_of io_1
theorem pI_1 {f : Nat} {v : Int32} : pI (mkS m kp b) 3 1 f v = some (mkS (st1 m 1 f v) kp b) := pI_of io_1
theorem pZ_1 {f : Nat} {v : Int32} : pZ (mkS m kp b) 3 1 f v = if v = 0 ∨ v = 1 then some (mkS (st1 m 1 f v) kp b) else none := pZ_of io_1
theorem io_2 : isO (mkS m kp b) 4 2 = true := isO_mk (by decide) rfl
theorem gI_2 {f : Nat} : gI (mkS m kp b) 4 2 f = some (m 2 f) := gI_of io_2
theorem pI_2 {f : Nat} {v : Int32} : pI (mkS m kp b) 4 2 f v = some (mkS (st1 m 2 f v) kp b) := pI_of io_2
theorem pZ_2 {f : Nat} {v : Int32} : pZ (mkS m kp b) 4 2 f v = if v = 0 ∨ v = 1 then some (mkS (st1 m 2 f v) kp b) else none := pZ_of io_2
theorem al_3 : arL (mkS m kp b) 0 3 = some 12 := arL_mk (by decide) rfl
theorem aL_3 : aL (mkS m kp b) 0 3 = some (nI 12) := aL_of al_3
theorem aI_3 {i : Int32} : aI (mkS m kp b) 0 3 i = if inB i 12 = true then some (m 3 i.toNatClampNeg) else none := aI_of al_3
theorem sI_3 {i v : Int32} : sI (mkS m kp b) 3 i v = if inB i 12 = true then some (mkS (st1 m 3 i.toNatClampNeg v) kp b) else none := sI_of al_3
theorem io_4 : isO (mkS m kp b) 4 4 = true := isO_mk (by decide) rfl
theorem gI_4 {f : Nat} : gI (mkS m kp b) 4 4 f = some (m 4 f) := gI_of io_4
theorem pI_4 {f : Nat} {v : Int32} : pI (mkS m kp b) 4 4 f v = some (mkS (st1 m 4 f v) kp b) := pI_of io_4
theorem pZ_4 {f : Nat} {v : Int32} : pZ (mkS m kp b) 4 4 f v = if v = 0 ∨ v = 1 then some (mkS (st1 m 4 f v) kp b) else none := pZ_of io_4
theorem al_5 : arL (mkS m kp b) 0 5 = some 60 := arL_mk (by decide) rfl
theorem aL_5 : aL (mkS m kp b) 0 5 = some (nI 60) := aL_of al_5
theorem aI_5 {i : Int32} : aI (mkS m kp b) 0 5 i = if inB i 60 = true then some (m 5 i.toNatClampNeg) else none := aI_of al_5
theorem sI_5 {i v : Int32} : sI (mkS m kp b) 5 i v = if inB i 60 = true then some (mkS (st1 m 5 i.toNatClampNeg v) kp b) else none := sI_of al_5
theorem io_6 : isO (mkS m kp b) 4 6 = true := isO_mk (by decide) rfl
theorem gI_6 {f : Nat} : gI (mkS m kp b) 4 6 f = some (m 6 f) := gI_of io_6
theorem pI_6 {f : Nat} {v : Int32} : pI (mkS m kp b) 4 6 f v = some (mkS (st1 m 6 f v) kp b) := pI_of io_6
theorem pZ_6 {f : Nat} {v : Int32} : pZ (mkS m kp b) 4 6 f v = if v = 0 ∨ v = 1 then some (mkS (st1 m 6 f v) kp b) else none := pZ_of io_6
theorem al_7 : arL (mkS m kp b) 0 7 = some 120 := arL_mk (by decide) rfl
theorem aL_7 : aL (mkS m kp b) 0 7 = some (nI 120) := aL_of al_7
theorem aI_7 {i : Int32} : aI (mkS m kp b) 0 7 i = if inB i 120 = true then some (m 7 i.toNatClampNeg) else none := aI_of al_7
theorem sI_7 {i v : Int32} : sI (mkS m kp b) 7 i v = if inB i 120 = true then some (mkS (st1 m 7 i.toNatClampNeg v) kp b) else none := sI_of al_7
theorem al_8 : arL (mkS m kp b) 0 8 = some 576 := arL_mk (by decide) rfl
theorem aL_8 : aL (mkS m kp b) 0 8 = some (nI 576) := aL_of al_8
theorem aI_8 {i : Int32} : aI (mkS m kp b) 0 8 i = if inB i 576 = true then some (m 8 i.toNatClampNeg) else none := aI_of al_8
theorem sI_8 {i v : Int32} : sI (mkS m kp b) 8 i v = if inB i 576 = true then some (mkS (st1 m 8 i.toNatClampNeg v) kp b) else none := sI_of al_8
theorem io_9 : isO (mkS m kp b) 4 9 = true := isO_mk (by decide) rfl
theorem gI_9 {f : Nat} : gI (mkS m kp b) 4 9 f = some (m 9 f) := gI_of io_9
theorem pI_9 {f : Nat} {v : Int32} : pI (mkS m kp b) 4 9 f v = some (mkS (st1 m 9 f v) kp b) := pI_of io_9
theorem pZ_9 {f : Nat} {v : Int32} : pZ (mkS m kp b) 4 9 f v = if v = 0 ∨ v = 1 then some (mkS (st1 m 9 f v) kp b) else none := pZ_of io_9
theorem al_10 : arL (mkS m kp b) 0 10 = some 60 := arL_mk (by decide) rfl
theorem aL_10 : aL (mkS m kp b) 0 10 = some (nI 60) := aL_of al_10
theorem aI_10 {i : Int32} : aI (mkS m kp b) 0 10 i = if inB i 60 = true then some (m 10 i.toNatClampNeg) else none := aI_of al_10
theorem sI_10 {i v : Int32} : sI (mkS m kp b) 10 i v = if inB i 60 = true then some (mkS (st1 m 10 i.toNatClampNeg v) kp b) else none := sI_of al_10
theorem io_11 : isO (mkS m kp b) 4 11 = true := isO_mk (by decide) rfl
theorem gI_11 {f : Nat} : gI (mkS m kp b) 4 11 f = some (m 11 f) := gI_of io_11
theorem pI_11 {f : Nat} {v : Int32} : pI (mkS m kp b) 4 11 f v = some (mkS (st1 m 11 f v) kp b) := pI_of io_11
theorem pZ_11 {f : Nat} {v : Int32} : pZ (mkS m kp b) 4 11 f v = if v = 0 ∨ v = 1 then some (mkS (st1 m 11 f v) kp b) else none := pZ_of io_11
theorem al_12 : arL (mkS m kp b) 0 12 = some 120 := arL_mk (by decide) rfl
theorem aL_12 : aL (mkS m kp b) 0 12 = some (nI 120) := aL_of al_12
theorem aI_12 {i : Int32} : aI (mkS m kp b) 0 12 i = if inB i 120 = true then some (m 12 i.toNatClampNeg) else none := aI_of al_12
theorem sI_12 {i v : Int32} : sI (mkS m kp b) 12 i v = if inB i 120 = true then some (mkS (st1 m 12 i.toNatClampNeg v) kp b) else none := sI_of al_12
theorem io_13 : isO (mkS m kp b) 4 13 = true := isO_mk (by decide) rfl
theorem gI_13 {f : Nat} : gI (mkS m kp b) 4 13 f = some (m 13 f) := gI_of io_13
theorem pI_13 {f : Nat} {v : Int32} : pI (mkS m kp b) 4 13 f v = some (mkS (st1 m 13 f v) kp b) := pI_of io_13
theorem pZ_13 {f : Nat} {v : Int32} : pZ (mkS m kp b) 4 13 f v = if v = 0 ∨ v = 1 then some (mkS (st1 m 13 f v) kp b) else none := pZ_of io_13
theorem al_14 : arL (mkS m kp b) 0 14 = some 16 := arL_mk (by decide) rfl
theorem aL_14 : aL (mkS m kp b) 0 14 = some (nI 16) := aL_of al_14
theorem aI_14 {i : Int32} : aI (mkS m kp b) 0 14 i = if inB i 16 = true then some (m 14 i.toNatClampNeg) else none := aI_of al_14
theorem sI_14 {i v : Int32} : sI (mkS m kp b) 14 i v = if inB i 16 = true then some (mkS (st1 m 14 i.toNatClampNeg v) kp b) else none := sI_of al_14
theorem io_15 : isO (mkS m kp b) 4 15 = true := isO_mk (by decide) rfl
theorem gI_15 {f : Nat} : gI (mkS m kp b) 4 15 f = some (m 15 f) := gI_of io_15
theorem pI_15 {f : Nat} {v : Int32} : pI (mkS m kp b) 4 15 f v = some (mkS (st1 m 15 f v) kp b) := pI_of io_15
theorem pZ_15 {f : Nat} {v : Int32} : pZ (mkS m kp b) 4 15 f v = if v = 0 ∨ v = 1 then some (mkS (st1 m 15 f v) kp b) else none := pZ_of io_15
theorem al_16 : arL (mkS m kp b) 0 16 = some 24 := arL_mk (by decide) rfl
theorem aL_16 : aL (mkS m kp b) 0 16 = some (nI 24) := aL_of al_16
theorem aI_16 {i : Int32} : aI (mkS m kp b) 0 16 i = if inB i 24 = true then some (m 16 i.toNatClampNeg) else none := aI_of al_16
theorem sI_16 {i v : Int32} : sI (mkS m kp b) 16 i v = if inB i 24 = true then some (mkS (st1 m 16 i.toNatClampNeg v) kp b) else none := sI_of al_16
theorem io_17 : isO (mkS m kp b) 0 17 = true := isO_mk (by decide) rfl
theorem gI_17 {f : Nat} : gI (mkS m kp b) 0 17 f = some (m 17 f) := gI_of io_17
theorem pI_17 {f : Nat} {v : Int32} : pI (mkS m kp b) 0 17 f v = some (mkS (st1 m 17 f v) kp b) := pI_of io_17
theorem pZ_17 {f : Nat} {v : Int32} : pZ (mkS m kp b) 0 17 f v = if v = 0 ∨ v = 1 then some (mkS (st1 m 17 f v) kp b) else none := pZ_of io_17
theorem al_18 : arL (mkS m kp b) 1 18 = some 56 := arL_mk (by decide) rfl
theorem aL_18 : aL (mkS m kp b) 1 18 = some (nI 56) := aL_of al_18
theorem aI_18 {i : Int32} : aI (mkS m kp b) 1 18 i = if inB i 56 = true then some (m 18 i.toNatClampNeg) else none := aI_of al_18
theorem sB_18 {i v : Int32} : sB (mkS m kp b) 18 i v = if inB i 56 = true then some (mkS (st1 m 18 i.toNatClampNeg v.toInt8.toInt32) kp b) else none := sB_of al_18
theorem al_19 : arL (mkS m kp b) 2 19 = some 3 := arL_mk (by decide) rfl
theorem aL_19 : aL (mkS m kp b) 2 19 = some (nI 3) := aL_of al_19
theorem io_20 : isO (mkS m kp b) 0 20 = true := isO_mk (by decide) rfl
theorem gI_20 {f : Nat} : gI (mkS m kp b) 0 20 f = some (m 20 f) := gI_of io_20
theorem pI_20 {f : Nat} {v : Int32} : pI (mkS m kp b) 0 20 f v = some (mkS (st1 m 20 f v) kp b) := pI_of io_20
theorem pZ_20 {f : Nat} {v : Int32} : pZ (mkS m kp b) 0 20 f v = if v = 0 ∨ v = 1 then some (mkS (st1 m 20 f v) kp b) else none := pZ_of io_20
theorem al_21 : arL (mkS m kp b) 1 21 = some 56 := arL_mk (by decide) rfl
theorem aL_21 : aL (mkS m kp b) 1 21 = some (nI 56) := aL_of al_21
theorem aI_21 {i : Int32} : aI (mkS m kp b) 1 21 i = if inB i 56 = true then some (m 21 i.toNatClampNeg) else none := aI_of al_21
theorem sB_21 {i v : Int32} : sB (mkS m kp b) 21 i v = if inB i 56 = true then some (mkS (st1 m 21 i.toNatClampNeg v.toInt8.toInt32) kp b) else none := sB_of al_21
theorem io_22 : isO (mkS m kp b) 0 22 = true := isO_mk (by decide) rfl
theorem gI_22 {f : Nat} : gI (mkS m kp b) 0 22 f = some (m 22 f) := gI_of io_22
theorem pI_22 {f : Nat} {v : Int32} : pI (mkS m kp b) 0 22 f v = some (mkS (st1 m 22 f v) kp b) := pI_of io_22
theorem pZ_22 {f : Nat} {v : Int32} : pZ (mkS m kp b) 0 22 f v = if v = 0 ∨ v = 1 then some (mkS (st1 m 22 f v) kp b) else none := pZ_of io_22
theorem al_23 : arL (mkS m kp b) 1 23 = some 56 := arL_mk (by decide) rfl
theorem aL_23 : aL (mkS m kp b) 1 23 = some (nI 56) := aL_of al_23
theorem aI_23 {i : Int32} : aI (mkS m kp b) 1 23 i = if inB i 56 = true then some (m 23 i.toNatClampNeg) else none := aI_of al_23
theorem sB_23 {i v : Int32} : sB (mkS m kp b) 23 i v = if inB i 56 = true then some (mkS (st1 m 23 i.toNatClampNeg v.toInt8.toInt32) kp b) else none := sB_of al_23
theorem io_24 : isO (mkS m kp b) 0 24 = true := isO_mk (by decide) rfl
theorem gI_24 {f : Nat} : gI (mkS m kp b) 0 24 f = some (m 24 f) := gI_of io_24
theorem pI_24 {f : Nat} {v : Int32} : pI (mkS m kp b) 0 24 f v = some (mkS (st1 m 24 f v) kp b) := pI_of io_24
theorem pZ_24 {f : Nat} {v : Int32} : pZ (mkS m kp b) 0 24 f v = if v = 0 ∨ v = 1 then some (mkS (st1 m 24 f v) kp b) else none := pZ_of io_24
theorem al_25 : arL (mkS m kp b) 1 25 = some 56 := arL_mk (by decide) rfl
theorem aL_25 : aL (mkS m kp b) 1 25 = some (nI 56) := aL_of al_25
theorem aI_25 {i : Int32} : aI (mkS m kp b) 1 25 i = if inB i 56 = true then some (m 25 i.toNatClampNeg) else none := aI_of al_25
theorem sB_25 {i v : Int32} : sB (mkS m kp b) 25 i v = if inB i 56 = true then some (mkS (st1 m 25 i.toNatClampNeg v.toInt8.toInt32) kp b) else none := sB_of al_25
theorem io_26 : isO (mkS m kp b) 1 26 = true := isO_mk (by decide) rfl
theorem gI_26 {f : Nat} : gI (mkS m kp b) 1 26 f = some (m 26 f) := gI_of io_26
theorem pI_26 {f : Nat} {v : Int32} : pI (mkS m kp b) 1 26 f v = some (mkS (st1 m 26 f v) kp b) := pI_of io_26
theorem pZ_26 {f : Nat} {v : Int32} : pZ (mkS m kp b) 1 26 f v = if v = 0 ∨ v = 1 then some (mkS (st1 m 26 f v) kp b) else none := pZ_of io_26
theorem io_27 : isO (mkS m kp b) 5 27 = true := isO_mk (by decide) rfl
theorem gI_27 {f : Nat} : gI (mkS m kp b) 5 27 f = some (m 27 f) := gI_of io_27
theorem pI_27 {f : Nat} {v : Int32} : pI (mkS m kp b) 5 27 f v = some (mkS (st1 m 27 f v) kp b) := pI_of io_27
theorem pZ_27 {f : Nat} {v : Int32} : pZ (mkS m kp b) 5 27 f v = if v = 0 ∨ v = 1 then some (mkS (st1 m 27 f v) kp b) else none := pZ_of io_27
theorem al_28 : arL (mkS m kp b) 0 28 = some 30 := arL_mk (by decide) rfl
theorem aL_28 : aL (mkS m kp b) 0 28 = some (nI 30) := aL_of al_28
theorem aI_28 {i : Int32} : aI (mkS m kp b) 0 28 i = if inB i 30 = true then some (m 28 i.toNatClampNeg) else none := aI_of al_28
theorem sI_28 {i v : Int32} : sI (mkS m kp b) 28 i v = if inB i 30 = true then some (mkS (st1 m 28 i.toNatClampNeg v) kp b) else none := sI_of al_28
theorem al_29 : arL (mkS m kp b) 3 29 = some 4 := arL_mk (by decide) rfl
theorem aL_29 : aL (mkS m kp b) 3 29 = some (nI 4) := aL_of al_29
theorem al_30 : arL (mkS m kp b) 0 30 = some 7 := arL_mk (by decide) rfl
theorem aL_30 : aL (mkS m kp b) 0 30 = some (nI 7) := aL_of al_30
theorem aI_30 {i : Int32} : aI (mkS m kp b) 0 30 i = if inB i 7 = true then some (m 30 i.toNatClampNeg) else none := aI_of al_30
theorem sI_30 {i v : Int32} : sI (mkS m kp b) 30 i v = if inB i 7 = true then some (mkS (st1 m 30 i.toNatClampNeg v) kp b) else none := sI_of al_30
theorem al_31 : arL (mkS m kp b) 0 31 = some 24 := arL_mk (by decide) rfl
theorem aL_31 : aL (mkS m kp b) 0 31 = some (nI 24) := aL_of al_31
theorem aI_31 {i : Int32} : aI (mkS m kp b) 0 31 i = if inB i 24 = true then some (m 31 i.toNatClampNeg) else none := aI_of al_31
theorem sI_31 {i v : Int32} : sI (mkS m kp b) 31 i v = if inB i 24 = true then some (mkS (st1 m 31 i.toNatClampNeg v) kp b) else none := sI_of al_31
theorem al_32 : arL (mkS m kp b) 0 32 = some 8 := arL_mk (by decide) rfl
theorem aL_32 : aL (mkS m kp b) 0 32 = some (nI 8) := aL_of al_32
theorem aI_32 {i : Int32} : aI (mkS m kp b) 0 32 i = if inB i 8 = true then some (m 32 i.toNatClampNeg) else none := aI_of al_32
theorem sI_32 {i v : Int32} : sI (mkS m kp b) 32 i v = if inB i 8 = true then some (mkS (st1 m 32 i.toNatClampNeg v) kp b) else none := sI_of al_32
theorem al_33 : arL (mkS m kp b) 0 33 = some 30 := arL_mk (by decide) rfl
theorem aL_33 : aL (mkS m kp b) 0 33 = some (nI 30) := aL_of al_33
theorem aI_33 {i : Int32} : aI (mkS m kp b) 0 33 i = if inB i 30 = true then some (m 33 i.toNatClampNeg) else none := aI_of al_33
theorem sI_33 {i v : Int32} : sI (mkS m kp b) 33 i v = if inB i 30 = true then some (mkS (st1 m 33 i.toNatClampNeg v) kp b) else none := sI_of al_33
theorem io_34 : isO (mkS m kp b) 2 34 = true := isO_mk (by decide) rfl
theorem gI_34 {f : Nat} : gI (mkS m kp b) 2 34 f = some (m 34 f) := gI_of io_34
theorem pI_34 {f : Nat} {v : Int32} : pI (mkS m kp b) 2 34 f v = some (mkS (st1 m 34 f v) kp b) := pI_of io_34
theorem pZ_34 {f : Nat} {v : Int32} : pZ (mkS m kp b) 2 34 f v = if v = 0 ∨ v = 1 then some (mkS (st1 m 34 f v) kp b) else none := pZ_of io_34
theorem al_35 : arL (mkS m kp b) 0 35 = some 24 := arL_mk (by decide) rfl
theorem aL_35 : aL (mkS m kp b) 0 35 = some (nI 24) := aL_of al_35
theorem aI_35 {i : Int32} : aI (mkS m kp b) 0 35 i = if inB i 24 = true then some (m 35 i.toNatClampNeg) else none := aI_of al_35
theorem sI_35 {i v : Int32} : sI (mkS m kp b) 35 i v = if inB i 24 = true then some (mkS (st1 m 35 i.toNatClampNeg v) kp b) else none := sI_of al_35
theorem io_36 : isO (mkS m kp b) 2 36 = true := isO_mk (by decide) rfl
theorem gI_36 {f : Nat} : gI (mkS m kp b) 2 36 f = some (m 36 f) := gI_of io_36
theorem pI_36 {f : Nat} {v : Int32} : pI (mkS m kp b) 2 36 f v = some (mkS (st1 m 36 f v) kp b) := pI_of io_36
theorem pZ_36 {f : Nat} {v : Int32} : pZ (mkS m kp b) 2 36 f v = if v = 0 ∨ v = 1 then some (mkS (st1 m 36 f v) kp b) else none := pZ_of io_36
theorem al_37 : arL (mkS m kp b) 0 37 = some 24 := arL_mk (by decide) rfl
theorem aL_37 : aL (mkS m kp b) 0 37 = some (nI 24) := aL_of al_37
theorem aI_37 {i : Int32} : aI (mkS m kp b) 0 37 i = if inB i 24 = true then some (m 37 i.toNatClampNeg) else none := aI_of al_37
theorem sI_37 {i v : Int32} : sI (mkS m kp b) 37 i v = if inB i 24 = true then some (mkS (st1 m 37 i.toNatClampNeg v) kp b) else none := sI_of al_37
theorem io_38 : isO (mkS m kp b) 2 38 = true := isO_mk (by decide) rfl
theorem gI_38 {f : Nat} : gI (mkS m kp b) 2 38 f = some (m 38 f) := gI_of io_38
theorem pI_38 {f : Nat} {v : Int32} : pI (mkS m kp b) 2 38 f v = some (mkS (st1 m 38 f v) kp b) := pI_of io_38
theorem pZ_38 {f : Nat} {v : Int32} : pZ (mkS m kp b) 2 38 f v = if v = 0 ∨ v = 1 then some (mkS (st1 m 38 f v) kp b) else none := pZ_of io_38
theorem al_39 : arL (mkS m kp b) 0 39 = some 24 := arL_mk (by decide) rfl
theorem aL_39 : aL (mkS m kp b) 0 39 = some (nI 24) := aL_of al_39
theorem aI_39 {i : Int32} : aI (mkS m kp b) 0 39 i = if inB i 24 = true then some (m 39 i.toNatClampNeg) else none := aI_of al_39
theorem sI_39 {i v : Int32} : sI (mkS m kp b) 39 i v = if inB i 24 = true then some (mkS (st1 m 39 i.toNatClampNeg v) kp b) else none := sI_of al_39
theorem io_40 : isO (mkS m kp b) 2 40 = true := isO_mk (by decide) rfl
theorem gI_40 {f : Nat} : gI (mkS m kp b) 2 40 f = some (m 40 f) := gI_of io_40
theorem pI_40 {f : Nat} {v : Int32} : pI (mkS m kp b) 2 40 f v = some (mkS (st1 m 40 f v) kp b) := pI_of io_40
theorem pZ_40 {f : Nat} {v : Int32} : pZ (mkS m kp b) 2 40 f v = if v = 0 ∨ v = 1 then some (mkS (st1 m 40 f v) kp b) else none := pZ_of io_40
theorem al_41 : arL (mkS m kp b) 0 41 = some 24 := arL_mk (by decide) rfl
theorem aL_41 : aL (mkS m kp b) 0 41 = some (nI 24) := aL_of al_41
theorem aI_41 {i : Int32} : aI (mkS m kp b) 0 41 i = if inB i 24 = true then some (m 41 i.toNatClampNeg) else none := aI_of al_41
theorem sI_41 {i v : Int32} : sI (mkS m kp b) 41 i v = if inB i 24 = true then some (mkS (st1 m 41 i.toNatClampNeg v) kp b) else none := sI_of al_41
theorem io_42 : isO (mkS m kp b) 7 42 = true := isO_mk (by decide) rfl
theorem gI_42 {f : Nat} : gI (mkS m kp b) 7 42 f = some (m 42 f) := gI_of io_42
theorem pI_42 {f : Nat} {v : Int32} : pI (mkS m kp b) 7 42 f v = some (mkS (st1 m 42 f v) kp b) := pI_of io_42
theorem pZ_42 {f : Nat} {v : Int32} : pZ (mkS m kp b) 7 42 f v = if v = 0 ∨ v = 1 then some (mkS (st1 m 42 f v) kp b) else none := pZ_of io_42
theorem al_43 : arL (mkS m kp b) 0 43 = some 1234 := arL_mk (by decide) rfl
theorem aL_43 : aL (mkS m kp b) 0 43 = some (nI 1234) := aL_of al_43
theorem aI_43 {i : Int32} : aI (mkS m kp b) 0 43 i = if inB i 1234 = true then some (m 43 i.toNatClampNeg) else none := aI_of al_43
theorem sI_43 {i v : Int32} : sI (mkS m kp b) 43 i v = if inB i 1234 = true then some (mkS (st1 m 43 i.toNatClampNeg v) kp b) else none := sI_of al_43
theorem al_44 : arL (mkS m kp b) 0 44 = some 1234 := arL_mk (by decide) rfl
theorem aL_44 : aL (mkS m kp b) 0 44 = some (nI 1234) := aL_of al_44
theorem aI_44 {i : Int32} : aI (mkS m kp b) 0 44 i = if inB i 1234 = true then some (m 44 i.toNatClampNeg) else none := aI_of al_44
theorem sI_44 {i v : Int32} : sI (mkS m kp b) 44 i v = if inB i 1234 = true then some (mkS (st1 m 44 i.toNatClampNeg v) kp b) else none := sI_of al_44
theorem al_45 : arL (mkS m kp b) 0 45 = some 7 := arL_mk (by decide) rfl
theorem aL_45 : aL (mkS m kp b) 0 45 = some (nI 7) := aL_of al_45
theorem aI_45 {i : Int32} : aI (mkS m kp b) 0 45 i = if inB i 7 = true then some (m 45 i.toNatClampNeg) else none := aI_of al_45
theorem sI_45 {i v : Int32} : sI (mkS m kp b) 45 i v = if inB i 7 = true then some (mkS (st1 m 45 i.toNatClampNeg v) kp b) else none := sI_of al_45
theorem al_46 : arL (mkS m kp b) 4 46 = some 3 := arL_mk (by decide) rfl
theorem aL_46 : aL (mkS m kp b) 4 46 = some (nI 3) := aL_of al_46
theorem al_47 : arL (mkS m kp b) 0 47 = some 57 := arL_mk (by decide) rfl
theorem aL_47 : aL (mkS m kp b) 0 47 = some (nI 57) := aL_of al_47
theorem aI_47 {i : Int32} : aI (mkS m kp b) 0 47 i = if inB i 57 = true then some (m 47 i.toNatClampNeg) else none := aI_of al_47
theorem sI_47 {i v : Int32} : sI (mkS m kp b) 47 i v = if inB i 57 = true then some (mkS (st1 m 47 i.toNatClampNeg v) kp b) else none := sI_of al_47
theorem al_48 : arL (mkS m kp b) 0 48 = some 3 := arL_mk (by decide) rfl
theorem aL_48 : aL (mkS m kp b) 0 48 = some (nI 3) := aL_of al_48
theorem aI_48 {i : Int32} : aI (mkS m kp b) 0 48 i = if inB i 3 = true then some (m 48 i.toNatClampNeg) else none := aI_of al_48
theorem sI_48 {i v : Int32} : sI (mkS m kp b) 48 i v = if inB i 3 = true then some (mkS (st1 m 48 i.toNatClampNeg v) kp b) else none := sI_of al_48
theorem al_49 : arL (mkS m kp b) 0 49 = some 57 := arL_mk (by decide) rfl
theorem aL_49 : aL (mkS m kp b) 0 49 = some (nI 57) := aL_of al_49
theorem aI_49 {i : Int32} : aI (mkS m kp b) 0 49 i = if inB i 57 = true then some (m 49 i.toNatClampNeg) else none := aI_of al_49
theorem sI_49 {i v : Int32} : sI (mkS m kp b) 49 i v = if inB i 57 = true then some (mkS (st1 m 49 i.toNatClampNeg v) kp b) else none := sI_of al_49
theorem al_50 : arL (mkS m kp b) 0 50 = some 5 := arL_mk (by decide) rfl
theorem aL_50 : aL (mkS m kp b) 0 50 = some (nI 5) := aL_of al_50
theorem aI_50 {i : Int32} : aI (mkS m kp b) 0 50 i = if inB i 5 = true then some (m 50 i.toNatClampNeg) else none := aI_of al_50
theorem sI_50 {i v : Int32} : sI (mkS m kp b) 50 i v = if inB i 5 = true then some (mkS (st1 m 50 i.toNatClampNeg v) kp b) else none := sI_of al_50
theorem al_51 : arL (mkS m kp b) 0 51 = some 24 := arL_mk (by decide) rfl
theorem aL_51 : aL (mkS m kp b) 0 51 = some (nI 24) := aL_of al_51
theorem aI_51 {i : Int32} : aI (mkS m kp b) 0 51 i = if inB i 24 = true then some (m 51 i.toNatClampNeg) else none := aI_of al_51
theorem sI_51 {i v : Int32} : sI (mkS m kp b) 51 i v = if inB i 24 = true then some (mkS (st1 m 51 i.toNatClampNeg v) kp b) else none := sI_of al_51
theorem al_52 : arL (mkS m kp b) 0 52 = some 8 := arL_mk (by decide) rfl
theorem aL_52 : aL (mkS m kp b) 0 52 = some (nI 8) := aL_of al_52
theorem aI_52 {i : Int32} : aI (mkS m kp b) 0 52 i = if inB i 8 = true then some (m 52 i.toNatClampNeg) else none := aI_of al_52
theorem sI_52 {i v : Int32} : sI (mkS m kp b) 52 i v = if inB i 8 = true then some (mkS (st1 m 52 i.toNatClampNeg v) kp b) else none := sI_of al_52
theorem al_53 : arL (mkS m kp b) 0 53 = some 30 := arL_mk (by decide) rfl
theorem aL_53 : aL (mkS m kp b) 0 53 = some (nI 30) := aL_of al_53
theorem aI_53 {i : Int32} : aI (mkS m kp b) 0 53 i = if inB i 30 = true then some (m 53 i.toNatClampNeg) else none := aI_of al_53
theorem sI_53 {i v : Int32} : sI (mkS m kp b) 53 i v = if inB i 30 = true then some (mkS (st1 m 53 i.toNatClampNeg v) kp b) else none := sI_of al_53
theorem al_54 : arL (mkS m kp b) 0 54 = some 30 := arL_mk (by decide) rfl
theorem aL_54 : aL (mkS m kp b) 0 54 = some (nI 30) := aL_of al_54
theorem aI_54 {i : Int32} : aI (mkS m kp b) 0 54 i = if inB i 30 = true then some (m 54 i.toNatClampNeg) else none := aI_of al_54
theorem sI_54 {i v : Int32} : sI (mkS m kp b) 54 i v = if inB i 30 = true then some (mkS (st1 m 54 i.toNatClampNeg v) kp b) else none := sI_of al_54
theorem al_55 : arL (mkS m kp b) 0 55 = some 4 := arL_mk (by decide) rfl
theorem aL_55 : aL (mkS m kp b) 0 55 = some (nI 4) := aL_of al_55
theorem aI_55 {i : Int32} : aI (mkS m kp b) 0 55 i = if inB i 4 = true then some (m 55 i.toNatClampNeg) else none := aI_of al_55
theorem sI_55 {i v : Int32} : sI (mkS m kp b) 55 i v = if inB i 4 = true then some (mkS (st1 m 55 i.toNatClampNeg v) kp b) else none := sI_of al_55
theorem al_56 : arL (mkS m kp b) 0 56 = some 4 := arL_mk (by decide) rfl
theorem aL_56 : aL (mkS m kp b) 0 56 = some (nI 4) := aL_of al_56
theorem aI_56 {i : Int32} : aI (mkS m kp b) 0 56 i = if inB i 4 = true then some (m 56 i.toNatClampNeg) else none := aI_of al_56
theorem sI_56 {i v : Int32} : sI (mkS m kp b) 56 i v = if inB i 4 = true then some (mkS (st1 m 56 i.toNatClampNeg v) kp b) else none := sI_of al_56
theorem al_57 : arL (mkS m kp b) 0 57 = some 96 := arL_mk (by decide) rfl
theorem aL_57 : aL (mkS m kp b) 0 57 = some (nI 96) := aL_of al_57
theorem aI_57 {i : Int32} : aI (mkS m kp b) 0 57 i = if inB i 96 = true then some (m 57 i.toNatClampNeg) else none := aI_of al_57
theorem sI_57 {i v : Int32} : sI (mkS m kp b) 57 i v = if inB i 96 = true then some (mkS (st1 m 57 i.toNatClampNeg v) kp b) else none := sI_of al_57
theorem al_58 : arL (mkS m kp b) 0 58 = some 24 := arL_mk (by decide) rfl
theorem aL_58 : aL (mkS m kp b) 0 58 = some (nI 24) := aL_of al_58
theorem aI_58 {i : Int32} : aI (mkS m kp b) 0 58 i = if inB i 24 = true then some (m 58 i.toNatClampNeg) else none := aI_of al_58
theorem sI_58 {i v : Int32} : sI (mkS m kp b) 58 i v = if inB i 24 = true then some (mkS (st1 m 58 i.toNatClampNeg v) kp b) else none := sI_of al_58
set_option maxRecDepth 100000 in
theorem rf_tab : ∀ q ∈ ([(0, 0, 1), (0, 1, 26), (0, 2, 27), (0, 3, 29), (0, 4, 30), (0, 5, 31), (0, 6, 32), (0, 7, 33), (1, 0, 2), (1, 1, 4), (1, 2, 6), (1, 3, 8), (1, 4, 9), (1, 5, 11), (1, 6, 13), (1, 7, 15), (1, 8, 17), (1, 9, 19), (2, 2, 3), (4, 2, 5), (6, 2, 7), (9, 2, 10), (11, 2, 12), (13, 2, 14), (15, 2, 16), (17, 0, 18), (20, 0, 21), (22, 0, 23), (24, 0, 25), (27, 0, 28), (34, 0, 35), (36, 0, 37), (38, 0, 39), (40, 0, 41), (42, 0, 43), (42, 1, 44), (42, 3, 45), (42, 4, 46), (42, 11, 47), (42, 12, 48), (42, 13, 49), (42, 15, 50), (42, 16, 51), (42, 17, 52), (42, 18, 53), (42, 19, 54), (42, 23, 55), (42, 24, 56), (42, 25, 57), (42, 26, 58)] : List (Nat × Nat × Nat)), RF0 q.1 q.2.1 = some q.2.2 ∧ RF1 q.1 q.2.1 = some q.2.2 := by decide +kernel
theorem rfF_of {k f q : Nat} (h : RF0 k f = some q ∧ RF1 k f = some q) (hk : ¬ (k = 26 ∧ f = 0)) : rfF kp b k f = some q := by
  unfold rfF
  rw [if_neg hk]
  cases kp
  · simpa using h.1
  · simpa using h.2
theorem gq_0_0 : gQ (mkS m kp b) 6 0 0 = some 1 := (gQ_of io_0).trans (rfF_of (kp := kp) (b := b) (rf_tab (0, 0, 1) (List.mem_of_getElem? (i := 0) rfl)) (by decide))
theorem gq_0_1 : gQ (mkS m kp b) 6 0 1 = some 26 := (gQ_of io_0).trans (rfF_of (kp := kp) (b := b) (rf_tab (0, 1, 26) (List.mem_of_getElem? (i := 1) rfl)) (by decide))
theorem gq_0_2 : gQ (mkS m kp b) 6 0 2 = some 27 := (gQ_of io_0).trans (rfF_of (kp := kp) (b := b) (rf_tab (0, 2, 27) (List.mem_of_getElem? (i := 2) rfl)) (by decide))
theorem gq_0_3 : gQ (mkS m kp b) 6 0 3 = some 29 := (gQ_of io_0).trans (rfF_of (kp := kp) (b := b) (rf_tab (0, 3, 29) (List.mem_of_getElem? (i := 3) rfl)) (by decide))
theorem gq_0_4 : gQ (mkS m kp b) 6 0 4 = some 30 := (gQ_of io_0).trans (rfF_of (kp := kp) (b := b) (rf_tab (0, 4, 30) (List.mem_of_getElem? (i := 4) rfl)) (by decide))
theorem gq_0_5 : gQ (mkS m kp b) 6 0 5 = some 31 := (gQ_of io_0).trans (rfF_of (kp := kp) (b := b) (rf_tab (0, 5, 31) (List.mem_of_getElem? (i := 5) rfl)) (by decide))
theorem gq_0_6 : gQ (mkS m kp b) 6 0 6 = some 32 := (gQ_of io_0).trans (rfF_of (kp := kp) (b := b) (rf_tab (0, 6, 32) (List.mem_of_getElem? (i := 6) rfl)) (by decide))
theorem gq_0_7 : gQ (mkS m kp b) 6 0 7 = some 33 := (gQ_of io_0).trans (rfF_of (kp := kp) (b := b) (rf_tab (0, 7, 33) (List.mem_of_getElem? (i := 7) rfl)) (by decide))
theorem gq_1_0 : gQ (mkS m kp b) 3 1 0 = some 2 := (gQ_of io_1).trans (rfF_of (kp := kp) (b := b) (rf_tab (1, 0, 2) (List.mem_of_getElem? (i := 8) rfl)) (by decide))
theorem gq_1_1 : gQ (mkS m kp b) 3 1 1 = some 4 := (gQ_of io_1).trans (rfF_of (kp := kp) (b := b) (rf_tab (1, 1, 4) (List.mem_of_getElem? (i := 9) rfl)) (by decide))
theorem gq_1_2 : gQ (mkS m kp b) 3 1 2 = some 6 := (gQ_of io_1).trans (rfF_of (kp := kp) (b := b) (rf_tab (1, 2, 6) (List.mem_of_getElem? (i := 10) rfl)) (by decide))
theorem gq_1_3 : gQ (mkS m kp b) 3 1 3 = some 8 := (gQ_of io_1).trans (rfF_of (kp := kp) (b := b) (rf_tab (1, 3, 8) (List.mem_of_getElem? (i := 11) rfl)) (by decide))
theorem gq_1_4 : gQ (mkS m kp b) 3 1 4 = some 9 := (gQ_of io_1).trans (rfF_of (kp := kp) (b := b) (rf_tab (1, 4, 9) (List.mem_of_getElem? (i := 12) rfl)) (by decide))
theorem gq_1_5 : gQ (mkS m kp b) 3 1 5 = some 11 := (gQ_of io_1).trans (rfF_of (kp := kp) (b := b) (rf_tab (1, 5, 11) (List.mem_of_getElem? (i := 13) rfl)) (by decide))
theorem gq_1_6 : gQ (mkS m kp b) 3 1 6 = some 13 := (gQ_of io_1).trans (rfF_of (kp := kp) (b := b) (rf_tab (1, 6, 13) (List.mem_of_getElem? (i := 14) rfl)) (by decide))
theorem gq_1_7 : gQ (mkS m kp b) 3 1 7 = some 15 := (gQ_of io_1).trans (rfF_of (kp := kp) (b := b) (rf_tab (1, 7, 15) (List.mem_of_getElem? (i := 15) rfl)) (by decide))
theorem gq_1_8 : gQ (mkS m kp b) 3 1 8 = some 17 := (gQ_of io_1).trans (rfF_of (kp := kp) (b := b) (rf_tab (1, 8, 17) (List.mem_of_getElem? (i := 16) rfl)) (by decide))
theorem gq_1_9 : gQ (mkS m kp b) 3 1 9 = some 19 := (gQ_of io_1).trans (rfF_of (kp := kp) (b := b) (rf_tab (1, 9, 19) (List.mem_of_getElem? (i := 17) rfl)) (by decide))
theorem gq_2_2 : gQ (mkS m kp b) 4 2 2 = some 3 := (gQ_of io_2).trans (rfF_of (kp := kp) (b := b) (rf_tab (2, 2, 3) (List.mem_of_getElem? (i := 18) rfl)) (by decide))
theorem gq_4_2 : gQ (mkS m kp b) 4 4 2 = some 5 := (gQ_of io_4).trans (rfF_of (kp := kp) (b := b) (rf_tab (4, 2, 5) (List.mem_of_getElem? (i := 19) rfl)) (by decide))
theorem gq_6_2 : gQ (mkS m kp b) 4 6 2 = some 7 := (gQ_of io_6).trans (rfF_of (kp := kp) (b := b) (rf_tab (6, 2, 7) (List.mem_of_getElem? (i := 20) rfl)) (by decide))
theorem gq_9_2 : gQ (mkS m kp b) 4 9 2 = some 10 := (gQ_of io_9).trans (rfF_of (kp := kp) (b := b) (rf_tab (9, 2, 10) (List.mem_of_getElem? (i := 21) rfl)) (by decide))
theorem gq_11_2 : gQ (mkS m kp b) 4 11 2 = some 12 := (gQ_of io_11).trans (rfF_of (kp := kp) (b := b) (rf_tab (11, 2, 12) (List.mem_of_getElem? (i := 22) rfl)) (by decide))
theorem gq_13_2 : gQ (mkS m kp b) 4 13 2 = some 14 := (gQ_of io_13).trans (rfF_of (kp := kp) (b := b) (rf_tab (13, 2, 14) (List.mem_of_getElem? (i := 23) rfl)) (by decide))
theorem gq_15_2 : gQ (mkS m kp b) 4 15 2 = some 16 := (gQ_of io_15).trans (rfF_of (kp := kp) (b := b) (rf_tab (15, 2, 16) (List.mem_of_getElem? (i := 24) rfl)) (by decide))
theorem gq_17_0 : gQ (mkS m kp b) 0 17 0 = some 18 := (gQ_of io_17).trans (rfF_of (kp := kp) (b := b) (rf_tab (17, 0, 18) (List.mem_of_getElem? (i := 25) rfl)) (by decide))
theorem gq_20_0 : gQ (mkS m kp b) 0 20 0 = some 21 := (gQ_of io_20).trans (rfF_of (kp := kp) (b := b) (rf_tab (20, 0, 21) (List.mem_of_getElem? (i := 26) rfl)) (by decide))
theorem gq_22_0 : gQ (mkS m kp b) 0 22 0 = some 23 := (gQ_of io_22).trans (rfF_of (kp := kp) (b := b) (rf_tab (22, 0, 23) (List.mem_of_getElem? (i := 27) rfl)) (by decide))
theorem gq_24_0 : gQ (mkS m kp b) 0 24 0 = some 25 := (gQ_of io_24).trans (rfF_of (kp := kp) (b := b) (rf_tab (24, 0, 25) (List.mem_of_getElem? (i := 28) rfl)) (by decide))
theorem gq_27_0 : gQ (mkS m kp b) 5 27 0 = some 28 := (gQ_of io_27).trans (rfF_of (kp := kp) (b := b) (rf_tab (27, 0, 28) (List.mem_of_getElem? (i := 29) rfl)) (by decide))
theorem gq_34_0 : gQ (mkS m kp b) 2 34 0 = some 35 := (gQ_of io_34).trans (rfF_of (kp := kp) (b := b) (rf_tab (34, 0, 35) (List.mem_of_getElem? (i := 30) rfl)) (by decide))
theorem gq_36_0 : gQ (mkS m kp b) 2 36 0 = some 37 := (gQ_of io_36).trans (rfF_of (kp := kp) (b := b) (rf_tab (36, 0, 37) (List.mem_of_getElem? (i := 31) rfl)) (by decide))
theorem gq_38_0 : gQ (mkS m kp b) 2 38 0 = some 39 := (gQ_of io_38).trans (rfF_of (kp := kp) (b := b) (rf_tab (38, 0, 39) (List.mem_of_getElem? (i := 32) rfl)) (by decide))
theorem gq_40_0 : gQ (mkS m kp b) 2 40 0 = some 41 := (gQ_of io_40).trans (rfF_of (kp := kp) (b := b) (rf_tab (40, 0, 41) (List.mem_of_getElem? (i := 33) rfl)) (by decide))
theorem gq_42_0 : gQ (mkS m kp b) 7 42 0 = some 43 := (gQ_of io_42).trans (rfF_of (kp := kp) (b := b) (rf_tab (42, 0, 43) (List.mem_of_getElem? (i := 34) rfl)) (by decide))
theorem gq_42_1 : gQ (mkS m kp b) 7 42 1 = some 44 := (gQ_of io_42).trans (rfF_of (kp := kp) (b := b) (rf_tab (42, 1, 44) (List.mem_of_getElem? (i := 35) rfl)) (by decide))
theorem gq_42_3 : gQ (mkS m kp b) 7 42 3 = some 45 := (gQ_of io_42).trans (rfF_of (kp := kp) (b := b) (rf_tab (42, 3, 45) (List.mem_of_getElem? (i := 36) rfl)) (by decide))
theorem gq_42_4 : gQ (mkS m kp b) 7 42 4 = some 46 := (gQ_of io_42).trans (rfF_of (kp := kp) (b := b) (rf_tab (42, 4, 46) (List.mem_of_getElem? (i := 37) rfl)) (by decide))
theorem gq_42_11 : gQ (mkS m kp b) 7 42 11 = some 47 := (gQ_of io_42).trans (rfF_of (kp := kp) (b := b) (rf_tab (42, 11, 47) (List.mem_of_getElem? (i := 38) rfl)) (by decide))
theorem gq_42_12 : gQ (mkS m kp b) 7 42 12 = some 48 := (gQ_of io_42).trans (rfF_of (kp := kp) (b := b) (rf_tab (42, 12, 48) (List.mem_of_getElem? (i := 39) rfl)) (by decide))
theorem gq_42_13 : gQ (mkS m kp b) 7 42 13 = some 49 := (gQ_of io_42).trans (rfF_of (kp := kp) (b := b) (rf_tab (42, 13, 49) (List.mem_of_getElem? (i := 40) rfl)) (by decide))
theorem gq_42_15 : gQ (mkS m kp b) 7 42 15 = some 50 := (gQ_of io_42).trans (rfF_of (kp := kp) (b := b) (rf_tab (42, 15, 50) (List.mem_of_getElem? (i := 41) rfl)) (by decide))
theorem gq_42_16 : gQ (mkS m kp b) 7 42 16 = some 51 := (gQ_of io_42).trans (rfF_of (kp := kp) (b := b) (rf_tab (42, 16, 51) (List.mem_of_getElem? (i := 42) rfl)) (by decide))
theorem gq_42_17 : gQ (mkS m kp b) 7 42 17 = some 52 := (gQ_of io_42).trans (rfF_of (kp := kp) (b := b) (rf_tab (42, 17, 52) (List.mem_of_getElem? (i := 43) rfl)) (by decide))
theorem gq_42_18 : gQ (mkS m kp b) 7 42 18 = some 53 := (gQ_of io_42).trans (rfF_of (kp := kp) (b := b) (rf_tab (42, 18, 53) (List.mem_of_getElem? (i := 44) rfl)) (by decide))
theorem gq_42_19 : gQ (mkS m kp b) 7 42 19 = some 54 := (gQ_of io_42).trans (rfF_of (kp := kp) (b := b) (rf_tab (42, 19, 54) (List.mem_of_getElem? (i := 45) rfl)) (by decide))
theorem gq_42_23 : gQ (mkS m kp b) 7 42 23 = some 55 := (gQ_of io_42).trans (rfF_of (kp := kp) (b := b) (rf_tab (42, 23, 55) (List.mem_of_getElem? (i := 46) rfl)) (by decide))
theorem gq_42_24 : gQ (mkS m kp b) 7 42 24 = some 56 := (gQ_of io_42).trans (rfF_of (kp := kp) (b := b) (rf_tab (42, 24, 56) (List.mem_of_getElem? (i := 47) rfl)) (by decide))
theorem gq_42_25 : gQ (mkS m kp b) 7 42 25 = some 57 := (gQ_of io_42).trans (rfF_of (kp := kp) (b := b) (rf_tab (42, 25, 57) (List.mem_of_getElem? (i := 48) rfl)) (by decide))
theorem gq_42_26 : gQ (mkS m kp b) 7 42 26 = some 58 := (gQ_of io_42).trans (rfF_of (kp := kp) (b := b) (rf_tab (42, 26, 58) (List.mem_of_getElem? (i := 49) rfl)) (by decide))
set_option maxRecDepth 100000 in
theorem rf_tab2 : ∀ q ∈ ([(29, 0, 34), (29, 1, 36), (29, 2, 38), (29, 3, 40), (19, 0, 20), (19, 1, 22), (19, 2, 24), (46, 0, 1004), (46, 1, 1005), (46, 2, 1006)] : List (Nat × Nat × Nat)), RF0 q.1 q.2.1 = some q.2.2 ∧ RF1 q.1 q.2.1 = some q.2.2 := by decide +kernel
theorem aQ_lit {t k n i q : Nat} (hn : n < 100) (ha : arL (mkS m kp b) t k = some n) (h : RF0 k i = some q ∧ RF1 k i = some q) (hk : ¬ k = 26) (hi : i < n) : aQ (mkS m kp b) t k (nI i) = some q := by
  rw [aQ_of ha]
  have hc : (nI i).toNatClampNeg = i := nI_clamp (by omega)
  have hb : inB (nI i) n = true := by
    simp only [inB, Bool.and_eq_true, decide_eq_true_eq, hc]
    exact ⟨nI_pos' (by omega), hi⟩
  rw [if_pos hb, hc]
  exact rfF_of h (fun q => hk q.1)
theorem aQ_29_0 : aQ (mkS m kp b) 3 29 (nI 0) = some 34 := aQ_lit (by decide) al_29 (rf_tab2 (29, 0, 34) (List.mem_of_getElem? (i := 0) rfl)) (by decide) (by decide)
theorem aQ_29_1 : aQ (mkS m kp b) 3 29 (nI 1) = some 36 := aQ_lit (by decide) al_29 (rf_tab2 (29, 1, 36) (List.mem_of_getElem? (i := 1) rfl)) (by decide) (by decide)
theorem aQ_29_2 : aQ (mkS m kp b) 3 29 (nI 2) = some 38 := aQ_lit (by decide) al_29 (rf_tab2 (29, 2, 38) (List.mem_of_getElem? (i := 2) rfl)) (by decide) (by decide)
theorem aQ_29_3 : aQ (mkS m kp b) 3 29 (nI 3) = some 40 := aQ_lit (by decide) al_29 (rf_tab2 (29, 3, 40) (List.mem_of_getElem? (i := 3) rfl)) (by decide) (by decide)
theorem aQ_19_0 : aQ (mkS m kp b) 2 19 (nI 0) = some 20 := aQ_lit (by decide) al_19 (rf_tab2 (19, 0, 20) (List.mem_of_getElem? (i := 4) rfl)) (by decide) (by decide)
theorem aQ_19_1 : aQ (mkS m kp b) 2 19 (nI 1) = some 22 := aQ_lit (by decide) al_19 (rf_tab2 (19, 1, 22) (List.mem_of_getElem? (i := 5) rfl)) (by decide) (by decide)
theorem aQ_19_2 : aQ (mkS m kp b) 2 19 (nI 2) = some 24 := aQ_lit (by decide) al_19 (rf_tab2 (19, 2, 24) (List.mem_of_getElem? (i := 6) rfl)) (by decide) (by decide)
theorem aQ_46_0 : aQ (mkS m kp b) 4 46 (nI 0) = some 1004 := aQ_lit (by decide) al_46 (rf_tab2 (46, 0, 1004) (List.mem_of_getElem? (i := 7) rfl)) (by decide) (by decide)
theorem aQ_46_1 : aQ (mkS m kp b) 4 46 (nI 1) = some 1005 := aQ_lit (by decide) al_46 (rf_tab2 (46, 1, 1005) (List.mem_of_getElem? (i := 8) rfl)) (by decide) (by decide)
theorem aQ_46_2 : aQ (mkS m kp b) 4 46 (nI 2) = some 1006 := aQ_lit (by decide) al_46 (rf_tab2 (46, 2, 1006) (List.mem_of_getElem? (i := 9) rfl)) (by decide) (by decide)
theorem gq_26 : gQ (mkS m kp b) 1 26 0 = b := (gQ_of io_26).trans (by show rfF kp b 26 0 = b; unfold rfF; rw [if_pos ⟨rfl, rfl⟩])
theorem gr_26 : gR (mkS m kp b) 1 26 0 = some b := (gR_of io_26).trans (by show some (rfF kp b 26 0) = some b; unfold rfF; rw [if_pos ⟨rfl, rfl⟩])
theorem rf_kept : RF0 0 8 = none ∧ RF1 0 8 = some 59 := by decide +kernel
theorem gr_0_8 : gR (mkS m kp b) 6 0 8 = some (if kp = true then some 59 else none) := by
  rw [gR_of io_0]
  show some (rfF kp b 0 8) = _
  unfold rfF
  rw [if_neg (by decide), rf_kept.1, rf_kept.2]
theorem gq_0_8 : gQ (mkS m true b) 6 0 8 = some 59 := by
  rw [gQ_of io_0, mk_rf]
  unfold rfF
  rw [if_neg (by decide), if_pos rfl, rf_kept.2]
theorem pQ_26 {q : Nat} : pQ (mkS m kp b) 1 26 0 q = some (mkS m kp (some q)) := by
  unfold pQ
  rw [if_pos io_26]
  show some (m, _, nnF kp) = some (m, _, nnF kp)
  congr 3
  funext k f
  show upR (rfF kp b) 26 (up1 (rfF kp b 26) 0 (some q)) k f = rfF kp (some q) k f
  unfold upR up1 rfF
  by_cases hk : k = 26
  · subst hk
    by_cases hf : f = 0
    · simp [hf]
    · simp [hf]
  · simp [hk]
end MK
