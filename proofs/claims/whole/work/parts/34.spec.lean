/-! what a TEXT is: a reader of bytes B (s of them), of names of a use u: where it stands, whether it has failed, how many signs; the code; the value by what the names are -/
abbrev PSt : Type := Nat × Bool × Nat
abbrev PR : Type := PSt × List Int32 × ((Nat → Int32) → Int32)
def nx (B : Nat → Int32) (s : Nat) (st : PSt) : Int32 := if st.2.1 = true then -1 else if st.1 < s then B st.1 else -1
def lvl (c : Int32) : Int32 := if c = 37 then 3 else if c = 38 then 0 else if c = 42 then 3 else if c = 43 then 2 else if c = 45 then 2 else if c = 47 then 3 else if c = 60 then 1 else if c = 61 then 1 else if c = 62 then 1 else if c = 124 then 0 else -1
def opc (c : Int32) : Int32 := if c = 38 then 20000 else if c = 124 then 20001 else if c = 60 then 20002 else if c = 61 then 20003 else if c = 62 then 20004 else if c = 43 then 20005 else if c = 45 then 20006 else if c = 42 then 20007 else if c = 47 then 20008 else 20009
def jnv (c x y : Int32) : Int32 := if c = 38 then (if x = 0 then 0 else if y = 0 then 0 else 1) else if c = 42 then x * y else if c = 43 then x + y else if c = 45 then x - y else if c = 47 then (if y = 0 then 0 else x / y) else if c = 60 then (if y ≤ x then 0 else 1) else if c = 61 then (if x = y then 1 else 0) else if c = 62 then (if x ≤ y then 0 else 1) else if c = 124 then (if x = 0 then (if y = 0 then 0 else 1) else 1) else (if y = 0 then 0 else irm x y)
def em (fl : Bool) (c : Int32) : List Int32 := if fl = true then [] else [c]
def lp (B : Nat → Int32) (s : Nat) (p : PSt → PR) (l : Int32) : Nat → PR → PR
  | 0, r => r
  | k + 1, r => if lvl (nx B s r.1) = l then lp B s p l k ((p (r.1.1 + 1, r.1.2.1, r.1.2.2 + 1)).1, r.2.1 ++ (p (r.1.1 + 1, r.1.2.1, r.1.2.2 + 1)).2.1 ++ em (p (r.1.1 + 1, r.1.2.1, r.1.2.2 + 1)).1.2.1 (opc (nx B s r.1)), fun e => jnv (nx B s r.1) (r.2.2 e) ((p (r.1.1 + 1, r.1.2.1, r.1.2.2 + 1)).2.2 e)) else r
def lev (B : Nat → Int32) (s : Nat) (l : Int32) (p : PSt → PR) (st : PSt) : PR := lp B s p l (if l = 1 then 1 else 56) (p st)
def j0 (B : Nat → Int32) (s : Nat) (p : PSt → PR) : PSt → PR := lev B s 0 (lev B s 1 (lev B s 2 (lev B s 3 p)))
/-- a byte that must stand there -/
def wnt (B : Nat → Int32) (s : Nat) (c : Int32) (st : PSt) : PSt := if nx B s st = c then (st.1 + 1, st.2.1, st.2.2) else (st.1, true, st.2.2)
def ch3 (B : Nat → Int32) (s : Nat) (p : PSt → PR) (r r2 : PR) (st3 : PSt) : PR := if st3.2.1 = true then (st3, r.2.1 ++ r2.2.1, fun e => if r.2.2 e = 0 then 0 else r2.2.2 e) else ((j0 B s p st3).1, r.2.1 ++ r2.2.1 ++ (j0 B s p st3).2.1 ++ em (j0 B s p st3).1.2.1 20011, fun e => if r.2.2 e = 0 then (j0 B s p st3).2.2 e else r2.2.2 e)
def ch2 (B : Nat → Int32) (s : Nat) (p : PSt → PR) (r : PR) : PR := if nx B s r.1 = 63 then ch3 B s p r (j0 B s p (r.1.1 + 1, r.1.2.1, r.1.2.2 + 1)) (wnt B s 58 (j0 B s p (r.1.1 + 1, r.1.2.1, r.1.2.2 + 1)).1) else r
def ch (B : Nat → Int32) (s : Nat) (p : PSt → PR) (st : PSt) : PR := ch2 B s p (j0 B s p st)
def isD (c : Int32) : Prop := 48 ≤ c ∧ c ≤ 57
/-- a number of at most k digits more -/
def num (B : Nat → Int32) (s : Nat) : Nat → PSt → Int32 → PSt × Int32
  | 0, st, v => (st, v)
  | k + 1, st, v => if 48 ≤ nx B s st ∧ nx B s st ≤ 57 then num B s k (st.1 + 1, st.2.1, st.2.2) (v * 10 + nx B s st - 48) else (st, v)
def nmi (u : Nat) (c : Int32) : Option Nat := match u with
  | 0 => if c = 120 then some 0 else if c = 109 then some 1 else if c = 100 then some 2 else none
  | 1 => if c = 109 then some 0 else if c = 100 then some 1 else none
  | _ => if c = 104 then some 0 else if c = 112 then some 1 else if c = 100 then some 2 else none
def unF (st : PSt) : PR := ((st.1, true, st.2.2), [], fun _ => 0)
def unN (B : Nat → Int32) (s : Nat) (st : PSt) : PR := ((num B s 4 st 0).1, [(num B s 4 st 0).2], fun _ => (num B s 4 st 0).2)
def unM (st : PSt) (i : Nat) : PR := ((st.1 + 1, st.2.1, st.2.2), [10000 + nI i], fun e => e i)
def unA (B : Nat → Int32) (s u : Nat) (st : PSt) (z : PR) : PR := if 48 ≤ nx B s st ∧ nx B s st ≤ 57 then unN B s st else match nmi u (nx B s st) with
  | some i => unM st i
  | none => z
def un (B : Nat → Int32) (s u : Nat) : Nat → PSt → PR
  | 0, st => unA B s u st (unF st)
  | d + 1, st => unA B s u st (if nx B s st = 45 then ((un B s u d (st.1 + 1, st.2.1, st.2.2 + 1)).1, (un B s u d (st.1 + 1, st.2.1, st.2.2 + 1)).2.1 ++ em (un B s u d (st.1 + 1, st.2.1, st.2.2 + 1)).1.2.1 20010, fun e => -((un B s u d (st.1 + 1, st.2.1, st.2.2 + 1)).2.2 e)) else if nx B s st = 40 then (wnt B s 41 (ch B s (un B s u d) (st.1 + 1, st.2.1, st.2.2)).1, (ch B s (un B s u d) (st.1 + 1, st.2.1, st.2.2)).2) else unF st)
/-- a whole TEXT -/
def psr (B : Nat → Int32) (s u : Nat) : PR := ch B s (un B s u 5) (0, false, 0)
/-- it is read to its end -/
def pOk (B : Nat → Int32) (s u : Nat) : Prop := (psr B s u).1.2.1 = false ∧ s ≤ (psr B s u).1.1
/-- what a use has: no TEXT, or one of s bytes, and its code, q long -/
def TxRel (u : Nat) (B : Nat → Int32) (s : Nat) (co : Nat → Int32) (q : Nat) : Prop := (s = 0 ∧ q = 0) ∨ (0 < s ∧ 0 < q ∧ pOk B s u ∧ q = (psr B s u).2.1.length ∧ ∀ k, k < q → (psr B s u).2.1[k]? = some (co k))
/-! what class and reference have alike: a State of the class at cell t, the reference's row at cell a -/
section RL
variable (m : Nat → Nat → Int32) (t a : Nat)
def RMach : Prop := m (t + 1) 0 = nI 3 ∧ m (t + 1) 1 = nI 4 ∧ m (t + 1) 3 = nI 4 ∧ (∀ k, k < 12 → m (t + 2) k = m a (10 + k)) ∧ ∀ k, k < 4 → (1 ≤ m a (10 + 3 * k) ∧ m a (10 + 3 * k) ≤ 99) ∧ (0 ≤ m a (10 + 3 * k + 1) ∧ m a (10 + 3 * k + 1) ≤ 50) ∧ (0 ≤ m a (10 + 3 * k + 2) ∧ m a (10 + 3 * k + 2) ≤ 9999)
def RDrw : Prop := m t 10 = m a 7
def RPap (n : Nat) : Prop := m (t + 3) 0 = nI 5 ∧ m (t + 3) 1 = nI 12 ∧ m (t + 3) 3 = nI n ∧ m a 0 = nI n ∧ n ≤ 12 ∧ (∀ k, k < 60 → m (t + 4) k = m a (22 + k)) ∧ ∀ p, p < n → (∃ x, x ≤ 999 ∧ m a (22 + 5 * p) = nI x) ∧ (∃ x, x ≤ 255 ∧ m a (22 + 5 * p + 1) = nI x) ∧ (∃ x, x ≤ 11 ∧ m a (22 + 5 * p + 3) = nI x) ∧ (∃ x, x < 2 ^ p ∧ m a (22 + 5 * p + 4) = nI x)
def RCur (nP n : Nat) : Prop := m (t + 5) 0 = nI 5 ∧ m (t + 5) 1 = nI 24 ∧ m (t + 5) 3 = nI n ∧ m a 1 = nI n ∧ n ≤ 24 ∧ (∀ c f, c < 24 → f < 5 → m (t + 6) (c * 5 + f) = m a (82 + 29 * c + f)) ∧ (∀ c j, c < 24 → j < 24 → m (t + 7) (c * 24 + j) = m a (87 + 29 * c + j) ∧ -99999 ≤ m a (87 + 29 * c + j) ∧ m a (87 + 29 * c + j) ≤ 99999) ∧ ∀ c, c < n → (∃ x, x < 8 ∧ m a (82 + 29 * c) = nI x) ∧ (∃ x, x < nP ∧ m a (82 + 29 * c + 1) = nI x) ∧ (∃ x, x < 4 ∧ m a (82 + 29 * c + 2) = nI x) ∧ (∃ x, 3 ≤ x ∧ x ≤ 24 ∧ m a (82 + 29 * c + 3) = nI x)
def RLnk (n : Nat) : Prop := m (t + 8) 0 = nI 3 ∧ m (t + 8) 1 = nI 20 ∧ m (t + 8) 3 = nI n ∧ m a 2 = nI n ∧ n ≤ 20 ∧ (∀ k, k < 60 → m (t + 9) k = m a (778 + k)) ∧ ∀ k, k < n → (∃ x, x < 8 ∧ m a (778 + 3 * k) = nI x) ∧ (∃ x, x < 8 ∧ m a (778 + 3 * k + 1) = nI x) ∧ (∃ x, 1 ≤ x ∧ x ≤ 60 ∧ m a (778 + 3 * k + 2) = nI x)
def RTri (nP n : Nat) : Prop := m (t + 10) 0 = nI 4 ∧ m (t + 10) 1 = nI 30 ∧ m (t + 10) 3 = nI n ∧ m a 3 = nI n ∧ n ≤ 30 ∧ (∀ k f, k < n → f < 3 → m (t + 11) (k * 4 + f) = m a (838 + 4 * k + f)) ∧ ∀ k, k < n → ((m a (838 + 4 * k + 3) = 0 ∧ m (t + 11) (k * 4 + 3) = 1) ∨ (m a (838 + 4 * k + 3) = 1 ∧ m (t + 11) (k * 4 + 3) = 0)) ∧ (∃ x, x < 8 ∧ m a (838 + 4 * k) = nI x) ∧ (∃ x, x < nP ∧ m a (838 + 4 * k + 1) = nI x) ∧ (∃ x, x ≤ 999 ∧ m a (838 + 4 * k + 2) = nI x)
def RRul (nC n : Nat) : Prop := m (t + 12) 0 = nI 2 ∧ m (t + 12) 1 = nI 8 ∧ m (t + 12) 3 = nI n ∧ m a 4 = nI n ∧ n ≤ 8 ∧ (∀ k, k < 16 → m (t + 13) k = m a (958 + k)) ∧ ∀ k, k < n → (∃ x, 1 ≤ x ∧ x ≤ 99 ∧ m a (958 + 2 * k) = nI x) ∧ (∃ x, x < 2 ^ nC ∧ m a (958 + 2 * k + 1) = nI x)
def RTap (n : Nat) : Prop := m (t + 16) 1 = nI n ∧ m a 5 = nI n ∧ n ≤ 56 ∧ ∀ k, k < 56 → m (t + 17) k &&& 255 = m a (974 + k) ∧ fits .byte (.int (m (t + 17) k)) = true
def RWai (n : Nat) : Prop := m (t + 14) 0 = nI 1 ∧ m (t + 14) 1 = nI 24 ∧ m (t + 14) 3 = nI n ∧ m a 6 = nI n ∧ n ≤ 24 ∧ ∀ k, k < 24 → m (t + 15) k = m a (1030 + k)
def RTx1 (u : Nat) : Prop := ∃ s q, s ≤ 56 ∧ q ≤ 56 ∧ m (t + 19 + 2 * u) 1 = nI s ∧ m a (1054 + 60 * u) = nI q ∧ (∀ k, k < 56 → fits .byte (.int (m (t + 20 + 2 * u) k)) = true) ∧ TxRel u (fun k => m (t + 20 + 2 * u) k &&& 255) s (fun k => m a (1055 + 60 * u + k)) q
/-- counts: papers, curves, links, trials, rules, bytes, numbers that wait -/
def RS (c : Nat → Nat) : Prop := RMach m t a ∧ RDrw m t a ∧ RPap m t a (c 0) ∧ RCur m t a (c 0) (c 1) ∧ RLnk m t a (c 2) ∧ RTri m t a (c 0) (c 3) ∧ RRul m t a (c 1) (c 4) ∧ RTap m t a (c 5) ∧ RWai m t a (c 6) ∧ RTx1 m t a 0 ∧ RTx1 m t a 1 ∧ RTx1 m t a 2
end RL
section RG
variable (m : Nat → Nat → Int32)
def RSht : Prop := ∀ i, i < 4 → m (34 + 2 * i) 1 = m 55 i ∧ m (34 + 2 * i) 2 = m 56 i ∧ (∃ s, s ≤ 24 ∧ m 56 i = nI s) ∧ (m 55 i = 0 ∨ m 55 i = 8 ∨ m 55 i = 16 ∨ m 55 i = 32) ∧ ∀ j, j < 24 → m (35 + 2 * i) j = m 57 (24 * i + j)
def RTrc : Prop := ∃ n, n ≤ 30 ∧ m 27 1 = nI n ∧ m 42 20 = nI n ∧ ∀ j, j < 30 → m 28 j = m 54 j
def RErr : Prop := ∀ k, k < 7 → m 30 k = m 45 k
def RImg (kp : Bool) (z : Nat) : Prop := ∃ n, n ≤ z ∧ m 0 9 = nI n ∧ m 42 2 = nI n ∧ (kp = false ↔ n = 0)
/-- all that both have alike, z bounding how often an IMAGE was made -/
def RR (kp : Bool) (z : Nat) : Prop := (∃ c, RS m 1 43 c) ∧ (kp = true → ∃ c, RS m 59 44 c) ∧ RSht m ∧ RTrc m ∧ RErr m ∧ RImg m kp z
end RG
set_option maxRecDepth 100000 in
theorem RR_start : RR M0 false 0 := by
  have hT : ∀ u, u < 3 → RTx1 M0 1 43 u := fun u hu => ⟨0, 0, by decide, by decide, by
    match u, hu with
    | 0, _ => decide +kernel
    | 1, _ => decide +kernel
    | 2, _ => decide +kernel, by
    match u, hu with
    | 0, _ => decide +kernel
    | 1, _ => decide +kernel
    | 2, _ => decide +kernel, by
    match u, hu with
    | 0, _ => decide +kernel
    | 1, _ => decide +kernel
    | 2, _ => decide +kernel, Or.inl ⟨rfl, rfl⟩⟩
  refine ⟨⟨fun _ => 0, ⟨by decide +kernel, by decide +kernel, by decide +kernel, by decide +kernel, by decide +kernel⟩, by unfold RDrw; decide +kernel, ⟨by decide +kernel, by decide +kernel, by decide +kernel, by decide +kernel, by decide, by decide +kernel, fun p hp => absurd hp (Nat.not_lt_zero _)⟩, ⟨by decide +kernel, by decide +kernel, by decide +kernel, by decide +kernel, by decide, ?_, ?_, fun p hp => absurd hp (Nat.not_lt_zero _)⟩, ⟨by decide +kernel, by decide +kernel, by decide +kernel, by decide +kernel, by decide, by decide +kernel, fun p hp => absurd hp (Nat.not_lt_zero _)⟩, ⟨by decide +kernel, by decide +kernel, by decide +kernel, by decide +kernel, by decide, fun k f hp => absurd hp (Nat.not_lt_zero _), fun p hp => absurd hp (Nat.not_lt_zero _)⟩, ⟨by decide +kernel, by decide +kernel, by decide +kernel, by decide +kernel, by decide, by decide +kernel, fun p hp => absurd hp (Nat.not_lt_zero _)⟩, ⟨by decide +kernel, by decide +kernel, by decide, by decide +kernel⟩, ⟨by decide +kernel, by decide +kernel, by decide +kernel, by decide +kernel, by decide, by decide +kernel⟩, hT 0 (by decide), hT 1 (by decide), hT 2 (by decide)⟩, fun h => absurd h (by decide), ?_, ⟨0, by decide, by decide +kernel, by decide +kernel, by decide +kernel⟩, by unfold RErr; decide +kernel, ⟨0, by decide, by decide +kernel, by decide +kernel, by decide⟩⟩
  · have h : ∀ c, c < 24 → ∀ f, f < 5 → M0 (1 + 6) (c * 5 + f) = M0 43 (82 + 29 * c + f) := by decide +kernel
    exact fun c f h1 h2 => h c h1 f h2
  · have h : ∀ c, c < 24 → ∀ j, j < 24 → M0 (1 + 7) (c * 24 + j) = M0 43 (87 + 29 * c + j) ∧ -99999 ≤ M0 43 (87 + 29 * c + j) ∧ M0 43 (87 + 29 * c + j) ≤ 99999 := by decide +kernel
    exact fun c j h1 h2 => h c h1 j h2
  · intro i hi
    match i, hi with
    | 0, _ => exact ⟨by decide +kernel, by decide +kernel, ⟨0, by decide, by decide +kernel⟩, Or.inl (by decide +kernel), by decide +kernel⟩
    | 1, _ => exact ⟨by decide +kernel, by decide +kernel, ⟨0, by decide, by decide +kernel⟩, Or.inl (by decide +kernel), by decide +kernel⟩
    | 2, _ => exact ⟨by decide +kernel, by decide +kernel, ⟨0, by decide, by decide +kernel⟩, Or.inl (by decide +kernel), by decide +kernel⟩
    | 3, _ => exact ⟨by decide +kernel, by decide +kernel, ⟨0, by decide, by decide +kernel⟩, Or.inl (by decide +kernel), by decide +kernel⟩
