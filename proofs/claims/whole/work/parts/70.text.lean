section TX
variable {m : Nat → Nat → Int32} {kp : Bool} {b : Option Nat} {z : Nat} {c : Nat → Nat} {B B' : Nat → Int32} {s u : Nat}
/-! only the bytes that there are count -/
theorem nxB (h : ∀ k, k < s → B k = B' k) : nx B s = nx B' s := by
  funext st
  unfold nx
  by_cases h2 : st.1 < s
  · rw [h _ h2]
  · rw [if_neg h2, if_neg h2]
theorem lpB {p : PSt → PR} {l : Int32} (hn : nx B s = nx B' s) : ∀ k r, lp B s p l k r = lp B' s p l k r
  | 0, r => rfl
  | k + 1, r => by
    unfold lp
    rw [hn, lpB hn k]
theorem levB {p : PSt → PR} {l : Int32} (hn : nx B s = nx B' s) : lev B s l p = lev B' s l p := by
  funext st
  unfold lev
  exact lpB hn _ _
theorem j0B {p : PSt → PR} (hn : nx B s = nx B' s) : j0 B s p = j0 B' s p := by
  unfold j0
  rw [levB hn, levB (p := p) hn, levB (l := 2) hn, levB (l := 1) hn]
theorem wntB {x : Int32} (hn : nx B s = nx B' s) : wnt B s x = wnt B' s x := by
  funext st
  unfold wnt
  rw [hn]
theorem chB {p : PSt → PR} (hn : nx B s = nx B' s) : ch B s p = ch B' s p := by
  funext st
  unfold ch ch2 ch3
  rw [j0B hn, hn, wntB hn]
theorem numB (hn : nx B s = nx B' s) : ∀ k st v, num B s k st v = num B' s k st v
  | 0, st, v => rfl
  | k + 1, st, v => by
    unfold num
    rw [hn, numB hn k]
theorem unAB {st : PSt} {z : PR} (hn : nx B s = nx B' s) : unA B s u st z = unA B' s u st z := by
  unfold unA unN
  rw [hn, numB hn]
theorem unB (hn : nx B s = nx B' s) : ∀ d, un B s u d = un B' s u d
  | 0 => by
    funext st
    show unA B s u st (unF st) = unA B' s u st (unF st)
    exact unAB hn
  | d + 1 => by
    funext st
    unfold un
    rw [unAB hn, hn, unB hn d, chB hn, wntB hn]
theorem psrB (h : ∀ k, k < s → B k = B' k) : psr B s u = psr B' s u := by
  have hn := nxB h
  unfold psr
  rw [unB hn, chB hn]
theorem pOkB (h : ∀ k, k < s → B k = B' k) : pOk B s u = pOk B' s u := by
  unfold pOk
  rw [psrB h]
theorem mS_00 : st1 (st1 (st1 (st1 (st1 m 42 5 0) 42 7 0) 42 8 0) 42 9 0) 42 10 0 = mS m (0, false, 0) [] 0 := by
  unfold mS cdW
  simp only [List.length_nil, wrow_0, sgc, nI_0]
  rfl
theorem loopW {L : Nat → Nat → St → Option (Int32 × St)} {X : Nat} {g : Nat → Int32} {m0 : Nat → Nat → Int32} {cell base : Nat} (hs : ∀ f i, i < X → L (f + 1) i (mkS (wrow m0 cell base i g) kp b) = L f (i + 1) (mkS (st1 (wrow m0 cell base i g) cell (base + i) (g i)) kp b)) (he : ∀ f, L (f + 1) X (mkS (wrow m0 cell base X g) kp b) = some (nI X, mkS (wrow m0 cell base X g) kp b)) (hX : X ≤ 2000) : L 3000 0 (mkS m0 kp b) = some (nI X, mkS (wrow m0 cell base X g) kp b) := by
  have := loopS L (fun i => mkS (wrow m0 cell base i g) kp b) (nI X, mkS (wrow m0 cell base X g) kp b) X (fun f i hi => by rw [hs f i hi, wrow_s]) he X 0 3000 (by omega) (by omega)
  rw [wrow_0] at this
  exact this
theorem ix55 {k : Nat} : ((((1054 : Int32) + ((60 : Int32) * nI u)) + 1) + nI k) = nI (1055 + 60 * u + k) := by
  rw [show (1054 : Int32) = nI 1054 from rfl, show (60 : Int32) = nI 60 from rfl, pk_mul, nI_add, nI_a1, nI_add]
  congr 1; omega
theorem ix54 : (1054 : Int32) + ((60 : Int32) * nI u) = nI (1054 + 60 * u) := by
  rw [show (1054 : Int32) = nI 1054 from rfl, show (60 : Int32) = nI 60 from rfl, pk_mul, nI_add]
theorem tx123 {M : Nat → Nat → Int32} {cs : List Int32} (hu : u < 3) (h6 : M 42 6 = nI u) (h10 : M 42 10 = nI cs.length) (hl : cs.length ≤ 56) (h47 : ∀ k, k < cs.length → M 47 k = cs.getD k 0) : f_X8_text__L123 42 3000 0 (mkS M kp b) = some (nI cs.length, mkS (wrow M 43 (1055 + 60 * u) cs.length (fun k => cs.getD k 0)) kp b) := by
  have := loopW (kp := kp) (b := b) (L := fun f i σ => f_X8_text__L123 42 f (nI i) σ) (X := cs.length) (g := fun k => cs.getD k 0) (m0 := M) (cell := 43) (base := 1055 + 60 * u) (fun f i hi => by
    show f_X8_text__L123 42 (f + 1) (nI i) _ = f_X8_text__L123 42 f (nI (i + 1)) _
    rw [f_X8_text__L123, gI_42, Option.bind_some, wrow_ne (show (42 : Nat) ≠ 43 by decide), h10, if_neg (nI_ge hi (by omega)), gq_42_0, Option.bind_some, gI_42, Option.bind_some, wrow_ne (show (42 : Nat) ≠ 43 by decide), h6, gq_42_11, Option.bind_some, rd_47 (show i < 57 by omega), Option.bind_some, wrow_ne (show (47 : Nat) ≠ 43 by decide), h47 i hi, ix55, wr_43 (show 1055 + 60 * u + i < 1234 by omega), Option.bind_some, nI_a1]) (fun f => by
    show f_X8_text__L123 42 (f + 1) (nI cs.length) _ = _
    rw [f_X8_text__L123, gI_42, Option.bind_some, wrow_ne (show (42 : Nat) ≠ 43 by decide), h10, if_pos (Int32.le_refl _)]) (by omega)
  simp only [nI_0] at this
  exact this
theorem mS_47 {st : PSt} {cs : List Int32} {o k : Nat} (hk : k < cs.length) : mS m st cs o 47 k = cs.getD k 0 := by
  unfold mS cdW
  rw [st1_ne (by decide), st1_ne (by decide), st1_ne (by decide), st1_ne (by decide), st1_ne (by decide), wrow_at, if_pos (by omega), Nat.sub_zero]
/-- the reference's text -/
def txF (m : Nat → Nat → Int32) (u : Nat) (r : PR) : Nat → Nat → Int32 := st1 (mS (st1 m 42 6 (nI u)) (r.1.1, true, r.1.2.2) r.2.1 0) 43 5 0
def txG (m : Nat → Nat → Int32) (u : Nat) (r : PR) : Nat → Nat → Int32 := wrow (st1 (st1 (mS (st1 m 42 6 (nI u)) r.1 r.2.1 0) 43 5 0) 43 (1054 + 60 * u) (nI r.2.1.length)) 43 (1055 + 60 * u) r.2.1.length (fun k => r.2.1.getD k 0)
theorem txt8 (hu : u < 3) (hs : s ≤ 56) (h5 : m 43 5 = nI s) (hB : ∀ k, k < 56 → m 43 (974 + k) = B k ∧ ∃ x, x < 256 ∧ B k = nI x) : ((psr B s u).1.2.1 = false ∧ s ≤ (psr B s u).1.1 → f_X8_text_ (mkS m kp b) 42 (nI u) = some (nI (sgc (psr B s u).2.1), mkS (txG m u (psr B s u)) kp b)) ∧ (¬ ((psr B s u).1.2.1 = false ∧ s ≤ (psr B s u).1.1) → f_X8_text_ (mkS m kp b) 42 (nI u) = some ((-10 : Int32) - nI (psr B s u).1.1, mkS (txF m u (psr B s u)) kp b)) := by
  have hw : 0 ≤ nI u ∧ nI u ≤ 2 := ⟨nI_pos' (by omega), nI_le (b := 2) (by omega) (by decide)⟩
  have hM : MdC (st1 m 42 6 (nI u)) s u B := ⟨hs, by rw [st1_ne (by decide)]; exact h5, fun k hk => by rw [st1_ne (by decide)]; exact hB k hk, st1_eq, hu⟩
  have hp := psr_8 (kp := kp) (b := b) hM
  obtain ⟨g1, g2⟩ := psr_g (B := B) (s := s) (u := u)
  unfold f_X8_text_ txF txG
  rw [if_pos io_42, within_eq, if_pos hw, Option.bind_some, if_neg (show ¬ (1 : Int32) = 0 by decide), pI_42, Option.bind_some, pI_42, Option.bind_some, pI_42, Option.bind_some, pI_42, Option.bind_some, pZ_42, if_pos (Or.inl rfl), Option.bind_some, pI_42, Option.bind_some, mS_00, hp, Option.bind_some]
  generalize psr B s u = r at *
  rw [gI_42, Option.bind_some, mS_9]
  have e5 : ∀ (st : PSt), mS (st1 m 42 6 (nI u)) st r.2.1 0 43 5 = nI s := fun st => by rw [mS_ne (by decide) (by decide), st1_ne (by decide)]; exact h5
  by_cases hf : r.1.2.1 = true
  · refine ⟨fun h => by rw [hf] at h; exact absurd h.1 (by decide), fun _ => ?_⟩
    have e9 : st1 (mS (st1 m 42 6 (nI u)) (r.1.1, true, r.1.2.2) r.2.1 0) 43 5 0 42 9 = 1 := by rw [st1_ne (by decide), mS_9, if_pos rfl]
    have ea : st1 (mS (st1 m 42 6 (nI u)) (r.1.1, true, r.1.2.2) r.2.1 0) 43 5 0 42 5 = nI r.1.1 := by rw [st1_ne (by decide), mS_5]
    rw [if_pos hf, if_neg (show ¬ (1 : Int32) = 0 by decide), pZ_42, if_pos (Or.inr rfl), Option.bind_some, mS_s91, gq_42_0, Option.bind_some, wrl_5, Option.bind_some, gI_42, Option.bind_some, e9, if_neg (show ¬ (1 : Int32) = 0 by decide), gI_42, Option.bind_some, ea]
  · have hf' : r.1.2.1 = false := Bool.eq_false_iff.mpr hf
    rw [if_neg hf, if_pos rfl, gI_42, Option.bind_some, mS_5, gq_42_0, Option.bind_some, rdl_5, Option.bind_some, e5]
    by_cases hle : s ≤ r.1.1
    · refine ⟨fun _ => ?_, fun h => absurd ⟨hf', hle⟩ h⟩
      obtain ⟨Q, eQ⟩ : ∃ Q, Q = st1 (mS (st1 m 42 6 (nI u)) r.1 r.2.1 0) 43 5 0 := ⟨_, rfl⟩
      have q42 : Q 42 = mS (st1 m 42 6 (nI u)) r.1 r.2.1 0 42 := by rw [eQ, st1_ne (by decide)]
      have q47 : Q 47 = mS (st1 m 42 6 (nI u)) r.1 r.2.1 0 47 := by rw [eQ, st1_ne (by decide)]
      have q6 : Q 42 6 = nI u := by rw [q42, mS_6, st1_eq]
      have q10 : Q 42 10 = nI r.2.1.length := by rw [q42, mS_10]
      have q9 : Q 42 9 = 0 := by rw [q42, mS_9, if_neg hf]
      have hL := tx123 (kp := kp) (b := b) (M := st1 Q 43 (1054 + 60 * u) (nI r.2.1.length)) (cs := r.2.1) hu (by rw [st1_ne (by decide)]; exact q6) (by rw [st1_ne (by decide)]; exact q10) (by omega) (fun k hk => by rw [st1_ne (by decide), q47, mS_47 hk])
      have q8 : wrow (st1 Q 43 (1054 + 60 * u) (nI r.2.1.length)) 43 (1055 + 60 * u) r.2.1.length (fun k => r.2.1.getD k 0) 42 8 = nI (sgc r.2.1) := by rw [wrow_ne (by decide), st1_ne (by decide), q42, mS_8]
      rw [if_pos (nI_le hle (by omega)), pZ_42, if_pos (Or.inl rfl), Option.bind_some, mS_s90 hf', gq_42_0, Option.bind_some, wrl_5, Option.bind_some, ← eQ, gI_42, Option.bind_some, q9, if_pos rfl, gq_42_0, Option.bind_some, gI_42, Option.bind_some, q6, gI_42, Option.bind_some, q10, ix54, wr_43 (show 1054 + 60 * u < 1234 by omega), Option.bind_some, hL, Option.bind_some]
      dsimp only
      rw [gI_42, Option.bind_some, q8]
    · refine ⟨fun h => absurd h.2 hle, fun _ => ?_⟩
      have e9 : st1 (mS (st1 m 42 6 (nI u)) (r.1.1, true, r.1.2.2) r.2.1 0) 43 5 0 42 9 = 1 := by rw [st1_ne (by decide), mS_9, if_pos rfl]
      have ea : st1 (mS (st1 m 42 6 (nI u)) (r.1.1, true, r.1.2.2) r.2.1 0) 43 5 0 42 5 = nI r.1.1 := by rw [st1_ne (by decide), mS_5]
      rw [if_neg (nI_ge (by omega) (by omega)), pZ_42, if_pos (Or.inr rfl), Option.bind_some, mS_s91, gq_42_0, Option.bind_some, wrl_5, Option.bind_some, gI_42, Option.bind_some, e9, if_neg (show ¬ (1 : Int32) = 0 by decide), gI_42, Option.bind_some, ea]
/-! the class's text -/
def c7F (m : Nat → Nat → Int32) (u : Nat) (st : PSt) : Nat → Nat → Int32 := st1 (rS (rdM m u 0 0 0) st) 17 1 0
def c7G (m : Nat → Nat → Int32) (u s : Nat) (st : PSt) : Nat → Nat → Int32 := st1 (st1 (upI (rS (rdM m u 0 0 0) st) (21 + 2 * u) (va_cpy (m 18) (m (21 + 2 * u)) 0 0 56)) (20 + 2 * u) 1 (nI s)) 17 1 0
theorem io20 {M : Nat → Nat → Int32} (h : u < 3) : isO (mkS M kp b) 0 (20 + 2 * u) = true := by
  match u, h with
  | 0, _ => exact io_20
  | 1, _ => exact io_22
  | 2, _ => exact io_24
theorem gq20 {M : Nat → Nat → Int32} (h : u < 3) : gQ (mkS M kp b) 0 (20 + 2 * u) 0 = some (21 + 2 * u) := by
  match u, h with
  | 0, _ => exact gq_20_0
  | 1, _ => exact gq_22_0
  | 2, _ => exact gq_24_0
theorem al21 {M : Nat → Nat → Int32} (h : u < 3) : arL (mkS M kp b) 1 (21 + 2 * u) = some 56 := by
  match u, h with
  | 0, _ => exact al_21
  | 1, _ => exact al_23
  | 2, _ => exact al_25
theorem rdM_ne {k : Nat} {a1 a2 a3 : Int32} (h : k ≠ 26) : rdM m u a1 a2 a3 k = m k := by unfold rdM; rw [st1_ne h, st1_ne h, st1_ne h, st1_ne h]
theorem cpF7 {st : PSt} (hu : u < 3) (h17 : m 17 1 = nI s) (hfit : ∀ k, k < 56 → fits .byte (.int (m 18 k)) = true) : f_X1_copyFrom (mkS (rS (rdM m u 0 0 0) st) kp b) (20 + 2 * u) 17 = some (mkS (st1 (upI (rS (rdM m u 0 0 0) st) (21 + 2 * u) (va_cpy (m 18) (m (21 + 2 * u)) 0 0 56)) (20 + 2 * u) 1 (nI s)) kp b) := by
  have e18 : rS (rdM m u 0 0 0) st 18 = m 18 := by rw [rS_ne (by decide), rdM_ne (by decide)]
  have e21 : rS (rdM m u 0 0 0) st (21 + 2 * u) = m (21 + 2 * u) := by rw [rS_ne (by omega), rdM_ne (by omega)]
  unfold f_X1_copyFrom
  rw [if_pos (io20 hu), gq_17_0, Option.bind_some, gq20 hu, Option.bind_some]
  have hcp : cp (mkS (rS (rdM m u 0 0 0) st) kp b) 1 18 0 (21 + 2 * u) 0 56 = some (mkS (upI (rS (rdM m u 0 0 0) st) (21 + 2 * u) (va_cpy (m 18) (m (21 + 2 * u)) 0 0 56)) kp b) := by
    unfold cp
    have c0 : (0 : Int32).toNatClampNeg = 0 := by decide
    have c56 : (56 : Int32).toNatClampNeg = 56 := by decide
    rw [al_18, Option.bind_some, al21 hu, Option.bind_some, c0, c56, if_pos ⟨by decide, by decide, by decide, by decide, by decide, Or.inr (fun i hi => by
      show fits .byte (.int (rS (rdM m u 0 0 0) st 18 (0 + i))) = true
      rw [e18, Nat.zero_add]
      exact hfit i hi)⟩]
    show some (upI (rS (rdM m u 0 0 0) st) (21 + 2 * u) (va_cpy (rS (rdM m u 0 0 0) st 18) (rS (rdM m u 0 0 0) st (21 + 2 * u)) 0 0 56), _) = _
    rw [e18, e21]
    rfl
  have e17 : upI (rS (rdM m u 0 0 0) st) (21 + 2 * u) (va_cpy (m 18) (m (21 + 2 * u)) 0 0 56) 17 1 = nI s := by
    rw [upI_ne (by omega), rS_ne (by decide), rdM_ne (by decide)]; exact h17
  rw [hcp, Option.bind_some, gI_17, Option.bind_some, e17, pI_of (io20 hu), Option.bind_some]
theorem txt7 {r : PR} (hu : u < 3) (hs : s ≤ 56) (h17 : m 17 1 = nI s) (hfit : ∀ k, k < 56 → fits .byte (.int (m 18 k)) = true) (er : r = psr (bT m 18) s u) : (r.1.2.1 = false ∧ s ≤ r.1.1 → f_X7_text (mkS m kp b) 0 (nI u) = some (nI r.1.2.2, mkS (c7G m u s r.1) kp (some 17))) ∧ (¬ (r.1.2.1 = false ∧ s ≤ r.1.1) → ∃ st : PSt, f_X7_text (mkS m kp b) 0 (nI u) = some ((-10 : Int32) - nI r.1.1, mkS (c7F m u st) kp (some 17))) := by
  have hw : 0 ≤ nI u ∧ nI u ≤ 2 := ⟨nI_pos' (by omega), nI_le (b := 2) (by omega) (by decide)⟩
  have hr := read7 (kp := kp) (b := b) (q := 17) (a1 := 0) (a2 := 0) (a3 := 0) (Or.inl rfl) hs h17 hu
  rw [show (17 + 1 : Nat) = 18 from rfl, ← er] at hr
  have hnx : r.1.2.1 = false ∧ s ≤ r.1.1 → rdE (bT m 18) s r.1 = r.1 := fun h => by unfold rdE; rw [if_pos (nx_e h.2)]
  have hnf : ¬ (r.1.2.1 = false ∧ s ≤ r.1.1) → rdE (bT m 18) s r.1 = (r.1.1, true, r.1.2.2) := fun h => by
    unfold rdE
    by_cases e : nx (bT m 18) s r.1 = -1
    · rw [if_pos e]
      have hf : r.1.2.1 = true := Classical.byContradiction (fun hc => by
        have hc' : r.1.2.1 = false := Bool.eq_false_iff.mpr hc
        by_cases hl : s ≤ r.1.1
        · exact h ⟨hc', hl⟩
        · obtain ⟨x, hx, ex⟩ := pk_andE (m 18 r.1.1) (m := 255) 8 (by decide)
          have : nx (bT m 18) s r.1 = nI x := by
            unfold nx
            rw [hc', if_neg (by decide), if_pos (by omega)]
            exact ex
          rw [this] at e
          exact nI_nm1 (by omega) e)
      obtain ⟨⟨a, f, g⟩, cs, v⟩ := r
      show (a, f, g) = (a, true, g)
      rw [show f = true from hf]
    · rw [if_neg e]
  clear er
  unfold f_X7_text c7G c7F
  rw [if_pos io_0, isUse7_eq, if_pos hw, Option.bind_some, if_neg (show ¬ (1 : Int32) = 0 by decide), gq_0_1, Option.bind_some, gq_0_0, Option.bind_some, gq_1_8, Option.bind_some, hr, Option.bind_some]
  dsimp only
  constructor
  · intro hok
    rw [hnx hok, gq_0_1, Option.bind_some, gI_26, Option.bind_some, rS_7, hok.1, if_neg (show ¬ false = true by decide), if_pos rfl, gq_0_0, Option.bind_some, gq_1_9, Option.bind_some, aQ19 hu, Option.bind_some, Option.bind_some, gq_1_8, Option.bind_some, cpF7 hu h17 hfit, Option.bind_some, gq_0_0, Option.bind_some, gq_1_8, Option.bind_some]
    unfold f_X1_clear
    have e7 : st1 (st1 (upI (rS (rdM m u 0 0 0) r.1) (21 + 2 * u) (va_cpy (m 18) (m (21 + 2 * u)) 0 0 56)) (20 + 2 * u) 1 (nI s)) 17 1 0 26 = rS (rdM m u 0 0 0) r.1 26 := by rw [st1_ne (by decide), st1_ne (by omega), upI_ne (by omega)]
    rw [if_pos io_17, pI_17, Option.bind_some, Option.bind_some, gq_0_1, Option.bind_some, gI_26, Option.bind_some, e7, rS_7, hok.1, if_neg (show ¬ false = true by decide), if_pos rfl, Option.bind_some, gI_26, Option.bind_some, e7, rS_6]
  · intro hno
    refine ⟨(r.1.1, true, r.1.2.2), ?_⟩
    have e7 : st1 (rS (rdM m u 0 0 0) (r.1.1, true, r.1.2.2)) 17 1 0 26 = rS (rdM m u 0 0 0) (r.1.1, true, r.1.2.2) 26 := st1_ne (by decide)
    rw [hnf hno, gq_0_1, Option.bind_some, gI_26, Option.bind_some, rS_7, if_pos rfl, if_neg (show ¬ (1 : Int32) = 0 by decide), gq_0_0, Option.bind_some, gq_1_8, Option.bind_some]
    unfold f_X1_clear
    rw [if_pos io_17, pI_17, Option.bind_some, Option.bind_some, gq_0_1, Option.bind_some, gI_26, Option.bind_some, e7, rS_7, if_pos rfl, if_neg (show ¬ (1 : Int32) = 0 by decide), Option.bind_some, gI_26, Option.bind_some, e7, rS_5]
theorem RR_tx {M : Nat → Nat → Int32} (hR : RR m kp z) (hS : RS m 1 43 c) (hu : u < 3) (hc : ∀ q, q ≠ 17 → q ≠ 20 + 2 * u → q ≠ 21 + 2 * u → q ≠ 26 → q ≠ 42 → q ≠ 43 → q ≠ 47 → M q = m q) (h2 : M 42 2 = m 42 2) (h20 : M 42 20 = m 42 20) (hi : ∀ i, i ≠ 5 → ¬ (1054 + 60 * u ≤ i ∧ i < 1114 + 60 * u) → M 43 i = m 43 i) (hTap : RTap M 1 43 0) (hTx : RTx1 M 1 43 u) : RR M kp (z + 1) := by
  obtain ⟨-, hk, r3, r4, r5, r6⟩ := hR
  obtain ⟨e1, e2, e3, e4, e5, e6, e7, e8, e9, e10, e11, e12⟩ := hS
  have hT : ∀ v, v < 3 → RTx1 m 1 43 v → RTx1 M 1 43 v := fun v hv hh => by
    by_cases e : v = u
    · subst e; exact hTx
    · exact hh.fr (by rw [hc (1 + 19 + 2 * v) (by omega) (by omega) (by omega) (by omega) (by omega) (by omega) (by omega)]) (hc _ (by omega) (by omega) (by omega) (by omega) (by omega) (by omega) (by omega)) (fun i _ _ => hi i (by omega) (by omega))
  have hcl : ∀ q, 1 ≤ q → q ≤ 16 → M q = m q := fun q _ _ => hc q (by omega) (by omega) (by omega) (by omega) (by omega) (by omega) (by omega)
  have hch : ∀ q, 27 ≤ q → q ≠ 42 → q ≠ 43 → q ≠ 47 → M q = m q := fun q _ _ _ _ => hc q (by omega) (by omega) (by omega) (by omega) (by omega) (by omega) (by omega)
  refine ⟨⟨cset c 5 0, e1.fr (hcl _ (by decide) (by decide)) (hcl _ (by decide) (by decide)) (fun i _ _ => hi i (by omega) (by omega)), e2.fr (by rw [hcl _ (by decide) (by decide)]) (hi _ (by omega) (by omega)), e3.fr (hcl _ (by decide) (by decide)) (hcl _ (by decide) (by decide)) (hi _ (by omega) (by omega)) (fun i _ _ => hi i (by omega) (by omega)), e4.fr (hcl _ (by decide) (by decide)) (hcl _ (by decide) (by decide)) (hcl _ (by decide) (by decide)) (hi _ (by omega) (by omega)) (fun i _ _ => hi i (by omega) (by omega)), e5.fr (hcl _ (by decide) (by decide)) (hcl _ (by decide) (by decide)) (hi _ (by omega) (by omega)) (fun i _ _ => hi i (by omega) (by omega)), e6.fr (hcl _ (by decide) (by decide)) (hcl _ (by decide) (by decide)) (hi _ (by omega) (by omega)) (fun i _ _ => hi i (by omega) (by omega)), e7.fr (hcl _ (by decide) (by decide)) (hcl _ (by decide) (by decide)) (hi _ (by omega) (by omega)) (fun i _ _ => hi i (by omega) (by omega)), hTap, e9.fr (hcl _ (by decide) (by decide)) (hcl _ (by decide) (by decide)) (hi _ (by omega) (by omega)) (fun i _ _ => hi i (by omega) (by omega)), hT 0 (by decide) e10, hT 1 (by decide) e11, hT 2 (by decide) e12⟩, fun h => ?_, r3.fr (fun q _ _ => hch q (by omega) (by omega) (by omega) (by omega)) (fun q _ _ => hch q (by omega) (by omega) (by omega) (by omega)), r4.fr (by rw [hch 27 (by omega) (by omega) (by omega) (by omega)]) (hch _ (by omega) (by omega) (by omega) (by omega)) h20 (hch _ (by omega) (by omega) (by omega) (by omega)), r5.fr (hch _ (by omega) (by omega) (by omega) (by omega)) (hch _ (by omega) (by omega) (by omega) (by omega)), r6.fr (Nat.le_succ z) (by rw [hc 0 (by omega) (by omega) (by omega) (by omega) (by omega) (by omega) (by omega)]) h2⟩
  obtain ⟨c', hc'⟩ := hk h
  exact ⟨c', hc'.fr (fun q _ _ => hch q (by omega) (by omega) (by omega) (by omega)) (hch _ (by omega) (by omega) (by omega) (by omega))⟩
theorem tx1_of (h : RS m 1 43 c) (hu : u < 3) : RTx1 m 1 43 u := by
  match u, hu with
  | 0, _ => exact h.2.2.2.2.2.2.2.2.2.1
  | 1, _ => exact h.2.2.2.2.2.2.2.2.2.2.1
  | 2, _ => exact h.2.2.2.2.2.2.2.2.2.2.2
theorem txF_ne {r : PR} {k : Nat} (h1 : k ≠ 42) (h2 : k ≠ 43) (h3 : k ≠ 47) : txF m u r k = m k := by unfold txF; rw [st1_ne h2, mS_ne h1 h3, st1_ne h1]
theorem txF_43 {r : PR} {i : Nat} : txF m u r 43 i = if i = 5 then 0 else m 43 i := by unfold txF; rw [st1_at, mS_ne (by decide) (by decide), st1_ne (by decide)]
theorem mS_k {st : PSt} {cs : List Int32} {o f : Nat} (h : f ≠ 5 ∧ f ≠ 7 ∧ f ≠ 8 ∧ f ≠ 9 ∧ f ≠ 10) : mS m st cs o 42 f = m 42 f := by
  unfold mS cdW
  rw [st1_nf (by omega), st1_nf (by omega), st1_nf (by omega), st1_nf (by omega), st1_nf (by omega), wrow_ne (by decide)]
theorem txG_ne {r : PR} {k : Nat} (h1 : k ≠ 42) (h2 : k ≠ 43) (h3 : k ≠ 47) : txG m u r k = m k := by unfold txG; rw [wrow_ne h2, st1_ne h2, st1_ne h2, mS_ne h1 h3, st1_ne h1]
theorem txG_43 {r : PR} {i : Nat} : txG m u r 43 i = if 1055 + 60 * u ≤ i ∧ i < 1055 + 60 * u + r.2.1.length then r.2.1.getD (i - (1055 + 60 * u)) 0 else if i = 1054 + 60 * u then nI r.2.1.length else if i = 5 then 0 else m 43 i := by unfold txG; rw [wrow_at, st1_at, st1_at, mS_ne (by decide) (by decide), st1_ne (by decide)]
theorem c7F_ne {st : PSt} {k : Nat} (h1 : k ≠ 17) (h2 : k ≠ 26) : c7F m u st k = m k := by unfold c7F; rw [st1_ne h1, rS_ne h2, rdM_ne h2]
theorem c7G_ne {st : PSt} {k : Nat} (h1 : k ≠ 17) (h2 : k ≠ 26) (h3 : k ≠ 20 + 2 * u) (h4 : k ≠ 21 + 2 * u) : c7G m u s st k = m k := by unfold c7G; rw [st1_ne h1, st1_ne h3, upI_ne h4, rS_ne h2, rdM_ne h2]
theorem op_text (a : Int32) : OpR (fun σ => f_X7_text σ 0 a) (fun σ => f_X8_text_ σ 42 a) := by
  intro m kp b z hR
  obtain ⟨⟨c, hS⟩, -⟩ := id hR
  obtain ⟨x1, x2, x3, x4⟩ := id hS.2.2.2.2.2.2.2.1
  have h17 : m 17 1 = nI (c 5) := x1
  by_cases ha : 0 ≤ a ∧ a ≤ 2
  · obtain ⟨u, -, hu, rfl⟩ := ex_rng (lo := 0) (hi := 2) (by decide) ha (by decide)
    have hu3 : u < 3 := by omega
    obtain ⟨r, er⟩ : ∃ r, r = psr (bT m 18) (c 5) u := ⟨_, rfl⟩
    obtain ⟨g1, g2⟩ := psr_g (B := bT m 18) (s := c 5) (u := u)
    have hfit : ∀ k, k < 56 → fits .byte (.int (m 18 k)) = true := fun k hk => (x4 k hk).2
    obtain ⟨t1, t2⟩ := txt7 (kp := kp) (b := b) hu3 x3 h17 hfit er
    have hBx : ∀ k, k < 56 → m 43 (974 + k) = bT m 18 k ∧ ∃ x, x < 256 ∧ bT m 18 k = nI x := fun k hk => ⟨(x4 k hk).1.symm, pk_andE (m 18 k) (m := 255) 8 (by decide)⟩
    by_cases hok : r.1.2.1 = false ∧ c 5 ≤ r.1.1
    · have hM1 : ∀ i, c7G m u (c 5) r.1 43 i = m 43 i := fun i => by rw [c7G_ne (by decide) (by decide) (by omega) (by omega)]
      have e8 := (txt8 (m := c7G m u (c 5) r.1) (kp := kp) (b := some 17) (B := bT m 18) (s := c 5) hu3 x3 (by rw [hM1]; exact x2) (fun k hk => by rw [hM1]; exact hBx k hk)).1
      rw [← er] at e8 g1 g2
      have hsg := psr_sg (bT_x m 18 (c 5)) hu3 (by rw [← er]; exact hok.1)
      have hev := psr_ev (bT_x m 18 (c 5)) hu3 (by rw [← er]; exact hok.1) (fun _ => 0) []
      rw [← er] at hsg hev
      have hne : 0 < r.2.1.length := by
        rcases Nat.eq_zero_or_pos r.2.1.length with e | e
        · rw [List.length_eq_zero_iff.mp e] at hev
          have : some ([] : List Int32) = some [r.2.2 (fun _ => 0)] := hev
          cases this
        · exact e
      have t1' := t1 hok
      rw [hsg] at t1'
      refine ⟨nI (sgc r.2.1), c7G m u (c 5) r.1, kp, some 17, txG (c7G m u (c 5) r.1) u r, t1', e8 hok, ?_⟩
      have hq : ∀ q, q ≠ 17 → q ≠ 20 + 2 * u → q ≠ 21 + 2 * u → q ≠ 26 → q ≠ 42 → q ≠ 43 → q ≠ 47 → txG (c7G m u (c 5) r.1) u r q = m q := fun q q1 q2 q3 q4 q5 q6 q7 => by rw [txG_ne q5 q6 q7, c7G_ne q1 q4 q2 q3]
      have h42 : ∀ f, f = 2 ∨ f = 20 → txG (c7G m u (c 5) r.1) u r 42 f = m 42 f := fun f hf => by
        unfold txG
        rw [wrow_ne (by decide), st1_ne (by decide), st1_ne (by decide), mS_k (by omega), st1_nf (by omega), c7G_ne (by decide) (by decide) (by omega) (by omega)]
      have e21 : ∀ k, k < 56 → txG (c7G m u (c 5) r.1) u r (21 + 2 * u) k = m 18 k := fun k hk => by
        rw [txG_ne (by omega) (by omega) (by omega)]
        unfold c7G
        rw [st1_ne (by omega), st1_ne (by omega), upI_at]
        show (if 0 ≤ k ∧ k < 0 + 56 then m 18 (0 + (k - 0)) else _) = _
        rw [if_pos (by omega), Nat.sub_zero, Nat.zero_add]
      refine RR_tx hR hS hu3 hq (h42 2 (Or.inl rfl)) (h42 20 (Or.inr rfl)) (fun i i1 i2 => by rw [txG_43, if_neg (by omega), if_neg (by omega), if_neg i1, hM1]) ?_ ?_
      · refine ⟨?_, ?_, by decide, fun k hk => ?_⟩
        · show txG (c7G m u (c 5) r.1) u r 17 1 = _
          rw [txG_ne (by decide) (by decide) (by decide)]; unfold c7G; rw [st1_eq]; rfl
        · rw [txG_43, if_neg (by omega), if_neg (by omega), if_pos rfl]; rfl
        · show txG (c7G m u (c 5) r.1) u r 18 k &&& 255 = _ ∧ fits .byte (.int (txG (c7G m u (c 5) r.1) u r 18 k)) = true
          rw [hq 18 (by decide) (by omega) (by omega) (by decide) (by decide) (by decide) (by decide), txG_43, if_neg (by omega), if_neg (by omega), if_neg (by omega), hM1]
          exact x4 k hk
      · refine ⟨c 5, r.2.1.length, x3, by omega, ?_, ?_, ?_, ?_⟩
        · rw [show 1 + 19 + 2 * u = 20 + 2 * u by omega, txG_ne (by omega) (by omega) (by omega)]; unfold c7G; rw [st1_ne (by omega), st1_eq]
        · rw [txG_43, if_neg (by omega), if_pos rfl]
        · intro k hk
          rw [show 1 + 20 + 2 * u = 21 + 2 * u by omega, e21 k hk]
          exact hfit k hk
        · have hBB : ∀ k, k < c 5 → (fun k => txG (c7G m u (c 5) r.1) u r (1 + 20 + 2 * u) k &&& 255) k = bT m 18 k := fun k hk => by
            show txG (c7G m u (c 5) r.1) u r (1 + 20 + 2 * u) k &&& 255 = _
            rw [show 1 + 20 + 2 * u = 21 + 2 * u by omega, e21 k (by omega)]; rfl
          refine Or.inr ⟨by omega, hne, ?_, ?_, ?_⟩
          · rw [pOkB hBB]; unfold pOk; rw [← er]; exact hok
          · rw [psrB hBB, ← er]
          · intro k hk
            rw [psrB hBB, ← er]
            show _ = some (txG (c7G m u (c 5) r.1) u r 43 (1055 + 60 * u + k))
            rw [txG_43, if_pos (by omega), show 1055 + 60 * u + k - (1055 + 60 * u) = k by omega, List.getD_eq_getElem?_getD, List.getElem?_eq_getElem hk]
            rfl
    · obtain ⟨st, t2'⟩ := t2 hok
      have hM1 : ∀ i, c7F m u st 43 i = m 43 i := fun i => by rw [c7F_ne (by decide) (by decide)]
      have e8 := (txt8 (m := c7F m u st) (kp := kp) (b := some 17) (B := bT m 18) (s := c 5) hu3 x3 (by rw [hM1]; exact x2) (fun k hk => by rw [hM1]; exact hBx k hk)).2
      rw [← er] at e8
      refine ⟨(-10 : Int32) - nI r.1.1, c7F m u st, kp, some 17, txF (c7F m u st) u r, t2', e8 hok, ?_⟩
      have hq : ∀ q, q ≠ 17 → q ≠ 26 → q ≠ 42 → q ≠ 43 → q ≠ 47 → txF (c7F m u st) u r q = m q := fun q q1 q4 q5 q6 q7 => by rw [txF_ne q5 q6 q7, c7F_ne q1 q4]
      have h42 : ∀ f, f = 2 ∨ f = 20 → txF (c7F m u st) u r 42 f = m 42 f := fun f hf => by
        unfold txF
        rw [st1_ne (by decide), mS_k (by omega), st1_nf (by omega), c7F_ne (by decide) (by decide)]
      have h43 : ∀ i, i ≠ 5 → txF (c7F m u st) u r 43 i = m 43 i := fun i h => by rw [txF_43, if_neg h, hM1]
      have hTx : RTx1 m 1 43 u := tx1_of hS hu3
      refine RR_tx hR hS hu3 (fun q q1 q2 q3 q4 q5 q6 q7 => hq q q1 q4 q5 q6 q7) (h42 2 (Or.inl rfl)) (h42 20 (Or.inr rfl)) (fun i i1 _ => h43 i i1) ?_ (hTx.fr (by rw [hq _ (by omega) (by omega) (by omega) (by omega) (by omega)]) (hq _ (by omega) (by omega) (by omega) (by omega) (by omega)) (fun i _ _ => h43 i (by omega)))
      refine ⟨?_, ?_, by decide, fun k hk => ?_⟩
      · show txF (c7F m u st) u r 17 1 = _
        rw [txF_ne (by decide) (by decide) (by decide)]; unfold c7F; rw [st1_eq]; rfl
      · rw [txF_43, if_pos rfl]; rfl
      · show txF (c7F m u st) u r 18 k &&& 255 = _ ∧ fits .byte (.int (txF (c7F m u st) u r 18 k)) = true
        rw [hq 18 (by decide) (by decide) (by decide) (by decide) (by decide), h43 _ (by omega)]
        exact x4 k hk
  · refine op_err1 (k := 1) (e := -1000001) (by decide) hR ?_ ?_
    · show f_X7_text (mkS m kp b) 0 a = _
      unfold f_X7_text
      rw [if_pos io_0, isUse7_eq, if_neg ha, Option.bind_some, if_pos rfl, fails_1, Option.bind_some]
    · show f_X8_text_ (mkS _ kp b) 42 a = _
      unfold f_X8_text_
      rw [if_pos io_42, within_eq, if_neg ha, Option.bind_some, if_pos rfl, finds_1, Option.bind_some]
end TX
