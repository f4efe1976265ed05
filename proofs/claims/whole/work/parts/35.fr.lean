/-! each part of the relation looks at its own cells alone -/
section FR
variable {m m' : Nat → Nat → Int32} {t a : Nat}
theorem RMach.fr (h : RMach m t a) (h1 : m' (t + 1) = m (t + 1)) (h2 : m' (t + 2) = m (t + 2)) (h3 : ∀ i, 10 ≤ i → i < 22 → m' a i = m a i) : RMach m' t a := by
  obtain ⟨e1, e2, e3, e4, e5⟩ := h
  refine ⟨by rw [h1]; exact e1, by rw [h1]; exact e2, by rw [h1]; exact e3, fun k hk => ?_, fun k hk => ?_⟩
  · rw [h2, h3 (10 + k) (by omega) (by omega)]; exact e4 k hk
  · rw [h3 (10 + 3 * k) (by omega) (by omega), h3 (10 + 3 * k + 1) (by omega) (by omega), h3 (10 + 3 * k + 2) (by omega) (by omega)]; exact e5 k hk
theorem RDrw.fr (h : RDrw m t a) (h1 : m' t 10 = m t 10) (h3 : m' a 7 = m a 7) : RDrw m' t a := by
  unfold RDrw
  rw [h1, h3]
  exact h
theorem RPap.fr {n : Nat} (h : RPap m t a n) (h1 : m' (t + 3) = m (t + 3)) (h2 : m' (t + 4) = m (t + 4)) (h0 : m' a 0 = m a 0) (h3 : ∀ i, 22 ≤ i → i < 82 → m' a i = m a i) : RPap m' t a n := by
  obtain ⟨e1, e2, e3, e4, e5, e6, e7⟩ := h
  refine ⟨by rw [h1]; exact e1, by rw [h1]; exact e2, by rw [h1]; exact e3, by rw [h0]; exact e4, e5, fun k hk => ?_, fun p hp => ?_⟩
  · rw [h2, h3 (22 + k) (by omega) (by omega)]; exact e6 k hk
  · rw [h3 (22 + 5 * p) (by omega) (by omega), h3 (22 + 5 * p + 1) (by omega) (by omega), h3 (22 + 5 * p + 3) (by omega) (by omega), h3 (22 + 5 * p + 4) (by omega) (by omega)]; exact e7 p hp
theorem RCur.fr {nP n : Nat} (h : RCur m t a nP n) (h1 : m' (t + 5) = m (t + 5)) (h2 : m' (t + 6) = m (t + 6)) (h4 : m' (t + 7) = m (t + 7)) (h0 : m' a 1 = m a 1) (h3 : ∀ i, 82 ≤ i → i < 778 → m' a i = m a i) : RCur m' t a nP n := by
  obtain ⟨e1, e2, e3, e4, e5, e6, e7, e8⟩ := h
  refine ⟨by rw [h1]; exact e1, by rw [h1]; exact e2, by rw [h1]; exact e3, by rw [h0]; exact e4, e5, fun c f hc hf => ?_, fun c j hc hj => ?_, fun c hc => ?_⟩
  · rw [h2, h3 (82 + 29 * c + f) (by omega) (by omega)]; exact e6 c f hc hf
  · rw [h4, h3 (87 + 29 * c + j) (by omega) (by omega)]; exact e7 c j hc hj
  · rw [h3 (82 + 29 * c) (by omega) (by omega), h3 (82 + 29 * c + 1) (by omega) (by omega), h3 (82 + 29 * c + 2) (by omega) (by omega), h3 (82 + 29 * c + 3) (by omega) (by omega)]; exact e8 c hc
theorem RCur.more {nP nP' n : Nat} (h : RCur m t a nP n) (hp : nP ≤ nP') : RCur m t a nP' n := by
  obtain ⟨e1, e2, e3, e4, e5, e6, e7, e8⟩ := h
  refine ⟨e1, e2, e3, e4, e5, e6, e7, fun c hc => ?_⟩
  obtain ⟨q1, ⟨x, hx, q2⟩, q3⟩ := e8 c hc
  exact ⟨q1, ⟨x, by omega, q2⟩, q3⟩
theorem RLnk.fr {n : Nat} (h : RLnk m t a n) (h1 : m' (t + 8) = m (t + 8)) (h2 : m' (t + 9) = m (t + 9)) (h0 : m' a 2 = m a 2) (h3 : ∀ i, 778 ≤ i → i < 838 → m' a i = m a i) : RLnk m' t a n := by
  obtain ⟨e1, e2, e3, e4, e5, e6, e7⟩ := h
  refine ⟨by rw [h1]; exact e1, by rw [h1]; exact e2, by rw [h1]; exact e3, by rw [h0]; exact e4, e5, fun k hk => ?_, fun p hp => ?_⟩
  · rw [h2, h3 (778 + k) (by omega) (by omega)]; exact e6 k hk
  · rw [h3 (778 + 3 * p) (by omega) (by omega), h3 (778 + 3 * p + 1) (by omega) (by omega), h3 (778 + 3 * p + 2) (by omega) (by omega)]; exact e7 p hp
theorem RTri.fr {nP n : Nat} (h : RTri m t a nP n) (h1 : m' (t + 10) = m (t + 10)) (h2 : m' (t + 11) = m (t + 11)) (h0 : m' a 3 = m a 3) (h3 : ∀ i, 838 ≤ i → i < 958 → m' a i = m a i) : RTri m' t a nP n := by
  obtain ⟨e1, e2, e3, e4, e5, e6, e7⟩ := h
  refine ⟨by rw [h1]; exact e1, by rw [h1]; exact e2, by rw [h1]; exact e3, by rw [h0]; exact e4, e5, fun k f hk hf => ?_, fun p hp => ?_⟩
  · rw [h2, h3 (838 + 4 * k + f) (by omega) (by omega)]; exact e6 k f hk hf
  · rw [h2, h3 (838 + 4 * p) (by omega) (by omega), h3 (838 + 4 * p + 1) (by omega) (by omega), h3 (838 + 4 * p + 2) (by omega) (by omega), h3 (838 + 4 * p + 3) (by omega) (by omega)]; exact e7 p hp
theorem RTri.more {nP nP' n : Nat} (h : RTri m t a nP n) (hp : nP ≤ nP') : RTri m t a nP' n := by
  obtain ⟨e1, e2, e3, e4, e5, e6, e8⟩ := h
  refine ⟨e1, e2, e3, e4, e5, e6, fun c hc => ?_⟩
  obtain ⟨q0, q1, ⟨x, hx, q2⟩, q3⟩ := e8 c hc
  exact ⟨q0, q1, ⟨x, by omega, q2⟩, q3⟩
theorem RRul.fr {nC n : Nat} (h : RRul m t a nC n) (h1 : m' (t + 12) = m (t + 12)) (h2 : m' (t + 13) = m (t + 13)) (h0 : m' a 4 = m a 4) (h3 : ∀ i, 958 ≤ i → i < 974 → m' a i = m a i) : RRul m' t a nC n := by
  obtain ⟨e1, e2, e3, e4, e5, e6, e7⟩ := h
  refine ⟨by rw [h1]; exact e1, by rw [h1]; exact e2, by rw [h1]; exact e3, by rw [h0]; exact e4, e5, fun k hk => ?_, fun p hp => ?_⟩
  · rw [h2, h3 (958 + k) (by omega) (by omega)]; exact e6 k hk
  · rw [h3 (958 + 2 * p) (by omega) (by omega), h3 (958 + 2 * p + 1) (by omega) (by omega)]; exact e7 p hp
theorem RRul.more {nC nC' n : Nat} (h : RRul m t a nC n) (hp : nC ≤ nC') : RRul m t a nC' n := by
  obtain ⟨e1, e2, e3, e4, e5, e6, e8⟩ := h
  refine ⟨e1, e2, e3, e4, e5, e6, fun c hc => ?_⟩
  obtain ⟨q0, ⟨x, hx, q2⟩⟩ := e8 c hc
  exact ⟨q0, ⟨x, Nat.lt_of_lt_of_le hx (Nat.pow_le_pow_right (by decide) hp), q2⟩⟩
theorem RTap.fr {n : Nat} (h : RTap m t a n) (h1 : m' (t + 16) 1 = m (t + 16) 1) (h2 : m' (t + 17) = m (t + 17)) (h0 : m' a 5 = m a 5) (h3 : ∀ i, 974 ≤ i → i < 1030 → m' a i = m a i) : RTap m' t a n := by
  obtain ⟨e1, e2, e3, e4⟩ := h
  refine ⟨by rw [h1]; exact e1, by rw [h0]; exact e2, e3, fun k hk => ?_⟩
  rw [h2, h3 (974 + k) (by omega) (by omega)]; exact e4 k hk
theorem RWai.fr {n : Nat} (h : RWai m t a n) (h1 : m' (t + 14) = m (t + 14)) (h2 : m' (t + 15) = m (t + 15)) (h0 : m' a 6 = m a 6) (h3 : ∀ i, 1030 ≤ i → i < 1054 → m' a i = m a i) : RWai m' t a n := by
  obtain ⟨e1, e2, e3, e4, e5, e6⟩ := h
  refine ⟨by rw [h1]; exact e1, by rw [h1]; exact e2, by rw [h1]; exact e3, by rw [h0]; exact e4, e5, fun k hk => ?_⟩
  rw [h2, h3 (1030 + k) (by omega) (by omega)]; exact e6 k hk
theorem RTx1.fr {u : Nat} (h : RTx1 m t a u) (h1 : m' (t + 19 + 2 * u) 1 = m (t + 19 + 2 * u) 1) (h2 : m' (t + 20 + 2 * u) = m (t + 20 + 2 * u)) (h3 : ∀ i, 1054 + 60 * u ≤ i → i < 1114 + 60 * u → m' a i = m a i) : RTx1 m' t a u := by
  obtain ⟨s, q, e1, e2, e3, e4, e5, e6⟩ := h
  refine ⟨s, q, e1, e2, by rw [h1]; exact e3, by rw [h3 _ (by omega) (by omega)]; exact e4, by rw [h2]; exact e5, ?_⟩
  rw [h2]
  rcases e6 with e6 | ⟨f1, f2, f3, f4, f5⟩
  · exact Or.inl e6
  · refine Or.inr ⟨f1, f2, f3, f4, fun k hk => ?_⟩
    show _ = some (m' a (1055 + 60 * u + k))
    rw [h3 _ (by omega) (by omega)]
    exact f5 k hk
theorem RS.fr {c : Nat → Nat} (h : RS m t a c) (h1 : ∀ k, t ≤ k → k ≤ t + 24 → m' k = m k) (h2 : m' a = m a) : RS m' t a c := by
  obtain ⟨e1, e2, e3, e4, e5, e6, e7, e8, e9, e10, e11, e12⟩ := h
  have hc : ∀ i, t ≤ i → i ≤ t + 24 → ∀ j, m' i j = m i j := fun i q1 q2 j => by rw [h1 i q1 q2]
  refine ⟨e1.fr (h1 _ (by omega) (by omega)) (h1 _ (by omega) (by omega)) (fun _ _ _ => by rw [h2]), e2.fr (hc _ (by omega) (by omega) _) (by rw [h2]), e3.fr (h1 _ (by omega) (by omega)) (h1 _ (by omega) (by omega)) (by rw [h2]) (fun _ _ _ => by rw [h2]), e4.fr (h1 _ (by omega) (by omega)) (h1 _ (by omega) (by omega)) (h1 _ (by omega) (by omega)) (by rw [h2]) (fun _ _ _ => by rw [h2]), e5.fr (h1 _ (by omega) (by omega)) (h1 _ (by omega) (by omega)) (by rw [h2]) (fun _ _ _ => by rw [h2]), e6.fr (h1 _ (by omega) (by omega)) (h1 _ (by omega) (by omega)) (by rw [h2]) (fun _ _ _ => by rw [h2]), e7.fr (h1 _ (by omega) (by omega)) (h1 _ (by omega) (by omega)) (by rw [h2]) (fun _ _ _ => by rw [h2]), e8.fr (hc _ (by omega) (by omega) _) (h1 _ (by omega) (by omega)) (by rw [h2]) (fun _ _ _ => by rw [h2]), e9.fr (h1 _ (by omega) (by omega)) (h1 _ (by omega) (by omega)) (by rw [h2]) (fun _ _ _ => by rw [h2]), e10.fr (hc _ (by omega) (by omega) _) (h1 _ (by omega) (by omega)) (fun _ _ _ => by rw [h2]), e11.fr (hc _ (by omega) (by omega) _) (h1 _ (by omega) (by omega)) (fun _ _ _ => by rw [h2]), e12.fr (hc _ (by omega) (by omega) _) (h1 _ (by omega) (by omega)) (fun _ _ _ => by rw [h2])⟩
theorem RSht.fr (h : RSht m) (h1 : ∀ k, 34 ≤ k → k < 42 → m' k = m k) (h2 : ∀ k, 55 ≤ k → k < 58 → m' k = m k) : RSht m' := by
  intro i hi
  rw [h1 (34 + 2 * i) (by omega) (by omega), h1 (35 + 2 * i) (by omega) (by omega), h2 55 (by omega) (by omega), h2 56 (by omega) (by omega), h2 57 (by omega) (by omega)]
  exact h i hi
theorem RTrc.fr (h : RTrc m) (h1 : m' 27 1 = m 27 1) (h2 : m' 28 = m 28) (h3 : m' 42 20 = m 42 20) (h4 : m' 54 = m 54) : RTrc m' := by
  obtain ⟨n, e1, e2, e3, e4⟩ := h
  exact ⟨n, e1, by rw [h1]; exact e2, by rw [h3]; exact e3, by rw [h2, h4]; exact e4⟩
theorem RErr.fr (h : RErr m) (h1 : m' 30 = m 30) (h2 : m' 45 = m 45) : RErr m' := by
  intro k hk
  rw [h1, h2]
  exact h k hk
theorem RImg.fr {kp : Bool} {z z' : Nat} (h : RImg m kp z) (hz : z ≤ z') (h1 : m' 0 9 = m 0 9) (h2 : m' 42 2 = m 42 2) : RImg m' kp z' := by
  obtain ⟨n, e1, e2, e3, e4⟩ := h
  exact ⟨n, by omega, by rw [h1]; exact e2, by rw [h2]; exact e3, e4⟩
/-- an act that leaves the two states, but for what this part of the relation doesn't see -/
theorem RR.fr {kp : Bool} {z z' : Nat} (h : RR m kp z) (hz : z ≤ z') (h1 : ∀ k, 1 ≤ k → k ≤ 25 → m' k = m k) (h2 : m' 43 = m 43) (h3 : kp = true → ∀ k, 59 ≤ k → k ≤ 83 → m' k = m k) (h4 : m' 44 = m 44) (h5 : RSht m') (h6 : RTrc m') (h7 : RErr m') (h8 : RImg m' kp z') : RR m' kp z' := by
  obtain ⟨⟨c, e1⟩, e2, -⟩ := h
  refine ⟨⟨c, e1.fr (fun k q1 q2 => h1 k (by omega) (by omega)) h2⟩, fun hk => ?_, h5, h6, h7, h8⟩
  obtain ⟨c', e3⟩ := e2 hk
  exact ⟨c', e3.fr (fun k q1 q2 => h3 hk k (by omega) (by omega)) h4⟩
/-- the same ERROR counted on both sides -/
theorem RR_err {kp : Bool} {z z' : Nat} (h : RR m kp z) (hz : z ≤ z') {k : Nat} (hk : k < 7) : RR (st1 (st1 m 30 k (m 30 k + 1)) 45 k (st1 m 30 k (m 30 k + 1) 45 k + 1)) kp z' := by
  obtain ⟨e1, e2, e3, e4, e5, e6⟩ := id h
  have hcell : ∀ q, q ≠ 30 → q ≠ 45 → st1 (st1 m 30 k (m 30 k + 1)) 45 k (st1 m 30 k (m 30 k + 1) 45 k + 1) q = m q := fun q q1 q2 => by rw [st1_ne q2, st1_ne q1]
  refine h.fr hz (fun q q1 q2 => hcell q (by omega) (by omega)) (hcell _ (by decide) (by decide)) (fun _ q q1 q2 => hcell q (by omega) (by omega)) (hcell _ (by decide) (by decide)) (e3.fr (fun q q1 q2 => hcell q (by omega) (by omega)) (fun q q1 q2 => hcell q (by omega) (by omega))) (e4.fr (by rw [hcell 27 (by decide) (by decide)]) (hcell _ (by decide) (by decide)) (by rw [hcell 42 (by decide) (by decide)]) (hcell _ (by decide) (by decide))) ?_ (e6.fr hz (by rw [hcell 0 (by decide) (by decide)]) (by rw [hcell 42 (by decide) (by decide)]))
  intro j hj
  rw [st1_at, st1_ne (by decide), st1_at, st1_ne (by decide), e5 k hk, e5 j hj]
end FR
