/-! ===== a whole day in the class ===== -/
theorem frS_fix (p0 : Nat → Bool) (n : Nat) : ∀ (f : Nat) (s : Nat → Int32), stN s n ≤ f → frS p0 n (f + 1) s = frS p0 n (f + 2) s := by
  intro f
  induction f with
  | zero =>
    intro s h
    have e := fnS_sd p0 n s n (Nat.le_refl n)
    have hf : (fnS p0 n s n).2 = false := by
      cases h9 : (fnS p0 n s n).2 with
      | false => rfl
      | true => rw [h9, if_pos rfl] at e; omega
    rw [show frS p0 n (0 + 1) s = if (fnS p0 n s n).2 then frS p0 n 0 (fnS p0 n s n).1 else (fnS p0 n s n).1 from rfl, show frS p0 n (0 + 2) s = if (fnS p0 n s n).2 then frS p0 n (0 + 1) (fnS p0 n s n).1 else (fnS p0 n s n).1 from rfl, hf, if_neg (by decide), if_neg (by decide)]
  | succ f ih =>
    intro s h
    have e := fnS_sd p0 n s n (Nat.le_refl n)
    rw [show frS p0 n (f + 1 + 1) s = if (fnS p0 n s n).2 then frS p0 n (f + 1) (fnS p0 n s n).1 else (fnS p0 n s n).1 from rfl, show frS p0 n (f + 1 + 2) s = if (fnS p0 n s n).2 then frS p0 n (f + 2) (fnS p0 n s n).1 else (fnS p0 n s n).1 from rfl]
    cases h9 : (fnS p0 n s n).2 with
    | false => rw [if_neg (by decide), if_neg (by decide)]
    | true =>
      rw [h9, if_pos rfl] at e
      rw [if_pos rfl, if_pos rfl]
      exact ih _ (by omega)
theorem fb_L {ε : Ev} {c n : Nat} {σ : Sg} {s0 : Nat → Int32} {p0 : Nat → Bool} (hc : c < 900) (hn9 : n ≤ 9) (hN : NbI σ c p0 n) (k69 : Sg → Option (Unit × Sg)) : ∀ (j r f : Nat) (τ : Sg) (s : Nat → Int32), r + j = 9 → j + 2 ≤ f → Fh c σ τ → SR τ c s n → (∀ k, k < n → sd s k = true → p0 k = true) → (∀ k, k < n → -50 ≤ (s (6 + 7 * k + 2)).toInt ∧ (s (6 + 7 * k + 2)).toInt ≤ 50) → ∃ τ', fn_X4_fallByNeighbours_L4 ε c k69 f (nI 1) (nI r) τ = k69 τ' ∧ Fh c σ τ' ∧ SR τ' c (frS p0 n j s) n := by
  intro j
  induction j with
  | zero =>
    intro r f τ s hr hf2 hf hS hp hl
    obtain ⟨f, rfl⟩ : ∃ g, f = g + 1 := ⟨f - 1, by omega⟩
    refine ⟨τ, ?_, hf, hS⟩
    simp only [fn_X4_fallByNeighbours_L4]
    rw [if_pos (nI_le (a := 9) (b := r) (by omega) (by omega))]
  | succ j ih =>
    intro r f τ s hr hf2 hf hS hp hl
    obtain ⟨f, rfl⟩ : ∃ g, f = g + 1 := ⟨f - 1, by omega⟩
    have hN' : NbI τ c p0 n := fun k hk => by rw [hf.1 (c + 5) (by omega) (by omega), hf.1 (c + 6) (by omega) (by omega)]; exact hN k hk
    obtain ⟨τ2, e2, f2, S2⟩ := fn_L (ε := ε) hc hS hN' hp hl (nI r) (fn_X4_fallByNeighbours_L63 ε c (fn_X4_fallByNeighbours_L4 ε c k69 f) k69) 4000 0 τ (by omega) (by omega) (Fh.rf c τ) hS
    rw [show frS p0 n (j + 1) s = if (fnS p0 n s n).2 then frS p0 n j (fnS p0 n s n).1 else (fnS p0 n s n).1 from rfl]
    have e3 : fn_X4_fallByNeighbours_L4 ε c k69 (f + 1) (nI 1) (nI r) τ = fn_X4_fallByNeighbours_L4 ε c k69 f (bI (fnS p0 n s n).2) (nI (r + 1)) τ2 := by
      simp only [fn_X4_fallByNeighbours_L4]
      rw [if_neg (nI_ge (a := r) (b := 9) (by omega) (by omega)), if_neg (by decide)]
      refine Eq.trans e2 ?_
      rw [fn_X4_fallByNeighbours_L63, nI_add]
    rw [e3]
    cases h9 : (fnS p0 n s n).2 with
    | true =>
      rw [if_pos rfl]
      obtain ⟨τ3, a1, a2, a3⟩ := ih (r + 1) f τ2 (fnS p0 n s n).1 (by omega) (by omega) (hf.tr f2) S2 (fun k hk hs => hp k hk (fnS_sd2 p0 n s k n hs)) (fun k hk => by rw [fnS_2]; exact hl k hk)
      exact ⟨τ3, a1, a2, a3⟩
    | false =>
      rw [if_neg (by decide)]
      refine ⟨τ2, ?_, hf.tr f2, S2⟩
      obtain ⟨f, rfl⟩ : ∃ g, f = g + 1 := ⟨f - 1, by omega⟩
      simp only [fn_X4_fallByNeighbours_L4]
      by_cases h7 : nI 9 ≤ nI (r + 1)
      · rw [if_pos h7]
      · rw [if_neg h7, if_pos (by decide)]
theorem fb_eq {ε : Ev} {c n : Nat} {σ : Sg} {s : Nat → Int32} {p0 : Nat → Bool} (hc : c < 900) (h : SR σ c s n) (hN : NbI σ c p0 n) (hp : ∀ k, k < n → sd s k = true → p0 k = true) (hl : ∀ k, k < n → -50 ≤ (s (6 + 7 * k + 2)).toInt ∧ (s (6 + 7 * k + 2)).toInt ≤ 50) : ∃ σ', fn_X4_fallByNeighbours ε c σ = some ((), σ') ∧ Fh c σ σ' ∧ SR σ' c (frS p0 n 9 s) n := by
  obtain ⟨τ, a1, a2, a3⟩ := fb_L (ε := ε) (s0 := s) hc h.1 hN (fn_X4_fallByNeighbours_L69 ε c) 9 0 4000 σ s (by omega) (by omega) (Fh.rf c σ) h hp hl
  exact ⟨τ, a1, a2, a3⟩
theorem fcS_f (s : Nat → Int32) : ∀ k, fcB s k = false → fcS s k = s := by
  intro k
  induction k with
  | zero => intro _; rfl
  | succ k ih =>
    intro h
    rw [show fcB s (k + 1) = (fcB s k || (sd (fcS s k) k && decide (nI 100 ≤ fcS s k (6 + 7 * k + 4)))) from rfl, Bool.or_eq_false_iff] at h
    rw [show fcS s (k + 1) = fc1 (fcS s k) k from rfl, fc1, if_neg (fun q => by
      have h2 := h.2
      rw [q.1, decide_eq_true q.2] at h2
      cases h2)]
    exact ih h.1
theorem fcS_n (s : Nat → Int32) (n : Nat) : ∀ k, k ≤ n → stN (fcS s k) n + (if fcB s k then 1 else 0) ≤ stN s n := by
  intro k
  induction k with
  | zero => intro _; exact Nat.le_refl _
  | succ k ih =>
    intro hk
    have i1 := ih (by omega)
    rw [show fcB s (k + 1) = (fcB s k || (sd (fcS s k) k && decide (nI 100 ≤ fcS s k (6 + 7 * k + 4)))) from rfl, show fcS s (k + 1) = fc1 (fcS s k) k from rfl, fc1]
    by_cases h : sd (fcS s k) k = true ∧ nI 100 ≤ fcS s k (6 + 7 * k + 4)
    · rw [if_pos h, h.1, decide_eq_true h.2]
      have e := stN_fall (fcS s k) k h.1 n
      rw [if_pos (by omega)] at e
      rw [Bool.true_and, Bool.or_true, if_pos rfl]
      split at i1 <;> omega
    · rw [if_neg h]
      have h2 : (sd (fcS s k) k && decide (nI 100 ≤ fcS s k (6 + 7 * k + 4))) = false := by
        cases h3 : sd (fcS s k) k with
        | false => rfl
        | true => rw [Bool.true_and]; exact decide_eq_false (fun q => h ⟨h3, q⟩)
      rw [h2, Bool.or_false]
      exact i1
theorem fcS_sd (s : Nat → Int32) (k : Nat) : ∀ i, sd (fcS s i) k = true → sd s k = true := by
  intro i
  induction i with
  | zero => intro h; exact h
  | succ i ih =>
    intro h
    rw [show fcS s (i + 1) = fc1 (fcS s i) i from rfl, fc1] at h
    split at h
    · rw [fall_sd] at h
      split at h
      · cases h
      · exact ih h
    · exact ih h
theorem fcS_2 (s : Nat → Int32) (k : Nat) : ∀ i, fcS s i (6 + 7 * k + 2) = s (6 + 7 * k + 2) := by
  intro i
  induction i with
  | zero => rfl
  | succ i ih =>
    rw [show fcS s (i + 1) = fc1 (fcS s i) i from rfl, fc1]
    split
    · rw [fall_2]; exact ih
    · exact ih
/-- where nobody has fallen yet nobody falls with another -/
theorem frS_id {p0 : Nat → Bool} {n : Nat} {s : Nat → Int32} (h : ∀ k, sd s k = p0 k) (f : Nat) : frS p0 n (f + 1) s = s := by
  have hw : ∀ k, fwB p0 s n k = false := by
    intro k
    unfold fwB
    split
    · split
      · rfl
      · rename_i o ho
        have : p0 o = true := by
          split at ho
          · exact (nxL_some ho).2.1
          · exact (nxR_lt2 ho).2.2
        rw [h o, this]
        rfl
    · rfl
  have hf : ∀ k, fnS p0 n s k = (s, false) := by
    intro k
    induction k with
    | zero => rfl
    | succ k ih =>
      rw [fnS, ih]
      rw [if_neg (by rw [fnB, hw, Bool.and_false]; decide)]
  rw [show frS p0 n (f + 1) s = if (fnS p0 n s n).2 then frS p0 n f (fnS p0 n s n).1 else (fnS p0 n s n).1 from rfl, hf n]
  rfl
theorem prS_sm (s : Nat → Int32) : ∀ n, prS s n = smS s 5 n := by
  intro n
  induction n with
  | zero => rfl
  | succ n ih => rw [prS, smS, ih]
theorem held_50 (z : Int32) : -50 ≤ (heldI z (-50) (nI 50)).toInt ∧ (heldI z (-50) (nI 50)).toInt ≤ 50 := by
  unfold heldI
  have e50 : (nI 50).toInt = 50 := nI_toInt (by decide)
  have em : (-50 : Int32).toInt = -50 := by decide
  by_cases h : z < -50
  · rw [if_pos h, em]; omega
  · rw [if_neg h]
    have q1 : ¬ z.toInt < (-50 : Int32).toInt := fun q => h (Int32.lt_iff_toInt_lt.mpr q)
    by_cases h2 : nI 50 < z
    · rw [if_pos h2, e50]; omega
    · rw [if_neg h2]
      have q2 : ¬ (nI 50).toInt < z.toInt := fun q => h2 (Int32.lt_iff_toInt_lt.mpr q)
      omega
theorem cmS_2 (t b s : Nat → Int32) (k : Nat) (h : -50 ≤ (s (6 + 7 * k + 2)).toInt ∧ (s (6 + 7 * k + 2)).toInt ≤ 50) : ∀ i, -50 ≤ (cmS t b s i (6 + 7 * k + 2)).toInt ∧ (cmS t b s i (6 + 7 * k + 2)).toInt ≤ 50 := by
  intro i
  induction i with
  | zero => exact h
  | succ i ih =>
    rw [cmS, cm1]
    split
    · by_cases e : k = i
      · subst e; rw [pk_us]; exact held_50 _
      · rw [pk_un (by omega), pk_un (by omega)]; exact ih
    · exact ih
