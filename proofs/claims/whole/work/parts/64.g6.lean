/-! ===== the first fall ===== -/
theorem pcN_or : ∀ k, k < 9 → ∀ m, m < 2 ^ k → pcN (m ||| 2 ^ k) = pcN m + 1 := by decide +kernel
theorem cnt_st (s : Nat → Int32) : ∀ n, n ≤ 9 → cntS s n = stN s n := by
  intro n
  induction n with
  | zero => intro _; show pcN 0 = 0; decide
  | succ n ih =>
    intro hn
    have i1 : pcN (maskN (sd s) n) = stN s n := ih (by omega)
    unfold cntS
    rw [maskN, stN]
    by_cases h : sd s n = true
    · rw [if_pos h, if_pos h, pcN_or n (by omega) _ (maskN_lt _ _), i1]
    · rw [if_neg h, if_neg h, Nat.or_zero, i1, Nat.add_zero]
theorem frS_sd (p0 : Nat → Bool) (n k : Nat) : ∀ (f : Nat) (s : Nat → Int32), sd (frS p0 n f s) k = true → sd s k = true := by
  intro f
  induction f with
  | zero => intro s h; exact h
  | succ f ih =>
    intro s h
    rw [show frS p0 n (f + 1) s = if (fnS p0 n s n).2 then frS p0 n f (fnS p0 n s n).1 else (fnS p0 n s n).1 from rfl] at h
    split at h
    · exact fnS_sd2 p0 n s k n (ih _ h)
    · exact fnS_sd2 p0 n s k n h
theorem day_sd {s : Nat → Int32} {nt n k : Nat} (h : sd (dayS s nt n) k = true) : sd s k = true := by
  have h2 : sd (frS (sd s) n 10 (fcS (cmS (thS s nt n) (brs s) s n) n)) k = true := by
    unfold sd at h ⊢
    rw [dayS, reS, pk_un (by omega), pk_un (by omega)] at h
    exact h
  have h3 := fcS_sd _ k n (frS_sd _ n k 10 _ h2)
  rw [cmS_6] at h3
  exact h3
theorem it_sd {s : Nat → Int32} {nt n k : Nat} : ∀ i, sd (itS s nt n i) k = true → sd s k = true := by
  intro i
  induction i with
  | zero => intro h; exact h
  | succ i ih => intro h; exact ih (day_sd h)
theorem stN_mono {s s' : Nat → Int32} (h : ∀ k, sd s' k = true → sd s k = true) : ∀ n, stN s' n ≤ stN s n := by
  intro n
  induction n with
  | zero => exact Nat.le_refl _
  | succ n ih =>
    rw [stN, stN]
    by_cases h1 : sd s' n = true
    · rw [if_pos h1, if_pos (h n h1)]; omega
    · rw [if_neg h1]; split <;> omega
theorem stN_same {s s' : Nat → Int32} (h : ∀ k, sd s' k = true → sd s k = true) : ∀ n, stN s' n = stN s n → ∀ k, k < n → sd s' k = sd s k := by
  intro n
  induction n with
  | zero => intro _ k hk; omega
  | succ n ih =>
    intro e k hk
    rw [stN, stN] at e
    have m := stN_mono h n
    have e2 : stN s' n = stN s n ∧ sd s' n = sd s n := by
      cases h1 : sd s' n with
      | true =>
        rw [h1, h n h1] at e
        exact ⟨by simpa using e, (h n h1).symm⟩
      | false =>
        rw [h1] at e
        cases h2 : sd s n with
        | true => rw [h2] at e; simp at e; omega
        | false => rw [h2] at e; exact ⟨by simpa using e, rfl⟩
    by_cases hk2 : k = n
    · subst hk2; exact e2.2
    · exact ih e2.1 k (by omega)
theorem it_cnt (s : Nat → Int32) (nt n i : Nat) (hn : n ≤ 9) : cntS (itS s nt n i) n ≤ cntS s n := by
  rw [cnt_st _ n hn, cnt_st _ n hn]
  exact stN_mono (fun k h => it_sd i h) n
/-- what the first fall answers: the day, and the street of that day; or no fall -/
def FfP (s : Nat → Int32) (nt n m : Nat) (z : Int32) (s' : Nat → Int32) : Prop := (∃ i, 1 ≤ i ∧ i ≤ m ∧ z = nI i ∧ cntS (itS s nt n i) n < cntS s n ∧ (∀ j, j < i → cntS (itS s nt n j) n = cntS s n) ∧ s' = itS s nt n i) ∨ (z = nI 0 ∧ ∀ j, j ≤ m → cntS (itS s nt n j) n = cntS s n)
theorem ff_L {ε : Ev} {c n nt m : Nat} {σ : Sg} {s : Nat → Int32} (hc : c < 900) (hn9 : n ≤ 9) (hm : m ≤ 1000) : ∀ (f i : Nat) (τ : Sg), i ≤ m → m + 1 ≤ i + f → Fr c σ τ → StO ε τ c (itS s nt n i) nt n → (∀ j, j ≤ i → cntS (itS s nt n j) n = cntS s n) → ∃ z τ' s', fn_X4_firstFall_L7 ε c (nI m) (fn_X4_firstFall_L41 ε c (nI m)) f (nI (cntS s n)) (nI (i + 1)) τ = some (z, τ') ∧ Fr c σ τ' ∧ StO ε τ' c s' nt n ∧ FfP s nt n m z s' := by
  have hcn : cntS s n ≤ 9 := by rw [cnt_st s n hn9]; exact Nat.le_trans (stN_le s n) hn9
  intro f
  induction f with
  | zero => intro i τ h1 h2; omega
  | succ f ih =>
    intro i τ h1 h2 hf hS hcs
    simp (disch := omega) only [fn_X4_firstFall_L7, nI_ltI, nI_add]
    by_cases hi : m < i + 1
    · rw [if_pos hi]
      exact ⟨nI 0, τ, _, rfl, hf, hS, Or.inr ⟨rfl, fun j hj => hcs j (by omega)⟩⟩
    · rw [if_neg hi]
      obtain ⟨τ1, e1, f1, S1⟩ := dayO hc hS
      have hle : cntS (dayS (itS s nt n i) nt n) n ≤ cntS s n := it_cnt s nt n (i + 1) hn9
      rw [e1, ob_s, many_eq S1.1, ob_s]
      by_cases hlt : cntS s n ≤ cntS (dayS (itS s nt n i) nt n) n
      · rw [if_pos (nI_le hlt (by omega))]
        have hcs2 : ∀ j, j ≤ i + 1 → cntS (itS s nt n j) n = cntS s n := by
          intro j hj
          by_cases e : j = i + 1
          · subst e; exact Nat.le_antisymm hle hlt
          · exact hcs j (by omega)
        cases hd : dyB (itS s nt n i) nt n with
        | true =>
          rw [if_neg (by decide)]
          exact ih (i + 1) τ1 (by omega) (by omega) (hf.tr f1) S1 hcs2
        | false =>
          rw [if_pos (by decide)]
          refine ⟨nI 0, τ1, _, rfl, hf.tr f1, S1, Or.inr ⟨rfl, fun j hj => ?_⟩⟩
          by_cases hji : j ≤ i + 1
          · exact hcs2 j hji
          · rw [show j = i + (j - i) by omega, itS_add, it_q hd, cnt_st _ n hn9, ← hcs i (Nat.le_refl i), cnt_st _ n hn9]
            have e : ∀ k, sd (reN (itS s nt n i) n (j - i)) k = sd (itS s nt n i) k := fun k => sd_c (reN_hi _ n _) k
            exact Nat.le_antisymm (stN_mono (fun k h => by rw [← e]; exact h) n) (stN_mono (fun k h => by rw [e]; exact h) n)
      · rw [if_neg (nI_ge (by omega) (by omega))]
        exact ⟨nI (i + 1), τ1, _, rfl, hf.tr f1, S1, Or.inl ⟨i + 1, by omega, by omega, rfl, Nat.not_le.mp hlt, fun j hj => hcs j (by omega), rfl⟩⟩
theorem ff_eq {ε : Ev} {c n nt m : Nat} {σ : Sg} {s : Nat → Int32} (hc : c < 900) (hm : m ≤ 1000) (h : StO ε σ c s nt n) : ∃ z σ' s', fn_X4_firstFall ε c (nI m) σ = some (z, σ') ∧ Fr c σ σ' ∧ StO ε σ' c s' nt n ∧ FfP s nt n m z s' := by
  have hn9 := h.1.1
  rw [fn_X4_firstFall, many_eq h.1, ob_s]
  exact ff_L (σ := σ) hc hn9 hm 4000 0 σ (by omega) (by omega) (Fr.rf c σ) h (fun j hj => by rw [show j = 0 by omega]; rfl)
/-- no fall: the same stand behind so many days -/
theorem ff_keep {s : Nat → Int32} {nt n m : Nat} (hn : n ≤ 9) : (∀ j, j ≤ m → cntS (itS s nt n j) n = cntS s n) ↔ maskI (sd (itS s nt n m)) n = maskI (sd s) n := by
  constructor
  · intro h
    have e := h m (Nat.le_refl m)
    rw [cnt_st _ n hn, cnt_st _ n hn] at e
    have q := stN_same (fun k h => it_sd m h) n e
    rw [mask_nI _ n (by omega), mask_nI _ n (by omega)]
    congr 1
    apply Nat.eq_of_testBit_eq
    intro i
    rw [maskN_bit, maskN_bit]
    by_cases hi : i < n
    · rw [q i hi]
    · rw [decide_eq_false hi, Bool.false_and, Bool.false_and]
  · intro h j hj
    have l1 : maskN (sd (itS s nt n m)) n < 2 ^ 9 := Nat.lt_of_lt_of_le (maskN_lt _ _) (Nat.pow_le_pow_right (by decide) hn)
    have l2 : maskN (sd s) n < 2 ^ 9 := Nat.lt_of_lt_of_le (maskN_lt _ _) (Nat.pow_le_pow_right (by decide) hn)
    rw [mask_nI _ n (by omega), mask_nI _ n (by omega)] at h
    have e : maskN (sd (itS s nt n m)) n = maskN (sd s) n := (nI_eq (by omega) (by omega)).mp h
    have hm2 : cntS (itS s nt n m) n = cntS s n := by unfold cntS; rw [e]
    have a1 := it_cnt s nt n j hn
    have a2 := it_cnt (itS s nt n j) nt n (m - j) hn
    rw [← itS_add, show j + (m - j) = m by omega] at a2
    omega
