/-! ===== falls with the neighbours ===== -/
theorem nxR_lt2 {p : Nat → Bool} : ∀ {f o b : Nat}, nxR p f o = some b → o ≤ b ∧ b < o + f ∧ p b = true := by
  intro f
  induction f with
  | zero => intro o b h; cases h
  | succ f ih =>
    intro o b h
    rw [nxR] at h
    by_cases hp : p o = true
    · rw [if_pos hp] at h
      cases h
      exact ⟨Nat.le_refl _, by omega, hp⟩
    · rw [if_neg hp] at h
      obtain ⟨h1, h2, h3⟩ := ih h
      exact ⟨by omega, by omega, h3⟩
/-- lesser and greater, by those that stood -/
def NbI (σ : Sg) (c : Nat) (p0 : Nat → Bool) (n : Nat) : Prop := ∀ k, k < n → σ.1 (c + 5) k = optI (nxL p0 k) ∧ σ.1 (c + 6) k = (if p0 k then optI (nxR p0 (n - (k + 1)) (k + 1)) else -1)
theorem off_20 {z : Int32} (h1 : -50 ≤ z.toInt) (h2 : z.toInt ≤ 50) : (nI 20 ≤ offI z (nI 0)) = (z ≤ -20 ∨ nI 20 ≤ z) := by
  apply propext
  unfold offI
  have e20 : (nI 20).toInt = 20 := nI_toInt (by decide)
  have e0 : (nI 0).toInt = 0 := nI_toInt (by decide)
  have em : (-20 : Int32).toInt = -20 := by decide
  by_cases h : z < nI 0
  · rw [if_pos h]
    have hz := Int32.lt_iff_toInt_lt.mp h
    rw [Int32.le_iff_toInt_le, Int32.le_iff_toInt_le, Int32.le_iff_toInt_le, Int32.toInt_sub, e20, e0, em, Int.bmod_eq_of_le (by omega) (by omega)]
    omega
  · rw [if_neg h]
    have hz : ¬ z.toInt < (nI 0).toInt := fun q => h (Int32.lt_iff_toInt_lt.mpr q)
    rw [Int32.le_iff_toInt_le, Int32.le_iff_toInt_le, Int32.le_iff_toInt_le, Int32.toInt_sub, e20, e0, em, Int.bmod_eq_of_le (by omega) (by omega)]
    omega
def rsB (s : Nat → Int32) (o : Option Nat) : Bool := match o with
  | none => false
  | some b => !(sd s b)
theorem rest_L {ε : Ev} {c n : Nat} {σ : Sg} {s : Nat → Int32} (h : SR σ c s n) (z : Int32) (o : Option Nat) (ho : ∀ b, o = some b → b < n) : fn_X4_hasLostItsRest_L47 ε c z (optI o) σ = some (bI (rsB s o), σ) := by
  have hn9 := h.1
  cases o with
  | none =>
    rw [fn_X4_hasLostItsRest_L47, show optI (none : Option Nat) = -1 from rfl, if_pos (by decide), fn_X4_hasLostItsRest_L68, fn_X4_hasLostItsRest_L69, if_pos (by decide)]
    rfl
  | some b =>
    have hb := ho b rfl
    have hst := hR_st (h.2.2.2.2.2.2.2 b hb)
    simp (disch := omega) only [fn_X4_hasLostItsRest_L47, fn_X4_hasLostItsRest_L68, fn_X4_hasLostItsRest_L69, optI, nI_clamp, nI_lt0, false_or]
    rw [if_neg (by decide), if_pos (by omega)]
    by_cases hs : sd s b = true
    · rw [if_neg (by rw [hst, hs]; decide), if_pos (by decide), rsB, hs]
      rfl
    · have hs : sd s b = false := Bool.eq_false_iff.mpr hs
      rw [if_pos (by rw [hst, hs]), if_pos (by decide), rsB, hs]
      rfl
theorem lost_eq {ε : Ev} {c n k : Nat} {σ : Sg} {s : Nat → Int32} {p0 : Nat → Bool} (h : SR σ c s n) (hk : k < n) (hN : NbI σ c p0 n) (hp : p0 k = true) (hl1 : -50 ≤ (s (6 + 7 * k + 2)).toInt) (hl2 : (s (6 + 7 * k + 2)).toInt ≤ 50) : fn_X4_hasLostItsRest ε c (nI k) σ = some (bI (fwB p0 s n k), σ) := by
  have hn9 := h.1
  have r2 := (h.2.2.2.2.2.2.2 k hk).1 2 (by decide)
  obtain ⟨n1, n2⟩ := hN k hk
  rw [if_pos hp] at n2
  simp (disch := omega) only [fn_X4_hasLostItsRest, nI_clamp, nI_lt0, false_or, r2, n1, n2, fwB, off_20 hl1 hl2]
  rw [if_pos (by omega)]
  generalize s (6 + 7 * k + 2) = z at hl1 hl2 ⊢
  have e20 : (nI 20).toInt = 20 := nI_toInt (by decide)
  have em : (-20 : Int32).toInt = -20 := by decide
  by_cases h20 : z < nI 20
  · rw [if_pos h20]
    have q20 := Int32.lt_iff_toInt_lt.mp h20
    by_cases hm : -20 < z
    · have qm := Int32.lt_iff_toInt_lt.mp hm
      rw [if_pos hm, show ((-1) : Int32) = optI none from rfl, rest_L h _ none (fun b e => by cases e), if_neg (by
        rw [Int32.le_iff_toInt_le, Int32.le_iff_toInt_le]; omega)]
      rfl
    · have qm : z ≤ -20 := Int32.not_lt.mp hm
      have qz : z ≤ 0 := Int32.le_trans qm (by decide)
      rw [if_neg hm, rest_L h _ _ (fun b e => by have := nxL_some e; omega), if_pos (Or.inl qm), if_pos qz]
      rfl
  · have q20 : nI 20 ≤ z := Int32.not_lt.mp h20
    have qz : ¬ z ≤ 0 := fun q => h20 (Int32.lt_of_le_of_lt q (by decide))
    rw [if_neg h20, rest_L h _ _ (fun b e => by have := nxR_lt2 e; omega), if_pos (Or.inr q20), if_neg qz]
    rfl
theorem fall_2 (s : Nat → Int32) (i k : Nat) : fallS s i (6 + 7 * k + 2) = s (6 + 7 * k + 2) := by rw [fallS, pk_un (by omega), pk_un (by omega)]
theorem fall_sd (s : Nat → Int32) (i k : Nat) : sd (fallS s i) k = (if k = i then false else sd s k) := by
  unfold sd fallS
  by_cases e : k = i
  · subst e; rw [pk_un (by omega), pk_us, if_pos rfl]; decide
  · rw [pk_un (by omega), pk_un (by omega), if_neg e]
theorem fnS_2 (p0 : Nat → Bool) (n : Nat) (s : Nat → Int32) (k : Nat) : ∀ i, (fnS p0 n s i).1 (6 + 7 * k + 2) = s (6 + 7 * k + 2) := by
  intro i
  induction i with
  | zero => rfl
  | succ i ih =>
    rw [fnS]
    split
    · exact (fall_2 _ i k).trans ih
    · exact ih
theorem fnS_sd2 (p0 : Nat → Bool) (n : Nat) (s : Nat → Int32) (k : Nat) : ∀ i, sd (fnS p0 n s i).1 k = true → sd s k = true := by
  intro i
  induction i with
  | zero => intro h; exact h
  | succ i ih =>
    intro h
    rw [fnS] at h
    split at h
    · have h : sd (fallS (fnS p0 n s i).1 i) k = true := h
      rw [fall_sd] at h
      split at h
      · cases h
      · exact ih h
    · exact ih h
theorem fn_L {ε : Ev} {c n : Nat} {σ : Sg} {s : Nat → Int32} {p0 : Nat → Bool} (hc : c < 900) (h : SR σ c s n) (hN : NbI σ c p0 n) (hp : ∀ k, k < n → sd s k = true → p0 k = true) (hl : ∀ k, k < n → -50 ≤ (s (6 + 7 * k + 2)).toInt ∧ (s (6 + 7 * k + 2)).toInt ≤ 50) (v2 : Int32) (k63 : Int32 → Int32 → Sg → Option (Unit × Sg)) : ∀ (f i : Nat) (τ : Sg), i ≤ n → n + 1 ≤ i + f → Fh c σ τ → SR τ c (fnS p0 n s i).1 n → ∃ τ', fn_X4_fallByNeighbours_L18 ε c k63 f (bI (fnS p0 n s i).2) v2 (nI i) τ = k63 (bI (fnS p0 n s n).2) v2 τ' ∧ Fh c σ τ' ∧ SR τ' c (fnS p0 n s n).1 n := by
  have hn9 := h.1
  intro f
  induction f with
  | zero => intro i τ h1 h2; omega
  | succ f ih =>
    intro i τ h1 h2 hf hS
    have hm : τ.1 c 6 = nI n := hS.2.2.1
    by_cases hi : n ≤ i
    · have e : i = n := by omega
      subst e
      refine ⟨τ, ?_, hf, hS⟩
      simp (disch := omega) only [fn_X4_fallByNeighbours_L18, hm, nI_leI]
      rw [if_pos (Nat.le_refl _)]
    · have hr := hS.2.2.2.2.2.2.2 i (by omega)
      have hst := hR_st hr
      have hN' : NbI τ c p0 n := fun k hk => by rw [hf.1 (c + 5) (by omega) (by omega), hf.1 (c + 6) (by omega) (by omega)]; exact hN k hk
      have eC : fnS p0 n s (i + 1) = if fnB p0 (fnS p0 n s i).1 n i then (fallS (fnS p0 n s i).1 i, true) else fnS p0 n s i := rfl
      simp (disch := omega) only [fn_X4_fallByNeighbours_L18, fn_X4_fallByNeighbours_L57, hm, nI_leI, nI_clamp, nI_lt0, false_or, nI_add]
      rw [if_neg hi, if_pos (by omega)]
      by_cases hs : sd (fnS p0 n s i).1 i = true
      · rw [if_neg (by rw [hst, hs]; decide)]
        have hl' := hl i (by omega)
        rw [lost_eq hS (by omega) hN' (hp i (by omega) (fnS_sd2 p0 n s i i hs)) (by rw [fnS_2]; exact hl'.1) (by rw [fnS_2]; exact hl'.2), ob_s]
        by_cases hw : fwB p0 (fnS p0 n s i).1 n i = true
        · rw [hw, if_neg (by decide), fn_X0_fall, ob_s]
          have K := ih (i + 1) (pI (pI τ (c + 7 + i) 6 (nI 0)) (c + 7 + i) 5 (nI 0)) (by omega) (by omega) (hf.tr ((fh_pI (by omega)).tr (fh_pI (by omega)))) (by rw [eC, if_pos (by rw [fnB, hs, hw]; rfl)]; exact sr_fall hS (by omega))
          rw [eC, if_pos (by rw [fnB, hs, hw]; rfl)] at K
          exact K
        · have hw : fwB p0 (fnS p0 n s i).1 n i = false := Bool.eq_false_iff.mpr hw
          rw [hw, if_pos (by decide)]
          have K := ih (i + 1) τ (by omega) (by omega) hf (by rw [eC, if_neg (by rw [fnB, hs, hw]; decide)]; exact hS)
          rw [eC, if_neg (by rw [fnB, hs, hw]; decide)] at K
          exact K
      · have hs : sd (fnS p0 n s i).1 i = false := Bool.eq_false_iff.mpr hs
        rw [if_pos (by rw [hst, hs])]
        have K := ih (i + 1) τ (by omega) (by omega) hf (by rw [eC, if_neg (by rw [fnB, hs, Bool.false_and]; decide)]; exact hS)
        rw [eC, if_neg (by rw [fnB, hs, Bool.false_and]; decide)] at K
        exact K
