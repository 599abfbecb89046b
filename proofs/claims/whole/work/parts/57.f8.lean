/-! ===== a day in the class: cracks and moves ===== -/
theorem sr_upd {σ : Sg} {c n i w : Nat} {s : Nat → Int32} {z : Int32} (h : SR σ c s n) (hi : i < n) (hw : w < 6) : SR (pI σ (c + 7 + i) w z) c (upd s (6 + 7 * i + w) z) n := by
  obtain ⟨a1, a2, a3, a4, a5, a6, a7, a8⟩ := h
  have hc : (pI σ (c + 7 + i) w z).1 c = σ.1 c := pI_nc (by omega)
  refine ⟨a1, by rw [pk_un (by omega)]; exact a2, by rw [hc]; exact a3, by rw [hc, pk_un (by omega)]; exact a4, by rw [hc, pk_un (by omega)]; exact a5, by rw [hc, pk_un (by omega)]; exact a6, by rw [hc, pk_un (by omega)]; exact a7, fun k hk => ?_⟩
  obtain ⟨b1, b2, b3⟩ := a8 k hk
  by_cases e : k = i
  · subst e
    refine ⟨fun w' hw' => ?_, ?_, ?_⟩
    · by_cases ew : w' = w
      · subst ew; rw [pI_e, pk_us]
      · rw [pI_n (Or.inr ew), pk_un (by omega)]; exact b1 w' hw'
    · rw [pI_n (Or.inr (by omega)), pk_un (by omega)]; exact b2
    · rw [pk_un (by omega)]; exact b3
  · refine ⟨fun w' hw' => ?_, ?_, ?_⟩
    · rw [pI_nc (by omega), pk_un (by omega)]; exact b1 w' hw'
    · rw [pI_nc (by omega), pk_un (by omega)]; exact b2
    · rw [pk_un (by omega)]; exact b3
theorem sr_fall {σ : Sg} {c n i : Nat} {s : Nat → Int32} (h : SR σ c s n) (hi : i < n) : SR (pI (pI σ (c + 7 + i) 6 (nI 0)) (c + 7 + i) 5 (nI 0)) c (fallS s i) n := by
  refine sr_upd (s := upd s (6 + 7 * i + 6) (nI 1)) ?_ hi (by decide)
  obtain ⟨a1, a2, a3, a4, a5, a6, a7, a8⟩ := h
  have hc : (pI σ (c + 7 + i) 6 (nI 0)).1 c = σ.1 c := pI_nc (by omega)
  refine ⟨a1, by rw [pk_un (by omega)]; exact a2, by rw [hc]; exact a3, by rw [hc, pk_un (by omega)]; exact a4, by rw [hc, pk_un (by omega)]; exact a5, by rw [hc, pk_un (by omega)]; exact a6, by rw [hc, pk_un (by omega)]; exact a7, fun k hk => ?_⟩
  obtain ⟨b1, b2, b3⟩ := a8 k hk
  by_cases e : k = i
  · subst e
    refine ⟨fun w' hw' => ?_, ?_, ?_⟩
    · rw [pI_n (Or.inr (by omega)), pk_un (by omega)]; exact b1 w' hw'
    · rw [pI_e, pk_us, if_neg (by decide)]
    · rw [pk_us]; exact Or.inr rfl
  · refine ⟨fun w' hw' => ?_, ?_, ?_⟩
    · rw [pI_nc (by omega), pk_un (by omega)]; exact b1 w' hw'
    · rw [pI_nc (by omega), pk_un (by omega)]; exact b2
    · rw [pk_un (by omega)]; exact b3
/-- only houses and the scratch of texts have changed -/
def Fh (c : Nat) (σ σ' : Sg) : Prop := (∀ x, (x < c + 7 ∨ c + 16 ≤ x) → (x < 1000 ∨ x % 3 ≠ 0) → σ'.1 x = σ.1 x) ∧ σ'.2 = σ.2
theorem Fh.rf (c : Nat) (σ : Sg) : Fh c σ σ := ⟨fun _ _ _ => rfl, rfl⟩
theorem Fh.tr {c : Nat} {σ τ ρ : Sg} (h : Fh c σ τ) (h2 : Fh c τ ρ) : Fh c σ ρ := ⟨fun x a b => (h2.1 x a b).trans (h.1 x a b), h2.2.trans h.2⟩
theorem fh_pI {c i k : Nat} {σ : Sg} {z : Int32} (hi : i < 9) : Fh c σ (pI σ (c + 7 + i) k z) := ⟨fun y a _ => pI_nc (by omega), rfl⟩
theorem Fh.fr {c : Nat} {σ τ : Sg} (h : Fh c σ τ) : Fr c σ τ := ⟨fun x a b => h.1 x (by omega) b, h.2⟩
theorem tooMuch_eq {ε : Ev} {c n i : Nat} {σ : Sg} {s : Nat → Int32} {th : Int32} (h : SR σ c s n) (hi : i < n) (ht : σ.1 (c + 4) i = th) : fn_X4_tooMuch ε c (nI i) σ = some (if sd s i then offI th (nI 0) - brs s i else nI 0, σ) := by
  have hn9 := h.1
  have hr := h.2.2.2.2.2.2.2 i hi
  have hst := hR_st hr
  simp (disch := omega) only [fn_X4_tooMuch, fn_X4_tooMuch_L35, nI_clamp, nI_lt0, false_or, bearing_eq hr, ob_s, ht, ab_off]
  rw [if_pos (by omega)]
  by_cases hs : sd s i = true
  · rw [if_neg (by rw [hst, hs]; decide), if_pos hs]
  · have hs : sd s i = false := Bool.eq_false_iff.mpr hs
    rw [if_pos (by rw [hst, hs]), if_neg (by rw [hs]; decide)]
theorem cmS_6 (t b s : Nat → Int32) (k : Nat) : ∀ i, sd (cmS t b s i) k = sd s k := by
  intro i
  induction i with
  | zero => rfl
  | succ i ih =>
    unfold sd at ih ⊢
    rw [cmS, cm1]
    split
    · rw [pk_un (by omega), pk_un (by omega)]; exact ih
    · exact ih
theorem cmS_w (t b s : Nat → Int32) (k w : Nat) (hw : w < 7) (h2 : w ≠ 2) (h4 : w ≠ 4) : ∀ i, cmS t b s i (6 + 7 * k + w) = s (6 + 7 * k + w) := by
  intro i
  induction i with
  | zero => rfl
  | succ i ih =>
    rw [cmS, cm1]
    split
    · rw [pk_un (by omega), pk_un (by omega)]; exact ih
    · exact ih
theorem cmS_ge (t b s : Nat → Int32) (k w : Nat) (hw : w < 7) : ∀ i, i ≤ k → cmS t b s i (6 + 7 * k + w) = s (6 + 7 * k + w) := by
  intro i
  induction i with
  | zero => intro _; rfl
  | succ i ih =>
    intro hi
    rw [cmS, cm1]
    split
    · rw [pk_un (by omega), pk_un (by omega)]; exact ih (by omega)
    · exact ih (by omega)
theorem brs_cm (t b s : Nat → Int32) (k i : Nat) : brs (cmS t b s i) k = brs s k := by
  unfold brs
  rw [cmS_w t b s k 0 (by omega) (by omega) (by omega), cmS_w t b s k 3 (by omega) (by omega) (by omega), cmS_w t b s k 5 (by omega) (by omega) (by omega)]
/-- whether one of the first i houses moved -/
def mvB (t b s : Nat → Int32) : Nat → Bool
  | 0 => false
  | k + 1 => mvB t b s k || (sd s k && !decide (offI (t k) (nI 0) - b k ≤ 0))
theorem tab_M4 : tabMOST (nI 4).toNatClampNeg = nI 999 := by decide
theorem tab_M2 : tabMOST (nI 2).toNatClampNeg = nI 50 := by decide
theorem tab_L2 : tabLEAST (nI 2).toNatClampNeg = -50 := by decide
theorem in_4 : ¬ (nI 4 < 0 ∨ 6 ≤ (nI 4).toNatClampNeg) := by decide
theorem in_2 : ¬ (nI 2 < 0 ∨ 6 ≤ (nI 2).toNatClampNeg) := by decide
theorem mn_999 {z : Int32} (h : ¬ z < 0) : mnI (nI 999) z = heldI z (nI 0) (nI 999) := by
  unfold mnI heldI
  rw [if_neg (show ¬ z < nI 0 from h)]
  by_cases h1 : z < nI 999
  · rw [if_pos h1, if_neg (Int32.not_lt.mpr (Int32.le_of_lt h1))]
  · rw [if_neg h1]
    by_cases h3 : nI 999 < z
    · rw [if_pos h3]
    · rw [if_neg h3]; exact Int32.le_antisymm (Int32.not_lt.mp h1) (Int32.not_lt.mp h3)
theorem mx_50 (z : Int32) : mxI (-50) (mnI (nI 50) z) = heldI z (-50) (nI 50) := by
  unfold mxI mnI heldI
  by_cases h1 : z < nI 50
  · rw [if_pos h1]
    by_cases h2 : z < -50
    · rw [if_pos h2, if_neg (Int32.not_lt.mpr (Int32.le_of_lt h2))]
    · rw [if_neg h2, if_neg (Int32.not_lt.mpr (Int32.le_of_lt h1))]
      by_cases h3 : -50 < z
      · rw [if_pos h3]
      · rw [if_neg h3]; exact Int32.le_antisymm (Int32.not_lt.mp h2) (Int32.not_lt.mp h3)
  · rw [if_neg h1, if_neg (fun h => h1 (Int32.lt_trans h (by decide))), if_pos (by decide)]
    by_cases h3 : nI 50 < z
    · rw [if_pos h3]
    · rw [if_neg h3]; exact Int32.le_antisymm (Int32.not_lt.mp h1) (Int32.not_lt.mp h3)
theorem crack_L {ε : Ev} {c n : Nat} {σ : Sg} {s t : Nat → Int32} (hc : c < 900) (h : SR σ c s n) (ht : ∀ k, k < n → σ.1 (c + 4) k = t k) (hov : ∀ k, k < n → ¬ s (6 + 7 * k + 4) + (offI (t k) (nI 0) - brs s k) < 0 ∨ offI (t k) (nI 0) - brs s k ≤ 0) (k103 : Int32 → Sg → Option (Int32 × Sg)) : ∀ (f i : Nat) (τ : Sg), i ≤ n → n + 1 ≤ i + f → Fh c σ τ → SR τ c (cmS t (brs s) s i) n → ∃ τ', fn_X4_crackAndMove_L4 ε c k103 f (bI (mvB t (brs s) s i)) (nI i) τ = k103 (bI (mvB t (brs s) s n)) τ' ∧ Fh c σ τ' ∧ SR τ' c (cmS t (brs s) s n) n := by
  have hn9 := h.1
  intro f
  induction f with
  | zero => intro i τ h1 h2; omega
  | succ f ih =>
    intro i τ h1 h2 hf hS
    have hm : τ.1 c 6 = nI n := hS.2.2.1
    by_cases hi : n ≤ i
    · have e : i = n := by omega
      subst e
      refine ⟨τ, ?_, hf, hS⟩
      simp (disch := omega) only [fn_X4_crackAndMove_L4, hm, nI_leI]
      rw [if_pos (Nat.le_refl _)]
    · have e4 : τ.1 (c + 4) i = t i := by rw [hf.1 _ (by omega) (by omega)]; exact ht i (by omega)
      have hr := hS.2.2.2.2.2.2.2 i (by omega)
      have r4 := hr.1 4 (by decide)
      have r2 := hr.1 2 (by decide)
      rw [cmS_ge t (brs s) s i 4 (by omega) i (by omega)] at r4
      rw [cmS_ge t (brs s) s i 2 (by omega) i (by omega)] at r2
      have c4 : ∀ z, (pI τ (c + 7 + i) 4 z).1 (c + 4) i = t i := fun z => by rw [pI_nc (by omega)]; exact e4
      have c2 : ∀ z, (pI τ (c + 7 + i) 4 z).1 (c + 7 + i) 2 = s (6 + 7 * i + 2) := fun z => by rw [pI_n (Or.inr (by decide))]; exact r2
      simp (disch := omega) only [fn_X4_crackAndMove_L4, fn_X4_crackAndMove_L97, fn_X4_crackAndMove_L69, hm, nI_leI, tooMuch_eq hS (show i < n by omega) e4, ob_s, cmS_6, brs_cm, nI_clamp, nI_lt0, false_or, nI_add, c4, c2, r4]
      rw [if_neg hi]
      have e5 : mvB t (brs s) s (i + 1) = (mvB t (brs s) s i || (sd s i && !decide (offI (t i) (nI 0) - brs s i ≤ 0))) := rfl
      have eC : cmS t (brs s) s (i + 1) = cm1 (t i) (brs s i) (cmS t (brs s) s i) i := rfl
      by_cases hs : sd s i = true
      · simp only [if_pos hs]
        by_cases hle : offI (t i) (nI 0) - brs s i ≤ 0
        · rw [if_pos hle]
          have K := ih (i + 1) τ (by omega) (by omega) hf (by rw [eC, cm1, if_neg (fun q => q.2 hle)]; exact hS)
          rw [e5, hs, decide_eq_true hle, Bool.true_and, Bool.not_true, Bool.or_false] at K
          exact K
        · rw [if_neg hle, if_pos (by omega)]
          have hnn : ¬ s (6 + 7 * i + 4) + (offI (t i) (nI 0) - brs s i) < 0 := by
            rcases hov i (by omega) with q | q
            · exact q
            · exact absurd q hle
          have fin : ∀ d : Int32, (if t i ≤ 0 then -1 else nI 1) = d → ∃ τ', fn_X4_crackAndMove_L4 ε c k103 f (nI 1) (nI (i + 1)) (pI (pI τ (c + 7 + i) 4 (mnI (tabMOST 4) (s (6 + 7 * i + 4) + (offI (t i) (nI 0) - brs s i)))) (c + 7 + i) 2 (mxI (tabLEAST 2) (mnI (tabMOST 2) (s (6 + 7 * i + 2) + d)))) = k103 (bI (mvB t (brs s) s n)) τ' ∧ Fh c σ τ' ∧ SR τ' c (cmS t (brs s) s n) n := by
            intro d hd
            rw [show tabMOST 4 = nI 999 from rfl, show tabMOST 2 = nI 50 from rfl, show tabLEAST 2 = -50 from rfl, mn_999 hnn, mx_50]
            have K := ih (i + 1) (pI (pI τ (c + 7 + i) 4 (heldI (s (6 + 7 * i + 4) + (offI (t i) (nI 0) - brs s i)) (nI 0) (nI 999))) (c + 7 + i) 2 (heldI (s (6 + 7 * i + 2) + d) (-50) (nI 50))) (by omega) (by omega) (hf.tr ((fh_pI (by omega)).tr (fh_pI (by omega)))) (by
              rw [eC, cm1, if_pos ⟨by rw [cmS_6]; exact hs, hle⟩, cmS_ge t (brs s) s i 4 (by omega) i (by omega), cmS_ge t (brs s) s i 2 (by omega) i (by omega), hd]
              exact sr_upd (sr_upd hS (by omega) (by decide)) (by omega) (by decide))
            rw [e5, hs, decide_eq_false hle, Bool.true_and, Bool.not_false, Bool.or_true, show bI true = nI 1 from rfl] at K
            exact K
          rw [if_pos (by decide)]
          by_cases hti : t i ≤ 0
          · rw [if_pos hti, if_pos (by decide)]
            exact fin _ (if_pos hti)
          · rw [if_neg hti, if_pos (by decide)]
            exact fin _ (if_neg hti)
      · have hs : sd s i = false := Bool.eq_false_iff.mpr hs
        simp only [hs, Bool.false_eq_true, if_false]
        rw [if_pos (by decide)]
        have K := ih (i + 1) τ (by omega) (by omega) hf (by rw [eC, cm1, if_neg (fun q => by have := q.1; rw [cmS_6, hs] at this; cases this)]; exact hS)
        rw [e5, hs, Bool.false_and, Bool.or_false] at K
        exact K
theorem crack_eq {ε : Ev} {c n : Nat} {σ : Sg} {s t : Nat → Int32} (hc : c < 900) (h : SR σ c s n) (ht : ∀ k, k < n → σ.1 (c + 4) k = t k) (hov : ∀ k, k < n → ¬ s (6 + 7 * k + 4) + (offI (t k) (nI 0) - brs s k) < 0 ∨ offI (t k) (nI 0) - brs s k ≤ 0) : ∃ σ', fn_X4_crackAndMove ε c σ = some (bI (mvB t (brs s) s n), σ') ∧ Fh c σ σ' ∧ SR σ' c (cmS t (brs s) s n) n := by
  have hn9 := h.1
  obtain ⟨τ, e, f, g⟩ := crack_L hc h ht hov (fn_X4_crackAndMove_L103 ε c) 4000 0 σ (by omega) (by omega) (Fh.rf c σ) h
  refine ⟨τ, ?_, f, g⟩
  rw [fn_X4_crackAndMove]
  refine e.trans ?_
  rw [fn_X4_crackAndMove_L103]
  cases mvB t (brs s) s n <;> rfl
/-! ===== falls by cracks ===== -/
def fcB (s : Nat → Int32) : Nat → Bool
  | 0 => false
  | k + 1 => fcB s k || (sd (fcS s k) k && decide (nI 100 ≤ fcS s k (6 + 7 * k + 4)))
theorem fcr_L {ε : Ev} {c n : Nat} {σ : Sg} {s : Nat → Int32} (h : SR σ c s n) (k55 : Int32 → Sg → Option (Int32 × Sg)) : ∀ (f i : Nat) (τ : Sg), i ≤ n → n + 1 ≤ i + f → Fh c σ τ → SR τ c (fcS s i) n → ∃ τ', fn_X4_fallByCracks_L4 ε c k55 f (bI (fcB s i)) (nI i) τ = k55 (bI (fcB s n)) τ' ∧ Fh c σ τ' ∧ SR τ' c (fcS s n) n := by
  have hn9 := h.1
  intro f
  induction f with
  | zero => intro i τ h1 h2; omega
  | succ f ih =>
    intro i τ h1 h2 hf hS
    have hm : τ.1 c 6 = nI n := hS.2.2.1
    by_cases hi : n ≤ i
    · have e : i = n := by omega
      subst e
      refine ⟨τ, ?_, hf, hS⟩
      simp (disch := omega) only [fn_X4_fallByCracks_L4, hm, nI_leI]
      rw [if_pos (Nat.le_refl _)]
    · have hr := hS.2.2.2.2.2.2.2 i (by omega)
      have r4 := hr.1 4 (by decide)
      have hst := hR_st hr
      have e5 : fcB s (i + 1) = (fcB s i || (sd (fcS s i) i && decide (nI 100 ≤ fcS s i (6 + 7 * i + 4)))) := rfl
      have eC : fcS s (i + 1) = fc1 (fcS s i) i := rfl
      simp (disch := omega) only [fn_X4_fallByCracks_L4, fn_X4_fallByCracks_L49, fn_X0_fall, hm, nI_leI, ob_s, nI_clamp, nI_lt0, false_or, nI_add, r4]
      rw [if_neg hi, if_pos (by omega)]
      by_cases hs : sd (fcS s i) i = true
      · rw [if_neg (by rw [hst, hs]; decide)]
        by_cases h100 : fcS s i (6 + 7 * i + 4) < nI 100
        · rw [if_pos h100]
          have hn : ¬ nI 100 ≤ fcS s i (6 + 7 * i + 4) := Int32.not_le.mpr h100
          have K := ih (i + 1) τ (by omega) (by omega) hf (by rw [eC, fc1, if_neg (fun q => hn q.2)]; exact hS)
          rw [e5, hs, decide_eq_false hn, Bool.true_and, Bool.or_false] at K
          exact K
        · rw [if_neg h100]
          have hn : nI 100 ≤ fcS s i (6 + 7 * i + 4) := Int32.not_lt.mp h100
          have K := ih (i + 1) (pI (pI τ (c + 7 + i) 6 (nI 0)) (c + 7 + i) 5 (nI 0)) (by omega) (by omega) (hf.tr ((fh_pI (by omega)).tr (fh_pI (by omega)))) (by rw [eC, fc1, if_pos ⟨hs, hn⟩]; exact sr_fall hS (by omega))
          rw [e5, hs, decide_eq_true hn, Bool.true_and, Bool.or_true, show bI true = nI 1 from rfl] at K
          exact K
      · have hs : sd (fcS s i) i = false := Bool.eq_false_iff.mpr hs
        rw [if_pos (by rw [hst, hs])]
        have K := ih (i + 1) τ (by omega) (by omega) hf (by rw [eC, fc1, if_neg (fun q => by have := q.1; rw [hs] at this; cases this)]; exact hS)
        rw [e5, hs, Bool.false_and, Bool.or_false] at K
        exact K
theorem fcr_eq {ε : Ev} {c n : Nat} {σ : Sg} {s : Nat → Int32} (h : SR σ c s n) : ∃ σ', fn_X4_fallByCracks ε c σ = some (bI (fcB s n), σ') ∧ Fh c σ σ' ∧ SR σ' c (fcS s n) n := by
  have hn9 := h.1
  obtain ⟨τ, e, f, g⟩ := fcr_L (ε := ε) h (fn_X4_fallByCracks_L55 ε c) 4000 0 σ (by omega) (by omega) (Fh.rf c σ) h
  refine ⟨τ, ?_, f, g⟩
  rw [fn_X4_fallByCracks]
  refine e.trans ?_
  rw [fn_X4_fallByCracks_L55]
  cases fcB s n <;> rfl
