/-- one leans on the next: what is written, scratch apart -/
theorem lean_eq {ε : Ev} {c a i nt : Nat} {σ : Sg} {s : Nat → Int32} (hc : c < 900) (ha : a < 9) (hi : i < 9) (hne : a ≠ i) (hra : hR σ c a s) (hri : hR σ c i s) (hba : sBd s a) (hbi : sBd s i) (ht : TR ε σ c s nt) (slf : Int32 → Int32 → Sg → Option (Unit × Sg)) (k147 : Sg → Option (Unit × Sg)) : ∃ σ', (if (pI σ (c + 6) a (nI i)).1 (c + 7 + a) 2 ≤ 0 then fn_X4_workOutThrusts_L102 ε c slf k147 (nI a) (nI i) (nI 0) ((pI σ (c + 6) a (nI i)).1 (c + 4) i) (nI i) (pI σ (c + 6) a (nI i)) else ob (fn_X4_pushOf ε c (c + 7 + a) (pI σ (c + 6) a (nI i))) (fun y τ => fn_X4_workOutThrusts_L102 ε c slf k147 (nI a) (nI i) y ((pI σ (c + 6) a (nI i)).1 (c + 4) i) (nI i) τ)) = slf (nI i) (nI (i + 1)) σ' ∧ Ft c σ σ' ∧ σ'.1 (c + 5) = σ.1 (c + 5) ∧ σ'.1 (c + 6) = upd (σ.1 (c + 6)) a (nI i) ∧
    σ'.1 (c + 4) = upd (upd (σ.1 (c + 4)) i (σ.1 (c + 4) i + (if s (6 + 7 * a + 2) ≤ 0 then nI 0 else puS s nt a))) a (σ.1 (c + 4) a - (if 0 ≤ s (6 + 7 * i + 2) then nI 0 else puS s nt i)) := by
  have f1 : Ft c σ (pI σ (c + 6) a (nI i)) := Ft.pI (by omega)
  have r2 : ∀ y : Nat, (pI σ (c + 6) a (nI i)).1 (c + 7 + y) = σ.1 (c + 7 + y) := fun y => pI_nc (by omega)
  have g4 : (pI σ (c + 6) a (nI i)).1 (c + 4) = σ.1 (c + 4) := pI_nc (by omega)
  have fin : ∀ (τ : Sg) (T : Nat → Int32) (y : Int32), Ft c σ τ → τ.1 (c + 5) = σ.1 (c + 5) → τ.1 (c + 6) = upd (σ.1 (c + 6)) a (nI i) → τ.1 (c + 4) = T → ∃ σ', fn_X4_workOutThrusts_L137 ε c slf k147 (nI i) y (σ.1 (c + 4) a) (nI a) τ = slf (nI i) (nI (i + 1)) σ' ∧ Ft c σ σ' ∧ σ'.1 (c + 5) = σ.1 (c + 5) ∧ σ'.1 (c + 6) = upd (σ.1 (c + 6)) a (nI i) ∧ σ'.1 (c + 4) = upd T a (σ.1 (c + 4) a - y) := by
    intro τ T y hf h5 h6 h4
    simp (disch := omega) only [fn_X4_workOutThrusts_L137, fn_X4_workOutThrusts_L139, fn_X4_workOutThrusts_L141, nI_clamp, nI_lt0, false_or, nI_add]
    rw [if_pos (by omega)]
    refine ⟨_, rfl, hf.tr (Ft.pI (by omega)), ?_, ?_, ?_⟩
    · rw [pI_nc (by omega), h5]
    · rw [pI_nc (by omega), h6]
    · rw [pI_s, h4]
  have step : ∀ (τ : Sg) (x : Int32), Ft c σ τ → τ.1 (c + 5) = σ.1 (c + 5) → τ.1 (c + 6) = upd (σ.1 (c + 6)) a (nI i) → τ.1 (c + 4) = σ.1 (c + 4) → ∃ σ', fn_X4_workOutThrusts_L102 ε c slf k147 (nI a) (nI i) x (σ.1 (c + 4) i) (nI i) τ = slf (nI i) (nI (i + 1)) σ' ∧ Ft c σ σ' ∧ σ'.1 (c + 5) = σ.1 (c + 5) ∧ σ'.1 (c + 6) = upd (σ.1 (c + 6)) a (nI i) ∧ σ'.1 (c + 4) = upd (upd (σ.1 (c + 4)) i (σ.1 (c + 4) i + x)) a (σ.1 (c + 4) a - (if 0 ≤ s (6 + 7 * i + 2) then nI 0 else puS s nt i)) := by
    intro τ x hf h5 h6 h4
    have hp : Ft c σ (pI τ (c + 4) i (σ.1 (c + 4) i + x)) := hf.tr (Ft.pI (by omega))
    have p5 : (pI τ (c + 4) i (σ.1 (c + 4) i + x)).1 (c + 5) = σ.1 (c + 5) := by rw [pI_nc (by omega), h5]
    have p6 : (pI τ (c + 4) i (σ.1 (c + 4) i + x)).1 (c + 6) = upd (σ.1 (c + 6)) a (nI i) := by rw [pI_nc (by omega), h6]
    have p4 : (pI τ (c + 4) i (σ.1 (c + 4) i + x)).1 (c + 4) = upd (σ.1 (c + 4)) i (σ.1 (c + 4) i + x) := by rw [pI_s, h4]
    have pa : upd (σ.1 (c + 4)) i (σ.1 (c + 4) i + x) a = σ.1 (c + 4) a := pk_un hne
    have hri' := hri.ft (by omega) hp
    have ht' := ht.ft hc hp
    simp (disch := omega) only [fn_X4_workOutThrusts_L102, nI_clamp, nI_lt0, false_or, hri'.1 2 (by decide), p4, pa]
    rw [if_pos (by omega), if_pos (by omega), if_pos (by omega)]
    by_cases hl : 0 ≤ s (6 + 7 * i + 2)
    · rw [if_pos hl, if_pos hl]
      exact fin _ _ _ hp p5 p6 p4
    · rw [if_neg hl, if_neg hl]
      obtain ⟨σ2, e2, fs2⟩ := pushOf_eq hc hi hri' hbi ht'
      rw [e2, ob_s]
      exact fin _ _ _ (hp.tr (fs2.ft c)) (by rw [fs2.1 _ (by omega), p5]) (by rw [fs2.1 _ (by omega), p6]) (by rw [fs2.1 _ (by omega), p4])
  simp only [r2, hra.1 2 (by decide), g4]
  by_cases hl : s (6 + 7 * a + 2) ≤ 0
  · rw [if_pos hl]
    simp only [if_pos hl]
    exact step _ _ f1 (pI_nc (by omega)) (pI_s _ _ _ _) g4
  · rw [if_neg hl]
    simp only [if_neg hl]
    obtain ⟨σ2, e2, fs2⟩ := pushOf_eq hc ha (hra.ft (by omega) f1) hba (ht.ft hc f1)
    rw [e2, ob_s]
    refine step _ _ (f1.tr (fs2.ft c)) ?_ ?_ ?_
    · rw [fs2.1 _ (by omega), pI_nc (by omega)]
    · rw [fs2.1 _ (by omega), pI_s]
    · rw [fs2.1 _ (by omega), g4]
/-- thrusts, lesser and greater of the first i houses -/
def ThI (σ : Sg) (c : Nat) (s : Nat → Int32) (nt i : Nat) : Prop := ∀ k, k < i → σ.1 (c + 4) k = thS s nt i k ∧ σ.1 (c + 5) k = optI (nxL (sd s) k) ∧ σ.1 (c + 6) k = (if sd s k then optI (nxR (sd s) (i - (k + 1)) (k + 1)) else -1)
theorem work_L {ε : Ev} {c n nt : Nat} {σ : Sg} {s : Nat → Int32} (hc : c < 900) (h : SR σ c s n) (hb : ∀ k, k < n → sBd s k) (ht : TR ε σ c s nt) (k147 : Sg → Option (Unit × Sg)) : ∀ (f i : Nat) (τ : Sg), i ≤ n → n + 1 ≤ i + f → Ft c σ τ → ThI τ c s nt i → ∃ τ', fn_X4_workOutThrusts_L4 ε c k147 f (optI (nxL (sd s) i)) (nI i) τ = k147 τ' ∧ Ft c σ τ' ∧ ThI τ' c s nt n := by
  have hn9 := h.1
  intro f
  induction f with
  | zero => intro i τ h1 h2; omega
  | succ f ih =>
    intro i τ h1 h2 hf hI
    have hm : τ.1 c 6 = nI n := by rw [hf.1 c (by omega) (by omega) (by omega) (by omega)]; exact h.2.2.1
    have hsn : τ.1 c 8 = s 4 := by rw [hf.1 c (by omega) (by omega) (by omega) (by omega)]; exact h.2.2.2.1
    have q0 : ∀ (ρ : Sg) (k : Nat) (z : Int32) (y w : Nat), (y = c ∨ c + 7 ≤ y) → ∀ x, (x = c + 4 ∨ x = c + 5 ∨ x = c + 6) → (pI ρ x k z).1 y w = ρ.1 y w := fun ρ k z y w hy x hx => by rw [pI_nc (by omega)]
    by_cases hi : n ≤ i
    · have e : i = n := by omega
      subst e
      refine ⟨τ, ?_, hf, hI⟩
      simp (disch := omega) only [fn_X4_workOutThrusts_L4, hm, nI_leI]
      rw [if_pos (Nat.le_refl _)]
    · have hri := (h.2.2.2.2.2.2.2 i (by omega)).ft (by omega) hf
      have hst := hR_st hri
      have q6 : (pI (pI (pI τ (c + 4) i (nI 0)) (c + 5) i (optI (nxL (sd s) i))) (c + 6) i (-1)).1 (c + 7 + i) 6 = τ.1 (c + 7 + i) 6 := by rw [q0 _ _ _ _ _ (by omega) _ (by omega), q0 _ _ _ _ _ (by omega) _ (by omega), q0 _ _ _ _ _ (by omega) _ (by omega)]
      have q8 : (pI (pI (pI τ (c + 4) i (nI 0)) (c + 5) i (optI (nxL (sd s) i))) (c + 6) i (-1)).1 c 8 = s 4 := by rw [q0 _ _ _ _ _ (by omega) _ (by omega), q0 _ _ _ _ _ (by omega) _ (by omega), q0 _ _ _ _ _ (by omega) _ (by omega)]; exact hsn
      simp (disch := omega) only [fn_X4_workOutThrusts_L4, fn_X4_workOutThrusts_L141, fn_X4_workOutThrusts_L139, hm, nI_leI, nI_clamp, nI_lt0, false_or, q6, q8, nI_add]
      rw [if_neg hi, if_pos (by omega)]
      have b4 : (pI (pI (pI τ (c + 4) i (nI 0)) (c + 5) i (optI (nxL (sd s) i))) (c + 6) i (-1)).1 (c + 4) = upd (τ.1 (c + 4)) i (nI 0) := by rw [pI_nc (by omega), pI_nc (by omega), pI_s]
      have b5 : (pI (pI (pI τ (c + 4) i (nI 0)) (c + 5) i (optI (nxL (sd s) i))) (c + 6) i (-1)).1 (c + 5) = upd (τ.1 (c + 5)) i (optI (nxL (sd s) i)) := by rw [pI_nc (by omega), pI_s, pI_nc (by omega)]
      have b6 : (pI (pI (pI τ (c + 4) i (nI 0)) (c + 5) i (optI (nxL (sd s) i))) (c + 6) i (-1)).1 (c + 6) = upd (τ.1 (c + 6)) i (-1) := by rw [pI_s, pI_nc (by omega), pI_nc (by omega)]
      have bf : Ft c σ (pI (pI (pI τ (c + 4) i (nI 0)) (c + 5) i (optI (nxL (sd s) i))) (c + 6) i (-1)) := hf.tr ((Ft.pI (by omega)).tr ((Ft.pI (by omega)).tr (Ft.pI (by omega))))
      generalize (pI (pI (pI τ (c + 4) i (nI 0)) (c + 5) i (optI (nxL (sd s) i))) (c + 6) i (-1)) = ρ at b4 b5 b6 bf ⊢
      have old5 : ∀ (f5 : Nat → Int32), f5 = upd (τ.1 (c + 5)) i (optI (nxL (sd s) i)) → ∀ k, k < i + 1 → f5 k = optI (nxL (sd s) k) := by
        intro f5 e5 k hk
        subst e5
        by_cases e : k = i
        · subst e; exact pk_us
        · rw [pk_un e]; exact (hI k (by omega)).2.1
      by_cases hs : sd s i = true
      · rw [if_neg (by rw [hst, hs]; decide)]
        have nl : nxL (sd s) (i + 1) = some i := by rw [nxL, if_pos hs]
        have th_i : thS s nt (i + 1) i = s 4 + lfS s nt i := by
          unfold thS
          rw [if_pos hs, rgS, show i + 1 - (i + 1) = 0 by omega]
          exact sub_0 _
        cases hL : nxL (sd s) i with
        | none =>
          rw [show optI (none : Option Nat) = -1 from rfl, if_pos (by decide)]
          have K := ih (i + 1) (pI ρ (c + 4) i (s 4)) (by omega) (by omega) (bf.tr (Ft.pI (by omega))) ?_
          · rw [nl] at K
            exact K
          · intro k hk
            refine ⟨?_, ?_, ?_⟩
            · rw [pI_s, b4]
              by_cases e : k = i
              · subst e
                rw [pk_us, th_i, lfS, hL]
                exact (add_0 _).symm
              · rw [pk_un e, pk_un e, (hI k (by omega)).1, thS_step (by omega) (Or.inr (by rw [hL]; simp))]
            · rw [pI_nc (by omega), b5]; exact old5 _ rfl k hk
            · rw [pI_nc (by omega), b6]
              by_cases e : k = i
              · subst e
                rw [pk_us, if_pos hs, show k + 1 - (k + 1) = 0 by omega]
                rfl
              · rw [pk_un e, (hI k (by omega)).2.2]
                by_cases hp : sd s k = true
                · have := nxL_none hL k (by omega)
                  rw [hp] at this
                  cases this
                · rw [if_neg hp, if_neg hp]
        | some a =>
          obtain ⟨a1, a2, a3⟩ := nxL_some hL
          rw [show optI (some a) = nI a from rfl, if_neg (nI_pos (by omega))]
          have fS : Ft c σ (pI ρ (c + 4) i (s 4)) := bf.tr (Ft.pI (by omega))
          obtain ⟨σ2, e2, f2, g5, g6, g4⟩ := lean_eq (ε := ε) (σ := pI ρ (c + 4) i (s 4)) (a := a) (i := i) (nt := nt) (s := s) hc (by omega) (by omega) (by omega) ((h.2.2.2.2.2.2.2 a (by omega)).ft (by omega) fS) ((h.2.2.2.2.2.2.2 i (by omega)).ft (by omega) fS) (hb a (by omega)) (hb i (by omega)) (ht.ft hc fS) (fn_X4_workOutThrusts_L4 ε c k147 f) k147
          simp (disch := omega) only [nI_clamp, nI_lt0, false_or]
          rw [if_pos (by omega), e2]
          have K := ih (i + 1) σ2 (by omega) (by omega) (fS.tr f2) ?_
          · rw [nl] at K
            exact K
          · intro k hk
            rw [pI_nc (by omega), b5] at g5
            rw [pI_nc (by omega), b6] at g6
            rw [pI_s, b4] at g4
            refine ⟨?_, ?_, ?_⟩
            · rw [g4]
              have aI := (hI a (by omega)).1
              have ta : thS s nt i a = s 4 + lfS s nt a := by
                unfold thS
                rw [if_pos a2, rgS, nxR_none (fun j h4 h5 => a3 j (by omega) (by omega))]
                exact sub_0 _
              have ta2 : thS s nt (i + 1) a = s 4 + lfS s nt a - (if 0 ≤ s (6 + 7 * i + 2) then nI 0 else puS s nt i) := by
                unfold thS
                rw [if_pos a2, rgS, show i + 1 - (a + 1) = (i - (a + 1)) + 1 by omega, nxR_ext, nxR_none (fun j h4 h5 => a3 j (by omega) (by omega)), show a + 1 + (i - (a + 1)) = i by omega]
                show _ - (match (if sd s i = true then some i else none) with | none => nI 0 | some b => if 0 ≤ s (6 + 7 * b + 2) then nI 0 else puS s nt b) = _
                rw [if_pos hs]
              have lf : lfS s nt i = (if s (6 + 7 * a + 2) ≤ 0 then nI 0 else puS s nt a) := by
                unfold lfS
                simp only [hL]
              by_cases e : k = i
              · subst e
                rw [th_i, lf, pk_un (by omega), pk_us, pk_us]
              · by_cases ea : k = a
                · subst ea
                  rw [ta2, pk_us, pk_un e, pk_un e, aI, ta]
                · rw [thS_step (by omega) (Or.inr (by rw [hL]; intro q; exact ea (Option.some.inj q).symm)), ← (hI k (by omega)).1, pk_un ea, pk_un e, pk_un e, pk_un e]
            · rw [g5]; exact old5 _ rfl k hk
            · rw [g6]
              by_cases e : k = i
              · subst e
                rw [pk_un (by omega), pk_us, if_pos hs, show k + 1 - (k + 1) = 0 by omega]
                rfl
              · by_cases ea : k = a
                · subst ea
                  rw [pk_us, if_pos a2, show i + 1 - (k + 1) = (i - (k + 1)) + 1 by omega, nxR_ext, nxR_none (fun j h4 h5 => a3 j (by omega) (by omega)), show k + 1 + (i - (k + 1)) = i by omega]
                  show nI i = optI (if sd s i = true then some i else none)
                  rw [if_pos hs]
                  rfl
                · rw [pk_un ea, pk_un e, (hI k (by omega)).2.2]
                  by_cases hp : sd s k = true
                  · rw [if_pos hp, if_pos hp, nxR_step (by omega) (Or.inr (by rw [hL]; intro q; exact ea (Option.some.inj q).symm)) hp]
                  · rw [if_neg hp, if_neg hp]
      · have hs : sd s i = false := Bool.eq_false_iff.mpr hs
        rw [if_pos (by rw [hst, hs])]
        have nl : nxL (sd s) (i + 1) = nxL (sd s) i := by rw [nxL, if_neg (by rw [hs]; decide)]
        have K := ih (i + 1) ρ (by omega) (by omega) bf ?_
        · rw [nl] at K
          exact K
        · intro k hk
          refine ⟨?_, ?_, ?_⟩
          · rw [b4]
            by_cases e : k = i
            · subst e
              rw [pk_us]
              unfold thS
              rw [if_neg (by rw [hs]; decide)]
            · rw [pk_un e, (hI k (by omega)).1, thS_step (by omega) (Or.inl hs)]
          · rw [b5]; exact old5 _ rfl k hk
          · rw [b6]
            by_cases e : k = i
            · subst e
              rw [pk_us, if_neg (by rw [hs]; decide)]
            · rw [pk_un e, (hI k (by omega)).2.2]
              by_cases hp : sd s k = true
              · rw [if_pos hp, if_pos hp, nxR_step (by omega) (Or.inl hs) hp]
              · rw [if_neg hp, if_neg hp]
theorem work_eq {ε : Ev} {c n nt : Nat} {σ : Sg} {s : Nat → Int32} (hc : c < 900) (h : SR σ c s n) (hb : ∀ k, k < n → sBd s k) (ht : TR ε σ c s nt) : ∃ σ', fn_X4_workOutThrusts ε c σ = some ((), σ') ∧ Ft c σ σ' ∧ ThI σ' c s nt n := by
  have hn9 := h.1
  obtain ⟨τ, e, f, g⟩ := work_L hc h hb ht (fn_X4_workOutThrusts_L147 ε c) 4000 0 σ (by omega) (by omega) (Ft.rf c σ) (fun k hk => by omega)
  exact ⟨τ, e, f, g⟩
