theorem sr_ft {σ σ' : Sg} {c n : Nat} {s : Nat → Int32} (h : SR σ c s n) (hc : c < 900) (hf : Ft c σ σ') : SR σ' c s n := by
  obtain ⟨a1, a2, a3, a4, a5, a6, a7, a8⟩ := h
  have e : σ'.1 c = σ.1 c := hf.1 c (by omega) (by omega) (by omega) (by omega)
  exact ⟨a1, a2, by rw [e]; exact a3, by rw [e]; exact a4, by rw [e]; exact a5, by rw [e]; exact a6, by rw [e]; exact a7, fun k hk => (a8 k hk).ft (by omega) hf⟩
theorem l22_eq {ε : Ev} {c n : Nat} {τ : Sg} {s : Nat → Int32} (h : SR τ c s n) (a b : Bool) : ∃ τ', fn_X4_goOneDay_L22 ε c (bI a) (bI b) τ = some (bI (a || b), τ') ∧ SR τ' c (reS s n) n ∧ (∀ x, x ≠ c → τ'.1 x = τ.1 x) ∧ τ'.1 c 7 = τ.1 c 7 ∧ τ'.2 = τ.2 := by
  obtain ⟨a1, a2, a3, a4, a5, a6, a7, a8⟩ := h
  have h : SR τ c s n := ⟨a1, a2, a3, a4, a5, a6, a7, a8⟩
  refine ⟨pI (pI τ c 9 (τ.1 c 9 + smS s 5 n)) c 10 ((pI τ c 9 (τ.1 c 9 + smS s 5 n)).1 c 10 + nI 1), ?_, ?_, ?_, ?_, rfl⟩
  · simp only [fn_X4_goOneDay_L22, fn_X4_goOneDay_L53, fn_X4_goOneDay_L58, props_eq h, ob_s]
    cases a <;> cases b <;> rfl
  · have hr : ∀ j, 6 ≤ j → reS s n j = s j := fun j hj => by rw [reS, pk_un (by omega), pk_un (by omega)]
    have hk : ∀ (x k : Nat), x ≠ c → (pI (pI τ c 9 (τ.1 c 9 + smS s 5 n)) c 10 ((pI τ c 9 (τ.1 c 9 + smS s 5 n)).1 c 10 + nI 1)).1 x k = τ.1 x k := fun x k hx => by rw [pI_nc hx, pI_nc hx]
    refine ⟨a1, by rw [reS, pk_un (by decide), pk_un (by decide)]; exact a2, by rw [pI_n (Or.inr (by decide)), pI_n (Or.inr (by decide))]; exact a3, by rw [pI_n (Or.inr (by decide)), pI_n (Or.inr (by decide)), reS, pk_un (by decide), pk_un (by decide)]; exact a4, ?_, ?_, by rw [pI_n (Or.inr (by decide)), pI_n (Or.inr (by decide)), reS, pk_un (by decide), pk_un (by decide)]; exact a7, fun k hk9 => ?_⟩
    · rw [pI_n (Or.inr (by decide)), pI_e, reS, pk_un (by decide), pk_us, a5, prS_sm]
    · rw [pI_e, pI_n (Or.inr (by decide)), reS, pk_us, a6]
    · obtain ⟨b1, b2, b3⟩ := a8 k hk9
      exact ⟨fun w hw => by rw [hk _ _ (by omega), hr _ (by omega)]; exact b1 w hw, by rw [hk _ _ (by omega), hr _ (by omega)]; exact b2, by rw [hr _ (by omega)]; exact b3⟩
  · intro x hx
    rw [pI_nc hx, pI_nc hx]
  · rw [pI_n (Or.inr (by decide)), pI_n (Or.inr (by decide))]
/-- whether a day moves anything -/
def dyB (s : Nat → Int32) (nt n : Nat) : Bool := mvB (thS s nt n) (brs s) s n || fcB (cmS (thS s nt n) (brs s) s n) n
theorem day_eq {ε : Ev} {c n nt : Nat} {σ : Sg} {s : Nat → Int32} (hc : c < 900) (h : SR σ c s n) (hb : ∀ k, k < n → sBd s k) (hsn : -20 ≤ (s 4).toInt ∧ (s 4).toInt ≤ 20) (ht : TR ε σ c s nt) : ∃ σ', fn_X4_goOneDay ε c σ = some (bI (dyB s nt n), σ') ∧ Fr c σ σ' ∧ SR σ' c (dayS s nt n) n ∧ TR ε σ' c (dayS s nt n) nt := by
  have hn9 := h.1
  obtain ⟨σ1, e1, f1, I1⟩ := work_eq hc h hb ht
  have S1 := sr_ft h hc f1
  obtain ⟨σ2, e2, f2, S2⟩ := crack_eq (ε := ε) (t := thS s nt n) hc S1 (fun k hk => (I1 k hk).1) (fun k hk => over_ok hb hsn hk)
  obtain ⟨σ3, e3, f3, S3⟩ := fcr_eq (ε := ε) S2
  have hN : NbI σ3 c (sd s) n := fun k hk => by
    rw [f3.1 (c + 5) (by omega) (by omega), f3.1 (c + 6) (by omega) (by omega), f2.1 (c + 5) (by omega) (by omega), f2.1 (c + 6) (by omega) (by omega)]
    exact (I1 k hk).2
  have fin : ∀ (τ : Sg) (s3 : Nat → Int32), Fr c σ τ → τ.1 c 7 = σ.1 c 7 → SR τ c s3 n → reS s3 n = dayS s nt n → ∃ σ', fn_X4_goOneDay_L22 ε c (bI (mvB (thS s nt n) (brs s) s n)) (bI (fcB (cmS (thS s nt n) (brs s) s n) n)) τ = some (bI (dyB s nt n), σ') ∧ Fr c σ σ' ∧ SR σ' c (dayS s nt n) n ∧ TR ε σ' c (dayS s nt n) nt := by
    intro τ s3 hf h7 hS e
    obtain ⟨τ', a1, a2, a3, a4, a5⟩ := l22_eq (ε := ε) hS (mvB (thS s nt n) (brs s) s n) (fcB (cmS (thS s nt n) (brs s) s n) n)
    have hf' : Fr c σ τ' := ⟨fun x h1 h2 => by rw [a3 x (by omega)]; exact hf.1 x h1 h2, by rw [a5]; exact hf.2⟩
    refine ⟨τ', a1, hf', by rw [← e]; exact a2, ?_⟩
    exact ht.fr hf'.2 (by rw [a4, h7]) (fun y h1 h2 => hf'.1 y (by omega) (Or.inr h2)) (dayS_out s nt n hn9 1 (by omega) (by decide) (by decide)) (fun j hj => dayS_out s nt n hn9 j (by omega) (by omega) (by omega))
  have c7 : σ3.1 c 7 = σ.1 c 7 := by rw [f3.1 c (by omega) (by omega), f2.1 c (by omega) (by omega), f1.1 c (by omega) (by omega) (by omega) (by omega)]
  have F3 : Fr c σ σ3 := f1.fr.tr (f2.fr.tr f3.fr)
  simp only [fn_X4_goOneDay, e1, ob_s, e2, e3]
  cases hfc : fcB (cmS (thS s nt n) (brs s) s n) n with
  | false =>
    rw [if_pos (by decide)]
    have E := fcS_f _ n hfc
    rw [E] at S3
    have K := fin σ3 _ F3 c7 S3 (by
      rw [dayS, E, frS_id (fun k => cmS_6 _ _ s k n) 9])
    rw [hfc] at K
    exact K
  | true =>
    rw [if_neg (by decide)]
    obtain ⟨σ4, e4, f4, S4⟩ := fb_eq (ε := ε) hc S3 hN (fun k hk hs => by
      have := fcS_sd _ k n hs
      rw [cmS_6] at this
      exact this) (fun k hk => by
      rw [fcS_2]
      obtain ⟨kd, w, wl, cr, pr, b0, b0', b1, b1', b1'', b3, b3', b4, b4', b5, b5', b2, b2'⟩ := hb k hk
      exact cmS_2 _ _ s k ⟨b2, b2'⟩ n)
    rw [e4, ob_s]
    have hcn := fcS_n (cmS (thS s nt n) (brs s) s n) n n (Nat.le_refl n)
    rw [hfc, if_pos rfl] at hcn
    have hle := stN_le (cmS (thS s nt n) (brs s) s n) n
    have K := fin σ4 _ (F3.tr f4.fr) (by rw [f4.1 c (by omega) (by omega)]; exact c7) S4 (by
      rw [dayS, frS_fix (sd s) n 8 _ (by omega)])
    rw [hfc] at K
    exact K
