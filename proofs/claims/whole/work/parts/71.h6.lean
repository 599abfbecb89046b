/-- only house k has changed -/
theorem StO_hw {ε : Ev} {σ σ' : Sg} {c n nt k : Nat} {s s' : Nat → Int32} (hc : c < 900) (hk : k < n) (hS : StO ε σ c s nt n) (h1 : ∀ x, x ≠ c + 7 + k → σ'.1 x = σ.1 x) (h2 : σ'.2 = σ.2) (hs : ∀ j, (j < 6 + 7 * k ∨ 6 + 7 * k + 7 ≤ j) → s' j = s j) (hr : hR σ' c k s') (hb : sBd s' k) : StO ε σ' c s' nt n := by
  obtain ⟨⟨a1, a2, a3, a4, a5, a6, a7, a8⟩, hT, hB, hd⟩ := hS
  have e := h1 c (by omega)
  refine ⟨⟨a1, by rw [hs 0 (by omega)]; exact a2, by rw [e]; exact a3, by rw [e, hs 4 (by omega)]; exact a4, by rw [e, hs 3 (by omega)]; exact a5, by rw [e, hs 2 (by omega)]; exact a6, by rw [e, hs 5 (by omega)]; exact a7, fun j hj => ?_⟩, ?_, fun j hj => ?_, by rw [hs 4 (by omega)]; exact hd⟩
  · by_cases ej : j = k
    · rw [ej]; exact hr
    · obtain ⟨b1, b2, b3⟩ := a8 j hj
      have e2 := h1 (c + 7 + j) (by omega)
      exact ⟨fun w hw => by rw [e2, hs _ (by omega)]; exact b1 w hw, by rw [e2, hs _ (by omega)]; exact b2, by rw [hs _ (by omega)]; exact b3⟩
  · exact hT.fr h2 (by rw [e]) (fun y h7 _ => h1 y (by omega)) (hs 1 (by omega)) (fun j hj => hs j (by omega))
  · by_cases ej : j = k
    · rw [ej]; exact hb
    · obtain ⟨kd, w, wl, cr, pr, b0, b0', b1, b1', b1'', b3, b3', b4, b4', b5, b5', b2, b2'⟩ := hB j hj
      exact ⟨kd, w, wl, cr, pr, by rw [hs _ (by omega)]; exact b0, b0', by rw [hs _ (by omega)]; exact b1, b1', b1'', by rw [hs _ (by omega)]; exact b3, b3', by rw [hs _ (by omega)]; exact b4, b4', by rw [hs _ (by omega)]; exact b5, b5', by rw [hs _ (by omega)]; exact b2, by rw [hs _ (by omega)]; exact b2'⟩
theorem hs_n {ε : Ev} {σ : Sg} {s : Nat → Int32} {n : Nat} {z : Int32} (h : SR σ 16 s n) (hz : hB n z = false) : fn_X6_isHouse ε z σ = some (0, σ) := by
  have hn9 := h.1
  simp only [fn_X6_isHouse, fn_X6_isHouse_L19, fn_X6_isHouse_L20, h.2.2.1]
  by_cases h1 : z < 0
  · rw [if_pos h1, if_pos (by decide)]; rfl
  obtain ⟨u, hu, rfl⟩ := nI_of h1
  rw [if_neg h1]
  have q : n ≤ u := by
    refine Nat.le_of_not_lt fun q => ?_
    rw [hB_k (by omega) q] at hz
    cases hz
  rw [if_pos (nI_le q hu), if_pos (by decide)]; rfl
theorem hs_y {ε : Ev} {σ : Sg} {s : Nat → Int32} {n k : Nat} (h : SR σ 16 s n) (hk : k < n) : fn_X6_isHouse ε (nI k) σ = some (1, σ) := by
  have hn9 := h.1
  simp only [fn_X6_isHouse, fn_X6_isHouse_L19, fn_X6_isHouse_L20, h.2.2.1]
  rw [if_neg (nI_pos (by omega)), if_neg (nI_ge hk (by omega)), if_pos (by decide)]; rfl
theorem hN_ok {ε : Ev} {σ : Sg} {c n nt : Nat} {s : Nat → Int32} (h : StO ε σ c s nt n) : hN s := by
  unfold hN
  rw [h.nOf.1]
  exact ⟨h.1.2.1, h.1.1⟩
theorem bdF {s : Nat → Int32} {k : Nat} (h : sBd s k) : sBd (fallS s k) k := by
  obtain ⟨kd, w, wl, cr, pr, b0, b0', b1, b1', b1'', b3, b3', b4, b4', b5, b5', b2, b2'⟩ := h
  refine ⟨kd, w, wl, cr, 0, ?_, b0', ?_, b1', b1'', ?_, b3', ?_, b4', ?_, by omega, ?_, ?_⟩ <;> unfold fallS
  · rw [pk_un (by omega), pk_un (by omega)]; exact b0
  · rw [pk_un (by omega), pk_un (by omega)]; exact b1
  · rw [pk_un (by omega), pk_un (by omega)]; exact b3
  · rw [pk_un (by omega), pk_un (by omega)]; exact b4
  · rw [pk_us]
  · rw [pk_un (by omega), pk_un (by omega)]; exact b2
  · rw [pk_un (by omega), pk_un (by omega)]; exact b2'
theorem bdR {s : Nat → Int32} {k : Nat} (h : sBd s k) : sBd (riseS s k) k := by
  obtain ⟨kd, w, wl, cr, pr, b0, b0', b1, b1', b1'', b3, b3', b4, b4', b5, b5', b2, b2'⟩ := h
  refine ⟨kd, w, wl, 0, pr, ?_, b0', ?_, b1', b1'', ?_, b3', ?_, by omega, ?_, b5', ?_, ?_⟩ <;> unfold riseS
  · rw [pk_un (by omega), pk_un (by omega), pk_un (by omega)]; exact b0
  · rw [pk_un (by omega), pk_un (by omega), pk_un (by omega)]; exact b1
  · rw [pk_un (by omega), pk_un (by omega), pk_un (by omega)]; exact b3
  · rw [pk_us]
  · rw [pk_un (by omega), pk_un (by omega), pk_un (by omega)]; exact b5
  · rw [pk_un (by omega), pk_us]; decide
  · rw [pk_un (by omega), pk_us]; decide
theorem fallO {ε : Ev} {σ : Sg} {c n nt k : Nat} {s : Nat → Int32} (hc : c < 900) (hk : k < n) (hS : StO ε σ c s nt n) : StO ε (pI (pI σ (c + 7 + k) 6 (nI 0)) (c + 7 + k) 5 (nI 0)) c (fallS s k) nt n := by
  obtain ⟨r1, r2, r3⟩ := hS.1.2.2.2.2.2.2.2 k hk
  refine StO_hw hc hk hS (fun x hx => by rw [pI_nc hx, pI_nc hx]) rfl (fun j hj => by rw [fallS, pk_un (by omega), pk_un (by omega)]) ⟨fun w hw => ?_, ?_, ?_⟩ (bdF (hS.2.2.1 k hk))
  · by_cases e : w = 5
    · rw [e, pI_e, fallS, pk_us]
    · rw [pI_n (Or.inr e), pI_n (Or.inr (by omega)), fallS, pk_un (by omega), pk_un (by omega)]; exact r1 w hw
  · rw [pI_n (Or.inr (by decide)), pI_e, fallS, pk_un (by omega), pk_us]; rfl
  · rw [fallS, pk_un (by omega), pk_us]; exact Or.inr rfl
theorem riseO {ε : Ev} {σ : Sg} {c n nt k : Nat} {s : Nat → Int32} (hc : c < 900) (hk : k < n) (hS : StO ε σ c s nt n) : StO ε (pI (pI (pI σ (c + 7 + k) 6 (nI 1)) (c + 7 + k) 2 (nI 0)) (c + 7 + k) 4 (nI 0)) c (riseS s k) nt n := by
  obtain ⟨r1, r2, r3⟩ := hS.1.2.2.2.2.2.2.2 k hk
  refine StO_hw hc hk hS (fun x hx => by rw [pI_nc hx, pI_nc hx, pI_nc hx]) rfl (fun j hj => by rw [riseS, pk_un (by omega), pk_un (by omega), pk_un (by omega)]) ⟨fun w hw => ?_, ?_, ?_⟩ (bdR (hS.2.2.1 k hk))
  · by_cases e : w = 4
    · rw [e, pI_e, riseS, pk_us]
    · by_cases e2 : w = 2
      · rw [e2, pI_n (Or.inr (by decide)), pI_e, riseS, pk_un (by omega), pk_us]
      · rw [pI_n (Or.inr e), pI_n (Or.inr e2), pI_n (Or.inr (by omega)), riseS, pk_un (by omega), pk_un (by omega), pk_un (by omega)]; exact r1 w hw
  · rw [pI_n (Or.inr (by decide)), pI_n (Or.inr (by decide)), pI_e, riseS, pk_un (by omega), pk_un (by omega), pk_us]; rfl
  · rw [riseS, pk_un (by omega), pk_un (by omega), pk_us]; exact Or.inl rfl
theorem fells_ok {ε : Ev} {σ : Sg} {μ : Mg} (h : Rel ε σ μ) (z : Int32) : RStp ε (fn_X6_fells ε z σ) (fn_X7_fells z μ) := by
  obtain ⟨n, nt, d, hS, hd, hd2⟩ := h.1
  have hn9 := hS.1.1
  rw [fn_X7_fells, cif_pos (hN_ok hS), hS.nOf.1, fn_X6_fells]
  cases hz : hB n z with
  | false =>
    rw [hs_n hS.1 hz, ob_s, if_pos rfl, show fellsP μ.2.1 n z = (-1000000001, μ.2.1) from by rw [fellsP, hIx_f hz]]
    exact ⟨_, σ, μ, rfl, rfl, h⟩
  | true =>
    obtain ⟨k, hk, rfl⟩ := hB_t (by omega) hz
    rw [hs_y hS.1 hk, ob_s, if_neg (by decide), if_pos (by rw [nI_clamp (by omega), nI_lt0 (by omega), false_or]; omega), nI_clamp (by omega)]
    have hst : (σ.1 (23 + k) 6 = 0) = (sd μ.2.1 k = false) := hR_st (hS.1.2.2.2.2.2.2.2 k hk)
    cases hc : sd μ.2.1 k with
    | false =>
      rw [if_pos (by rw [hst]; exact hc), show fellsP μ.2.1 n (nI k) = (-1000000002, μ.2.1) from by rw [fellsP, hIx_k (by omega) hk]; simp only [hc]; rfl]
      exact ⟨_, σ, μ, rfl, rfl, h⟩
    | true =>
      have S2 := fallO (by decide) hk hS
      rw [if_neg (by rw [hst, hc]; decide), fn_X0_fall, ob_s, show 23 + k = 16 + 7 + k from rfl, many_eq S2.1, ob_s, show fellsP μ.2.1 n (nI k) = (nI (cntS (fallS μ.2.1 k) n), fallS μ.2.1 k) from by rw [fellsP, hIx_k (by omega) hk]; simp only [hc]; rfl]
      refine ⟨_, _, _, rfl, rfl, ?_⟩
      exact rel_now h (fun x a _ => by rw [pI_nc (by omega), pI_nc (by omega)]) (fun x _ _ => rfl) h.2.2.2.2.2.2 ⟨n, nt, d, S2, hd, by show fallS μ.2.1 k 2 = nI d; rw [fallS, pk_un (by omega), pk_un (by omega)]; exact hd2⟩
theorem raises_ok {ε : Ev} {σ : Sg} {μ : Mg} (h : Rel ε σ μ) (z : Int32) : RStp ε (fn_X6_raises ε z σ) (fn_X7_raises z μ) := by
  obtain ⟨n, nt, d, hS, hd, hd2⟩ := h.1
  have hn9 := hS.1.1
  rw [fn_X7_raises, cif_pos (hN_ok hS), hS.nOf.1, fn_X6_raises]
  cases hz : hB n z with
  | false =>
    rw [hs_n hS.1 hz, ob_s, if_pos rfl, show raisesP μ.2.1 n z = (-1000000001, μ.2.1) from by rw [raisesP, hIx_f hz]]
    exact ⟨_, σ, μ, rfl, rfl, h⟩
  | true =>
    obtain ⟨k, hk, rfl⟩ := hB_t (by omega) hz
    rw [hs_y hS.1 hk, ob_s, if_neg (by decide), if_pos (by rw [nI_clamp (by omega), nI_lt0 (by omega), false_or]; omega), nI_clamp (by omega)]
    have hst : (σ.1 (23 + k) 6 = 0) = (sd μ.2.1 k = false) := hR_st (hS.1.2.2.2.2.2.2.2 k hk)
    cases hc : sd μ.2.1 k with
    | true =>
      rw [if_neg (by rw [hst, hc]; decide), show raisesP μ.2.1 n (nI k) = (-1000000002, μ.2.1) from by rw [raisesP, hIx_k (by omega) hk]; simp only [hc]; rfl]
      exact ⟨_, σ, μ, rfl, rfl, h⟩
    | false =>
      have S2 := riseO (by decide) hk hS
      rw [if_pos (by rw [hst]; exact hc), fn_X0_rise, ob_s, show 23 + k = 16 + 7 + k from rfl, many_eq S2.1, ob_s, show raisesP μ.2.1 n (nI k) = (nI (cntS (riseS μ.2.1 k) n), riseS μ.2.1 k) from by rw [raisesP, hIx_k (by omega) hk]; simp only [hc]; rfl]
      refine ⟨_, _, _, rfl, rfl, ?_⟩
      exact rel_now h (fun x a _ => by rw [pI_nc (by omega), pI_nc (by omega), pI_nc (by omega)]) (fun x _ _ => rfl) h.2.2.2.2.2.2 ⟨n, nt, d, S2, hd, by show riseS μ.2.1 k 2 = nI d; rw [riseS, pk_un (by omega), pk_un (by omega), pk_un (by omega)]; exact hd2⟩
