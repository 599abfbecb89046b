theorem told_no {s : Nat → Int32} {nt n k : Nat} {y : Int32} (hn : n ≤ 9) (hk : k < n) (hy : ∀ j, j ≤ 10 → y ≠ nI j) : toldP s nt n (nI k) y = -1000000001 := by
  rw [toldP, hIx_k (by omega) hk]
  simp only [if_neg (hy 0 (by decide)), if_neg (hy 1 (by decide)), if_neg (hy 2 (by decide)), if_neg (hy 3 (by decide)), if_neg (hy 4 (by decide)), if_neg (hy 5 (by decide)), if_neg (hy 6 (by decide)), if_neg (hy 7 (by decide)), if_neg (hy 8 (by decide)), if_neg (hy 9 (by decide)), if_neg (hy 10 (by decide))]
theorem told_ok {ε : Ev} {σ : Sg} {μ : Mg} (h : Rel ε σ μ) (z y : Int32) : RStp ε (fn_X6_told ε z y σ) (fn_X7_told z y μ) := by
  obtain ⟨n, nt, d, hS, hd, hd2⟩ := h.1
  have hn9 := hS.1.1
  rw [fn_X7_told, hS.nOf.1, hS.nOf.2, cif_pos hS.ok, fn_X6_told]
  simp only [fn_X6_told_L18, fn_X6_told_L80]
  cases hz : hB n z with
  | false =>
    rw [hs_n hS.1 hz, ob_s, if_pos rfl, show toldP μ.2.1 nt n z y = -1000000001 from by rw [toldP, hIx_f hz]]
    exact ⟨_, σ, μ, rfl, rfl, h⟩
  | true =>
    obtain ⟨k, hk, rfl⟩ := hB_t (by omega) hz
    rw [hs_y hS.1 hk, ob_s, if_neg (by decide)]
    by_cases h1 : y < 0
    · rw [if_pos h1, told_no hn9 hk (fun j hj e => by rw [e] at h1; exact nI_pos (by omega) h1)]
      exact ⟨_, σ, μ, rfl, rfl, h⟩
    obtain ⟨u, hu, rfl⟩ := nI_of h1
    rw [if_neg h1]
    by_cases h2 : u ≤ 10
    · rw [if_pos (nI_le h2 (by omega)), if_pos (by rw [nI_clamp (by omega), nI_lt0 (by omega), false_or]; omega), nI_clamp (by omega), show 23 + k = 16 + 7 + k from rfl]
      have hr := hS.1.2.2.2.2.2.2.2 k hk
      have e : u = 0 ∨ u = 1 ∨ u = 2 ∨ u = 3 ∨ u = 4 ∨ u = 5 ∨ u = 6 ∨ u = 7 ∨ u = 8 ∨ u = 9 ∨ u = 10 := by omega
      have T : ∀ w, toldP μ.2.1 nt n (nI k) (nI w) = if nI w = nI 0 then μ.2.1 (6 + 7 * k + 0) else if nI w = nI 1 then μ.2.1 (6 + 7 * k + 1) else if nI w = nI 2 then μ.2.1 (6 + 7 * k + 2) else if nI w = nI 3 then μ.2.1 (6 + 7 * k + 3) else if nI w = nI 4 then μ.2.1 (6 + 7 * k + 4) else if nI w = nI 5 then μ.2.1 (6 + 7 * k + 5) else if nI w = nI 6 then nI 1 - μ.2.1 (6 + 7 * k + 6) else if nI w = nI 7 then puS μ.2.1 nt k else if nI w = nI 8 then brs μ.2.1 k else if nI w = nI 9 then thS μ.2.1 nt n k else if nI w = nI 10 then wth μ.2.1 k else -1000000001 := fun w => by rw [toldP, hIx_k (by omega) hk]
      have part : ∀ w, w < 6 → (∀ τ : Sg, fn_X0_part ε (16 + 7 + k) (nI w) τ = some (τ.1 (16 + 7 + k) w, τ)) → toldP μ.2.1 nt n (nI k) (nI w) = μ.2.1 (6 + 7 * k + w) → RStp ε (ob (fn_X0_part ε (16 + 7 + k) (nI w) σ) (fun a b => some (a, b))) (some (toldP μ.2.1 nt n (nI k) (nI w), μ)) := fun w hw p q => by
        rw [p, ob_s, q, hr.1 w hw]; exact ⟨_, σ, μ, rfl, rfl, h⟩
      rcases e with rfl | rfl | rfl | rfl | rfl | rfl | rfl | rfl | rfl | rfl | rfl
      · exact part 0 (by decide) (fun _ => rfl) ((T 0).trans rfl)
      · exact part 1 (by decide) (fun _ => rfl) ((T 1).trans rfl)
      · exact part 2 (by decide) (fun _ => rfl) ((T 2).trans rfl)
      · exact part 3 (by decide) (fun _ => rfl) ((T 3).trans rfl)
      · exact part 4 (by decide) (fun _ => rfl) ((T 4).trans rfl)
      · exact part 5 (by decide) (fun _ => rfl) ((T 5).trans rfl)
      · rw [show toldP μ.2.1 nt n (nI k) (nI 6) = nI 1 - μ.2.1 (6 + 7 * k + 6) from (T 6).trans rfl, if_pos rfl]
        have r2 := hr.2.1
        rcases hr.2.2 with r3 | r3
        · rw [r3, if_pos (by decide)] at r2
          rw [r2, if_neg (by decide), r3]; exact ⟨_, σ, μ, rfl, rfl, h⟩
        · rw [r3, if_neg (by decide)] at r2
          rw [r2, if_pos (by decide), r3]; exact ⟨_, σ, μ, rfl, rfl, h⟩
      · obtain ⟨τ, e1, f1⟩ := pushOf_eq (ε := ε) (c := 16) (by decide) (by omega) hr (hS.2.2.1 k hk) hS.2.1
        rw [show toldP μ.2.1 nt n (nI k) (nI 7) = puS μ.2.1 nt k from (T 7).trans rfl, if_neg (by decide), if_pos rfl, e1, ob_s]
        exact ⟨_, τ, μ, rfl, rfl, rel_ft h (f1.ft 16)⟩
      · rw [show toldP μ.2.1 nt n (nI k) (nI 8) = brs μ.2.1 k from (T 8).trans rfl, if_neg (by decide), if_neg (by decide), if_pos rfl, bearing_eq hr, ob_s]
        exact ⟨_, σ, μ, rfl, rfl, h⟩
      · obtain ⟨τ, e1, f1, hI⟩ := work_eq (ε := ε) (c := 16) (by decide) hS.1 hS.2.2.1 hS.2.1
        have e4 : τ.1 20 k = thS μ.2.1 nt n k := (hI k hk).1
        rw [show toldP μ.2.1 nt n (nI k) (nI 9) = thS μ.2.1 nt n k from (T 9).trans rfl, if_neg (by decide), if_neg (by decide), if_neg (by decide), if_pos rfl, e1, ob_s, e4]
        exact ⟨_, τ, μ, rfl, rfl, rel_ft h f1⟩
      · rw [show toldP μ.2.1 nt n (nI k) (nI 10) = wth μ.2.1 k from (T 10).trans rfl, if_neg (by decide), if_neg (by decide), if_neg (by decide), if_neg (by decide), if_pos rfl, worth_eq hr, ob_s]
        exact ⟨_, σ, μ, rfl, rfl, h⟩
    · rw [if_neg (nI_ge (by omega) hu), told_no hn9 hk (fun j hj e => by have := nI_j hu (by omega) e; omega)]
      exact ⟨_, σ, μ, rfl, rfl, h⟩
/-- what may be set -/
theorem fit1 {u lo hi : Int32} : (if u < lo then some (nI 0) else if hi < u then some (nI 0) else some (nI 1)) = some (bI (inB u lo hi)) := by
  by_cases h1 : u < lo
  · rw [if_pos h1, inB_1 h1]; rfl
  · by_cases h2 : hi < u
    · rw [if_neg h1, if_pos h2, inB_2 (Int32.not_le.mpr h2)]; rfl
    · rw [if_neg h1, if_neg h2, inB_3 h1 (Int32.not_lt.mp h2)]; rfl
theorem fits_g {j : Nat} {u : Int32} (hj : j < 6) : fn_X6_fits (nI j) u = some (bI (inB u (tabLEAST j) (tabMOST j))) := by
  simp only [fn_X6_fits, fn_X6_fits_L22, fn_X6_fits_L23]
  rw [if_pos (by rw [nI_clamp (by omega), nI_lt0 (by omega), false_or]; omega), nI_clamp (by omega), if_pos (show nI 0 = 0 ∨ nI 0 = 1 from by decide), if_pos (show nI 1 = 0 ∨ nI 1 = 1 from by decide)]
  exact fit1
theorem fits_eq {j : Nat} {u : Int32} (h1 : 1 ≤ j) (h5 : j ≤ 5) : fn_X6_fits (nI j) u = some (bI (mayB (nI j) u)) := by
  rw [fits_g (by omega)]
  have e : j = 1 ∨ j = 2 ∨ j = 3 ∨ j = 4 ∨ j = 5 := by omega
  rcases e with rfl | rfl | rfl | rfl | rfl <;> rfl
theorem fits_0 {u : Int32} : fn_X6_fits (nI 0) u = some (bI (inB u 0 5)) := by
  rw [fits_g (by decide)]; rfl
