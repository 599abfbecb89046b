theorem m_isT {μ : Mg} {nt n : Nat} (h : stOK μ.2.1 nt n) (z : Int32) : fn_X7_isText z μ = some (bI (hB nt z), μ) := by
  rw [fn_X7_isText, if_pos (show ¬ (nI 1 < 0 ∨ 3069 ≤ (nI 1).toNatClampNeg) from by decide), show μ.2.1 (nI 1).toNatClampNeg = nI nt from h.1, show inB z 0 (nI nt - nI 1) = hB nt z from rfl]
  cases hB nt z <;> rfl
theorem textTold_ok {ε : Ev} {σ : Sg} {μ : Mg} (h : Rel ε σ μ) (z y : Int32) : RStp ε (fn_X6_textTold ε z y σ) (fn_X7_textTold z y μ) := by
  obtain ⟨n, nt, d, hS, hd, hd2⟩ := h.1
  have ht := hS.2.1
  have h14 := ht.1
  simp only [fn_X6_textTold, fn_X6_textTold_L24, fn_X6_textTold_L61, fn_X7_textTold, fn_X7_textTold_L18, bI_0, m_isT hS.ok, ob_s, show σ.1 16 7 = nI nt from ht.2.2.1]
  cases hz : hB nt z with
  | false =>
    rw [if_pos (show false = false from rfl)]
    refine ⟨-1000000001, σ, μ, ?_, rfl, h⟩
    by_cases h1 : z < 0
    · rw [if_pos h1]
    obtain ⟨u, hu, rfl⟩ := nI_of h1
    have q : nt ≤ u := by
      refine Nat.le_of_not_lt fun q => ?_
      rw [hB_k (by omega) q] at hz
      cases hz
    rw [if_neg h1, if_pos (nI_le q hu)]
  | true =>
    obtain ⟨t, hk, rfl⟩ := hB_t (by omega) hz
    obtain ⟨x, ex, tx⟩ := ht.2.2.2.1 t hk
    have ex : σ.2 18 t = some x := ex
    rw [if_neg (nI_pos (by omega)), if_neg (nI_ge hk (by omega)), if_neg (show ¬ (true = false) from by decide)]
    by_cases h1 : y < 0
    · rw [if_pos h1, if_pos (show inB y 0 1 = false from inB_1 h1)]; exact ⟨_, σ, μ, rfl, rfl, h⟩
    rw [if_neg h1]
    obtain ⟨u, hu, rfl⟩ := nI_of h1
    by_cases h2 : u ≤ 1
    · rw [if_pos (nI_le h2 (by decide)), if_neg (show ¬ (inB (nI u) 0 1 = false) from by rw [show inB (nI u) 0 1 = true from inB_3 h1 (show nI u ≤ nI 1 from nI_le h2 (by decide))]; decide), nI_clamp (show t < 2 ^ 31 by omega), if_pos (show ¬ (nI t < 0 ∨ 14 ≤ t) from fun q => q.elim (nI_pos (by omega)) (by omega)), ex, oq_s, if_pos tx.1, fn_X7_textAt, ob_s, pk_mul, nI_add, nI_add, nI_clamp (by omega), if_pos (show ¬ (nI (69 + 200 * t + u) < 0 ∨ 3069 ≤ 69 + 200 * t + u) from fun q => q.elim (nI_pos (by omega)) (by omega))]
      obtain ⟨-, -, key, m, p, k2, ks, kx, ps, px, -⟩ := tx
      have e : u = 0 ∨ u = 1 := by omega
      rcases e with rfl | rfl
      · rw [if_pos (by decide), kx]; exact ⟨_, σ, μ, rfl, by rw [Nat.add_zero, ks], h⟩
      · rw [if_neg (by decide), px]; exact ⟨_, σ, μ, rfl, by rw [ps], h⟩
    · rw [if_neg (nI_ge (by omega) hu), if_pos (show inB (nI u) 0 1 = false from inB_2 (show ¬ nI u ≤ nI 1 from nI_ge (by omega) hu))]
      exact ⟨_, σ, μ, rfl, rfl, h⟩
