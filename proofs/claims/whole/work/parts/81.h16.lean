theorem why_ok {ε : Ev} {σ : Sg} {μ : Mg} (h : Rel ε σ μ) (z : Int32) : RStp ε (fn_X6_why ε z σ) (fn_X7_why z μ) := by
  obtain ⟨n, nt, d, hS, hd, hd2⟩ := h.1
  have ht := hS.2.1
  have h14 := ht.1
  simp only [fn_X6_why, fn_X6_why_L9, fn_X6_why_L35, fn_X7_why, fn_X7_why_L25, bI_0]
  by_cases h1 : z < 0
  · rw [if_pos h1, if_pos (show inB z 0 2 = false from inB_1 h1)]; exact ⟨_, σ, μ, rfl, rfl, h⟩
  rw [if_neg h1]
  obtain ⟨u, hu, rfl⟩ := nI_of h1
  by_cases h2 : u < 3
  · have hc : σ.2 19 u = _ := ht.2.2.2.2 u (by omega)
    have hT' : hT μ.2.1 := by
      unfold hT
      rw [hS.nOf.2]
      exact ⟨ht.2.1, h14⟩
    rw [if_pos (nI_lt h2 (by decide)), if_neg (show ¬ (inB (nI u) 0 2 = false) from by rw [show inB (nI u) 0 2 = true from inB_3 h1 (show nI u ≤ nI 2 from nI_le (by omega) (by decide))]; decide), nI_clamp (by omega), if_pos (show ¬ (nI u < 0 ∨ 3 ≤ u) from fun q => q.elim h1 (by omega)), fn_X7_counts, cif_pos hT', hS.nOf.2, ob_s, hc]
    cases hO : lastO μ.2.1 (nI u) nt with
    | none => exact ⟨_, σ, μ, rfl, rfl, h⟩
    | some t =>
      have hj := lastO_some hO
      obtain ⟨x, ex, tx⟩ := ht.2.2.2.1 t hj.1
      show RStp ε (oq (σ.2 18 t) _ _) _
      rw [show σ.2 18 t = some x from ex, oq_s, if_pos tx.1, tx.2.1, show optI (some t) = nI t from rfl, fn_X7_orNone]
      simp only [nI_lt0 (show t < 2 ^ 31 by omega), if_false, o1_s]
      exact ⟨_, σ, μ, rfl, rfl, h⟩
  · rw [if_neg (nI_nlt (by omega) hu), if_pos (show inB (nI u) 0 2 = false from inB_2 (show ¬ nI u ≤ nI 2 from nI_ge (by omega) hu))]
    exact ⟨_, σ, μ, rfl, rfl, h⟩
