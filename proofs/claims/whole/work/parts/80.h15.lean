theorem fee_ok {ε : Ev} {σ : Sg} {μ : Mg} (h : Rel ε σ μ) : RStp ε (fn_X6_fee ε σ) (fn_X7_fee μ) := by
  obtain ⟨n, nt, d, hS, hd, hd2⟩ := h.1
  have ht := hS.2.1
  have e9 : σ.1 16 9 = μ.2.1 3 := hS.1.2.2.2.2.1
  have e10 : σ.1 16 10 = μ.2.1 2 := hS.1.2.2.2.2.2.1
  have hc : σ.2 19 (nI 1).toNatClampNeg = _ := ht.2.2.2.2 1 (by decide)
  rw [fn_X7_fee, hS.nOf.1, hS.nOf.2, cif_pos hS.ok, fn_X6_fee, if_pos (by decide), hc, feeP, e9, e10]
  cases hO : lastO μ.2.1 (nI 1) nt with
  | none => exact ⟨_, σ, μ, rfl, rfl, h⟩
  | some t =>
    have hj := lastO_some hO
    obtain ⟨x, ex, tx⟩ := ht.2.2.2.1 t hj.1
    show RStp ε (oq (σ.2 18 t) _ _) _
    rw [show σ.2 18 t = some x from ex, oq_s, if_pos tx.1]
    obtain ⟨g, eg⟩ := value_eq (μ.2.1 3) (μ.2.1 2) (nI 0) (nmF (μ.2.1 3) (μ.2.1 2)) tx (fun key j d hk hk2 hj2 => by
      rw [hj.2] at hk
      have hk : key = 1 := ((nI_eq (by decide) (by omega)).mp hk).symm
      subst hk
      rcases hj2 with ⟨h, -⟩ | ⟨-, ⟨rfl, rfl⟩ | ⟨rfl, rfl⟩⟩ | ⟨h, -⟩
      · omega
      · rfl
      · rfl
      · omega)
    rw [eg, ob_s, fn_X6_fee_L43]
    exact ⟨_, _, μ, rfl, rfl, rel_ft h ((Fs.pA g tx.1).ft 16)⟩
theorem fine_ok {ε : Ev} {σ : Sg} {μ : Mg} (h : Rel ε σ μ) (z : Int32) : RStp ε (fn_X6_fine ε z σ) (fn_X7_fine z μ) := by
  obtain ⟨n, nt, d, hS, hd, hd2⟩ := h.1
  have hn9 := hS.1.1
  have ht := hS.2.1
  have hc : σ.2 19 (nI 2).toNatClampNeg = _ := ht.2.2.2.2 2 (by decide)
  rw [fn_X7_fine, hS.nOf.1, hS.nOf.2, cif_pos hS.ok, fn_X6_fine]
  cases hz : hB n z with
  | false =>
    rw [hs_n hS.1 hz, ob_s, if_pos rfl, show fineP μ.2.1 nt n z = -1000000001 from by rw [fineP, hIx_f hz]]
    exact ⟨_, σ, μ, rfl, rfl, h⟩
  | true =>
    obtain ⟨k, hk, rfl⟩ := hB_t (by omega) hz
    have r4 : σ.1 (23 + k) 4 = μ.2.1 (6 + 7 * k + 4) := (hS.1.2.2.2.2.2.2.2 k hk).1 4 (by decide)
    have r5 : σ.1 (23 + k) 5 = μ.2.1 (6 + 7 * k + 5) := (hS.1.2.2.2.2.2.2.2 k hk).1 5 (by decide)
    rw [hs_y hS.1 hk, ob_s, if_neg (by decide), if_pos (by rw [nI_clamp (by omega), nI_lt0 (by omega), false_or]; omega), if_pos (by decide), hc, nI_clamp (show k < 2 ^ 31 by omega), r4, r5, show fineP μ.2.1 nt n (nI k) = fineK μ.2.1 nt k from by rw [fineP, hIx_k (by omega) hk], fineK]
    cases hO : lastO μ.2.1 (nI 2) nt with
    | none => exact ⟨_, σ, μ, rfl, rfl, h⟩
    | some t =>
      have hj := lastO_some hO
      obtain ⟨x, ex, tx⟩ := ht.2.2.2.1 t hj.1
      show RStp ε (oq (σ.2 18 t) _ _) _
      rw [show σ.2 18 t = some x from ex, oq_s, if_pos tx.1]
      obtain ⟨g, eg⟩ := value_eq (μ.2.1 (6 + 7 * k + 4)) (μ.2.1 (6 + 7 * k + 5)) (nI 0) (nmG (μ.2.1 (6 + 7 * k + 4)) (μ.2.1 (6 + 7 * k + 5))) tx (fun key j d hk hk2 hj2 => by
        rw [hj.2] at hk
        have hk : key = 2 := ((nI_eq (by decide) (by omega)).mp hk).symm
        subst hk
        rcases hj2 with ⟨h, -⟩ | ⟨h, -⟩ | ⟨-, ⟨rfl, rfl⟩ | ⟨rfl, rfl⟩⟩
        · omega
        · omega
        · rfl
        · rfl)
      rw [eg, ob_s, fn_X6_fine_L55]
      exact ⟨_, _, μ, rfl, rfl, rel_ft h ((Fs.pA g tx.1).ft 16)⟩
