/-! ===== the reference's functions ===== -/
theorem rel_r {ε : Ev} {σ : Sg} {μ : Mg} {r' : Nat → Nat → Int32} (h : Rel ε σ μ) (hr : ∀ j, j ≠ 2 → j ≠ 14 → j ≠ 29 → j ≠ 32 → r' j = μ.2.2 j) : Rel ε σ (μ.1, μ.2.1, r') := by
  obtain ⟨h1, h2, h3, h4, h5, h6, h7⟩ := h
  have e1 := hr 1 (by decide) (by decide) (by decide) (by decide)
  have e4 := hr 4 (by decide) (by decide) (by decide) (by decide)
  have e5 := hr 5 (by decide) (by decide) (by decide) (by decide)
  have e6 := hr 6 (by decide) (by decide) (by decide) (by decide)
  have e7 := hr 7 (by decide) (by decide) (by decide) (by decide)
  have e8 := hr 8 (by decide) (by decide) (by decide) (by decide)
  have e9 := hr 9 (by decide) (by decide) (by decide) (by decide)
  have e10 := hr 10 (by decide) (by decide) (by decide) (by decide)
  have e11 := hr 11 (by decide) (by decide) (by decide) (by decide)
  have e15 := hr 15 (by decide) (by decide) (by decide) (by decide)
  have e30 := hr 30 (by decide) (by decide) (by decide) (by decide)
  refine ⟨h1, ?_, ?_, ?_, ?_, ?_, h7⟩
  · unfold RImg at h2 ⊢; simp only [e1]; exact h2
  · unfold RTape at h3 ⊢; simp only [e15]; exact h3
  · unfold RSh at h4 ⊢; simp only [e4, e5, e6]; exact h4
  · unfold RSl at h5 ⊢; simp only [e7, e8, e9, e10, e11]; exact h5
  · unfold RWt at h6 ⊢; simp only [e30]; exact h6
section M7
variable {μ : Mg} {nt n : Nat}
theorem m_by : fn_X7_laysBy μ = some ((), (μ.1, μ.2.1, mU μ.2.2 14 (cpN 69 μ.2.1 (μ.2.2 14)))) := by rw [fn_X7_laysBy, cif_pos trivial]
theorem m_back : fn_X7_laysBack μ = some ((), (μ.1, cpN 69 (μ.2.2 14) μ.2.1, μ.2.2)) := by rw [fn_X7_laysBack, cif_pos trivial]
theorem stOK_n {s : Nat → Int32} (h : stOK s nt n) : nOf s = n ∧ tOf s = nt := by
  obtain ⟨h1, h2, h3, h4, h5⟩ := h
  exact ⟨by show (s 0).toNatClampNeg = n; rw [h4, nI_clamp (by omega)], by show (s 1).toNatClampNeg = nt; rw [h1, nI_clamp (by omega)]⟩
theorem m_on (h : stOK μ.2.1 nt n) : fn_X7_goesOn μ = some ((), (μ.1, dayS μ.2.1 nt n, μ.2.2)) := by
  obtain ⟨e1, e2⟩ := stOK_n h
  rw [fn_X7_goesOn, e1, e2, cif_pos h]
theorem m_many (h : stOK μ.2.1 nt n) {m : Nat} (hm : m ≤ 1000) : fn_X7_goesOnMany (nI m) μ = some ((), (μ.1, itS μ.2.1 nt n m, μ.2.2)) := by
  obtain ⟨e1, e2⟩ := stOK_n h
  rw [fn_X7_goesOnMany, e1, e2, nI_clamp (by omega), cif_pos ⟨h, by rw [nI_lt0 (by omega), false_or]; omega⟩]
theorem m_all (h : stOK μ.2.1 nt n) : fn_X7_allStanding μ = some (maskI (sd μ.2.1) n, μ) := by
  obtain ⟨e1, e2⟩ := stOK_n h
  have h0 : hN μ.2.1 := ⟨by rw [e1]; exact h.2.2.2.1, by rw [e1]; exact h.2.2.2.2⟩
  rw [fn_X7_allStanding, cif_pos h0, e1]
theorem m_sum (h : stOK μ.2.1 nt n) {k : Nat} (hk : k < 7) : fn_X7_allOf (nI k) μ = some (smS μ.2.1 k n, μ) := by
  obtain ⟨e1, e2⟩ := stOK_n h
  have h0 : hN μ.2.1 := ⟨by rw [e1]; exact h.2.2.2.1, by rw [e1]; exact h.2.2.2.2⟩
  rw [fn_X7_allOf, nI_clamp (by omega), cif_pos ⟨h0, by rw [nI_lt0 (by omega), false_or]; omega⟩, e1]
end M7
theorem laid_14 (s : Nat → Int32) (r : Nat → Nat → Int32) : ∀ j, j < 69 → mU r 14 (cpN 69 s (r 14)) 14 j = s j := (lb_1 s r).1
theorem laid_r (s : Nat → Int32) (r : Nat → Nat → Int32) : ∀ j, j ≠ 2 → j ≠ 14 → j ≠ 29 → j ≠ 32 → mU r 14 (cpN 69 s (r 14)) j = r j := (lb_1 s r).2
/-- the answers of lasts -/
theorem lasts7 {μ : Mg} {nt n : Nat} (h : stOK μ.2.1 nt n) : fn_X7_lasts μ = some (noneI (lsO μ.2.1 nt n 300 1), (μ.1, μ.2.1, mU μ.2.2 14 (cpN 69 μ.2.1 (μ.2.2 14)))) := by
  have hn9 := h.2.2.2.2
  rw [fn_X7_lasts, m_by, ob_s, m_all (μ := (μ.1, μ.2.1, mU μ.2.2 14 (cpN 69 μ.2.1 (μ.2.2 14)))) h, ob_s]
  have back : ∀ k, cpN 69 (mU μ.2.2 14 (cpN 69 μ.2.1 (μ.2.2 14)) 14) (itS μ.2.1 nt n k) = μ.2.1 := fun k => cp_back (laid_14 _ _) (itS_hi _ nt n hn9 k)
  have L : ∀ (g f j : Nat), j + g = 300 → g + 2 ≤ f → lsO μ.2.1 nt n g (j + 1) = lsO μ.2.1 nt n 300 1 → fn_X7_lasts_L13 (fn_X7_lasts_L48) f (maskI (sd μ.2.1) n) (-1) (nI (j + 1)) (μ.1, itS μ.2.1 nt n j, mU μ.2.2 14 (cpN 69 μ.2.1 (μ.2.2 14))) = some (noneI (lsO μ.2.1 nt n 300 1), (μ.1, μ.2.1, mU μ.2.2 14 (cpN 69 μ.2.1 (μ.2.2 14)))) := by
    intro g
    induction g with
    | zero =>
      intro f j h1 h2 hE
      obtain ⟨f, rfl⟩ : ∃ q, f = q + 1 := ⟨f - 1, by omega⟩
      simp only [fn_X7_lasts_L13, fn_X7_lasts_L48]
      rw [if_pos (nI_lt (by omega) (by omega)), m_back, ob_s, fn_X7_orNone, o1_s, ← hE]
      show some (_, (μ.1, cpN 69 _ (itS μ.2.1 nt n j), _)) = _
      rw [back]
      rfl
    | succ g ih =>
      intro f j h1 h2 hE
      obtain ⟨f, rfl⟩ : ∃ q, f = q + 1 := ⟨f - 1, by omega⟩
      simp only [fn_X7_lasts_L13, fn_X7_lasts_L41]
      have hk := stOK_it h j
      have hk1 : stOK (dayS (itS μ.2.1 nt n j) nt n) nt n := stOK_it h (j + 1)
      rw [if_neg (nI_nlt (by omega) (by omega)), if_neg (by decide), m_on (μ := (μ.1, itS μ.2.1 nt n j, mU μ.2.2 14 (cpN 69 μ.2.1 (μ.2.2 14)))) hk, ob_s, m_all (μ := (μ.1, dayS (itS μ.2.1 nt n j) nt n, mU μ.2.2 14 (cpN 69 μ.2.1 (μ.2.2 14)))) hk1, ob_s, nI_add]
      have eL : lsO μ.2.1 nt n (g + 1) (j + 1) = if maskI (sd (itS μ.2.1 nt n (j + 1))) n = maskI (sd μ.2.1) n then lsO μ.2.1 nt n g (j + 1 + 1) else some (j + 1) := rfl
      by_cases hm : maskI (sd (itS μ.2.1 nt n (j + 1))) n = maskI (sd μ.2.1) n
      · rw [if_pos (show maskI (sd (dayS (itS μ.2.1 nt n j) nt n)) n = maskI (sd μ.2.1) n from hm)]
        rw [eL, if_pos hm] at hE
        exact ih f (j + 1) (by omega) (by omega) hE
      · rw [if_neg (show ¬ maskI (sd (dayS (itS μ.2.1 nt n j) nt n)) n = maskI (sd μ.2.1) n from hm)]
        rw [eL, if_neg hm] at hE
        obtain ⟨f, rfl⟩ : ∃ q, f = q + 1 := ⟨f - 1, by omega⟩
        simp only [fn_X7_lasts_L13, fn_X7_lasts_L48]
        rw [if_pos (nI_pos' (by omega)), ite_self, m_back, ob_s, fn_X7_orNone, o1_s, ← hE]
        show some (_, (μ.1, cpN 69 _ (itS μ.2.1 nt n (j + 1)), _)) = _
        rw [back, if_neg (nI_pos (by omega))]
        rfl
  exact L 300 4000 0 (by omega) (by omega) rfl
