theorem mask_cnt {s : Nat → Int32} {nt n j : Nat} (hn : n ≤ 9) : (maskI (sd (itS s nt n j)) n = maskI (sd s) n) ↔ cntS (itS s nt n j) n = cntS s n := by
  rw [← ff_keep hn]
  constructor
  · intro h; exact h j (Nat.le_refl j)
  · intro h i hi
    have a1 := it_cnt s nt n i hn
    have a2 := it_cnt (itS s nt n i) nt n (j - i) hn
    rw [← itS_add, show i + (j - i) = j by omega] at a2
    omega
theorem lsO_some {s : Nat → Int32} {nt n i : Nat} : ∀ (g k : Nat), (∀ j, k ≤ j → j < i → maskI (sd (itS s nt n j)) n = maskI (sd s) n) → ¬ maskI (sd (itS s nt n i)) n = maskI (sd s) n → k ≤ i → i < k + g → lsO s nt n g k = some i := by
  intro g
  induction g with
  | zero => intro k _ _ h1 h2; omega
  | succ g ih =>
    intro k h h0 h1 h2
    rw [lsO]
    by_cases e : k = i
    · subst e; rw [if_neg h0]
    · rw [if_pos (h k (Nat.le_refl k) (by omega))]
      exact ih (k + 1) (fun j a b => h j (by omega) b) h0 (by omega) (by omega)
theorem lsO_none {s : Nat → Int32} {nt n : Nat} : ∀ (g k : Nat), (∀ j, k ≤ j → j < k + g → maskI (sd (itS s nt n j)) n = maskI (sd s) n) → lsO s nt n g k = none := by
  intro g
  induction g with
  | zero => intro k _; rfl
  | succ g ih =>
    intro k h
    rw [lsO, if_pos (h k (Nat.le_refl k) (by omega))]
    exact ih (k + 1) (fun j a b => h j (by omega) (by omega))
theorem lasts_ok {ε : Ev} {σ : Sg} {μ : Mg} (h : Rel ε σ μ) : RStp ε (fn_X6_lasts ε σ) (fn_X7_lasts μ) := by
  obtain ⟨n, nt, d, hS, hd, hd2⟩ := h.1
  have hn9 := hS.1.1
  obtain ⟨τ, e1, hR, hS1⟩ := think_eq h hS
  obtain ⟨z, τ2, s2, e2, f2, S2, hF⟩ := ff_eq (ε := ε) (c := 48) (m := 300) (by decide) (by decide) hS1
  have hr2 := rel_fr48 hR f2
  rw [lasts7 hS.ok]
  refine ⟨noneI (lsO μ.2.1 nt n 300 1), τ2, _, ?_, rfl, rel_r hr2 (laid_r _ _)⟩
  rw [fn_X6_lasts, e1, ob_s, if_pos (by decide), e2, ob_s]
  simp only [fn_X6_lasts_L25]
  rcases hF with ⟨i, h1, h2, rfl, h4, h5, -⟩ | ⟨rfl, h6⟩
  · rw [if_neg (by rw [nI_z (by omega)]; omega), lsO_some 300 1 (fun j a b => (mask_cnt hn9).mpr (h5 j b)) (fun q => by have := (mask_cnt hn9).mp q; omega) h1 (by omega)]
    rfl
  · rw [if_pos (by decide), lsO_none 300 1 (fun j a b => (mask_cnt hn9).mpr (h6 j (by omega)))]
    rfl
theorem snd_i (a b : Int32) (σ : Sg) (h : a = b) : some (a, σ) = some (b, σ) := by rw [h]
theorem bI_0 {b : Bool} : (bI b = 0) = (b = false) := by cases b <;> simp [bI]
theorem days_ok {ε : Ev} {σ : Sg} {μ : Mg} (h : Rel ε σ μ) (z : Int32) : RStp ε (fn_X6_days ε z σ) (fn_X7_days z μ) := by
  obtain ⟨n, nt, d, hS, hd, hd2⟩ := h.1
  have hn9 := hS.1.1
  obtain ⟨en, et⟩ := stOK_n hS.ok
  have ed : (μ.2.1 2).toNatClampNeg = d := by rw [hd2, nI_clamp (by omega)]
  rw [fn_X7_days, en, et, ed, cif_pos ⟨hS.ok, hd2, hd⟩]
  simp only [fn_X6_days, fn_X6_days_L11]
  by_cases h1 : z < nI 1
  · rw [if_pos h1, show daysP μ.2.1 nt n d z = (-1000000001, μ.2.1) from by rw [daysP, inB_1 (show z < 1 from h1)]; rfl]
    exact ⟨_, σ, μ, rfl, rfl, h⟩
  · rw [if_neg h1]
    by_cases h2 : z ≤ nI 100
    · obtain ⟨m, m1, m2, rfl⟩ := inB_t (lo := 1) (hi := 100) (by decide) (by decide) (inB_3 (show ¬ z < nI 1 from h1) h2)
      rw [if_pos h2, many_eq hS.1, ob_s, show σ.1 16 10 = nI d from hS.1.2.2.2.2.2.1.trans hd2, pk_sub (by omega)]
      have em : mnI (nI m) (nI (9999 - d)) = nI (min m (9999 - d)) := by
        unfold mnI
        by_cases q : 9999 - d < m
        · rw [if_pos (nI_lt q (by omega)), Nat.min_eq_right (by omega)]
        · rw [if_neg (nI_nlt (by omega) (by omega)), Nat.min_eq_left (by omega)]
      obtain ⟨σ1, e1, f1, S1⟩ := goOn_eq (ε := ε) (c := 16) (m := min m (9999 - d)) (by decide) (by omega) hS
      rw [em, e1, ob_s, many_eq S1.1, ob_s, show daysP μ.2.1 nt n d (nI m) = (nI (cntS μ.2.1 n) - nI (cntS (itS μ.2.1 nt n (min m (9999 - d))) n), itS μ.2.1 nt n (min m (9999 - d))) from by rw [daysP, inB_3 (show ¬ nI m < 1 from h1) (show nI m ≤ 100 from h2), nI_clamp (by omega)]; rfl]
      refine ⟨_, σ1, _, rfl, rfl, ?_⟩
      exact rel_now h (fun x a b => f1.1 x (by omega) b) (fun x _ _ => by rw [f1.2]) (h.2.2.2.2.2.2.same f1.2) ⟨n, nt, d + min m (9999 - d), S1, by omega, itS_2 hn9 hd2 _⟩
    · rw [if_neg h2, show daysP μ.2.1 nt n d z = (-1000000001, μ.2.1) from by rw [daysP, inB_2 (show ¬ z ≤ 100 from h2)]; rfl]
      exact ⟨_, σ, μ, rfl, rfl, h⟩
