theorem bdS {s : Nat → Int32} {k j : Nat} {u : Int32} (h : sBd s k) (h1 : 1 ≤ j) (h5 : j ≤ 5) (hm : mayB (nI j) u = true) : sBd (upd s (6 + 7 * k + j) u) k := by
  obtain ⟨kd, w, wl, cr, pr, b0, b0', b1, b1', b1'', b3, b3', b4, b4', b5, b5', b2, b2'⟩ := h
  have e : j = 1 ∨ j = 2 ∨ j = 3 ∨ j = 4 ∨ j = 5 := by omega
  rcases e with rfl | rfl | rfl | rfl | rfl
  · obtain ⟨m, m1, m2, rfl⟩ := inB_t (lo := 1) (hi := 99) (by decide) (by decide) (show inB u 1 99 = true from hm)
    exact ⟨kd, m, wl, cr, pr, by rw [pk_un (by omega)]; exact b0, b0', pk_us, m1, m2, by rw [pk_un (by omega)]; exact b3, b3', by rw [pk_un (by omega)]; exact b4, b4', by rw [pk_un (by omega)]; exact b5, b5', by rw [pk_un (by omega)]; exact b2, by rw [pk_un (by omega)]; exact b2'⟩
  · have hm : inB u (-50) 50 = true := hm
    rw [inB, Bool.and_eq_true, decide_eq_true_eq, decide_eq_true_eq] at hm
    have q1 := Int32.le_iff_toInt_le.mp hm.1
    have q2 := Int32.le_iff_toInt_le.mp hm.2
    rw [show (-50 : Int32).toInt = -50 from by decide] at q1
    rw [show (50 : Int32).toInt = 50 from by decide] at q2
    exact ⟨kd, w, wl, cr, pr, by rw [pk_un (by omega)]; exact b0, b0', by rw [pk_un (by omega)]; exact b1, b1', b1'', by rw [pk_un (by omega)]; exact b3, b3', by rw [pk_un (by omega)]; exact b4, b4', by rw [pk_un (by omega)]; exact b5, b5', by rw [pk_us]; exact q1, by rw [pk_us]; exact q2⟩
  · obtain ⟨m, m1, m2, rfl⟩ := inB_t (lo := 0) (hi := 99) (by decide) (by decide) (show inB u 0 99 = true from hm)
    exact ⟨kd, w, m, cr, pr, by rw [pk_un (by omega)]; exact b0, b0', by rw [pk_un (by omega)]; exact b1, b1', b1'', pk_us, m2, by rw [pk_un (by omega)]; exact b4, b4', by rw [pk_un (by omega)]; exact b5, b5', by rw [pk_un (by omega)]; exact b2, by rw [pk_un (by omega)]; exact b2'⟩
  · obtain ⟨m, m1, m2, rfl⟩ := inB_t (lo := 0) (hi := 999) (by decide) (by decide) (show inB u 0 999 = true from hm)
    exact ⟨kd, w, wl, m, pr, by rw [pk_un (by omega)]; exact b0, b0', by rw [pk_un (by omega)]; exact b1, b1', b1'', by rw [pk_un (by omega)]; exact b3, b3', pk_us, m2, by rw [pk_un (by omega)]; exact b5, b5', by rw [pk_un (by omega)]; exact b2, by rw [pk_un (by omega)]; exact b2'⟩
  · obtain ⟨m, m1, m2, rfl⟩ := inB_t (lo := 0) (hi := 9) (by decide) (by decide) (show inB u 0 9 = true from hm)
    exact ⟨kd, w, wl, cr, m, by rw [pk_un (by omega)]; exact b0, b0', by rw [pk_un (by omega)]; exact b1, b1', b1'', by rw [pk_un (by omega)]; exact b3, b3', by rw [pk_un (by omega)]; exact b4, b4', pk_us, m2, by rw [pk_un (by omega)]; exact b2, by rw [pk_un (by omega)]; exact b2'⟩
theorem part_eq {ε : Ev} {c j : Nat} {σ : Sg} (h5 : j ≤ 5) : fn_X0_part ε c (nI j) σ = some (σ.1 c j, σ) := by
  have e : j = 0 ∨ j = 1 ∨ j = 2 ∨ j = 3 ∨ j = 4 ∨ j = 5 := by omega
  rcases e with rfl | rfl | rfl | rfl | rfl | rfl <;> rfl
theorem become_eq {ε : Ev} {c j : Nat} {u : Int32} {σ : Sg} (h1 : 1 ≤ j) (h5 : j ≤ 5) : fn_X0_becomes ε c (nI j) u σ = some ((), pI σ c j u) := by
  have e : j = 1 ∨ j = 2 ∨ j = 3 ∨ j = 4 ∨ j = 5 := by omega
  rcases e with rfl | rfl | rfl | rfl | rfl <;> rfl
theorem set_ok {ε : Ev} {σ : Sg} {μ : Mg} (h : Rel ε σ μ) (z y u : Int32) : RStp ε (fn_X6_set ε z y u σ) (fn_X7_set z y u μ) := by
  obtain ⟨n, nt, d, hS, hd, hd2⟩ := h.1
  have hn9 := hS.1.1
  rw [fn_X7_set, cif_pos (hN_ok hS), hS.nOf.1, fn_X6_set]
  simp only [fn_X6_set_L26]
  cases hz : hB n z with
  | false =>
    rw [hs_n hS.1 hz, ob_s, if_pos rfl, show setP μ.2.1 n z y u = (-1000000001, μ.2.1) from by rw [setP, hIx_f hz]]
    exact ⟨_, σ, μ, rfl, rfl, h⟩
  | true =>
    obtain ⟨k, hk, rfl⟩ := hB_t (by omega) hz
    rw [hs_y hS.1 hk, ob_s, if_neg (by decide)]
    have no : mayB y u = false → setP μ.2.1 n (nI k) y u = (-1000000001, μ.2.1) := fun e => by rw [setP, hIx_k (by omega) hk]; simp only [e]; rfl
    by_cases h1 : y < nI 1
    · rw [if_pos h1, no (by
        cases hm : mayB y u with
        | false => rfl
        | true =>
          obtain ⟨j, j1, j5, rfl⟩ := mayB_t hm
          exact absurd ((nI_ltI (by omega) (by omega)).mp h1) (by omega))]
      exact ⟨_, σ, μ, rfl, rfl, h⟩
    rw [if_neg h1]
    by_cases h2 : nI 5 < y
    · rw [if_pos h2, no (by
        cases hm : mayB y u with
        | false => rfl
        | true =>
          obtain ⟨j, j1, j5, rfl⟩ := mayB_t hm
          exact absurd ((nI_ltI (by omega) (by omega)).mp h2) (by omega))]
      exact ⟨_, σ, μ, rfl, rfl, h⟩
    rw [if_neg h2]
    have hy0 : ¬ y < 0 := fun q => h1 (Int32.lt_trans q (by decide))
    obtain ⟨j, hj, rfl⟩ := nI_of hy0
    have j1 : 1 ≤ j := Nat.le_of_not_lt fun q => h1 (nI_lt q (by omega))
    have j5 : j ≤ 5 := Nat.le_of_not_lt fun q => h2 (nI_lt q hj)
    rw [fits_eq j1 j5, o1_s]
    simp only [bI_0]
    cases hm : mayB (nI j) u with
    | false =>
      rw [if_pos rfl, no hm]
      exact ⟨_, σ, μ, rfl, rfl, h⟩
    | true =>
      have r := (hS.1.2.2.2.2.2.2.2 k hk).1 j (by omega)
      rw [if_neg (by decide), if_pos (by rw [nI_clamp (by omega), nI_lt0 (by omega), false_or]; omega), nI_clamp (show k < 2 ^ 31 by omega), show 23 + k = 16 + 7 + k from rfl, part_eq j5, ob_s, become_eq j1 j5, ob_s, r, show setP μ.2.1 n (nI k) (nI j) u = (μ.2.1 (6 + 7 * k + j), upd μ.2.1 (6 + 7 * k + j) u) from by rw [setP, hIx_k (by omega) hk]; simp only [hm, nI_clamp (show j < 2 ^ 31 by omega)]; rfl]
      have S2 := setO (c := 16) (by decide) hk (show j < 6 by omega) hS (bdS (hS.2.2.1 k hk) j1 j5 hm)
      refine ⟨_, _, _, rfl, rfl, ?_⟩
      exact rel_now h (fun x a _ => by rw [pI_nc (by omega)]) (fun x _ _ => rfl) h.2.2.2.2.2.2 ⟨n, nt, d, S2, hd, by show upd μ.2.1 (6 + 7 * k + j) u 2 = nI d; rw [pk_un (by omega)]; exact hd2⟩
