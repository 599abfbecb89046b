theorem many7 {μ : Mg} {nt n : Nat} (h : stOK μ.2.1 nt n) : fn_X7_manyIn (maskI (sd μ.2.1) n) = some (nI (cntS μ.2.1 n)) := by
  have hn9 := h.2.2.2.2
  have hl : maskN (sd μ.2.1) n < 512 := Nat.lt_of_lt_of_le (maskN_lt _ _) (Nat.pow_le_pow_right (by decide) hn9)
  rw [mask_nI _ n (by omega), fn_X7_manyIn, if_pos (by rw [nI_clamp (by omega), nI_lt0 (by omega), false_or]; omega), nI_clamp (by omega)]
  rfl
theorem count_ok {ε : Ev} {σ : Sg} {μ : Mg} (h : Rel ε σ μ) (z : Int32) : RStp ε (fn_X6_count ε z σ) (fn_X7_count z μ) := by
  obtain ⟨n, nt, d, hS, hd, hd2⟩ := h.1
  obtain ⟨tp, t1, t2, t3, t4⟩ := h.2.2.1
  obtain ⟨u, u1, u2, u3, u4⟩ := h.2.2.2.2.2.1
  have e6 : σ.1 16 6 = μ.2.1 0 := hS.1.2.2.1.trans hS.1.2.1.symm
  have e7 : σ.1 16 7 = μ.2.1 1 := hS.2.1.2.2.1.trans hS.2.1.2.1.symm
  have e10 : σ.1 16 10 = μ.2.1 2 := hS.1.2.2.2.2.2.1
  have e8 : σ.1 16 8 = μ.2.1 4 := hS.1.2.2.2.1
  have e11 : σ.1 16 11 = μ.2.1 5 := hS.1.2.2.2.2.2.2.1
  simp only [fn_X6_count, fn_X7_count, many_eq hS.1, ob_s, m_all hS.ok, many7 hS.ok, o1_s]
  by_cases h0 : z = nI 0
  · rw [if_pos h0, if_pos h0, if_pos (by decide)]; exact ⟨_, σ, μ, rfl, by rw [e6]; rfl, h⟩
  rw [if_neg h0, if_neg h0]
  by_cases h1 : z = nI 1
  · rw [if_pos h1, if_pos h1]; exact ⟨_, σ, μ, rfl, rfl, h⟩
  rw [if_neg h1, if_neg h1]
  by_cases h2 : z = nI 2
  · rw [if_pos h2, if_pos h2, if_pos (by decide)]; exact ⟨_, σ, μ, rfl, by rw [e10]; rfl, h⟩
  rw [if_neg h2, if_neg h2]
  by_cases h3 : z = nI 3
  · rw [if_pos h3, if_pos h3, if_pos (by decide)]; exact ⟨_, σ, μ, rfl, by rw [e8]; rfl, h⟩
  rw [if_neg h3, if_neg h3]
  by_cases h4 : z = nI 4
  · rw [if_pos h4, if_pos h4, if_pos (by decide)]; exact ⟨_, σ, μ, rfl, by rw [e7]; rfl, h⟩
  rw [if_neg h4, if_neg h4]
  by_cases h5 : z = nI 5
  · rw [if_pos h5, if_pos h5]; exact ⟨_, σ, μ, rfl, by rw [u2, u3], h⟩
  rw [if_neg h5, if_neg h5]
  by_cases h6 : z = nI 6
  · rw [if_pos h6, if_pos h6]; exact ⟨_, σ, μ, rfl, by rw [t2, t3], h⟩
  rw [if_neg h6, if_neg h6]
  by_cases h7 : z = nI 7
  · rw [if_pos h7, if_pos h7, if_pos (by decide)]; exact ⟨_, σ, μ, rfl, by rw [e11]; rfl, h⟩
  rw [if_neg h7, if_neg h7]
  exact ⟨_, σ, μ, rfl, rfl, h⟩
/-- a number of the street's head has changed -/
theorem StO_z {ε : Ev} {σ : Sg} {n nt : Nat} {s : Nat → Int32} {z : Int32} (hS : StO ε σ 16 s nt n) : StO ε (pI σ 16 11 z) 16 (upd s 5 z) nt n := by
  obtain ⟨⟨a1, a2, a3, a4, a5, a6, a7, a8⟩, hT, hB, hs⟩ := hS
  have hk : ∀ (x k : Nat), x ≠ 16 → (pI σ 16 11 z).1 x k = σ.1 x k := fun x k hx => by rw [pI_nc hx]
  refine ⟨⟨a1, by rw [pk_un (by decide)]; exact a2, by rw [pI_n (Or.inr (by decide))]; exact a3, by rw [pI_n (Or.inr (by decide)), pk_un (by decide)]; exact a4, by rw [pI_n (Or.inr (by decide)), pk_un (by decide)]; exact a5, by rw [pI_n (Or.inr (by decide)), pk_un (by decide)]; exact a6, by rw [pI_e, pk_us], fun k hk9 => ?_⟩, ?_, fun k hk9 => ?_, by rw [pk_un (by decide)]; exact hs⟩
  · obtain ⟨b1, b2, b3⟩ := a8 k hk9
    exact ⟨fun w hw => by rw [hk _ _ (by omega), pk_un (by omega)]; exact b1 w hw, by rw [hk _ _ (by omega), pk_un (by omega)]; exact b2, by rw [pk_un (by omega)]; exact b3⟩
  · exact hT.fr rfl (by rw [pI_n (Or.inr (by decide))]) (fun y h7 _ => by rw [pI_nc (by omega)]) (pk_un (by decide)) (fun j hj => pk_un (by omega))
  · obtain ⟨kd, w, wl, cr, pr, b0, b0', b1, b1', b1'', b3, b3', b4, b4', b5, b5', b2, b2'⟩ := hB k hk9
    exact ⟨kd, w, wl, cr, pr, by rw [pk_un (by omega)]; exact b0, b0', by rw [pk_un (by omega)]; exact b1, b1', b1'', by rw [pk_un (by omega)]; exact b3, b3', by rw [pk_un (by omega)]; exact b4, b4', by rw [pk_un (by omega)]; exact b5, b5', by rw [pk_un (by omega)]; exact b2, by rw [pk_un (by omega)]; exact b2'⟩
theorem seed_ok {ε : Ev} {σ : Sg} {μ : Mg} (h : Rel ε σ μ) (z : Int32) : RStp ε (fn_X6_seed ε z σ) (fn_X7_seed z μ) := by
  obtain ⟨n, nt, d, hS, hd, hd2⟩ := h.1
  have e11 : σ.1 16 11 = μ.2.1 5 := hS.1.2.2.2.2.2.2.1
  rw [fn_X6_seed, fn_X7_seed, cif_pos trivial, e11]
  refine ⟨_, pI σ 16 11 z, _, rfl, rfl, ?_⟩
  exact rel_now h (fun x a _ => pI_nc (by omega)) (fun x _ _ => rfl) h.2.2.2.2.2.2 ⟨n, nt, d, StO_z hS, hd, by show upd μ.2.1 5 z 2 = nI d; rw [pk_un (by decide)]; exact hd2⟩
theorem behind_ok {ε : Ev} {σ : Sg} {μ : Mg} (h : Rel ε σ μ) (z y : Int32) : RStp ε (fn_X6_behind ε z y σ) (fn_X7_behind z y μ) := by
  obtain ⟨n, nt, d, hS, hd, hd2⟩ := h.1
  have hn9 := hS.1.1
  have e6 : σ.1 16 6 = nI n := hS.1.2.2.1
  have e0 : μ.2.1 (nI 0).toNatClampNeg = nI n := hS.1.2.1
  simp only [fn_X6_behind, fn_X6_behind_L27, fn_X7_behind, fn_X7_behind_L30, bI_0, e6, e0, nI_add]
  by_cases h1 : z < 0
  · rw [if_pos h1, if_pos (inB_1 h1)]; exact ⟨_, σ, μ, rfl, rfl, h⟩
  rw [if_neg h1]
  by_cases h2 : nI 100 < z
  · rw [if_pos h2, if_pos (inB_2 (Int32.not_le.mpr (show 100 < z from h2)))]; exact ⟨_, σ, μ, rfl, rfl, h⟩
  have t1 : inB z 0 100 = true := inB_3 h1 (Int32.not_lt.mp (show ¬ 100 < z from h2))
  rw [if_neg h2, if_neg (show ¬ (inB z 0 100 = false) from by rw [t1]; decide), if_pos (show ¬ (nI 0 < 0 ∨ 3069 ≤ (nI 0).toNatClampNeg) from by decide)]
  by_cases h3 : y < 0
  · rw [if_pos h3, if_pos (inB_1 h3)]; exact ⟨_, σ, μ, rfl, rfl, h⟩
  rw [if_neg h3]
  obtain ⟨u, hu, rfl⟩ := nI_of h3
  by_cases h4 : nI u < nI (3 + n)
  · have q : u < 3 + n := (nI_ltI hu (by omega)).mp h4
    rw [if_pos h4, if_neg (show ¬ (inB (nI u) 0 (nI (2 + n)) = false) from by rw [inB_3 h3 (nI_le (by omega) (by omega))]; decide)]
    obtain ⟨m, m1, m2, rfl⟩ := inB_t (lo := 0) (hi := 100) (by decide) (by decide) t1
    obtain ⟨τ, e1, hR, hS1⟩ := think_eq h hS
    obtain ⟨τ2, e2, f2, S2⟩ := goOn_eq (ε := ε) (c := 48) (m := m) (by decide) (by omega) hS1
    have hr2 := rel_fr48 hR f2
    have hk : stOK (itS μ.2.1 nt n m) nt n := S2.ok
    rw [e1, ob_s, if_pos (by decide), e2, ob_s, m_by, ob_s, m_many (μ := (μ.1, μ.2.1, mU μ.2.2 14 (cpN 69 μ.2.1 (μ.2.2 14)))) hS.ok (by omega), ob_s]
    have back : cpN 69 (mU μ.2.2 14 (cpN 69 μ.2.1 (μ.2.2 14)) 14) (itS μ.2.1 nt n m) = μ.2.1 := cp_back (laid_14 _ _) (itS_hi _ nt n hn9 m)
    have fin : ∀ v : Int32, fn_X7_behind_L88 (nI m) (nI u) v (μ.1, itS μ.2.1 nt n m, mU μ.2.2 14 (cpN 69 μ.2.1 (μ.2.2 14))) = some (v, (μ.1, μ.2.1, mU μ.2.2 14 (cpN 69 μ.2.1 (μ.2.2 14)))) := by
      intro v
      rw [fn_X7_behind_L88, m_back, ob_s]
      show some (v, (μ.1, cpN 69 _ (itS μ.2.1 nt n m), _)) = _
      rw [back]
    have hrr : Rel ε τ2 (μ.1, μ.2.1, mU μ.2.2 14 (cpN 69 μ.2.1 (μ.2.2 14))) := rel_r hr2 (laid_r _ _)
    by_cases u0 : nI u = nI 0
    · rw [if_pos u0, if_pos (show nI u = 0 from u0), standing_eq S2.1, ob_s, m_all (μ := (μ.1, itS μ.2.1 nt n m, mU μ.2.2 14 (cpN 69 μ.2.1 (μ.2.2 14)))) hk, ob_s, fin]
      exact ⟨_, τ2, _, rfl, rfl, hrr⟩
    rw [if_neg u0, if_neg (show ¬ nI u = 0 from u0)]
    by_cases u1 : nI u = nI 1
    · rw [if_pos u1, if_pos u1, cracks_eq S2.1, ob_s, m_sum (μ := (μ.1, itS μ.2.1 nt n m, mU μ.2.2 14 (cpN 69 μ.2.1 (μ.2.2 14)))) hk (by decide), ob_s, fin]
      exact ⟨_, τ2, _, rfl, rfl, hrr⟩
    rw [if_neg u1, if_neg u1]
    by_cases u2 : nI u = nI 2
    · rw [if_pos u2, if_pos u2, if_pos (by decide), fin]
      exact ⟨_, τ2, _, by rw [S2.1.2.2.2.2.1]; rfl, rfl, hrr⟩
    rw [if_neg u2, if_neg u2]
    have hu3 : 3 ≤ u := by
      have a0 : u ≠ 0 := fun e => u0 (by rw [e])
      have a1 : u ≠ 1 := fun e => u1 (by rw [e])
      have a2 : u ≠ 2 := fun e => u2 (by rw [e])
      omega
    have r2 := (S2.1.2.2.2.2.2.2.2 (u - 3) (by omega)).1 2 (by decide)
    rw [pk_sub hu3, if_pos (by rw [nI_clamp (by omega), nI_lt0 (by omega), false_or]; omega), nI_clamp (by omega), fn_X7_of, pk_mul, nI_add, nI_add, if_pos (by rw [nI_clamp (by omega), nI_lt0 (by omega), false_or]; omega), ob_s, fin, nI_clamp (by omega)]
    exact ⟨_, τ2, _, by rw [show 55 + (u - 3) = 48 + 7 + (u - 3) from rfl, r2], rfl, hrr⟩
  · have q : ¬ u < 3 + n := fun q => h4 (nI_lt q (by omega))
    rw [if_neg h4, if_pos (inB_2 (nI_ge (by omega) hu))]
    exact ⟨_, σ, μ, rfl, rfl, h⟩
