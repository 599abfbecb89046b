section M7b
variable {μ : Mg} {nt n : Nat}
theorem m_isH (h : stOK μ.2.1 nt n) (z : Int32) : fn_X7_isHouse z μ = some (bI (hB n z), μ) := by
  rw [fn_X7_isHouse, if_pos (show ¬ (nI 0 < 0 ∨ 3069 ≤ (nI 0).toNatClampNeg) from by decide), show μ.2.1 (nI 0).toNatClampNeg = nI n from h.2.2.2.1, show inB z 0 (nI n - nI 1) = hB n z from rfl]
  cases hB n z <;> rfl
theorem m_at {k w : Nat} (hk : k < 9) (hw : w < 7) : fn_X7_of (nI k) (nI w) μ = some (μ.2.1 (6 + 7 * k + w), μ) := by
  rw [fn_X7_of, pk_mul, nI_add, nI_add, nI_clamp (by omega), if_pos (by rw [nI_lt0 (by omega), false_or]; omega)]
theorem m_sets {k w : Nat} {x : Int32} (hk : k < 9) (hw : w < 7) : fn_X7_sets (nI k) (nI w) x μ = some ((), (μ.1, upd μ.2.1 (6 + 7 * k + w) x, μ.2.2)) := by
  rw [fn_X7_sets, pk_mul, nI_add, nI_add, nI_clamp (by omega), if_pos (by rw [nI_lt0 (by omega), false_or]; omega)]
theorem m_stands {k : Nat} (hk : k < 9) : fn_X7_stands (nI k) μ = some (bI (sd μ.2.1 k), μ) := by
  rw [fn_X7_stands, m_at hk (by decide), ob_s]
  simp only [fn_X7_stands_L15]
  by_cases hs : μ.2.1 (6 + 7 * k + 6) = 0
  · rw [if_pos hs, if_pos (by decide), show sd μ.2.1 k = true from decide_eq_true hs]; rfl
  · rw [if_neg hs, if_pos (by decide), show sd μ.2.1 k = false from decide_eq_false hs]; rfl
theorem m_falls {k : Nat} (hk : k < 9) : fn_X7_falls (nI k) μ = some ((), (μ.1, fallS μ.2.1 k, μ.2.2)) := by
  rw [fn_X7_falls, m_sets hk (by decide), ob_s, m_sets hk (by decide), ob_s]
  rfl
end M7b
theorem taken_ok {ε : Ev} {σ : Sg} {μ : Mg} (h : Rel ε σ μ) (z y : Int32) : RStp ε (fn_X6_taken ε z y σ) (fn_X7_taken z y μ) := by
  obtain ⟨n, nt, d, hS, hd, hd2⟩ := h.1
  have hn9 := hS.1.1
  rw [fn_X6_taken, fn_X7_taken, m_isH hS.ok, ob_s]
  simp only [fn_X6_taken_L19, fn_X7_taken_L20, bI_0]
  cases hz : hB n z with
  | false =>
    rw [hs_n hS.1 hz, ob_s, if_pos rfl, if_pos rfl]
    exact ⟨_, σ, μ, rfl, rfl, h⟩
  | true =>
    obtain ⟨k, hk, rfl⟩ := hB_t (by omega) hz
    rw [hs_y hS.1 hk, ob_s, if_neg (show ¬ ((1 : Int32) = 0) from by decide), if_neg (show ¬ (true = false) from by decide)]
    by_cases h1 : y < nI 1
    · rw [if_pos h1, if_pos (show inB y 1 60 = false from inB_1 h1)]; exact ⟨_, σ, μ, rfl, rfl, h⟩
    rw [if_neg h1]
    by_cases h2 : y ≤ nI 60
    · have ty : inB y 1 60 = true := inB_3 h1 h2
      obtain ⟨m, m1, m2, rfl⟩ := inB_t (lo := 1) (hi := 60) (by decide) (by decide) ty
      rw [if_pos h2, if_neg (show ¬ (inB (nI m) 1 60 = false) from by rw [ty]; decide), if_pos (by rw [nI_clamp (by omega), nI_lt0 (by omega), false_or]; omega), nI_clamp (by omega), m_stands (by omega), ob_s]
      have hst : (σ.1 (23 + k) 6 = 0) = (sd μ.2.1 k = false) := hR_st (hS.1.2.2.2.2.2.2.2 k hk)
      cases hc : sd μ.2.1 k with
      | false =>
        rw [if_pos (show σ.1 (23 + k) 6 = 0 from by rw [hst]; exact hc), if_pos (show bI false = 0 from rfl)]
        exact ⟨_, σ, μ, rfl, rfl, h⟩
      | true =>
        rw [if_neg (show ¬ σ.1 (23 + k) 6 = 0 from by rw [hst, hc]; decide), if_neg (show ¬ bI true = 0 from by decide)]
        obtain ⟨τ, e1, hR, hS1⟩ := think_eq h hS
        obtain ⟨τ2, e2, f2, S2⟩ := goOn_eq (ε := ε) (c := 48) (m := m) (by decide) (by omega) hS1
        have hr2 := rel_fr48 hR f2
        obtain ⟨n', nt', d', hS', -, -⟩ := hr2.1
        have en : n' = n := hS'.nOf.1.symm.trans hS.nOf.1
        have et : nt' = nt := hS'.nOf.2.symm.trans hS.nOf.2
        subst en
        subst et
        obtain ⟨τ3, e3, hR3, hS3⟩ := think_eq hr2 hS'
        have S4 := fallO (c := 48) (by decide) hk hS3
        obtain ⟨τ5, e5, f5, S5⟩ := goOn_eq (ε := ε) (c := 48) (m := m) (by decide) (by omega) S4
        have hr4 : Rel ε (pI (pI τ3 (48 + 7 + k) 6 (nI 0)) (48 + 7 + k) 5 (nI 0)) μ := rel_th hR3 (fun x a _ => by rw [pI_nc (by omega), pI_nc (by omega)]) (fun x _ _ => rfl) hR3.2.2.2.2.2.2
        have hr5 := rel_fr48 hr4 f5
        rw [e1, ob_s, if_pos (by decide), e2, ob_s, standing_eq S2.1, ob_s, e3, ob_s, if_pos (by decide), fn_X0_fall, ob_s, e5, ob_s, standing_eq S5.1, ob_s]
        have b1 : cpN 69 (mU μ.2.2 14 (cpN 69 μ.2.1 (μ.2.2 14)) 14) (itS μ.2.1 nt' n' m) = μ.2.1 := cp_back (laid_14 _ _) (itS_hi _ nt' n' hn9 m)
        have b2 : cpN 69 (mU μ.2.2 14 (cpN 69 μ.2.1 (μ.2.2 14)) 14) (itS (fallS μ.2.1 k) nt' n' m) = μ.2.1 := cp_back (laid_14 _ _) (fun j hj => by rw [itS_hi _ nt' n' hn9 m j hj, fallS, pk_un (by omega), pk_un (by omega)])
        rw [m_by, ob_s, m_many (μ := (μ.1, μ.2.1, mU μ.2.2 14 (cpN 69 μ.2.1 (μ.2.2 14)))) hS.ok (by omega), ob_s, m_all (μ := (μ.1, itS μ.2.1 nt' n' m, mU μ.2.2 14 (cpN 69 μ.2.1 (μ.2.2 14)))) S2.ok, ob_s, m_back, ob_s]
        simp only [b1]
        rw [m_falls (by omega), ob_s, m_many (μ := (μ.1, fallS μ.2.1 k, mU μ.2.2 14 (cpN 69 μ.2.1 (μ.2.2 14)))) S4.ok (by omega), ob_s, m_all (μ := (μ.1, itS (fallS μ.2.1 k) nt' n' m, mU μ.2.2 14 (cpN 69 μ.2.1 (μ.2.2 14)))) S5.ok, ob_s, m_back, ob_s]
        simp only [b2]
        exact ⟨_, τ5, _, rfl, rfl, rel_r hr5 (laid_r _ _)⟩
    · rw [if_neg h2, if_pos (show inB y 1 60 = false from inB_2 h2)]; exact ⟨_, σ, μ, rfl, rfl, h⟩
