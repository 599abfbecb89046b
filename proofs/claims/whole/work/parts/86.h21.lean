theorem reads_ok {ε : Ev} {σ : Sg} {μ : Mg} (h : Rel ε σ μ) (z : Int32) : RStp ε (fn_X6_reads ε z σ) (fn_X7_reads z μ) := by
  obtain ⟨n, nt, d, hS, hd, hd2⟩ := h.1
  have hn9 := hS.1.1
  rw [fn_X6_reads, fn_X7_reads, sheet_eq, sheet7_eq, o1_s, o1_s]
  simp only [bI_0]
  cases hz : inB z 0 3 with
  | false => rw [if_pos ff_y, if_pos ff_y]; exact ⟨_, σ, μ, rfl, rfl, h⟩
  | true =>
    obtain ⟨k, k1, k2, rfl⟩ := inB_t (lo := 0) (hi := 3) (by decide) (by decide) hz
    have hk : k < 4 := by omega
    obtain ⟨a1, a2, ⟨m, m1, m2, m3, m4⟩, a3⟩ := h.2.2.2.1 k hk
    rw [if_neg tf_n, if_neg tf_n, nI_clamp (show k < 2 ^ 31 by omega), if_pos (g_in hk (by decide)), if_pos (g_in hk (by decide)), a1]
    by_cases hm : μ.2.2 4 k = -1
    · rw [hm, if_pos rfl, if_neg (by decide)]; exact ⟨_, σ, μ, rfl, rfl, h⟩
    have h0 : (0 : Int32) ≤ μ.2.2 4 k := by
      rcases a2 with q | q | q
      · exact absurd q hm
      · rw [q]; decide
      · rw [q]; decide
    rw [if_neg hm, if_pos h0]
    have L : ∀ (f i : Nat), i ≤ m → m + 1 ≤ i + f → ∃ res, fn_X6_reads_L30 ε (nI k) (fn_X6_reads_L86 ε (nI k)) f (80 + 2 * k) (nI i) σ = some (res, σ) ∧ fn_X7_reads_L25 (nI k) (fn_X7_reads_L81 (nI k)) f (nI i) μ = some (res, μ) := by
      intro f
      induction f with
      | zero => intro i h1 h2; omega
      | succ f ih =>
        intro i h1 h2
        simp only [fn_X6_reads_L30, fn_X7_reads_L25, fn_X6_reads_L86, fn_X7_reads_L81, fn_X6_reads_L80, fn_X7_reads_L75, fn_X6_reads_L78, fn_X7_reads_L73, m2, m3, nI_clamp (show k < 2 ^ 31 by omega), if_pos (g_in hk (show 4 < 2 ^ 31 by decide))]
        by_cases hi : m ≤ i
        · rw [if_pos (nI_le hi (by omega)), if_pos (nI_le hi (by omega))]; exact ⟨_, rfl, rfl⟩
        · have K := ih (i + 1) (by omega) (by omega)
          rw [if_neg (nI_ge (by omega) (by omega)), if_neg (nI_ge (by omega) (by omega)), num_eq (by omega), ob_s, nI_clamp (show i < 2 ^ 31 by omega), pk_mul, nI_add, nI_add, nI_clamp (show 24 * k + i < 2 ^ 31 by omega), if_pos (g_in (show 24 * k + i < 96 by omega) (by decide)), show 80 + 2 * k + 1 = 81 + 2 * k by omega, (a3 i (by omega)).1, if_pos (show ¬ (nI 0 < 0 ∨ 3069 ≤ (nI 0).toNatClampNeg) from by decide), show μ.2.1 (nI 0).toNatClampNeg = nI n from hS.1.2.1, show σ.1 16 6 = nI n from hS.1.2.2.1]
          by_cases q : μ.2.2 6 (24 * k + i) = -1000000005
          · rw [if_pos q, if_pos q, if_pos rfl]; exact K
          · rw [if_neg q, if_neg q, if_neg (by decide)]
            by_cases hin : n ≤ i
            · rw [if_pos (nI_le hin (by omega)), if_pos (nI_le hin (by omega))]; exact ⟨_, rfl, rfl⟩
            · have r2 : σ.1 (23 + i) 2 = μ.2.1 (6 + 7 * i + 2) := (hS.1.2.2.2.2.2.2.2 i (by omega)).1 2 (by decide)
              rw [if_neg (nI_ge (by omega) (by omega)), if_neg (nI_ge (by omega) (by omega)), if_pos (g_in (show i < 24 by omega) (by decide)), if_pos (g_in (show i < 9 by omega) (by decide)), m_at (by omega) (by decide), ob_s, r2]
              by_cases e : μ.2.2 6 (24 * k + i) = μ.2.1 (6 + 7 * i + 2)
              · rw [if_pos e, if_pos e]; exact K
              · rw [if_neg e, if_neg e]; exact ⟨_, rfl, rfl⟩
    obtain ⟨res, e1, e2⟩ := L 4000 0 (by omega) (by omega)
    exact ⟨res, σ, μ, e1, e2, h⟩
theorem held99 (z : Int32) : mxI (nI 0) (mnI (nI 99) z) = heldI z (nI 0) (nI 99) := by
  unfold mxI mnI heldI
  by_cases h1 : z < nI 99
  · rw [if_pos h1]
    by_cases h2 : z < nI 0
    · rw [if_pos h2, if_neg (Int32.not_lt.mpr (Int32.le_of_lt h2))]
    · rw [if_neg h2, if_neg (Int32.not_lt.mpr (Int32.le_of_lt h1))]
      by_cases h3 : nI 0 < z
      · rw [if_pos h3]
      · rw [if_neg h3]; exact Int32.le_antisymm (Int32.not_lt.mp h2) (Int32.not_lt.mp h3)
  · rw [if_neg h1, if_neg (fun h => h1 (Int32.lt_trans h (by decide))), if_pos (by decide)]
    by_cases h3 : nI 99 < z
    · rw [if_pos h3]
    · rw [if_neg h3]; exact Int32.le_antisymm (Int32.not_lt.mp h1) (Int32.not_lt.mp h3)
theorem held99_n (z : Int32) : ∃ u, u ≤ 99 ∧ heldI z (nI 0) (nI 99) = nI u := by
  unfold heldI
  by_cases h : z < nI 0
  · exact ⟨0, by omega, by rw [if_pos h]⟩
  · rw [if_neg h]
    by_cases h2 : nI 99 < z
    · exact ⟨99, by omega, by rw [if_pos h2]⟩
    · rw [if_neg h2]
      obtain ⟨j, hj, rfl⟩ := nI_of h
      exact ⟨j, Nat.not_lt.mp (fun q => h2 (nI_lt (a := 99) (b := j) q hj)), rfl⟩
theorem upd_id (f : Nat → Int32) (k : Nat) : upd f k (f k) = f := by
  funext j
  by_cases e : j = k
  · rw [e, pk_us]
  · rw [pk_un e]
theorem mB3 {u : Nat} (h : u ≤ 99) : mayB (nI 3) (nI u) = true := show inB (nI u) 0 99 = true from inB_3 (nI_pos (by omega)) (show nI u ≤ nI 99 from nI_le h (by omega))
theorem pour_ok {ε : Ev} {σ : Sg} {μ : Mg} (h : Rel ε σ μ) (z : Int32) : RStp ε (fn_X6_pour ε z σ) (fn_X7_pour z μ) := by
  rw [fn_X6_pour, fn_X7_pour, sheet_eq, sheet7_eq, o1_s, o1_s]
  simp only [bI_0]
  cases hz : inB z 0 3 with
  | false => rw [if_pos ff_y, if_pos ff_y]; exact ⟨_, σ, μ, rfl, rfl, h⟩
  | true =>
    obtain ⟨k, k1, k2, rfl⟩ := inB_t (lo := 0) (hi := 3) (by decide) (by decide) hz
    have hk : k < 4 := by omega
    have L : ∀ (f i : Nat) (a : Int32) (σ : Sg) (μ : Mg), i ≤ 24 → 25 ≤ i + f → Rel ε σ μ → RStp ε (fn_X4_takeWalls_L4 ε 16 (80 + 2 * k) (fn_X4_takeWalls_L91 ε 16 (80 + 2 * k)) f a (nI i) σ) (fn_X7_pour_L27 (nI k) (fn_X7_pour_L128 (nI k)) f a (nI i) μ) := by
      intro f
      induction f with
      | zero => intro i a σ μ h1 h2; omega
      | succ f ih =>
        intro i a σ μ h1 h2 h
        obtain ⟨n, nt, d, hS, hd, hd2⟩ := h.1
        have hn9 := hS.1.1
        obtain ⟨a1, a2, ⟨m, m1, m2, m3, m4⟩, a3⟩ := h.2.2.2.1 k hk
        have e0 : μ.2.1 (nI 0).toNatClampNeg = nI n := hS.1.2.1
        have e6 : σ.1 16 6 = nI n := hS.1.2.2.1
        simp only [fn_X4_takeWalls_L4, fn_X7_pour_L27, fn_X4_takeWalls_L91, fn_X7_pour_L128, fn_X4_takeWalls_L85, fn_X4_takeWalls_L72, fn_X7_pour_L92, fn_X7_pour_L120, fn_X7_held, o1_s, m2, m3, e0, e6, nI_clamp (show k < 2 ^ 31 by omega), if_pos (g_in hk (show 4 < 2 ^ 31 by decide)), if_pos (show ¬ (nI 0 < 0 ∨ 3069 ≤ (nI 0).toNatClampNeg) from by decide), if_pos (show ¬ (nI 3 < 0 ∨ 6 ≤ (nI 3).toNatClampNeg) from by decide), pk_mul, nI_add, show tabLEAST (nI 3).toNatClampNeg = nI 0 from rfl, show tabMOST (nI 3).toNatClampNeg = nI 99 from rfl, held99]
        by_cases hm : m ≤ i
        · rw [if_pos (show nI m ≤ nI i from nI_le hm (by omega)), if_pos (show nI m ≤ nI i from nI_le hm (by omega)), ite_self]
          exact ⟨_, σ, μ, rfl, rfl, h⟩
        rw [if_neg (show ¬ nI m ≤ nI i from nI_ge (by omega) (by omega)), if_neg (show ¬ nI m ≤ nI i from nI_ge (by omega) (by omega))]
        by_cases hn : n ≤ i
        · rw [if_pos (show nI n ≤ nI i from nI_le hn (by omega)), if_pos (show nI n ≤ nI i from nI_le hn (by omega))]
          exact ⟨_, σ, μ, rfl, rfl, h⟩
        rw [if_neg (show ¬ nI n ≤ nI i from nI_ge (by omega) (by omega)), if_neg (show ¬ nI n ≤ nI i from nI_ge (by omega) (by omega)), num_eq (by omega), ob_s]
        have r3 : σ.1 (16 + 7 + i) 3 = μ.2.1 (6 + 7 * i + 3) := (hS.1.2.2.2.2.2.2.2 i (by omega)).1 3 (by decide)
        have eb : ∀ x, fn_X7_becomes (nI (6 + 7 * i + 3)) x μ = some (μ.2.1 (6 + 7 * i + 3), (μ.1, upd μ.2.1 (6 + 7 * i + 3) x, μ.2.2)) := fun x => by
          rw [fn_X7_becomes, nI_clamp (by omega), if_pos (g_in (show 6 + 7 * i + 3 < 3069 by omega) (by decide))]
        simp only [eb, ob_s, nI_clamp (show i < 2 ^ 31 by omega), nI_clamp (show 24 * k + i < 2 ^ 31 by omega), nI_clamp (show 6 + 7 * i + 3 < 2 ^ 31 by omega), if_pos (g_in (show 24 * k + i < 96 by omega) (show 96 < 2 ^ 31 by decide)), if_pos (g_in (show 6 + 7 * i + 3 < 3069 by omega) (show 3069 < 2 ^ 31 by decide)), if_pos (g_in (show i < 24 by omega) (show 24 < 2 ^ 31 by decide)), if_pos (g_in (show i < 9 by omega) (show 9 < 2 ^ 31 by decide)), show 80 + 2 * k + 1 = 81 + 2 * k by omega, (a3 i (by omega)).1, r3]
        by_cases q : μ.2.2 6 (24 * k + i) = -1000000005
        · rw [if_pos q, if_pos q, if_pos rfl, if_pos trivial, upd_id, add_0]
          exact ih (i + 1) a σ μ (by omega) (by omega) h
        · obtain ⟨u, u9, eu⟩ := held99_n (μ.2.2 6 (24 * k + i))
          rw [if_neg q, if_neg q, if_neg (show ¬ (1 : Int32) = 0 from by decide), eu]
          have hR : Rel ε (pI σ (16 + 7 + i) 3 (nI u)) (μ.1, upd μ.2.1 (6 + 7 * i + 3) (nI u), μ.2.2) := rel_now h (fun x a _ => by rw [pI_nc (by omega)]) (fun x _ _ => rfl) h.2.2.2.2.2.2 ⟨n, nt, d, setO (by decide) (show i < n by omega) (by decide) hS (bdS (hS.2.2.1 i (by omega)) (by decide) (by decide) (mB3 u9)), hd, by rw [pk_un (by omega)]; exact hd2⟩
          by_cases e : nI u = μ.2.1 (6 + 7 * i + 3)
          · rw [if_pos e, if_pos e]; exact ih (i + 1) _ _ _ (by omega) (by omega) hR
          · rw [if_neg e, if_neg e]; exact ih (i + 1) _ _ _ (by omega) (by omega) hR
    obtain ⟨a1, a2, ⟨m, m1, m2, m3, m4⟩, a3⟩ := h.2.2.2.1 k hk
    rw [if_neg tf_n, if_neg tf_n, nI_clamp (show k < 2 ^ 31 by omega), if_pos (g_in hk (by decide)), if_pos (g_in hk (by decide)), a1]
    by_cases hm : μ.2.2 4 k = -1
    · rw [hm, if_pos rfl, if_neg (by decide)]; exact ⟨_, σ, μ, rfl, rfl, h⟩
    have h0 : (0 : Int32) ≤ μ.2.2 4 k := by
      rcases a2 with q | q | q
      · exact absurd q hm
      · rw [q]; decide
      · rw [q]; decide
    rw [if_neg hm, if_pos h0]
    obtain ⟨res, τ, ν, e1, e2, e3⟩ := L 4000 0 (nI 0) σ μ (by omega) (by omega) h
    exact ⟨res, τ, ν, by rw [fn_X4_takeWalls, e1, ob_s], e2, e3⟩
