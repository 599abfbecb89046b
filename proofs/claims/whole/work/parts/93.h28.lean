/-! ===== began ===== -/
def dfR (s : Nat → Int32) (r : Nat → Nat → Int32) (k n : Nat) : Nat → Int32
  | 0 => nI 0
  | j + 1 => dfR s r k n j + (if r 6 (24 * k + j) = -1000000005 then nI 0 else offI (r 6 (24 * k + j)) (if j < n then s (6 + 7 * j + 4) else nI 0))
theorem ab_of {z : Int32} {c : Nat} (h1 : -99999 ≤ z.toInt) (h2 : z.toInt ≤ 99999) (hc : c ≤ 999) : abI (nI c - z) = offI z (nI c) := by
  have hc' : (nI c).toInt = c := nI_toInt (by omega)
  have e1 : (nI c - z).toInt = (c : Int) - z.toInt := by
    rw [Int32.toInt_sub, hc', Int.bmod_eq_of_le (by omega) (by omega)]
  have e2 : (z - nI c).toInt = z.toInt - c := by
    rw [Int32.toInt_sub, hc', Int.bmod_eq_of_le (by omega) (by omega)]
  unfold abI offI
  by_cases h : z < nI c
  · have hz := Int32.lt_iff_toInt_lt.mp h
    rw [hc'] at hz
    rw [if_pos h, if_pos (by apply Int32.le_iff_toInt_le.mpr; rw [e1, show (0 : Int32).toInt = 0 from by decide]; omega)]
  · have hz : ¬ z.toInt < (nI c).toInt := fun q => h (Int32.lt_iff_toInt_lt.mpr q)
    rw [hc'] at hz
    rw [if_neg h]
    by_cases q : z.toInt = c
    · have : z = nI c := Int32.toInt_inj.mp (by rw [hc']; exact q)
      rw [this, Int32.sub_self, if_pos (by decide)]
    · rw [if_neg (fun w => by
        have w := Int32.le_iff_toInt_le.mp w
        rw [e1, show (0 : Int32).toInt = 0 from by decide] at w
        omega)]
      apply Int32.toInt_inj.mp
      rw [Int32.toInt_sub, e1, e2, show (0 : Int32).toInt = 0 from by decide, Int.bmod_eq_of_le (by omega) (by omega)]
      omega
theorem diff_L {ε : Ev} {τ : Sg} {s : Nat → Int32} {r : Nat → Nat → Int32} {nt n k m : Nat} (hm : m ≤ 24) (hS : StO ε τ 48 s nt n) (m2 : τ.1 (80 + 2 * k) 2 = nI m) (a3 : ∀ j, j < 24 → τ.1 (81 + 2 * k) j = r 6 (24 * k + j) ∧ (r 6 (24 * k + j) = -1000000005 ∨ (-99999 ≤ (r 6 (24 * k + j)).toInt ∧ (r 6 (24 * k + j)).toInt ≤ 99999))) (k64 : Int32 → Sg → Option (Int32 × Sg)) : ∀ (f j : Nat), j ≤ m → m + 1 ≤ j + f → fn_X4_differsFrom_L4 ε 48 (80 + 2 * k) k64 f (dfR s r k n j) (nI j) τ = k64 (dfR s r k n m) τ := by
  have hn9 := hS.1.1
  intro f
  induction f with
  | zero => intro j h1 h2; omega
  | succ f ih =>
    intro j h1 h2
    simp only [fn_X4_differsFrom_L4, fn_X4_differsFrom_L58, fn_X4_differsFrom_L41, m2]
    by_cases hj : j = m
    · subst hj; rw [if_pos (nI_le (Nat.le_refl j) (by omega))]
    · have K := ih (j + 1) (by omega) (by omega)
      rw [dfR] at K
      obtain ⟨b1, b2⟩ := a3 j (by omega)
      rw [if_neg (nI_ge (by omega) (by omega)), num_eq (by omega), ob_s, nI_clamp (show j < 2 ^ 31 by omega), if_pos (g_in (show j < 24 by omega) (by decide)), show 80 + 2 * k + 1 = 81 + 2 * k by omega, b1, show τ.1 48 6 = nI n from hS.1.2.2.1, nI_add]
      by_cases q : r 6 (24 * k + j) = -1000000005
      · rw [if_pos q, add_0] at K
        rw [if_pos q, if_pos rfl]; exact K
      · have b2 : -99999 ≤ (r 6 (24 * k + j)).toInt ∧ (r 6 (24 * k + j)).toInt ≤ 99999 := by
          rcases b2 with w | w
          · exact absurd w q
          · exact w
        rw [if_neg q] at K
        rw [if_neg q, if_neg (by decide)]
        by_cases hn : n ≤ j
        · rw [if_neg (show ¬ j < n by omega), ← ab_of b2.1 b2.2 (by decide)] at K
          rw [if_pos (nI_le hn (by omega))]; exact K
        · obtain ⟨kd, w, wl, cr, pr, b0, b0', b1, b1', b1'', b3, b3', b4, b4', -⟩ := hS.2.2.1 j (by omega)
          have e4 : τ.1 (48 + 7 + j) 4 = s (6 + 7 * j + 4) := (hS.1.2.2.2.2.2.2.2 j (by omega)).1 4 (by decide)
          rw [if_pos (show j < n by omega), b4, ← ab_of b2.1 b2.2 b4'] at K
          rw [if_neg (nI_ge (by omega) (by omega)), if_pos (g_in (show j < 9 by omega) (by decide)), e4, b4, if_pos (g_in (show j < 24 by omega) (by decide))]; exact K
theorem diff7_L {v s : Nat → Int32} {r : Nat → Nat → Int32} {nt n k m : Nat} {z2 z3 v4 v5 v6 : Int32} (hm : m ≤ 24) (hk : k < 4) (hs : stOK s nt n) (m3 : r 5 k = nI m) (k162 : Int32 → Int32 → Int32 → Int32 → Mg → Option (Int32 × Mg)) : ∀ (f j : Nat), j ≤ m → m + 1 ≤ j + f → fn_X7_began_L88 (nI k) z2 z3 k162 f v4 v5 v6 (dfR s r k n j) (nI j) (v, s, r) = k162 v4 v5 v6 (dfR s r k n m) (v, s, r) := by
  have hn9 := hs.2.2.2.2
  intro f
  induction f with
  | zero => intro j h1 h2; omega
  | succ f ih =>
    intro j h1 h2
    simp only [fn_X7_began_L88, fn_X7_began_L153, fn_X7_began_L150, fn_X7_off, o1_s, nI_clamp (show k < 2 ^ 31 by omega), if_pos (g_in hk (show 4 < 2 ^ 31 by decide)), m3, show s (nI 0).toNatClampNeg = nI n from hs.2.2.2.1, if_pos (show ¬ (nI 0 < 0 ∨ 3069 ≤ (nI 0).toNatClampNeg) from by decide), pk_mul, nI_add]
    by_cases hj : j = m
    · subst hj; rw [if_pos (nI_le (Nat.le_refl j) (by omega))]
    · have K := ih (j + 1) (by omega) (by omega)
      rw [dfR] at K
      rw [if_neg (nI_ge (by omega) (by omega)), nI_clamp (show 24 * k + j < 2 ^ 31 by omega), if_pos (g_in (show 24 * k + j < 96 by omega) (by decide))]
      by_cases q : r 6 (24 * k + j) = -1000000005
      · rw [if_pos q] at K
        rw [if_pos q]; exact K
      · rw [if_neg q] at K
        rw [if_neg q]
        by_cases hn : n ≤ j
        · rw [if_neg (show ¬ j < n by omega)] at K
          rw [if_pos (nI_le hn (by omega))]; exact K
        · rw [if_pos (show j < n by omega)] at K
          rw [if_neg (nI_ge (by omega) (by omega)), m_at (by omega) (by decide), ob_s]; exact K
theorem began_ok {ε : Ev} {σ : Sg} {μ : Mg} (h : Rel ε σ μ) (z y u : Int32) : RStp ε (fn_X6_began ε z y u σ) (fn_X7_began z y u μ) := by
  rw [fn_X6_began, fn_X7_began, sheet_eq, sheet7_eq, o1_s, o1_s]
  simp only [bI_0, fn_X6_began_L26, fn_X7_began_L29]
  cases hz : inB z 0 3 with
  | false => rw [if_pos ff_y, if_pos ff_y]; exact ⟨_, σ, μ, rfl, rfl, h⟩
  | true =>
    obtain ⟨k, k1, k2, rfl⟩ := inB_t (lo := 0) (hi := 3) (by decide) (by decide) hz
    have hk : k < 4 := by omega
    rw [if_neg tf_n, if_neg tf_n]
    by_cases h1 : y < 0
    · rw [if_pos h1, if_pos (show inB y 0 60 = false from inB_1 h1)]; exact ⟨_, σ, μ, rfl, rfl, h⟩
    rw [if_neg h1]
    by_cases h2 : nI 60 < y
    · rw [if_pos h2, if_pos (show inB y 0 60 = false from inB_2 (show ¬ y ≤ nI 60 from Int32.not_le.mpr h2))]; exact ⟨_, σ, μ, rfl, rfl, h⟩
    have tz : inB y 0 60 = true := inB_3 h1 (show y ≤ nI 60 from Int32.not_lt.mp h2)
    rw [if_neg h2, if_neg (show ¬ (inB y 0 60 = false) from by rw [tz]; decide)]
    by_cases h3 : u < 0
    · rw [if_pos h3, if_pos (show inB u 0 1 = false from inB_1 h3)]; exact ⟨_, σ, μ, rfl, rfl, h⟩
    rw [if_neg h3]
    by_cases h4 : u ≤ nI 1
    · obtain ⟨m, m1, m2, rfl⟩ := inB_t (lo := 0) (hi := 60) (by decide) (by decide) tz
      obtain ⟨a1, a2, ⟨mm, mm1, mm2, mm3, mm4⟩, a3⟩ := h.2.2.2.1 k hk
      rw [if_pos h4, if_neg (show ¬ (inB u 0 1 = false) from by rw [show inB u 0 1 = true from inB_3 h3 h4]; decide), nI_clamp (show k < 2 ^ 31 by omega), if_pos (g_in hk (by decide)), if_pos (g_in hk (by decide)), a1]
      by_cases hm : μ.2.2 4 k = -1
      · rw [hm, if_pos rfl, if_neg (by decide)]; exact ⟨_, σ, μ, rfl, rfl, h⟩
      have h0 : (0 : Int32) ≤ μ.2.2 4 k := by
        rcases a2 with q | q | q
        · exact absurd q hm
        · rw [q]; decide
        · rw [q]; decide
      rw [if_neg hm, if_pos h0, m_by, ob_s]
      obtain ⟨n, nt, d, hS0, hd, hd2⟩ := h.1
      have hn9 := hS0.1.1
      have hok := hS0.ok
      have L : ∀ (f i : Nat) (σ : Sg) (a b c : Int32), i ≤ n → n + 1 ≤ i + f → Rel ε σ (μ.1, μ.2.1, mU μ.2.2 14 (cpN 69 μ.2.1 (μ.2.2 14))) → ((a = -1000000005 ∧ c = -1) ∨ (∃ w : Nat, w < 9 ∧ a = nI w ∧ c = nI w)) → RStp ε (fn_X6_began_L55 ε (nI k) (nI m) u (fn_X6_began_L117 ε (nI k) (nI m) u) f a b (nI i) σ) (fn_X7_began_L58 (nI k) (nI m) u (fn_X7_began_L192 (nI k) (nI m) u) f c b (nI i) (μ.1, μ.2.1, mU μ.2.2 14 (cpN 69 μ.2.1 (μ.2.2 14)))) := by
        intro f
        induction f with
        | zero => intro i σ a b c h1 h2; omega
        | succ f ih =>
          intro i σ a b c hi hf hM hI
          obtain ⟨n', nt', d', hS, -, -⟩ := hM.1
          have en : n' = n := hS.nOf.1.symm.trans hS0.nOf.1
          have et : nt' = nt := hS.nOf.2.symm.trans hS0.nOf.2
          subst en
          subst et
          simp only [fn_X6_began_L55, fn_X7_began_L58, show σ.1 16 6 = nI n' from hS.1.2.2.1, show μ.2.1 (nI 0).toNatClampNeg = nI n' from hS0.1.2.1, if_pos (show ¬ (nI 0 < 0 ∨ 3069 ≤ (nI 0).toNatClampNeg) from by decide)]
          by_cases hin : i = n'
          · subst hin
            rw [if_pos (show nI i ≤ nI i from nI_le (Nat.le_refl i) (by omega)), if_pos (show nI i ≤ nI i from nI_le (Nat.le_refl i) (by omega))]
            simp only [fn_X6_began_L117, fn_X6_began_L128, fn_X6_began_L135, fn_X7_began_L192, fn_X7_began_L213]
            rcases hI with ⟨rfl, rfl⟩ | ⟨w, w9, rfl, rfl⟩
            · rw [if_pos (show (-1000000005 : Int32) = -1000000005 from rfl), ite_self, if_neg (show ¬ (0 : Int32) ≤ -1 from by decide)]; exact ⟨_, σ, _, rfl, rfl, hM⟩
            · rw [if_neg (show ¬ nI w = -1000000005 from fun q => by have := nI_pos (show w < 2 ^ 31 by omega); rw [q] at this; exact this (by decide)), if_pos (nI_pos' (by omega))]
              by_cases y0 : u = 0
              · rw [if_pos y0, if_pos y0]; exact ⟨_, σ, _, rfl, rfl, hM⟩
              · rw [if_neg y0, if_neg y0]; exact ⟨_, σ, _, rfl, rfl, hM⟩
          · obtain ⟨τ, e1, hR, hS1⟩ := twW (k := i) (m := m) hM hS (by omega) (by omega)
            have hS1 : StO ε τ 48 (itS (upd μ.2.1 (6 + 7 * i + 3) (nI 0)) nt' n' m) nt' n' := hS1
            obtain ⟨g1, g2, g3⟩ := tw7 (v := μ.1) (s := μ.2.1) (r := mU μ.2.2 14 (cpN 69 μ.2.1 (μ.2.2 14))) (k := i) (m := m) (show i < n' by omega) hok (by omega)
            obtain ⟨-, -, ⟨mt, mt1, mt2, mt3, -⟩, a3t⟩ := hR.2.2.2.1 k hk
            have mt3 : mU μ.2.2 14 (cpN 69 μ.2.1 (μ.2.2 14)) 5 k = nI mt := mt3
            have D6 := diff_L (ε := ε) (r := mU μ.2.2 14 (cpN 69 μ.2.1 (μ.2.2 14))) (k := k) mt1 hS1 mt2 a3t (fn_X4_differsFrom_L64 ε 48 (80 + 2 * k)) 4000 0 (by omega) (by omega)
            have D7 := diff7_L (v := μ.1) (z2 := nI m) (z3 := u) (v4 := c) (v5 := b) (v6 := nI i) mt1 hk hS1.ok mt3 (fn_X7_began_L162 (nI k) (nI m) u (fn_X7_began_L58 (nI k) (nI m) u (fn_X7_began_L192 (nI k) (nI m) u) f) (fn_X7_began_L192 (nI k) (nI m) u)) 4000 0 (by omega) (by omega)
            have E6 : fn_X4_differsFrom ε 48 (80 + 2 * k) τ = some (dfR (itS (upd μ.2.1 (6 + 7 * i + 3) (nI 0)) nt' n' m) (mU μ.2.2 14 (cpN 69 μ.2.1 (μ.2.2 14))) k n' mt, τ) := D6
            rw [if_neg (show ¬ nI n' ≤ nI i from nI_ge (by omega) (by omega)), if_neg (show ¬ nI n' ≤ nI i from nI_ge (by omega) (by omega)), e1, ob_s, nI_clamp (show k < 2 ^ 31 by omega), if_pos (g_in hk (by decide)), E6, ob_s, g1, ob_s, g2, ob_s]
            refine Eq.mpr (congrArg (RStp ε _) (show _ = _ from D7)) ?_
            simp only [fn_X7_began_L162, g3 (laid_14 _ _), ob_s, fn_X7_began_L178, fn_X7_began_L186, fn_X6_began_L103, fn_X6_began_L111, nI_add]
            generalize dfR (itS (upd μ.2.1 (6 + 7 * i + 3) (nI 0)) nt' n' m) (mU μ.2.2 14 (cpN 69 μ.2.1 (μ.2.2 14))) k n' mt = X
            rcases hI with ⟨rfl, rfl⟩ | ⟨w, w9, rfl, rfl⟩
            · rw [if_pos rfl, if_pos (show (-1 : Int32) < 0 from by decide)]
              exact ih (i + 1) τ _ _ _ (by omega) (by omega) hR (Or.inr ⟨i, by omega, rfl, rfl⟩)
            · rw [if_neg (show ¬ nI w = -1000000005 from fun q => by have := nI_pos (show w < 2 ^ 31 by omega); rw [q] at this; exact this (by decide)), if_neg (show ¬ nI w < 0 from nI_pos (by omega))]
              by_cases le : b ≤ X
              · rw [if_pos le, if_pos le]
                exact ih (i + 1) τ _ _ _ (by omega) (by omega) hR (Or.inr ⟨w, w9, rfl, rfl⟩)
              · rw [if_neg le, if_neg le]
                exact ih (i + 1) τ _ _ _ (by omega) (by omega) hR (Or.inr ⟨i, by omega, rfl, rfl⟩)
      exact L 4000 0 σ _ _ _ (by omega) (by omega) (rel_r h (laid_r _ _)) (Or.inl ⟨rfl, rfl⟩)
    · rw [if_neg h4, if_pos (show inB u 0 1 = false from inB_2 h4)]; exact ⟨_, σ, μ, rfl, rfl, h⟩
