/-! ===== wall, began ===== -/
theorem sm_fall {s : Nat → Int32} : ∀ n, (∀ k, k < n → s (6 + 7 * k + 6) = nI 0 ∨ s (6 + 7 * k + 6) = nI 1) → smS s 6 n = nI (n - stN s n) := by
  intro n
  induction n with
  | zero => intro _; rfl
  | succ n ih =>
    intro h
    have hl := stN_le s n
    rw [smS, ih (fun k hk => h k (by omega)), stN]
    rcases h n (by omega) with e | e
    · rw [e, show sd s n = true from decide_eq_true (show s (6 + 7 * n + 6) = 0 from e), if_pos rfl, add_0]
      congr 1; omega
    · rw [e, show sd s n = false from decide_eq_false (show ¬ s (6 + 7 * n + 6) = 0 from by rw [e]; decide), if_neg (by decide), nI_add]
      congr 1; omega
theorem twW {ε : Ev} {σ : Sg} {μ : Mg} {n nt k m : Nat} (h : Rel ε σ μ) (hS : StO ε σ 16 μ.2.1 nt n) (hk : k < n) (hm : m ≤ 1000) : ∃ τ, fn_X6_thinkWithoutWall ε (nI k) (nI m) σ = some ((), τ) ∧ Rel ε τ μ ∧ StO ε τ 48 (itS (upd μ.2.1 (6 + 7 * k + 3) (nI 0)) nt n m) nt n := by
  have hn9 := hS.1.1
  obtain ⟨τ, e1, hR, hS1⟩ := think_eq h hS
  have S2 := setO (c := 48) (w := 3) (x := nI 0) (by decide) hk (by decide) hS1 (bdS (hS1.2.2.1 k hk) (by decide) (by decide) (mB3 (by decide)))
  have hR2 : Rel ε (pI τ (48 + 7 + k) 3 (nI 0)) μ := rel_th hR (fun x a _ => by rw [pI_nc (by omega)]) (fun x _ _ => rfl) hR.2.2.2.2.2.2
  obtain ⟨τ3, e3, f3, S3⟩ := goOn_eq (ε := ε) (c := 48) (m := m) (by decide) hm S2
  refine ⟨τ3, ?_, rel_fr48 hR2 f3, S3⟩
  rw [fn_X6_thinkWithoutWall, e1, ob_s, if_pos (by decide), nI_clamp (by omega), if_pos (g_in (show k < 9 by omega) (by decide)), e3, ob_s]
/-- the reference's thought of a wall taken out -/
theorem tw7 {v s : Nat → Int32} {r : Nat → Nat → Int32} {nt n k m : Nat} (hk : k < n) (hs : stOK s nt n) (hm : m ≤ 1000) : fn_X7_sets (nI k) (nI 3) (nI 0) (v, s, r) = some ((), (v, upd s (6 + 7 * k + 3) (nI 0), r)) ∧ fn_X7_goesOnMany (nI m) (v, upd s (6 + 7 * k + 3) (nI 0), r) = some ((), (v, itS (upd s (6 + 7 * k + 3) (nI 0)) nt n m, r)) ∧ ((∀ j, j < 69 → r 14 j = s j) → fn_X7_laysBack (v, itS (upd s (6 + 7 * k + 3) (nI 0)) nt n m, r) = some ((), (v, s, r))) := by
  have hn9 := hs.2.2.2.2
  have hs2 : stOK (upd s (6 + 7 * k + 3) (nI 0)) nt n := stOK_cong (fun j hj => pk_un (by omega)) (pk_un (by omega)) (pk_un (by omega)) hs
  refine ⟨m_sets (by omega) (by decide), m_many (μ := (v, upd s (6 + 7 * k + 3) (nI 0), r)) hs2 hm, fun h14 => ?_⟩
  rw [m_back]
  show some ((), (v, cpN 69 (r 14) (itS (upd s (6 + 7 * k + 3) (nI 0)) nt n m), r)) = _
  rw [cp_back h14 (fun j hj => by rw [itS_hi _ nt n hn9 m j hj, pk_un (by omega)])]
theorem wall_ok {ε : Ev} {σ : Sg} {μ : Mg} (h : Rel ε σ μ) (z y : Int32) : RStp ε (fn_X6_wall ε z y σ) (fn_X7_wall z y μ) := by
  simp only [fn_X6_wall, fn_X6_wall_L20, fn_X7_wall, fn_X7_wall_L22, bI_0]
  by_cases h1 : z < nI 1
  · rw [if_pos h1, if_pos (show inB z 1 60 = false from inB_1 h1)]; exact ⟨_, σ, μ, rfl, rfl, h⟩
  rw [if_neg h1]
  by_cases h2 : nI 60 < z
  · rw [if_pos h2, if_pos (show inB z 1 60 = false from inB_2 (show ¬ z ≤ nI 60 from Int32.not_le.mpr h2))]; exact ⟨_, σ, μ, rfl, rfl, h⟩
  have tz : inB z 1 60 = true := inB_3 h1 (show z ≤ nI 60 from Int32.not_lt.mp h2)
  rw [if_neg h2, if_neg (show ¬ (inB z 1 60 = false) from by rw [tz]; decide)]
  by_cases h3 : y < 0
  · rw [if_pos h3, if_pos (show inB y 0 1 = false from inB_1 h3)]; exact ⟨_, σ, μ, rfl, rfl, h⟩
  rw [if_neg h3]
  by_cases h4 : y ≤ nI 1
  · obtain ⟨m, m1, m2, rfl⟩ := inB_t (lo := 1) (hi := 60) (by decide) (by decide) tz
    rw [if_pos h4, if_neg (show ¬ (inB y 0 1 = false) from by rw [show inB y 0 1 = true from inB_3 h3 h4]; decide), m_by, ob_s]
    obtain ⟨n, nt, d, hS0, hd, hd2⟩ := h.1
    have hn9 := hS0.1.1
    have hok := hS0.ok
    have L : ∀ (f i : Nat) (σ : Sg) (a b c e : Int32), i ≤ n → n + 1 ≤ i + f → Rel ε σ (μ.1, μ.2.1, mU μ.2.2 14 (cpN 69 μ.2.1 (μ.2.2 14))) → ((i = 0 ∧ a = -1000000005 ∧ b = -1 ∧ c = -1 ∧ e = nI 0) ∨ (∃ w q : Nat, w < 9 ∧ q ≤ 9 ∧ a = nI w ∧ c = nI w ∧ b = nI q ∧ e = nI q)) → RStp ε (fn_X6_wall_L32 ε (nI m) y (fn_X6_wall_L88 ε (nI m) y) f a b (nI i) σ) (fn_X7_wall_L37 (nI m) y (fn_X7_wall_L97 (nI m) y) f c e (nI i) (μ.1, μ.2.1, mU μ.2.2 14 (cpN 69 μ.2.1 (μ.2.2 14)))) := by
      intro f
      induction f with
      | zero => intro i σ a b c e h1 h2; omega
      | succ f ih =>
        intro i σ a b c e hi hf hM hI
        obtain ⟨n', nt', d', hS, -, -⟩ := hM.1
        have en : n' = n := hS.nOf.1.symm.trans hS0.nOf.1
        have et : nt' = nt := hS.nOf.2.symm.trans hS0.nOf.2
        subst en
        subst et
        simp only [fn_X6_wall_L32, fn_X7_wall_L37, fn_X6_wall_L82, fn_X7_wall_L84, fn_X7_wall_L91, show σ.1 16 6 = nI n' from hS.1.2.2.1, show μ.2.1 (nI 0).toNatClampNeg = nI n' from hS0.1.2.1, if_pos (show ¬ (nI 0 < 0 ∨ 3069 ≤ (nI 0).toNatClampNeg) from by decide)]
        by_cases hin : i = n'
        · subst hin
          rw [if_pos (show nI i ≤ nI i from nI_le (Nat.le_refl i) (by omega)), if_pos (show nI i ≤ nI i from nI_le (Nat.le_refl i) (by omega))]
          simp only [fn_X6_wall_L88, fn_X6_wall_L98, fn_X6_wall_L104, fn_X7_wall_L97, fn_X7_wall_L116]
          rcases hI with ⟨-, rfl, rfl, rfl, rfl⟩ | ⟨w, q, w9, q9, rfl, rfl, rfl, rfl⟩
          · rw [if_pos (show (-1000000005 : Int32) = -1000000005 from rfl), ite_self, if_neg (show ¬ (0 : Int32) ≤ -1 from by decide)]; exact ⟨_, σ, _, rfl, rfl, hM⟩
          · rw [if_neg (show ¬ nI w = -1000000005 from fun q => by have := nI_pos (show w < 2 ^ 31 by omega); rw [q] at this; exact this (by decide)), if_pos (nI_pos' (by omega))]
            by_cases y0 : y = 0
            · rw [if_pos y0, if_pos y0]; exact ⟨_, σ, _, rfl, rfl, hM⟩
            · rw [if_neg y0, if_neg y0]; exact ⟨_, σ, _, rfl, rfl, hM⟩
        · obtain ⟨τ, e1, hR, hS1⟩ := twW (k := i) (m := m) hM hS (by omega) (by omega)
          obtain ⟨g1, g2, g3⟩ := tw7 (v := μ.1) (s := μ.2.1) (r := mU μ.2.2 14 (cpN 69 μ.2.1 (μ.2.2 14))) (k := i) (m := m) (show i < n' by omega) hok (by omega)
          have hfn : smS (itS (upd μ.2.1 (6 + 7 * i + 3) (nI 0)) nt' n' m) 6 n' = nI (n' - stN (itS (upd μ.2.1 (6 + 7 * i + 3) (nI 0)) nt' n' m) n') := sm_fall n' (fun k hk => (hS1.1.2.2.2.2.2.2.2 k hk).2.2)
          have hle := stN_le (itS (upd μ.2.1 (6 + 7 * i + 3) (nI 0)) nt' n' m) n'
          have hS1' : StO ε τ 48 (itS (upd μ.2.1 (6 + 7 * i + 3) (nI 0)) nt' n' m) nt' n' := hS1
          have g4 : fn_X7_allOf (nI 6) (μ.1, itS (upd μ.2.1 (6 + 7 * i + 3) (nI 0)) nt' n' m, mU μ.2.2 14 (cpN 69 μ.2.1 (μ.2.2 14))) = some (smS (itS (upd μ.2.1 (6 + 7 * i + 3) (nI 0)) nt' n' m) 6 n', (μ.1, itS (upd μ.2.1 (6 + 7 * i + 3) (nI 0)) nt' n' m, mU μ.2.2 14 (cpN 69 μ.2.1 (μ.2.2 14)))) := m_sum (μ := (μ.1, itS (upd μ.2.1 (6 + 7 * i + 3) (nI 0)) nt' n' m, mU μ.2.2 14 (cpN 69 μ.2.1 (μ.2.2 14)))) hS1'.ok (by decide)
          rw [if_neg (show ¬ nI n' ≤ nI i from nI_ge (by omega) (by omega)), if_neg (show ¬ nI n' ≤ nI i from nI_ge (by omega) (by omega)), e1, ob_s, many_eq hS1'.1, ob_s, show τ.1 48 6 = nI n' from hS1'.1.2.2.1, cnt_st _ n' hn9, pk_sub hle, g1, ob_s, g2, ob_s, g4, ob_s, hfn, g3 (laid_14 _ _), ob_s, nI_add]
          have hq9 : n' - stN (itS (upd μ.2.1 (6 + 7 * i + 3) (nI 0)) nt' n' m) n' ≤ 9 := by omega
          have hnew := fun (τ : Sg) (hR : Rel ε τ (μ.1, μ.2.1, mU μ.2.2 14 (cpN 69 μ.2.1 (μ.2.2 14)))) => ih (i + 1) τ (nI i) (nI (n' - stN (itS (upd μ.2.1 (6 + 7 * i + 3) (nI 0)) nt' n' m) n')) (nI i) (nI (n' - stN (itS (upd μ.2.1 (6 + 7 * i + 3) (nI 0)) nt' n' m) n')) (by omega) (by omega) hR (Or.inr ⟨i, _, by omega, hq9, rfl, rfl, rfl, rfl⟩)
          rcases hI with ⟨-, rfl, rfl, rfl, rfl⟩ | ⟨w, q, w9, q9, rfl, rfl, rfl, rfl⟩
          · rw [if_neg (show ¬ nI (n' - stN (itS (upd μ.2.1 (6 + 7 * i + 3) (nI 0)) nt' n' m) n') ≤ -1 from fun w => nI_pos (n := n' - stN (itS (upd μ.2.1 (6 + 7 * i + 3) (nI 0)) nt' n' m) n') (by omega) (Int32.lt_of_le_of_lt w (by decide))), if_pos (show (-1 : Int32) < 0 from by decide)]
            exact hnew τ hR
          · rw [if_neg (show ¬ nI w < 0 from nI_pos (by omega))]
            by_cases le : nI (n' - stN (itS (upd μ.2.1 (6 + 7 * i + 3) (nI 0)) nt' n' m) n') ≤ nI q
            · rw [if_pos le, if_pos le]
              exact ih (i + 1) τ _ _ _ _ (by omega) (by omega) hR (Or.inr ⟨w, q, w9, q9, rfl, rfl, rfl, rfl⟩)
            · rw [if_neg le, if_neg le]
              exact hnew τ hR
    exact L 4000 0 σ _ _ _ _ (by omega) (by omega) (rel_r h (laid_r _ _)) (Or.inl ⟨rfl, rfl, rfl, rfl, rfl⟩)
  · rw [if_neg h4, if_pos (show inB y 0 1 = false from inB_2 h4)]; exact ⟨_, σ, μ, rfl, rfl, h⟩
