/-! ===== slots ===== -/
def SlK (σ : Sg) (r : Nat → Nat → Int32) (k : Nat) : Prop := ∃ th, th ≤ 3 ∧ σ.1 (96 + 4 * k) 0 = nI th ∧ r 7 k = nI th ∧ (th = 3 → σ.1 (96 + 4 * k) 1 = r 8 k) ∧ (th = 1 → σ.1 (97 + 4 * k) 0 = r 8 k ∧ (∃ kd, kd ≤ 5 ∧ r 8 k = nI kd) ∧ worthK (σ.1 (97 + 4 * k) 0) (σ.1 (97 + 4 * k) 3) = r 9 k) ∧ (th = 2 → ∃ m, m ≤ 24 ∧ σ.1 (98 + 4 * k) 2 = nI m ∧ r 10 k = nI m ∧ ∀ j, j < 24 → σ.1 (99 + 4 * k) j = r 11 (24 * k + j))
theorem RSl.up {σ σ' : Sg} {μ : Mg} {v' s' : Nat → Int32} {r' : Nat → Nat → Int32} {k : Nat} (h : RSl σ μ) (h1 : ∀ x, 96 ≤ x → x < 116 → (x < 96 + 4 * k ∨ 100 + 4 * k ≤ x) → σ'.1 x = σ.1 x) (rr : ∀ i, 7 ≤ i → i ≤ 10 → ∀ j, j ≠ k → r' i j = μ.2.2 i j) (r11 : ∀ p, (p < 24 * k ∨ 24 * k + 24 ≤ p) → r' 11 p = μ.2.2 11 p) (hn : SlK σ' r' k) : RSl σ' (v', s', r') := by
  intro j hj
  by_cases e : j = k
  · rw [e]; exact hn
  · have g6 := h1 (96 + 4 * j) (by omega) (by omega) (by omega)
    have g7 := h1 (97 + 4 * j) (by omega) (by omega) (by omega)
    have g8 := h1 (98 + 4 * j) (by omega) (by omega) (by omega)
    have g9 := h1 (99 + 4 * j) (by omega) (by omega) (by omega)
    have g11 : ∀ i, i < 24 → r' 11 (24 * j + i) = μ.2.2 11 (24 * j + i) := fun i hi => r11 _ (by omega)
    obtain ⟨th, t3, e0, e7, c3, c1, c2⟩ := h j hj
    refine ⟨th, t3, ?_, ?_, fun q => ?_, fun q => ?_, fun q => ?_⟩
    · rw [g6]; exact e0
    · show r' 7 j = nI th
      rw [rr 7 (by decide) (by decide) j e]; exact e7
    · show σ'.1 (96 + 4 * j) 1 = r' 8 j
      rw [g6, rr 8 (by decide) (by decide) j e]; exact c3 q
    · show σ'.1 (97 + 4 * j) 0 = r' 8 j ∧ (∃ kd, kd ≤ 5 ∧ r' 8 j = nI kd) ∧ worthK (σ'.1 (97 + 4 * j) 0) (σ'.1 (97 + 4 * j) 3) = r' 9 j
      rw [g7, rr 8 (by decide) (by decide) j e, rr 9 (by decide) (by decide) j e]; exact c1 q
    · obtain ⟨m, m1, m2, m3, m4⟩ := c2 q
      refine ⟨m, m1, ?_, ?_, fun i hi => ?_⟩
      · rw [g8]; exact m2
      · show r' 10 j = nI m
        rw [rr 10 (by decide) (by decide) j e]; exact m3
      · show σ'.1 (99 + 4 * j) i = r' 11 (24 * j + i)
        rw [g9, g11 i hi]; exact m4 i hi
/-- only slot k has changed -/
theorem rel_sl {ε : Ev} {σ σ' : Sg} {μ : Mg} {r' : Nat → Nat → Int32} {k : Nat} (h : Rel ε σ μ) (hk : k < 5) (h1 : ∀ x, (x < 96 + 4 * k ∨ 100 + 4 * k ≤ x) → σ'.1 x = σ.1 x) (h2 : σ'.2 = σ.2) (hr : ∀ j, (j < 7 ∨ 12 ≤ j) → r' j = μ.2.2 j) (rr : ∀ i, 7 ≤ i → i ≤ 10 → ∀ j, j ≠ k → r' i j = μ.2.2 i j) (r11 : ∀ p, (p < 24 * k ∨ 24 * k + 24 ≤ p) → r' 11 p = μ.2.2 11 p) (hn : SlK σ' r' k) : Rel ε σ' (μ.1, μ.2.1, r') :=
  rel_st h (fun x a b => h1 x (by omega)) (fun x a b => h1 x (by omega)) (by rw [h1 0 (by omega)]) h2 rfl (hr 1 (by decide)) (h.2.2.1.sm (by rw [h1 64 (by omega)]) (h1 65 (by omega)) rfl (hr 15 (by decide))) (h.2.2.2.1.sm (fun x a b => h1 x (by omega)) (fun j a b => hr j (by omega))) (h.2.2.2.2.1.up (fun x _ _ a => h1 x a) rr r11 hn) (h.2.2.2.2.2.1.sm (by rw [h1 0 (by omega)]) (h1 3 (by omega)) rfl (hr 30 (by decide)))
theorem lay7_f {z y u : Int32} {μ : Mg} {nt n : Nat} (hk : stOK μ.2.1 nt n) : ∃ g : Bool, fn_X7_lay z y u μ = fn_X7_lay_L39 z y u (bI g) μ ∧ (g = true ↔ y = 0 ∨ y = nI 3 ∨ (y = nI 1 ∧ hB n u = true) ∨ (y = nI 2 ∧ inB u 0 3 = true)) := by
  rw [fn_X7_lay, m_isH hk, ob_s]
  simp only [fn_X7_lay_L34, fn_X7_lay_L38, fn_X7_lay_L22, sheet7_eq, o1_s, bI_0]
  by_cases h0 : y = 0
  · rw [if_pos h0]; exact ⟨true, rfl, fun _ => Or.inl h0, fun _ => rfl⟩
  rw [if_neg h0]
  by_cases h3 : y = nI 3
  · rw [if_pos h3]; exact ⟨true, rfl, fun _ => Or.inr (Or.inl h3), fun _ => rfl⟩
  rw [if_neg h3]
  by_cases h1 : y = nI 1
  · rw [if_pos h1]
    have h2 : ¬ y = nI 2 := by rw [h1]; decide
    rw [if_neg h2]
    cases hu : hB n u with
    | false =>
      rw [if_pos rfl]
      exact ⟨false, rfl, fun q => Bool.noConfusion q, fun q => by
        rcases q with q | q | q | q
        · exact absurd q h0
        · exact absurd q h3
        · exact absurd q.2 (by decide)
        · exact absurd q.1 h2⟩
    | true => rw [if_neg tf_n]; exact ⟨true, rfl, fun _ => Or.inr (Or.inr (Or.inl ⟨h1, rfl⟩)), fun _ => rfl⟩
  rw [if_neg h1]
  by_cases h2 : y = nI 2
  · rw [if_pos h2]
    cases hu : inB u 0 3 with
    | false =>
      rw [if_pos rfl]
      exact ⟨false, rfl, fun q => Bool.noConfusion q, fun q => by
        rcases q with q | q | q | q
        · exact absurd q h0
        · exact absurd q h3
        · exact absurd q.1 h1
        · exact absurd q.2 (by decide)⟩
    | true => rw [if_neg tf_n]; exact ⟨true, rfl, fun _ => Or.inr (Or.inr (Or.inr ⟨h2, rfl⟩)), fun _ => rfl⟩
  rw [if_neg h2]
  exact ⟨false, rfl, fun q => Bool.noConfusion q, fun q => by
    rcases q with q | q | q | q
    · exact absurd q h0
    · exact absurd q h3
    · exact absurd q.1 h1
    · exact absurd q.1 h2⟩
theorem lay_L {v s : Nat → Int32} {r : Nat → Nat → Int32} {k i0 : Nat} {z2 z5 : Int32} (hk : k < 5) (hi0 : i0 < 4) (k187 : Int32 → Mg → Option (Int32 × Mg)) : ∀ (f i : Nat) (r1 : Nat → Nat → Int32), i ≤ 24 → 25 ≤ i + f → (∀ j, j ≠ 11 → r1 j = r j) → (∀ p, (p < 24 * k ∨ 24 * k + 24 ≤ p) → r1 11 p = r 11 p) → (∀ j, j < i → r1 11 (24 * k + j) = r 6 (24 * i0 + j)) → ∃ r2, fn_X7_lay_L150 (nI k) z2 (nI i0) k187 f z5 (nI i) (v, s, r1) = k187 z5 (v, s, r2) ∧ (∀ j, j ≠ 11 → r2 j = r j) ∧ (∀ p, (p < 24 * k ∨ 24 * k + 24 ≤ p) → r2 11 p = r 11 p) ∧ ∀ j, j < 24 → r2 11 (24 * k + j) = r 6 (24 * i0 + j) := by
  intro f
  induction f with
  | zero => intro i r1 h1 h2; omega
  | succ f ih =>
    intro i r1 h1 h2 ha hb hc
    simp only [fn_X7_lay_L150]
    by_cases hi : i = 24
    · subst hi
      rw [if_pos (by decide)]
      exact ⟨r1, rfl, ha, hb, hc⟩
    · rw [if_neg (nI_ge (by omega) (by omega)), pk_mul, pk_mul, nI_add, nI_add, nI_clamp (show 24 * i0 + i < 2 ^ 31 by omega), nI_clamp (show 24 * k + i < 2 ^ 31 by omega), if_pos (g_in (show 24 * i0 + i < 96 by omega) (by decide)), if_pos (g_in (show 24 * k + i < 120 by omega) (by decide)), nI_add]
      refine ih (i + 1) _ (by omega) (by omega) (fun j h => by rw [mU_n _ _ h]; exact ha j h) (fun p h => by rw [mU_s, pk_un (by omega)]; exact hb p h) (fun j h => ?_)
      rw [mU_s]
      by_cases e : j = i
      · rw [e, pk_us, ha 6 (by decide)]
      · rw [pk_un (by omega)]; exact hc j (by omega)
theorem lay_ok {ε : Ev} {σ : Sg} {μ : Mg} (h : Rel ε σ μ) (z y u : Int32) : RStp ε (fn_X6_lay ε z y u σ) (fn_X7_lay z y u μ) := by
  obtain ⟨n, nt, d, hS, hd, hd2⟩ := h.1
  have hn9 := hS.1.1
  obtain ⟨g, eg, hg⟩ := lay7_f (z := z) (y := y) (u := u) hS.ok
  rw [eg, fn_X6_lay, fn_X7_lay_L39, slot_eq, slot7_eq, o1_s, o1_s]
  simp only [bI_0, fn_X6_lay_L16, fn_X6_lay_L44, fn_X7_lay_L53]
  cases hz : inB z 0 4 with
  | false => rw [if_pos ff_y, if_pos ff_y]; exact ⟨_, σ, μ, rfl, rfl, h⟩
  | true =>
    obtain ⟨k, k1, k2, rfl⟩ := inB_t (lo := 0) (hi := 4) (by decide) (by decide) hz
    have hk : k < 5 := by omega
    obtain ⟨th, t3, e0, e7, -⟩ := h.2.2.2.2.1 k hk
    rw [if_neg tf_n, if_neg tf_n]
    by_cases h1 : y < 0
    · have gf : g = false := by
        cases g with
        | false => rfl
        | true =>
          rcases hg.mp rfl with q | q | q | q
          · rw [q] at h1; exact absurd h1 (by decide)
          · rw [q] at h1; exact absurd h1 (by decide)
          · rw [q.1] at h1; exact absurd h1 (by decide)
          · rw [q.1] at h1; exact absurd h1 (by decide)
      rw [if_pos h1, gf, if_pos ff_y]; exact ⟨_, σ, μ, rfl, rfl, h⟩
    rw [if_neg h1]
    by_cases h2 : y ≤ nI 3
    · obtain ⟨w, w1, w2, rfl⟩ := inB_t (lo := 0) (hi := 3) (by decide) (by decide) (inB_3 h1 h2)
      rw [if_pos h2]
      have e : w = 0 ∨ w = 1 ∨ w = 2 ∨ w = 3 := by omega
      have num : ∀ w : Nat, w = 0 ∨ w = 3 → RStp ε (fn_X6_lay_L68 ε (nI k) (nI w) u σ) (fn_X7_lay_L74 (nI k) (nI w) u μ) := by
        intro w hw
        have n1 : ¬ nI w = nI 1 := by rcases hw with rfl | rfl <;> decide
        have n2 : ¬ nI w = nI 2 := by rcases hw with rfl | rfl <;> decide
        simp only [fn_X6_lay_L68, fn_X6_lay_L142, fn_X7_lay_L74, fn_X7_lay_L109, fn_X7_lay_L129, fn_X7_lay_L187, nI_clamp (show k < 2 ^ 31 by omega), if_pos (g_in hk (show 5 < 2 ^ 31 by decide)), if_neg n1, if_neg n2, e0, e7]
        refine ⟨_, _, _, rfl, rfl, rel_sl h hk (fun x a => by rw [pI_nc (by omega), pI_nc (by omega)]) rfl (fun j hj => ?_) (fun i a b j hj => ?_) (fun p _ => ?_) ⟨w, by omega, ?_, ?_, fun q => ?_, fun q => by omega, fun q => by omega⟩⟩
        · rw [mU_n _ _ (by omega), mU_n _ _ (by omega), mU_n _ _ (by omega)]
        · have e : i = 7 ∨ i = 8 ∨ i = 9 ∨ i = 10 := by omega
          rcases e with rfl | rfl | rfl | rfl <;> simp [mU, upd, hj]
        · rw [mU_n _ _ (by omega), mU_n _ _ (by omega), mU_n _ _ (by omega)]
        · rw [pI_n (Or.inr (by decide)), pI_e]
        · simp [mU, upd]
        · rw [pI_e]; simp [mU, upd]
      rcases e with rfl | rfl | rfl | rfl
      · have gt : g = true := hg.mpr (Or.inl rfl)
        rw [gt, if_neg tf_n, if_neg (show ¬ nI 0 = nI 2 from by decide), if_neg (show ¬ nI 0 = nI 1 from by decide), fn_X6_lay_L32, if_neg (show ¬ nI 0 = nI 2 from by decide), fn_X6_lay_L47, if_neg (show ¬ nI 0 = nI 2 from by decide)]
        exact num 0 (Or.inl rfl)
      · rw [if_pos rfl, if_neg (show ¬ nI 1 = nI 2 from by decide)]
        cases hu : hB n u with
        | false =>
          have gf : g = false := by
            cases g with
            | false => rfl
            | true =>
              rcases hg.mp rfl with q | q | q | q
              · exact absurd q (by decide)
              · exact absurd q (by decide)
              · rw [hu] at q; exact absurd q.2 (by decide)
              · exact absurd q.1 (by decide)
          rw [hs_n hS.1 hu, ob_s, if_pos rfl, gf, if_pos ff_y]; exact ⟨_, σ, μ, rfl, rfl, h⟩
        | true =>
          have gt : g = true := hg.mpr (Or.inr (Or.inr (Or.inl ⟨rfl, hu⟩)))
          obtain ⟨j, hj, rfl⟩ := hB_t (by omega) hu
          rw [hs_y hS.1 hj, ob_s, if_neg (show ¬ (1 : Int32) = 0 from by decide), gt, if_neg tf_n, fn_X6_lay_L32, if_neg (show ¬ nI 1 = nI 2 from by decide), fn_X6_lay_L47, if_neg (show ¬ nI 1 = nI 2 from by decide)]
          have hr := hS.1.2.2.2.2.2.2.2 j hj
          have hbit : (pI σ (96 + 4 * k) 0 (nI 1)).1 (23 + j) 6 = 0 ∨ (pI σ (96 + 4 * k) 0 (nI 1)).1 (23 + j) 6 = 1 := by
            rw [pI_nc (by omega)]
            have e : σ.1 (23 + j) 6 = _ := hr.2.1
            rw [e]
            by_cases hz : μ.2.1 (6 + 7 * j + 6) = 0
            · rw [if_pos hz]; exact Or.inr rfl
            · rw [if_neg hz]; exact Or.inl rfl
          obtain ⟨τ, e1, f1, f2, f3⟩ := hBe_eq (ε := ε) (x := 96 + 4 * k + 1) (y := 23 + j) (σ := pI σ (96 + 4 * k) 0 (nI 1)) (by omega) hbit
          have r0 : σ.1 (23 + j) 0 = μ.2.1 (6 + 7 * j + 0) := hr.1 0 (by decide)
          have r3 : σ.1 (23 + j) 3 = μ.2.1 (6 + 7 * j + 3) := hr.1 3 (by decide)
          have w7 : ∀ q : Nat → Nat → Int32, fn_X7_worth (nI j) (μ.1, μ.2.1, q) = some (worthK (μ.2.1 (6 + 7 * j + 0)) (μ.2.1 (6 + 7 * j + 3)), (μ.1, μ.2.1, q)) := by
            intro q
            rw [fn_X7_worth, m_at (by omega) (by decide), ob_s, m_at (by omega) (by decide), ob_s]
            simp only [worthK]
            repeat' split
            all_goals simp_all
          simp only [fn_X6_lay_L68, fn_X6_lay_L142, fn_X7_lay_L74, fn_X7_lay_L109, fn_X7_lay_L129, fn_X7_lay_L187, nI_clamp (show k < 2 ^ 31 by omega), nI_clamp (show j < 2 ^ 31 by omega), if_pos (g_in hk (show 5 < 2 ^ 31 by decide)), if_pos (g_in (show j < 9 by omega) (show 9 < 2 ^ 31 by decide)), if_neg (show ¬ nI 1 = nI 2 from by decide), if_true, e0, e7, e1, ob_s]
          rw [m_at (by omega) (by decide), ob_s]
          dsimp only
          rw [w7, ob_s]
          dsimp only
          obtain ⟨kd, w', wl, cr, pr, b0, b0', -⟩ := hS.2.2.1 j hj
          refine ⟨_, _, _, rfl, rfl, rel_sl (σ := σ) (μ := μ) h hk (fun x a => by rw [f1 x (by omega), pI_nc (by omega)]) f3 (fun i hi => ?_) (fun i a b i' hi' => ?_) (fun p _ => ?_) ⟨1, by omega, ?_, ?_, fun q => by omega, fun _ => ⟨?_, ⟨kd, b0', ?_⟩, ?_⟩, fun q => by omega⟩⟩
          · rw [mU_n _ _ (by omega), mU_n _ _ (by omega), mU_n _ _ (by omega)]
          · have e : i = 7 ∨ i = 8 ∨ i = 9 ∨ i = 10 := by omega
            rcases e with rfl | rfl | rfl | rfl <;> simp [mU, upd, hi']
          · rw [mU_n _ _ (by omega), mU_n _ _ (by omega), mU_n _ _ (by omega)]
          · rw [f1 _ (by omega), pI_e]
          · simp [mU, upd]
          · rw [show 97 + 4 * k = 96 + 4 * k + 1 by omega, f2 0 (by decide), pI_nc (by omega), r0]; simp [mU, upd]
          · rw [← b0]; simp [mU, upd]
          · rw [show 97 + 4 * k = 96 + 4 * k + 1 by omega, f2 0 (by decide), f2 3 (by decide), pI_nc (by omega), r0, r3]; simp [mU, upd]
      · rw [if_neg (show ¬ nI 2 = nI 1 from by decide), if_pos (show nI 2 = nI 2 from rfl), fn_X6_lay_L32, if_pos (show nI 2 = nI 2 from rfl), sheet_eq, o1_s]
        simp only [bI_0]
        cases hu : inB u 0 3 with
        | false =>
          have gf : g = false := by
            cases g with
            | false => rfl
            | true =>
              rcases hg.mp rfl with q | q | q | q
              · exact absurd q (by decide)
              · exact absurd q (by decide)
              · exact absurd q.1 (by decide)
              · rw [hu] at q; exact absurd q.2 (by decide)
          rw [if_pos ff_y, gf, if_pos ff_y, fn_X6_lay_L44]; exact ⟨_, σ, μ, rfl, rfl, h⟩
        | true =>
          have gt : g = true := hg.mpr (Or.inr (Or.inr (Or.inr ⟨rfl, hu⟩)))
          obtain ⟨j, j1, j2, rfl⟩ := inB_t (lo := 0) (hi := 3) (by decide) (by decide) hu
          have hj : j < 4 := by omega
          obtain ⟨a1, a2, ⟨m, m1, m2, m3, m4⟩, a3⟩ := h.2.2.2.1 j hj
          rw [if_neg tf_n, gt, if_neg tf_n, fn_X6_lay_L47, if_pos (show nI 2 = nI 2 from rfl), nI_clamp (show j < 2 ^ 31 by omega), if_pos (g_in hj (by decide)), if_pos (g_in hj (by decide)), a1]
          by_cases hm : μ.2.2 4 j = -1
          · rw [hm, if_pos rfl, if_neg (by decide)]; exact ⟨_, σ, μ, rfl, rfl, h⟩
          · have h0 : (0 : Int32) ≤ μ.2.2 4 j := by
              rcases a2 with q | q | q
              · exact absurd q hm
              · rw [q]; decide
              · rw [q]; decide
            rw [if_neg hm, if_pos h0]
            simp only [fn_X6_lay_L68, fn_X6_lay_L142, fn_X7_lay_L74, fn_X7_lay_L109, fn_X7_lay_L129, nI_clamp (show k < 2 ^ 31 by omega), nI_clamp (show j < 2 ^ 31 by omega), if_pos (g_in hk (show 5 < 2 ^ 31 by decide)), if_pos (g_in hj (show 4 < 2 ^ 31 by decide)), if_neg (show ¬ nI 2 = nI 1 from by decide), if_true, e0, e7]
            rw [fn_X2_beLike, if_pos (by decide), ob_s]
            obtain ⟨r2, e2, b1, b2, b3⟩ := lay_L (v := μ.1) (s := μ.2.1) (r := mU (mU (mU (mU μ.2.2 7 (upd (μ.2.2 7) k (nI 2))) 8 (upd (mU μ.2.2 7 (upd (μ.2.2 7) k (nI 2)) 8) k (nI j))) 9 (upd (mU (mU μ.2.2 7 (upd (μ.2.2 7) k (nI 2))) 8 (upd (mU μ.2.2 7 (upd (μ.2.2 7) k (nI 2)) 8) k (nI j)) 9) k (nI 0))) 10 (upd (mU (mU (mU μ.2.2 7 (upd (μ.2.2 7) k (nI 2))) 8 (upd (mU μ.2.2 7 (upd (μ.2.2 7) k (nI 2)) 8) k (nI j))) 9 (upd (mU (mU μ.2.2 7 (upd (μ.2.2 7) k (nI 2))) 8 (upd (mU μ.2.2 7 (upd (μ.2.2 7) k (nI 2)) 8) k (nI j)) 9) k (nI 0)) 10) k (mU (mU (mU μ.2.2 7 (upd (μ.2.2 7) k (nI 2))) 8 (upd (mU μ.2.2 7 (upd (μ.2.2 7) k (nI 2)) 8) k (nI j))) 9 (upd (mU (mU μ.2.2 7 (upd (μ.2.2 7) k (nI 2))) 8 (upd (mU μ.2.2 7 (upd (μ.2.2 7) k (nI 2)) 8) k (nI j)) 9) k (nI 0)) 5 j))) (k := k) (i0 := j) (z2 := nI 2) (z5 := nI th) hk hj (fn_X7_lay_L187 (nI k) (nI 2) (nI j)) 4000 0 _ (by decide) (by decide) (fun _ _ => rfl) (fun _ _ => rfl) (fun i hi => by omega)
            refine ⟨_, _, (μ.1, μ.2.1, r2), rfl, ?_, rel_sl h hk (fun x a => ?_) rfl (fun i hi => ?_) (fun i a b i' hi' => ?_) (fun p hp => ?_) ⟨2, by omega, ?_, ?_, fun q => by omega, fun q => by omega, fun _ => ⟨m, m1, ?_, ?_, fun i hi => ?_⟩⟩⟩
            · exact e2
            · rw [pA_n (by omega), pI_nc (by omega), pI_nc (by omega), pI_nc (by omega)]
            · rw [b1 i (by omega), mU_n _ _ (by omega), mU_n _ _ (by omega), mU_n _ _ (by omega), mU_n _ _ (by omega)]
            · have e : i = 7 ∨ i = 8 ∨ i = 9 ∨ i = 10 := by omega
              rcases e with rfl | rfl | rfl | rfl <;> rw [b1 _ (by decide)] <;> simp [mU, upd, hi']
            · rw [b2 p hp, mU_n _ _ (by omega), mU_n _ _ (by omega), mU_n _ _ (by omega), mU_n _ _ (by omega)]
            · rw [pA_n (by omega), pI_nc (by omega), pI_nc (by omega), pI_e]
            · rw [b1 _ (by decide)]; simp [mU, upd]
            · rw [pA_n (by omega), show 98 + 4 * k = 96 + 4 * k + 2 by omega, pI_e, pI_nc (by omega), pI_nc (by omega)]; exact m2
            · rw [b1 _ (by decide)]; simp [mU, upd]; exact m3
            · simp only [show (nI 0).toNatClampNeg = 0 from by decide, show (nI 24).toNatClampNeg = 24 from by decide]
              rw [show 99 + 4 * k = 96 + 4 * k + 2 + 1 by omega, pA_e, pk_cpy_in (Nat.zero_le _) (show i < 0 + 24 by omega), b3 i hi, pI_nc (by omega), pI_nc (by omega), pI_nc (by omega)]
              rw [show 0 + (i - 0) = i by omega, show 80 + 2 * j + 1 = 81 + 2 * j by omega, (a3 i hi).1]
              simp [mU]
      · have gt : g = true := hg.mpr (Or.inr (Or.inl rfl))
        rw [gt, if_neg tf_n, if_neg (show ¬ nI 3 = nI 2 from by decide), if_neg (show ¬ nI 3 = nI 1 from by decide), fn_X6_lay_L32, if_neg (show ¬ nI 3 = nI 2 from by decide), fn_X6_lay_L47, if_neg (show ¬ nI 3 = nI 2 from by decide)]
        exact num 3 (Or.inr rfl)
    · have gf : g = false := by
        cases g with
        | false => rfl
        | true =>
          rcases hg.mp rfl with q | q | q | q
          · rw [q] at h2; exact absurd (by decide) h2
          · rw [q] at h2; exact absurd (by decide) h2
          · rw [q.1] at h2; exact absurd (by decide) h2
          · rw [q.1] at h2; exact absurd (by decide) h2
      rw [if_neg h2, gf, if_pos ff_y]; exact ⟨_, σ, μ, rfl, rfl, h⟩
