/-! ===== images ===== -/
theorem wkH_lo {s s2 : Nat → Int32} {b M : Nat} (h : ∀ j, b ≤ j → j < b + 4 + 2 * M → s2 j = s j) : ∀ k, k ≤ M → wkH s2 b k = wkH s b k := by
  intro k
  induction k with
  | zero => intro _; rfl
  | succ k ih =>
    intro hk
    rw [wkH, wkH, ih (by omega), h _ (by omega) (by omega), h _ (by omega) (by omega)]
theorem TxR.lo {ε : Ev} {σ : Sg} {x t : Nat} {s s' : Nat → Int32} (h : TxR ε σ x s t) (ht : t < 14) (hs : ∀ j, j < 2869 → s' j = s j) : TxR ε σ x s' t := by
  obtain ⟨h5, hnum, key, m, p, hk2, hks, hkx, hps, hpx, hp1, hp96, hms, hm96, hlm, hlp, hst, hh, h11⟩ := h
  have hw := wkH_lo (s := s) (s2 := s') (b := 69 + 200 * t) (M := m) (fun j a b => hs j (by omega))
  refine ⟨h5, hnum, key, m, p, hk2, by rw [hs _ (by omega)]; exact hks, hkx, by rw [hs _ (by omega)]; exact hps, hpx, hp1, hp96, by rw [hs _ (by omega)]; exact hms, hm96, hlm, hlp, fun k hk => ?_, fun k hk => ?_, ?_⟩
  · rw [hs _ (by omega), hs _ (by omega)]; exact hst k hk
  · rw [hw k hk]; exact hh k hk
  · rw [hw m (Nat.le_refl m)]; exact h11
theorem lastO_lo {s s' : Nat → Int32} {key : Int32} (hs : ∀ j, j < 2869 → s' j = s j) : ∀ n, n ≤ 14 → lastO s' key n = lastO s key n := by
  intro n
  induction n with
  | zero => intro _; rfl
  | succ n ih => intro hn; rw [lastO, lastO, ih (by omega), hs _ (by omega)]
theorem StO.lo {ε : Ev} {σ : Sg} {c n nt : Nat} {s s' : Nat → Int32} (h : StO ε σ c s nt n) (hs : ∀ j, j < 2869 → s' j = s j) : StO ε σ c s' nt n := by
  obtain ⟨⟨a1, a2, a3, a4, a5, a6, a7, a8⟩, ⟨b1, b2, b3, b4, b5⟩, hB, hd⟩ := h
  refine ⟨⟨a1, by rw [hs 0 (by decide)]; exact a2, a3, by rw [hs 4 (by decide)]; exact a4, by rw [hs 3 (by decide)]; exact a5, by rw [hs 2 (by decide)]; exact a6, by rw [hs 5 (by decide)]; exact a7, fun k hk => ?_⟩, ⟨b1, by rw [hs 1 (by decide)]; exact b2, b3, fun t ht => ?_, fun key hk => ?_⟩, fun k hk => ?_, by rw [hs 4 (by decide)]; exact hd⟩
  · obtain ⟨c1, c2, c3⟩ := a8 k hk
    exact ⟨fun w hw => by rw [hs _ (by omega)]; exact c1 w hw, by rw [hs _ (by omega)]; exact c2, by rw [hs _ (by omega)]; exact c3⟩
  · obtain ⟨x, e1, e2⟩ := b4 t ht
    exact ⟨x, e1, e2.lo (by omega) hs⟩
  · rw [lastO_lo hs nt b1]; exact b5 key hk
  · obtain ⟨kd, w, wl, cr, pr, b0, b0', b1, b1', b1'', b3, b3', b4, b4', b5, b5', b2, b2'⟩ := hB k hk
    exact ⟨kd, w, wl, cr, pr, by rw [hs _ (by omega)]; exact b0, b0', by rw [hs _ (by omega)]; exact b1, b1', b1'', by rw [hs _ (by omega)]; exact b3, b3', by rw [hs _ (by omega)]; exact b4, b4', by rw [hs _ (by omega)]; exact b5, b5', by rw [hs _ (by omega)]; exact b2, by rw [hs _ (by omega)]; exact b2'⟩
theorem cpN_in {i j : Nat} {f g : Nat → Int32} (h : j < i) : cpN i f g j = f j := by simp [cpN, h]
theorem cpN_out {i j : Nat} {f g : Nat → Int32} (h : i ≤ j) : cpN i f g j = g j := by simp [cpN, show ¬ j < i by omega]
theorem sa01_L {v s : Nat → Int32} {r : Nat → Nat → Int32} (k21 : Mg → Option (Unit × Mg)) : ∀ (f i : Nat), i ≤ 2869 → 2870 ≤ i + f → fn_X7_setAside_0_1_L2 k21 f (nI i) (v, s, mU r 1 (cpN i s (r 1))) = k21 (v, s, mU r 1 (cpN 2869 s (r 1))) := by
  intro f
  induction f with
  | zero => intro i h1 h2; omega
  | succ f ih =>
    intro i h1 h2
    simp only [fn_X7_setAside_0_1_L2]
    by_cases hi : i = 2869
    · subst hi; rw [if_pos (by decide)]
    · rw [if_neg (nI_ge (by omega) (by omega)), nI_clamp (by omega), if_pos (g_in (show i < 3069 by omega) (by decide)), nI_add, mU_s, cpN_s, mU_mU]
      exact ih (i + 1) (by omega) (by omega)
theorem sa02_L {v s : Nat → Int32} {r : Nat → Nat → Int32} (k21 : Mg → Option (Unit × Mg)) : ∀ (f i : Nat), i ≤ 2869 → 2870 ≤ i + f → fn_X7_setAside_0_2_L2 k21 f (nI i) (v, s, mU r 2 (cpN i s (r 2))) = k21 (v, s, mU r 2 (cpN 2869 s (r 2))) := by
  intro f
  induction f with
  | zero => intro i h1 h2; omega
  | succ f ih =>
    intro i h1 h2
    simp only [fn_X7_setAside_0_2_L2]
    by_cases hi : i = 2869
    · subst hi; rw [if_pos (by decide)]
    · rw [if_neg (nI_ge (by omega) (by omega)), nI_clamp (by omega), if_pos (g_in (show i < 3069 by omega) (by decide)), nI_add, mU_s, cpN_s, mU_mU]
      exact ih (i + 1) (by omega) (by omega)
theorem sa10_L {v s : Nat → Int32} {r : Nat → Nat → Int32} (k21 : Mg → Option (Unit × Mg)) : ∀ (f i : Nat), i ≤ 2869 → 2870 ≤ i + f → fn_X7_setAside_1_0_L2 k21 f (nI i) (v, cpN i (r 1) s, r) = k21 (v, cpN 2869 (r 1) s, r) := by
  intro f
  induction f with
  | zero => intro i h1 h2; omega
  | succ f ih =>
    intro i h1 h2
    simp only [fn_X7_setAside_1_0_L2]
    by_cases hi : i = 2869
    · subst hi; rw [if_pos (by decide)]
    · rw [if_neg (nI_ge (by omega) (by omega)), nI_clamp (by omega), if_pos (g_in (show i < 3069 by omega) (by decide)), nI_add, cpN_s]
      exact ih (i + 1) (by omega) (by omega)
theorem sa20_L {v s : Nat → Int32} {r : Nat → Nat → Int32} (k21 : Mg → Option (Unit × Mg)) : ∀ (f i : Nat), i ≤ 2869 → 2870 ≤ i + f → fn_X7_setAside_2_0_L2 k21 f (nI i) (v, cpN i (r 2) s, r) = k21 (v, cpN 2869 (r 2) s, r) := by
  intro f
  induction f with
  | zero => intro i h1 h2; omega
  | succ f ih =>
    intro i h1 h2
    simp only [fn_X7_setAside_2_0_L2]
    by_cases hi : i = 2869
    · subst hi; rw [if_pos (by decide)]
    · rw [if_neg (nI_ge (by omega) (by omega)), nI_clamp (by omega), if_pos (g_in (show i < 3069 by omega) (by decide)), nI_add, cpN_s]
      exact ih (i + 1) (by omega) (by omega)
theorem sa01 {v s : Nat → Int32} {r : Nat → Nat → Int32} : fn_X7_setAside_0_1 (v, s, r) = some ((), (v, s, mU r 1 (cpN 2869 s (r 1)))) := by
  have e := sa01_L (v := v) (s := s) (r := r) fn_X7_setAside_0_1_L21 4000 0 (by decide) (by decide)
  rw [cpN_0, mU_self] at e
  exact e
theorem sa02 {v s : Nat → Int32} {r : Nat → Nat → Int32} : fn_X7_setAside_0_2 (v, s, r) = some ((), (v, s, mU r 2 (cpN 2869 s (r 2)))) := by
  have e := sa02_L (v := v) (s := s) (r := r) fn_X7_setAside_0_2_L21 4000 0 (by decide) (by decide)
  rw [cpN_0, mU_self] at e
  exact e
theorem sa10 {v s : Nat → Int32} {r : Nat → Nat → Int32} : fn_X7_setAside_1_0 (v, s, r) = some ((), (v, cpN 2869 (r 1) s, r)) := by
  have e := sa10_L (v := v) (s := s) (r := r) fn_X7_setAside_1_0_L21 4000 0 (by decide) (by decide)
  rw [cpN_0] at e
  exact e
theorem sa20 {v s : Nat → Int32} {r : Nat → Nat → Int32} : fn_X7_setAside_2_0 (v, s, r) = some ((), (v, cpN 2869 (r 2) s, r)) := by
  have e := sa20_L (v := v) (s := s) (r := r) fn_X7_setAside_2_0_L21 4000 0 (by decide) (by decide)
  rw [cpN_0] at e
  exact e
theorem keep_ok {ε : Ev} {σ : Sg} {μ : Mg} (h : Rel ε σ μ) : RStp ε (fn_X6_keep ε σ) (fn_X7_keep μ) := by
  obtain ⟨n, nt, d, hS, hd, hd2⟩ := h.1
  obtain ⟨τ, e, f, g, t⟩ := be_eq (ε := ε) (c := 32) (c1 := 16) (by decide) (by decide) (by decide) hS
  rw [fn_X6_keep, fn_X7_keep, e, ob_s, sa01, ob_s, if_pos (show ¬ (nI 0 < 0 ∨ 3069 ≤ (nI 0).toNatClampNeg) from by decide)]
  have q : ∀ x, x ≠ 0 → (x < 32 ∨ 48 ≤ x) → (x < 1000 ∨ x % 3 ≠ 0) → (pI τ 0 8 (nI 1)).1 x = σ.1 x := fun x a b c => by rw [pI_nc a]; exact f.1 x b c
  have q0 : ∀ w, w ≠ 8 → (pI τ 0 8 (nI 1)).1 0 w = σ.1 0 w := fun w hw => by rw [pI_n (Or.inr hw), f.1 0 (by omega) (by omega)]
  have S16 : StO ε (pI τ 0 8 (nI 1)) 16 μ.2.1 nt n := StO_keep (by decide) hS (fun x a b => q x (by omega) (by omega) (by omega)) (f.2 18 (by decide) (by decide)) (f.2 19 (by decide) (by decide)) (fun y a b => q y (by omega) (by omega) (by omega))
  have S32 : StO ε (pI τ 0 8 (nI 1)) 32 μ.2.1 nt n := StO_keep (by decide) g (fun x a b => pI_nc (by omega)) rfl rfl (fun y a b => pI_nc (by omega))
  refine ⟨_, _, (upd μ.1 3 (nI 1), μ.2.1, mU μ.2.2 1 (cpN 2869 μ.2.1 (μ.2.2 1))), rfl, ?_, ⟨n, nt, d, S16, hd, hd2⟩, ⟨?_, Or.inr ⟨(show upd μ.1 3 (nI 1) 3 = nI 1 from pk_us), n, nt, d, ?_, hd, ?_⟩⟩, h.2.2.1.sm (by rw [q 64 (by omega) (by omega) (by omega)]) (q 65 (by omega) (by omega) (by omega)) (pk_un (by decide)) (mU_n _ _ (by decide)), h.2.2.2.1.sm (fun x a b => q x (by omega) (by omega) (by omega)) (fun j a b => mU_n _ _ (by omega)), h.2.2.2.2.1.sm (fun x a b => q x (by omega) (by omega) (by omega)) (fun j a b => mU_n _ _ (by omega)), h.2.2.2.2.2.1.sm (q0 7 (by decide)) (q 3 (by omega) (by omega) (by omega)) (pk_un (by decide)) (mU_n _ _ (by decide)), (h.2.2.2.2.2.2.sub t).same rfl⟩
  · have e1 := S16.1.2.2.1
    have e2 : μ.2.1 0 = nI n := hS.1.2.1
    rw [e1]
    show some (μ.2.1 0, _) = some (nI n, _)
    rw [e2]
  · rw [pI_e]; exact (show nI 1 = upd μ.1 3 (nI 1) 3 from pk_us.symm)
  · dsimp only
    rw [mU_s]
    exact S32.lo (fun j hj => cpN_in hj)
  · dsimp only
    rw [mU_s, cpN_in (by decide)]; exact hd2
theorem back_ok {ε : Ev} {σ : Sg} {μ : Mg} (h : Rel ε σ μ) : RStp ε (fn_X6_back ε σ) (fn_X7_back μ) := by
  obtain ⟨i1, i2⟩ := h.2.1
  rw [fn_X6_back, fn_X7_back, i1]
  rcases i2 with i2 | ⟨i2, n, nt, d, hS, hd, hd2⟩
  · rw [i2, if_pos (by decide), if_pos (by decide)]; exact ⟨_, σ, μ, rfl, rfl, h⟩
  · obtain ⟨τ, e, f, g, t⟩ := be_eq (ε := ε) (c := 16) (c1 := 32) (by decide) (by decide) (by decide) hS
    rw [i2, if_neg (by decide), if_neg (by decide), e, ob_s, show fn_X7_setAside_1_0 μ = _ from sa10 (v := μ.1) (s := μ.2.1) (r := μ.2.2), ob_s, if_pos (show ¬ (nI 0 < 0 ∨ 3069 ≤ (nI 0).toNatClampNeg) from by decide)]
    have g' : StO ε τ 16 (cpN 2869 (μ.2.2 1) μ.2.1) nt n := g.lo (fun j hj => cpN_in hj)
    refine ⟨_, _, _, rfl, ?_, rel_now h (fun x a b => f.1 x (by omega) b) (fun x a b => f.2 x a b) (h.2.2.2.2.2.2.sub t) ⟨n, nt, d, g', hd, by rw [cpN_in (by decide)]; exact hd2⟩⟩
    have e1 := g'.1.2.2.1
    have e2 := g'.1.2.1
    rw [e1]
    show some (cpN 2869 (μ.2.2 1) μ.2.1 0, _) = some (nI n, _)
    rw [e2]
