/-- only the tape has changed -/
theorem rel_tape {ε : Ev} {σ σ' : Sg} {μ : Mg} {v' : Nat → Int32} {r' : Nat → Nat → Int32} (h : Rel ε σ μ) (h1 : ∀ x, x ≠ 64 → x ≠ 65 → σ'.1 x = σ.1 x) (h2 : σ'.2 = σ.2) (hv : ∀ j, j ≠ 16 → v' j = μ.1 j) (hr : ∀ j, j ≠ 15 → r' j = μ.2.2 j) (ht : RTape σ' (v', μ.2.1, r')) : Rel ε σ' (v', μ.2.1, r') := by
  obtain ⟨⟨n, nt, d, hS, hd, hd2⟩, ⟨i1, i2⟩, -, hsh, hsl, ⟨u, u1, u2, u3, u4⟩, hT⟩ := h
  have keep : ∀ {c n nt : Nat} {s : Nat → Int32}, (c = 16 ∨ c = 32) → StO ε σ c s nt n → StO ε σ' c s nt n := fun hc hs => StO_keep (by omega) hs (fun x a b => h1 x (by omega) (by omega)) (by rw [h2]) (by rw [h2]) (fun y a _ => h1 y (by omega) (by omega))
  refine ⟨⟨n, nt, d, keep (Or.inl rfl) hS, hd, hd2⟩, ⟨?_, ?_⟩, ht, fun k hk => ?_, fun k hk => ?_, ⟨u, u1, ?_, ?_, fun j hj => ?_⟩, hT.same h2⟩
  · show σ'.1 0 8 = v' 3
    rw [h1 0 (by decide) (by decide), hv 3 (by decide)]; exact i1
  · show v' 3 = nI 0 ∨ (v' 3 = nI 1 ∧ ∃ n nt d, StO ε σ' 32 (r' 1) nt n ∧ d ≤ 9999 ∧ r' 1 2 = nI d)
    rw [hv 3 (by decide), hr 1 (by decide)]
    rcases i2 with i2 | ⟨i2, n, nt, d, a, b⟩
    · exact Or.inl i2
    · exact Or.inr ⟨i2, n, nt, d, keep (Or.inr rfl) a, b⟩
  · have e := hsh k hk
    rw [← h1 (80 + 2 * k) (by omega) (by omega), ← h1 (81 + 2 * k) (by omega) (by omega), ← hr 4 (by decide), ← hr 5 (by decide), ← hr 6 (by decide)] at e
    exact e
  · have e := hsl k hk
    rw [← h1 (96 + 4 * k) (by omega) (by omega), ← h1 (97 + 4 * k) (by omega) (by omega), ← h1 (98 + 4 * k) (by omega) (by omega), ← h1 (99 + 4 * k) (by omega) (by omega), ← hr 7 (by decide), ← hr 8 (by decide), ← hr 9 (by decide), ← hr 10 (by decide), ← hr 11 (by decide)] at e
    exact e
  · rw [h1 0 (by decide) (by decide)]; exact u2
  · show v' 31 = nI u
    rw [hv 31 (by decide)]; exact u3
  · show σ'.1 3 j = r' 30 j
    rw [h1 3 (by decide) (by decide), hr 30 (by decide)]; exact u4 j hj
theorem trim_ok {ε : Ev} {σ : Sg} {μ : Mg} (h : Rel ε σ μ) (z : Int32) : RStp ε (fn_X6_trim ε z σ) (fn_X7_trim z μ) := by
  obtain ⟨tp, t1, t2, t3, t4⟩ := h.2.2.1
  simp only [fn_X6_trim, fn_X6_trim_L15, fn_X7_trim, bI_0, t2, t3]
  by_cases h1 : z < 0
  · rw [if_pos h1, if_pos (inB_1 h1)]; exact ⟨_, σ, μ, rfl, rfl, h⟩
  rw [if_neg h1]
  by_cases h2 : z ≤ nI tp
  · rw [if_pos h2, if_neg (show ¬ (inB z 0 (nI tp) = false) from by rw [inB_3 h1 h2]; decide)]
    obtain ⟨u, hu, rfl⟩ := nI_of h1
    have q : u ≤ tp := Nat.le_of_not_lt fun q => nI_ge q hu h2
    refine ⟨_, _, _, rfl, rfl, rel_tape h (fun x a _ => pI_nc a) rfl (fun j hj => pk_un hj) (fun _ _ => rfl) ⟨u, by omega, pI_e _ _ _ _, (show upd μ.1 16 (nI u) 16 = nI u from pk_us), fun j hj => ?_⟩⟩
    rw [pI_nc (by decide)]
    exact t4 j (by omega)
  · rw [if_neg h2, if_pos (inB_2 h2)]; exact ⟨_, σ, μ, rfl, rfl, h⟩
theorem kind_eq (y : Int32) : fn_X6_isKind y = some (bI (inB y 0 5)) := by
  simp only [fn_X6_isKind, fn_X6_isKind_L14, fn_X6_isKind_L15]
  by_cases h1 : y < 0
  · rw [if_pos h1, inB_1 h1, if_pos (by decide)]; rfl
  · obtain ⟨u, hu, rfl⟩ := nI_of h1
    rw [if_neg h1]
    by_cases h2 : u ≤ 5
    · rw [if_neg (nI_ge (by omega) (by omega)), show inB (nI u) 0 5 = true from inB_3 h1 (show nI u ≤ nI 5 from nI_le h2 (by omega)), if_pos (by decide)]; rfl
    · rw [if_pos (nI_le (by omega) hu), show inB (nI u) 0 5 = false from inB_2 (show ¬ nI u ≤ nI 5 from nI_ge (by omega) hu), if_pos (by decide)]; rfl
/-- one part of house k is set -/
theorem setO {ε : Ev} {σ : Sg} {c n nt k w : Nat} {x : Int32} {s : Nat → Int32} (hc : c < 900) (hk : k < n) (hw : w < 6) (hS : StO ε σ c s nt n) (hb : sBd (upd s (6 + 7 * k + w) x) k) : StO ε (pI σ (c + 7 + k) w x) c (upd s (6 + 7 * k + w) x) nt n := by
  obtain ⟨r1, r2, r3⟩ := hS.1.2.2.2.2.2.2.2 k hk
  refine StO_hw hc hk hS (fun y hy => pI_nc hy) rfl (fun j hj => pk_un (by omega)) ⟨fun w' hw' => ?_, ?_, ?_⟩ hb
  · by_cases e : w' = w
    · rw [e, pI_e, pk_us]
    · rw [pI_n (Or.inr e), pk_un (by omega)]; exact r1 w' hw'
  · rw [pI_n (Or.inr (by omega)), pk_un (by omega)]; exact r2
  · rw [pk_un (by omega)]; exact r3
theorem turns_ok {ε : Ev} {σ : Sg} {μ : Mg} (h : Rel ε σ μ) (z y : Int32) : RStp ε (fn_X6_turns ε z y σ) (fn_X7_turns z y μ) := by
  obtain ⟨n, nt, d, hS, hd, hd2⟩ := h.1
  have hn9 := hS.1.1
  rw [fn_X7_turns, cif_pos (hN_ok hS), hS.nOf.1, fn_X6_turns, kind_eq]
  simp only [fn_X6_turns_L15, o1_s, bI_0]
  cases hz : hB n z with
  | false =>
    rw [hs_n hS.1 hz, ob_s, if_pos rfl, show turnsP μ.2.1 n z y = (-1000000001, μ.2.1) from by rw [turnsP, hIx_f hz]]
    exact ⟨_, σ, μ, rfl, rfl, h⟩
  | true =>
    obtain ⟨k, hk, rfl⟩ := hB_t (by omega) hz
    rw [hs_y hS.1 hk, ob_s, if_neg (by decide)]
    cases hy : inB y 0 5 with
    | false =>
      rw [if_pos rfl, show turnsP μ.2.1 n (nI k) y = (-1000000001, μ.2.1) from by rw [turnsP, hIx_k (by omega) hk]; simp only [hy]; rfl]
      exact ⟨_, σ, μ, rfl, rfl, h⟩
    | true =>
      rw [if_neg (by decide), if_pos (by rw [nI_clamp (by omega), nI_lt0 (by omega), false_or]; omega), nI_clamp (by omega), show turnsP μ.2.1 n (nI k) y = (μ.2.1 (6 + 7 * k), upd μ.2.1 (6 + 7 * k) y) from by rw [turnsP, hIx_k (by omega) hk]; simp only [hy]; rfl]
      obtain ⟨m, m1, m2, rfl⟩ := inB_t (lo := 0) (hi := 5) (by decide) (by decide) hy
      have hb : sBd (upd μ.2.1 (6 + 7 * k + 0) (nI m)) k := by
        obtain ⟨kd, w, wl, cr, pr, b0, b0', b1, b1', b1'', b3, b3', b4, b4', b5, b5', b2, b2'⟩ := hS.2.2.1 k hk
        exact ⟨m, w, wl, cr, pr, pk_us, m2, by rw [pk_un (by omega)]; exact b1, b1', b1'', by rw [pk_un (by omega)]; exact b3, b3', by rw [pk_un (by omega)]; exact b4, b4', by rw [pk_un (by omega)]; exact b5, b5', by rw [pk_un (by omega)]; exact b2, by rw [pk_un (by omega)]; exact b2'⟩
      have S2 := setO (c := 16) (by decide) hk (by decide) hS hb
      have r0 := (hS.1.2.2.2.2.2.2.2 k hk).1 0 (by decide)
      refine ⟨_, pI σ (16 + 7 + k) 0 (nI m), _, by rw [show 23 + k = 16 + 7 + k from rfl, r0]; rfl, rfl, ?_⟩
      exact rel_now h (fun x a _ => by rw [pI_nc (by omega)]) (fun x _ _ => rfl) h.2.2.2.2.2.2 ⟨n, nt, d, S2, hd, by show upd μ.2.1 (6 + 7 * k + 0) (nI m) 2 = nI d; rw [pk_un (by omega)]; exact hd2⟩
theorem isOf_eq {ε : Ev} {c kd m : Nat} {σ : Sg} (h : σ.1 c 0 = nI kd) (h1 : kd ≤ 5) (h2 : m ≤ 5) : fn_X0_isOf ε c (nI m) σ = some (bI (isOfB (nI kd) (nI m)), σ) := by
  rw [fn_X0_isOf, h]
  have e1 : kd = 0 ∨ kd = 1 ∨ kd = 2 ∨ kd = 3 ∨ kd = 4 ∨ kd = 5 := by omega
  have e2 : m = 0 ∨ m = 1 ∨ m = 2 ∨ m = 3 ∨ m = 4 ∨ m = 5 := by omega
  rcases e1 with rfl | rfl | rfl | rfl | rfl | rfl <;> rcases e2 with rfl | rfl | rfl | rfl | rfl | rfl <;> rfl
theorem as_ok {ε : Ev} {σ : Sg} {μ : Mg} (h : Rel ε σ μ) (z y : Int32) : RStp ε (fn_X6_as ε z y σ) (fn_X7_as z y μ) := by
  obtain ⟨n, nt, d, hS, hd, hd2⟩ := h.1
  have hn9 := hS.1.1
  rw [fn_X7_as, cif_pos (hN_ok hS), hS.nOf.1, fn_X6_as, kind_eq]
  simp only [fn_X6_as_L15, fn_X6_as_L51, o1_s, bI_0]
  cases hz : hB n z with
  | false =>
    rw [hs_n hS.1 hz, ob_s, if_pos rfl, show asP μ.2.1 n z y = -1000000001 from by rw [asP, hIx_f hz]]
    exact ⟨_, σ, μ, rfl, rfl, h⟩
  | true =>
    obtain ⟨k, hk, rfl⟩ := hB_t (by omega) hz
    rw [hs_y hS.1 hk, ob_s, if_neg (by decide)]
    cases hy : inB y 0 5 with
    | false =>
      rw [if_pos rfl, show asP μ.2.1 n (nI k) y = -1000000001 from by rw [asP, hIx_k (by omega) hk]; simp only [hy]; rfl]
      exact ⟨_, σ, μ, rfl, rfl, h⟩
    | true =>
      obtain ⟨m, m1, m2, rfl⟩ := inB_t (lo := 0) (hi := 5) (by decide) (by decide) hy
      obtain ⟨kd, w, wl, cr, pr, b0, b0', b1⟩ := hS.2.2.1 k hk
      have r0 := (hS.1.2.2.2.2.2.2.2 k hk).1 0 (by decide)
      have r3 := (hS.1.2.2.2.2.2.2.2 k hk).1 3 (by decide)
      rw [if_neg (by decide), if_pos (by rw [nI_clamp (by omega), nI_lt0 (by omega), false_or]; omega), nI_clamp (by omega), show 23 + k = 16 + 7 + k from rfl, isOf_eq (r0.trans b0) b0' m2, ob_s, r3]
      simp only [bI_0]
      cases ho : isOfB (nI kd) (nI m) with
      | false =>
        rw [if_pos rfl, show asP μ.2.1 n (nI k) (nI m) = -1000000012 from by rw [asP, hIx_k (by omega) hk]; simp only [hy, b0, ho]; rfl]
        exact ⟨_, σ, μ, rfl, rfl, h⟩
      | true =>
        rw [if_neg (by decide), show asP μ.2.1 n (nI k) (nI m) = μ.2.1 (6 + 7 * k + 3) from by rw [asP, hIx_k (by omega) hk]; simp only [hy, b0, ho]; rfl]
        exact ⟨_, σ, μ, rfl, rfl, h⟩
