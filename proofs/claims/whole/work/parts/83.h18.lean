/-! ===== sheets, slots, what waits ===== -/
theorem tf_n : ¬ (true = false) := by decide
theorem ff_y : false = false := rfl
theorem RTape.sm {σ σ' : Sg} {μ : Mg} {v' s' : Nat → Int32} {r' : Nat → Nat → Int32} (h : RTape σ μ) (h1 : σ'.1 64 1 = σ.1 64 1) (h2 : σ'.1 65 = σ.1 65) (hv : v' 16 = μ.1 16) (hr : r' 15 = μ.2.2 15) : RTape σ' (v', s', r') := by
  obtain ⟨tp, t1, t2, t3, t4⟩ := h
  refine ⟨tp, t1, h1.trans t2, hv.trans t3, fun j hj => ?_⟩
  show ∃ b, b < 256 ∧ σ'.1 65 j = nI b ∧ r' 15 j = nI b
  rw [h2, hr]; exact t4 j hj
theorem RSh.sm {σ σ' : Sg} {μ : Mg} {v' s' : Nat → Int32} {r' : Nat → Nat → Int32} (h : RSh σ μ) (h1 : ∀ x, 80 ≤ x → x < 88 → σ'.1 x = σ.1 x) (hr : ∀ j, 4 ≤ j → j ≤ 6 → r' j = μ.2.2 j) : RSh σ' (v', s', r') := by
  intro k hk
  have e := h k hk
  rw [← h1 (80 + 2 * k) (by omega) (by omega), ← h1 (81 + 2 * k) (by omega) (by omega), ← hr 4 (by decide) (by decide), ← hr 5 (by decide) (by decide), ← hr 6 (by decide) (by decide)] at e
  exact e
theorem RSl.sm {σ σ' : Sg} {μ : Mg} {v' s' : Nat → Int32} {r' : Nat → Nat → Int32} (h : RSl σ μ) (h1 : ∀ x, 96 ≤ x → x < 116 → σ'.1 x = σ.1 x) (hr : ∀ j, 7 ≤ j → j ≤ 11 → r' j = μ.2.2 j) : RSl σ' (v', s', r') := by
  intro k hk
  have e := h k hk
  rw [← h1 (96 + 4 * k) (by omega) (by omega), ← h1 (97 + 4 * k) (by omega) (by omega), ← h1 (98 + 4 * k) (by omega) (by omega), ← h1 (99 + 4 * k) (by omega) (by omega), ← hr 7 (by decide) (by decide), ← hr 8 (by decide) (by decide), ← hr 9 (by decide) (by decide), ← hr 10 (by decide) (by decide), ← hr 11 (by decide) (by decide)] at e
  exact e
theorem RWt.sm {σ σ' : Sg} {μ : Mg} {v' s' : Nat → Int32} {r' : Nat → Nat → Int32} (h : RWt σ μ) (h1 : σ'.1 0 7 = σ.1 0 7) (h2 : σ'.1 3 = σ.1 3) (hv : v' 31 = μ.1 31) (hr : r' 30 = μ.2.2 30) : RWt σ' (v', s', r') := by
  obtain ⟨u, u1, u2, u3, u4⟩ := h
  refine ⟨u, u1, h1.trans u2, hv.trans u3, fun j hj => ?_⟩
  show σ'.1 3 j = r' 30 j
  rw [h2, hr]; exact u4 j hj
/-- the streets are as they were -/
theorem rel_st {ε : Ev} {σ σ' : Sg} {μ : Mg} {v' : Nat → Int32} {r' : Nat → Nat → Int32} (h : Rel ε σ μ) (h1 : ∀ x, 16 ≤ x → x < 48 → σ'.1 x = σ.1 x) (h3 : ∀ y, 1000 ≤ y → y % 3 ≠ 0 → σ'.1 y = σ.1 y) (h08 : σ'.1 0 8 = σ.1 0 8) (h2 : σ'.2 = σ.2) (hv : v' 3 = μ.1 3) (hr : r' 1 = μ.2.2 1) (ht : RTape σ' (v', μ.2.1, r')) (hsh : RSh σ' (v', μ.2.1, r')) (hsl : RSl σ' (v', μ.2.1, r')) (hw : RWt σ' (v', μ.2.1, r')) : Rel ε σ' (v', μ.2.1, r') := by
  obtain ⟨⟨n, nt, d, hS, hd, hd2⟩, ⟨i1, i2⟩, -, -, -, -, hT⟩ := h
  have keep : ∀ {c n nt : Nat} {s : Nat → Int32}, (c = 16 ∨ c = 32) → StO ε σ c s nt n → StO ε σ' c s nt n := fun hc hs => StO_keep (by omega) hs (fun x a b => h1 x (by omega) (by omega)) (by rw [h2]) (by rw [h2]) h3
  refine ⟨⟨n, nt, d, keep (Or.inl rfl) hS, hd, hd2⟩, ⟨?_, ?_⟩, ht, hsh, hsl, hw, hT.same h2⟩
  · show σ'.1 0 8 = v' 3
    rw [h08, hv]; exact i1
  · show v' 3 = nI 0 ∨ (v' 3 = nI 1 ∧ ∃ n nt d, StO ε σ' 32 (r' 1) nt n ∧ d ≤ 9999 ∧ r' 1 2 = nI d)
    rw [hv, hr]
    rcases i2 with i2 | ⟨i2, n, nt, d, a, b⟩
    · exact Or.inl i2
    · exact Or.inr ⟨i2, n, nt, d, keep (Or.inr rfl) a, b⟩
theorem tell_ok {ε : Ev} {σ : Sg} {μ : Mg} (h : Rel ε σ μ) (z : Int32) : RStp ε (fn_X6_tell ε z σ) (fn_X7_tell z μ) := by
  obtain ⟨u, u1, u2, u3, u4⟩ := h.2.2.2.2.2.1
  rw [fn_X6_tell, fn_X7_tell, u2, u3]
  by_cases hu : u = 60
  · subst hu
    rw [if_neg (by decide), if_pos rfl]; exact ⟨_, σ, μ, rfl, rfl, h⟩
  · have e : (pI σ 3 u z).1 0 7 = nI u := by rw [pI_nc (by decide)]; exact u2
    rw [if_pos (nI_lt (by omega) (by omega)), nI_clamp (by omega), if_pos (show ¬ (nI u < 0 ∨ 60 ≤ u) from fun q => q.elim (nI_pos (by omega)) (by omega)), if_neg (fun q => hu (nI_j (by omega) (by omega) q)), if_pos (show ¬ (nI u < 0 ∨ 60 ≤ u) from fun q => q.elim (nI_pos (by omega)) (by omega)), e, nI_add]
    refine ⟨nI (u + 1), _, _, by rw [pI_e], by rw [pk_us], ?_⟩
    refine rel_st h (fun x a b => by rw [pI_nc (by omega), pI_nc (by omega)]) (fun x a b => by rw [pI_nc (by omega), pI_nc (by omega)]) (by rw [pI_n (Or.inr (by decide)), pI_nc (by decide)]) rfl (pk_un (by decide)) (mU_n _ _ (by decide)) (h.2.2.1.sm (by rw [pI_nc (by decide), pI_nc (by decide)]) (by rw [pI_nc (by decide), pI_nc (by decide)]) (pk_un (by decide)) (mU_n _ _ (by decide))) (h.2.2.2.1.sm (fun x a b => by rw [pI_nc (by omega), pI_nc (by omega)]) (fun j a b => mU_n _ _ (by omega))) (h.2.2.2.2.1.sm (fun x a b => by rw [pI_nc (by omega), pI_nc (by omega)]) (fun j a b => mU_n _ _ (by omega))) ⟨u + 1, by omega, pI_e _ _ _ _, (show upd μ.1 31 (nI (u + 1)) 31 = nI (u + 1) from pk_us), fun j hj => ?_⟩
    show (pI (pI σ 3 u z) 0 7 (nI (u + 1))).1 3 j = mU μ.2.2 30 (upd (μ.2.2 30) u z) 30 j
    rw [pI_nc (by decide), mU_s]
    by_cases ej : j = u
    · rw [ej, pI_e, pk_us]
    · rw [pI_n (Or.inr ej), pk_un ej]; exact u4 j (by omega)
theorem sheet_eq (y : Int32) : fn_X6_isSheet y = some (bI (inB y 0 3)) := by
  simp only [fn_X6_isSheet, fn_X6_isSheet_L13, fn_X6_isSheet_L14]
  by_cases h1 : y < 0
  · rw [if_pos h1, inB_1 h1, if_pos (by decide)]; rfl
  · obtain ⟨u, hu, rfl⟩ := nI_of h1
    rw [if_neg h1]
    by_cases h2 : u ≤ 3
    · rw [if_neg (nI_ge (by omega) (by omega)), show inB (nI u) 0 3 = true from inB_3 h1 (show nI u ≤ nI 3 from nI_le h2 (by omega)), if_pos (by decide)]; rfl
    · rw [if_pos (nI_le (by omega) hu), show inB (nI u) 0 3 = false from inB_2 (show ¬ nI u ≤ nI 3 from nI_ge (by omega) hu), if_pos (by decide)]; rfl
theorem slot_eq (y : Int32) : fn_X6_isSlot y = some (bI (inB y 0 4)) := by
  simp only [fn_X6_isSlot, fn_X6_isSlot_L13, fn_X6_isSlot_L14]
  by_cases h1 : y < 0
  · rw [if_pos h1, inB_1 h1, if_pos (by decide)]; rfl
  · obtain ⟨u, hu, rfl⟩ := nI_of h1
    rw [if_neg h1]
    by_cases h2 : u ≤ 4
    · rw [if_neg (nI_ge (by omega) (by omega)), show inB (nI u) 0 4 = true from inB_3 h1 (show nI u ≤ nI 4 from nI_le h2 (by omega)), if_pos (by decide)]; rfl
    · rw [if_pos (nI_le (by omega) hu), show inB (nI u) 0 4 = false from inB_2 (show ¬ nI u ≤ nI 4 from nI_ge (by omega) hu), if_pos (by decide)]; rfl
theorem sheet7_eq (y : Int32) : fn_X7_isSheet y = some (bI (inB y 0 3)) := by
  rw [fn_X7_isSheet]; cases inB y 0 3 <;> rfl
theorem slot7_eq (y : Int32) : fn_X7_isSlot y = some (bI (inB y 0 4)) := by
  rw [fn_X7_isSlot]; cases inB y 0 4 <;> rfl
theorem g_in {k N : Nat} (h : k < N) (hN : N < 2 ^ 31) : ¬ (nI k < 0 ∨ N ≤ k) := fun q => q.elim (nI_pos (by omega)) (by omega)
theorem rest_ok {ε : Ev} {σ : Sg} {μ : Mg} (h : Rel ε σ μ) (z y : Int32) : RStp ε (fn_X6_rest ε z y σ) (fn_X7_rest z y μ) := by
  rw [fn_X6_rest, fn_X7_rest, slot_eq, slot7_eq, o1_s, o1_s]
  simp only [bI_0, fn_X6_rest_L53, fn_X7_rest_L55, fn_X7_rest_L37]
  cases hz : inB z 0 4 with
  | false => rw [if_pos ff_y, if_pos ff_y]; exact ⟨_, σ, μ, rfl, rfl, h⟩
  | true =>
    obtain ⟨k, k1, k2, rfl⟩ := inB_t (lo := 0) (hi := 4) (by decide) (by decide) hz
    obtain ⟨th, t3, e0, e7, c3, c1, c2⟩ := h.2.2.2.2.1 k (by omega)
    rw [if_neg tf_n, if_neg tf_n, nI_clamp (by omega), if_pos (g_in (show k < 5 by omega) (by decide)), if_pos (g_in (show k < 5 by omega) (by decide)), e0, e7]
    have e : th = 0 ∨ th = 1 ∨ th = 2 ∨ th = 3 := by omega
    rcases e with rfl | rfl | rfl | rfl
    · rw [if_pos (show nI 0 = 0 from by decide), if_neg (show ¬ nI 0 = nI 3 from by decide), if_pos (show nI 0 = 0 from by decide)]; exact ⟨_, σ, μ, rfl, rfl, h⟩
    · rw [if_neg (show ¬ nI 1 = 0 from by decide), if_neg (show ¬ nI 1 = nI 3 from by decide), if_neg (show ¬ nI 1 = nI 3 from by decide), if_neg (show ¬ nI 1 = 0 from by decide)]; exact ⟨_, σ, μ, rfl, rfl, h⟩
    · rw [if_neg (show ¬ nI 2 = 0 from by decide), if_neg (show ¬ nI 2 = nI 3 from by decide), if_neg (show ¬ nI 2 = nI 3 from by decide), if_neg (show ¬ nI 2 = 0 from by decide)]; exact ⟨_, σ, μ, rfl, rfl, h⟩
    · rw [if_neg (show ¬ nI 3 = 0 from by decide), if_pos rfl, if_pos rfl, c3 rfl]
      by_cases y0 : y = 0
      · rw [if_pos y0, if_pos y0]; exact ⟨_, σ, μ, rfl, rfl, h⟩
      · rw [if_neg y0, if_neg y0, if_pos y0, if_pos y0]; exact ⟨_, σ, μ, rfl, rfl, h⟩
theorem has_eq {ε : Ev} {c m : Nat} {σ : Sg} {y : Int32} (hm : m ≤ 24) (e : σ.1 c 2 = nI m) : fn_X2_hasPlace ε c y σ = some (bI (hB m y), σ) := by
  simp only [fn_X2_hasPlace, fn_X2_hasPlace_L16, fn_X2_hasPlace_L17, e]
  cases hz : hB m y with
  | false =>
    by_cases h1 : y < 0
    · rw [if_pos h1, if_pos (by decide)]; rfl
    obtain ⟨u, hu, rfl⟩ := nI_of h1
    have q : m ≤ u := by
      refine Nat.le_of_not_lt fun q => ?_
      rw [hB_k (by omega) q] at hz
      cases hz
    rw [if_neg h1, if_pos (nI_le q hu), if_pos (by decide)]; rfl
  | true =>
    obtain ⟨k, hk, rfl⟩ := hB_t (by omega) hz
    rw [if_neg (nI_pos (by omega)), if_neg (nI_ge hk (by omega)), if_pos (by decide)]; rfl
theorem num_eq {ε : Ev} {c k : Nat} {σ : Sg} (hk : k < 24) : fn_X2_isNumber ε c (nI k) σ = some (if σ.1 (c + 1) k = -1000000005 then 0 else 1, σ) := by
  rw [fn_X2_isNumber, nI_clamp (by omega), if_pos (g_in hk (by decide))]
  by_cases q : σ.1 (c + 1) k = -1000000005
  · rw [if_pos q, if_pos q, fn_X2_isNumber_L16, if_pos (by decide)]; rfl
  · rw [if_neg q, if_neg q, fn_X2_isNumber_L16, if_pos (by decide)]; rfl
theorem item_ok {ε : Ev} {σ : Sg} {μ : Mg} (h : Rel ε σ μ) (z y : Int32) : RStp ε (fn_X6_item ε z y σ) (fn_X7_item z y μ) := by
  rw [fn_X6_item, fn_X7_item, slot_eq, slot7_eq, o1_s, o1_s]
  simp only [bI_0, fn_X6_item_L78, fn_X7_item_L84, fn_X7_item_L37]
  cases hz : inB z 0 4 with
  | false => rw [if_pos ff_y, if_pos ff_y]; exact ⟨_, σ, μ, rfl, rfl, h⟩
  | true =>
    obtain ⟨k, k1, k2, rfl⟩ := inB_t (lo := 0) (hi := 4) (by decide) (by decide) hz
    obtain ⟨th, t3, e0, e7, c3, c1, c2⟩ := h.2.2.2.2.1 k (by omega)
    rw [if_neg tf_n, if_neg tf_n, nI_clamp (show k < 2 ^ 31 by omega), if_pos (g_in (show k < 5 by omega) (by decide)), if_pos (g_in (show k < 5 by omega) (by decide)), e0, e7]
    have e : th = 0 ∨ th = 1 ∨ th = 2 ∨ th = 3 := by omega
    rcases e with rfl | rfl | rfl | rfl
    · rw [if_pos (show nI 0 = 0 from by decide), if_neg (show ¬ nI 0 = nI 2 from by decide), if_pos (show nI 0 = 0 from by decide)]; exact ⟨_, σ, μ, rfl, rfl, h⟩
    · rw [if_neg (show ¬ nI 1 = 0 from by decide), if_neg (show ¬ nI 1 = nI 2 from by decide), if_neg (show ¬ nI 1 = nI 2 from by decide), if_neg (show ¬ nI 1 = 0 from by decide)]; exact ⟨_, σ, μ, rfl, rfl, h⟩
    · obtain ⟨m, m24, em, er, ej⟩ := c2 rfl
      rw [if_neg (show ¬ nI 2 = 0 from by decide), if_pos rfl, if_pos rfl, er, has_eq (c := 96 + 4 * k + 2) m24 (by rw [show 96 + 4 * k + 2 = 98 + 4 * k by omega]; exact em), ob_s, show inB y 0 (nI m - nI 1) = hB m y from rfl]
      simp only [bI_0]
      cases hy : hB m y with
      | false => rw [if_pos ff_y, if_pos ff_y]; exact ⟨_, σ, μ, rfl, rfl, h⟩
      | true =>
        obtain ⟨j, hj, rfl⟩ := hB_t (by omega) hy
        rw [if_neg tf_n, if_neg tf_n, num_eq (by omega), ob_s, nI_clamp (show j < 2 ^ 31 by omega), pk_mul, nI_add, nI_clamp (by omega), if_pos (g_in (show j < 24 by omega) (by decide)), if_pos (g_in (show 24 * k + j < 120 by omega) (by decide)), show 96 + 4 * k + 2 + 1 = 99 + 4 * k by omega, ej j (by omega)]
        by_cases q : μ.2.2 11 (24 * k + j) = -1000000005
        · rw [if_pos q, if_pos q, if_pos rfl]; exact ⟨_, σ, μ, rfl, rfl, h⟩
        · rw [if_neg q, if_neg q, if_neg (by decide)]; exact ⟨_, σ, μ, rfl, rfl, h⟩
    · rw [if_neg (show ¬ nI 3 = 0 from by decide), if_neg (show ¬ nI 3 = nI 2 from by decide), if_neg (show ¬ nI 3 = nI 2 from by decide), if_neg (show ¬ nI 3 = 0 from by decide)]; exact ⟨_, σ, μ, rfl, rfl, h⟩
theorem isOf7 {kd m : Nat} (h1 : kd ≤ 5) (h2 : m ≤ 5) : fn_X7_isOf (nI kd) (nI m) = some (bI (isOfB (nI kd) (nI m))) := by
  have e1 : kd = 0 ∨ kd = 1 ∨ kd = 2 ∨ kd = 3 ∨ kd = 4 ∨ kd = 5 := by omega
  have e2 : m = 0 ∨ m = 1 ∨ m = 2 ∨ m = 3 ∨ m = 4 ∨ m = 5 := by omega
  rcases e1 with rfl | rfl | rfl | rfl | rfl | rfl <;> rcases e2 with rfl | rfl | rfl | rfl | rfl | rfl <;> rfl
theorem worthC {ε : Ev} {c : Nat} {σ : Sg} : fn_X0_worth ε c σ = some (worthK (σ.1 c 0) (σ.1 c 3), σ) := by
  simp only [fn_X0_worth, worthK, ite_so]
  repeat' split
  all_goals simp_all
  all_goals exact sub_5 _
theorem ask_ok {ε : Ev} {σ : Sg} {μ : Mg} (h : Rel ε σ μ) (z y : Int32) : RStp ε (fn_X6_ask ε z y σ) (fn_X7_ask z y μ) := by
  rw [fn_X6_ask, fn_X7_ask, slot_eq, slot7_eq, kind_eq, o1_s, o1_s, o1_s]
  simp only [bI_0, fn_X6_ask_L53, fn_X6_ask_L14, fn_X7_ask_L69, fn_X7_ask_L67, fn_X7_ask_L19]
  cases hz : inB z 0 4 with
  | false => rw [if_pos ff_y, if_pos ff_y]; exact ⟨_, σ, μ, rfl, rfl, h⟩
  | true =>
    rw [if_neg tf_n, if_neg tf_n]
    cases hy : inB y 0 5 with
    | false => rw [if_pos ff_y, if_pos ff_y]; exact ⟨_, σ, μ, rfl, rfl, h⟩
    | true =>
      obtain ⟨k, k1, k2, rfl⟩ := inB_t (lo := 0) (hi := 4) (by decide) (by decide) hz
      obtain ⟨m, m1, m2, rfl⟩ := inB_t (lo := 0) (hi := 5) (by decide) (by decide) hy
      obtain ⟨th, t3, e0, e7, c3, c1, c2⟩ := h.2.2.2.2.1 k (by omega)
      rw [if_neg tf_n, if_neg tf_n, nI_clamp (show k < 2 ^ 31 by omega), if_pos (g_in (show k < 5 by omega) (by decide)), if_pos (g_in (show k < 5 by omega) (by decide)), e0, e7]
      have e : th = 0 ∨ th = 1 ∨ th = 2 ∨ th = 3 := by omega
      rcases e with rfl | rfl | rfl | rfl
      · rw [if_pos (show nI 0 = 0 from by decide), if_pos (show nI 0 = 0 from by decide)]; exact ⟨_, σ, μ, rfl, rfl, h⟩
      · obtain ⟨a1, ⟨kd, k5, a2⟩, a3⟩ := c1 rfl
        rw [show 97 + 4 * k = 96 + 4 * k + 1 by omega] at a1 a3
        rw [if_neg (show ¬ nI 1 = 0 from by decide), if_pos rfl, if_neg (show ¬ nI 1 = 0 from by decide), if_pos rfl, a2, isOf7 k5 m2, o1_s, isOf_eq (a1.trans a2) k5 m2, ob_s, worthC, ob_s, a3]
        simp only [bI_0]
        cases ho : isOfB (nI kd) (nI m) with
        | false => rw [if_pos ff_y, if_pos ff_y]; exact ⟨_, σ, μ, rfl, rfl, h⟩
        | true => rw [if_neg tf_n, if_neg tf_n]; exact ⟨_, σ, μ, rfl, rfl, h⟩
      · rw [if_neg (show ¬ nI 2 = 0 from by decide), if_neg (show ¬ nI 2 = nI 1 from by decide), if_neg (show ¬ nI 2 = 0 from by decide), if_neg (show ¬ nI 2 = nI 1 from by decide)]; exact ⟨_, σ, μ, rfl, rfl, h⟩
      · rw [if_neg (show ¬ nI 3 = 0 from by decide), if_neg (show ¬ nI 3 = nI 1 from by decide), if_neg (show ¬ nI 3 = 0 from by decide), if_neg (show ¬ nI 3 = nI 1 from by decide)]; exact ⟨_, σ, μ, rfl, rfl, h⟩
