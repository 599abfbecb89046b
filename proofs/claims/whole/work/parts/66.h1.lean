/-! ===== the class's state and the reference's ===== -/
def RImg (ε : Ev) (σ : Sg) (μ : Mg) : Prop := σ.1 0 8 = μ.1 3 ∧ (μ.1 3 = nI 0 ∨ (μ.1 3 = nI 1 ∧ ∃ n nt d, StO ε σ 32 (μ.2.2 1) nt n ∧ d ≤ 9999 ∧ μ.2.2 1 2 = nI d))
def RTape (σ : Sg) (μ : Mg) : Prop := ∃ tp, tp ≤ 96 ∧ σ.1 64 1 = nI tp ∧ μ.1 16 = nI tp ∧ ∀ j, j < tp → ∃ b, b < 256 ∧ σ.1 65 j = nI b ∧ μ.2.2 15 j = nI b
def RSh (σ : Sg) (μ : Mg) : Prop := ∀ k, k < 4 → σ.1 (80 + 2 * k) 1 = μ.2.2 4 k ∧ (μ.2.2 4 k = -1 ∨ μ.2.2 4 k = nI 0 ∨ μ.2.2 4 k = nI 1) ∧ (∃ m, m ≤ 24 ∧ σ.1 (80 + 2 * k) 2 = nI m ∧ μ.2.2 5 k = nI m ∧ (μ.2.2 4 k = -1 → m = 0)) ∧ ∀ j, j < 24 → σ.1 (81 + 2 * k) j = μ.2.2 6 (24 * k + j) ∧ (μ.2.2 6 (24 * k + j) = -1000000005 ∨ (-99999 ≤ (μ.2.2 6 (24 * k + j)).toInt ∧ (μ.2.2 6 (24 * k + j)).toInt ≤ 99999))
def RSl (σ : Sg) (μ : Mg) : Prop := ∀ k, k < 5 → ∃ th, th ≤ 3 ∧ σ.1 (96 + 4 * k) 0 = nI th ∧ μ.2.2 7 k = nI th ∧ (th = 3 → σ.1 (96 + 4 * k) 1 = μ.2.2 8 k) ∧ (th = 1 → σ.1 (97 + 4 * k) 0 = μ.2.2 8 k ∧ (∃ kd, kd ≤ 5 ∧ μ.2.2 8 k = nI kd) ∧ worthK (σ.1 (97 + 4 * k) 0) (σ.1 (97 + 4 * k) 3) = μ.2.2 9 k) ∧ (th = 2 → ∃ m, m ≤ 24 ∧ σ.1 (98 + 4 * k) 2 = nI m ∧ μ.2.2 10 k = nI m ∧ ∀ j, j < 24 → σ.1 (99 + 4 * k) j = μ.2.2 11 (24 * k + j))
def RWt (σ : Sg) (μ : Mg) : Prop := ∃ u, u ≤ 60 ∧ σ.1 0 7 = nI u ∧ μ.1 31 = nI u ∧ ∀ j, j < u → σ.1 3 j = μ.2.2 30 j
def RT (ε : Ev) (σ : Sg) : Prop := ∀ c k x, σ.2 c k = some x → isX5 ε x
def RNow (ε : Ev) (σ : Sg) (s : Nat → Int32) : Prop := ∃ n nt d, StO ε σ 16 s nt n ∧ d ≤ 9999 ∧ s 2 = nI d
def Rel (ε : Ev) (σ : Sg) (μ : Mg) : Prop := RNow ε σ μ.2.1 ∧ RImg ε σ μ ∧ RTape σ μ ∧ RSh σ μ ∧ RSl σ μ ∧ RWt σ μ ∧ RT ε σ
/-- both answer, alike, and go on alike -/
def RStp (ε : Ev) (a : Option (Int32 × Sg)) (b : Option (Int32 × Mg)) : Prop := ∃ res σ' μ', a = some (res, σ') ∧ b = some (res, μ') ∧ Rel ε σ' μ'
/-- what a street's cells at c are needs no other cell but texts -/
theorem StO_keep {ε : Ev} {σ σ' : Sg} {c n nt : Nat} {s : Nat → Int32} (hc : c < 900) (h : StO ε σ c s nt n) (h1 : ∀ x, c ≤ x → x < c + 16 → σ'.1 x = σ.1 x) (h2 : σ'.2 (c + 2) = σ.2 (c + 2)) (h3 : σ'.2 (c + 3) = σ.2 (c + 3)) (h4 : ∀ y, 1000 ≤ y → y % 3 ≠ 0 → σ'.1 y = σ.1 y) : StO ε σ' c s nt n := by
  obtain ⟨⟨a1, a2, a3, a4, a5, a6, a7, a8⟩, ⟨b1, b2, b3, b4, b5⟩, hB, hs⟩ := h
  have e := h1 c (by omega) (by omega)
  refine ⟨⟨a1, a2, by rw [e]; exact a3, by rw [e]; exact a4, by rw [e]; exact a5, by rw [e]; exact a6, by rw [e]; exact a7, fun k hk => (a8 k hk).fs (by omega) (fun y hy => h1 y (by omega) (by omega))⟩, ⟨b1, b2, by rw [e]; exact b3, fun t ht => ?_, fun key hk => ?_⟩, hB, hs⟩
  · obtain ⟨x, e1, e2⟩ := b4 t ht
    exact ⟨x, by rw [h2]; exact e1, e2.fr h4 (fun _ _ => rfl)⟩
  · rw [h2, h3]; exact b5 key hk
/-- only what is thought has changed -/
theorem rel_th {ε : Ev} {σ σ' : Sg} {μ : Mg} (h : Rel ε σ μ) (h1 : ∀ x, (x < 48 ∨ 64 ≤ x) → (x < 1000 ∨ x % 3 ≠ 0) → σ'.1 x = σ.1 x) (h2 : ∀ x, x ≠ 50 → x ≠ 51 → σ'.2 x = σ.2 x) (h3 : RT ε σ') : Rel ε σ' μ := by
  obtain ⟨⟨n, nt, d, hS, hd, hd2⟩, ⟨i1, i2⟩, ⟨tp, t1, t2, t3, t4⟩, hsh, hsl, ⟨u, u1, u2, u3, u4⟩, hT⟩ := h
  have q : ∀ x, (x < 48 ∨ 64 ≤ x) → x < 1000 → σ'.1 x = σ.1 x := fun x a b => h1 x a (Or.inl b)
  have qt : ∀ y, 1000 ≤ y → y % 3 ≠ 0 → σ'.1 y = σ.1 y := fun y a b => h1 y (by omega) (Or.inr b)
  refine ⟨⟨n, nt, d, StO_keep (by decide) hS (fun x a b => q x (by omega) (by omega)) (h2 _ (by decide) (by decide)) (h2 _ (by decide) (by decide)) qt, hd, hd2⟩, ⟨by rw [q 0 (by omega) (by omega)]; exact i1, ?_⟩, ⟨tp, t1, by rw [q 64 (by omega) (by omega)]; exact t2, t3, fun j hj => by rw [q 65 (by omega) (by omega)]; exact t4 j hj⟩, fun k hk => ?_, fun k hk => ?_, ⟨u, u1, by rw [q 0 (by omega) (by omega)]; exact u2, u3, fun j hj => by rw [q 3 (by omega) (by omega)]; exact u4 j hj⟩, h3⟩
  · rcases i2 with i2 | ⟨i2, n', nt', d', hS', hd', hd2'⟩
    · exact Or.inl i2
    · exact Or.inr ⟨i2, n', nt', d', StO_keep (by decide) hS' (fun x a b => q x (by omega) (by omega)) (h2 _ (by decide) (by decide)) (h2 _ (by decide) (by decide)) qt, hd', hd2'⟩
  · rw [q (80 + 2 * k) (by omega) (by omega), q (81 + 2 * k) (by omega) (by omega)]
    exact hsh k hk
  · rw [q (96 + 4 * k) (by omega) (by omega), q (97 + 4 * k) (by omega) (by omega), q (98 + 4 * k) (by omega) (by omega), q (99 + 4 * k) (by omega) (by omega)]
    exact hsl k hk
/-- the street of now has changed, on both sides -/
theorem rel_now {ε : Ev} {σ σ' : Sg} {μ : Mg} {s' : Nat → Int32} (h : Rel ε σ μ) (h1 : ∀ x, (x < 16 ∨ 32 ≤ x) → (x < 1000 ∨ x % 3 ≠ 0) → σ'.1 x = σ.1 x) (h2 : ∀ x, x ≠ 18 → x ≠ 19 → σ'.2 x = σ.2 x) (h3 : RT ε σ') (h4 : RNow ε σ' s') : Rel ε σ' (μ.1, s', μ.2.2) := by
  obtain ⟨-, ⟨i1, i2⟩, ⟨tp, t1, t2, t3, t4⟩, hsh, hsl, ⟨u, u1, u2, u3, u4⟩, hT⟩ := h
  have q : ∀ x, (x < 16 ∨ 32 ≤ x) → x < 1000 → σ'.1 x = σ.1 x := fun x a b => h1 x a (Or.inl b)
  have qt : ∀ y, 1000 ≤ y → y % 3 ≠ 0 → σ'.1 y = σ.1 y := fun y a b => h1 y (by omega) (Or.inr b)
  refine ⟨h4, ⟨by rw [q 0 (by omega) (by omega)]; exact i1, ?_⟩, ⟨tp, t1, by rw [q 64 (by omega) (by omega)]; exact t2, t3, fun j hj => by rw [q 65 (by omega) (by omega)]; exact t4 j hj⟩, fun k hk => ?_, fun k hk => ?_, ⟨u, u1, by rw [q 0 (by omega) (by omega)]; exact u2, u3, fun j hj => by rw [q 3 (by omega) (by omega)]; exact u4 j hj⟩, h3⟩
  · rcases i2 with i2 | ⟨i2, n', nt', d', hS', hd', hd2'⟩
    · exact Or.inl i2
    · exact Or.inr ⟨i2, n', nt', d', StO_keep (by decide) hS' (fun x a b => q x (by omega) (by omega)) (h2 _ (by decide) (by decide)) (h2 _ (by decide) (by decide)) qt, hd', hd2'⟩
  · rw [q (80 + 2 * k) (by omega) (by omega), q (81 + 2 * k) (by omega) (by omega)]
    exact hsh k hk
  · rw [q (96 + 4 * k) (by omega) (by omega), q (97 + 4 * k) (by omega) (by omega), q (98 + 4 * k) (by omega) (by omega), q (99 + 4 * k) (by omega) (by omega)]
    exact hsl k hk
/-- a text in order, for the reference -/
theorem TxR.ok {ε : Ev} {σ : Sg} {x t : Nat} {s : Nat → Int32} (h : TxR ε σ x s t) : textOK s t := by
  obtain ⟨h5, hnum, key, m, p, hk2, hks, hkx, hps, hpx, hp1, hp96, hms, hm96, hlm, hlp, hst, hh, h11⟩ := h
  refine ⟨m, hms, by omega, fun k hk => ?_, h11, fun k hk c1 c2 => ?_⟩
  · obtain ⟨h, e1, e2⟩ := hh k hk
    exact ⟨h, e1, by omega⟩
  · rcases hst k hk with ⟨hw, -⟩ | ⟨hw, j, d, hv, hn, -⟩ | ⟨hw, -⟩
    · exact absurd hw c2
    · refine ⟨j, hv, ?_⟩
      rw [hks]
      rcases hn with ⟨rfl, h⟩ | ⟨rfl, h⟩ | ⟨rfl, h⟩
      · exact Or.inl ⟨rfl, by omega⟩
      · exact Or.inr (Or.inl ⟨rfl, by omega⟩)
      · exact Or.inr (Or.inr ⟨rfl, by omega⟩)
    · exact absurd hw c1
theorem StO.ok {ε : Ev} {σ : Sg} {c n nt : Nat} {s : Nat → Int32} (h : StO ε σ c s nt n) : stOK s nt n := ⟨h.2.1.2.1, h.2.1.1, fun t ht => by obtain ⟨x, -, e⟩ := h.2.1.2.2.2.1 t ht; exact e.ok, h.1.2.1, h.1.1⟩
theorem StO.nOf {ε : Ev} {σ : Sg} {c n nt : Nat} {s : Nat → Int32} (h : StO ε σ c s nt n) : nOf s = n ∧ tOf s = nt := by
  have := h.1.1
  have := h.2.1.1
  exact ⟨by show (s 0).toNatClampNeg = n; rw [h.1.2.1, nI_clamp (by omega)], by show (s 1).toNatClampNeg = nt; rw [h.2.1.2.1, nI_clamp (by omega)]⟩
