/-! ===== at the start both are alike ===== -/
theorem rel_0 (ad : Nat → Nat) : Rel ((fun _ => 0, 0, ad) : Ev) sg0 ((fun _ => 0, s00, r00) : Mg) := by
  refine ⟨⟨0, 0, 0, ⟨⟨by decide, by decide +kernel, by decide +kernel, by decide +kernel, by decide +kernel, by decide +kernel, by decide +kernel, fun k hk => absurd hk (Nat.not_lt_zero k)⟩, ⟨by decide, by decide +kernel, by decide +kernel, fun t ht => absurd ht (Nat.not_lt_zero t), fun key _ => rfl⟩, fun k hk => absurd hk (Nat.not_lt_zero k), by decide +kernel, by decide +kernel⟩, by decide, by decide +kernel⟩, ⟨by decide +kernel, Or.inl (by decide +kernel)⟩, ⟨0, by decide, by decide +kernel, by decide +kernel, fun j hj => absurd hj (Nat.not_lt_zero j)⟩, ?_, ?_, ⟨0, by decide, by decide +kernel, by decide +kernel, fun j hj => absurd hj (Nat.not_lt_zero j)⟩, fun c k x hx => by cases hx⟩
  · have z : ∀ k j : Nat, r00 6 (24 * k + j) = 0 := fun k j => rfl
    have q : ∀ k j : Nat, (r00 6 (24 * k + j) = -1000000005 ∨ (-99999 ≤ (r00 6 (24 * k + j)).toInt ∧ (r00 6 (24 * k + j)).toInt ≤ 99999)) := fun k j => by
      rw [z]
      exact Or.inr (by decide +kernel)
    intro k hk
    match k, hk with
    | 0, _ => exact ⟨by decide +kernel, Or.inl (by decide +kernel), ⟨0, by decide, by decide +kernel, by decide +kernel, fun _ => rfl⟩, fun j _ => ⟨rfl, q 0 j⟩⟩
    | 1, _ => exact ⟨by decide +kernel, Or.inl (by decide +kernel), ⟨0, by decide, by decide +kernel, by decide +kernel, fun _ => rfl⟩, fun j _ => ⟨rfl, q 1 j⟩⟩
    | 2, _ => exact ⟨by decide +kernel, Or.inl (by decide +kernel), ⟨0, by decide, by decide +kernel, by decide +kernel, fun _ => rfl⟩, fun j _ => ⟨rfl, q 2 j⟩⟩
    | 3, _ => exact ⟨by decide +kernel, Or.inl (by decide +kernel), ⟨0, by decide, by decide +kernel, by decide +kernel, fun _ => rfl⟩, fun j _ => ⟨rfl, q 3 j⟩⟩
    | n + 4, h => exact absurd h (by omega)
  · intro k hk
    match k, hk with
    | 0, _ => exact ⟨0, by decide, by decide +kernel, by decide +kernel, fun h => absurd h (by decide), fun h => absurd h (by decide), fun h => absurd h (by decide)⟩
    | 1, _ => exact ⟨0, by decide, by decide +kernel, by decide +kernel, fun h => absurd h (by decide), fun h => absurd h (by decide), fun h => absurd h (by decide)⟩
    | 2, _ => exact ⟨0, by decide, by decide +kernel, by decide +kernel, fun h => absurd h (by decide), fun h => absurd h (by decide), fun h => absurd h (by decide)⟩
    | 3, _ => exact ⟨0, by decide, by decide +kernel, by decide +kernel, fun h => absurd h (by decide), fun h => absurd h (by decide), fun h => absurd h (by decide)⟩
    | 4, _ => exact ⟨0, by decide, by decide +kernel, by decide +kernel, fun h => absurd h (by decide), fun h => absurd h (by decide), fun h => absurd h (by decide)⟩
    | n + 5, h => exact absurd h (by omega)
