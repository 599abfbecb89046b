/-! ===== copies ===== -/
def hpB (m : Nat) (p q : Int32) : Bool := !decide (p < 0) && !decide (q < 0) && decide (p.toNatClampNeg + q.toNatClampNeg ≤ m)
theorem hpB_t {m : Nat} {p q : Int32} (h : hpB m p q = true) : ∃ a b : Nat, p = nI a ∧ q = nI b ∧ a + b ≤ m ∧ a < 2 ^ 31 ∧ b < 2 ^ 31 := by
  simp only [hpB, Bool.and_eq_true, Bool.not_eq_true', decide_eq_false_iff_not, decide_eq_true_eq] at h
  obtain ⟨⟨h1, h2⟩, h3⟩ := h
  obtain ⟨a, ha, rfl⟩ := nI_of h1
  obtain ⟨b, hb, rfl⟩ := nI_of h2
  rw [nI_clamp ha, nI_clamp hb] at h3
  exact ⟨a, b, rfl, rfl, h3, ha, hb⟩
theorem hpB_k {m a b : Nat} (ha : a < 2 ^ 31) (hb : b < 2 ^ 31) : hpB m (nI a) (nI b) = decide (a + b ≤ m) := by
  rw [hpB, decide_eq_false (nI_pos ha), decide_eq_false (nI_pos hb), nI_clamp ha, nI_clamp hb]; rfl
theorem hpB_1 {m : Nat} {p q : Int32} (h : p < 0) : hpB m p q = false := by rw [hpB, decide_eq_true h]; rfl
theorem hpB_2 {m : Nat} {p q : Int32} (h : q < 0) : hpB m p q = false := by rw [hpB, decide_eq_true h]; simp
theorem hpl_eq {ε : Ev} {c m : Nat} {σ : Sg} {p q : Int32} (hm : m ≤ 24) (e : σ.1 c 2 = nI m) : fn_X2_hasPlaces ε c p q σ = some (bI (hpB m p q), σ) := by
  simp only [fn_X2_hasPlaces, fn_X2_hasPlaces_L30, fn_X2_hasPlaces_L31, e, if_pos (show nI 0 = 0 ∨ nI 0 = 1 from by decide), if_pos (show nI 1 = 0 ∨ nI 1 = 1 from by decide)]
  by_cases h1 : p < 0
  · rw [if_pos h1, hpB_1 h1]; rfl
  rw [if_neg h1]
  obtain ⟨a, ha, rfl⟩ := nI_of h1
  by_cases h2 : q < 0
  · rw [if_pos h2, hpB_2 h2, ite_self]; rfl
  rw [if_neg h2]
  obtain ⟨b, hb, rfl⟩ := nI_of h2
  rw [hpB_k ha hb]
  by_cases h3 : m < a
  · rw [if_pos (nI_lt h3 ha), decide_eq_false (by omega)]; rfl
  rw [if_neg (nI_nlt (by omega) (by omega)), pk_sub (by omega)]
  by_cases h4 : m - a < b
  · rw [if_pos (nI_lt h4 hb), decide_eq_false (by omega)]; rfl
  · rw [if_neg (nI_nlt (by omega) (by omega)), decide_eq_true (by omega)]; rfl
theorem cmp_k {a b m : Nat} (ha : a < 2 ^ 31) (hb : b < 2 ^ 31) (hm : m ≤ 24) : lg_cmp (Int32.toInt64 (nI a) + Int32.toInt64 (nI b)) (Int32.toInt64 (nI m)) = if m < a + b then 1 else if a + b = m then 0 else -1 := by
  rw [nI_l ha, nI_l hb, nI_l (show m < 2 ^ 31 by omega), lN_add, lg_cmp]
  by_cases h1 : m < a + b
  · rw [if_pos h1, if_pos (show lN (a + b) > lN m from (pk_lLT (by omega) (by omega)).mpr h1)]
  · rw [if_neg h1, if_neg (show ¬ lN (a + b) > lN m from fun q => h1 ((pk_lLT (by omega) (by omega)).mp q))]
    by_cases h2 : a + b = m
    · rw [if_pos h2, if_pos (by rw [h2])]
    · rw [if_neg h2, if_neg (fun q => h2 ((pk_lEQ (by omega) (by omega)).mp q))]
theorem cp1_L {v s : Nat → Int32} {r : Nat → Nat → Int32} {p a b : Nat} {z3 z4 : Int32} (hp : p < 4) (hab : a + b ≤ 24) (k147 : Mg → Option (Int32 × Mg)) : ∀ (f i : Nat) (r1 : Nat → Nat → Int32), i ≤ b → b + 1 ≤ i + f → (∀ j, j ≠ 29 → r1 j = r j) → (∀ j, j < i → r1 29 j = r 6 (24 * p + a + j)) → ∃ r2, fn_X7_copy_L113 (nI p) (nI a) z3 z4 (nI b) k147 f (nI i) (v, s, r1) = k147 (v, s, r2) ∧ (∀ j, j ≠ 29 → r2 j = r j) ∧ ∀ j, j < b → r2 29 j = r 6 (24 * p + a + j) := by
  intro f
  induction f with
  | zero => intro i r1 h1 h2; omega
  | succ f ih =>
    intro i r1 h1 h2 ha hc
    simp only [fn_X7_copy_L113]
    by_cases hi : i = b
    · subst hi
      rw [if_pos (nI_le (Nat.le_refl _) (by omega))]
      exact ⟨r1, rfl, ha, hc⟩
    · rw [if_neg (nI_ge (by omega) (by omega)), pk_mul, nI_add, nI_add, nI_clamp (show 24 * p + a + i < 2 ^ 31 by omega), if_pos (g_in (show 24 * p + a + i < 96 by omega) (by decide)), nI_clamp (show i < 2 ^ 31 by omega), if_pos (g_in (show i < 24 by omega) (by decide)), nI_add]
      refine ih (i + 1) _ (by omega) (by omega) (fun j h => by rw [mU_n _ _ h]; exact ha j h) (fun j h => ?_)
      rw [mU_s]
      by_cases e : j = i
      · rw [e, pk_us, ha 6 (by decide)]
      · rw [pk_un e]; exact hc j (by omega)
theorem cp2_L {v s : Nat → Int32} {r : Nat → Nat → Int32} {p c b : Nat} {z1 z2 : Int32} (hp : p < 4) (hab : c + b ≤ 24) (k185 : Mg → Option (Int32 × Mg)) : ∀ (f i : Nat) (r1 : Nat → Nat → Int32), i ≤ b → b + 1 ≤ i + f → (∀ j, j ≠ 6 → r1 j = r j) → (∀ x, (x < 24 * p + c ∨ 24 * p + c + b ≤ x) → r1 6 x = r 6 x) → (∀ j, j < i → r1 6 (24 * p + c + j) = r 29 j) → ∃ r2, fn_X7_copy_L150 z1 z2 (nI p) (nI c) (nI b) k185 f (nI i) (v, s, r1) = k185 (v, s, r2) ∧ (∀ j, j ≠ 6 → r2 j = r j) ∧ (∀ x, (x < 24 * p + c ∨ 24 * p + c + b ≤ x) → r2 6 x = r 6 x) ∧ ∀ j, j < b → r2 6 (24 * p + c + j) = r 29 j := by
  intro f
  induction f with
  | zero => intro i r1 h1 h2; omega
  | succ f ih =>
    intro i r1 h1 h2 ha hb hc
    simp only [fn_X7_copy_L150]
    by_cases hi : i = b
    · subst hi
      rw [if_pos (nI_le (Nat.le_refl _) (by omega))]
      exact ⟨r1, rfl, ha, hb, hc⟩
    · rw [if_neg (nI_ge (by omega) (by omega)), pk_mul, nI_add, nI_add, nI_clamp (show 24 * p + c + i < 2 ^ 31 by omega), nI_clamp (show i < 2 ^ 31 by omega), if_pos (g_in (show i < 24 by omega) (by decide)), if_pos (g_in (show 24 * p + c + i < 96 by omega) (by decide)), nI_add]
      refine ih (i + 1) _ (by omega) (by omega) (fun j h => by rw [mU_n _ _ h]; exact ha j h) (fun x h => by rw [mU_s, pk_un (by omega)]; exact hb x h) (fun j h => ?_)
      rw [mU_s]
      by_cases e : j = i
      · rw [e, pk_us, ha 29 (by decide)]
      · rw [pk_un (by omega)]; exact hc j (by omega)
theorem copy_ok {ε : Ev} {σ : Sg} {μ : Mg} (h : Rel ε σ μ) (z1 z2 z3 z4 z5 : Int32) : RStp ε (fn_X6_copy ε z1 z2 z3 z4 z5 σ) (fn_X7_copy z1 z2 z3 z4 z5 μ) := by
  rw [fn_X6_copy, fn_X7_copy, sheet_eq, sheet7_eq, o1_s, o1_s, sheet_eq, sheet7_eq, o1_s, o1_s]
  simp only [bI_0, fn_X6_copy_L14, fn_X7_copy_L14, fn_X6_copy_L51, fn_X7_copy_L35, fn_X6_copy_L93, fn_X7_copy_L106]
  cases hz : inB z1 0 3 with
  | false => rw [if_pos ff_y, if_pos ff_y]; exact ⟨_, σ, μ, rfl, rfl, h⟩
  | true =>
    rw [if_neg tf_n, if_neg tf_n]
    cases hy : inB z3 0 3 with
    | false => rw [if_pos ff_y, if_pos ff_y]; exact ⟨_, σ, μ, rfl, rfl, h⟩
    | true =>
      obtain ⟨p, p1, p2, rfl⟩ := inB_t (lo := 0) (hi := 3) (by decide) (by decide) hz
      obtain ⟨q, q1, q2, rfl⟩ := inB_t (lo := 0) (hi := 3) (by decide) (by decide) hy
      have hp : p < 4 := by omega
      have hq : q < 4 := by omega
      obtain ⟨a1, a2, ⟨ma, ma1, ma2, ma3, ma4⟩, a3⟩ := h.2.2.2.1 p hp
      obtain ⟨b1, b2, ⟨mb, mb1, mb2, mb3, mb4⟩, b3⟩ := h.2.2.2.1 q hq
      rw [if_neg tf_n, if_neg tf_n, nI_clamp (show p < 2 ^ 31 by omega), nI_clamp (show q < 2 ^ 31 by omega), if_pos (g_in hp (by decide)), if_pos (g_in hq (by decide)), if_pos (g_in hp (by decide)), a1, b1]
      by_cases hm : μ.2.2 4 p = -1
      · rw [hm, if_pos rfl, if_pos (by decide)]; exact ⟨_, σ, μ, rfl, rfl, h⟩
      have h0 : ¬ μ.2.2 4 p < 0 := by
        rcases a2 with w | w | w
        · exact absurd w hm
        · rw [w]; decide
        · rw [w]; decide
      rw [if_neg hm, if_neg h0, if_pos (g_in hq (by decide))]
      by_cases hm2 : μ.2.2 4 q = -1
      · rw [hm2, if_pos rfl, if_neg (show ¬ (0 : Int32) ≤ -1 from by decide)]; exact ⟨_, σ, μ, rfl, rfl, h⟩
      have h02 : (0 : Int32) ≤ μ.2.2 4 q := by
        rcases b2 with w | w | w
        · exact absurd w hm2
        · rw [w]; decide
        · rw [w]; decide
      rw [if_neg hm2, if_pos h02]
      by_cases hs : μ.2.2 4 p = μ.2.2 4 q
      · rw [if_pos hs, if_pos hs, hpl_eq ma1 ma2, ob_s, hpl_eq mb1 mb2, ob_s, ma3, mb3]
        simp only [bI_0]
        cases hA : hpB ma z2 z5 with
        | false =>
          rw [if_pos ff_y]
          refine ⟨_, σ, μ, rfl, ?_, h⟩
          by_cases w2 : z2 < 0
          · rw [if_pos w2]
          by_cases w4 : z4 < 0
          · rw [if_neg w2, if_pos w4]
          by_cases w5 : z5 < 0
          · rw [if_neg w2, if_neg w4, if_pos w5]
          obtain ⟨a, ha, rfl⟩ := nI_of w2
          obtain ⟨b, hb, rfl⟩ := nI_of w5
          rw [hpB_k ha hb, decide_eq_false_iff_not] at hA
          rw [if_neg w2, if_neg w4, if_neg w5, cmp_k ha hb ma1, if_pos (show ma < a + b by omega), if_pos (by decide)]
        | true =>
          obtain ⟨a, b, rfl, rfl, hab, ha, hb⟩ := hpB_t hA
          rw [if_neg tf_n]
          cases hB' : hpB mb z4 (nI b) with
          | false =>
            rw [if_pos ff_y]
            refine ⟨_, σ, μ, rfl, ?_, h⟩
            by_cases w4 : z4 < 0
            · rw [if_neg (nI_pos ha), if_pos w4]
            obtain ⟨c, hc, rfl⟩ := nI_of w4
            rw [hpB_k hc hb, decide_eq_false_iff_not] at hB'
            rw [if_neg (nI_pos ha), if_neg w4, if_neg (nI_pos hb), cmp_k ha hb ma1, if_neg (show ¬ ma < a + b by omega), cmp_k hc hb mb1, if_pos (show mb < c + b by omega), if_neg (show ¬ (1 : Int32) ≤ 0 from by decide), ite_self]
          | true =>
            obtain ⟨c, b', rfl, eb, hcb, hc, hb'⟩ := hpB_t hB'
            have := nI_j hb hb' eb
            subst this
            have l1 : ¬ (0 : Int32) < (if ma < a + b then 1 else if a + b = ma then 0 else -1) := by
              rw [if_neg (show ¬ ma < a + b by omega)]
              split <;> decide
            have l2 : (if mb < c + b then 1 else if c + b = mb then 0 else -1 : Int32) ≤ 0 := by
              rw [if_neg (show ¬ mb < c + b by omega)]
              split <;> decide
            rw [if_neg tf_n, if_pos ⟨nI_pos ha, nI_pos hc, nI_pos hb, by rw [nI_clamp ha, nI_clamp hb]; omega, by rw [nI_clamp hc, nI_clamp hb]; omega⟩, if_neg (nI_pos ha), if_neg (nI_pos hc), if_neg (nI_pos hb), cmp_k ha hb ma1, if_neg l1, cmp_k hc hb mb1, if_pos l2, nI_clamp ha, nI_clamp hb, nI_clamp hc]
            obtain ⟨r2, e2, f1, f2⟩ := cp1_L (v := μ.1) (s := μ.2.1) (r := μ.2.2) (p := p) (a := a) (b := b) (z3 := nI q) (z4 := nI c) hp (by omega) (fn_X7_copy_L147 (nI p) (nI a) (nI q) (nI c) (nI b)) 4000 0 μ.2.2 (by omega) (by omega) (fun _ _ => rfl) (fun j hj => by omega)
            obtain ⟨r3, e3, g1, g2, g3⟩ := cp2_L (v := μ.1) (s := μ.2.1) (r := r2) (p := q) (c := c) (b := b) (z1 := nI p) (z2 := nI a) hq (by omega) (fn_X7_copy_L185 (nI p) (nI a) (nI q) (nI c) (nI b)) 4000 0 r2 (by omega) (by omega) (fun _ _ => rfl) (fun _ _ => rfl) (fun j hj => by omega)
            refine ⟨_, _, (μ.1, μ.2.1, r3), rfl, ?_, rel_sh h hq (fun x _ w => by rw [pA_n (by omega)]) rfl (fun j _ _ w6 w29 => by rw [g1 j w6, f1 j w29]) (fun j _ => by rw [g1 4 (by decide), f1 4 (by decide)]) (fun j _ => by rw [g1 5 (by decide), f1 5 (by decide)]) (fun x w => by rw [g2 x (by omega), f1 6 (by decide)]) ⟨?_, ?_, ⟨mb, mb1, ?_, ?_, ?_⟩, fun j hj => ?_⟩⟩
            · refine e2.trans ?_
              rw [fn_X7_copy_L147]
              refine e3.trans ?_
              rw [fn_X7_copy_L185]
            · rw [pA_n (by omega), g1 4 (by decide), f1 4 (by decide)]; exact b1
            · rw [g1 4 (by decide), f1 4 (by decide)]; exact b2
            · rw [pA_n (by omega)]; exact mb2
            · rw [g1 5 (by decide), f1 5 (by decide)]; exact mb3
            · rw [g1 4 (by decide), f1 4 (by decide)]; exact mb4
            · rw [show 81 + 2 * q = 80 + 2 * q + 1 by omega, pA_e]
              by_cases w : c ≤ j ∧ j < c + b
              · rw [pk_cpy_in w.1 w.2, show 24 * q + j = 24 * q + c + (j - c) by omega, g3 _ (by omega), f2 _ (by omega), show 80 + 2 * p + 1 = 81 + 2 * p by omega, show 24 * p + a + (j - c) = 24 * p + (a + (j - c)) by omega]
                exact a3 _ (by omega)
              · rw [pk_cpy_out (by omega), g2 _ (by omega), f1 6 (by decide), show 80 + 2 * q + 1 = 81 + 2 * q by omega]
                exact b3 j hj
      · rw [if_neg hs, if_neg hs]; exact ⟨_, σ, μ, rfl, rfl, h⟩
