/-! ===== the key of a text ===== -/
section KY
variable {ε : Ev} {tp : Nat} {B : Nat → Nat} {σ : Sg} {v s : Nat → Int32} {r : Nat → Nat → Int32} {st en : Nat}
theorem wdC_s {c1 n i a f : Nat} (k68 : Sg → Option (Int32 × Sg)) (hT : Tp tp B σ v r) (h2 : σ.1 64 2 = nI st) (hlen : fn_J0_length_8abf5 c1 = some (nI n)) (hch : fn_J0_charAt_5068e c1 (nI i) = some (nI a)) (hi : i < n) (hn : st + n ≤ tp) (ha : a < 256) : fn_X1_isWord_L20 ε c1 k68 (f + 1) (nI i) σ = if a = B (st + i) then fn_X1_isWord_L20 ε c1 k68 f (nI (i + 1)) σ else some (nI 0, σ) := by
  obtain ⟨t1, t2, t3, t4, t5, t6⟩ := hT
  have := t2 (st + i) (by omega)
  simp only [fn_X1_isWord_L20, hlen, o1_s, t3, h2, nI_add, hch]
  rw [if_neg (nI_ge hi (by omega)), if_neg (nI_ge (by omega) (by omega)), nI_clamp (by omega), if_pos (g_in (show st + i < 96 by omega) (by decide)), t5 (st + i) (by omega)]
  by_cases q : a = B (st + i)
  · rw [if_pos (by rw [q]), if_pos q]
  · rw [if_neg (fun w => q (nI_j (by omega) (by omega) w)), if_neg q]
theorem wdC_e {c1 n f : Nat} (k68 : Sg → Option (Int32 × Sg)) (hlen : fn_J0_length_8abf5 c1 = some (nI n)) (hn : n < 100) : fn_X1_isWord_L20 ε c1 k68 (f + 1) (nI n) σ = k68 σ := by
  simp only [fn_X1_isWord_L20, hlen, o1_s]
  rw [if_pos (nI_le (Nat.le_refl n) (by omega))]
def w3 (B : Nat → Nat) (st a b c : Nat) : Bool := decide (a = B (st + 0)) && (decide (b = B (st + 1)) && decide (c = B (st + 2)))
def w4 (B : Nat → Nat) (st a b c d : Nat) : Bool := decide (a = B (st + 0)) && (decide (b = B (st + 1)) && (decide (c = B (st + 2)) && decide (d = B (st + 3))))
theorem word4 {c1 a b c d : Nat} (hT : Tp tp B σ v r) (h2 : σ.1 64 2 = nI st) (h3 : σ.1 64 3 = nI en) (l1 : st ≤ en) (l2 : en ≤ tp) (hlen : fn_J0_length_8abf5 c1 = some (nI 4)) (ha : fn_J0_charAt_5068e c1 (nI 0) = some (nI a)) (hb : fn_J0_charAt_5068e c1 (nI 1) = some (nI b)) (hc : fn_J0_charAt_5068e c1 (nI 2) = some (nI c)) (hd : fn_J0_charAt_5068e c1 (nI 3) = some (nI d)) (qa : a < 256) (qb : b < 256) (qc : c < 256) (qd : d < 256) : fn_X1_isWord ε c1 σ = some (bI (decide (en = st + 4) && w4 B st a b c d), σ) := by
  have t1 := hT.1
  rw [fn_X1_isWord, hlen, o1_s, h2, h3, pk_sub l1]
  by_cases q : en = st + 4
  · have hn : st + 4 ≤ tp := by omega
    rw [if_pos (show nI 4 = nI (en - st) from by rw [q, Nat.add_sub_cancel_left]), decide_eq_true q, Bool.true_and, w4, show (4000 : Nat) = 3995 + 1 + 1 + 1 + 1 + 1 from rfl, wdC_s _ hT h2 hlen ha (by decide) hn qa]
    by_cases e0 : a = B (st + 0)
    · rw [if_pos e0, wdC_s _ hT h2 hlen hb (by decide) hn qb, decide_eq_true e0, Bool.true_and]
      by_cases e1 : b = B (st + (0 + 1))
      · rw [if_pos e1, wdC_s _ hT h2 hlen hc (by decide) hn qc, decide_eq_true (show b = B (st + 1) from e1), Bool.true_and]
        by_cases e2 : c = B (st + (0 + 1 + 1))
        · rw [if_pos e2, wdC_s _ hT h2 hlen hd (by decide) hn qd, decide_eq_true (show c = B (st + 2) from e2), Bool.true_and]
          by_cases e3 : d = B (st + (0 + 1 + 1 + 1))
          · rw [if_pos e3, wdC_e _ hlen (by decide), decide_eq_true (show d = B (st + 3) from e3), fn_X1_isWord_L68]; rfl
          · rw [if_neg e3, decide_eq_false (show ¬ d = B (st + 3) from e3)]; rfl
        · rw [if_neg e2, decide_eq_false (show ¬ c = B (st + 2) from e2)]; rfl
      · rw [if_neg e1, decide_eq_false (show ¬ b = B (st + 1) from e1)]; rfl
    · rw [if_neg e0, decide_eq_false e0]; rfl
  · rw [if_neg (show ¬ nI 4 = nI (en - st) from fun w => q (by have := nI_j (by omega) (by omega) w; omega)), decide_eq_false q]; rfl
theorem word3 {c1 a b c : Nat} (hT : Tp tp B σ v r) (h2 : σ.1 64 2 = nI st) (h3 : σ.1 64 3 = nI en) (l1 : st ≤ en) (l2 : en ≤ tp) (hlen : fn_J0_length_8abf5 c1 = some (nI 3)) (ha : fn_J0_charAt_5068e c1 (nI 0) = some (nI a)) (hb : fn_J0_charAt_5068e c1 (nI 1) = some (nI b)) (hc : fn_J0_charAt_5068e c1 (nI 2) = some (nI c)) (qa : a < 256) (qb : b < 256) (qc : c < 256) : fn_X1_isWord ε c1 σ = some (bI (decide (en = st + 3) && w3 B st a b c), σ) := by
  have t1 := hT.1
  rw [fn_X1_isWord, hlen, o1_s, h2, h3, pk_sub l1]
  by_cases q : en = st + 3
  · have hn : st + 3 ≤ tp := by omega
    rw [if_pos (show nI 3 = nI (en - st) from by rw [q, Nat.add_sub_cancel_left]), decide_eq_true q, Bool.true_and, w3, show (4000 : Nat) = 3996 + 1 + 1 + 1 + 1 from rfl, wdC_s _ hT h2 hlen ha (by decide) hn qa]
    by_cases e0 : a = B (st + 0)
    · rw [if_pos e0, wdC_s _ hT h2 hlen hb (by decide) hn qb, decide_eq_true e0, Bool.true_and]
      by_cases e1 : b = B (st + (0 + 1))
      · rw [if_pos e1, wdC_s _ hT h2 hlen hc (by decide) hn qc, decide_eq_true (show b = B (st + 1) from e1), Bool.true_and]
        by_cases e2 : c = B (st + (0 + 1 + 1))
        · rw [if_pos e2, wdC_e _ hlen (by decide), decide_eq_true (show c = B (st + 2) from e2), fn_X1_isWord_L68]; rfl
        · rw [if_neg e2, decide_eq_false (show ¬ c = B (st + 2) from e2)]; rfl
      · rw [if_neg e1, decide_eq_false (show ¬ b = B (st + 1) from e1)]; rfl
    · rw [if_neg e0, decide_eq_false e0]; rfl
  · rw [if_neg (show ¬ nI 3 = nI (en - st) from fun w => q (by have := nI_j (by omega) (by omega) w; omega)), decide_eq_false q]; rfl
theorem nI_x {a c : Nat} (ha : a < 256) (hc : c < 256) : (nI c = nI a) = (a = c) := propext ⟨fun w => (nI_j (by omega) (by omega) w).symm, fun w => by rw [w]⟩
theorem at4 {a b c d : Nat} (hT : Tp tp B σ v r) (h17 : v 17 = nI st) (h18 : v 18 = nI en) (l1 : st ≤ en) (l2 : en ≤ tp) (qa : a < 256) (qb : b < 256) (qc : c < 256) (qd : d < 256) (d0 : 0 < d) : fn_X7_isWordAt (nI a) (nI b) (nI c) (nI d) (v, s, r) = some (bI (decide (v 19 = nI 1) && (decide (en = st + 4) && w4 B st a b c d)), (v, s, r)) := by
  obtain ⟨t1, t2, t3, t4, t5, t6⟩ := hT
  rw [fn_X7_isWordAt, if_neg (nI_ne0 d0 (by omega))]
  simp only [fn_X7_isWordAt_L10, fn_X7_isWordAt_L98, fn_X7_isWordAt_L102, fn_X7_isWordAt_L103, h17, h18, pk_sub l1, nI_add, if_pos (show nI 0 = 0 ∨ nI 0 = 1 from by decide), if_pos (show nI 1 = 0 ∨ nI 1 = 1 from by decide), if_neg (nI_ne0 d0 (show d < 2 ^ 31 by omega))]
  by_cases k : v 19 = nI 1
  · rw [if_pos k, decide_eq_true k, Bool.true_and]
    by_cases q : en = st + 4
    · rw [if_pos (show nI (en - st) = nI 4 from by rw [q, Nat.add_sub_cancel_left]), decide_eq_true q, Bool.true_and, w4, nI_clamp (show st < 2 ^ 31 by omega), nI_clamp (show st + 1 < 2 ^ 31 by omega), nI_clamp (show st + 2 < 2 ^ 31 by omega), nI_clamp (show st + 3 < 2 ^ 31 by omega), if_pos (g_in (show st < 96 by omega) (by decide)), if_pos (g_in (show st + 1 < 96 by omega) (by decide)), if_pos (g_in (show st + 2 < 96 by omega) (by decide)), if_pos (g_in (show st + 3 < 96 by omega) (by decide))]
      have b0 := t2 st (by omega)
      have b1 := t2 (st + 1) (by omega)
      have b2 := t2 (st + 2) (by omega)
      have b3 := t2 (st + 3) (by omega)
      simp only [t6 st (by omega), t6 (st + 1) (by omega), t6 (st + 2) (by omega), t6 (st + 3) (by omega), nI_x qa b0, nI_x qb b1, nI_x qc b2, nI_x qd b3, Nat.add_zero]
      by_cases e0 : a = B st
      · by_cases e1 : b = B (st + 1)
        · by_cases e2 : c = B (st + 2)
          · by_cases e3 : d = B (st + 3)
            · simp [e0, e1, e2, e3]; rfl
            · rw [if_pos e0, if_pos e1, if_pos e2, if_neg e3, decide_eq_true e0, decide_eq_true e1, decide_eq_true e2, decide_eq_false e3]; rfl
          · rw [if_pos e0, if_pos e1, if_neg e2, decide_eq_true e0, decide_eq_true e1, decide_eq_false e2]; rfl
        · rw [if_pos e0, if_neg e1, decide_eq_true e0, decide_eq_false e1]; rfl
      · rw [if_neg e0, decide_eq_false e0]; rfl
    · rw [if_neg (show ¬ nI (en - st) = nI 4 from fun w => q (by have := nI_j (by omega) (by omega) w; omega)), decide_eq_false q]; rfl
  · rw [if_neg k, decide_eq_false k]; rfl
theorem at3 {a b c : Nat} (hT : Tp tp B σ v r) (h17 : v 17 = nI st) (h18 : v 18 = nI en) (l1 : st ≤ en) (l2 : en ≤ tp) (qa : a < 256) (qb : b < 256) (qc : c < 256) : fn_X7_isWordAt (nI a) (nI b) (nI c) (nI 0) (v, s, r) = some (bI (decide (v 19 = nI 1) && (decide (en = st + 3) && w3 B st a b c)), (v, s, r)) := by
  obtain ⟨t1, t2, t3, t4, t5, t6⟩ := hT
  rw [fn_X7_isWordAt, if_pos (show nI 0 = 0 from by decide)]
  simp only [fn_X7_isWordAt_L10, fn_X7_isWordAt_L98, fn_X7_isWordAt_L102, fn_X7_isWordAt_L103, h17, h18, pk_sub l1, nI_add, if_pos (show nI 0 = 0 ∨ nI 0 = 1 from by decide), if_pos (show nI 1 = 0 ∨ nI 1 = 1 from by decide), if_pos (show nI 0 = 0 from by decide)]
  by_cases k : v 19 = nI 1
  · rw [if_pos k, decide_eq_true k, Bool.true_and]
    by_cases q : en = st + 3
    · rw [if_pos (show nI (en - st) = nI 3 from by rw [q, Nat.add_sub_cancel_left]), decide_eq_true q, Bool.true_and, w3, nI_clamp (show st < 2 ^ 31 by omega), nI_clamp (show st + 1 < 2 ^ 31 by omega), nI_clamp (show st + 2 < 2 ^ 31 by omega), if_pos (g_in (show st < 96 by omega) (by decide)), if_pos (g_in (show st + 1 < 96 by omega) (by decide)), if_pos (g_in (show st + 2 < 96 by omega) (by decide))]
      have b0 := t2 st (by omega)
      have b1 := t2 (st + 1) (by omega)
      have b2 := t2 (st + 2) (by omega)
      simp only [t6 st (by omega), t6 (st + 1) (by omega), t6 (st + 2) (by omega), nI_x qa b0, nI_x qb b1, nI_x qc b2, Nat.add_zero]
      by_cases e0 : a = B st
      · by_cases e1 : b = B (st + 1)
        · by_cases e2 : c = B (st + 2)
          · simp [e0, e1, e2]; rfl
          · rw [if_pos e0, if_pos e1, if_neg e2, decide_eq_true e0, decide_eq_true e1, decide_eq_false e2]; rfl
        · rw [if_pos e0, if_neg e1, decide_eq_true e0, decide_eq_false e1]; rfl
      · rw [if_neg e0, decide_eq_false e0]; rfl
    · rw [if_neg (show ¬ nI (en - st) = nI 3 from fun w => q (by have := nI_j (by omega) (by omega) w; omega)), decide_eq_false q]; rfl
  · rw [if_neg k, decide_eq_false k]; rfl
theorem kh_y {i f : Nat} {wb : Bool} (k51 : Sg → Option (Int32 × Sg)) (hi : i < 3) (k : σ.1 64 4 = nI 1) (hw : fn_X1_isWord ε i σ = some (bI wb, σ)) : fn_X1_keyHere_L2 ε k51 (f + 1) (nI i) σ = if wb = true then some (nI i, σ) else fn_X1_keyHere_L2 ε k51 f (nI (i + 1)) σ := by
  have e : i = 0 ∨ i = 1 ∨ i = 2 := by omega
  have K : fn_X1_keyHere_L37 ε (fn_X1_keyHere_L2 ε k51 f) k51 (nI i) i σ = if wb = true then some (nI i, σ) else fn_X1_keyHere_L2 ε k51 f (nI (i + 1)) σ := by
    rw [fn_X1_keyHere_L37, hw, ob_s]
    cases wb with
    | true => rw [if_neg (by decide), if_pos rfl]
    | false => rw [if_pos (show bI false = 0 from rfl), if_neg (by decide), fn_X1_keyHere_L45, nI_add]
  rw [← K]
  simp only [fn_X1_keyHere_L2]
  rw [if_neg (nI_ge hi (by decide)), if_pos k]
  rcases e with rfl | rfl | rfl
  · rw [if_pos (by decide)]
  · rw [if_neg (by decide), if_pos rfl]
  · rw [if_neg (by decide), if_neg (by decide)]
theorem kh_n {i f : Nat} (k51 : Sg → Option (Int32 × Sg)) (hi : i < 3) (k : ¬ σ.1 64 4 = nI 1) : fn_X1_keyHere_L2 ε k51 (f + 1) (nI i) σ = fn_X1_keyHere_L2 ε k51 f (nI (i + 1)) σ := by
  simp only [fn_X1_keyHere_L2]
  rw [if_neg (nI_ge hi (by decide)), if_neg k, fn_X1_keyHere_L45, nI_add]
theorem kh_e {f : Nat} (k51 : Sg → Option (Int32 × Sg)) : fn_X1_keyHere_L2 ε k51 (f + 1) (nI 3) σ = k51 σ := by
  simp only [fn_X1_keyHere_L2]
  rw [if_pos (by decide)]
def kwO (B : Nat → Nat) (st en : Nat) : Option Nat := if (decide (en = st + 4) && w4 B st 112 117 115 104) = true then some 0 else if (decide (en = st + 3) && w3 B st 102 101 101) = true then some 1 else if (decide (en = st + 4) && w4 B st 102 105 110 101) = true then some 2 else none
theorem key_ok (hT : Tp tp B σ v r) (hK : TK tp B σ v st en) : (σ.1 64 4 = nI 1 ∧ v 19 = nI 1 ∧ ∃ key, key ≤ 2 ∧ st + 3 ≤ en ∧ fn_X1_keyHere ε σ = some (nI key, σ) ∧ fn_X7_key (v, s, r) = some (nI key, (v, s, r))) ∨ (fn_X1_keyHere ε σ = some (-1, σ) ∧ fn_X7_key (v, s, r) = some (-1, (v, s, r))) := by
  obtain ⟨q2, q17, q3, q18, l1, l2, hTT⟩ := hK
  have E0 := word4 (ε := ε) (c1 := 0) (a := 112) (b := 117) (c := 115) (d := 104) hT q2 q3 l1 l2 (by decide) (by decide +kernel) (by decide +kernel) (by decide +kernel) (by decide +kernel) (by decide) (by decide) (by decide) (by decide)
  have E1 := word3 (ε := ε) (c1 := 1) (a := 102) (b := 101) (c := 101) hT q2 q3 l1 l2 (by decide) (by decide +kernel) (by decide +kernel) (by decide +kernel) (by decide) (by decide) (by decide)
  have E2 := word4 (ε := ε) (c1 := 2) (a := 102) (b := 105) (c := 110) (d := 101) hT q2 q3 l1 l2 (by decide) (by decide +kernel) (by decide +kernel) (by decide +kernel) (by decide +kernel) (by decide) (by decide) (by decide) (by decide)
  have A0 := at4 (s := s) (a := 112) (b := 117) (c := 115) (d := 104) hT q17 q18 l1 l2 (by decide) (by decide) (by decide) (by decide) (by decide)
  have A1 := at3 (s := s) (a := 102) (b := 101) (c := 101) hT q17 q18 l1 l2 (by decide) (by decide) (by decide)
  have A2 := at4 (s := s) (a := 102) (b := 105) (c := 110) (d := 101) hT q17 q18 l1 l2 (by decide) (by decide) (by decide) (by decide) (by decide)
  rw [fn_X1_keyHere, fn_X7_key, A0, ob_s, A1, ob_s, A2, ob_s]
  have b0 : bI false = 0 := rfl
  have b1 : ¬ bI true = 0 := by decide
  by_cases k : σ.1 64 4 = nI 1
  · have kt : v 19 = nI 1 := by
      unfold TT at hTT
      rw [k] at hTT
      rcases hTT with ⟨e1, -⟩ | ⟨e1, e2, -⟩ | ⟨e1, -⟩ | ⟨e1, -⟩ | ⟨e1, -⟩ | ⟨e1, -⟩
      · exact absurd e1 (by decide)
      · exact e2
      · exact absurd e1 (by decide)
      · exact absurd e1 (by decide)
      · exact absurd e1 (by decide)
      · exact absurd e1 (by decide)
    rw [decide_eq_true kt, Bool.true_and, Bool.true_and, Bool.true_and, show (4000 : Nat) = 3996 + 1 + 1 + 1 + 1 from rfl, kh_y _ (by decide) k E0, kh_y _ (by decide) k E1, kh_y _ (by decide) k E2, kh_e, fn_X1_keyHere_L51, fn_X7_key_L53, fn_X7_key_L53]
    cases m0 : (decide (en = st + 4) && w4 B st 112 117 115 104) with
    | true =>
      rw [if_neg b1, if_pos rfl]
      rw [Bool.and_eq_true, decide_eq_true_eq] at m0
      exact Or.inl ⟨k, kt, 0, by decide, by omega, rfl, rfl⟩
    | false =>
      rw [if_pos b0, if_neg (show ¬ false = true from by decide)]
      cases m1 : (decide (en = st + 3) && w3 B st 102 101 101) with
      | true =>
        rw [if_neg b1, if_pos rfl]
        rw [Bool.and_eq_true, decide_eq_true_eq] at m1
        exact Or.inl ⟨k, kt, 1, by decide, by omega, rfl, rfl⟩
      | false =>
        rw [if_pos b0, if_neg (show ¬ false = true from by decide)]
        cases m2 : (decide (en = st + 4) && w4 B st 102 105 110 101) with
        | true =>
          rw [if_neg b1, if_pos rfl]
          rw [Bool.and_eq_true, decide_eq_true_eq] at m2
          exact Or.inl ⟨k, kt, 2, by decide, by omega, rfl, rfl⟩
        | false =>
          rw [if_pos b0, if_neg (show ¬ false = true from by decide)]
          exact Or.inr ⟨rfl, rfl⟩
  · have kt : ¬ v 19 = nI 1 := by
      unfold TT at hTT
      rcases hTT with ⟨e1, e2, -⟩ | ⟨e1, e2, -⟩ | ⟨e1, e2, -⟩ | ⟨e1, e2, -⟩ | ⟨e1, e2, -⟩ | ⟨e1, e2⟩
      · rw [e2]; decide
      · exact absurd e1 k
      · rw [e2]; decide
      · rw [e2]; decide
      · rw [e2]; decide
      · rw [e2]; decide
    rw [decide_eq_false kt, Bool.false_and, Bool.false_and, Bool.false_and, if_pos b0, if_pos b0, if_pos b0, fn_X7_key_L53, show (4000 : Nat) = 3996 + 1 + 1 + 1 + 1 from rfl, kh_n _ (by decide) k, kh_n _ (by decide) k, kh_n _ (by decide) k, kh_e, fn_X1_keyHere_L51]
    exact Or.inr ⟨rfl, rfl⟩
end KY
