/-! ===== the tape is fed ===== -/
def bt (z : Int32) (i : Nat) : Nat := z.toBitVec.toNat / 2 ^ (24 - 8 * i) % 256
theorem bt_sh (z : Int32) (k : Nat) (hk : k ≤ 24) (hs : ((nI k &&& 31).toBitVec.smod 32).toNat = k) : (z >>> (nI k &&& 31)).toBitVec.toNat % 256 = z.toBitVec.toNat / 2 ^ k % 256 := by
  have e3 := pk_shr z (nI k &&& 31) k hs
  rw [Int.shiftRight_eq_div_pow] at e3
  have hn : z.toBitVec.toNat < 2 ^ 32 := z.toBitVec.isLt
  have hx : (z >>> (nI k &&& 31)).toBitVec.toNat < 2 ^ 32 := (z >>> (nI k &&& 31)).toBitVec.isLt
  have e1 : (z >>> (nI k &&& 31)).toInt = (((z >>> (nI k &&& 31)).toBitVec.toNat : Nat) : Int).bmod (2 ^ 32) := BitVec.toInt_eq_toNat_bmod _
  have e2 : z.toInt = ((z.toBitVec.toNat : Nat) : Int).bmod (2 ^ 32) := BitVec.toInt_eq_toNat_bmod _
  rw [e1, e2] at e3
  generalize (z >>> (nI k &&& 31)).toBitVec.toNat = x at hx e3 ⊢
  generalize z.toBitVec.toNat = n at hn e3 ⊢
  simp only [Int.bmod_def] at e3
  have hd : k = 0 ∨ k = 1 ∨ k = 2 ∨ k = 3 ∨ k = 4 ∨ k = 5 ∨ k = 6 ∨ k = 7 ∨ k = 8 ∨ k = 9 ∨ k = 10 ∨ k = 11 ∨ k = 12 ∨ k = 13 ∨ k = 14 ∨ k = 15 ∨ k = 16 ∨ k = 17 ∨ k = 18 ∨ k = 19 ∨ k = 20 ∨ k = 21 ∨ k = 22 ∨ k = 23 ∨ k = 24 := by omega
  have h4 : k = 0 ∨ k = 8 ∨ k = 16 ∨ k = 24 ∨ ¬ (k = 0 ∨ k = 8 ∨ k = 16 ∨ k = 24) := by omega
  rcases hd with rfl | rfl | rfl | rfl | rfl | rfl | rfl | rfl | rfl | rfl | rfl | rfl | rfl | rfl | rfl | rfl | rfl | rfl | rfl | rfl | rfl | rfl | rfl | rfl | rfl <;> (split at e3 <;> split at e3 <;> omega)
theorem byt (z : Int32) {i : Nat} (hi : i < 4) : ((Int32.toUInt32 z >>> (Int32.toUInt32 (nI (24 - 8 * i)) &&& Int32.toUInt32 31)).toInt32 &&& nI 255) = nI (bt z i) ∧ ((z >>> (nI (24 - 8 * i) &&& 31)) &&& nI 255) = nI (bt z i) := by
  have e : i = 0 ∨ i = 1 ∨ i = 2 ∨ i = 3 := by omega
  rcases e with rfl | rfl | rfl | rfl
  · exact ⟨by rw [pk_and _ 8 (by decide), pk_ushr _ (nI 24) 24 (by decide)]; rfl, by rw [pk_and _ 8 (by decide), show 2 ^ 8 = 256 from rfl, bt_sh z 24 (by decide) (by decide)]; rfl⟩
  · exact ⟨by rw [pk_and _ 8 (by decide), pk_ushr _ (nI 16) 16 (by decide)]; rfl, by rw [pk_and _ 8 (by decide), show 2 ^ 8 = 256 from rfl, bt_sh z 16 (by decide) (by decide)]; rfl⟩
  · exact ⟨by rw [pk_and _ 8 (by decide), pk_ushr _ (nI 8) 8 (by decide)]; rfl, by rw [pk_and _ 8 (by decide), show 2 ^ 8 = 256 from rfl, bt_sh z 8 (by decide) (by decide)]; rfl⟩
  · exact ⟨by rw [pk_and _ 8 (by decide), pk_ushr _ (nI 0) 0 (by decide)]; rfl, by rw [pk_and _ 8 (by decide), show 2 ^ 8 = 256 from rfl, bt_sh z 0 (by decide) (by decide)]; rfl⟩
theorem bt_lt (z : Int32) (i : Nat) : bt z i < 256 := Nat.mod_lt _ (by decide)
theorem addB_s {ε : Ev} {z : Int32} {f i tp : Nat} {σ : Sg} (k48 : Sg → Option (Unit × Sg)) (hi : i < 4) (ht : tp < 96) (e : σ.1 64 1 = nI tp) : fn_X1_addBytesOf_L3 ε z k48 (f + 1) (nI (24 - 8 * i)) σ = fn_X1_addBytesOf_L3 ε z k48 f (nI (24 - 8 * i) + -8) (pI (pI σ 65 tp (nI (bt z i))) 64 1 (nI (tp + 1))) := by
  have e1 : (pI σ 65 tp (nI (bt z i))).1 64 1 = nI tp := by rw [pI_nc (by decide)]; exact e
  simp only [fn_X1_addBytesOf_L3, fn_X1_addBytesOf_L42, e]
  rw [if_neg (nI_pos (by omega)), if_neg (nI_ge ht (by decide)), nI_clamp (by omega), if_pos (g_in ht (by decide)), (byt z hi).1, e1, nI_add]
theorem addB_e {ε : Ev} {z : Int32} {f : Nat} {σ : Sg} (k48 : Sg → Option (Unit × Sg)) : fn_X1_addBytesOf_L3 ε z k48 (f + 1) (-8) σ = k48 σ := by
  simp only [fn_X1_addBytesOf_L3]
  rw [if_pos (by decide)]
theorem addB_eq {ε : Ev} {z : Int32} {tp : Nat} {σ : Sg} (ht : tp + 4 ≤ 96) (e : σ.1 64 1 = nI tp) : ∃ σ', fn_X1_addBytesOf ε z σ = some ((), σ') ∧ σ'.1 64 1 = nI (tp + 4) ∧ (∀ i, i < 4 → σ'.1 65 (tp + i) = nI (bt z i)) ∧ (∀ j, j < tp → σ'.1 65 j = σ.1 65 j) ∧ (∀ x, x ≠ 64 → x ≠ 65 → σ'.1 x = σ.1 x) ∧ σ'.2 = σ.2 := by
  have q0 := addB_s (ε := ε) (z := z) (f := 3999) (i := 0) (tp := tp) (σ := σ) (fn_X1_addBytesOf_L48 ε z) (by decide) (by omega) e
  have q1 := addB_s (ε := ε) (z := z) (f := 3998) (i := 1) (tp := tp + 1) (σ := pI (pI σ 65 tp (nI (bt z 0))) 64 1 (nI (tp + 1))) (fn_X1_addBytesOf_L48 ε z) (by decide) (by omega) (pI_e _ _ _ _)
  have q2 := addB_s (ε := ε) (z := z) (f := 3997) (i := 2) (tp := tp + 1 + 1) (σ := pI (pI (pI (pI σ 65 tp (nI (bt z 0))) 64 1 (nI (tp + 1))) 65 (tp + 1) (nI (bt z 1))) 64 1 (nI (tp + 1 + 1))) (fn_X1_addBytesOf_L48 ε z) (by decide) (by omega) (pI_e _ _ _ _)
  have q3 := addB_s (ε := ε) (z := z) (f := 3996) (i := 3) (tp := tp + 1 + 1 + 1) (σ := pI (pI (pI (pI (pI (pI σ 65 tp (nI (bt z 0))) 64 1 (nI (tp + 1))) 65 (tp + 1) (nI (bt z 1))) 64 1 (nI (tp + 1 + 1))) 65 (tp + 1 + 1) (nI (bt z 2))) 64 1 (nI (tp + 1 + 1 + 1))) (fn_X1_addBytesOf_L48 ε z) (by decide) (by omega) (pI_e _ _ _ _)
  rw [show nI (24 - 8 * 0) + -8 = nI (24 - 8 * 1) from by decide] at q0
  rw [show nI (24 - 8 * 1) + -8 = nI (24 - 8 * 2) from by decide] at q1
  rw [show nI (24 - 8 * 2) + -8 = nI (24 - 8 * 3) from by decide] at q2
  rw [show nI (24 - 8 * 3) + -8 = -8 from by decide] at q3
  refine ⟨_, (q0.trans (q1.trans (q2.trans q3))).trans (addB_e (f := 3995) _), pI_e _ _ _ _, fun i hi => ?_, fun j hj => ?_, fun x h1 h2 => ?_, rfl⟩
  · have e : i = 0 ∨ i = 1 ∨ i = 2 ∨ i = 3 := by omega
    rcases e with rfl | rfl | rfl | rfl
    · show (pI _ 64 1 _).1 65 tp = nI (bt z 0)
      simp only [pI_nc (show (65 : Nat) ≠ 64 by decide), pI_e, pI_n (Or.inr (show tp ≠ tp + 1 by omega)), pI_n (Or.inr (show tp ≠ tp + 1 + 1 by omega)), pI_n (Or.inr (show tp ≠ tp + 1 + 1 + 1 by omega))]
    · show (pI _ 64 1 _).1 65 (tp + 1) = nI (bt z 1)
      simp only [pI_nc (show (65 : Nat) ≠ 64 by decide), pI_e, pI_n (Or.inr (show tp + 1 ≠ tp + 1 + 1 by omega)), pI_n (Or.inr (show tp + 1 ≠ tp + 1 + 1 + 1 by omega))]
    · show (pI _ 64 1 _).1 65 (tp + 1 + 1) = nI (bt z 2)
      simp only [pI_nc (show (65 : Nat) ≠ 64 by decide), pI_e, pI_n (Or.inr (show tp + 1 + 1 ≠ tp + 1 + 1 + 1 by omega))]
    · show (pI _ 64 1 _).1 65 (tp + 1 + 1 + 1) = nI (bt z 3)
      simp only [pI_nc (show (65 : Nat) ≠ 64 by decide), pI_e]
  · simp only [pI_nc (show (65 : Nat) ≠ 64 by decide), pI_n (Or.inr (show j ≠ tp by omega)), pI_n (Or.inr (show j ≠ tp + 1 by omega)), pI_n (Or.inr (show j ≠ tp + 1 + 1 by omega)), pI_n (Or.inr (show j ≠ tp + 1 + 1 + 1 by omega))]
  · simp only [pI_nc h1, pI_nc h2]
theorem feed_ok {ε : Ev} {σ : Sg} {μ : Mg} (h : Rel ε σ μ) (z1 z2 z3 : Int32) : RStp ε (fn_X6_feed ε z1 z2 z3 σ) (fn_X7_feed z1 z2 z3 μ) := by
  obtain ⟨tp, t1, t2, t3, t4⟩ := h.2.2.1
  rw [fn_X6_feed, fn_X7_feed, t2, t3, nI_add]
  by_cases hf : tp + 12 ≤ 96
  · rw [if_pos (nI_le hf (by decide)), if_pos (nI_le hf (by decide))]
    obtain ⟨τ1, e1, a1, b1, c1, d1, g1⟩ := addB_eq (ε := ε) (z := z1) (tp := tp) (σ := σ) (by omega) t2
    obtain ⟨τ2, e2, a2, b2, c2, d2, g2⟩ := addB_eq (ε := ε) (z := z2) (tp := tp + 4) (σ := τ1) (by omega) a1
    obtain ⟨τ3, e3, a3, b3, c3, d3, g3⟩ := addB_eq (ε := ε) (z := z3) (tp := tp + 4 + 4) (σ := τ2) (by omega) a2
    rw [e1, ob_s, e2, ob_s, e3, ob_s, a3]
    have L : ∀ (f j : Nat) (ν : Mg), j ≤ 12 → 13 ≤ j + f → ν.1 16 = nI (tp + j) → (∀ x, x ≠ 16 → ν.1 x = μ.1 x) → ν.2.1 = μ.2.1 → (∀ x, x ≠ 15 → ν.2.2 x = μ.2.2 x) → (∀ i, i < tp → ν.2.2 15 i = μ.2.2 15 i) → (∀ i, i < j → ν.2.2 15 (tp + i) = nI (bt (if i < 4 then z1 else if i < 8 then z2 else z3) (i % 4))) → ∃ ν', fn_X7_feed_L18 z1 z2 z3 (fn_X7_feed_L91 z1 z2 z3) f (nI j) ν = some (nI (tp + 12), ν') ∧ ν'.1 16 = nI (tp + 12) ∧ (∀ x, x ≠ 16 → ν'.1 x = μ.1 x) ∧ ν'.2.1 = μ.2.1 ∧ (∀ x, x ≠ 15 → ν'.2.2 x = μ.2.2 x) ∧ (∀ i, i < tp → ν'.2.2 15 i = μ.2.2 15 i) ∧ (∀ i, i < 12 → ν'.2.2 15 (tp + i) = nI (bt (if i < 4 then z1 else if i < 8 then z2 else z3) (i % 4))) := by
      intro f
      induction f with
      | zero => intro j ν h1 h2; omega
      | succ f ih =>
        intro j ν h1 h2 hv hx hs hr ho hn
        by_cases hj : j = 12
        · subst hj
          refine ⟨ν, ?_, hv, hx, hs, hr, ho, hn⟩
          simp only [fn_X7_feed_L18]
          rw [if_pos (by decide), fn_X7_feed_L91, hv]
        · have step : fn_X7_feed_L18 z1 z2 z3 (fn_X7_feed_L91 z1 z2 z3) (f + 1) (nI j) ν = fn_X7_feed_L47 z1 z2 z3 (fn_X7_feed_L18 z1 z2 z3 (fn_X7_feed_L91 z1 z2 z3) f) (fn_X7_feed_L91 z1 z2 z3) (nI j) (if j < 4 then z1 else if j < 8 then z2 else z3) ν := by
            simp only [fn_X7_feed_L18]
            rw [if_neg (nI_ge (by omega) (by omega))]
            by_cases q4 : j < 4
            · rw [if_neg (nI_ge q4 (by omega)), if_pos q4]
            · rw [if_pos (nI_le (by omega) (by omega)), if_neg q4]
              by_cases q8 : j < 8
              · rw [if_neg (nI_ge q8 (by omega)), if_pos q8]
              · rw [if_pos (nI_le (by omega) (by omega)), if_neg q8]
          rw [step, fn_X7_feed_L47, hv, pk_rem (by omega) (by decide) (by decide), pk_mul, pk_sub (by omega), (byt _ (show j % 4 < 4 by omega)).2, nI_clamp (by omega), if_pos (g_in (show tp + j < 96 by omega) (by decide)), nI_add, nI_add]
          refine ih (j + 1) _ (by omega) (by omega) (show upd ν.1 16 _ 16 = _ from pk_us) (fun x q => ?_) hs (fun x q => ?_) (fun i q => ?_) (fun i q => ?_)
          · dsimp only
            rw [pk_un q]; exact hx x q
          · dsimp only
            rw [mU_n _ _ q]; exact hr x q
          · dsimp only
            rw [mU_s, pk_un (by omega)]; exact ho i q
          · dsimp only
            rw [mU_s]
            by_cases e : i = j
            · rw [e, pk_us]
            · rw [pk_un (by omega)]; exact hn i (by omega)
    obtain ⟨ν, f1, f2, f3, f4, f5, f6, f7⟩ := L 4000 0 μ (by decide) (by decide) t3 (fun _ _ => rfl) rfl (fun _ _ => rfl) (fun _ _ => rfl) (fun i hi => by omega)
    obtain ⟨v', s', r'⟩ := ν
    have f4 : s' = μ.2.1 := f4
    subst f4
    refine ⟨_, τ3, _, rfl, f1, rel_tape h (fun x p q => by rw [d3 x p q, d2 x p q, d1 x p q]) (by rw [g3, g2, g1]) f3 f5 ⟨tp + 12, hf, a3, f2, fun j hj => ?_⟩⟩
    by_cases j0 : j < tp
    · obtain ⟨b, hb, w1, w2⟩ := t4 j j0
      exact ⟨b, hb, by rw [c3 j (by omega), c2 j (by omega), c1 j j0]; exact w1, by rw [f6 j j0]; exact w2⟩
    · obtain ⟨i, rfl⟩ : ∃ i, j = tp + i := ⟨j - tp, by omega⟩
      refine ⟨_, bt_lt _ _, ?_, f7 i (by omega)⟩
      by_cases i4 : i < 4
      · rw [if_pos i4, Nat.mod_eq_of_lt i4, c3 _ (by omega), c2 _ (by omega)]; exact b1 i i4
      · rw [if_neg i4]
        by_cases i8 : i < 8
        · rw [if_pos i8, c3 _ (by omega), show tp + i = tp + 4 + (i - 4) by omega, b2 _ (by omega), show (i - 4) = i % 4 by omega]
        · rw [if_neg i8, show tp + i = tp + 4 + 4 + (i - 8) by omega, b3 _ (by omega), show (i - 8) = i % 4 by omega]
  · rw [if_neg (nI_ge (by omega) (by omega)), if_neg (nI_ge (by omega) (by omega))]; exact ⟨_, σ, μ, rfl, rfl, h⟩
