/-! ===== deal ===== -/
theorem lotN_n (z : Int32) : ∃ q, q < 2 ^ 24 ∧ lotN z = nI q := by
  refine ⟨(lotZ z).toBitVec.toNat / 2 ^ 8, ?_, ?_⟩
  · have hn : (lotZ z).toBitVec.toNat < 2 ^ 32 := (lotZ z).toBitVec.isLt
    omega
  · have hn : (lotZ z).toBitVec.toNat < 2 ^ 32 := (lotZ z).toBitVec.isLt
    apply Int32.toBitVec_inj.mp
    apply BitVec.eq_of_toNat_eq
    rw [lotN, pk_ushr _ (nI 8) 8 (by decide), pk_tn (by omega)]
theorem rm_n (z : Int32) {d : Nat} (h0 : 0 < d) (hd : d < 2 ^ 31) : ∃ q, q < d ∧ rmI (lotN z) (nI d) = nI q := by
  obtain ⟨q, hq, e⟩ := lotN_n z
  exact ⟨q % d, Nat.mod_lt _ h0, by rw [e, rmI, pk_rem (by omega) h0 hd]⟩
theorem draw_eq {ε : Ev} {σ : Sg} {s : Nat → Int32} {nt n : Nat} (hS : StO ε σ 16 s nt n) : fn_X4_draw ε 16 σ = some (lotN (s 5), pI σ 16 11 (lotZ (s 5))) ∧ StO ε (pI σ 16 11 (lotZ (s 5))) 16 (drw s) nt n := by
  have e11 : σ.1 16 11 = s 5 := hS.1.2.2.2.2.2.2.1
  refine ⟨?_, StO_z hS⟩
  rw [fn_X4_draw, e11, pI_e]; rfl
theorem lot_eq {ε : Ev} {σ : Sg} {s : Nat → Int32} {nt n : Nat} (hn : n < 9) (hS : StO ε σ 16 s nt n) : ∃ σ', fn_X4_buildByLot ε 16 σ = some ((), σ') ∧ StO ε σ' 16 (lot1 s n) nt (n + 1) ∧ (∀ x, (x < 16 ∨ 32 ≤ x) → σ'.1 x = σ.1 x) ∧ σ'.2 = σ.2 := by
  obtain ⟨e1, S1⟩ := draw_eq hS
  obtain ⟨e2, S2⟩ := draw_eq S1
  obtain ⟨e3, S3⟩ := draw_eq S2
  obtain ⟨e4, S4⟩ := draw_eq S3
  have hb : sBd (lot1 s n) n := by
    refine bdH ?_ ?_ ?_ ?_
    · obtain ⟨q, hq, e⟩ := rm_n (s 5) (d := 6) (by decide) (by decide)
      rw [e]
      exact inB_3 (nI_pos (by omega)) (show nI q ≤ nI 5 from nI_le (by omega) (by decide))
    · obtain ⟨q, hq, e⟩ := rm_n (drw s 5) (d := 60) (by decide) (by decide)
      rw [e, nI_add]
      exact (show inB (nI (1 + q)) 1 99 = true from inB_3 (nI_nlt (a := 1 + q) (b := 1) (by omega) (by omega)) (show nI (1 + q) ≤ nI 99 from nI_le (by omega) (by decide)))
    · obtain ⟨q, hq, e⟩ := rm_n (drw (drw s) 5) (d := 41) (by decide) (by decide)
      rw [e]
      have t := pk_sub_toInt (a := q) (b := 20) (by omega) (by decide)
      refine (show inB (nI q - nI 20) (-50) 50 = true from inB_3 (fun w => ?_) ?_)
      · have w := Int32.lt_iff_toInt_lt.mp w
        rw [t, show (-50 : Int32).toInt = -50 from by decide] at w
        omega
      · apply Int32.le_iff_toInt_le.mpr
        rw [t, show (50 : Int32).toInt = 50 from by decide]
        omega
    · obtain ⟨q, hq, e⟩ := rm_n (drw (drw (drw s)) 5) (d := 60) (by decide) (by decide)
      rw [e]
      exact mB3 (by omega)
  obtain ⟨τ, e5, S5, f1, f2⟩ := build_eq (ε := ε) (c := 16) (by decide) hn S4 hb
  refine ⟨τ, ?_, S5, fun x hx => ?_, f2⟩
  · rw [fn_X4_buildByLot, e1, ob_s, e2, ob_s, e3, ob_s, e4, ob_s]
    refine Eq.trans (congrArg (fun o => ob o _) e5) ?_
    rw [ob_s]
  · rw [f1 x (by omega), pI_nc (by omega), pI_nc (by omega), pI_nc (by omega), pI_nc (by omega)]
theorem dlS_2 {s : Nat → Int32} {n : Nat} : ∀ j, dlS s n j 2 = s 2
  | 0 => rfl
  | j + 1 => by rw [dlS, lot1, hsO (by decide) (by omega), drw, drw, drw, drw, pk_un (by decide), pk_un (by decide), pk_un (by decide), pk_un (by decide), dlS_2 j]
theorem deal_L {ε : Ev} {σ : Sg} {s : Nat → Int32} {nt n m : Nat} {z : Int32} (hm : n + m ≤ 9) : ∀ (f j : Nat) (τ : Sg), j ≤ m → m + 1 ≤ j + f → StO ε τ 16 (dlS s n j) nt (n + j) → (∀ x, (x < 16 ∨ 32 ≤ x) → τ.1 x = σ.1 x) → τ.2 = σ.2 → ∃ τ', fn_X6_deal_L31 ε z (fn_X6_deal_L49 ε z) f (nI m) (nI j) τ = some (nI m, τ') ∧ StO ε τ' 16 (dlS s n m) nt (n + m) ∧ (∀ x, (x < 16 ∨ 32 ≤ x) → τ'.1 x = σ.1 x) ∧ τ'.2 = σ.2 := by
  intro f
  induction f with
  | zero => intro j τ h1 h2; omega
  | succ f ih =>
    intro j τ h1 h2 hS hx ht
    simp only [fn_X6_deal_L31]
    by_cases hj : j = m
    · subst hj
      rw [if_pos (nI_le (Nat.le_refl j) (by omega))]
      exact ⟨τ, rfl, hS, hx, ht⟩
    · obtain ⟨τ1, e1, S1, f1, f2⟩ := lot_eq (show n + j < 9 by omega) hS
      rw [if_neg (nI_ge (by omega) (by omega)), e1, ob_s, nI_add]
      exact ih (j + 1) τ1 (by omega) (by omega) S1 (fun x q => by rw [f1 x q]; exact hx x q) (f2.trans ht)
theorem deal_ok {ε : Ev} {σ : Sg} {μ : Mg} (h : Rel ε σ μ) (z : Int32) : RStp ε (fn_X6_deal ε z σ) (fn_X7_deal z μ) := by
  obtain ⟨n, nt, d, hS, hd, hd2⟩ := h.1
  have hn9 := hS.1.1
  have e6 : σ.1 16 6 = nI n := hS.1.2.2.1
  rw [fn_X7_deal, cif_pos (hN_ok hS), hS.nOf.1, fn_X6_deal]
  simp only [fn_X6_deal_L11, e6]
  by_cases h1 : z < nI 1
  · rw [if_pos h1, show dealP μ.2.1 n z = (-1000000001, μ.2.1) from by rw [dealP, inB_1 (show z < 1 from h1)]; rfl]; exact ⟨_, σ, μ, rfl, rfl, h⟩
  rw [if_neg h1]
  by_cases h2 : z ≤ nI 9
  · obtain ⟨m, m1, m2, rfl⟩ := inB_t (lo := 1) (hi := 9) (by decide) (by decide) (inB_3 h1 h2)
    have em : mnI (nI m) (nI (9 - n)) = nI (min m (9 - n)) := by
      unfold mnI
      by_cases q : 9 - n < m
      · rw [if_pos (nI_lt q (by omega)), Nat.min_eq_right (by omega)]
      · rw [if_neg (nI_nlt (by omega) (by omega)), Nat.min_eq_left (by omega)]
    obtain ⟨τ, e1, S1, f1, f2⟩ := deal_L (ε := ε) (σ := σ) (s := μ.2.1) (nt := nt) (n := n) (m := min m (9 - n)) (z := nI m) (by omega) 4000 0 σ (by omega) (by omega) hS (fun _ _ => rfl) rfl
    rw [if_pos h2, pk_sub (by omega), em, show dealP μ.2.1 n (nI m) = (nI (min m (9 - n)), dlS μ.2.1 n (min m (9 - n))) from by rw [dealP, show inB (nI m) 1 9 = true from inB_3 h1 h2, nI_clamp (by omega)]; rfl]
    exact ⟨_, τ, _, e1, rfl, rel_now h (fun x a _ => f1 x (by omega)) (fun x _ _ => by rw [f2]) (h.2.2.2.2.2.2.same f2) ⟨n + min m (9 - n), nt, d, S1, hd, (dlS_2 _).trans hd2⟩⟩
  · rw [if_neg h2, show dealP μ.2.1 n z = (-1000000001, μ.2.1) from by rw [dealP, inB_2 (show ¬ z ≤ 9 from h2)]; rfl]; exact ⟨_, σ, μ, rfl, rfl, h⟩
