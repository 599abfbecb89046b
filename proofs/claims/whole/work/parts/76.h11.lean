theorem hsO {s : Nat → Int32} {n j : Nat} {a0 a1 a2 a3 : Int32} (h0 : j ≠ 0) (hj : j < 6 + 7 * n ∨ 6 + 7 * n + 7 ≤ j) : houseS s n a0 a1 a2 a3 j = s j := by
  rw [houseS, pk_un (by omega), pk_un (by omega), pk_un (by omega), pk_un (by omega), pk_un (by omega), pk_un (by omega), pk_un (by omega), pk_un (by omega)]
theorem hsW (s : Nat → Int32) (n : Nat) (a0 a1 a2 a3 : Int32) : houseS s n a0 a1 a2 a3 (6 + 7 * n + 0) = a0 ∧ houseS s n a0 a1 a2 a3 (6 + 7 * n + 1) = a1 ∧ houseS s n a0 a1 a2 a3 (6 + 7 * n + 2) = a2 ∧ houseS s n a0 a1 a2 a3 (6 + 7 * n + 3) = a3 ∧ houseS s n a0 a1 a2 a3 (6 + 7 * n + 4) = nI 0 ∧ houseS s n a0 a1 a2 a3 (6 + 7 * n + 5) = nI 0 ∧ houseS s n a0 a1 a2 a3 (6 + 7 * n + 6) = nI 0 := by
  unfold houseS
  refine ⟨?_, ?_, ?_, ?_, ?_, ?_, pk_us⟩
  · rw [pk_un (by omega), pk_un (by omega), pk_un (by omega), pk_un (by omega), pk_un (by omega), pk_un (by omega), pk_us]
  · rw [pk_un (by omega), pk_un (by omega), pk_un (by omega), pk_un (by omega), pk_un (by omega), pk_us]
  · rw [pk_un (by omega), pk_un (by omega), pk_un (by omega), pk_un (by omega), pk_us]
  · rw [pk_un (by omega), pk_un (by omega), pk_un (by omega), pk_us]
  · rw [pk_un (by omega), pk_un (by omega), pk_us]
  · rw [pk_un (by omega), pk_us]
theorem buildO {ε : Ev} {σ T : Sg} {c n nt : Nat} {s : Nat → Int32} {a0 a1 a2 a3 : Int32} (hc : c < 900) (hn : n < 9) (hS : StO ε σ c s nt n) (hb : sBd (houseS s n a0 a1 a2 a3) n) (hT : ∀ x, x ≠ c + 7 + n → T.1 x = σ.1 x) (h2 : T.2 = σ.2) (t0 : T.1 (c + 7 + n) 0 = a0) (t1 : T.1 (c + 7 + n) 1 = a1) (t2 : T.1 (c + 7 + n) 2 = a2) (t3 : T.1 (c + 7 + n) 3 = a3) (t4 : T.1 (c + 7 + n) 4 = nI 0) (t5 : T.1 (c + 7 + n) 5 = nI 0) (t6 : T.1 (c + 7 + n) 6 = nI 1) : StO ε (pI T c 6 (nI (n + 1))) c (houseS s n a0 a1 a2 a3) nt (n + 1) := by
  obtain ⟨⟨a1', a2', a3', a4, a5, a6, a7, a8⟩, hR0, hB, hd⟩ := hS
  obtain ⟨w0, w1, w2, w3, w4, w5, w6⟩ := hsW s n a0 a1 a2 a3
  have e := hT c (by omega)
  refine ⟨⟨by omega, houseS_0 _ _ _ _ _ _, pI_e _ _ _ _, by rw [pI_n (Or.inr (by decide)), e, hsO (by decide) (by omega)]; exact a4, by rw [pI_n (Or.inr (by decide)), e, hsO (by decide) (by omega)]; exact a5, by rw [pI_n (Or.inr (by decide)), e, hsO (by decide) (by omega)]; exact a6, by rw [pI_n (Or.inr (by decide)), e, hsO (by decide) (by omega)]; exact a7, fun k hk => ?_⟩, ?_, fun k hk => ?_, by rw [hsO (by decide) (by omega)]; exact hd⟩
  · by_cases ek : k = n
    · subst ek
      refine ⟨fun w hw => ?_, ?_, Or.inl w6⟩
      · rw [pI_nc (by omega)]
        have ew : w = 0 ∨ w = 1 ∨ w = 2 ∨ w = 3 ∨ w = 4 ∨ w = 5 := by omega
        rcases ew with rfl | rfl | rfl | rfl | rfl | rfl
        · rw [t0, w0]
        · rw [t1, w1]
        · rw [t2, w2]
        · rw [t3, w3]
        · rw [t4, w4]
        · rw [t5, w5]
      · rw [pI_nc (by omega), t6, w6]; rfl
    · obtain ⟨b1, b2, b3⟩ := a8 k (by omega)
      exact ⟨fun w hw => by rw [pI_nc (by omega), hT _ (by omega), hsO (by omega) (by omega)]; exact b1 w hw, by rw [pI_nc (by omega), hT _ (by omega), hsO (by omega) (by omega)]; exact b2, by rw [hsO (by omega) (by omega)]; exact b3⟩
  · exact hR0.fr h2 (by rw [pI_n (Or.inr (by decide)), e]) (fun y h7 _ => by rw [pI_nc (by omega), hT _ (by omega)]) (hsO (by decide) (by omega)) (fun j hj => hsO (by omega) (by omega))
  · by_cases ek : k = n
    · rw [ek]; exact hb
    · obtain ⟨kd, w, wl, cr, pr, b0, b0', b1, b1', b1'', b3, b3', b4, b4', b5, b5', b2, b2'⟩ := hB k (by omega)
      exact ⟨kd, w, wl, cr, pr, by rw [hsO (by omega) (by omega)]; exact b0, b0', by rw [hsO (by omega) (by omega)]; exact b1, b1', b1'', by rw [hsO (by omega) (by omega)]; exact b3, b3', by rw [hsO (by omega) (by omega)]; exact b4, b4', by rw [hsO (by omega) (by omega)]; exact b5, b5', by rw [hsO (by omega) (by omega)]; exact b2, by rw [hsO (by omega) (by omega)]; exact b2'⟩
theorem build_eq {ε : Ev} {σ : Sg} {c n nt : Nat} {s : Nat → Int32} {a0 a1 a2 a3 : Int32} (hc : c < 900) (hn : n < 9) (hS : StO ε σ c s nt n) (hb : sBd (houseS s n a0 a1 a2 a3) n) : ∃ σ', fn_X4_build ε c a0 a1 a2 a3 σ = some ((), σ') ∧ StO ε σ' c (houseS s n a0 a1 a2 a3) nt (n + 1) ∧ (∀ x, (x < c ∨ c + 16 ≤ x) → σ'.1 x = σ.1 x) ∧ σ'.2 = σ.2 := by
  have e6 : σ.1 c 6 = nI n := hS.1.2.2.1
  rw [fn_X4_build, e6, if_pos (nI_lt hn (by decide)), if_pos (by rw [nI_clamp (by omega), nI_lt0 (by omega), false_or]; omega), nI_clamp (by omega), fn_X0_rise, ob_s]
  have ec : ∀ T : Sg, T.1 c 6 = σ.1 c 6 → T.1 c 6 + nI 1 = nI (n + 1) := fun T e => by rw [e, e6, nI_add]
  rw [ec _ (by rw [pI_nc (by omega), pI_nc (by omega), pI_nc (by omega), pI_nc (by omega), pI_nc (by omega), pI_nc (by omega), pI_nc (by omega), pI_nc (by omega)])]
  refine ⟨_, rfl, buildO hc hn hS hb (fun x hx => by rw [pI_nc hx, pI_nc hx, pI_nc hx, pI_nc hx, pI_nc hx, pI_nc hx, pI_nc hx, pI_nc hx]) rfl ?_ ?_ ?_ ?_ ?_ ?_ ?_, fun x hx => by rw [pI_nc (by omega), pI_nc (by omega), pI_nc (by omega), pI_nc (by omega), pI_nc (by omega), pI_nc (by omega), pI_nc (by omega), pI_nc (by omega), pI_nc (by omega)], rfl⟩
  · rw [pI_n (Or.inr (by decide)), pI_n (Or.inr (by decide)), pI_n (Or.inr (by decide)), pI_n (Or.inr (by decide)), pI_e]
  · rw [pI_n (Or.inr (by decide)), pI_n (Or.inr (by decide)), pI_n (Or.inr (by decide)), pI_e]
  · rw [pI_n (Or.inr (by decide)), pI_n (Or.inr (by decide)), pI_e]
  · rw [pI_n (Or.inr (by decide)), pI_e]
  · rw [pI_n (Or.inr (by decide)), pI_n (Or.inr (by decide)), pI_n (Or.inr (by decide)), pI_n (Or.inr (by decide)), pI_n (Or.inr (by decide)), pI_e]
  · rw [pI_e]
  · rw [pI_n (Or.inr (by decide)), pI_n (Or.inr (by decide)), pI_n (Or.inr (by decide)), pI_n (Or.inr (by decide)), pI_n (Or.inr (by decide)), pI_n (Or.inr (by decide)), pI_n (Or.inr (by decide)), pI_e]
