theorem bdH {s : Nat → Int32} {n : Nat} {a0 a1 a2 a3 : Int32} (h0 : inB a0 0 5 = true) (h1 : mayB (nI 1) a1 = true) (h2 : mayB (nI 2) a2 = true) (h3 : mayB (nI 3) a3 = true) : sBd (houseS s n a0 a1 a2 a3) n := by
  obtain ⟨w0, w1, w2, w3, w4, w5, w6⟩ := hsW s n a0 a1 a2 a3
  obtain ⟨m0, -, l0, e0⟩ := inB_t (lo := 0) (hi := 5) (by decide) (by decide) h0
  obtain ⟨m1, k1, l1, e1⟩ := inB_t (lo := 1) (hi := 99) (by decide) (by decide) (show inB a1 1 99 = true from h1)
  obtain ⟨m3, -, l3, e3⟩ := inB_t (lo := 0) (hi := 99) (by decide) (by decide) (show inB a3 0 99 = true from h3)
  have h2 : inB a2 (-50) 50 = true := h2
  rw [inB, Bool.and_eq_true, decide_eq_true_eq, decide_eq_true_eq] at h2
  have q1 := Int32.le_iff_toInt_le.mp h2.1
  have q2 := Int32.le_iff_toInt_le.mp h2.2
  rw [show (-50 : Int32).toInt = -50 from by decide] at q1
  rw [show (50 : Int32).toInt = 50 from by decide] at q2
  exact ⟨m0, m1, m3, 0, 0, w0.trans e0, l0, w1.trans e1, k1, l1, w3.trans e3, l3, w4, by decide, w5, by decide, by rw [w2]; exact q1, by rw [w2]; exact q2⟩
theorem house_ok {ε : Ev} {σ : Sg} {μ : Mg} (h : Rel ε σ μ) (a0 a1 a2 a3 : Int32) : RStp ε (fn_X6_house ε a0 a1 a2 a3 σ) (fn_X7_house a0 a1 a2 a3 μ) := by
  obtain ⟨n, nt, d, hS, hd, hd2⟩ := h.1
  have hn9 := hS.1.1
  have e6 : σ.1 16 6 = nI n := hS.1.2.2.1
  rw [fn_X7_house, cif_pos (hN_ok hS), hS.nOf.1, fn_X6_house]
  simp only [fn_X6_house_L33, fits_0, fits_eq (j := 1) (by decide) (by decide), fits_eq (j := 2) (by decide) (by decide), fits_eq (j := 3) (by decide) (by decide), o1_s, bI_0, e6]
  cases h0 : inB a0 0 5 with
  | false =>
    rw [if_pos rfl, show houseP μ.2.1 n a0 a1 a2 a3 = (-1000000001, μ.2.1) from by rw [houseP, h0]; rfl]
    exact ⟨_, σ, μ, rfl, rfl, h⟩
  | true =>
    rw [if_neg (by decide)]
    cases h1 : mayB (nI 1) a1 with
    | false =>
      rw [if_pos rfl, show houseP μ.2.1 n a0 a1 a2 a3 = (-1000000001, μ.2.1) from by rw [houseP, h0, h1]; rfl]
      exact ⟨_, σ, μ, rfl, rfl, h⟩
    | true =>
      rw [if_neg (by decide)]
      cases h2 : mayB (nI 2) a2 with
      | false =>
        rw [if_pos rfl, show houseP μ.2.1 n a0 a1 a2 a3 = (-1000000001, μ.2.1) from by rw [houseP, h0, h1, h2]; rfl]
        exact ⟨_, σ, μ, rfl, rfl, h⟩
      | true =>
        rw [if_neg (by decide)]
        cases h3 : mayB (nI 3) a3 with
        | false =>
          rw [if_pos rfl, show houseP μ.2.1 n a0 a1 a2 a3 = (-1000000001, μ.2.1) from by rw [houseP, h0, h1, h2, h3]; rfl]
          exact ⟨_, σ, μ, rfl, rfl, h⟩
        | true =>
          rw [if_neg (by decide)]
          by_cases hn : n < 9
          · obtain ⟨τ, e1, S2, f1, f2⟩ := build_eq (ε := ε) (c := 16) (a0 := a0) (a1 := a1) (a2 := a2) (a3 := a3) (by decide) hn hS (bdH h0 h1 h2 h3)
            rw [if_pos (nI_lt hn (by decide)), e1, ob_s, S2.1.2.2.1, show houseP μ.2.1 n a0 a1 a2 a3 = (nI (n + 1) - nI 1, houseS μ.2.1 n a0 a1 a2 a3) from by rw [houseP, h0, h1, h2, h3, if_pos (by decide), if_neg (by omega)]]
            refine ⟨_, _, _, rfl, rfl, ?_⟩
            exact rel_now h (fun x a _ => f1 x (by omega)) (fun x _ _ => by rw [f2]) (h.2.2.2.2.2.2.same f2) ⟨n + 1, nt, d, S2, hd, by show houseS μ.2.1 n a0 a1 a2 a3 2 = nI d; rw [hsO (by decide) (by omega)]; exact hd2⟩
          · rw [if_neg (fun q => hn ((nI_ltI (by omega) (by decide)).mp q)), show houseP μ.2.1 n a0 a1 a2 a3 = (-1000000003, μ.2.1) from by rw [houseP, h0, h1, h2, h3, if_pos (by decide), if_pos (by omega)]]
            exact ⟨_, σ, μ, rfl, rfl, h⟩
