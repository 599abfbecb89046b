theorem inB_1 {z lo hi : Int32} (h : z < lo) : inB z lo hi = false := by rw [inB, decide_eq_false (Int32.not_le.mpr h)]; rfl
theorem inB_2 {z lo hi : Int32} (h : ¬ z ≤ hi) : inB z lo hi = false := by rw [inB, decide_eq_false h, Bool.and_false]
theorem inB_3 {z lo hi : Int32} (h1 : ¬ z < lo) (h2 : z ≤ hi) : inB z lo hi = true := by rw [inB, decide_eq_true (Int32.not_lt.mp h1), decide_eq_true h2]; rfl
theorem snow_ok {ε : Ev} {σ : Sg} {μ : Mg} (h : Rel ε σ μ) (z : Int32) : RStp ε (fn_X6_snow ε z σ) (fn_X7_snow z μ) := by
  obtain ⟨n, nt, d, hS, hd, hd2⟩ := h.1
  have e8 : σ.1 16 8 = μ.2.1 4 := hS.1.2.2.2.1
  simp only [fn_X6_snow, fn_X6_snow_L12, fn_X7_snow, cif_pos trivial]
  by_cases h1 : z < -20
  · rw [if_pos h1, show snowP μ.2.1 z = (-1000000001, μ.2.1) from by rw [snowP, inB_1 h1]; rfl]
    exact ⟨_, σ, μ, rfl, rfl, h⟩
  · rw [if_neg h1]
    by_cases h2 : z ≤ nI 20
    · rw [if_pos h2, show snowP μ.2.1 z = (μ.2.1 4, upd μ.2.1 4 z) from by rw [snowP, inB_3 h1 (show z ≤ 20 from h2)]; rfl]
      refine ⟨_, pI σ 16 8 z, (μ.1, upd μ.2.1 4 z, μ.2.2), by rw [e8], rfl, ?_⟩
      refine rel_now h (fun x a _ => pI_nc (by omega)) (fun x _ _ => rfl) h.2.2.2.2.2.2 ⟨n, nt, d, ?_, hd, by rw [pk_un (by decide)]; exact hd2⟩
      obtain ⟨⟨a1, a2, a3, a4, a5, a6, a7, a8⟩, hT, hB, hs⟩ := hS
      have hk : ∀ (x k : Nat), x ≠ 16 → (pI σ 16 8 z).1 x k = σ.1 x k := fun x k hx => by rw [pI_nc hx]
      refine ⟨⟨a1, by rw [pk_un (by decide)]; exact a2, by rw [pI_n (Or.inr (by decide))]; exact a3, by rw [pI_e, pk_us], by rw [pI_n (Or.inr (by decide)), pk_un (by decide)]; exact a5, by rw [pI_n (Or.inr (by decide)), pk_un (by decide)]; exact a6, by rw [pI_n (Or.inr (by decide)), pk_un (by decide)]; exact a7, fun k hk9 => ?_⟩, ?_, fun k hk9 => ?_, ?_⟩
      · obtain ⟨b1, b2, b3⟩ := a8 k hk9
        exact ⟨fun w hw => by rw [hk _ _ (by omega), pk_un (by omega)]; exact b1 w hw, by rw [hk _ _ (by omega), pk_un (by omega)]; exact b2, by rw [pk_un (by omega)]; exact b3⟩
      · exact hT.fr rfl (by rw [pI_n (Or.inr (by decide))]) (fun y h7 _ => by rw [pI_nc (by omega)]) (pk_un (by decide)) (fun j hj => pk_un (by omega))
      · obtain ⟨kd, w, wl, cr, pr, b0, b0', b1, b1', b1'', b3, b3', b4, b4', b5, b5', b2, b2'⟩ := hB k hk9
        exact ⟨kd, w, wl, cr, pr, by rw [pk_un (by omega)]; exact b0, b0', by rw [pk_un (by omega)]; exact b1, b1', b1'', by rw [pk_un (by omega)]; exact b3, b3', by rw [pk_un (by omega)]; exact b4, b4', by rw [pk_un (by omega)]; exact b5, b5', by rw [pk_un (by omega)]; exact b2, by rw [pk_un (by omega)]; exact b2'⟩
      · rw [pk_us]
        have q1 := Int32.le_iff_toInt_le.mp (Int32.not_lt.mp h1)
        have q2 := Int32.le_iff_toInt_le.mp h2
        rw [nI_toInt (by decide)] at q2
        rw [show (-20 : Int32).toInt = -20 from by decide] at q1
        exact ⟨q1, q2⟩
    · rw [if_neg h2, show snowP μ.2.1 z = (-1000000001, μ.2.1) from by rw [snowP, inB_2 (show ¬ z ≤ 20 from h2)]; rfl]
      exact ⟨_, σ, μ, rfl, rfl, h⟩
theorem RT.sub {ε : Ev} {σ τ : Sg} (h : RT ε σ) (hs : Tsub σ τ) : RT ε τ := fun c k x hx => by obtain ⟨c', k', e⟩ := hs c k x hx; exact h c' k' x e
theorem RT.same {ε : Ev} {σ τ : Sg} (h : RT ε σ) (hs : τ.2 = σ.2) : RT ε τ := fun c k x hx => h c k x (by rw [← hs]; exact hx)
theorem think_eq {ε : Ev} {σ : Sg} {μ : Mg} {n nt : Nat} (h : Rel ε σ μ) (hS : StO ε σ 16 μ.2.1 nt n) : ∃ τ, fn_X6_thinkOf ε 16 σ = some (48, τ) ∧ Rel ε τ μ ∧ StO ε τ 48 μ.2.1 nt n := by
  obtain ⟨τ, e, f, g, t⟩ := be_eq (ε := ε) (c := 48) (c1 := 16) (by decide) (by decide) (by decide) hS
  refine ⟨τ, by rw [fn_X6_thinkOf, e, ob_s], ?_, g⟩
  exact rel_th h (fun x a b => f.1 x (by omega) b) (fun x a b => f.2 x a b) (h.2.2.2.2.2.2.sub t)
theorem rel_fr48 {ε : Ev} {σ σ' : Sg} {μ : Mg} (h : Rel ε σ μ) (hf : Fr 48 σ σ') : Rel ε σ' μ := rel_th h (fun x a b => hf.1 x (by omega) b) (fun x _ _ => by rw [hf.2]) (h.2.2.2.2.2.2.same hf.2)
