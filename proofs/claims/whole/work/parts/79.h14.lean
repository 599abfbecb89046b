theorem StO_4 {ε : Ev} {σ : Sg} {c n nt : Nat} {s : Nat → Int32} {z : Int32} (hc : c < 900) (hz : -20 ≤ z.toInt ∧ z.toInt ≤ 20) (hS : StO ε σ c s nt n) : StO ε (pI σ c 8 z) c (upd s 4 z) nt n := by
  obtain ⟨⟨a1, a2, a3, a4, a5, a6, a7, a8⟩, hT, hB, hs⟩ := hS
  have hk : ∀ (x k : Nat), x ≠ c → (pI σ c 8 z).1 x k = σ.1 x k := fun x k hx => by rw [pI_nc hx]
  refine ⟨⟨a1, by rw [pk_un (by decide)]; exact a2, by rw [pI_n (Or.inr (by decide))]; exact a3, by rw [pI_e, pk_us], by rw [pI_n (Or.inr (by decide)), pk_un (by decide)]; exact a5, by rw [pI_n (Or.inr (by decide)), pk_un (by decide)]; exact a6, by rw [pI_n (Or.inr (by decide)), pk_un (by decide)]; exact a7, fun k hk9 => ?_⟩, ?_, fun k hk9 => ?_, by rw [pk_us]; exact hz⟩
  · obtain ⟨b1, b2, b3⟩ := a8 k hk9
    exact ⟨fun w hw => by rw [hk _ _ (by omega), pk_un (by omega)]; exact b1 w hw, by rw [hk _ _ (by omega), pk_un (by omega)]; exact b2, by rw [pk_un (by omega)]; exact b3⟩
  · exact hT.fr rfl (by rw [pI_n (Or.inr (by decide))]) (fun y h7 _ => by rw [pI_nc (by omega)]) (pk_un (by decide)) (fun j hj => pk_un (by omega))
  · obtain ⟨kd, w, wl, cr, pr, b0, b0', b1, b1', b1'', b3, b3', b4, b4', b5, b5', b2, b2'⟩ := hB k hk9
    exact ⟨kd, w, wl, cr, pr, by rw [pk_un (by omega)]; exact b0, b0', by rw [pk_un (by omega)]; exact b1, b1', b1'', by rw [pk_un (by omega)]; exact b3, b3', by rw [pk_un (by omega)]; exact b4, b4', by rw [pk_un (by omega)]; exact b5, b5', by rw [pk_un (by omega)]; exact b2, by rw [pk_un (by omega)]; exact b2'⟩
/-- whether all keep standing, tried on a row s1 like s0 but for its first cells -/
theorem m_keeps {v s0 s1 : Nat → Int32} {r : Nat → Nat → Int32} {nt n m : Nat} (hk : stOK s1 nt n) (hm : m ≤ 1000) (h14 : ∀ j, j < 69 → r 14 j = s0 j) (hh : ∀ j, 69 ≤ j → s1 j = s0 j) : fn_X7_keeps (nI m) (v, s1, r) = some (bI (keepB s1 nt n m), (v, s0, r)) := by
  have hn9 := hk.2.2.2.2
  have hk2 : stOK (itS s1 nt n m) nt n := stOK_it hk m
  have back : cpN 69 (r 14) (itS s1 nt n m) = s0 := cp_back h14 (fun j hj => by rw [itS_hi _ nt n hn9 m j hj]; exact hh j hj)
  rw [fn_X7_keeps, m_all (μ := (v, s1, r)) hk, ob_s, m_many (μ := (v, s1, r)) hk hm, ob_s, m_all (μ := (v, itS s1 nt n m, r)) hk2, ob_s]
  have fin : ∀ b : Int32, (b = 0 ∨ b = 1) → fn_X7_keeps_L23 (nI m) b (v, itS s1 nt n m, r) = some (b, (v, s0, r)) := fun b hb => by
    rw [fn_X7_keeps_L23, m_back, ob_s, if_pos hb]
    show some (b, (v, cpN 69 (r 14) (itS s1 nt n m), r)) = _
    rw [back]
  by_cases hq : maskI (sd (itS s1 nt n m)) n = maskI (sd s1) n
  · rw [if_pos hq, show keepB s1 nt n m = true from decide_eq_true hq]
    exact fin (nI 1) (by decide)
  · rw [if_neg hq, show keepB s1 nt n m = false from decide_eq_false hq]
    exact fin (nI 0) (by decide)
theorem one_less : ∀ i, i < 21 → nI i + (-1) = nI i - nI 1 := by decide +kernel
theorem snows_ok {ε : Ev} {σ : Sg} {μ : Mg} (h : Rel ε σ μ) (z : Int32) : RStp ε (fn_X6_snows ε z σ) (fn_X7_snows z μ) := by
  simp only [fn_X6_snows, fn_X6_snows_L11, fn_X7_snows, bI_0]
  by_cases h1 : z < nI 1
  · rw [if_pos h1, if_pos (show inB z 1 60 = false from inB_1 h1)]; exact ⟨_, σ, μ, rfl, rfl, h⟩
  rw [if_neg h1]
  by_cases h2 : z ≤ nI 60
  · have ty : inB z 1 60 = true := inB_3 h1 h2
    obtain ⟨m, m1, m2, rfl⟩ := inB_t (lo := 1) (hi := 60) (by decide) (by decide) ty
    rw [if_pos h2, if_neg (show ¬ (inB (nI m) 1 60 = false) from by rw [ty]; decide), m_by, ob_s]
    have L : ∀ (i f : Nat) (σ : Sg), i ≤ 21 → i + 1 ≤ f → Rel ε σ (μ.1, μ.2.1, mU μ.2.2 14 (cpN 69 μ.2.1 (μ.2.2 14))) → RStp ε (fn_X6_snows_L17 ε (nI m) (fn_X6_snows_L52 ε (nI m)) f (nI i - nI 1) σ) (fn_X7_snows_L22 (nI m) (fn_X7_snows_L49 (nI m)) f (nI i - nI 1) (μ.1, μ.2.1, mU μ.2.2 14 (cpN 69 μ.2.1 (μ.2.2 14)))) := by
      intro i
      induction i with
      | zero =>
        intro f σ _ hf hM
        obtain ⟨f, rfl⟩ : ∃ q, f = q + 1 := ⟨f - 1, by omega⟩
        simp only [fn_X6_snows_L17, fn_X7_snows_L22, fn_X6_snows_L52, fn_X7_snows_L49]
        rw [if_pos (by decide), if_pos (by decide)]
        exact ⟨_, σ, _, rfl, rfl, hM⟩
      | succ i ih =>
        intro f σ hi hf hM
        obtain ⟨f, rfl⟩ : ∃ q, f = q + 1 := ⟨f - 1, by omega⟩
        obtain ⟨n, nt, d, hS, hd, hd2⟩ := hM.1
        have hn9 := hS.1.1
        rw [pk_sub (show 1 ≤ i + 1 by omega), Nat.add_sub_cancel]
        simp only [fn_X6_snows_L17, fn_X7_snows_L22]
        obtain ⟨τ, e1, hR, hS1⟩ := think_eq hM hS
        have S1 := StO_4 (c := 48) (z := nI i) (by decide) (by rw [nI_toInt (by omega)]; omega) hS1
        obtain ⟨y, τ2, s2, e2, f2, S2, hF⟩ := ff_eq (ε := ε) (c := 48) (m := m) (by decide) (by omega) S1
        have hr1 : Rel ε (pI τ 48 8 (nI i)) (μ.1, μ.2.1, mU μ.2.2 14 (cpN 69 μ.2.1 (μ.2.2 14))) := rel_th hR (fun x a _ => by rw [pI_nc (by omega)]) (fun x _ _ => rfl) hR.2.2.2.2.2.2
        have hr2 := rel_fr48 hr1 f2
        have ek := m_keeps (v := μ.1) (s0 := μ.2.1) (s1 := upd μ.2.1 4 (nI i)) (r := mU μ.2.2 14 (cpN 69 μ.2.1 (μ.2.2 14))) (m := m) S1.ok (by omega) (laid_14 _ _) (fun j hj => pk_un (by omega))
        rw [if_neg (nI_pos (by omega)), if_neg (nI_pos (by omega)), if_pos (show ¬ (nI 4 < 0 ∨ 3069 ≤ (nI 4).toNatClampNeg) from by decide), e1, ob_s, if_pos (by decide), e2, ob_s, show (nI 4).toNatClampNeg = 4 from by decide, ek, ob_s]
        rcases hF with ⟨j, j1, j2, rfl, h4, h5, -⟩ | ⟨rfl, h6⟩
        · have kb : keepB (upd μ.2.1 4 (nI i)) nt n m = false := decide_eq_false (fun q => Nat.ne_of_lt h4 ((ff_keep hn9).mpr q j j2))
          rw [kb, if_neg (by rw [nI_z (by omega)]; omega), if_pos (show bI false = 0 from rfl), one_less i (by omega)]
          exact ih f τ2 (by omega) (by omega) hr2
        · have kb : keepB (upd μ.2.1 4 (nI i)) nt n m = true := decide_eq_true ((ff_keep hn9).mp h6)
          rw [kb, if_pos (by decide), if_neg (show ¬ bI true = 0 from by decide)]
          exact ⟨_, τ2, _, rfl, rfl, hr2⟩
    exact L 21 4000 σ (by omega) (by omega) (rel_r h (laid_r _ _))
  · rw [if_neg h2, if_pos (show inB z 1 60 = false from inB_2 h2)]; exact ⟨_, σ, μ, rfl, rfl, h⟩
