/-! ===== propped ===== -/
def crB (s s2 : Nat → Int32) (k : Nat) : Bool := !decide (s2 (6 + 7 * k + 4) ≤ s (6 + 7 * k + 4))
theorem cs_L {ε : Ev} {τ : Sg} {s s2 : Nat → Int32} {nt n : Nat} (h : StO ε τ 16 s nt n) (h2 : StO ε τ 48 s2 nt n) (k53 : Int32 → Sg → Option (Int32 × Sg)) : ∀ (f j : Nat), j ≤ n → n + 1 ≤ j + f → fn_X4_crackedSince_L4 ε 48 16 k53 f (maskI (crB s s2) j) (nI j) τ = k53 (maskI (crB s s2) n) τ := by
  have hn9 := h.1.1
  intro f
  induction f with
  | zero => intro j h1 h2; omega
  | succ f ih =>
    intro j h1 h3
    simp only [fn_X4_crackedSince_L4, fn_X4_crackedSince_L47, show τ.1 48 6 = nI n from h2.1.2.2.1, show τ.1 16 6 = nI n from h.1.2.2.1]
    by_cases hj : j = n
    · subst hj; rw [if_pos (nI_le (Nat.le_refl j) (by omega))]
    · have K := ih (j + 1) (by omega) (by omega)
      rw [maskI] at K
      have e1 : τ.1 (48 + 7 + j) 4 = s2 (6 + 7 * j + 4) := (h2.1.2.2.2.2.2.2.2 j (by omega)).1 4 (by decide)
      have e2 : τ.1 (16 + 7 + j) 4 = s (6 + 7 * j + 4) := (h.1.2.2.2.2.2.2.2 j (by omega)).1 4 (by decide)
      rw [if_neg (nI_ge (by omega) (by omega)), if_neg (nI_ge (by omega) (by omega)), nI_clamp (show j < 2 ^ 31 by omega), if_pos (g_in (show j < 9 by omega) (by decide)), e1, e2, nI_add]
      by_cases q : s2 (6 + 7 * j + 4) ≤ s (6 + 7 * j + 4)
      · rw [show crB s s2 j = false from by rw [crB, decide_eq_true q]; rfl, if_neg (by decide), or_0] at K
        rw [if_pos q]; exact K
      · rw [show crB s s2 j = true from by rw [crB, decide_eq_false q]; rfl, if_pos rfl] at K
        rw [if_neg q]; exact K
theorem ff_kb {s s2 : Nat → Int32} {nt n m : Nat} {z : Int32} (hn : n ≤ 9) (hm : m ≤ 1000) (h : FfP s nt n m z s2) : (z = 0 ∧ keepB s nt n m = true) ∨ (¬ z = 0 ∧ keepB s nt n m = false) := by
  rcases h with ⟨j, j1, j2, rfl, h4, h5, -⟩ | ⟨rfl, h6⟩
  · exact Or.inr ⟨by rw [nI_z (by omega)]; omega, decide_eq_false (fun q => Nat.ne_of_lt h4 ((ff_keep hn).mpr q j j2))⟩
  · exact Or.inl ⟨by decide, decide_eq_true ((ff_keep hn).mp h6)⟩
theorem propped_ok {ε : Ev} {σ : Sg} {μ : Mg} (h : Rel ε σ μ) (z : Int32) : RStp ε (fn_X6_propped ε z σ) (fn_X7_propped z μ) := by
  simp only [fn_X6_propped, fn_X6_propped_L11, fn_X7_propped, bI_0]
  by_cases h1 : z < nI 1
  · rw [if_pos h1, if_pos (show inB z 1 40 = false from inB_1 h1)]; exact ⟨_, σ, μ, rfl, rfl, h⟩
  rw [if_neg h1]
  by_cases h2 : z ≤ nI 40
  · have tz : inB z 1 40 = true := inB_3 h1 h2
    obtain ⟨m, m1, m2, rfl⟩ := inB_t (lo := 1) (hi := 40) (by decide) (by decide) tz
    obtain ⟨n, nt, d, hS, hd, hd2⟩ := h.1
    have hn9 := hS.1.1
    have hok := hS.ok
    rw [if_pos h2, if_neg (show ¬ (inB (nI m) 1 40 = false) from by rw [tz]; decide), m_by, ob_s]
    have hM : Rel ε σ (μ.1, μ.2.1, mU μ.2.2 14 (cpN 69 μ.2.1 (μ.2.2 14))) := rel_r h (laid_r _ _)
    obtain ⟨τ, e1, hR, hS1⟩ := think_eq hM hS
    obtain ⟨y, τ2, s2, e2, f2, S2, hF⟩ := ff_eq (ε := ε) (c := 48) (m := m) (by decide) (by omega) hS1
    have hr2 := rel_fr48 hR f2
    have ek := m_keeps (v := μ.1) (s0 := μ.2.1) (s1 := μ.2.1) (r := mU μ.2.2 14 (cpN 69 μ.2.1 (μ.2.2 14))) (m := m) hok (by omega) (laid_14 _ _) (fun j hj => rfl)
    rw [e1, ob_s, if_pos (by decide), e2, ob_s, ek, ob_s]
    rcases ff_kb hn9 (by omega) hF with ⟨y0, kb⟩ | ⟨y0, kb⟩
    · rw [if_pos y0, show keepB μ.2.1 nt n m = true from kb, if_neg (show ¬ bI true = 0 from by decide)]; exact ⟨_, τ2, _, rfl, rfl, hr2⟩
    · rw [if_neg y0, show keepB μ.2.1 nt n m = false from kb, if_pos (show bI false = 0 from rfl)]
      obtain ⟨i, i1, i2, -, hc, hpre, rfl⟩ : ∃ i, 1 ≤ i ∧ i ≤ m ∧ y = nI i ∧ cntS (itS μ.2.1 nt n i) n < cntS μ.2.1 n ∧ (∀ j, j < i → cntS (itS μ.2.1 nt n j) n = cntS μ.2.1 n) ∧ s2 = itS μ.2.1 nt n i := by
        rcases hF with hF | ⟨rfl, -⟩
        · exact hF
        · exact absurd (by decide) y0
      obtain ⟨n', nt', d', hS', -, -⟩ := hr2.1
      have en : n' = n := hS'.nOf.1.symm.trans hS.nOf.1
      have et : nt' = nt := hS'.nOf.2.symm.trans hS.nOf.2
      subst en
      subst et
      have hS' : StO ε τ2 16 μ.2.1 nt' n' := hS'
      have ecs : fn_X4_crackedSince ε 48 16 τ2 = some (maskI (crB μ.2.1 (itS μ.2.1 nt' n' i)) n', τ2) := cs_L hS' S2 (fn_X4_crackedSince_L53 ε 48 16) 4000 0 (by omega) (by omega)
      rw [ecs, ob_s]
      have inner : ∀ (more : Nat) (k104 : Int32 → Int32 → Sg → Option (Int32 × Sg)) (k97 : Int32 → Mg → Option (Int32 × Mg)), 1 ≤ more → more ≤ 9 → (∀ σ, Rel ε σ (μ.1, μ.2.1, mU μ.2.2 14 (cpN 69 μ.2.1 (μ.2.2 14))) → RStp ε (k104 (maskI (crB μ.2.1 (itS μ.2.1 nt' n' i)) n') (nI more) σ) (k97 (nI more) (μ.1, μ.2.1, mU μ.2.2 14 (cpN 69 μ.2.1 (μ.2.2 14))))) → ∀ (f k : Nat) (σ : Sg), k ≤ n' → n' + 1 ≤ k + f → Rel ε σ (μ.1, μ.2.1, mU μ.2.2 14 (cpN 69 μ.2.1 (μ.2.2 14))) → RStp ε (fn_X6_propped_L57 ε (nI m) k104 f (maskI (crB μ.2.1 (itS μ.2.1 nt' n' i)) n') (nI more) (nI k) σ) (fn_X7_propped_L39 (nI m) k97 f (nI more) (nI k) (μ.1, μ.2.1, mU μ.2.2 14 (cpN 69 μ.2.1 (μ.2.2 14)))) := by
        intro more k104 k97 mo1 mo9 hcont f
        induction f with
        | zero => intro k σ h1 h2; omega
        | succ f ih =>
          intro k σ hk hf hM
          obtain ⟨n2, nt2, d2, hSk, -, -⟩ := hM.1
          have en : n2 = n' := hSk.nOf.1.symm.trans hS.nOf.1
          have et : nt2 = nt' := hSk.nOf.2.symm.trans hS.nOf.2
          subst en
          subst et
          have hSk : StO ε σ 16 μ.2.1 nt2 n2 := hSk
          simp only [fn_X6_propped_L57, fn_X7_propped_L39, fn_X6_propped_L98, fn_X7_propped_L91, show σ.1 16 6 = nI n2 from hSk.1.2.2.1, show μ.2.1 (nI 0).toNatClampNeg = nI n2 from hS.1.2.1, if_pos (show ¬ (nI 0 < 0 ∨ 3069 ≤ (nI 0).toNatClampNeg) from by decide), nI_add]
          by_cases hkn : k = n2
          · subst hkn
            rw [if_pos (show nI k ≤ nI k from nI_le (Nat.le_refl k) (by omega)), if_pos (show nI k ≤ nI k from nI_le (Nat.le_refl k) (by omega))]
            exact hcont σ hM
          · have hkl : k < n2 := by omega
            rw [if_neg (show ¬ nI n2 ≤ nI k from nI_ge hkl (by omega)), if_neg (show ¬ nI n2 ≤ nI k from nI_ge hkl (by omega)), mask_bit _ hn9 hkl, m_at (by omega) (by decide), ob_s, m_at (by omega) (by decide), ob_s]
            obtain ⟨kd, w, wl, cr, pr, b0, b0', b1, b1', b1'', b3, b3', b4, b4', b5, b5', b2, b2'⟩ := hS.2.2.1 k hkl
            have b5 : (μ.1, μ.2.1, mU μ.2.2 14 (cpN 69 μ.2.1 (μ.2.2 14))).2.1 (6 + 7 * k + 5) = nI pr := b5
            rw [b5, nI_add]
            have cont := fun (σ : Sg) (hM : Rel ε σ (μ.1, μ.2.1, mU μ.2.2 14 (cpN 69 μ.2.1 (μ.2.2 14)))) => ih (k + 1) σ (by omega) (by omega) hM
            have kept : ∀ q, q ≤ 9 → fn_X7_keeps (nI m) (μ.1, upd μ.2.1 (6 + 7 * k + 5) (nI q), mU μ.2.2 14 (cpN 69 μ.2.1 (μ.2.2 14))) = some (bI (keepB (upd μ.2.1 (6 + 7 * k + 5) (nI q)) nt2 n2 m), (μ.1, μ.2.1, mU μ.2.2 14 (cpN 69 μ.2.1 (μ.2.2 14)))) := fun q hq => m_keeps (v := μ.1) (s0 := μ.2.1) (s1 := upd μ.2.1 (6 + 7 * k + 5) (nI q)) (r := mU μ.2.2 14 (cpN 69 μ.2.1 (μ.2.2 14))) (m := m) (stOK_cong (fun j hj => pk_un (by omega)) (pk_un (by omega)) (pk_un (by omega)) hok) (by omega) (laid_14 _ _) (fun j hj => pk_un (by omega))
            cases hcb : crB μ.2.1 (itS μ.2.1 nt2 n2 i) k with
            | false =>
              rw [if_neg (show ¬ bI false = nI 1 from by decide)]
              by_cases p9 : pr + more ≤ 9
              · have hle : itS μ.2.1 nt2 n2 i (6 + 7 * k + 4) ≤ μ.2.1 (6 + 7 * k + 4) := by
                  refine Decidable.byContradiction (fun q => ?_)
                  rw [crB, decide_eq_false q] at hcb
                  cases hcb
                have no := prop_no (q := pr + more) hn9 hkl hS.2.2.1 hS.2.2.2 i2 hc hle i1 ⟨pr, b5, by omega⟩ p9
                rw [if_neg (show ¬ nI 9 < nI (pr + more) from nI_nlt p9 (by decide)), m_sets (by omega) (by decide), ob_s]
                dsimp only
                rw [kept _ p9, no, ob_s, if_pos (show bI false = 0 from rfl)]
                exact cont σ hM
              · rw [if_pos (show nI 9 < nI (pr + more) from nI_lt (by omega) (by omega))]
                exact cont σ hM
            | true =>
              rw [if_pos (show bI true = nI 1 from by decide)]
              have e5 : σ.1 (23 + k) 5 = nI pr := ((hSk.1.2.2.2.2.2.2.2 k hkl).1 5 (by decide)).trans b5
              simp only [fn_X6_isEnough, fn_X6_isEnough_L62, nI_clamp (show k < 2 ^ 31 by omega), if_pos (g_in (show k < 9 by omega) (show 9 < 2 ^ 31 by decide)), if_pos (show ¬ (nI 5 < 0 ∨ 6 ≤ (nI 5).toNatClampNeg) from by decide), show tabMOST (nI 5).toNatClampNeg = nI 9 from rfl, e5, nI_add, if_pos (show nI 1 = 0 ∨ nI 1 = 1 from by decide), if_pos (show nI 0 = 0 ∨ nI 0 = 1 from by decide)]
              by_cases p9 : pr + more ≤ 9
              · obtain ⟨τ, g1, hR, hT1⟩ := think_eq hM hSk
                have t5 : τ.1 (48 + 7 + k) 5 = nI pr := ((hT1.1.2.2.2.2.2.2.2 k hkl).1 5 (by decide)).trans b5
                have T2 := setO (c := 48) (w := 5) (x := nI (pr + more)) (by decide) hkl (by decide) hT1 (bdS (hT1.2.2.1 k hkl) (by decide) (by decide) (show inB (nI (pr + more)) 0 9 = true from inB_3 (nI_pos (by omega)) (show nI (pr + more) ≤ nI 9 from nI_le p9 (by decide))))
                obtain ⟨y, τ3, s3, g3, f3, S3, hF3⟩ := ff_eq (ε := ε) (c := 48) (m := m) (by decide) (by omega) T2
                have hr2' : Rel ε (pI τ (48 + 7 + k) 5 (nI (pr + more))) (μ.1, μ.2.1, mU μ.2.2 14 (cpN 69 μ.2.1 (μ.2.2 14))) := rel_th hR (fun x a _ => by rw [pI_nc (by omega)]) (fun x _ _ => rfl) hR.2.2.2.2.2.2
                have hr3 : Rel ε τ3 (μ.1, μ.2.1, mU μ.2.2 14 (cpN 69 μ.2.1 (μ.2.2 14))) := rel_fr48 hr2' f3
                rw [if_pos (show nI (pr + more) ≤ nI 9 from nI_le p9 (by decide)), g1, ob_s, if_pos (by decide), t5, nI_add, g3, ob_s, if_neg (show ¬ nI 9 < nI (pr + more) from nI_nlt p9 (by decide)), m_sets (by omega) (by decide), ob_s]
                dsimp only
                rw [kept _ p9, ob_s]
                rcases ff_kb hn9 (by omega) hF3 with ⟨y0, kb⟩ | ⟨y0, kb⟩
                · rw [if_pos y0, ob_s, if_neg (show ¬ nI 1 = 0 from by decide), show keepB (upd μ.2.1 (6 + 7 * k + 5) (nI (pr + more))) nt2 n2 m = true from kb, if_neg (show ¬ bI true = 0 from by decide)]
                  exact ⟨_, τ3, _, rfl, rfl, hr3⟩
                · rw [if_neg y0, ob_s, if_pos (show nI 0 = 0 from by decide), show keepB (upd μ.2.1 (6 + 7 * k + 5) (nI (pr + more))) nt2 n2 m = false from kb, if_pos (show bI false = 0 from rfl)]
                  exact cont τ3 hr3
              · rw [if_neg (show ¬ nI (pr + more) ≤ nI 9 from nI_ge (by omega) (by omega)), ob_s, if_pos (show nI 0 = 0 from by decide), if_pos (show nI 9 < nI (pr + more) from nI_lt (by omega) (by omega))]
                exact cont σ hM
      have outer : ∀ (f more : Nat) (σ : Sg), 1 ≤ more → more ≤ 10 → 11 ≤ more + f → Rel ε σ (μ.1, μ.2.1, mU μ.2.2 14 (cpN 69 μ.2.1 (μ.2.2 14))) → RStp ε (fn_X6_propped_L45 ε (nI m) (fn_X6_propped_L110 ε (nI m)) f (maskI (crB μ.2.1 (itS μ.2.1 nt' n' i)) n') (nI more) σ) (fn_X7_propped_L31 (nI m) (fn_X7_propped_L103 (nI m)) f (nI more) (μ.1, μ.2.1, mU μ.2.2 14 (cpN 69 μ.2.1 (μ.2.2 14)))) := by
        intro f
        induction f with
        | zero => intro more σ h1 h2 h3; omega
        | succ f ih =>
          intro more σ h1 h2 h3 hM
          simp only [fn_X6_propped_L45, fn_X7_propped_L31, fn_X6_propped_L110, fn_X7_propped_L103, if_pos (show ¬ (nI 5 < 0 ∨ 6 ≤ (nI 5).toNatClampNeg) from by decide), show tabMOST (nI 5).toNatClampNeg = nI 9 from rfl]
          by_cases hm : more = 10
          · subst hm
            rw [if_pos (by decide), if_pos (by decide)]
            exact ⟨_, σ, _, rfl, rfl, hM⟩
          · rw [if_neg (nI_nlt (by omega) (by omega)), if_neg (nI_nlt (by omega) (by omega))]
            refine inner more _ _ h1 (by omega) (fun σ hM => ?_) 4000 0 σ (by omega) (by omega) hM
            rw [fn_X6_propped_L104, fn_X7_propped_L97, nI_add]
            exact ih (more + 1) σ (by omega) (by omega) (by omega) hM
      exact outer 4000 1 τ2 (by decide) (by decide) (by decide) hr2
  · rw [if_neg h2, if_pos (show inB z 1 40 = false from inB_2 h2)]; exact ⟨_, σ, μ, rfl, rfl, h⟩
