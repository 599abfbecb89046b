/-! ===== check ===== -/
def dueR (s : Nat → Int32) (nt n j : Nat) : Int32 := if j % 2 = 0 then nI (cntS (itS s nt n (j / 2 + 1)) n) else smS (itS s nt n (j / 2 + 1)) 4 n
theorem rem2 {i : Nat} (hi : i < 2 ^ 31) : (nI i - nI i / nI 2 * nI 2 = 0) = (i % 2 = 0) := by
  rw [pk_rem hi (by decide) (by decide), nI_z (by omega)]
theorem due7_L {v s0 : Nat → Int32} {r : Nat → Nat → Int32} {nt n d m : Nat} {w : Int32} (hk : stOK s0 nt n) (hd : s0 2 = nI d) (hd9 : d ≤ 9999) (hm : m ≤ 30) (k121 : Int32 → Int32 → Mg → Option (Int32 × Mg)) : ∀ (f j : Nat) (r1 : Nat → Nat → Int32), j ≤ min m (9999 - d) → min m (9999 - d) + 1 ≤ j + f → (∀ i, i ≠ 32 → r1 i = r i) → (∀ i, i < 2 * j → r1 32 i = dueR s0 nt n i) → ∃ r2, fn_X7_check_L64 (nI m) k121 f w (nI (2 * j)) (nI j) (v, itS s0 nt n j, r1) = k121 w (nI (2 * min m (9999 - d))) (v, itS s0 nt n (min m (9999 - d)), r2) ∧ (∀ i, i ≠ 32 → r2 i = r i) ∧ ∀ i, i < 2 * min m (9999 - d) → r2 32 i = dueR s0 nt n i := by
  have hn9 := hk.2.2.2.2
  intro f
  induction f with
  | zero => intro j r1 h1 h2; omega
  | succ f ih =>
    intro j r1 h1 h2 ha hb
    have e2 : itS s0 nt n j 2 = nI (d + j) := itS_2 hn9 hd j
    have hkj : stOK (itS s0 nt n j) nt n := stOK_it hk j
    have hkj1 : stOK (dayS (itS s0 nt n j) nt n) nt n := stOK_it hk (j + 1)
    simp only [fn_X7_check_L64]
    by_cases hj : j = min m (9999 - d)
    · refine ⟨r1, ?_, ha, by rw [← hj]; exact hb⟩
      rw [← hj]
      by_cases q : m ≤ j
      · rw [if_pos (nI_le q (by omega))]
      · rw [if_neg (nI_ge (by omega) (by omega)), if_pos (by decide), if_pos (show nI 9999 ≤ itS s0 nt n j (nI 2).toNatClampNeg from by show nI 9999 ≤ itS s0 nt n j 2; rw [e2]; exact nI_le (by omega) (by omega))]
    · rw [if_neg (nI_ge (by omega) (by omega)), if_pos (by decide), if_neg (show ¬ nI 9999 ≤ itS s0 nt n j (nI 2).toNatClampNeg from by show ¬ nI 9999 ≤ itS s0 nt n j 2; rw [e2]; exact nI_ge (by omega) (by omega)), m_on (μ := (v, itS s0 nt n j, r1)) hkj, ob_s, m_all (μ := (v, dayS (itS s0 nt n j) nt n, r1)) hkj1, ob_s, many7 (μ := (v, dayS (itS s0 nt n j) nt n, r1)) hkj1, o1_s, nI_clamp (by omega), if_pos (g_in (show 2 * j < 60 by omega) (by decide))]
      dsimp only
      rw [m_sum (μ := (v, dayS (itS s0 nt n j) nt n, mU r1 32 (upd (r1 32) (2 * j) (nI (cntS (dayS (itS s0 nt n j) nt n) n))))) hkj1 (by decide), ob_s, nI_add, nI_add, nI_add, nI_clamp (by omega), if_pos (g_in (show 2 * j + 1 < 60 by omega) (by decide))]
      dsimp only
      refine ih (j + 1) _ (by omega) (by omega) (fun i hi => ?_) (fun i hi => ?_)
      · rw [mU_n _ _ hi, mU_n _ _ hi]; exact ha i hi
      · rw [mU_s, mU_s]
        by_cases w1 : i = 2 * j + 1
        · rw [w1, pk_us, dueR, if_neg (by omega), show (2 * j + 1) / 2 + 1 = j + 1 by omega]; rfl
        · rw [pk_un w1]
          by_cases w0 : i = 2 * j
          · rw [w0, pk_us, dueR, if_pos (by omega), show 2 * j / 2 + 1 = j + 1 by omega]; rfl
          · rw [pk_un w0]; exact hb i (by omega)
/-- what waits is taken away -/
theorem rel_w0 {ε : Ev} {σ : Sg} {μ : Mg} (h : Rel ε σ μ) : Rel ε (pI σ 0 7 (nI 0)) (upd μ.1 31 (nI 0), μ.2.1, μ.2.2) :=
  rel_st h (fun x a b => pI_nc (by omega)) (fun x a b => pI_nc (by omega)) (pI_n (Or.inr (by decide))) rfl (pk_un (by decide)) rfl (h.2.2.1.sm (by rw [pI_nc (by decide)]) (pI_nc (by decide)) (pk_un (by decide)) rfl) (h.2.2.2.1.sm (fun x a b => pI_nc (by omega)) (fun j a b => rfl)) (h.2.2.2.2.1.sm (fun x a b => pI_nc (by omega)) (fun j a b => rfl)) ⟨0, by decide, pI_e _ _ _ _, (show upd μ.1 31 (nI 0) 31 = nI 0 from pk_us), fun j hj => by omega⟩
theorem check_ok {ε : Ev} {σ : Sg} {μ : Mg} (h : Rel ε σ μ) (z : Int32) : RStp ε (fn_X6_check ε z σ) (fn_X7_check z μ) := by
  obtain ⟨u, u1, u2, u3, u4⟩ := h.2.2.2.2.2.1
  have h' := rel_w0 h
  obtain ⟨i1, i2⟩ := h'.2.1
  simp only [fn_X6_check, fn_X6_check_L21, fn_X7_check, bI_0]
  by_cases h1 : z < nI 1
  · rw [if_pos h1, if_pos (show inB z 1 30 = false from inB_1 h1)]; exact ⟨_, _, _, rfl, rfl, h'⟩
  rw [if_neg h1]
  by_cases h2 : z ≤ nI 30
  · have ty : inB z 1 30 = true := inB_3 h1 h2
    obtain ⟨m, m1, m2, rfl⟩ := inB_t (lo := 1) (hi := 30) (by decide) (by decide) ty
    rw [if_pos h2, if_neg (show ¬ (inB (nI m) 1 30 = false) from by rw [ty]; decide), show (upd μ.1 31 (nI 0)) 3 = (pI σ 0 7 (nI 0)).1 0 8 from i1.symm]
    rcases i2 with i2 | ⟨i2, n, nt, d, hS, hd, hd2⟩
    · have e : (pI σ 0 7 (nI 0)).1 0 8 = nI 0 := i1.trans i2
      rw [e, if_pos (by decide), if_pos (by decide)]; exact ⟨_, _, _, rfl, rfl, h'⟩
    · have e : (pI σ 0 7 (nI 0)).1 0 8 = nI 1 := i1.trans i2
      have hn9 := hS.1.1
      have hS : StO ε (pI σ 0 7 (nI 0)) 32 (μ.2.2 1) nt n := hS
      have hd2 : μ.2.2 1 2 = nI d := hd2
      have e10 : (pI σ 0 7 (nI 0)).1 32 10 = nI d := hS.1.2.2.2.2.2.1.trans hd2
      obtain ⟨τ, eb, fb, gb, tb⟩ := be_eq (ε := ε) (c := 48) (c1 := 32) (by decide) (by decide) (by decide) hS
      have hR : Rel ε τ (upd μ.1 31 (nI 0), μ.2.1, μ.2.2) := rel_th h' (fun x a b => fb.1 x (by omega) b) (fun x a b => fb.2 x a b) (h'.2.2.2.2.2.2.sub tb)
      rw [e, if_neg (by decide), if_neg (by decide), fn_X6_thinkOf, eb, ob_s, ob_s, if_pos (by decide), u2, u3, e10, pk_sub (by omega)]
      have em : mnI (nI m) (nI (9999 - d)) = nI (min m (9999 - d)) := by
        unfold mnI
        by_cases q : 9999 - d < m
        · rw [if_pos (nI_lt q (by omega)), Nat.min_eq_right (by omega)]
        · rw [if_neg (nI_nlt (by omega) (by omega)), Nat.min_eq_left (by omega)]
      rw [em, pk_mul, sa02, ob_s, sa10, ob_s]
      have s0k : StO ε τ 48 (cpN 2869 (μ.2.2 1) μ.2.1) nt n := gb.lo (fun j hj => cpN_in hj)
      have r1e : mU μ.2.2 2 (cpN 2869 μ.2.1 (μ.2.2 2)) 1 = μ.2.2 1 := mU_n _ _ (by decide)
      rw [r1e]
      obtain ⟨r2, e2, f1, f2⟩ := due7_L (v := upd μ.1 31 (nI 0)) (s0 := cpN 2869 (μ.2.2 1) μ.2.1) (r := mU μ.2.2 2 (cpN 2869 μ.2.1 (μ.2.2 2))) (nt := nt) (n := n) (d := d) (m := m) (w := nI u) s0k.ok (by rw [cpN_in (by decide)]; exact hd2) hd (by omega) (fn_X7_check_L121 (nI m)) 4000 0 _ (by omega) (by omega) (fun _ _ => rfl) (fun i hi => by omega)
      have r22 : r2 2 = cpN 2869 μ.2.1 (μ.2.2 2) := by rw [f1 2 (by decide), mU_s]
      have bk : cpN 2869 (r2 2) (itS (cpN 2869 (μ.2.2 1) μ.2.1) nt n (min m (9999 - d))) = μ.2.1 := by
        funext j
        by_cases q : j < 2869
        · rw [cpN_in q, r22, cpN_in q]
        · rw [cpN_out (by omega), itS_hi _ nt n hn9 _ j (by omega), cpN_out (by omega)]
      have w30 : ∀ j, j < u → σ.1 3 j = r2 30 j := fun j hj => by rw [f1 30 (by decide), mU_n _ _ (by decide)]; exact u4 j hj
      have hR2 : Rel ε τ (upd μ.1 31 (nI 0), μ.2.1, r2) := rel_r hR (fun j a b c d => by rw [f1 j d, mU_n _ _ a])
      have L : ∀ (f i : Nat) (τ' : Sg), i ≤ 2 * min m (9999 - d) → i ≤ u → 2 * min m (9999 - d) + 1 ≤ i + f → Rel ε τ' (upd μ.1 31 (nI 0), μ.2.1, r2) → τ'.1 3 = σ.1 3 → StO ε τ' 48 (itS (cpN 2869 (μ.2.2 1) μ.2.1) nt n ((i + 1) / 2)) nt n → RStp ε (fn_X6_check_L64 ε (nI m) (fn_X6_check_L140 ε (nI m)) f (nI u) (nI (2 * min m (9999 - d))) (nI i) τ') (fn_X7_check_L136 (nI m) (fn_X7_check_L171 (nI m)) f (nI u) (nI (2 * min m (9999 - d))) (nI i) (upd μ.1 31 (nI 0), μ.2.1, r2)) := by
        intro f
        induction f with
        | zero => intro i τ' h1 h2 h3; omega
        | succ f ih =>
          intro i τ' h1 h2 h3 hR3 h33 hSt
          simp only [fn_X6_check_L64, fn_X7_check_L136, fn_X6_check_L140, fn_X6_check_L152, fn_X7_check_L171, fn_X7_check_L187, fn_X7_check_L191, fn_X6_check_L85, fn_X6_check_L109, fn_X6_check_L129, rem2 (show i < 2 ^ 31 by omega), nI_add]
          by_cases hi : i = 2 * min m (9999 - d)
          · rw [← hi, if_pos (show nI i ≤ nI i from nI_le (Nat.le_refl i) (by omega)), if_pos (show nI i ≤ nI i from nI_le (Nat.le_refl i) (by omega)), ite_self]
            by_cases q : u = i
            · subst q
              rw [if_pos (show nI u ≤ nI u from nI_le (Nat.le_refl u) (by omega)), if_pos rfl, if_pos rfl]; exact ⟨_, τ', _, rfl, rfl, hR3⟩
            · rw [if_neg (nI_ge (show i < u by omega) (by omega)), if_neg (show ¬ nI i = nI u from fun e => q (nI_j (by omega) (by omega) e).symm)]; exact ⟨_, τ', _, rfl, rfl, hR3⟩
          · rw [if_neg (show ¬ nI (2 * min m (9999 - d)) ≤ nI i from nI_ge (by omega) (by omega)), if_neg (show ¬ nI (2 * min m (9999 - d)) ≤ nI i from nI_ge (by omega) (by omega))]
            have fin : ∀ τ1 : Sg, Rel ε τ1 (upd μ.1 31 (nI 0), μ.2.1, r2) → τ1.1 3 = σ.1 3 → StO ε τ1 48 (itS (cpN 2869 (μ.2.2 1) μ.2.1) nt n ((i + 1 + 1) / 2)) nt n → RStp ε (if nI u ≤ nI i then some (nI (1 + i), τ1) else if ¬ (nI i < 0 ∨ 60 ≤ (nI i).toNatClampNeg) then (if τ1.1 3 (nI i).toNatClampNeg = dueR (cpN 2869 (μ.2.2 1) μ.2.1) nt n i then fn_X6_check_L64 ε (nI m) (fn_X6_check_L140 ε (nI m)) f (nI u) (nI (2 * min m (9999 - d))) (nI (i + 1)) τ1 else some (nI (1 + i), τ1)) else none) (if nI u ≤ nI i then (if nI i = nI u then (if nI i = nI (2 * min m (9999 - d)) then some (nI 0, (upd μ.1 31 (nI 0), μ.2.1, r2)) else some (nI (1 + i), (upd μ.1 31 (nI 0), μ.2.1, r2))) else some (nI (1 + i), (upd μ.1 31 (nI 0), μ.2.1, r2))) else (if ¬ (nI i < 0 ∨ 60 ≤ (nI i).toNatClampNeg) then (if r2 30 (nI i).toNatClampNeg = r2 32 (nI i).toNatClampNeg then fn_X7_check_L136 (nI m) (fn_X7_check_L171 (nI m)) f (nI u) (nI (2 * min m (9999 - d))) (nI (i + 1)) (upd μ.1 31 (nI 0), μ.2.1, r2) else (if nI i = nI u then (if nI i = nI (2 * min m (9999 - d)) then some (nI 0, (upd μ.1 31 (nI 0), μ.2.1, r2)) else some (nI (1 + i), (upd μ.1 31 (nI 0), μ.2.1, r2))) else some (nI (1 + i), (upd μ.1 31 (nI 0), μ.2.1, r2)))) else none)) := by
              intro τ1 hR1 h31 hS1
              by_cases q : u ≤ i
              · have qe : i = u := by omega
                rw [if_pos (show nI u ≤ nI i from nI_le q (by omega)), if_pos (show nI u ≤ nI i from nI_le q (by omega)), if_neg (show ¬ nI i = nI (2 * min m (9999 - d)) from fun e => hi (nI_j (by omega) (by omega) e)), ite_self]
                exact ⟨_, τ1, _, rfl, rfl, hR1⟩
              · have nu : ¬ nI i = nI u := fun e => by have := nI_j (by omega) (by omega) e; omega
                rw [if_neg (show ¬ nI u ≤ nI i from nI_ge (by omega) (by omega)), if_neg (show ¬ nI u ≤ nI i from nI_ge (by omega) (by omega)), nI_clamp (show i < 2 ^ 31 by omega), if_pos (g_in (show i < 60 by omega) (by decide)), if_pos (g_in (show i < 60 by omega) (by decide)), h31, w30 i (by omega), f2 i (by omega), if_neg nu]
                by_cases e : r2 30 i = dueR (cpN 2869 (μ.2.2 1) μ.2.1) nt n i
                · rw [if_pos e, if_pos e]
                  exact ih (i + 1) τ1 (by omega) (by omega) (by omega) hR1 h31 hS1
                · rw [if_neg e, if_neg e]; exact ⟨_, τ1, _, rfl, rfl, hR1⟩
            by_cases ev : i % 2 = 0
            · obtain ⟨τ1, g1, g2, g3⟩ := goOn_eq (ε := ε) (c := 48) (m := 1) (by decide) (by decide) hSt
              have ei : (i + 1) / 2 = i / 2 := by omega
              have g3 : StO ε τ1 48 (itS (cpN 2869 (μ.2.2 1) μ.2.1) nt n (i / 2 + 1)) nt n := by rw [ei] at g3; exact g3
              have dv : dueR (cpN 2869 (μ.2.2 1) μ.2.1) nt n i = nI (cntS (itS (cpN 2869 (μ.2.2 1) μ.2.1) nt n (i / 2 + 1)) n) := by rw [dueR, if_pos ev]
              have F := fin τ1 (rel_fr48 hR3 g2) (by rw [g2.1 3 (by omega) (by omega)]; exact h33) (by rw [show (i + 1 + 1) / 2 = i / 2 + 1 by omega]; exact g3)
              rw [if_pos ev, g1, ob_s, if_pos ev, many_eq g3.1, ob_s, ← dv]
              exact F
            · have g3 : StO ε τ' 48 (itS (cpN 2869 (μ.2.2 1) μ.2.1) nt n (i / 2 + 1)) nt n := by rw [show i / 2 + 1 = (i + 1) / 2 by omega]; exact hSt
              have dv : dueR (cpN 2869 (μ.2.2 1) μ.2.1) nt n i = smS (itS (cpN 2869 (μ.2.2 1) μ.2.1) nt n (i / 2 + 1)) 4 n := by rw [dueR, if_neg ev]
              have F := fin τ' hR3 h33 (by rw [show (i + 1 + 1) / 2 = i / 2 + 1 by omega]; exact g3)
              rw [if_neg ev, if_neg ev, cracks_eq g3.1, ob_s, ← dv]
              exact F
      have K := L 4000 0 τ (by omega) (by omega) (by omega) hR2 (by rw [fb.1 3 (by omega) (by omega), pI_nc (by decide)]) s0k
      have E : fn_X7_check_L64 (nI m) (fn_X7_check_L121 (nI m)) 4000 (nI u) (nI 0) (nI 0) (upd μ.1 31 (nI 0), cpN 2869 (μ.2.2 1) μ.2.1, mU μ.2.2 2 (cpN 2869 μ.2.1 (μ.2.2 2))) = fn_X7_check_L136 (nI m) (fn_X7_check_L171 (nI m)) 4000 (nI u) (nI (2 * min m (9999 - d))) (nI 0) (upd μ.1 31 (nI 0), μ.2.1, r2) := by
        refine Eq.trans (show _ = _ from e2) ?_
        rw [fn_X7_check_L121, sa20, ob_s, bk]
      rw [E]
      exact K
  · rw [if_neg h2, if_pos (show inB z 1 30 = false from inB_2 h2)]; exact ⟨_, _, _, rfl, rfl, h'⟩
