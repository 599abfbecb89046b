/-! ===== reading a text: terms, sums, tests ===== -/
section TM
variable {ε : Ev} {tp : Nat} {B : Nat → Nat} {b key : Nat} {σ0 : Sg} {v0 s0 : Nat → Int32} {r : Nat → Nat → Int32} {dp tn : Nat}
theorem sgB_ne {σ : Sg} {st c c' : Nat} (h : sgB σ B st c = true) (hc : c' ≠ c) : sgB σ B st c' = false := by
  obtain ⟨w1, w2⟩ := sgB_t h
  rw [sgB, decide_eq_false (show ¬ B st = c' from fun q => hc (q.symm.trans w2)), Bool.and_false]
theorem passed_y {σ : Sg} {v s : Nat → Int32} {st en L P Q h K c1 c2 c : Nat} (hF : FS tp B b key σ0 v0 s0 r σ v s st en L P Q h dp tn K) (h1 : c1 < 256) (h2 : c2 < 256) (p1 : 0 < c1) (p2 : 0 < c2) (hc : c = c1 ∨ c = c2) (hs : sgB σ B st c = true) {σ' : Sg} (e : fn_X1_goNext ε σ = some ((), σ')) : fn_X1_passed ε (nI c1) (nI c2) σ = some (nI c, σ') := by
  simp only [fn_X1_passed, (at_eq (ε := ε) hF h1).1, (at_eq (ε := ε) hF h2).1, ob_s, bI_0, fn_X1_passed_L25, fn_X1_passed_L34, e]
  by_cases q : c = c1
  · subst q
    rw [hs, if_neg tf_n, if_neg (nI_ne0 p1 (by omega))]
  · have q2 : c = c2 := by rcases hc with w | w; exact absurd w q; exact w
    subst q2
    rw [sgB_ne hs (fun w => q w.symm), if_pos rfl, hs, if_neg tf_n, if_neg (nI_ne0 p2 (by omega))]
theorem passed_n {σ : Sg} {v s : Nat → Int32} {st en L P Q h K c1 c2 : Nat} (hF : FS tp B b key σ0 v0 s0 r σ v s st en L P Q h dp tn K) (h1 : c1 < 256) (h2 : c2 < 256) (q1 : sgB σ B st c1 = false) (q2 : sgB σ B st c2 = false) : fn_X1_passed ε (nI c1) (nI c2) σ = some (nI 0, σ) := by
  simp only [fn_X1_passed, (at_eq (ε := ε) hF h1).1, (at_eq (ε := ε) hF h2).1, ob_s, bI_0, fn_X1_passed_L25, fn_X1_passed_L34, q1, q2, if_true]
  rw [if_pos (by decide)]
theorem sgn_st {c : Nat} (hc : c ∈ sgns) : stR key (-(nI c)) (nI 2) (nI c) := Or.inr (Or.inr ⟨rfl, c, hc, rfl, rfl⟩)
theorem loop_gen {F : Sg → Option (Int32 × Sg)} {G : Mg → Option (Int32 × Mg)} (hs : Sim tp B b key σ0 v0 s0 r F G dp tn) (LF : Nat → Int32 → Int32 → Sg → Option (Int32 × Sg)) (LG : Nat → Mg → Option (Int32 × Mg)) (cs : List Nat) (hcs : ∀ c ∈ cs, c ∈ sgns ∧ ¬ nI c = nI 33)
    (F0 : ∀ f i σ v s st en L P h, i < 96 → FS tp B b key σ0 v0 s0 r σ v s st en L P P h dp tn st → (∀ c ∈ cs, sgB σ B st c = false) → LF (f + 1) (nI 1) (nI i) σ = some (nI 1, σ) ∧ LG (f + 1) (v, s, r) = some (nI 1, (v, s, r)))
    (F1 : ∀ f i σ v s st en L P h c σ' v', i < 96 → FS tp B b key σ0 v0 s0 r σ v s st en L P P h dp tn st → c ∈ cs → sgB σ B st c = true → fn_X1_goNext ε σ = some ((), σ') → fn_X7_nextToken (v, s, r) = some ((), (v', s, r)) → LF (f + 1) (nI 1) (nI i) σ = ob (F σ') (fun y2 τ2 => ob (fn_X1_write ε (-(nI c)) τ2) (fun _ τ3 => LF f y2 (nI (i + 1)) τ3)) ∧ LG (f + 1) (v, s, r) = ob (G (v', s, r)) (fun y τ => if y = 0 then some (nI 0, τ) else ob (fn_X7_step (nI 2) (nI c) τ) (fun _ τ => LG f τ)))
    (Fz : ∀ f i σ, LF (f + 1) (nI 0) (nI i) σ = some (nI 0, σ)) (st0 : Nat) (hst0 : 1 ≤ st0) : ∀ f i σ v s st en L P h, 98 ≤ i + f → i + st0 ≤ st → 1 ≤ h → FS tp B b key σ0 v0 s0 r σ v s st en L P P h dp tn st → (∃ σ' v' s' st' en' L' P', LF f (nI 1) (nI i) σ = some (nI 1, σ') ∧ LG f (v, s, r) = some (nI 1, (v', s', r)) ∧ FS tp B b key σ0 v0 s0 r σ' v' s' st' en' L' P' P' h dp tn st' ∧ L' + st ≤ L + st' ∧ st ≤ st') ∨ (∃ σ' v' s', LF f (nI 1) (nI i) σ = some (nI 0, σ') ∧ LG f (v, s, r) = some (nI 0, (v', s', r)) ∧ FW b σ0 v0 s0 σ' v' s') := by
  intro f
  induction f with
  | zero =>
    intro i σ v s st en L P h h1 h2 h3 hF
    have := hF.bd
    omega
  | succ f ih =>
    intro i σ v s st en L P h h1 h2 h3 hF
    obtain ⟨b1, b2, b3, b4, b5, b6, b7⟩ := hF.bd
    have hi : i < 96 := by omega
    by_cases hc : ∃ c ∈ cs, sgB σ B st c = true
    · obtain ⟨c, hc1, hc2⟩ := hc
      obtain ⟨σ1, v1, st1, en1, e1, e2, G1, g1⟩ := adv_sg (ε := ε) hF hc2
      obtain ⟨E1, E2⟩ := F1 f i σ v s st en L P h c σ1 v1 hi hF hc1 hc2 e1 e2
      obtain ⟨d1, d2, d3, d4, d5, d6, d7⟩ := G1.bd
      rw [E1, E2]
      rcases hs σ1 v1 s st1 en1 L P h (G1.mono (by omega) (by omega)) with ⟨σ2, v2, s2, st2, en2, L2, P2, e3, e4, G2, g2, g3⟩ | ⟨σ2, v2, s2, e3, e4, G2⟩
      · obtain ⟨q1, q2, q3, q4, q5, q6, q7⟩ := G2.bd
        have hP := G2.hP
        obtain ⟨σ3, s3, v3, e5, e6, G3, -, -⟩ := wr_ok (ε := ε) G2 (by omega) (sgn_st (hcs c hc1).1) (h' := h) (Or.inr (Or.inl ⟨rfl, (hcs c hc1).2, by omega, by omega⟩)) (Q' := P2) (by omega) (by omega)
        rw [e3, ob_s, e5, ob_s, e4, ob_s, if_neg (by decide), e6, ob_s]
        rcases ih (i + 1) σ3 v3 s3 st2 en2 (L2 + 1) P2 h (by omega) (by omega) h3 G3 with ⟨σ4, v4, s4, st4, en4, L4, P4, x1, x2, x3, x4, x5⟩ | w
        · exact Or.inl ⟨σ4, v4, s4, st4, en4, L4, P4, x1, x2, x3, by omega, by omega⟩
        · exact Or.inr w
      · obtain ⟨σ3, e5, G3⟩ := G2.wr (ε := ε) (-(nI c))
        obtain ⟨f, rfl⟩ : ∃ q, f = q + 1 := ⟨f - 1, by omega⟩
        rw [e3, ob_s, e5, ob_s, Fz, e4, ob_s, if_pos (by decide)]
        exact Or.inr ⟨σ3, v2, s2, rfl, rfl, G3⟩
    · have hn : ∀ c ∈ cs, sgB σ B st c = false := fun c h => by
        cases q : sgB σ B st c with
        | false => rfl
        | true => exact absurd ⟨c, h, q⟩ hc
      obtain ⟨E1, E2⟩ := F0 f i σ v s st en L P h hi hF hn
      exact Or.inl ⟨σ, v, s, st, en, L, P, E1, E2, hF, by omega, Nat.le_refl _⟩
theorem sg7 (e0 : Ev) {σ : Sg} {v s : Nat → Int32} {st en L P Q h K c : Nat} (hF : FS tp B b key σ0 v0 s0 r σ v s st en L P Q h dp tn K) (hc : c < 256) : fn_X7_isSign (nI c) (v, s, r) = some (bI (sgB σ B st c), (v, s, r)) := (at_eq (ε := e0) hF hc).2
theorem two_sim {F : Sg → Option (Int32 × Sg)} {G : Mg → Option (Int32 × Mg)} (hs : Sim tp B b key σ0 v0 s0 r F G dp tn) (LF : Nat → Int32 → Int32 → Sg → Option (Int32 × Sg)) (LG : Nat → Mg → Option (Int32 × Mg)) (c1 c2 : Nat) (h1 : c1 ∈ sgns ∧ ¬ nI c1 = nI 33) (h2 : c2 ∈ sgns ∧ ¬ nI c2 = nI 33) (l1 : c1 < 256) (l2 : c2 < 256) (p1 : 0 < c1) (p2 : 0 < c2)
    (eF : ∀ f v3 v4 σ, LF (f + 1) v3 v4 σ = if nI 96 ≤ v4 then (if v3 = 0 ∨ v3 = 1 then some (v3, σ) else none) else if v3 = 0 then (if v3 = 0 ∨ v3 = 1 then some (v3, σ) else none) else ob (fn_X1_passed ε (nI c1) (nI c2) σ) (fun y τ => if y = 0 then (if v3 = 0 ∨ v3 = 1 then some (v3, τ) else none) else ob (F τ) (fun y2 τ2 => ob (fn_X1_write ε (-y) τ2) (fun _ τ3 => LF f y2 (v4 + nI 1) τ3))))
    (eG : ∀ f (v s : Nat → Int32), LG (f + 1) (v, s, r) = ob (fn_X7_isSign (nI c1) (v, s, r)) (fun y τ => if y = 0 then ob (fn_X7_isSign (nI c2) τ) (fun y2 τ2 => if y2 = 0 then some (nI 1, τ2) else ob (fn_X7_nextToken τ2) (fun _ τ3 => ob (G τ3) (fun y τ4 => if y = 0 then some (nI 0, τ4) else ob (fn_X7_step (nI 2) (τ2.1 21) τ4) (fun _ τ5 => LG f τ5)))) else ob (fn_X7_nextToken τ) (fun _ τ3 => ob (G τ3) (fun y τ4 => if y = 0 then some (nI 0, τ4) else ob (fn_X7_step (nI 2) (τ.1 21) τ4) (fun _ τ5 => LG f τ5))))) :
    Sim tp B b key σ0 v0 s0 r (fun σ => ob (F σ) (fun y τ => LF 4000 y (nI 0) τ)) (fun ν => ob (G ν) (fun y τ => if y = 0 then some (nI 0, τ) else LG 4000 τ)) dp tn := by
  have Fz : ∀ f i σ, LF (f + 1) (nI 0) (nI i) σ = some (nI 0, σ) := fun f i σ => by
    rw [eF, if_pos (show nI 0 = 0 from by decide), if_pos (show nI 0 = 0 ∨ nI 0 = 1 from by decide), ite_self]
  intro σ v s st en L P h hF
  have hb := hF.bd
  show (∃ σ' v' s' st' en' L' P', ob (F σ) _ = _ ∧ ob (G (v, s, r)) _ = _ ∧ _) ∨ (∃ σ' v' s', ob (F σ) _ = _ ∧ ob (G (v, s, r)) _ = _ ∧ _)
  rcases hs σ v s st en L P h hF with ⟨σ1, v1, s1, st1, en1, L1, P1, e1, e2, G1, g1, g2⟩ | ⟨σ1, v1, s1, e1, e2, G1⟩
  · rw [e1, ob_s, e2, ob_s, if_neg (by decide)]
    have K := loop_gen (ε := ε) hs LF LG [c1, c2] (fun c hc => by
      simp only [List.mem_cons, List.not_mem_nil, or_false] at hc
      rcases hc with rfl | rfl
      · exact h1
      · exact h2) (fun f i σ v s st en L P h hi hF hn => by
        have n1 := hn c1 (by simp)
        have n2 := hn c2 (by simp)
        refine ⟨?_, ?_⟩
        · rw [eF, if_neg (nI_ge hi (by decide)), if_neg (by decide), passed_n hF l1 l2 n1 n2, ob_s, if_pos (by decide), if_pos (by decide)]
        · rw [eG, sg7 ε hF l1, ob_s, n1, if_pos (show bI false = 0 from rfl), sg7 ε hF l2, ob_s, n2, if_pos (show bI false = 0 from rfl)]) (fun f i σ v s st en L P h c σ' v' hi hF hc hsg x1 x2 => by
        have lt := hF.lt hsg
        have hc' : c = c1 ∨ c = c2 := by simpa using hc
        have pc : 0 < c := by rcases hc' with w | w <;> omega
        have lc : c < 256 := by rcases hc' with w | w <;> omega
        refine ⟨?_, ?_⟩
        · rw [eF, if_neg (nI_ge hi (by decide)), if_neg (by decide), passed_y hF l1 l2 p1 p2 hc' hsg x1, ob_s, if_neg (nI_ne0 pc (by omega)), nI_add]
        · rw [eG, sg7 ε hF l1, ob_s]
          by_cases q : c = c1
          · subst q
            rw [hsg, if_neg (show ¬ bI true = 0 from by decide), x2, ob_s]
            dsimp only
            rw [lt]
          · have q2 : c = c2 := by rcases hc' with w | w; exact absurd w q; exact w
            subst q2
            rw [sgB_ne hsg (fun w => q w.symm), if_pos (show bI false = 0 from rfl), sg7 ε hF l2, ob_s, hsg, if_neg (show ¬ bI true = 0 from by decide), x2, ob_s]
            dsimp only
            rw [lt]) Fz st1 (by have := G1.bd; omega) 4000 0 σ1 v1 s1 st1 en1 L1 P1 (h + 1) (by omega) (by omega) (by omega) G1
    rcases K with ⟨σ4, v4, s4, st4, en4, L4, P4, x1, x2, x3, x4, x5⟩ | w
    · exact Or.inl ⟨σ4, v4, s4, st4, en4, L4, P4, x1, x2, x3, by omega, by omega⟩
    · exact Or.inr w
  · rw [e1, ob_s, e2, ob_s, if_pos (by decide)]
    exact Or.inr ⟨σ1, v1, s1, Fz _ 0 _, rfl, G1⟩
end TM
