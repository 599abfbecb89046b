section TN
variable {ε : Ev} {tp : Nat} {B : Nat → Nat} {b key : Nat} {σ0 : Sg} {v0 s0 : Nat → Int32} {r : Nat → Nat → Int32} {dp tn : Nat}
theorem one_sim {F : Sg → Option (Int32 × Sg)} {G : Mg → Option (Int32 × Mg)} (hs : Sim tp B b key σ0 v0 s0 r F G dp tn) (LF : Nat → Int32 → Int32 → Sg → Option (Int32 × Sg)) (LG : Nat → Mg → Option (Int32 × Mg)) (c1 : Nat) (wz : Int32) (hwz : wz = -(nI c1)) (h1 : c1 ∈ sgns ∧ ¬ nI c1 = nI 33) (l1 : c1 < 256) (p1 : 0 < c1)
    (eF : ∀ f v3 v4 σ, LF (f + 1) v3 v4 σ = if nI 96 ≤ v4 then (if v3 = 0 ∨ v3 = 1 then some (v3, σ) else none) else if v3 = 0 then (if v3 = 0 ∨ v3 = 1 then some (v3, σ) else none) else ob (fn_X1_passed ε (nI c1) (nI c1) σ) (fun y τ => if y = 0 then (if v3 = 0 ∨ v3 = 1 then some (v3, τ) else none) else ob (F τ) (fun y2 τ2 => ob (fn_X1_write ε wz τ2) (fun _ τ3 => LF f y2 (v4 + nI 1) τ3))))
    (eG : ∀ f (v s : Nat → Int32), LG (f + 1) (v, s, r) = ob (fn_X7_isSign (nI c1) (v, s, r)) (fun y τ => if y = 0 then some (nI 1, τ) else ob (fn_X7_nextToken τ) (fun _ τ3 => ob (G τ3) (fun y τ4 => if y = 0 then some (nI 0, τ4) else ob (fn_X7_step (nI 2) (nI c1) τ4) (fun _ τ5 => LG f τ5))))) :
    Sim tp B b key σ0 v0 s0 r (fun σ => ob (F σ) (fun y τ => LF 4000 y (nI 0) τ)) (fun ν => ob (G ν) (fun y τ => if y = 0 then some (nI 0, τ) else LG 4000 τ)) dp tn := by
  subst hwz
  have Fz : ∀ f i σ, LF (f + 1) (nI 0) (nI i) σ = some (nI 0, σ) := fun f i σ => by
    rw [eF, if_pos (show nI 0 = 0 from by decide), if_pos (show nI 0 = 0 ∨ nI 0 = 1 from by decide), ite_self]
  intro σ v s st en L P h hF
  have hb := hF.bd
  show (∃ σ' v' s' st' en' L' P', ob (F σ) _ = _ ∧ ob (G (v, s, r)) _ = _ ∧ _) ∨ (∃ σ' v' s', ob (F σ) _ = _ ∧ ob (G (v, s, r)) _ = _ ∧ _)
  rcases hs σ v s st en L P h hF with ⟨σ1, v1, s1, st1, en1, L1, P1, e1, e2, G1, g1, g2⟩ | ⟨σ1, v1, s1, e1, e2, G1⟩
  · rw [e1, ob_s, e2, ob_s, if_neg (by decide)]
    have K := loop_gen (ε := ε) hs LF LG [c1] (fun c hc => by
      simp only [List.mem_cons, List.not_mem_nil, or_false] at hc
      subst hc
      exact h1) (fun f i σ v s st en L P h hi hF hn => by
        have n1 := hn c1 (by simp)
        refine ⟨?_, ?_⟩
        · rw [eF, if_neg (nI_ge hi (by decide)), if_neg (by decide), passed_n hF l1 l1 n1 n1, ob_s, if_pos (by decide), if_pos (by decide)]
        · rw [eG, sg7 ε hF l1, ob_s, n1, if_pos (show bI false = 0 from rfl)]) (fun f i σ v s st en L P h c σ' v' hi hF hc hsg x1 x2 => by
        have hc' : c = c1 := by simpa using hc
        subst hc'
        refine ⟨?_, ?_⟩
        · rw [eF, if_neg (nI_ge hi (by decide)), if_neg (by decide), passed_y hF l1 l1 p1 p1 (Or.inl rfl) hsg x1, ob_s, if_neg (nI_ne0 p1 (by omega)), nI_add]
        · rw [eG, sg7 ε hF l1, ob_s, hsg, if_neg (show ¬ bI true = 0 from by decide), x2, ob_s]) Fz st1 (by have := G1.bd; omega) 4000 0 σ1 v1 s1 st1 en1 L1 P1 (h + 1) (by omega) (by omega) (by omega) G1
    rcases K with ⟨σ4, v4, s4, st4, en4, L4, P4, x1, x2, x3, x4, x5⟩ | w
    · exact Or.inl ⟨σ4, v4, s4, st4, en4, L4, P4, x1, x2, x3, by omega, by omega⟩
    · exact Or.inr w
  · rw [e1, ob_s, e2, ob_s, if_pos (by decide)]
    exact Or.inr ⟨σ1, v1, s1, Fz _ 0 _, rfl, G1⟩
variable {p6 : Int32 → Int32 → Sg → Option (Int32 × Sg)} {p7 : Int32 → Mg → Option (Int32 × Mg)}
theorem term_sim (hp : Sim tp B b key σ0 v0 s0 r (p6 (nI dp) (nI tn)) (p7 (nI key)) dp tn) : Sim tp B b key σ0 v0 s0 r (fn_X1_isTerm ε p6 (nI dp) (nI tn)) (fn_X7_term p7 (nI key)) dp tn :=
  two_sim (ε := ε) hp (fn_X1_isTerm_L10 ε p6 (nI dp) (nI tn) (fn_X1_isTerm_L59 ε p6 (nI dp) (nI tn))) (fn_X7_term_L10 p7 (nI key) (fn_X7_term_L56 p7 (nI key))) 42 47 (by decide) (by decide) (by decide) (by decide) (by decide) (by decide) (fun _ _ _ _ => rfl) (fun _ _ _ => rfl)
theorem sum_sim (hp : Sim tp B b key σ0 v0 s0 r (p6 (nI dp) (nI tn)) (p7 (nI key)) dp tn) : Sim tp B b key σ0 v0 s0 r (fn_X1_isSum ε p6 (nI dp) (nI tn)) (fn_X7_sum p7 (nI key)) dp tn :=
  two_sim (ε := ε) (term_sim (ε := ε) hp) (fn_X1_isSum_L10 ε p6 (nI dp) (nI tn) (fn_X1_isSum_L59 ε p6 (nI dp) (nI tn))) (fn_X7_sum_L10 p7 (nI key) (fn_X7_sum_L56 p7 (nI key))) 43 45 (by decide) (by decide) (by decide) (by decide) (by decide) (by decide) (fun _ _ _ _ => rfl) (fun _ _ _ => rfl)
theorem test_sim (hp : Sim tp B b key σ0 v0 s0 r (p6 (nI dp) (nI tn)) (p7 (nI key)) dp tn) : Sim tp B b key σ0 v0 s0 r (fn_X1_isTest ε p6 (nI dp) (nI tn)) (fn_X7_test p7 (nI key)) dp tn := by
  have hs := sum_sim (ε := ε) hp
  intro σ v s st en L P h hF
  rw [fn_X1_isTest, fn_X7_test]
  rcases hs σ v s st en L P h hF with ⟨σ1, v1, s1, st1, en1, L1, P1, e1, e2, G1, g1, g2⟩ | ⟨σ1, v1, s1, e1, e2, G1⟩
  · rw [e1, ob_s, e2, ob_s, if_neg (by decide), if_neg (by decide), sg7 ε G1 (c := 60) (by decide), ob_s]
    obtain ⟨b1, b2, b3, b4, b5, b6, b7⟩ := hF.bd
    obtain ⟨d1, d2, d3, d4, d5, d6, d7⟩ := G1.bd
    have go : ∀ c, (c ∈ sgns ∧ ¬ nI c = nI 33 ∧ c < 256 ∧ 0 < c) → sgB σ1 B st1 c = true → ∀ σ2 v2 st2 en2, FS tp B b key σ0 v0 s0 r σ2 v2 s1 st2 en2 L1 P1 P1 (h + 1) dp tn st1 → st1 + 1 ≤ st2 → fn_X7_nextToken (v1, s1, r) = some ((), (v2, s1, r)) → (∃ σ' v' s' st' en' L' P', fn_X1_isTest_L33 ε p6 (nI dp) (nI tn) (nI c) σ2 = some (nI 1, σ') ∧ fn_X7_test_L37 p7 (nI key) (v1, s1, r) = some (nI 1, (v', s', r)) ∧ FS tp B b key σ0 v0 s0 r σ' v' s' st' en' L' P' P' (h + 1) dp tn st' ∧ L' + st ≤ L + st' ∧ st ≤ st') ∨ (∃ σ' v' s', fn_X1_isTest_L33 ε p6 (nI dp) (nI tn) (nI c) σ2 = some (nI 0, σ') ∧ fn_X7_test_L37 p7 (nI key) (v1, s1, r) = some (nI 0, (v', s', r)) ∧ FW b σ0 v0 s0 σ' v' s') := by
      intro c hc hsg σ2 v2 st2 en2 G2 g3 x2
      have lt := G1.lt hsg
      obtain ⟨q1, q2, q3, q4, q5, q6, q7⟩ := G2.bd
      rw [fn_X1_isTest_L33, if_neg (nI_ne0 hc.2.2.2 (by omega)), fn_X7_test_L37, x2, ob_s]
      rcases hs σ2 v2 s1 st2 en2 L1 P1 (h + 1) (G2.mono (by omega) (by omega)) with ⟨σ3, v3, s3, st3, en3, L3, P3, e3, e4, G3, g4, g5⟩ | ⟨σ3, v3, s3, e3, e4, G3⟩
      · obtain ⟨w1, w2, w3, w4, w5, w6, w7⟩ := G3.bd
        have hP := G3.hP
        obtain ⟨σ4, s4, v4, e5, e6, G4, -, -⟩ := wr_ok (ε := ε) G3 (by omega) (sgn_st hc.1) (h' := h + 1) (Or.inr (Or.inl ⟨rfl, hc.2.1, by omega, by omega⟩)) (Q' := P3) (by omega) (by omega)
        rw [e3, ob_s, e5, ob_s, if_pos (by decide), e4, ob_s, if_neg (by decide)]
        dsimp only
        rw [lt, e6, ob_s, fn_X7_test_L62]
        exact Or.inl ⟨σ4, v4, s4, st3, en3, L3 + 1, P3, rfl, rfl, G4, by omega, by omega⟩
      · obtain ⟨σ4, e5, G4⟩ := G3.wr (ε := ε) (-(nI c))
        rw [e3, ob_s, e5, ob_s, if_pos (by decide), e4, ob_s, if_pos (by decide)]
        exact Or.inr ⟨σ4, v3, s3, rfl, rfl, G4⟩
    by_cases t60 : sgB σ1 B st1 60 = true
    · obtain ⟨σ2, v2, st2, en2, x1, x2, G2, g3⟩ := adv_sg (ε := ε) G1 t60
      rw [passed_y G1 (c1 := 60) (c2 := 62) (by decide) (by decide) (by decide) (by decide) (Or.inl rfl) t60 x1, ob_s, if_neg (by decide), t60, if_neg (show ¬ bI true = 0 from by decide)]
      exact go 60 (by decide) t60 σ2 v2 st2 en2 G2 g3 x2
    · have f60 : sgB σ1 B st1 60 = false := by cases q : sgB σ1 B st1 60; rfl; exact absurd q t60
      rw [f60, if_pos (show bI false = 0 from rfl), sg7 ε G1 (c := 61) (by decide), ob_s]
      by_cases t62 : sgB σ1 B st1 62 = true
      · have f61 : sgB σ1 B st1 61 = false := sgB_ne t62 (by decide)
        obtain ⟨σ2, v2, st2, en2, x1, x2, G2, g3⟩ := adv_sg (ε := ε) G1 t62
        rw [passed_y G1 (c1 := 60) (c2 := 62) (by decide) (by decide) (by decide) (by decide) (Or.inr rfl) t62 x1, ob_s, if_neg (by decide), f61, if_pos (show bI false = 0 from rfl), sg7 ε G1 (c := 62) (by decide), ob_s, t62, if_neg (show ¬ bI true = 0 from by decide)]
        exact go 62 (by decide) t62 σ2 v2 st2 en2 G2 g3 x2
      · have f62 : sgB σ1 B st1 62 = false := by cases q : sgB σ1 B st1 62; rfl; exact absurd q t62
        rw [passed_n G1 (c1 := 60) (c2 := 62) (by decide) (by decide) f60 f62, ob_s, if_pos (show nI 0 = 0 from by decide)]
        by_cases t61 : sgB σ1 B st1 61 = true
        · obtain ⟨σ2, v2, st2, en2, x1, x2, G2, g3⟩ := adv_sg (ε := ε) G1 t61
          rw [passed_y G1 (c1 := 61) (c2 := 61) (by decide) (by decide) (by decide) (by decide) (Or.inl rfl) t61 x1, ob_s, t61, if_neg (show ¬ bI true = 0 from by decide)]
          exact go 61 (by decide) t61 σ2 v2 st2 en2 G2 g3 x2
        · have f61 : sgB σ1 B st1 61 = false := by cases q : sgB σ1 B st1 61; rfl; exact absurd q t61
          rw [passed_n G1 (c1 := 61) (c2 := 61) (by decide) (by decide) f61 f61, ob_s, f61, if_pos (show bI false = 0 from rfl), sg7 ε G1 (c := 62) (by decide), ob_s, f62, if_pos (show bI false = 0 from rfl), fn_X1_isTest_L33, if_pos (by decide), fn_X7_test_L62]
          exact Or.inl ⟨σ1, v1, s1, st1, en1, L1, P1, rfl, rfl, G1, g1, g2⟩
  · rw [e1, ob_s, e2, ob_s, if_pos (by decide), if_pos (by decide)]
    exact Or.inr ⟨σ1, v1, s1, rfl, rfl, G1⟩
theorem and_sim (hp : Sim tp B b key σ0 v0 s0 r (p6 (nI dp) (nI tn)) (p7 (nI key)) dp tn) : Sim tp B b key σ0 v0 s0 r (fn_X1_isAnd ε p6 (nI dp) (nI tn)) (fn_X7_both p7 (nI key)) dp tn :=
  one_sim (ε := ε) (test_sim (ε := ε) hp) (fn_X1_isAnd_L10 ε p6 (nI dp) (nI tn) (fn_X1_isAnd_L51 ε p6 (nI dp) (nI tn))) (fn_X7_both_L10 p7 (nI key) (fn_X7_both_L43 p7 (nI key))) 38 (-38) (by decide) (by decide) (by decide) (by decide) (fun _ _ _ _ => rfl) (fun _ _ _ => rfl)
theorem or_sim (hp : Sim tp B b key σ0 v0 s0 r (p6 (nI dp) (nI tn)) (p7 (nI key)) dp tn) : Sim tp B b key σ0 v0 s0 r (fn_X1_isOr ε p6 (nI dp) (nI tn)) (fn_X7_either p7 (nI key)) dp tn :=
  one_sim (ε := ε) (and_sim (ε := ε) hp) (fn_X1_isOr_L10 ε p6 (nI dp) (nI tn) (fn_X1_isOr_L51 ε p6 (nI dp) (nI tn))) (fn_X7_either_L10 p7 (nI key) (fn_X7_either_L43 p7 (nI key))) 124 (-124) (by decide) (by decide) (by decide) (by decide) (fun _ _ _ _ => rfl) (fun _ _ _ => rfl)
end TN
