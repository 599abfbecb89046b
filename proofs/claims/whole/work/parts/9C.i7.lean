/-! ===== reading a text: a piece ===== -/
section PS
variable {ε : Ev} {tp : Nat} {B : Nat → Nat} {b key : Nat} {σ0 : Sg} {v0 s0 : Nat → Int32} {r : Nat → Nat → Int32}
theorem piece_sim : ∀ d dp tn, dp ≤ 8 → tn ≤ 8 → 17 ≤ d + dp + tn → Sim tp B b key σ0 v0 s0 r (fn_X1_isPiece ε d (nI dp) (nI tn)) (fn_X7_part0 d (nI key)) dp tn := by
  intro d
  induction d with
  | zero => intro dp tn h1 h2 h3; omega
  | succ d ih =>
    intro dp tn hdp htn hd σ v s st en L P h hF
    obtain ⟨b1, b2, b3, b4, b5, b6, b7⟩ := hF.bd
    have hk2 : key ≤ 2 := hF.2.2.2.1.2.1
    have hk5 : σ.1 64 5 = nI key := hF.2.2.2.1.1
    have d22 : v 22 = nI dp := hF.2.2.2.1.2.2.1
    have t23 : v 23 = nI tn := hF.2.2.2.1.2.2.2.1
    have hFW := hF.w
    show (∃ σ' v' s' st' en' L' P', fn_X1_isPieceB ε (fn_X1_isPiece ε d) (nI dp) (nI tn) σ = some (nI 1, σ') ∧ fn_X7_part0B (fn_X7_part0 d) (nI key) (v, s, r) = some (nI 1, (v', s', r)) ∧ FS tp B b key σ0 v0 s0 r σ' v' s' st' en' L' P' P' (h + 1) dp tn st' ∧ L' + st ≤ L + st' ∧ st ≤ st') ∨ (∃ σ' v' s', fn_X1_isPieceB ε (fn_X1_isPiece ε d) (nI dp) (nI tn) σ = some (nI 0, σ') ∧ fn_X7_part0B (fn_X7_part0 d) (nI key) (v, s, r) = some (nI 0, (v', s', r)) ∧ FW b σ0 v0 s0 σ' v' s')
    have paren : (∃ σ' v' s' st' en' L' P', fn_X1_isPieceB_L62 ε (fn_X1_isPiece ε d) (nI dp) (nI tn) σ = some (nI 1, σ') ∧ fn_X7_part0B_L145 (fn_X7_part0 d) (nI key) (v, s, r) = some (nI 1, (v', s', r)) ∧ FS tp B b key σ0 v0 s0 r σ' v' s' st' en' L' P' P' (h + 1) dp tn st' ∧ L' + st ≤ L + st' ∧ st ≤ st') ∨ (∃ σ' v' s', fn_X1_isPieceB_L62 ε (fn_X1_isPiece ε d) (nI dp) (nI tn) σ = some (nI 0, σ') ∧ fn_X7_part0B_L145 (fn_X7_part0 d) (nI key) (v, s, r) = some (nI 0, (v', s', r)) ∧ FW b σ0 v0 s0 σ' v' s') := by
      rw [fn_X1_isPieceB_L62, fn_X7_part0B_L145, (at_eq (ε := ε) hF (c := 40) (by decide)).1, (at_eq (ε := ε) hF (c := 40) (by decide)).2, ob_s, ob_s]
      cases t40 : sgB σ B st 40 with
      | false =>
        rw [if_pos (show bI false = 0 from rfl), if_pos (show bI false = 0 from rfl), fn_X1_isPieceB_L77, fn_X7_part0B_L163]
        exact Or.inr ⟨σ, v, s, rfl, rfl, hFW⟩
      | true =>
        rw [if_neg (show ¬ bI true = 0 from by decide), if_neg (show ¬ bI true = 0 from by decide)]
        dsimp only
        by_cases q8 : dp = 8
        · subst q8
          rw [if_neg (show ¬ nI 8 < nI 8 from by decide), if_pos d22, fn_X1_isPieceB_L77, fn_X7_part0B_L163]
          exact Or.inr ⟨σ, v, s, rfl, rfl, hFW⟩
        · rw [if_pos (show nI dp < nI 8 from nI_lt (by omega) (by decide)), if_neg (show ¬ v 22 = nI 8 from fun w => q8 (nI_j (by omega) (by omega) (d22.symm.trans w))), d22, nI_add]
          have F1 := hF.dpt (w := 22) (n := dp + 1) (Or.inl rfl)
          rw [if_pos rfl, if_neg (by decide)] at F1
          obtain ⟨σ1, v1, st1, en1, e1, e2, G1, g1⟩ := adv_sg (ε := ε) F1 t40
          obtain ⟨d1, d2, d3, d4, d5, d6, d7⟩ := G1.bd
          rw [e1, ob_s, e2, ob_s]
          rcases or_sim (ε := ε) (ih (dp + 1) tn (by omega) htn (by omega)) σ1 v1 s st1 en1 L P h (G1.mono (by omega) (by omega)) with ⟨σ2, v2, s2, st2, en2, L2, P2, e3, e4, G2, g2, g3⟩ | ⟨σ2, v2, s2, e3, e4, G2⟩
          · rw [e3, ob_s, if_neg (by decide), e4, ob_s, if_neg (by decide), (at_eq (ε := ε) G2 (c := 41) (by decide)).1, (at_eq (ε := ε) G2 (c := 41) (by decide)).2, ob_s, ob_s]
            cases t41 : sgB σ2 B st2 41 with
            | false =>
              rw [if_pos (show bI false = 0 from rfl), if_pos (show bI false = 0 from rfl), fn_X1_isPieceB_L103, fn_X7_part0B_L196]
              exact Or.inr ⟨σ2, v2, s2, rfl, rfl, G2.w⟩
            | true =>
              have d22' : v2 22 = nI (dp + 1) := G2.2.2.2.1.2.2.1
              rw [if_neg (show ¬ bI true = 0 from by decide), if_neg (show ¬ bI true = 0 from by decide)]
              dsimp only
              rw [d22', pk_sub (by omega), Nat.add_sub_cancel]
              have F3 := G2.dpt (w := 22) (n := dp) (Or.inl rfl)
              rw [if_pos rfl, if_neg (by decide)] at F3
              obtain ⟨σ4, v4, st4, en4, e5, e6, G4, g4⟩ := adv_sg (ε := ε) F3 t41
              obtain ⟨q1, q2, q3, q4, q5, q6, q7⟩ := G4.bd
              rw [e5, ob_s, e6, ob_s]
              exact Or.inl ⟨σ4, v4, s2, st4, en4, L2, P2, rfl, rfl, G4.mono (by omega) (by omega), by omega, by omega⟩
          · rw [e3, ob_s, if_pos (by decide), e4, ob_s, if_pos (by decide), fn_X1_isPieceB_L103, fn_X7_part0B_L196]
            exact Or.inr ⟨σ2, v2, s2, rfl, rfl, G2⟩
    have no40 : (∀ c, sgB σ B st c = false) → fn_X7_part0B_L84 (fn_X7_part0 d) (nI key) (v, s, r) = some (nI 0, (v, s, r)) := by
      intro hn
      rw [fn_X7_part0B_L84, (at_eq (ε := ε) hF (c := 33) (by decide)).2, ob_s, hn 33, if_pos (show bI false = 0 from rfl), fn_X7_part0B_L145, (at_eq (ε := ε) hF (c := 40) (by decide)).2, ob_s, hn 40, if_pos (show bI false = 0 from rfl), fn_X7_part0B_L163]
    have sign : (∃ σ' v' s' st' en' L' P', ob (fn_X1_isAt ε (nI 33) σ) (fun y29 τ29 => (if y29 = 0 then ((fn_X1_isPieceB_L62 ε (fn_X1_isPiece ε d) (nI dp) (nI tn))  τ29) else (if nI 8 ≤ nI tn then ((fn_X1_isPieceB_L62 ε (fn_X1_isPiece ε d) (nI dp) (nI tn))  τ29) else (ob (fn_X1_goNext ε  τ29) (fun y42 τ42 => (ob (fn_X1_isPiece ε d (nI dp) ((nI tn + nI 1)) τ42) (fun y50 τ50 => (ob (fn_X1_write ε ((-33)) τ50) (fun y57 τ57 => (if y50 = 0 ∨ y50 = 1 then some (y50, τ57) else none)))))))))) = some (nI 1, σ') ∧ fn_X7_part0B_L84 (fn_X7_part0 d) (nI key) (v, s, r) = some (nI 1, (v', s', r)) ∧ FS tp B b key σ0 v0 s0 r σ' v' s' st' en' L' P' P' (h + 1) dp tn st' ∧ L' + st ≤ L + st' ∧ st ≤ st') ∨ (∃ σ' v' s', ob (fn_X1_isAt ε (nI 33) σ) (fun y29 τ29 => (if y29 = 0 then ((fn_X1_isPieceB_L62 ε (fn_X1_isPiece ε d) (nI dp) (nI tn))  τ29) else (if nI 8 ≤ nI tn then ((fn_X1_isPieceB_L62 ε (fn_X1_isPiece ε d) (nI dp) (nI tn))  τ29) else (ob (fn_X1_goNext ε  τ29) (fun y42 τ42 => (ob (fn_X1_isPiece ε d (nI dp) ((nI tn + nI 1)) τ42) (fun y50 τ50 => (ob (fn_X1_write ε ((-33)) τ50) (fun y57 τ57 => (if y50 = 0 ∨ y50 = 1 then some (y50, τ57) else none)))))))))) = some (nI 0, σ') ∧ fn_X7_part0B_L84 (fn_X7_part0 d) (nI key) (v, s, r) = some (nI 0, (v', s', r)) ∧ FW b σ0 v0 s0 σ' v' s') := by
      rw [(at_eq (ε := ε) hF (c := 33) (by decide)).1, ob_s, fn_X7_part0B_L84, (at_eq (ε := ε) hF (c := 33) (by decide)).2, ob_s]
      cases t33 : sgB σ B st 33 with
      | false => rw [if_pos (show bI false = 0 from rfl), if_pos (show bI false = 0 from rfl)]; exact paren
      | true =>
        rw [if_neg (show ¬ bI true = 0 from by decide), if_neg (show ¬ bI true = 0 from by decide)]
        dsimp only
        by_cases q8 : tn = 8
        · rw [if_pos (show nI 8 ≤ nI tn from by rw [q8]; decide), if_pos (show nI 8 ≤ v 23 from by rw [t23, q8]; decide)]; exact paren
        · rw [if_neg (show ¬ nI 8 ≤ nI tn from nI_ge (by omega) (by omega)), if_neg (show ¬ nI 8 ≤ v 23 from by rw [t23]; exact nI_ge (by omega) (by omega)), t23, nI_add]
          have F1 := hF.dpt (w := 23) (n := tn + 1) (Or.inr rfl)
          rw [if_neg (by decide), if_pos rfl] at F1
          obtain ⟨σ1, v1, st1, en1, e1, e2, G1, g1⟩ := adv_sg (ε := ε) F1 t33
          obtain ⟨d1, d2, d3, d4, d5, d6, d7⟩ := G1.bd
          rw [e1, ob_s, e2, ob_s]
          rcases ih dp (tn + 1) hdp (by omega) (by omega) σ1 v1 s st1 en1 L P h (G1.mono (by omega) (by omega)) with ⟨σ2, v2, s2, st2, en2, L2, P2, e3, e4, G2, g2, g3⟩ | ⟨σ2, v2, s2, e3, e4, G2⟩
          · have t23' : v2 23 = nI (tn + 1) := G2.2.2.2.1.2.2.2.1
            have F3 := G2.dpt (w := 23) (n := tn) (Or.inr rfl)
            rw [if_neg (by decide), if_pos rfl] at F3
            obtain ⟨q1, q2, q3, q4, q5, q6, q7⟩ := G2.bd
            have hP := G2.hP
            obtain ⟨σ4, s4, v4, e5, e6, G4, -, -⟩ := wr_ok (ε := ε) F3 (by omega) (sgn_st (show 33 ∈ sgns from by decide)) (h' := h + 1) (Or.inl ⟨rfl, rfl, by omega, rfl⟩) (Q' := P2) (by omega) (by omega)
            rw [show -(nI 33) = -33 from by decide] at e5
            rw [e3, ob_s, e5, ob_s, if_pos (by decide), e4, ob_s, if_neg (by decide)]
            dsimp only
            rw [t23', pk_sub (by omega), Nat.add_sub_cancel, e6, ob_s]
            exact Or.inl ⟨σ4, v4, s4, st2, en2, L2 + 1, P2, rfl, rfl, G4, by omega, by omega⟩
          · obtain ⟨σ4, e5, G4⟩ := G2.wr (ε := ε) (-33)
            rw [e3, ob_s, e5, ob_s, if_pos (by decide), e4, ob_s, if_pos (by decide)]
            exact Or.inr ⟨σ4, v2, s2, rfl, rfl, G4⟩
    have hTT := hF.2.2.1.2.2.2.2.2.2
    have q2 := hF.2.2.1.1
    have q3 := hF.2.2.1.2.2.1
    obtain ⟨t1, t2, t3, t4, t5, t6⟩ := hF.1
    have nosg : ∀ x, ¬ x = 3 → x ≤ 4 → σ.1 64 4 = nI x → ∀ c, sgB σ B st c = false := fun x hx hx4 e c => by
      rw [sgB, decide_eq_false (show ¬ σ.1 64 4 = nI 3 from fun w => hx (nI_j (by omega) (by omega) (e.symm.trans w))), Bool.false_and]
    rw [fn_X1_isPieceB, fn_X7_part0B]
    dsimp only
    rcases hTT with ⟨e1, e2, -⟩ | ⟨e1, e2, e3, ec, e21⟩ | ⟨e1, e2, e3, e4, e20, edg⟩ | ⟨e1, e2, -⟩ | ⟨e1, e2, e3⟩ | ⟨e1, e2⟩
    · rw [if_neg (show ¬ σ.1 64 4 = nI 2 from by rw [e1]; decide), if_neg (show ¬ σ.1 64 4 = nI 1 from by rw [e1]; decide), if_neg (show ¬ v 19 = nI 2 from by rw [e2]; decide), if_neg (show ¬ v 19 = nI 1 from by rw [e2]; decide)]
      exact sign
    · -- a name
      rw [if_neg (show ¬ σ.1 64 4 = nI 2 from by rw [e1]; decide), if_pos e1, if_neg (show ¬ v 19 = nI 2 from by rw [e2]; decide), if_pos e2]
      have hno := no40 (nosg 1 (by decide) (by decide) e1)
      have hBl := t2 st (by omega)
      have hB0 : 97 ≤ B st := by
        unfold cls at ec
        split at ec
        · rename_i w; exact w.1
        · split at ec
          · cases ec
          · cases ec
      have nm : ∀ X : Int32, fn_X1_isName_L59 ε X σ = fn_X1_isName_L59 ε X σ := fun _ => rfl
      have E6 : fn_X1_isName ε σ = fn_X1_isName_L27 ε (3 + key) σ := by
        rw [fn_X1_isName, hk5]
        have e : key = 0 ∨ key = 1 ∨ key = 2 := by omega
        rcases e with rfl | rfl | rfl
        · rw [if_pos (by decide)]
        · rw [if_neg (by decide), if_pos rfl]
        · rw [if_neg (by decide), if_neg (by decide)]
      rw [E6, fn_X1_isName_L27, q2, q3, pk_sub b5, nI_clamp (by omega), if_pos (g_in (show st < 96 by omega) (by decide)), t5 st (by omega)]
      by_cases q : en = st + 1
      · rw [if_pos q] at e21
        rw [if_pos (show nI (en - st) = nI 1 from by rw [q, Nat.add_sub_cancel_left]), if_neg (show ¬ v 21 = 0 from by rw [e21]; exact nI_ne0 (by omega) (by omega)), ix_eq key hk2 _ hBl, o1_s, e21, nm_eq key hk2 _ hBl, o1_s]
        cases hw : nmW key (B st) with
        | none =>
          rw [if_pos rfl, if_pos (by decide), hno, fn_X1_isName_L59, if_pos (show (-1 : Int32) < 0 from by decide), fn_X1_isName_L80, fn_X1_isName_L81, if_pos (by decide), ob_s, if_pos (by decide)]
          exact Or.inr ⟨σ, v, s, rfl, rfl, hFW⟩
        | some w =>
          have hix := nm_ix hk2 hw
          have hw2 : w ≤ 2 := by rcases hix with ⟨-, z⟩ | ⟨-, z⟩ | ⟨-, z⟩ <;> omega
          obtain ⟨σ', v', s', st', en', x1, x2, x3, x4, x5⟩ := pcs (ε := ε) hF e3 (Or.inl ⟨e1, e2⟩) (cd := nI (10000 + w)) (wh := nI 1) (vv := nI (B st)) (Or.inr (Or.inl ⟨rfl, B st, w, rfl, hix, rfl⟩)) (by decide)
          rw [if_neg (by simp; decide), x2]
          dsimp only
          rw [fn_X1_isName_L59, if_neg (nI_pos (by omega)), nI_add, x1, ob_s, if_neg (by decide), fn_X1_isName_L81, if_pos (by decide), ob_s, if_pos (by decide)]
          exact Or.inl ⟨σ', v', s', st', en', L + 1, P + 1, rfl, rfl, x3, x4, x5⟩
      · rw [if_neg q] at e21
        rw [if_neg (show ¬ nI (en - st) = nI 1 from fun w => by have := nI_j (by omega) (by omega) w; omega), if_pos (show v 21 = 0 from e21), hno, fn_X1_isName_L59, if_pos (show (-1 : Int32) < 0 from by decide), fn_X1_isName_L80, fn_X1_isName_L81, if_pos (by decide), ob_s, if_pos (by decide)]
        exact Or.inr ⟨σ, v, s, rfl, rfl, hFW⟩
    · -- a number
      obtain ⟨u, hu, eu⟩ := dv_n (B := B) (st := st) (en - st) (fun j a c => edg j a (by omega))
      have hu4 : u ≤ 9999 := by
        have : (10 : Nat) ^ (en - st) ≤ 10 ^ 4 := Nat.pow_le_pow_right (by decide) (by omega)
        have : (10 : Nat) ^ 4 = 10000 := by decide
        omega
      obtain ⟨σ', v', s', st', en', x1, x2, x3, x4, x5⟩ := pcs (ε := ε) hF e3 (Or.inr ⟨e1, e2⟩) (cd := nI u) (wh := nI 0) (vv := nI u) (Or.inl ⟨rfl, u, hu4, rfl, rfl⟩) (by decide)
      have N := numC_L (ε := ε) (B := B) (σ := σ) (st := st) (en := en) (by omega) q3 (fun j hj => t5 j (by omega)) (fn_X1_isNumber_L51 ε) 4000 st (Nat.le_refl st) (by omega) (by omega)
      rw [Nat.sub_self, eu] at N
      have N : fn_X1_isNumber_L22 ε (fn_X1_isNumber_L51 ε) 4000 (nI 0) (nI st) σ = fn_X1_isNumber_L51 ε (nI u) σ := N
      rw [if_pos e1, if_pos e2, e20, eu, x2, fn_X1_isNumber, q2, q3, pk_sub b5, if_pos (nI_le (by omega) (by decide)), N, fn_X1_isNumber_L51, x1, ob_s, if_pos (by decide), ob_s, if_pos (by decide)]
      exact Or.inl ⟨σ', v', s', st', en', L + 1, P + 1, rfl, rfl, x3, x4, x5⟩
    · rw [if_neg (show ¬ σ.1 64 4 = nI 2 from by rw [e1]; decide), if_neg (show ¬ σ.1 64 4 = nI 1 from by rw [e1]; decide), if_neg (show ¬ v 19 = nI 2 from by rw [e2]; decide), if_neg (show ¬ v 19 = nI 1 from by rw [e2]; decide)]
      exact sign
    · rw [if_pos e1, if_neg (show ¬ v 19 = nI 2 from by rw [e2]; decide), if_neg (show ¬ v 19 = nI 1 from by rw [e2]; decide), no40 (nosg 2 (by decide) (by decide) e1), fn_X1_isNumber, q2, q3, pk_sub b5, if_neg (nI_ge (by omega) (by omega)), ob_s, if_pos (by decide)]
      exact Or.inr ⟨σ, v, s, rfl, rfl, hFW⟩
    · rw [if_neg (show ¬ σ.1 64 4 = nI 2 from by rw [e1]; decide), if_neg (show ¬ σ.1 64 4 = nI 1 from by rw [e1]; decide), if_neg (show ¬ v 19 = nI 2 from by rw [e2]; decide), if_neg (show ¬ v 19 = nI 1 from by rw [e2]; decide)]
      exact sign
end PS
