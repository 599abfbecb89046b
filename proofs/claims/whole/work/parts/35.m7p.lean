noncomputable def fn_X7_isName_L87 (z0 : Int32) (z1 : Int32) (s0 : Int32) : Option Int32 := (if s0 = 0 ∨ s0 = 1 then some s0 else none)
noncomputable def fn_X7_isName_L82 (z0 : Int32) (z1 : Int32)  : Option Int32 := ((fn_X7_isName_L87 z0 z1) (nI 1))
noncomputable def fn_X7_isName_L69 (z0 : Int32) (z1 : Int32) (s0 : Int32) : Option Int32 := (if s0 = 0 ∨ s0 = 1 then some s0 else none)
noncomputable def fn_X7_isName_L64 (z0 : Int32) (z1 : Int32)  : Option Int32 := ((fn_X7_isName_L69 z0 z1) (nI 1))
noncomputable def fn_X7_isName_L51 (z0 : Int32) (z1 : Int32) (s0 : Int32) : Option Int32 := (if s0 = 0 ∨ s0 = 1 then some s0 else none)
noncomputable def fn_X7_isName_L46 (z0 : Int32) (z1 : Int32)  : Option Int32 := ((fn_X7_isName_L51 z0 z1) (nI 1))
noncomputable def fn_X7_isName (z0 : Int32) (z1 : Int32) : Option Int32 := (if z0 = nI 0 then (if z1 = nI 119 then ((fn_X7_isName_L46 z0 z1) ) else (if z1 = nI 108 then ((fn_X7_isName_L46 z0 z1) ) else (if z1 = nI 99 then ((fn_X7_isName_L46 z0 z1) ) else ((fn_X7_isName_L51 z0 z1) (nI 0))))) else (if z0 = nI 1 then (if z1 = nI 114 then ((fn_X7_isName_L64 z0 z1) ) else (if z1 = nI 100 then ((fn_X7_isName_L64 z0 z1) ) else ((fn_X7_isName_L69 z0 z1) (nI 0)))) else (if z1 = nI 99 then ((fn_X7_isName_L82 z0 z1) ) else (if z1 = nI 112 then ((fn_X7_isName_L82 z0 z1) ) else ((fn_X7_isName_L87 z0 z1) (nI 0))))))
noncomputable def fn_X7_isLetter_L32 (z1 : Int32) (s0 : Int32) (μ : Mg) : Option (Int32 × Mg) := (if s0 = 0 ∨ s0 = 1 then some (s0, μ) else none)
noncomputable def fn_X7_isLetter_L31 (z1 : Int32)  (μ : Mg) : Option (Int32 × Mg) := ((fn_X7_isLetter_L32 z1) (nI 0) μ)
noncomputable def fn_X7_isLetter (z1 : Int32) (μ : Mg) : Option (Int32 × Mg) := (if μ.1 16 ≤ z1 then ((fn_X7_isLetter_L31 z1)  μ) else (if ¬ (z1 < 0 ∨ 96 ≤ z1.toNatClampNeg) then (if (bI (inB (μ.2.2 15 z1.toNatClampNeg) ((97)) ((122)))) = 0 then ((fn_X7_isLetter_L31 z1)  μ) else ((fn_X7_isLetter_L32 z1) (nI 1) μ)) else none))
noncomputable def fn_X7_isDigit_L32 (z1 : Int32) (s0 : Int32) (μ : Mg) : Option (Int32 × Mg) := (if s0 = 0 ∨ s0 = 1 then some (s0, μ) else none)
noncomputable def fn_X7_isDigit_L31 (z1 : Int32)  (μ : Mg) : Option (Int32 × Mg) := ((fn_X7_isDigit_L32 z1) (nI 0) μ)
noncomputable def fn_X7_isDigit (z1 : Int32) (μ : Mg) : Option (Int32 × Mg) := (if μ.1 16 ≤ z1 then ((fn_X7_isDigit_L31 z1)  μ) else (if ¬ (z1 < 0 ∨ 96 ≤ z1.toNatClampNeg) then (if (bI (inB (μ.2.2 15 z1.toNatClampNeg) ((48)) ((57)))) = 0 then ((fn_X7_isDigit_L31 z1)  μ) else ((fn_X7_isDigit_L32 z1) (nI 1) μ)) else none))
noncomputable def fn_X7_nextToken_L339   (μ : Mg) : Option (Unit × Mg) := some ((), μ)
noncomputable def fn_X7_nextToken_L305  (s0 : Int32) (μ : Mg) : Option (Unit × Mg) := ((fn_X7_nextToken_L339 )  ((upd μ.1 19 s0, μ.2.1, μ.2.2)))
noncomputable def fn_X7_nextToken_L300   (μ : Mg) : Option (Unit × Mg) := ((fn_X7_nextToken_L305 ) (nI 4) μ)
noncomputable def fn_X7_nextToken_L282  (v1 : Int32) (μ : Mg) : Option (Unit × Mg) := (if v1 = 0 then (if (μ.1 18 - μ.1 17) ≤ nI 4 then ((fn_X7_nextToken_L305 ) (nI 2) μ) else ((fn_X7_nextToken_L300 )  μ)) else ((fn_X7_nextToken_L300 )  μ))
noncomputable def fn_X7_nextToken_L266  (slf : Int32 → Mg → Option (Unit × Mg)) (k282 : Int32 → Mg → Option (Unit × Mg)) (v1 : Int32) (s0 : Int32) (μ : Mg) : Option (Unit × Mg) := (slf v1 ((upd (upd μ.1 20 s0) 18 (((upd μ.1 20 s0) 18 + nI 1)), μ.2.1, μ.2.2)))
noncomputable def fn_X7_nextToken_L214  (k282 : Int32 → Mg → Option (Unit × Mg)) : Nat → Int32 → Mg → Option (Unit × Mg)
  | 0 => fun _ _ => none
  | fuel + 1 => fun (v1 : Int32) (μ : Mg) => (ob (fn_X7_isDigit (μ.1 18) μ) (fun y219 τ219 => (if y219 = 0 then (k282 v1 τ219) else (if nI 4 ≤ (τ219.1 18 - τ219.1 17) then ((fn_X7_nextToken_L266  (fn_X7_nextToken_L214  k282 fuel) k282) v1 (τ219.1 20) τ219) else (if ¬ (τ219.1 18 < 0 ∨ 96 ≤ (τ219.1 18).toNatClampNeg) then ((fn_X7_nextToken_L266  (fn_X7_nextToken_L214  k282 fuel) k282) v1 ((((nI 10 * τ219.1 20) + τ219.2.2 15 (τ219.1 18).toNatClampNeg) - nI 48)) τ219) else none)))))
noncomputable def fn_X7_nextToken_L192  (s0 : Int32) (μ : Mg) : Option (Unit × Mg) := ((fn_X7_nextToken_L339 )  ((upd μ.1 21 s0, μ.2.1, μ.2.2)))
noncomputable def fn_X7_nextToken_L162  (s0 : Int32) (μ : Mg) : Option (Unit × Mg) := (if ((upd μ.1 19 s0) 18 - (upd μ.1 19 s0) 17) = nI 1 then (if ¬ ((upd μ.1 19 s0) 17 < 0 ∨ 96 ≤ ((upd μ.1 19 s0) 17).toNatClampNeg) then ((fn_X7_nextToken_L192 ) (μ.2.2 15 ((upd μ.1 19 s0) 17).toNatClampNeg) ((upd μ.1 19 s0, μ.2.1, μ.2.2))) else none) else ((fn_X7_nextToken_L192 ) (nI 0) ((upd μ.1 19 s0, μ.2.1, μ.2.2))))
noncomputable def fn_X7_nextToken_L152  (v1 : Int32) (μ : Mg) : Option (Unit × Mg) := (if v1 = 0 then ((fn_X7_nextToken_L162 ) (nI 1) μ) else ((fn_X7_nextToken_L162 ) (nI 4) μ))
noncomputable def fn_X7_nextToken_L128  (k152 : Int32 → Mg → Option (Unit × Mg)) : Nat → Int32 → Mg → Option (Unit × Mg)
  | 0 => fun _ _ => none
  | fuel + 1 => fun (v1 : Int32) (μ : Mg) => (ob (fn_X7_isLetter (μ.1 18) μ) (fun y133 τ133 => (if y133 = 0 then (k152 v1 τ133) else ((fn_X7_nextToken_L128  k152 fuel) v1 ((upd τ133.1 18 ((τ133.1 18 + nI 1)), τ133.2.1, τ133.2.2))))))
noncomputable def fn_X7_nextToken_L89  (s0 : Int32) (μ : Mg) : Option (Unit × Mg) := (if (upd μ.1 17 (μ.1 18)) 17 = (upd μ.1 17 (μ.1 18)) 16 then ((fn_X7_nextToken_L339 )  ((upd (upd μ.1 17 (μ.1 18)) 19 (nI 0), μ.2.1, μ.2.2))) else (ob (fn_X7_isLetter ((upd μ.1 17 (μ.1 18)) 17) ((upd μ.1 17 (μ.1 18), μ.2.1, μ.2.2))) (fun y122 τ122 => (if y122 = 0 then (ob (fn_X7_isDigit (τ122.1 17) τ122) (fun y203 τ203 => (if y203 = 0 then (if ¬ ((upd τ203.1 19 (nI 3)) 17 < 0 ∨ 96 ≤ ((upd τ203.1 19 (nI 3)) 17).toNatClampNeg) then ((fn_X7_nextToken_L339 )  ((upd (upd (upd τ203.1 19 (nI 3)) 21 (τ203.2.2 15 ((upd τ203.1 19 (nI 3)) 17).toNatClampNeg)) 18 (((upd (upd τ203.1 19 (nI 3)) 21 (τ203.2.2 15 ((upd τ203.1 19 (nI 3)) 17).toNatClampNeg)) 18 + nI 1)), τ203.2.1, τ203.2.2))) else none) else ((fn_X7_nextToken_L214  (fn_X7_nextToken_L282 ) 4000) s0 ((upd τ203.1 20 (nI 0), τ203.2.1, τ203.2.2)))))) else ((fn_X7_nextToken_L128  (fn_X7_nextToken_L152 ) 4000) s0 τ122)))))
noncomputable def fn_X7_nextToken_L88   (μ : Mg) : Option (Unit × Mg) := ((fn_X7_nextToken_L89 ) (nI 0) μ)
noncomputable def fn_X7_nextToken_L72  (v1 : Int32) (v2 : Int32) (μ : Mg) : Option (Unit × Mg) := (if v1 = 0 then ((fn_X7_nextToken_L88 )  μ) else (if v2 = μ.1 18 then ((fn_X7_nextToken_L89 ) (nI 1) μ) else ((fn_X7_nextToken_L88 )  μ)))
noncomputable def fn_X7_nextToken_L34  (k72 : Int32 → Int32 → Mg → Option (Unit × Mg)) : Nat → Int32 → Int32 → Mg → Option (Unit × Mg)
  | 0 => fun _ _ _ => none
  | fuel + 1 => fun (v1 : Int32) (v2 : Int32) (μ : Mg) => (if μ.1 16 ≤ μ.1 18 then (k72 v1 v2 μ) else (if ¬ (μ.1 18 < 0 ∨ 96 ≤ (μ.1 18).toNatClampNeg) then (if μ.2.2 15 (μ.1 18).toNatClampNeg = nI 32 then ((fn_X7_nextToken_L34  k72 fuel) v1 v2 ((upd μ.1 18 ((μ.1 18 + nI 1)), μ.2.1, μ.2.2))) else (k72 v1 v2 μ)) else none))
noncomputable def fn_X7_nextToken_L28  (s0 : Int32) (μ : Mg) : Option (Unit × Mg) := ((fn_X7_nextToken_L34  (fn_X7_nextToken_L72 ) 4000) s0 (μ.1 18) μ)
noncomputable def fn_X7_nextToken_L27   (μ : Mg) : Option (Unit × Mg) := ((fn_X7_nextToken_L28 ) (nI 0) μ)
noncomputable def fn_X7_nextToken_L23   (μ : Mg) : Option (Unit × Mg) := ((fn_X7_nextToken_L28 ) (nI 1) μ)
noncomputable def fn_X7_nextToken  (μ : Mg) : Option (Unit × Mg) := (if μ.1 18 ≤ 0 then ((fn_X7_nextToken_L27 )  μ) else (if μ.1 19 = nI 1 then ((fn_X7_nextToken_L23 )  μ) else (if μ.1 19 = nI 2 then ((fn_X7_nextToken_L23 )  μ) else ((fn_X7_nextToken_L27 )  μ))))
noncomputable def fn_X7_isSign_L21 (z1 : Int32) (s0 : Int32) (μ : Mg) : Option (Int32 × Mg) := (if s0 = 0 ∨ s0 = 1 then some (s0, μ) else none)
noncomputable def fn_X7_isSign_L20 (z1 : Int32)  (μ : Mg) : Option (Int32 × Mg) := ((fn_X7_isSign_L21 z1) (nI 0) μ)
noncomputable def fn_X7_isSign (z1 : Int32) (μ : Mg) : Option (Int32 × Mg) := (if μ.1 19 = nI 3 then (if μ.1 21 = z1 then ((fn_X7_isSign_L21 z1) (nI 1) μ) else ((fn_X7_isSign_L20 z1)  μ)) else ((fn_X7_isSign_L20 z1)  μ))
noncomputable def fn_X7_isWordAt_L103 (z1 : Int32) (z2 : Int32) (z3 : Int32) (z4 : Int32) (s0 : Int32) (μ : Mg) : Option (Int32 × Mg) := (if s0 = 0 ∨ s0 = 1 then some (s0, μ) else none)
noncomputable def fn_X7_isWordAt_L102 (z1 : Int32) (z2 : Int32) (z3 : Int32) (z4 : Int32)  (μ : Mg) : Option (Int32 × Mg) := ((fn_X7_isWordAt_L103 z1 z2 z3 z4) (nI 0) μ)
noncomputable def fn_X7_isWordAt_L98 (z1 : Int32) (z2 : Int32) (z3 : Int32) (z4 : Int32)  (μ : Mg) : Option (Int32 × Mg) := ((fn_X7_isWordAt_L103 z1 z2 z3 z4) (nI 1) μ)
noncomputable def fn_X7_isWordAt_L10 (z1 : Int32) (z2 : Int32) (z3 : Int32) (z4 : Int32) (s0 : Int32) (μ : Mg) : Option (Int32 × Mg) := (if μ.1 19 = nI 1 then (if (μ.1 18 - μ.1 17) = s0 then (if ¬ (μ.1 17 < 0 ∨ 96 ≤ (μ.1 17).toNatClampNeg) then (if μ.2.2 15 (μ.1 17).toNatClampNeg = z1 then (if ¬ ((μ.1 17 + nI 1) < 0 ∨ 96 ≤ ((μ.1 17 + nI 1)).toNatClampNeg) then (if μ.2.2 15 ((μ.1 17 + nI 1)).toNatClampNeg = z2 then (if ¬ ((μ.1 17 + nI 2) < 0 ∨ 96 ≤ ((μ.1 17 + nI 2)).toNatClampNeg) then (if μ.2.2 15 ((μ.1 17 + nI 2)).toNatClampNeg = z3 then (if z4 = 0 then ((fn_X7_isWordAt_L98 z1 z2 z3 z4)  μ) else (if ¬ ((μ.1 17 + nI 3) < 0 ∨ 96 ≤ ((μ.1 17 + nI 3)).toNatClampNeg) then (if μ.2.2 15 ((μ.1 17 + nI 3)).toNatClampNeg = z4 then ((fn_X7_isWordAt_L98 z1 z2 z3 z4)  μ) else ((fn_X7_isWordAt_L102 z1 z2 z3 z4)  μ)) else none)) else ((fn_X7_isWordAt_L102 z1 z2 z3 z4)  μ)) else none) else ((fn_X7_isWordAt_L102 z1 z2 z3 z4)  μ)) else none) else ((fn_X7_isWordAt_L102 z1 z2 z3 z4)  μ)) else none) else ((fn_X7_isWordAt_L102 z1 z2 z3 z4)  μ)) else ((fn_X7_isWordAt_L102 z1 z2 z3 z4)  μ))
noncomputable def fn_X7_isWordAt (z1 : Int32) (z2 : Int32) (z3 : Int32) (z4 : Int32) (μ : Mg) : Option (Int32 × Mg) := (if z4 = 0 then ((fn_X7_isWordAt_L10 z1 z2 z3 z4) (nI 3) μ) else ((fn_X7_isWordAt_L10 z1 z2 z3 z4) (nI 4) μ))
noncomputable def fn_X7_key_L53  (s0 : Int32) (μ : Mg) : Option (Int32 × Mg) := some (s0, μ)
noncomputable def fn_X7_key  (μ : Mg) : Option (Int32 × Mg) := (ob (fn_X7_isWordAt (nI 112) (nI 117) (nI 115) (nI 104) μ) (fun y9 τ9 => (if y9 = 0 then (ob (fn_X7_isWordAt (nI 102) (nI 101) (nI 101) (nI 0) τ9) (fun y25 τ25 => (if y25 = 0 then (ob (fn_X7_isWordAt (nI 102) (nI 105) (nI 110) (nI 101) τ25) (fun y42 τ42 => (if y42 = 0 then ((fn_X7_key_L53 ) ((-1)) τ42) else ((fn_X7_key_L53 ) (nI 2) τ42)))) else some (nI 1, τ25)))) else some (nI 0, τ9))))
noncomputable def fn_X7_step (z1 : Int32) (z2 : Int32) (μ : Mg) : Option (Unit × Mg) := (if ¬ ((μ.1 25 + (nI 2 * μ.1 24)) < 0 ∨ 3069 ≤ ((μ.1 25 + (nI 2 * μ.1 24))).toNatClampNeg) then (if ¬ (((μ.1 25 + (nI 2 * μ.1 24)) + nI 1) < 0 ∨ 3069 ≤ (((μ.1 25 + (nI 2 * μ.1 24)) + nI 1)).toNatClampNeg) then some ((), (upd μ.1 24 ((μ.1 24 + nI 1)), upd (upd μ.2.1 ((μ.1 25 + (nI 2 * μ.1 24))).toNatClampNeg z1) (((μ.1 25 + (nI 2 * μ.1 24)) + nI 1)).toNatClampNeg z2, μ.2.2)) else none) else none)
noncomputable def fn_X7_term_L56 (p0 : Int32 → Mg → Option (Int32 × Mg)) (z1 : Int32)  (μ : Mg) : Option (Int32 × Mg) := some (nI 1, μ)
noncomputable def fn_X7_term_L28 (p0 : Int32 → Mg → Option (Int32 × Mg)) (z1 : Int32) (slf : Mg → Option (Int32 × Mg)) (k56 : Mg → Option (Int32 × Mg))  (μ : Mg) : Option (Int32 × Mg) := (ob (fn_X7_nextToken  μ) (fun y34 τ34 => (ob (p0 z1 τ34) (fun y39 τ39 => (if y39 = 0 then some (nI 0, τ39) else (ob (fn_X7_step (nI 2) (μ.1 21) τ39) (fun y50 τ50 => (slf  τ50))))))))
noncomputable def fn_X7_term_L10 (p0 : Int32 → Mg → Option (Int32 × Mg)) (z1 : Int32) (k56 : Mg → Option (Int32 × Mg)) : Nat → Mg → Option (Int32 × Mg)
  | 0 => fun _ => none
  | fuel + 1 => fun  (μ : Mg) => (ob (fn_X7_isSign (nI 42) μ) (fun y13 τ13 => (if y13 = 0 then (ob (fn_X7_isSign (nI 47) τ13) (fun y22 τ22 => (if y22 = 0 then (k56  τ22) else ((fn_X7_term_L28 p0 z1 (fn_X7_term_L10 p0 z1 k56 fuel) k56)  τ22)))) else ((fn_X7_term_L28 p0 z1 (fn_X7_term_L10 p0 z1 k56 fuel) k56)  τ13))))
noncomputable def fn_X7_term (p0 : Int32 → Mg → Option (Int32 × Mg)) (z1 : Int32) (μ : Mg) : Option (Int32 × Mg) := (ob (p0 z1 μ) (fun y2 τ2 => (if y2 = 0 then some (nI 0, τ2) else ((fn_X7_term_L10 p0 z1 (fn_X7_term_L56 p0 z1) 4000)  τ2))))
noncomputable def fn_X7_sum_L56 (p0 : Int32 → Mg → Option (Int32 × Mg)) (z1 : Int32)  (μ : Mg) : Option (Int32 × Mg) := some (nI 1, μ)
noncomputable def fn_X7_sum_L28 (p0 : Int32 → Mg → Option (Int32 × Mg)) (z1 : Int32) (slf : Mg → Option (Int32 × Mg)) (k56 : Mg → Option (Int32 × Mg))  (μ : Mg) : Option (Int32 × Mg) := (ob (fn_X7_nextToken  μ) (fun y34 τ34 => (ob (fn_X7_term p0 z1 τ34) (fun y39 τ39 => (if y39 = 0 then some (nI 0, τ39) else (ob (fn_X7_step (nI 2) (μ.1 21) τ39) (fun y50 τ50 => (slf  τ50))))))))
noncomputable def fn_X7_sum_L10 (p0 : Int32 → Mg → Option (Int32 × Mg)) (z1 : Int32) (k56 : Mg → Option (Int32 × Mg)) : Nat → Mg → Option (Int32 × Mg)
  | 0 => fun _ => none
  | fuel + 1 => fun  (μ : Mg) => (ob (fn_X7_isSign (nI 43) μ) (fun y13 τ13 => (if y13 = 0 then (ob (fn_X7_isSign (nI 45) τ13) (fun y22 τ22 => (if y22 = 0 then (k56  τ22) else ((fn_X7_sum_L28 p0 z1 (fn_X7_sum_L10 p0 z1 k56 fuel) k56)  τ22)))) else ((fn_X7_sum_L28 p0 z1 (fn_X7_sum_L10 p0 z1 k56 fuel) k56)  τ13))))
noncomputable def fn_X7_sum (p0 : Int32 → Mg → Option (Int32 × Mg)) (z1 : Int32) (μ : Mg) : Option (Int32 × Mg) := (ob (fn_X7_term p0 z1 μ) (fun y2 τ2 => (if y2 = 0 then some (nI 0, τ2) else ((fn_X7_sum_L10 p0 z1 (fn_X7_sum_L56 p0 z1) 4000)  τ2))))
noncomputable def fn_X7_test_L62 (p0 : Int32 → Mg → Option (Int32 × Mg)) (z1 : Int32)  (μ : Mg) : Option (Int32 × Mg) := some (nI 1, μ)
noncomputable def fn_X7_test_L37 (p0 : Int32 → Mg → Option (Int32 × Mg)) (z1 : Int32)  (μ : Mg) : Option (Int32 × Mg) := (ob (fn_X7_nextToken  μ) (fun y43 τ43 => (ob (fn_X7_sum p0 z1 τ43) (fun y48 τ48 => (if y48 = 0 then some (nI 0, τ48) else (ob (fn_X7_step (nI 2) (μ.1 21) τ48) (fun y59 τ59 => ((fn_X7_test_L62 p0 z1)  τ59))))))))
noncomputable def fn_X7_test (p0 : Int32 → Mg → Option (Int32 × Mg)) (z1 : Int32) (μ : Mg) : Option (Int32 × Mg) := (ob (fn_X7_sum p0 z1 μ) (fun y2 τ2 => (if y2 = 0 then some (nI 0, τ2) else (ob (fn_X7_isSign (nI 60) τ2) (fun y13 τ13 => (if y13 = 0 then (ob (fn_X7_isSign (nI 61) τ13) (fun y22 τ22 => (if y22 = 0 then (ob (fn_X7_isSign (nI 62) τ22) (fun y31 τ31 => (if y31 = 0 then ((fn_X7_test_L62 p0 z1)  τ31) else ((fn_X7_test_L37 p0 z1)  τ31)))) else ((fn_X7_test_L37 p0 z1)  τ22)))) else ((fn_X7_test_L37 p0 z1)  τ13)))))))
noncomputable def fn_X7_both_L43 (p0 : Int32 → Mg → Option (Int32 × Mg)) (z1 : Int32)  (μ : Mg) : Option (Int32 × Mg) := some (nI 1, μ)
noncomputable def fn_X7_both_L10 (p0 : Int32 → Mg → Option (Int32 × Mg)) (z1 : Int32) (k43 : Mg → Option (Int32 × Mg)) : Nat → Mg → Option (Int32 × Mg)
  | 0 => fun _ => none
  | fuel + 1 => fun  (μ : Mg) => (ob (fn_X7_isSign (nI 38) μ) (fun y13 τ13 => (if y13 = 0 then (k43  τ13) else (ob (fn_X7_nextToken  τ13) (fun y20 τ20 => (ob (fn_X7_test p0 z1 τ20) (fun y25 τ25 => (if y25 = 0 then some (nI 0, τ25) else (ob (fn_X7_step (nI 2) (nI 38) τ25) (fun y37 τ37 => ((fn_X7_both_L10 p0 z1 k43 fuel)  τ37)))))))))))
noncomputable def fn_X7_both (p0 : Int32 → Mg → Option (Int32 × Mg)) (z1 : Int32) (μ : Mg) : Option (Int32 × Mg) := (ob (fn_X7_test p0 z1 μ) (fun y2 τ2 => (if y2 = 0 then some (nI 0, τ2) else ((fn_X7_both_L10 p0 z1 (fn_X7_both_L43 p0 z1) 4000)  τ2))))
noncomputable def fn_X7_either_L43 (p0 : Int32 → Mg → Option (Int32 × Mg)) (z1 : Int32)  (μ : Mg) : Option (Int32 × Mg) := some (nI 1, μ)
noncomputable def fn_X7_either_L10 (p0 : Int32 → Mg → Option (Int32 × Mg)) (z1 : Int32) (k43 : Mg → Option (Int32 × Mg)) : Nat → Mg → Option (Int32 × Mg)
  | 0 => fun _ => none
  | fuel + 1 => fun  (μ : Mg) => (ob (fn_X7_isSign (nI 124) μ) (fun y13 τ13 => (if y13 = 0 then (k43  τ13) else (ob (fn_X7_nextToken  τ13) (fun y20 τ20 => (ob (fn_X7_both p0 z1 τ20) (fun y25 τ25 => (if y25 = 0 then some (nI 0, τ25) else (ob (fn_X7_step (nI 2) (nI 124) τ25) (fun y37 τ37 => ((fn_X7_either_L10 p0 z1 k43 fuel)  τ37)))))))))))
noncomputable def fn_X7_either (p0 : Int32 → Mg → Option (Int32 × Mg)) (z1 : Int32) (μ : Mg) : Option (Int32 × Mg) := (ob (fn_X7_both p0 z1 μ) (fun y2 τ2 => (if y2 = 0 then some (nI 0, τ2) else ((fn_X7_either_L10 p0 z1 (fn_X7_either_L43 p0 z1) 4000)  τ2))))
noncomputable def fn_X7_part0B_L196 (p0 : Int32 → Mg → Option (Int32 × Mg)) (z1 : Int32)  (μ : Mg) : Option (Int32 × Mg) := some (nI 0, μ)
noncomputable def fn_X7_part0B_L163 (p0 : Int32 → Mg → Option (Int32 × Mg)) (z1 : Int32)  (μ : Mg) : Option (Int32 × Mg) := some (nI 0, μ)
noncomputable def fn_X7_part0B_L145 (p0 : Int32 → Mg → Option (Int32 × Mg)) (z1 : Int32)  (μ : Mg) : Option (Int32 × Mg) := (ob (fn_X7_isSign (nI 40) μ) (fun y148 τ148 => (if y148 = 0 then ((fn_X7_part0B_L163 p0 z1)  τ148) else (if τ148.1 22 = nI 8 then ((fn_X7_part0B_L163 p0 z1)  τ148) else (ob (fn_X7_nextToken  ((upd τ148.1 22 ((τ148.1 22 + nI 1)), τ148.2.1, τ148.2.2))) (fun y176 τ176 => (ob (fn_X7_either p0 z1 τ176) (fun y181 τ181 => (if y181 = 0 then ((fn_X7_part0B_L196 p0 z1)  τ181) else (ob (fn_X7_isSign (nI 41) τ181) (fun y190 τ190 => (if y190 = 0 then ((fn_X7_part0B_L196 p0 z1)  τ190) else (ob (fn_X7_nextToken  ((upd τ190.1 22 ((τ190.1 22 - nI 1)), τ190.2.1, τ190.2.2))) (fun y209 τ209 => some (nI 1, τ209)))))))))))))))
noncomputable def fn_X7_part0B_L84 (p0 : Int32 → Mg → Option (Int32 × Mg)) (z1 : Int32)  (μ : Mg) : Option (Int32 × Mg) := (ob (fn_X7_isSign (nI 33) μ) (fun y87 τ87 => (if y87 = 0 then ((fn_X7_part0B_L145 p0 z1)  τ87) else (if nI 8 ≤ τ87.1 23 then ((fn_X7_part0B_L145 p0 z1)  τ87) else (ob (fn_X7_nextToken  ((upd τ87.1 23 ((τ87.1 23 + nI 1)), τ87.2.1, τ87.2.2))) (fun y113 τ113 => (ob (p0 z1 τ113) (fun y118 τ118 => (if y118 = 0 then some (nI 0, τ118) else (ob (fn_X7_step (nI 2) (nI 33) ((upd τ118.1 23 ((τ118.1 23 - nI 1)), τ118.2.1, τ118.2.2))) (fun y140 τ140 => some (nI 1, τ140))))))))))))
noncomputable def fn_X7_part0B (p0 : Int32 → Mg → Option (Int32 × Mg)) (z1 : Int32) (μ : Mg) : Option (Int32 × Mg) := (if μ.1 19 = nI 2 then (ob (fn_X7_step (nI 0) (μ.1 20) μ) (fun y14 τ14 => (ob (fn_X7_nextToken  ((upd τ14.1 26 ((τ14.1 26 + nI 1)), τ14.2.1, τ14.2.2))) (fun y28 τ28 => some (nI 1, τ28))))) else (if μ.1 19 = nI 1 then (if μ.1 21 = 0 then ((fn_X7_part0B_L84 p0 z1)  μ) else (o1 (fn_X7_isName z1 (μ.1 21)) (fun y53 => (if y53 = 0 then ((fn_X7_part0B_L84 p0 z1)  μ) else (ob (fn_X7_step (nI 1) (μ.1 21) μ) (fun y65 τ65 => (ob (fn_X7_nextToken  ((upd τ65.1 26 ((τ65.1 26 + nI 1)), τ65.2.1, τ65.2.2))) (fun y79 τ79 => some (nI 1, τ79))))))))) else ((fn_X7_part0B_L84 p0 z1)  μ)))
noncomputable def fn_X7_part0 : Nat → Int32 → Mg → Option (Int32 × Mg)
  | 0 => fun _ _ => none
  | d + 1 => fn_X7_part0B (fn_X7_part0 d)
def fD : Nat → Nat
  | 0 => 8
  | d + 1 => fD d + 6
def lD : Nat → Nat
  | 0 => 300
  | d + 1 => lD d + 180
theorem fD_8 : ∀ d, 8 ≤ fD d
  | 0 => Nat.le_refl 8
  | d + 1 => Nat.le_trans (fD_8 d) (Nat.le_add_right _ _)
theorem lD_300 : ∀ d, 300 ≤ lD d
  | 0 => Nat.le_refl 300
  | d + 1 => Nat.le_trans (lD_300 d) (Nat.le_add_right _ _)
noncomputable def fn_X7_parse_L125  (s0 : Int32) (μ : Mg) : Option (Int32 × Mg) := some (s0, μ)
noncomputable def fn_X7_parse_L111  (v1 : Int32) (v2 : Int32) (μ : Mg) : Option (Int32 × Mg) := (if v2 = 0 then ((fn_X7_parse_L125 ) ((-1)) ((upd μ.1 16 (nI 0), μ.2.1, μ.2.2))) else ((fn_X7_parse_L125 ) v1 ((upd μ.1 16 (nI 0), μ.2.1, μ.2.2))))
noncomputable def fn_X7_parse_L110  (v1 : Int32) (s0 : Int32) (μ : Mg) : Option (Int32 × Mg) := ((fn_X7_parse_L111 ) v1 s0 μ)
noncomputable def fn_X7_parse_L109  (v1 : Int32) (μ : Mg) : Option (Int32 × Mg) := ((fn_X7_parse_L110 ) v1 (nI 0) μ)
noncomputable def fn_X7_parse_L81  (v1 : Int32) (s0 : Int32) (μ : Mg) : Option (Int32 × Mg) := (if s0 = 0 then ((fn_X7_parse_L111 ) v1 s0 μ) else (ob (fn_X7_nextToken  μ) (fun y87 τ87 => (ob (fn_X7_either (fn_X7_part0 20) v1 τ87) (fun y92 τ92 => (if y92 = 0 then ((fn_X7_parse_L109 ) v1 τ92) else (if τ92.1 19 = 0 then ((fn_X7_parse_L110 ) v1 (nI 1) τ92) else ((fn_X7_parse_L109 ) v1 τ92))))))))
noncomputable def fn_X7_parse_L60  (s0 : Int32) (μ : Mg) : Option (Int32 × Mg) := (ob (fn_X7_nextToken  ((upd μ.1 25 s0, μ.2.1, μ.2.2))) (fun y64 τ64 => (ob (fn_X7_key  τ64) (fun y68 τ68 => (if y68 < 0 then ((fn_X7_parse_L81 ) y68 (nI 0) τ68) else ((fn_X7_parse_L81 ) y68 (nI 1) τ68))))))
noncomputable def fn_X7_parse  (μ : Mg) : Option (Int32 × Mg) := (if ¬ (nI 1 < 0 ∨ 3069 ≤ (nI 1).toNatClampNeg) then (if nI 14 ≤ μ.2.1 (nI 1).toNatClampNeg then ((fn_X7_parse_L60 ) (nI 2869) ((upd (upd (upd (upd (upd (upd μ.1 18 (nI 0)) 19 (nI 3)) 22 (nI 0)) 23 (nI 0)) 24 (nI 0)) 26 (nI 0), μ.2.1, μ.2.2))) else (ob (fn_X7_textAt (μ.2.1 (nI 1).toNatClampNeg) ((upd (upd (upd (upd (upd (upd μ.1 18 (nI 0)) 19 (nI 3)) 22 (nI 0)) 23 (nI 0)) 24 (nI 0)) 26 (nI 0), μ.2.1, μ.2.2))) (fun y49 τ49 => ((fn_X7_parse_L60 ) ((y49 + nI 4)) τ49)))) else none)
noncomputable def fn_X7_text  (μ : Mg) : Option (Int32 × Mg) := (ob (fn_X7_parse  μ) (fun y1 τ1 => (if 0 ≤ y1 then (if ¬ (nI 1 < 0 ∨ 3069 ≤ (nI 1).toNatClampNeg) then (if τ1.2.1 (nI 1).toNatClampNeg = nI 14 then some ((-1000000003), τ1) else (ob (fn_X7_textAt (τ1.2.1 (nI 1).toNatClampNeg) τ1) (fun y38 τ38 => (if ¬ ((y38 + nI 0) < 0 ∨ 3069 ≤ ((y38 + nI 0)).toNatClampNeg) then (if ¬ ((y38 + nI 1) < 0 ∨ 3069 ≤ ((y38 + nI 1)).toNatClampNeg) then (if ¬ ((y38 + nI 2) < 0 ∨ 3069 ≤ ((y38 + nI 2)).toNatClampNeg) then some (((upd (upd (upd (upd τ38.2.1 ((y38 + nI 0)).toNatClampNeg y1) ((y38 + nI 1)).toNatClampNeg (τ38.1 26)) ((y38 + nI 2)).toNatClampNeg (τ38.1 24)) (nI 1).toNatClampNeg (((upd (upd (upd τ38.2.1 ((y38 + nI 0)).toNatClampNeg y1) ((y38 + nI 1)).toNatClampNeg (τ38.1 26)) ((y38 + nI 2)).toNatClampNeg (τ38.1 24)) (nI 1).toNatClampNeg + nI 1))) (nI 1).toNatClampNeg - nI 1), (τ38.1, upd (upd (upd (upd τ38.2.1 ((y38 + nI 0)).toNatClampNeg y1) ((y38 + nI 1)).toNatClampNeg (τ38.1 26)) ((y38 + nI 2)).toNatClampNeg (τ38.1 24)) (nI 1).toNatClampNeg (((upd (upd (upd τ38.2.1 ((y38 + nI 0)).toNatClampNeg y1) ((y38 + nI 1)).toNatClampNeg (τ38.1 26)) ((y38 + nI 2)).toNatClampNeg (τ38.1 24)) (nI 1).toNatClampNeg + nI 1)), τ38.2.2)) else none) else none) else none)))) else none) else some (((-100) - τ1.1 17), τ1))))
theorem kX7_isName : mKS yX7_isName cX7_isName 2 (some .boolean) 2 := ⟨tSta_X7_isName, tIni_X7, tCod_X7_isName, by decide +kernel⟩
set_option maxHeartbeats 4000000 in
set_option maxRecDepth 100000 in
theorem ct_X7_isName (l : Launch) (D : va_G) (cy : Nat → ClassId) (Z : (Nat → Prop) → State → Heap → Prop) (hzo : zOK Z) (w : va_W) (z0 : Int32) (z1 : Int32) (res : Int32) (h : fn_X7_isName z0 z1 = some res) : GD l D cy Z yX7_isName (zW yX7_isName cX7_isName 2 (some .boolean)) { frames := 0, cells := 0, slots := 0, locals := 0 } [.int (z0), .int (z1)] w (some (.int res)) w 0 0 := by
  refine g_entry (cc := cX7_isName) (maxL := 2) (by decide) rfl (Nat.le_of_ble_eq_true rfl) ?_
  intro κ hN hX hR
  have hX : GX κ cy Z cX7_isName (Cond.code yX7_isName cX7_isName 2 (some .boolean) :: zT) RX7 { frames := 0, cells := 0, slots := 0, locals := 0 } := hX
  have J87 : ∀ (s0 : Int32) , fn_X7_isName_L87 z0 z1 s0 = some res → GW κ 0 0 w 87 [] [.int (s0)] := by
    intro s0 h
    obtain ⟨g1, h⟩ := gd_some h
    exact g_retbD hR g1 (oi_0 h) rfl dX7_isName_87
  have J82 : fn_X7_isName_L82 z0 z1  = some res → GW κ 0 0 w 82 [] [] := by
    intro h
    refine g_iconst hX (v := nI 1) rfl dX7_isName_82 ?_
    refine g_goto hX 87 (by decide) dX7_isName_83 ?_
    exact J87 (nI 1) h
  have J69 : ∀ (s0 : Int32) , fn_X7_isName_L69 z0 z1 s0 = some res → GW κ 0 0 w 69 [] [.int (s0)] := by
    intro s0 h
    obtain ⟨g2, h⟩ := gd_some h
    exact g_retbD hR g2 (oi_0 h) rfl dX7_isName_69
  have J64 : fn_X7_isName_L64 z0 z1  = some res → GW κ 0 0 w 64 [] [] := by
    intro h
    refine g_iconst hX (v := nI 1) rfl dX7_isName_64 ?_
    refine g_goto hX 69 (by decide) dX7_isName_65 ?_
    exact J69 (nI 1) h
  have J51 : ∀ (s0 : Int32) , fn_X7_isName_L51 z0 z1 s0 = some res → GW κ 0 0 w 51 [] [.int (s0)] := by
    intro s0 h
    obtain ⟨g3, h⟩ := gd_some h
    exact g_retbD hR g3 (oi_0 h) rfl dX7_isName_51
  have J46 : fn_X7_isName_L46 z0 z1  = some res → GW κ 0 0 w 46 [] [] := by
    intro h
    refine g_iconst hX (v := nI 1) rfl dX7_isName_46 ?_
    refine g_goto hX 51 (by decide) dX7_isName_47 ?_
    exact J51 (nI 1) h
  show GW κ 0 0 w 0 [(0, .int (z0)), (1, .int (z1))] []
  refine g_iload_n hX 0 rfl rfl dX7_isName_0 ?_
  by_cases b1_0 : z0 = nI 0
  · replace h := if_p b1_0 h
    refine g_top (y := .int (nI 0)) (congrArg Value.int b1_0) ?_
    refine g_lookup hX 28 rfl rfl (by decide) dX7_isName_1 ?_
    refine g_iload_n hX 1 rfl rfl dX7_isName_28 ?_
    refine g_bipush hX (v := nI 119) (by decide) dX7_isName_29 ?_
    refine g_icmp_eq hX 46 (by decide) dX7_isName_31 (fun b31 => ?_) (fun b31 => ?_)
    · replace h := if_p b31 h
      refine g_lv [] rfl ?_
      exact J46  h
    · replace h := if_n b31 h
      refine g_iload_n hX 1 rfl rfl dX7_isName_34 ?_
      refine g_bipush hX (v := nI 108) (by decide) dX7_isName_35 ?_
      refine g_icmp_eq hX 46 (by decide) dX7_isName_37 (fun b37 => ?_) (fun b37 => ?_)
      · replace h := if_p b37 h
        refine g_lv [] rfl ?_
        exact J46  h
      · replace h := if_n b37 h
        refine g_iload_n hX 1 rfl rfl dX7_isName_40 ?_
        refine g_bipush hX (v := nI 99) (by decide) dX7_isName_41 ?_
        refine g_icmp_ne hX 50 (by decide) dX7_isName_43 (fun b43 => ?_) (fun b43 => ?_)
        · replace h := if_n b43 h
          refine g_iconst hX (v := nI 0) rfl dX7_isName_50 ?_
          refine g_lv [] rfl ?_
          exact J51 (nI 0) h
        · replace h := if_p b43 h
          refine g_lv [] rfl ?_
          exact J46  h
  · replace h := if_n b1_0 h
    by_cases b1_1 : z0 = nI 1
    · replace h := if_p b1_1 h
      refine g_top (y := .int (nI 1)) (congrArg Value.int b1_1) ?_
      refine g_lookup hX 52 rfl rfl (by decide) dX7_isName_1 ?_
      refine g_iload_n hX 1 rfl rfl dX7_isName_52 ?_
      refine g_bipush hX (v := nI 114) (by decide) dX7_isName_53 ?_
      refine g_icmp_eq hX 64 (by decide) dX7_isName_55 (fun b55 => ?_) (fun b55 => ?_)
      · replace h := if_p b55 h
        refine g_lv [] rfl ?_
        exact J64  h
      · replace h := if_n b55 h
        refine g_iload_n hX 1 rfl rfl dX7_isName_58 ?_
        refine g_bipush hX (v := nI 100) (by decide) dX7_isName_59 ?_
        refine g_icmp_ne hX 68 (by decide) dX7_isName_61 (fun b61 => ?_) (fun b61 => ?_)
        · replace h := if_n b61 h
          refine g_iconst hX (v := nI 0) rfl dX7_isName_68 ?_
          refine g_lv [] rfl ?_
          exact J69 (nI 0) h
        · replace h := if_p b61 h
          refine g_lv [] rfl ?_
          exact J64  h
    · replace h := if_n b1_1 h
      refine g_lookup (off := 69) hX 70 rfl (by rw [Jvm.Op.lookupswitch.offset_cons, if_neg (show ¬ ((0 : Int) = Int32.toInt (z0)) from lk_ne b1_0 (by decide))]; rw [Jvm.Op.lookupswitch.offset_cons, if_neg (show ¬ ((1 : Int) = Int32.toInt (z0)) from lk_ne b1_1 (by decide))]; rfl) (by decide) dX7_isName_1 ?_
      refine g_iload_n hX 1 rfl rfl dX7_isName_70 ?_
      refine g_bipush hX (v := nI 99) (by decide) dX7_isName_71 ?_
      refine g_icmp_eq hX 82 (by decide) dX7_isName_73 (fun b73 => ?_) (fun b73 => ?_)
      · replace h := if_p b73 h
        refine g_lv [] rfl ?_
        exact J82  h
      · replace h := if_n b73 h
        refine g_iload_n hX 1 rfl rfl dX7_isName_76 ?_
        refine g_bipush hX (v := nI 112) (by decide) dX7_isName_77 ?_
        refine g_icmp_ne hX 86 (by decide) dX7_isName_79 (fun b79 => ?_) (fun b79 => ?_)
        · replace h := if_n b79 h
          refine g_iconst hX (v := nI 0) rfl dX7_isName_86 ?_
          refine g_lv [] rfl ?_
          exact J87 (nI 0) h
        · replace h := if_p b79 h
          refine g_lv [] rfl ?_
          exact J82  h
theorem kX7_isLetter : mKV RX7 yX7_isLetter cX7_isLetter 2 (some .boolean) 1 := ⟨tIns_X7_isLetter, tSel_X7_isLetter, tIni_X7, tCod_X7_isLetter, by decide +kernel⟩
set_option maxHeartbeats 4000000 in
set_option maxRecDepth 100000 in
theorem ct_X7_isLetter (l : Launch) (D : va_G) (cy : Nat → ClassId) (Z : (Nat → Prop) → State → Heap → Prop) (hzo : zOK Z) {h0 : Nat} {a q : Nat → Nat} {C : (Nat → Int32) → (Nat → Int32) → (Nat → Nat → Int32) → (Nat → Nat → Int32) → va_W} (hC : mLens (cy 0) h0 a q C) (z1 : Int32) (μ μ2 : Mg) (x : Nat → Nat → Int32) (res : Int32) (h : fn_X7_isLetter z1 μ = some (res, μ2)) : GM l D cy Z yX7_isLetter (zW yX7_isLetter cX7_isLetter 2 (some .boolean)) { frames := 1, cells := 0, slots := 0, locals := 25 } [.ref h0, .int (z1)] (C μ.1 μ.2.1 μ.2.2 x) (fun rs w2 => rs = some (.int res) ∧ ∃ x2, w2 = C μ2.1 μ2.2.1 μ2.2.2 x2) 0 0 := by
  refine g_entry (cc := cX7_isLetter) (maxL := 2) (by decide) rfl (Nat.le_of_ble_eq_true rfl) ?_
  intro κ hN hX hR
  have hX : GX κ cy Z cX7_isLetter (Cond.code yX7_isLetter cX7_isLetter 2 (some .boolean) :: zT) RX7 { frames := 1, cells := 0, slots := 0, locals := 25 } := hX
  have J32 : ∀ (s0 : Int32) (μ : Mg) (x : Nat → Nat → Int32) , fn_X7_isLetter_L32 z1 s0 μ = some (res, μ2) → GW κ 0 0 (C μ.1 μ.2.1 μ.2.2 x) 32 [] [.int (s0)] := by
    intro s0 μ x h
    obtain ⟨g1, h⟩ := gd_some h
    exact g_retb hR g1 ⟨by rw [oi_1 h], x, by rw [← oi_2 h]⟩ dX7_isLetter_32
  have J31 : ∀ (μ : Mg) (x : Nat → Nat → Int32) , fn_X7_isLetter_L31 z1  μ = some (res, μ2) → GW κ 0 0 (C μ.1 μ.2.1 μ.2.2 x) 31 [] [] := by
    intro μ x h
    refine g_iconst hX (v := nI 0) rfl dX7_isLetter_31 ?_
    exact J32 (nI 0) μ x h
  show GW κ 0 0 (C μ.1 μ.2.1 μ.2.2 x) 0 [(0, .ref h0), (1, .int (z1))] []
  refine g_iload_n hX 1 rfl rfl dX7_isLetter_0 ?_
  refine g_aload_n hX 0 rfl rfl dX7_isLetter_1 ?_
  refine m_getI hX hC 16 (by decide) rfl tFld_X7_200 dX7_isLetter_2 ?_
  refine g_icmp_ge hX 31 (by decide) dX7_isLetter_5 (fun b5 => ?_) (fun b5 => ?_)
  · replace h := if_p b5 h
    refine g_lv [] rfl ?_
    exact J31  μ x h
  · replace h := if_n b5 h
    refine g_aload_n hX 0 rfl rfl dX7_isLetter_8 ?_
    refine m_getA hX hC 15 (by decide) rfl tFld_X7_52 dX7_isLetter_9 ?_
    refine g_iload_n hX 1 rfl rfl dX7_isLetter_12 ?_
    obtain ⟨g2, h⟩ := gd_some h
    refine m_ald hX hC 15 rfl g2 dX7_isLetter_13 ?_
    refine g_i2l hX dX7_isLetter_14 ?_
    refine g_ldc2 hX (v := Int32.toInt64 (97)) (zu tCoL_X7_204 rfl) dX7_isLetter_15 ?_
    refine g_ldc2 hX (v := Int32.toInt64 (122)) (zu tCoL_X7_206 rfl) dX7_isLetter_18 ?_
    refine s_call hX hzo [.long (Int32.toInt64 (μ.2.2 15 z1.toNatClampNeg)), .long (Int32.toInt64 ((97))), .long (Int32.toInt64 ((122)))] [] (c_isIn _ _ _ _ _ (μ.2.2 15 z1.toNatClampNeg) ((97)) ((122))) kX7_isIn tMet_X7_71 rfl rfl (Nat.le_of_ble_eq_true rfl) (Nat.le_of_ble_eq_true rfl) ⟨Nat.le_of_ble_eq_true rfl, Nat.le_of_ble_eq_true rfl⟩ rfl rfl (Nat.le_of_ble_eq_true rfl) dX7_isLetter_21 ?_
    refine g_if_eq hX 31 (by decide) dX7_isLetter_24 (fun b24 => ?_) (fun b24 => ?_)
    · replace h := if_p b24 h
      refine g_lv [] rfl ?_
      exact J31  μ x h
    · replace h := if_n b24 h
      refine g_iconst hX (v := nI 1) rfl dX7_isLetter_27 ?_
      refine g_goto hX 32 (by decide) dX7_isLetter_28 ?_
      refine g_lv [] rfl ?_
      exact J32 (nI 1) μ x h
theorem kX7_isDigit : mKV RX7 yX7_isDigit cX7_isDigit 2 (some .boolean) 1 := ⟨tIns_X7_isDigit, tSel_X7_isDigit, tIni_X7, tCod_X7_isDigit, by decide +kernel⟩
set_option maxHeartbeats 4000000 in
set_option maxRecDepth 100000 in
theorem ct_X7_isDigit (l : Launch) (D : va_G) (cy : Nat → ClassId) (Z : (Nat → Prop) → State → Heap → Prop) (hzo : zOK Z) {h0 : Nat} {a q : Nat → Nat} {C : (Nat → Int32) → (Nat → Int32) → (Nat → Nat → Int32) → (Nat → Nat → Int32) → va_W} (hC : mLens (cy 0) h0 a q C) (z1 : Int32) (μ μ2 : Mg) (x : Nat → Nat → Int32) (res : Int32) (h : fn_X7_isDigit z1 μ = some (res, μ2)) : GM l D cy Z yX7_isDigit (zW yX7_isDigit cX7_isDigit 2 (some .boolean)) { frames := 1, cells := 0, slots := 0, locals := 25 } [.ref h0, .int (z1)] (C μ.1 μ.2.1 μ.2.2 x) (fun rs w2 => rs = some (.int res) ∧ ∃ x2, w2 = C μ2.1 μ2.2.1 μ2.2.2 x2) 0 0 := by
  refine g_entry (cc := cX7_isDigit) (maxL := 2) (by decide) rfl (Nat.le_of_ble_eq_true rfl) ?_
  intro κ hN hX hR
  have hX : GX κ cy Z cX7_isDigit (Cond.code yX7_isDigit cX7_isDigit 2 (some .boolean) :: zT) RX7 { frames := 1, cells := 0, slots := 0, locals := 25 } := hX
  have J32 : ∀ (s0 : Int32) (μ : Mg) (x : Nat → Nat → Int32) , fn_X7_isDigit_L32 z1 s0 μ = some (res, μ2) → GW κ 0 0 (C μ.1 μ.2.1 μ.2.2 x) 32 [] [.int (s0)] := by
    intro s0 μ x h
    obtain ⟨g1, h⟩ := gd_some h
    exact g_retb hR g1 ⟨by rw [oi_1 h], x, by rw [← oi_2 h]⟩ dX7_isDigit_32
  have J31 : ∀ (μ : Mg) (x : Nat → Nat → Int32) , fn_X7_isDigit_L31 z1  μ = some (res, μ2) → GW κ 0 0 (C μ.1 μ.2.1 μ.2.2 x) 31 [] [] := by
    intro μ x h
    refine g_iconst hX (v := nI 0) rfl dX7_isDigit_31 ?_
    exact J32 (nI 0) μ x h
  show GW κ 0 0 (C μ.1 μ.2.1 μ.2.2 x) 0 [(0, .ref h0), (1, .int (z1))] []
  refine g_iload_n hX 1 rfl rfl dX7_isDigit_0 ?_
  refine g_aload_n hX 0 rfl rfl dX7_isDigit_1 ?_
  refine m_getI hX hC 16 (by decide) rfl tFld_X7_200 dX7_isDigit_2 ?_
  refine g_icmp_ge hX 31 (by decide) dX7_isDigit_5 (fun b5 => ?_) (fun b5 => ?_)
  · replace h := if_p b5 h
    refine g_lv [] rfl ?_
    exact J31  μ x h
  · replace h := if_n b5 h
    refine g_aload_n hX 0 rfl rfl dX7_isDigit_8 ?_
    refine m_getA hX hC 15 (by decide) rfl tFld_X7_52 dX7_isDigit_9 ?_
    refine g_iload_n hX 1 rfl rfl dX7_isDigit_12 ?_
    obtain ⟨g2, h⟩ := gd_some h
    refine m_ald hX hC 15 rfl g2 dX7_isDigit_13 ?_
    refine g_i2l hX dX7_isDigit_14 ?_
    refine g_ldc2 hX (v := Int32.toInt64 (48)) (zu tCoL_X7_208 rfl) dX7_isDigit_15 ?_
    refine g_ldc2 hX (v := Int32.toInt64 (57)) (zu tCoL_X7_210 rfl) dX7_isDigit_18 ?_
    refine s_call hX hzo [.long (Int32.toInt64 (μ.2.2 15 z1.toNatClampNeg)), .long (Int32.toInt64 ((48))), .long (Int32.toInt64 ((57)))] [] (c_isIn _ _ _ _ _ (μ.2.2 15 z1.toNatClampNeg) ((48)) ((57))) kX7_isIn tMet_X7_71 rfl rfl (Nat.le_of_ble_eq_true rfl) (Nat.le_of_ble_eq_true rfl) ⟨Nat.le_of_ble_eq_true rfl, Nat.le_of_ble_eq_true rfl⟩ rfl rfl (Nat.le_of_ble_eq_true rfl) dX7_isDigit_21 ?_
    refine g_if_eq hX 31 (by decide) dX7_isDigit_24 (fun b24 => ?_) (fun b24 => ?_)
    · replace h := if_p b24 h
      refine g_lv [] rfl ?_
      exact J31  μ x h
    · replace h := if_n b24 h
      refine g_iconst hX (v := nI 1) rfl dX7_isDigit_27 ?_
      refine g_goto hX 32 (by decide) dX7_isDigit_28 ?_
      refine g_lv [] rfl ?_
      exact J32 (nI 1) μ x h
theorem kX7_nextToken : mKV RX7 yX7_nextToken cX7_nextToken 3 none 0 := ⟨tIns_X7_nextToken, tSel_X7_nextToken, tIni_X7, tCod_X7_nextToken, by decide +kernel⟩
set_option maxHeartbeats 4000000 in
set_option maxRecDepth 100000 in
theorem ct_X7_nextToken (l : Launch) (D : va_G) (cy : Nat → ClassId) (Z : (Nat → Prop) → State → Heap → Prop) (hzo : zOK Z) {h0 : Nat} {a q : Nat → Nat} {C : (Nat → Int32) → (Nat → Int32) → (Nat → Nat → Int32) → (Nat → Nat → Int32) → va_W} (hC : mLens (cy 0) h0 a q C) (μ μ2 : Mg) (x : Nat → Nat → Int32) (res : Unit) (h : fn_X7_nextToken  μ = some (res, μ2)) : GM l D cy Z yX7_nextToken (zW yX7_nextToken cX7_nextToken 3 none) { frames := 2, cells := 0, slots := 0, locals := 46 } [.ref h0] (C μ.1 μ.2.1 μ.2.2 x) (fun rs w2 => rs = none ∧ ∃ x2, w2 = C μ2.1 μ2.2.1 μ2.2.2 x2) 0 0 := by
  refine g_entry (cc := cX7_nextToken) (maxL := 3) (by decide) rfl (Nat.le_of_ble_eq_true rfl) ?_
  intro κ hN hX hR
  have hX : GX κ cy Z cX7_nextToken (Cond.code yX7_nextToken cX7_nextToken 3 none :: zT) RX7 { frames := 2, cells := 0, slots := 0, locals := 46 } := hX
  have J339 : ∀ (μ : Mg) (x : Nat → Nat → Int32) , fn_X7_nextToken_L339   μ = some (res, μ2) → GW κ 0 0 (C μ.1 μ.2.1 μ.2.2 x) 339 [] [] := by
    intro μ x h
    exact g_retvP hR ⟨rfl, x, by rw [← oi_2 h]⟩ dX7_nextToken_339
  have J305 : ∀ (s0 : Int32) (μ : Mg) (x : Nat → Nat → Int32) , fn_X7_nextToken_L305  s0 μ = some (res, μ2) → GW κ 0 0 (C μ.1 μ.2.1 μ.2.2 x) 305 [] [.int (s0), .ref h0] := by
    intro s0 μ x h
    refine m_putI (ty := .int) hX hC 19 (by decide) rfl rfl (by decide +kernel) rfl rfl tFld_X7_215 dX7_nextToken_305 ?_
    refine g_goto hX 339 (by decide) dX7_nextToken_308 ?_
    exact J339  ((upd μ.1 19 s0, μ.2.1, μ.2.2)) x h
  have J300 : ∀ (μ : Mg) (x : Nat → Nat → Int32) , fn_X7_nextToken_L300   μ = some (res, μ2) → GW κ 0 0 (C μ.1 μ.2.1 μ.2.2 x) 300 [] [.ref h0] := by
    intro μ x h
    refine g_iconst hX (v := nI 4) rfl dX7_nextToken_300 ?_
    refine g_goto hX 305 (by decide) dX7_nextToken_301 ?_
    exact J305 (nI 4) μ x h
  have J282 : ∀ (v1 : Int32) (μ : Mg) (x : Nat → Nat → Int32) , fn_X7_nextToken_L282  v1 μ = some (res, μ2) → GW κ 0 0 (C μ.1 μ.2.1 μ.2.2 x) 282 [(0, .ref h0), (1, .int (v1))] [] := by
    intro v1 μ x h
    refine g_aload_n hX 0 rfl rfl dX7_nextToken_282 ?_
    refine g_iload_n hX 1 rfl rfl dX7_nextToken_283 ?_
    refine g_if_ne hX 300 (by decide) dX7_nextToken_284 (fun b284 => ?_) (fun b284 => ?_)
    · replace h := if_n b284 h
      refine g_lv [] rfl ?_
      exact J300  μ x h
    · replace h := if_p b284 h
      refine g_aload_n hX 0 rfl rfl dX7_nextToken_287 ?_
      refine m_getI hX hC 18 (by decide) rfl tFld_X7_212 dX7_nextToken_288 ?_
      refine g_aload_n hX 0 rfl rfl dX7_nextToken_291 ?_
      refine m_getI hX hC 17 (by decide) rfl tFld_X7_218 dX7_nextToken_292 ?_
      refine g_isub hX dX7_nextToken_295 ?_
      refine g_iconst hX (v := nI 4) rfl dX7_nextToken_296 ?_
      refine g_icmp_le hX 304 (by decide) dX7_nextToken_297 (fun b297 => ?_) (fun b297 => ?_)
      · replace h := if_p b297 h
        refine g_iconst hX (v := nI 2) rfl dX7_nextToken_304 ?_
        refine g_lv [] rfl ?_
        exact J305 (nI 2) μ x h
      · replace h := if_n b297 h
        refine g_lv [] rfl ?_
        exact J300  μ x h
  have J266 : ∀ (slf : Int32 → Mg → Option (Unit × Mg)) (hslf : ∀ (v1 : Int32) (μ : Mg) (x : Nat → Nat → Int32) , slf v1 μ = some (res, μ2) → GW κ 0 0 (C μ.1 μ.2.1 μ.2.2 x) 214 [(0, .ref h0), (1, .int (v1))] []) (k282 : Int32 → Mg → Option (Unit × Mg)) (hk282 : ∀ (v1 : Int32) (μ : Mg) (x : Nat → Nat → Int32) , k282 v1 μ = some (res, μ2) → GW κ 0 0 (C μ.1 μ.2.1 μ.2.2 x) 282 [(0, .ref h0), (1, .int (v1))] []), ∀ (v1 : Int32) (s0 : Int32) (μ : Mg) (x : Nat → Nat → Int32) , fn_X7_nextToken_L266  slf k282 v1 s0 μ = some (res, μ2) → GW κ 0 0 (C μ.1 μ.2.1 μ.2.2 x) 266 [(0, .ref h0), (1, .int (v1))] [.int (s0), .ref h0] := by
    intro slf hslf k282 hk282 v1 s0 μ x h
    refine m_putI (ty := .int) hX hC 20 (by decide) rfl rfl (by decide +kernel) rfl rfl tFld_X7_230 dX7_nextToken_266 ?_
    refine g_aload_n hX 0 rfl rfl dX7_nextToken_269 ?_
    refine g_dup hX rfl dX7_nextToken_270 ?_
    refine m_getI hX hC 18 (by decide) rfl tFld_X7_212 dX7_nextToken_271 ?_
    refine g_iconst hX (v := nI 1) rfl dX7_nextToken_274 ?_
    refine g_iadd hX dX7_nextToken_275 ?_
    refine m_putI (ty := .int) hX hC 18 (by decide) rfl rfl (by decide +kernel) rfl rfl tFld_X7_212 dX7_nextToken_276 ?_
    refine g_goto hX 214 (by decide) dX7_nextToken_279 ?_
    exact hslf v1 ((upd (upd μ.1 20 s0) 18 (((upd μ.1 20 s0) 18 + nI 1)), μ.2.1, μ.2.2)) x h
  have J214 : ∀ (k282 : Int32 → Mg → Option (Unit × Mg)) (hk282 : ∀ (v1 : Int32) (μ : Mg) (x : Nat → Nat → Int32) , k282 v1 μ = some (res, μ2) → GW κ 0 0 (C μ.1 μ.2.1 μ.2.2 x) 282 [(0, .ref h0), (1, .int (v1))] []) (fuel : Nat), ∀ (v1 : Int32) (μ : Mg) (x : Nat → Nat → Int32) , fn_X7_nextToken_L214  k282 fuel v1 μ = some (res, μ2) → GW κ 0 0 (C μ.1 μ.2.1 μ.2.2 x) 214 [(0, .ref h0), (1, .int (v1))] [] := by
    intro k282 hk282 fuel
    induction fuel with
    | zero => intro v1 μ x h; cases (show none = some (res, μ2) from h)
    | succ fuel ih =>
      intro v1 μ x h
      replace h : (ob (fn_X7_isDigit (μ.1 18) μ) (fun y219 τ219 => (if y219 = 0 then (k282 v1 τ219) else (if nI 4 ≤ (τ219.1 18 - τ219.1 17) then ((fn_X7_nextToken_L266  (fn_X7_nextToken_L214  k282 fuel) k282) v1 (τ219.1 20) τ219) else (if ¬ (τ219.1 18 < 0 ∨ 96 ≤ (τ219.1 18).toNatClampNeg) then ((fn_X7_nextToken_L266  (fn_X7_nextToken_L214  k282 fuel) k282) v1 ((((nI 10 * τ219.1 20) + τ219.2.2 15 (τ219.1 18).toNatClampNeg) - nI 48)) τ219) else none))))) = some (res, μ2) := h
      refine g_aload_n hX 0 rfl rfl dX7_nextToken_214 ?_
      refine g_aload_n hX 0 rfl rfl dX7_nextToken_215 ?_
      refine m_getI hX hC 18 (by decide) rfl tFld_X7_212 dX7_nextToken_216 ?_
      obtain ⟨y219, τ219, e219, h⟩ := ob_some h
      refine m_call hX hzo hC [.int (μ.1 18)] [] (ct_X7_isDigit _ _ _ _ hzo hC (μ.1 18) μ _ x _ e219) kX7_isDigit tMet_X7_227 rfl rfl (Nat.le_of_ble_eq_true rfl) (Nat.le_of_ble_eq_true rfl) ⟨Nat.le_of_ble_eq_true rfl, Nat.le_of_ble_eq_true rfl⟩ rfl (Nat.le_of_ble_eq_true rfl) dX7_nextToken_219 ?_
      rintro _ _ ⟨rfl, x219, rfl⟩
      show GW κ 0 0 (C τ219.1 τ219.2.1 τ219.2.2 x219) 222 [(0, .ref h0), (1, .int (v1))] [.int (y219)]
      refine g_if_eq hX 282 (by decide) dX7_nextToken_222 (fun b222 => ?_) (fun b222 => ?_)
      · replace h := if_p b222 h
        exact hk282 v1 τ219 x219 h
      · replace h := if_n b222 h
        refine g_aload_n hX 0 rfl rfl dX7_nextToken_225 ?_
        refine g_aload_n hX 0 rfl rfl dX7_nextToken_226 ?_
        refine m_getI hX hC 18 (by decide) rfl tFld_X7_212 dX7_nextToken_227 ?_
        refine g_aload_n hX 0 rfl rfl dX7_nextToken_230 ?_
        refine m_getI hX hC 17 (by decide) rfl tFld_X7_218 dX7_nextToken_231 ?_
        refine g_isub hX dX7_nextToken_234 ?_
        refine g_iconst hX (v := nI 4) rfl dX7_nextToken_235 ?_
        refine g_icmp_ge hX 262 (by decide) dX7_nextToken_236 (fun b236 => ?_) (fun b236 => ?_)
        · replace h := if_p b236 h
          refine g_aload_n hX 0 rfl rfl dX7_nextToken_262 ?_
          refine m_getI hX hC 20 (by decide) rfl tFld_X7_230 dX7_nextToken_263 ?_
          exact (J266 (fn_X7_nextToken_L214  k282 fuel) ih k282 hk282) v1 (τ219.1 20) τ219 x219 h
        · replace h := if_n b236 h
          refine g_bipush hX (v := nI 10) (by decide) dX7_nextToken_239 ?_
          refine g_aload_n hX 0 rfl rfl dX7_nextToken_241 ?_
          refine m_getI hX hC 20 (by decide) rfl tFld_X7_230 dX7_nextToken_242 ?_
          refine g_imul hX dX7_nextToken_245 ?_
          refine g_aload_n hX 0 rfl rfl dX7_nextToken_246 ?_
          refine m_getA hX hC 15 (by decide) rfl tFld_X7_52 dX7_nextToken_247 ?_
          refine g_aload_n hX 0 rfl rfl dX7_nextToken_250 ?_
          refine m_getI hX hC 18 (by decide) rfl tFld_X7_212 dX7_nextToken_251 ?_
          obtain ⟨g1, h⟩ := gd_some h
          refine m_ald hX hC 15 rfl g1 dX7_nextToken_254 ?_
          refine g_iadd hX dX7_nextToken_255 ?_
          refine g_bipush hX (v := nI 48) (by decide) dX7_nextToken_256 ?_
          refine g_isub hX dX7_nextToken_258 ?_
          refine g_goto hX 266 (by decide) dX7_nextToken_259 ?_
          exact (J266 (fn_X7_nextToken_L214  k282 fuel) ih k282 hk282) v1 ((((nI 10 * τ219.1 20) + τ219.2.2 15 (τ219.1 18).toNatClampNeg) - nI 48)) τ219 x219 h
  have J192 : ∀ (s0 : Int32) (μ : Mg) (x : Nat → Nat → Int32) , fn_X7_nextToken_L192  s0 μ = some (res, μ2) → GW κ 0 0 (C μ.1 μ.2.1 μ.2.2 x) 192 [] [.int (s0), .ref h0] := by
    intro s0 μ x h
    refine m_putI (ty := .int) hX hC 21 (by decide) rfl rfl (by decide +kernel) rfl rfl tFld_X7_224 dX7_nextToken_192 ?_
    refine g_goto hX 339 (by decide) dX7_nextToken_195 ?_
    exact J339  ((upd μ.1 21 s0, μ.2.1, μ.2.2)) x h
  have J162 : ∀ (s0 : Int32) (μ : Mg) (x : Nat → Nat → Int32) , fn_X7_nextToken_L162  s0 μ = some (res, μ2) → GW κ 0 0 (C μ.1 μ.2.1 μ.2.2 x) 162 [(0, .ref h0)] [.int (s0), .ref h0] := by
    intro s0 μ x h
    refine m_putI (ty := .int) hX hC 19 (by decide) rfl rfl (by decide +kernel) rfl rfl tFld_X7_215 dX7_nextToken_162 ?_
    refine g_aload_n hX 0 rfl rfl dX7_nextToken_165 ?_
    refine g_aload_n hX 0 rfl rfl dX7_nextToken_166 ?_
    refine m_getI hX hC 18 (by decide) rfl tFld_X7_212 dX7_nextToken_167 ?_
    refine g_aload_n hX 0 rfl rfl dX7_nextToken_170 ?_
    refine m_getI hX hC 17 (by decide) rfl tFld_X7_218 dX7_nextToken_171 ?_
    refine g_isub hX dX7_nextToken_174 ?_
    refine g_iconst hX (v := nI 1) rfl dX7_nextToken_175 ?_
    refine g_icmp_ne hX 191 (by decide) dX7_nextToken_176 (fun b176 => ?_) (fun b176 => ?_)
    · replace h := if_n b176 h
      refine g_iconst hX (v := nI 0) rfl dX7_nextToken_191 ?_
      refine g_lv [] rfl ?_
      exact J192 (nI 0) ((upd μ.1 19 s0, μ.2.1, μ.2.2)) x h
    · replace h := if_p b176 h
      refine g_aload_n hX 0 rfl rfl dX7_nextToken_179 ?_
      refine m_getA hX hC 15 (by decide) rfl tFld_X7_52 dX7_nextToken_180 ?_
      refine g_aload_n hX 0 rfl rfl dX7_nextToken_183 ?_
      refine m_getI hX hC 17 (by decide) rfl tFld_X7_218 dX7_nextToken_184 ?_
      obtain ⟨g2, h⟩ := gd_some h
      refine m_ald hX hC 15 rfl g2 dX7_nextToken_187 ?_
      refine g_goto hX 192 (by decide) dX7_nextToken_188 ?_
      refine g_lv [] rfl ?_
      exact J192 (μ.2.2 15 ((upd μ.1 19 s0) 17).toNatClampNeg) ((upd μ.1 19 s0, μ.2.1, μ.2.2)) x h
  have J152 : ∀ (v1 : Int32) (μ : Mg) (x : Nat → Nat → Int32) , fn_X7_nextToken_L152  v1 μ = some (res, μ2) → GW κ 0 0 (C μ.1 μ.2.1 μ.2.2 x) 152 [(0, .ref h0), (1, .int (v1))] [] := by
    intro v1 μ x h
    refine g_aload_n hX 0 rfl rfl dX7_nextToken_152 ?_
    refine g_iload_n hX 1 rfl rfl dX7_nextToken_153 ?_
    refine g_if_eq hX 161 (by decide) dX7_nextToken_154 (fun b154 => ?_) (fun b154 => ?_)
    · replace h := if_p b154 h
      refine g_iconst hX (v := nI 1) rfl dX7_nextToken_161 ?_
      refine g_lv [0] rfl ?_
      exact J162 (nI 1) μ x h
    · replace h := if_n b154 h
      refine g_iconst hX (v := nI 4) rfl dX7_nextToken_157 ?_
      refine g_goto hX 162 (by decide) dX7_nextToken_158 ?_
      refine g_lv [0] rfl ?_
      exact J162 (nI 4) μ x h
  have J128 : ∀ (k152 : Int32 → Mg → Option (Unit × Mg)) (hk152 : ∀ (v1 : Int32) (μ : Mg) (x : Nat → Nat → Int32) , k152 v1 μ = some (res, μ2) → GW κ 0 0 (C μ.1 μ.2.1 μ.2.2 x) 152 [(0, .ref h0), (1, .int (v1))] []) (fuel : Nat), ∀ (v1 : Int32) (μ : Mg) (x : Nat → Nat → Int32) , fn_X7_nextToken_L128  k152 fuel v1 μ = some (res, μ2) → GW κ 0 0 (C μ.1 μ.2.1 μ.2.2 x) 128 [(0, .ref h0), (1, .int (v1))] [] := by
    intro k152 hk152 fuel
    induction fuel with
    | zero => intro v1 μ x h; cases (show none = some (res, μ2) from h)
    | succ fuel ih =>
      intro v1 μ x h
      replace h : (ob (fn_X7_isLetter (μ.1 18) μ) (fun y133 τ133 => (if y133 = 0 then (k152 v1 τ133) else ((fn_X7_nextToken_L128  k152 fuel) v1 ((upd τ133.1 18 ((τ133.1 18 + nI 1)), τ133.2.1, τ133.2.2)))))) = some (res, μ2) := h
      refine g_aload_n hX 0 rfl rfl dX7_nextToken_128 ?_
      refine g_aload_n hX 0 rfl rfl dX7_nextToken_129 ?_
      refine m_getI hX hC 18 (by decide) rfl tFld_X7_212 dX7_nextToken_130 ?_
      obtain ⟨y133, τ133, e133, h⟩ := ob_some h
      refine m_call hX hzo hC [.int (μ.1 18)] [] (ct_X7_isLetter _ _ _ _ hzo hC (μ.1 18) μ _ x _ e133) kX7_isLetter tMet_X7_221 rfl rfl (Nat.le_of_ble_eq_true rfl) (Nat.le_of_ble_eq_true rfl) ⟨Nat.le_of_ble_eq_true rfl, Nat.le_of_ble_eq_true rfl⟩ rfl (Nat.le_of_ble_eq_true rfl) dX7_nextToken_133 ?_
      rintro _ _ ⟨rfl, x133, rfl⟩
      show GW κ 0 0 (C τ133.1 τ133.2.1 τ133.2.2 x133) 136 [(0, .ref h0), (1, .int (v1))] [.int (y133)]
      refine g_if_eq hX 152 (by decide) dX7_nextToken_136 (fun b136 => ?_) (fun b136 => ?_)
      · replace h := if_p b136 h
        exact hk152 v1 τ133 x133 h
      · replace h := if_n b136 h
        refine g_aload_n hX 0 rfl rfl dX7_nextToken_139 ?_
        refine g_dup hX rfl dX7_nextToken_140 ?_
        refine m_getI hX hC 18 (by decide) rfl tFld_X7_212 dX7_nextToken_141 ?_
        refine g_iconst hX (v := nI 1) rfl dX7_nextToken_144 ?_
        refine g_iadd hX dX7_nextToken_145 ?_
        refine m_putI (ty := .int) hX hC 18 (by decide) rfl rfl (by decide +kernel) rfl rfl tFld_X7_212 dX7_nextToken_146 ?_
        refine g_goto hX 128 (by decide) dX7_nextToken_149 ?_
        exact ih v1 ((upd τ133.1 18 ((τ133.1 18 + nI 1)), τ133.2.1, τ133.2.2)) x133 h
  have J89 : ∀ (s0 : Int32) (μ : Mg) (x : Nat → Nat → Int32) , fn_X7_nextToken_L89  s0 μ = some (res, μ2) → GW κ 0 0 (C μ.1 μ.2.1 μ.2.2 x) 89 [(0, .ref h0)] [.int (s0)] := by
    intro s0 μ x h
    refine g_istore_n (lv2 := [(1, .int (s0)), (0, .ref h0)]) hX 1 3 hN rfl (by decide) rfl dX7_nextToken_89 ?_
    refine g_aload_n hX 1 rfl rfl dX7_nextToken_90 ?_
    refine g_aload_n hX 1 rfl rfl dX7_nextToken_91 ?_
    refine m_getI hX hC 18 (by decide) rfl tFld_X7_212 dX7_nextToken_92 ?_
    refine m_putI (ty := .int) hX hC 17 (by decide) rfl rfl (by decide +kernel) rfl rfl tFld_X7_218 dX7_nextToken_95 ?_
    refine g_aload_n hX 1 rfl rfl dX7_nextToken_98 ?_
    refine m_getI hX hC 17 (by decide) rfl tFld_X7_218 dX7_nextToken_99 ?_
    refine g_aload_n hX 1 rfl rfl dX7_nextToken_102 ?_
    refine m_getI hX hC 16 (by decide) rfl tFld_X7_200 dX7_nextToken_103 ?_
    refine g_icmp_ne hX 117 (by decide) dX7_nextToken_106 (fun b106 => ?_) (fun b106 => ?_)
    · replace h := if_n b106 h
      refine g_aload_n hX 1 rfl rfl dX7_nextToken_117 ?_
      refine g_aload_n hX 1 rfl rfl dX7_nextToken_118 ?_
      refine m_getI hX hC 17 (by decide) rfl tFld_X7_218 dX7_nextToken_119 ?_
      obtain ⟨y122, τ122, e122, h⟩ := ob_some h
      refine m_call hX hzo hC [.int ((upd μ.1 17 (μ.1 18)) 17)] [] (ct_X7_isLetter _ _ _ _ hzo hC ((upd μ.1 17 (μ.1 18)) 17) ((upd μ.1 17 (μ.1 18), μ.2.1, μ.2.2)) _ x _ e122) kX7_isLetter tMet_X7_221 rfl rfl (Nat.le_of_ble_eq_true rfl) (Nat.le_of_ble_eq_true rfl) ⟨Nat.le_of_ble_eq_true rfl, Nat.le_of_ble_eq_true rfl⟩ rfl (Nat.le_of_ble_eq_true rfl) dX7_nextToken_122 ?_
      rintro _ _ ⟨rfl, x122, rfl⟩
      show GW κ 0 0 (C τ122.1 τ122.2.1 τ122.2.2 x122) 125 [(1, .int (s0)), (0, .ref h0)] [.int (y122)]
      refine g_if_eq hX 198 (by decide) dX7_nextToken_125 (fun b125 => ?_) (fun b125 => ?_)
      · replace h := if_p b125 h
        refine g_aload_n hX 1 rfl rfl dX7_nextToken_198 ?_
        refine g_aload_n hX 1 rfl rfl dX7_nextToken_199 ?_
        refine m_getI hX hC 17 (by decide) rfl tFld_X7_218 dX7_nextToken_200 ?_
        obtain ⟨y203, τ203, e203, h⟩ := ob_some h
        refine m_call hX hzo hC [.int (τ122.1 17)] [] (ct_X7_isDigit _ _ _ _ hzo hC (τ122.1 17) τ122 _ x122 _ e203) kX7_isDigit tMet_X7_227 rfl rfl (Nat.le_of_ble_eq_true rfl) (Nat.le_of_ble_eq_true rfl) ⟨Nat.le_of_ble_eq_true rfl, Nat.le_of_ble_eq_true rfl⟩ rfl (Nat.le_of_ble_eq_true rfl) dX7_nextToken_203 ?_
        rintro _ _ ⟨rfl, x203, rfl⟩
        show GW κ 0 0 (C τ203.1 τ203.2.1 τ203.2.2 x203) 206 [(1, .int (s0)), (0, .ref h0)] [.int (y203)]
        refine g_if_eq hX 311 (by decide) dX7_nextToken_206 (fun b206 => ?_) (fun b206 => ?_)
        · replace h := if_p b206 h
          refine g_aload_n hX 1 rfl rfl dX7_nextToken_311 ?_
          refine g_iconst hX (v := nI 3) rfl dX7_nextToken_312 ?_
          refine m_putI (ty := .int) hX hC 19 (by decide) rfl rfl (by decide +kernel) rfl rfl tFld_X7_215 dX7_nextToken_313 ?_
          refine g_aload_n hX 1 rfl rfl dX7_nextToken_316 ?_
          refine g_aload_n hX 1 rfl rfl dX7_nextToken_317 ?_
          refine m_getA hX hC 15 (by decide) rfl tFld_X7_52 dX7_nextToken_318 ?_
          refine g_aload_n hX 1 rfl rfl dX7_nextToken_321 ?_
          refine m_getI hX hC 17 (by decide) rfl tFld_X7_218 dX7_nextToken_322 ?_
          obtain ⟨g3, h⟩ := gd_some h
          refine m_ald hX hC 15 rfl g3 dX7_nextToken_325 ?_
          refine m_putI (ty := .int) hX hC 21 (by decide) rfl rfl (by decide +kernel) rfl rfl tFld_X7_224 dX7_nextToken_326 ?_
          refine g_aload_n hX 1 rfl rfl dX7_nextToken_329 ?_
          refine g_dup hX rfl dX7_nextToken_330 ?_
          refine m_getI hX hC 18 (by decide) rfl tFld_X7_212 dX7_nextToken_331 ?_
          refine g_iconst hX (v := nI 1) rfl dX7_nextToken_334 ?_
          refine g_iadd hX dX7_nextToken_335 ?_
          refine m_putI (ty := .int) hX hC 18 (by decide) rfl rfl (by decide +kernel) rfl rfl tFld_X7_212 dX7_nextToken_336 ?_
          refine g_lv [] rfl ?_
          exact J339  ((upd (upd (upd τ203.1 19 (nI 3)) 21 (τ203.2.2 15 ((upd τ203.1 19 (nI 3)) 17).toNatClampNeg)) 18 (((upd (upd τ203.1 19 (nI 3)) 21 (τ203.2.2 15 ((upd τ203.1 19 (nI 3)) 17).toNatClampNeg)) 18 + nI 1)), τ203.2.1, τ203.2.2)) x203 h
        · replace h := if_n b206 h
          refine g_aload_n hX 1 rfl rfl dX7_nextToken_209 ?_
          refine g_iconst hX (v := nI 0) rfl dX7_nextToken_210 ?_
          refine m_putI (ty := .int) hX hC 20 (by decide) rfl rfl (by decide +kernel) rfl rfl tFld_X7_230 dX7_nextToken_211 ?_
          refine g_lv [1, 0] rfl ?_
          exact (J214 (fn_X7_nextToken_L282 ) J282 4000) s0 ((upd τ203.1 20 (nI 0), τ203.2.1, τ203.2.2)) x203 h
      · replace h := if_n b125 h
        refine g_lv [1, 0] rfl ?_
        exact (J128 (fn_X7_nextToken_L152 ) J152 4000) s0 τ122 x122 h
    · replace h := if_p b106 h
      refine g_aload_n hX 1 rfl rfl dX7_nextToken_109 ?_
      refine g_iconst hX (v := nI 0) rfl dX7_nextToken_110 ?_
      refine m_putI (ty := .int) hX hC 19 (by decide) rfl rfl (by decide +kernel) rfl rfl tFld_X7_215 dX7_nextToken_111 ?_
      refine g_goto hX 339 (by decide) dX7_nextToken_114 ?_
      refine g_lv [] rfl ?_
      exact J339  ((upd (upd μ.1 17 (μ.1 18)) 19 (nI 0), μ.2.1, μ.2.2)) x h
  have J88 : ∀ (μ : Mg) (x : Nat → Nat → Int32) , fn_X7_nextToken_L88   μ = some (res, μ2) → GW κ 0 0 (C μ.1 μ.2.1 μ.2.2 x) 88 [(0, .ref h0)] [] := by
    intro μ x h
    refine g_iconst hX (v := nI 0) rfl dX7_nextToken_88 ?_
    exact J89 (nI 0) μ x h
  have J72 : ∀ (v1 : Int32) (v2 : Int32) (μ : Mg) (x : Nat → Nat → Int32) , fn_X7_nextToken_L72  v1 v2 μ = some (res, μ2) → GW κ 0 0 (C μ.1 μ.2.1 μ.2.2 x) 72 [(0, .ref h0), (1, .int (v1)), (2, .int (v2))] [] := by
    intro v1 v2 μ x h
    refine g_iload_n hX 1 rfl rfl dX7_nextToken_72 ?_
    refine g_if_eq hX 88 (by decide) dX7_nextToken_73 (fun b73 => ?_) (fun b73 => ?_)
    · replace h := if_p b73 h
      refine g_lv [0] rfl ?_
      exact J88  μ x h
    · replace h := if_n b73 h
      refine g_iload_n hX 2 rfl rfl dX7_nextToken_76 ?_
      refine g_aload_n hX 0 rfl rfl dX7_nextToken_77 ?_
      refine m_getI hX hC 18 (by decide) rfl tFld_X7_212 dX7_nextToken_78 ?_
      refine g_icmp_ne hX 88 (by decide) dX7_nextToken_81 (fun b81 => ?_) (fun b81 => ?_)
      · replace h := if_n b81 h
        refine g_lv [0] rfl ?_
        exact J88  μ x h
      · replace h := if_p b81 h
        refine g_iconst hX (v := nI 1) rfl dX7_nextToken_84 ?_
        refine g_goto hX 89 (by decide) dX7_nextToken_85 ?_
        refine g_lv [0] rfl ?_
        exact J89 (nI 1) μ x h
  have J34 : ∀ (k72 : Int32 → Int32 → Mg → Option (Unit × Mg)) (hk72 : ∀ (v1 : Int32) (v2 : Int32) (μ : Mg) (x : Nat → Nat → Int32) , k72 v1 v2 μ = some (res, μ2) → GW κ 0 0 (C μ.1 μ.2.1 μ.2.2 x) 72 [(0, .ref h0), (1, .int (v1)), (2, .int (v2))] []) (fuel : Nat), ∀ (v1 : Int32) (v2 : Int32) (μ : Mg) (x : Nat → Nat → Int32) , fn_X7_nextToken_L34  k72 fuel v1 v2 μ = some (res, μ2) → GW κ 0 0 (C μ.1 μ.2.1 μ.2.2 x) 34 [(0, .ref h0), (1, .int (v1)), (2, .int (v2))] [] := by
    intro k72 hk72 fuel
    induction fuel with
    | zero => intro v1 v2 μ x h; cases (show none = some (res, μ2) from h)
    | succ fuel ih =>
      intro v1 v2 μ x h
      replace h : (if μ.1 16 ≤ μ.1 18 then (k72 v1 v2 μ) else (if ¬ (μ.1 18 < 0 ∨ 96 ≤ (μ.1 18).toNatClampNeg) then (if μ.2.2 15 (μ.1 18).toNatClampNeg = nI 32 then ((fn_X7_nextToken_L34  k72 fuel) v1 v2 ((upd μ.1 18 ((μ.1 18 + nI 1)), μ.2.1, μ.2.2))) else (k72 v1 v2 μ)) else none)) = some (res, μ2) := h
      refine g_aload_n hX 0 rfl rfl dX7_nextToken_34 ?_
      refine m_getI hX hC 18 (by decide) rfl tFld_X7_212 dX7_nextToken_35 ?_
      refine g_aload_n hX 0 rfl rfl dX7_nextToken_38 ?_
      refine m_getI hX hC 16 (by decide) rfl tFld_X7_200 dX7_nextToken_39 ?_
      refine g_icmp_ge hX 72 (by decide) dX7_nextToken_42 (fun b42 => ?_) (fun b42 => ?_)
      · replace h := if_p b42 h
        exact hk72 v1 v2 μ x h
      · replace h := if_n b42 h
        refine g_aload_n hX 0 rfl rfl dX7_nextToken_45 ?_
        refine m_getA hX hC 15 (by decide) rfl tFld_X7_52 dX7_nextToken_46 ?_
        refine g_aload_n hX 0 rfl rfl dX7_nextToken_49 ?_
        refine m_getI hX hC 18 (by decide) rfl tFld_X7_212 dX7_nextToken_50 ?_
        obtain ⟨g4, h⟩ := gd_some h
        refine m_ald hX hC 15 rfl g4 dX7_nextToken_53 ?_
        refine g_bipush hX (v := nI 32) (by decide) dX7_nextToken_54 ?_
        refine g_icmp_ne hX 72 (by decide) dX7_nextToken_56 (fun b56 => ?_) (fun b56 => ?_)
        · replace h := if_n b56 h
          exact hk72 v1 v2 μ x h
        · replace h := if_p b56 h
          refine g_aload_n hX 0 rfl rfl dX7_nextToken_59 ?_
          refine g_dup hX rfl dX7_nextToken_60 ?_
          refine m_getI hX hC 18 (by decide) rfl tFld_X7_212 dX7_nextToken_61 ?_
          refine g_iconst hX (v := nI 1) rfl dX7_nextToken_64 ?_
          refine g_iadd hX dX7_nextToken_65 ?_
          refine m_putI (ty := .int) hX hC 18 (by decide) rfl rfl (by decide +kernel) rfl rfl tFld_X7_212 dX7_nextToken_66 ?_
          refine g_goto hX 34 (by decide) dX7_nextToken_69 ?_
          exact ih v1 v2 ((upd μ.1 18 ((μ.1 18 + nI 1)), μ.2.1, μ.2.2)) x h
  have J28 : ∀ (s0 : Int32) (μ : Mg) (x : Nat → Nat → Int32) , fn_X7_nextToken_L28  s0 μ = some (res, μ2) → GW κ 0 0 (C μ.1 μ.2.1 μ.2.2 x) 28 [(0, .ref h0)] [.int (s0)] := by
    intro s0 μ x h
    refine g_istore_n (lv2 := [(1, .int (s0)), (0, .ref h0)]) hX 1 3 hN rfl (by decide) rfl dX7_nextToken_28 ?_
    refine g_aload_n hX 1 rfl rfl dX7_nextToken_29 ?_
    refine m_getI hX hC 18 (by decide) rfl tFld_X7_212 dX7_nextToken_30 ?_
    refine g_istore_n (lv2 := [(2, .int (μ.1 18)), (1, .int (s0)), (0, .ref h0)]) hX 2 3 hN rfl (by decide) rfl dX7_nextToken_33 ?_
    refine g_lv [2, 1, 0] rfl ?_
    exact (J34 (fn_X7_nextToken_L72 ) J72 4000) s0 (μ.1 18) μ x h
  have J27 : ∀ (μ : Mg) (x : Nat → Nat → Int32) , fn_X7_nextToken_L27   μ = some (res, μ2) → GW κ 0 0 (C μ.1 μ.2.1 μ.2.2 x) 27 [(0, .ref h0)] [] := by
    intro μ x h
    refine g_iconst hX (v := nI 0) rfl dX7_nextToken_27 ?_
    exact J28 (nI 0) μ x h
  have J23 : ∀ (μ : Mg) (x : Nat → Nat → Int32) , fn_X7_nextToken_L23   μ = some (res, μ2) → GW κ 0 0 (C μ.1 μ.2.1 μ.2.2 x) 23 [(0, .ref h0)] [] := by
    intro μ x h
    refine g_iconst hX (v := nI 1) rfl dX7_nextToken_23 ?_
    refine g_goto hX 28 (by decide) dX7_nextToken_24 ?_
    exact J28 (nI 1) μ x h
  show GW κ 0 0 (C μ.1 μ.2.1 μ.2.2 x) 0 [(0, .ref h0)] []
  refine g_aload_n hX 0 rfl rfl dX7_nextToken_0 ?_
  refine m_getI hX hC 18 (by decide) rfl tFld_X7_212 dX7_nextToken_1 ?_
  refine g_if_le hX 27 (by decide) dX7_nextToken_4 (fun b4 => ?_) (fun b4 => ?_)
  · replace h := if_p b4 h
    exact J27  μ x h
  · replace h := if_n b4 h
    refine g_aload_n hX 0 rfl rfl dX7_nextToken_7 ?_
    refine m_getI hX hC 19 (by decide) rfl tFld_X7_215 dX7_nextToken_8 ?_
    refine g_iconst hX (v := nI 1) rfl dX7_nextToken_11 ?_
    refine g_icmp_eq hX 23 (by decide) dX7_nextToken_12 (fun b12 => ?_) (fun b12 => ?_)
    · replace h := if_p b12 h
      exact J23  μ x h
    · replace h := if_n b12 h
      refine g_aload_n hX 0 rfl rfl dX7_nextToken_15 ?_
      refine m_getI hX hC 19 (by decide) rfl tFld_X7_215 dX7_nextToken_16 ?_
      refine g_iconst hX (v := nI 2) rfl dX7_nextToken_19 ?_
      refine g_icmp_ne hX 27 (by decide) dX7_nextToken_20 (fun b20 => ?_) (fun b20 => ?_)
      · replace h := if_n b20 h
        exact J27  μ x h
      · replace h := if_p b20 h
        exact J23  μ x h
theorem kX7_isSign : mKV RX7 yX7_isSign cX7_isSign 2 (some .boolean) 1 := ⟨tIns_X7_isSign, tSel_X7_isSign, tIni_X7, tCod_X7_isSign, by decide +kernel⟩
set_option maxHeartbeats 4000000 in
set_option maxRecDepth 100000 in
theorem ct_X7_isSign (l : Launch) (D : va_G) (cy : Nat → ClassId) (Z : (Nat → Prop) → State → Heap → Prop) (hzo : zOK Z) {h0 : Nat} {a q : Nat → Nat} {C : (Nat → Int32) → (Nat → Int32) → (Nat → Nat → Int32) → (Nat → Nat → Int32) → va_W} (hC : mLens (cy 0) h0 a q C) (z1 : Int32) (μ μ2 : Mg) (x : Nat → Nat → Int32) (res : Int32) (h : fn_X7_isSign z1 μ = some (res, μ2)) : GM l D cy Z yX7_isSign (zW yX7_isSign cX7_isSign 2 (some .boolean)) { frames := 0, cells := 0, slots := 0, locals := 0 } [.ref h0, .int (z1)] (C μ.1 μ.2.1 μ.2.2 x) (fun rs w2 => rs = some (.int res) ∧ ∃ x2, w2 = C μ2.1 μ2.2.1 μ2.2.2 x2) 0 0 := by
  refine g_entry (cc := cX7_isSign) (maxL := 2) (by decide) rfl (Nat.le_of_ble_eq_true rfl) ?_
  intro κ hN hX hR
  have hX : GX κ cy Z cX7_isSign (Cond.code yX7_isSign cX7_isSign 2 (some .boolean) :: zT) RX7 { frames := 0, cells := 0, slots := 0, locals := 0 } := hX
  have J21 : ∀ (s0 : Int32) (μ : Mg) (x : Nat → Nat → Int32) , fn_X7_isSign_L21 z1 s0 μ = some (res, μ2) → GW κ 0 0 (C μ.1 μ.2.1 μ.2.2 x) 21 [] [.int (s0)] := by
    intro s0 μ x h
    obtain ⟨g1, h⟩ := gd_some h
    exact g_retb hR g1 ⟨by rw [oi_1 h], x, by rw [← oi_2 h]⟩ dX7_isSign_21
  have J20 : ∀ (μ : Mg) (x : Nat → Nat → Int32) , fn_X7_isSign_L20 z1  μ = some (res, μ2) → GW κ 0 0 (C μ.1 μ.2.1 μ.2.2 x) 20 [] [] := by
    intro μ x h
    refine g_iconst hX (v := nI 0) rfl dX7_isSign_20 ?_
    exact J21 (nI 0) μ x h
  show GW κ 0 0 (C μ.1 μ.2.1 μ.2.2 x) 0 [(0, .ref h0), (1, .int (z1))] []
  refine g_aload_n hX 0 rfl rfl dX7_isSign_0 ?_
  refine m_getI hX hC 19 (by decide) rfl tFld_X7_215 dX7_isSign_1 ?_
  refine g_iconst hX (v := nI 3) rfl dX7_isSign_4 ?_
  refine g_icmp_ne hX 20 (by decide) dX7_isSign_5 (fun b5 => ?_) (fun b5 => ?_)
  · replace h := if_n b5 h
    refine g_lv [] rfl ?_
    exact J20  μ x h
  · replace h := if_p b5 h
    refine g_aload_n hX 0 rfl rfl dX7_isSign_8 ?_
    refine m_getI hX hC 21 (by decide) rfl tFld_X7_224 dX7_isSign_9 ?_
    refine g_iload_n hX 1 rfl rfl dX7_isSign_12 ?_
    refine g_icmp_ne hX 20 (by decide) dX7_isSign_13 (fun b13 => ?_) (fun b13 => ?_)
    · replace h := if_n b13 h
      refine g_lv [] rfl ?_
      exact J20  μ x h
    · replace h := if_p b13 h
      refine g_iconst hX (v := nI 1) rfl dX7_isSign_16 ?_
      refine g_goto hX 21 (by decide) dX7_isSign_17 ?_
      refine g_lv [] rfl ?_
      exact J21 (nI 1) μ x h
theorem kX7_isWordAt : mKV RX7 yX7_isWordAt cX7_isWordAt 6 (some .boolean) 4 := ⟨tIns_X7_isWordAt, tSel_X7_isWordAt, tIni_X7, tCod_X7_isWordAt, by decide +kernel⟩
set_option maxHeartbeats 4000000 in
set_option maxRecDepth 100000 in
theorem ct_X7_isWordAt (l : Launch) (D : va_G) (cy : Nat → ClassId) (Z : (Nat → Prop) → State → Heap → Prop) (hzo : zOK Z) {h0 : Nat} {a q : Nat → Nat} {C : (Nat → Int32) → (Nat → Int32) → (Nat → Nat → Int32) → (Nat → Nat → Int32) → va_W} (hC : mLens (cy 0) h0 a q C) (z1 : Int32) (z2 : Int32) (z3 : Int32) (z4 : Int32) (μ μ2 : Mg) (x : Nat → Nat → Int32) (res : Int32) (h : fn_X7_isWordAt z1 z2 z3 z4 μ = some (res, μ2)) : GM l D cy Z yX7_isWordAt (zW yX7_isWordAt cX7_isWordAt 6 (some .boolean)) { frames := 0, cells := 0, slots := 0, locals := 0 } [.ref h0, .int (z1), .int (z2), .int (z3), .int (z4)] (C μ.1 μ.2.1 μ.2.2 x) (fun rs w2 => rs = some (.int res) ∧ ∃ x2, w2 = C μ2.1 μ2.2.1 μ2.2.2 x2) 0 0 := by
  refine g_entry (cc := cX7_isWordAt) (maxL := 6) (by decide) rfl (Nat.le_of_ble_eq_true rfl) ?_
  intro κ hN hX hR
  have hX : GX κ cy Z cX7_isWordAt (Cond.code yX7_isWordAt cX7_isWordAt 6 (some .boolean) :: zT) RX7 { frames := 0, cells := 0, slots := 0, locals := 0 } := hX
  have J103 : ∀ (s0 : Int32) (μ : Mg) (x : Nat → Nat → Int32) , fn_X7_isWordAt_L103 z1 z2 z3 z4 s0 μ = some (res, μ2) → GW κ 0 0 (C μ.1 μ.2.1 μ.2.2 x) 103 [] [.int (s0)] := by
    intro s0 μ x h
    obtain ⟨g1, h⟩ := gd_some h
    exact g_retb hR g1 ⟨by rw [oi_1 h], x, by rw [← oi_2 h]⟩ dX7_isWordAt_103
  have J102 : ∀ (μ : Mg) (x : Nat → Nat → Int32) , fn_X7_isWordAt_L102 z1 z2 z3 z4  μ = some (res, μ2) → GW κ 0 0 (C μ.1 μ.2.1 μ.2.2 x) 102 [] [] := by
    intro μ x h
    refine g_iconst hX (v := nI 0) rfl dX7_isWordAt_102 ?_
    exact J103 (nI 0) μ x h
  have J98 : ∀ (μ : Mg) (x : Nat → Nat → Int32) , fn_X7_isWordAt_L98 z1 z2 z3 z4  μ = some (res, μ2) → GW κ 0 0 (C μ.1 μ.2.1 μ.2.2 x) 98 [] [] := by
    intro μ x h
    refine g_iconst hX (v := nI 1) rfl dX7_isWordAt_98 ?_
    refine g_goto hX 103 (by decide) dX7_isWordAt_99 ?_
    exact J103 (nI 1) μ x h
  have J10 : ∀ (s0 : Int32) (μ : Mg) (x : Nat → Nat → Int32) , fn_X7_isWordAt_L10 z1 z2 z3 z4 s0 μ = some (res, μ2) → GW κ 0 0 (C μ.1 μ.2.1 μ.2.2 x) 10 [(0, .ref h0), (1, .int (z1)), (2, .int (z2)), (3, .int (z3)), (4, .int (z4))] [.int (s0)] := by
    intro s0 μ x h
    refine g_istore (lv2 := [(5, .int (s0)), (0, .ref h0), (1, .int (z1)), (2, .int (z2)), (3, .int (z3)), (4, .int (z4))]) hX 5 6 hN (by decide) rfl dX7_isWordAt_10 ?_
    refine g_aload_n hX 1 rfl rfl dX7_isWordAt_12 ?_
    refine m_getI hX hC 19 (by decide) rfl tFld_X7_215 dX7_isWordAt_13 ?_
    refine g_iconst hX (v := nI 1) rfl dX7_isWordAt_16 ?_
    refine g_icmp_ne hX 102 (by decide) dX7_isWordAt_17 (fun b17 => ?_) (fun b17 => ?_)
    · replace h := if_n b17 h
      refine g_lv [] rfl ?_
      exact J102  μ x h
    · replace h := if_p b17 h
      refine g_aload_n hX 1 rfl rfl dX7_isWordAt_20 ?_
      refine m_getI hX hC 18 (by decide) rfl tFld_X7_212 dX7_isWordAt_21 ?_
      refine g_aload_n hX 1 rfl rfl dX7_isWordAt_24 ?_
      refine m_getI hX hC 17 (by decide) rfl tFld_X7_218 dX7_isWordAt_25 ?_
      refine g_isub hX dX7_isWordAt_28 ?_
      refine g_iload hX 0 rfl dX7_isWordAt_29 ?_
      refine g_icmp_ne hX 102 (by decide) dX7_isWordAt_31 (fun b31 => ?_) (fun b31 => ?_)
      · replace h := if_n b31 h
        refine g_lv [] rfl ?_
        exact J102  μ x h
      · replace h := if_p b31 h
        refine g_aload_n hX 1 rfl rfl dX7_isWordAt_34 ?_
        refine m_getA hX hC 15 (by decide) rfl tFld_X7_52 dX7_isWordAt_35 ?_
        refine g_aload_n hX 1 rfl rfl dX7_isWordAt_38 ?_
        refine m_getI hX hC 17 (by decide) rfl tFld_X7_218 dX7_isWordAt_39 ?_
        obtain ⟨g2, h⟩ := gd_some h
        refine m_ald hX hC 15 rfl g2 dX7_isWordAt_42 ?_
        refine g_iload_n hX 2 rfl rfl dX7_isWordAt_43 ?_
        refine g_icmp_ne hX 102 (by decide) dX7_isWordAt_44 (fun b44 => ?_) (fun b44 => ?_)
        · replace h := if_n b44 h
          refine g_lv [] rfl ?_
          exact J102  μ x h
        · replace h := if_p b44 h
          refine g_aload_n hX 1 rfl rfl dX7_isWordAt_47 ?_
          refine m_getA hX hC 15 (by decide) rfl tFld_X7_52 dX7_isWordAt_48 ?_
          refine g_aload_n hX 1 rfl rfl dX7_isWordAt_51 ?_
          refine m_getI hX hC 17 (by decide) rfl tFld_X7_218 dX7_isWordAt_52 ?_
          refine g_iconst hX (v := nI 1) rfl dX7_isWordAt_55 ?_
          refine g_iadd hX dX7_isWordAt_56 ?_
          obtain ⟨g3, h⟩ := gd_some h
          refine m_ald hX hC 15 rfl g3 dX7_isWordAt_57 ?_
          refine g_iload_n hX 3 rfl rfl dX7_isWordAt_58 ?_
          refine g_icmp_ne hX 102 (by decide) dX7_isWordAt_59 (fun b59 => ?_) (fun b59 => ?_)
          · replace h := if_n b59 h
            refine g_lv [] rfl ?_
            exact J102  μ x h
          · replace h := if_p b59 h
            refine g_aload_n hX 1 rfl rfl dX7_isWordAt_62 ?_
            refine m_getA hX hC 15 (by decide) rfl tFld_X7_52 dX7_isWordAt_63 ?_
            refine g_aload_n hX 1 rfl rfl dX7_isWordAt_66 ?_
            refine m_getI hX hC 17 (by decide) rfl tFld_X7_218 dX7_isWordAt_67 ?_
            refine g_iconst hX (v := nI 2) rfl dX7_isWordAt_70 ?_
            refine g_iadd hX dX7_isWordAt_71 ?_
            obtain ⟨g4, h⟩ := gd_some h
            refine m_ald hX hC 15 rfl g4 dX7_isWordAt_72 ?_
            refine g_iload_n hX 4 rfl rfl dX7_isWordAt_73 ?_
            refine g_icmp_ne hX 102 (by decide) dX7_isWordAt_74 (fun b74 => ?_) (fun b74 => ?_)
            · replace h := if_n b74 h
              refine g_lv [] rfl ?_
              exact J102  μ x h
            · replace h := if_p b74 h
              refine g_iload hX 5 rfl dX7_isWordAt_77 ?_
              refine g_if_eq hX 98 (by decide) dX7_isWordAt_79 (fun b79 => ?_) (fun b79 => ?_)
              · replace h := if_p b79 h
                refine g_lv [] rfl ?_
                exact J98  μ x h
              · replace h := if_n b79 h
                refine g_aload_n hX 1 rfl rfl dX7_isWordAt_82 ?_
                refine m_getA hX hC 15 (by decide) rfl tFld_X7_52 dX7_isWordAt_83 ?_
                refine g_aload_n hX 1 rfl rfl dX7_isWordAt_86 ?_
                refine m_getI hX hC 17 (by decide) rfl tFld_X7_218 dX7_isWordAt_87 ?_
                refine g_iconst hX (v := nI 3) rfl dX7_isWordAt_90 ?_
                refine g_iadd hX dX7_isWordAt_91 ?_
                obtain ⟨g5, h⟩ := gd_some h
                refine m_ald hX hC 15 rfl g5 dX7_isWordAt_92 ?_
                refine g_iload hX 5 rfl dX7_isWordAt_93 ?_
                refine g_icmp_ne hX 102 (by decide) dX7_isWordAt_95 (fun b95 => ?_) (fun b95 => ?_)
                · replace h := if_n b95 h
                  refine g_lv [] rfl ?_
                  exact J102  μ x h
                · replace h := if_p b95 h
                  refine g_lv [] rfl ?_
                  exact J98  μ x h
  show GW κ 0 0 (C μ.1 μ.2.1 μ.2.2 x) 0 [(0, .ref h0), (1, .int (z1)), (2, .int (z2)), (3, .int (z3)), (4, .int (z4))] []
  refine g_iload hX 4 rfl dX7_isWordAt_0 ?_
  refine g_if_ne hX 9 (by decide) dX7_isWordAt_2 (fun b2 => ?_) (fun b2 => ?_)
  · replace h := if_n b2 h
    refine g_iconst hX (v := nI 4) rfl dX7_isWordAt_9 ?_
    exact J10 (nI 4) μ x h
  · replace h := if_p b2 h
    refine g_iconst hX (v := nI 3) rfl dX7_isWordAt_5 ?_
    refine g_goto hX 10 (by decide) dX7_isWordAt_6 ?_
    exact J10 (nI 3) μ x h
theorem kX7_key : mKV RX7 yX7_key cX7_key 1 (some .int) 0 := ⟨tIns_X7_key, tSel_X7_key, tIni_X7, tCod_X7_key, by decide +kernel⟩
set_option maxHeartbeats 4000000 in
set_option maxRecDepth 100000 in
theorem ct_X7_key (l : Launch) (D : va_G) (cy : Nat → ClassId) (Z : (Nat → Prop) → State → Heap → Prop) (hzo : zOK Z) {h0 : Nat} {a q : Nat → Nat} {C : (Nat → Int32) → (Nat → Int32) → (Nat → Nat → Int32) → (Nat → Nat → Int32) → va_W} (hC : mLens (cy 0) h0 a q C) (μ μ2 : Mg) (x : Nat → Nat → Int32) (res : Int32) (h : fn_X7_key  μ = some (res, μ2)) : GM l D cy Z yX7_key (zW yX7_key cX7_key 1 (some .int)) { frames := 1, cells := 0, slots := 0, locals := 25 } [.ref h0] (C μ.1 μ.2.1 μ.2.2 x) (fun rs w2 => rs = some (.int res) ∧ ∃ x2, w2 = C μ2.1 μ2.2.1 μ2.2.2 x2) 0 0 := by
  refine g_entry (cc := cX7_key) (maxL := 1) (by decide) rfl (Nat.le_of_ble_eq_true rfl) ?_
  intro κ hN hX hR
  have hX : GX κ cy Z cX7_key (Cond.code yX7_key cX7_key 1 (some .int) :: zT) RX7 { frames := 1, cells := 0, slots := 0, locals := 25 } := hX
  have J53 : ∀ (s0 : Int32) (μ : Mg) (x : Nat → Nat → Int32) , fn_X7_key_L53  s0 μ = some (res, μ2) → GW κ 0 0 (C μ.1 μ.2.1 μ.2.2 x) 53 [] [.int (s0)] := by
    intro s0 μ x h
    exact g_retiP hR ⟨by rw [oi_1 h], x, by rw [← oi_2 h]⟩ dX7_key_53
  show GW κ 0 0 (C μ.1 μ.2.1 μ.2.2 x) 0 [(0, .ref h0)] []
  refine g_aload_n hX 0 rfl rfl dX7_key_0 ?_
  refine g_bipush hX (v := nI 112) (by decide) dX7_key_1 ?_
  refine g_bipush hX (v := nI 117) (by decide) dX7_key_3 ?_
  refine g_bipush hX (v := nI 115) (by decide) dX7_key_5 ?_
  refine g_bipush hX (v := nI 104) (by decide) dX7_key_7 ?_
  obtain ⟨y9, τ9, e9, h⟩ := ob_some h
  refine m_call hX hzo hC [.int (nI 112), .int (nI 117), .int (nI 115), .int (nI 104)] [] (ct_X7_isWordAt _ _ _ _ hzo hC (nI 112) (nI 117) (nI 115) (nI 104) μ _ x _ e9) kX7_isWordAt tMet_X7_233 rfl rfl (Nat.le_of_ble_eq_true rfl) (Nat.le_of_ble_eq_true rfl) ⟨Nat.le_of_ble_eq_true rfl, Nat.le_of_ble_eq_true rfl⟩ rfl (Nat.le_of_ble_eq_true rfl) dX7_key_9 ?_
  rintro _ _ ⟨rfl, x9, rfl⟩
  show GW κ 0 0 (C τ9.1 τ9.2.1 τ9.2.2 x9) 12 [(0, .ref h0)] [.int (y9)]
  refine g_if_eq hX 17 (by decide) dX7_key_12 (fun b12 => ?_) (fun b12 => ?_)
  · replace h := if_p b12 h
    refine g_aload_n hX 0 rfl rfl dX7_key_17 ?_
    refine g_bipush hX (v := nI 102) (by decide) dX7_key_18 ?_
    refine g_bipush hX (v := nI 101) (by decide) dX7_key_20 ?_
    refine g_bipush hX (v := nI 101) (by decide) dX7_key_22 ?_
    refine g_iconst hX (v := nI 0) rfl dX7_key_24 ?_
    obtain ⟨y25, τ25, e25, h⟩ := ob_some h
    refine m_call hX hzo hC [.int (nI 102), .int (nI 101), .int (nI 101), .int (nI 0)] [] (ct_X7_isWordAt _ _ _ _ hzo hC (nI 102) (nI 101) (nI 101) (nI 0) τ9 _ x9 _ e25) kX7_isWordAt tMet_X7_233 rfl rfl (Nat.le_of_ble_eq_true rfl) (Nat.le_of_ble_eq_true rfl) ⟨Nat.le_of_ble_eq_true rfl, Nat.le_of_ble_eq_true rfl⟩ rfl (Nat.le_of_ble_eq_true rfl) dX7_key_25 ?_
    rintro _ _ ⟨rfl, x25, rfl⟩
    show GW κ 0 0 (C τ25.1 τ25.2.1 τ25.2.2 x25) 28 [(0, .ref h0)] [.int (y25)]
    refine g_if_eq hX 33 (by decide) dX7_key_28 (fun b28 => ?_) (fun b28 => ?_)
    · replace h := if_p b28 h
      refine g_aload_n hX 0 rfl rfl dX7_key_33 ?_
      refine g_bipush hX (v := nI 102) (by decide) dX7_key_34 ?_
      refine g_bipush hX (v := nI 105) (by decide) dX7_key_36 ?_
      refine g_bipush hX (v := nI 110) (by decide) dX7_key_38 ?_
      refine g_bipush hX (v := nI 101) (by decide) dX7_key_40 ?_
      obtain ⟨y42, τ42, e42, h⟩ := ob_some h
      refine m_call hX hzo hC [.int (nI 102), .int (nI 105), .int (nI 110), .int (nI 101)] [] (ct_X7_isWordAt _ _ _ _ hzo hC (nI 102) (nI 105) (nI 110) (nI 101) τ25 _ x25 _ e42) kX7_isWordAt tMet_X7_233 rfl rfl (Nat.le_of_ble_eq_true rfl) (Nat.le_of_ble_eq_true rfl) ⟨Nat.le_of_ble_eq_true rfl, Nat.le_of_ble_eq_true rfl⟩ rfl (Nat.le_of_ble_eq_true rfl) dX7_key_42 ?_
      rintro _ _ ⟨rfl, x42, rfl⟩
      show GW κ 0 0 (C τ42.1 τ42.2.1 τ42.2.2 x42) 45 [(0, .ref h0)] [.int (y42)]
      refine g_if_eq hX 52 (by decide) dX7_key_45 (fun b45 => ?_) (fun b45 => ?_)
      · replace h := if_p b45 h
        refine g_iconst hX (v := -1) (by decide) dX7_key_52 ?_
        refine g_lv [] rfl ?_
        exact J53 ((-1)) τ42 x42 h
      · replace h := if_n b45 h
        refine g_iconst hX (v := nI 2) rfl dX7_key_48 ?_
        refine g_goto hX 53 (by decide) dX7_key_49 ?_
        refine g_lv [] rfl ?_
        exact J53 (nI 2) τ42 x42 h
    · replace h := if_n b28 h
      refine g_iconst hX (v := nI 1) rfl dX7_key_31 ?_
      exact g_retiP hR ⟨by rw [oi_1 h], x25, by rw [← oi_2 h]⟩ dX7_key_32
  · replace h := if_n b12 h
    refine g_iconst hX (v := nI 0) rfl dX7_key_15 ?_
    exact g_retiP hR ⟨by rw [oi_1 h], x9, by rw [← oi_2 h]⟩ dX7_key_16
theorem kX7_step : mKV RX7 yX7_step cX7_step 3 none 2 := ⟨tIns_X7_step, tSel_X7_step, tIni_X7, tCod_X7_step, by decide +kernel⟩
set_option maxHeartbeats 4000000 in
set_option maxRecDepth 100000 in
theorem ct_X7_step (l : Launch) (D : va_G) (cy : Nat → ClassId) (Z : (Nat → Prop) → State → Heap → Prop) (hzo : zOK Z) {h0 : Nat} {a q : Nat → Nat} {C : (Nat → Int32) → (Nat → Int32) → (Nat → Nat → Int32) → (Nat → Nat → Int32) → va_W} (hC : mLens (cy 0) h0 a q C) (z1 : Int32) (z2 : Int32) (μ μ2 : Mg) (x : Nat → Nat → Int32) (res : Unit) (h : fn_X7_step z1 z2 μ = some (res, μ2)) : GM l D cy Z yX7_step (zW yX7_step cX7_step 3 none) { frames := 0, cells := 0, slots := 0, locals := 0 } [.ref h0, .int (z1), .int (z2)] (C μ.1 μ.2.1 μ.2.2 x) (fun rs w2 => rs = none ∧ ∃ x2, w2 = C μ2.1 μ2.2.1 μ2.2.2 x2) 0 0 := by
  refine g_entry (cc := cX7_step) (maxL := 3) (by decide) rfl (Nat.le_of_ble_eq_true rfl) ?_
  intro κ hN hX hR
  have hX : GX κ cy Z cX7_step (Cond.code yX7_step cX7_step 3 none :: zT) RX7 { frames := 0, cells := 0, slots := 0, locals := 0 } := hX
  show GW κ 0 0 (C μ.1 μ.2.1 μ.2.2 x) 0 [(0, .ref h0), (1, .int (z1)), (2, .int (z2))] []
  refine g_aload_n hX 0 rfl rfl dX7_step_0 ?_
  refine m_getA hX hC 0 (by decide) rfl tFld_X7_7 dX7_step_1 ?_
  refine g_aload_n hX 0 rfl rfl dX7_step_4 ?_
  refine m_getI hX hC 25 (by decide) rfl tFld_X7_237 dX7_step_5 ?_
  refine g_iconst hX (v := nI 2) rfl dX7_step_8 ?_
  refine g_aload_n hX 0 rfl rfl dX7_step_9 ?_
  refine m_getI hX hC 24 (by decide) rfl tFld_X7_240 dX7_step_10 ?_
  refine g_imul hX dX7_step_13 ?_
  refine g_iadd hX dX7_step_14 ?_
  refine g_iload_n hX 1 rfl rfl dX7_step_15 ?_
  obtain ⟨g1, h⟩ := gd_some h
  refine m0_ast hX hC g1 dX7_step_16 ?_
  refine g_aload_n hX 0 rfl rfl dX7_step_17 ?_
  refine m_getA hX hC 0 (by decide) rfl tFld_X7_7 dX7_step_18 ?_
  refine g_aload_n hX 0 rfl rfl dX7_step_21 ?_
  refine m_getI hX hC 25 (by decide) rfl tFld_X7_237 dX7_step_22 ?_
  refine g_iconst hX (v := nI 2) rfl dX7_step_25 ?_
  refine g_aload_n hX 0 rfl rfl dX7_step_26 ?_
  refine m_getI hX hC 24 (by decide) rfl tFld_X7_240 dX7_step_27 ?_
  refine g_imul hX dX7_step_30 ?_
  refine g_iadd hX dX7_step_31 ?_
  refine g_iconst hX (v := nI 1) rfl dX7_step_32 ?_
  refine g_iadd hX dX7_step_33 ?_
  refine g_iload_n hX 2 rfl rfl dX7_step_34 ?_
  obtain ⟨g2, h⟩ := gd_some h
  refine m0_ast hX hC g2 dX7_step_35 ?_
  refine g_aload_n hX 0 rfl rfl dX7_step_36 ?_
  refine g_dup hX rfl dX7_step_37 ?_
  refine m_getI hX hC 24 (by decide) rfl tFld_X7_240 dX7_step_38 ?_
  refine g_iconst hX (v := nI 1) rfl dX7_step_41 ?_
  refine g_iadd hX dX7_step_42 ?_
  refine m_putI (ty := .int) hX hC 24 (by decide) rfl rfl (by decide +kernel) rfl rfl tFld_X7_240 dX7_step_43 ?_
  exact g_retvP hR ⟨rfl, x, by rw [← oi_2 h]⟩ dX7_step_46
theorem kX7_part0 : mKV RX7 yX7_part0 cX7_part0 2 (some .boolean) 1 := ⟨tIns_X7_part0, tSel_X7_part0, tIni_X7, tCod_X7_part0, by decide +kernel⟩
theorem kX7_term : mKV RX7 yX7_term cX7_term 3 (some .boolean) 1 := ⟨tIns_X7_term, tSel_X7_term, tIni_X7, tCod_X7_term, by decide +kernel⟩
set_option maxHeartbeats 4000000 in
set_option maxRecDepth 100000 in
theorem ct_X7_term (l : Launch) (D : va_G) (cy : Nat → ClassId) (Z : (Nat → Prop) → State → Heap → Prop) (hzo : zOK Z) {h0 : Nat} {a q : Nat → Nat} {C : (Nat → Int32) → (Nat → Int32) → (Nat → Nat → Int32) → (Nat → Nat → Int32) → va_W} (hC : mLens (cy 0) h0 a q C) (p0 : Int32 → Mg → Option (Int32 × Mg)) (F L : Nat) (hF : 8 ≤ F) (hL : 300 ≤ L) (hp0 : ∀ (l : Launch) (D : va_G) (z1 : Int32) (μ μ2 : Mg) (x : Nat → Nat → Int32) (res : Int32), p0 z1 μ = some (res, μ2) → GM l D cy Z yX7_part0 (zW yX7_part0 cX7_part0 2 (some .boolean)) { frames := F, cells := 0, slots := 0, locals := L } [.ref h0, .int (z1)] (C μ.1 μ.2.1 μ.2.2 x) (fun rs w2 => rs = some (.int res) ∧ ∃ x2, w2 = C μ2.1 μ2.2.1 μ2.2.2 x2) 0 0) (z1 : Int32) (μ μ2 : Mg) (x : Nat → Nat → Int32) (res : Int32) (h : fn_X7_term p0 z1 μ = some (res, μ2)) : GM l D cy Z yX7_term (zW yX7_term cX7_term 3 (some .boolean)) { frames := F + 1, cells := 0, slots := 0, locals := L + 30 } [.ref h0, .int (z1)] (C μ.1 μ.2.1 μ.2.2 x) (fun rs w2 => rs = some (.int res) ∧ ∃ x2, w2 = C μ2.1 μ2.2.1 μ2.2.2 x2) 0 0 := by
  refine g_entry (cc := cX7_term) (maxL := 3) (by decide) rfl (Nat.le_of_ble_eq_true rfl) ?_
  intro κ hN hX hR
  have hX : GX κ cy Z cX7_term (Cond.code yX7_term cX7_term 3 (some .boolean) :: zT) RX7 { frames := F + 1, cells := 0, slots := 0, locals := L + 30 } := hX
  have J56 : ∀ (μ : Mg) (x : Nat → Nat → Int32) , fn_X7_term_L56 p0 z1  μ = some (res, μ2) → GW κ 0 0 (C μ.1 μ.2.1 μ.2.2 x) 56 [] [] := by
    intro μ x h
    refine g_iconst hX (v := nI 1) rfl dX7_term_56 ?_
    exact g_retb hR (by decide) ⟨by rw [oi_1 h], x, by rw [← oi_2 h]⟩ dX7_term_57
  have J28 : ∀ (slf : Mg → Option (Int32 × Mg)) (hslf : ∀ (μ : Mg) (x : Nat → Nat → Int32) , slf  μ = some (res, μ2) → GW κ 0 0 (C μ.1 μ.2.1 μ.2.2 x) 10 [(0, .ref h0), (1, .int (z1))] []) (k56 : Mg → Option (Int32 × Mg)) (hk56 : ∀ (μ : Mg) (x : Nat → Nat → Int32) , k56  μ = some (res, μ2) → GW κ 0 0 (C μ.1 μ.2.1 μ.2.2 x) 56 [] []), ∀ (μ : Mg) (x : Nat → Nat → Int32) , fn_X7_term_L28 p0 z1 slf k56  μ = some (res, μ2) → GW κ 0 0 (C μ.1 μ.2.1 μ.2.2 x) 28 [(0, .ref h0), (1, .int (z1))] [] := by
    intro slf hslf k56 hk56 μ x h
    refine g_aload_n hX 0 rfl rfl dX7_term_28 ?_
    refine m_getI hX hC 21 (by decide) rfl tFld_X7_224 dX7_term_29 ?_
    refine g_istore_n (lv2 := [(2, .int (μ.1 21)), (0, .ref h0), (1, .int (z1))]) hX 2 3 hN rfl (by decide) rfl dX7_term_32 ?_
    refine g_aload_n hX 1 rfl rfl dX7_term_33 ?_
    obtain ⟨y34, τ34, e34, h⟩ := ob_some h
    refine m_call hX hzo hC [] [] (ct_X7_nextToken _ _ _ _ hzo hC  μ _ x _ e34) kX7_nextToken tMet_X7_249 rfl rfl (by show 2 + 1 ≤ F + 1; omega) (by show 8 + (3 + 11) + (46) ≤ L + 30; omega) ⟨Nat.le_of_ble_eq_true rfl, Nat.le_of_ble_eq_true rfl⟩ rfl (Nat.le_of_ble_eq_true rfl) dX7_term_34 ?_
    rintro _ _ ⟨rfl, x34, rfl⟩
    show GW κ 0 0 (C τ34.1 τ34.2.1 τ34.2.2 x34) 37 [(2, .int (μ.1 21)), (0, .ref h0), (1, .int (z1))] []
    refine g_aload_n hX 1 rfl rfl dX7_term_37 ?_
    refine g_iload_n hX 2 rfl rfl dX7_term_38 ?_
    obtain ⟨y39, τ39, e39, h⟩ := ob_some h
    refine m_call hX hzo hC [.int (z1)] [] (hp0 _ _ z1 τ34 _ x34 _ e39) kX7_part0 tMet_X7_265 rfl rfl (by show F + 1 ≤ F + 1; omega) (by show 8 + (2 + 11) + (L) ≤ L + 30; omega) ⟨Nat.le_of_ble_eq_true rfl, Nat.le_of_ble_eq_true rfl⟩ rfl (Nat.le_of_ble_eq_true rfl) dX7_term_39 ?_
    rintro _ _ ⟨rfl, x39, rfl⟩
    show GW κ 0 0 (C τ39.1 τ39.2.1 τ39.2.2 x39) 42 [(2, .int (μ.1 21)), (0, .ref h0), (1, .int (z1))] [.int (y39)]
    refine g_if_ne hX 47 (by decide) dX7_term_42 (fun b42 => ?_) (fun b42 => ?_)
    · replace h := if_n b42 h
      refine g_aload_n hX 1 rfl rfl dX7_term_47 ?_
      refine g_iconst hX (v := nI 2) rfl dX7_term_48 ?_
      refine g_iload_n hX 0 rfl rfl dX7_term_49 ?_
      obtain ⟨y50, τ50, e50, h⟩ := ob_some h
      refine m_call hX hzo hC [.int (nI 2), .int (μ.1 21)] [] (ct_X7_step _ _ _ _ hzo hC (nI 2) (μ.1 21) τ39 _ x39 _ e50) kX7_step tMet_X7_252 rfl rfl (by show 0 + 1 ≤ F + 1; omega) (by show 8 + (3 + 11) + (0) ≤ L + 30; omega) ⟨Nat.le_of_ble_eq_true rfl, Nat.le_of_ble_eq_true rfl⟩ rfl (Nat.le_of_ble_eq_true rfl) dX7_term_50 ?_
      rintro _ _ ⟨rfl, x50, rfl⟩
      show GW κ 0 0 (C τ50.1 τ50.2.1 τ50.2.2 x50) 53 [(2, .int (μ.1 21)), (0, .ref h0), (1, .int (z1))] []
      refine g_goto hX 10 (by decide) dX7_term_53 ?_
      refine g_lv [1, 2] rfl ?_
      exact hslf  τ50 x50 h
    · replace h := if_p b42 h
      refine g_iconst hX (v := nI 0) rfl dX7_term_45 ?_
      exact g_retb hR (by decide) ⟨by rw [oi_1 h], x39, by rw [← oi_2 h]⟩ dX7_term_46
  have J10 : ∀ (k56 : Mg → Option (Int32 × Mg)) (hk56 : ∀ (μ : Mg) (x : Nat → Nat → Int32) , k56  μ = some (res, μ2) → GW κ 0 0 (C μ.1 μ.2.1 μ.2.2 x) 56 [] []) (fuel : Nat), ∀ (μ : Mg) (x : Nat → Nat → Int32) , fn_X7_term_L10 p0 z1 k56 fuel  μ = some (res, μ2) → GW κ 0 0 (C μ.1 μ.2.1 μ.2.2 x) 10 [(0, .ref h0), (1, .int (z1))] [] := by
    intro k56 hk56 fuel
    induction fuel with
    | zero => intro μ x h; cases (show none = some (res, μ2) from h)
    | succ fuel ih =>
      intro μ x h
      replace h : (ob (fn_X7_isSign (nI 42) μ) (fun y13 τ13 => (if y13 = 0 then (ob (fn_X7_isSign (nI 47) τ13) (fun y22 τ22 => (if y22 = 0 then (k56  τ22) else ((fn_X7_term_L28 p0 z1 (fn_X7_term_L10 p0 z1 k56 fuel) k56)  τ22)))) else ((fn_X7_term_L28 p0 z1 (fn_X7_term_L10 p0 z1 k56 fuel) k56)  τ13)))) = some (res, μ2) := h
      refine g_aload_n hX 0 rfl rfl dX7_term_10 ?_
      refine g_bipush hX (v := nI 42) (by decide) dX7_term_11 ?_
      obtain ⟨y13, τ13, e13, h⟩ := ob_some h
      refine m_call hX hzo hC [.int (nI 42)] [] (ct_X7_isSign _ _ _ _ hzo hC (nI 42) μ _ x _ e13) kX7_isSign tMet_X7_246 rfl rfl (by show 0 + 1 ≤ F + 1; omega) (by show 8 + (2 + 11) + (0) ≤ L + 30; omega) ⟨Nat.le_of_ble_eq_true rfl, Nat.le_of_ble_eq_true rfl⟩ rfl (Nat.le_of_ble_eq_true rfl) dX7_term_13 ?_
      rintro _ _ ⟨rfl, x13, rfl⟩
      show GW κ 0 0 (C τ13.1 τ13.2.1 τ13.2.2 x13) 16 [(0, .ref h0), (1, .int (z1))] [.int (y13)]
      refine g_if_ne hX 28 (by decide) dX7_term_16 (fun b16 => ?_) (fun b16 => ?_)
      · replace h := if_n b16 h
        exact (J28 (fn_X7_term_L10 p0 z1 k56 fuel) ih k56 hk56)  τ13 x13 h
      · replace h := if_p b16 h
        refine g_aload_n hX 0 rfl rfl dX7_term_19 ?_
        refine g_bipush hX (v := nI 47) (by decide) dX7_term_20 ?_
        obtain ⟨y22, τ22, e22, h⟩ := ob_some h
        refine m_call hX hzo hC [.int (nI 47)] [] (ct_X7_isSign _ _ _ _ hzo hC (nI 47) τ13 _ x13 _ e22) kX7_isSign tMet_X7_246 rfl rfl (by show 0 + 1 ≤ F + 1; omega) (by show 8 + (2 + 11) + (0) ≤ L + 30; omega) ⟨Nat.le_of_ble_eq_true rfl, Nat.le_of_ble_eq_true rfl⟩ rfl (Nat.le_of_ble_eq_true rfl) dX7_term_22 ?_
        rintro _ _ ⟨rfl, x22, rfl⟩
        show GW κ 0 0 (C τ22.1 τ22.2.1 τ22.2.2 x22) 25 [(0, .ref h0), (1, .int (z1))] [.int (y22)]
        refine g_if_eq hX 56 (by decide) dX7_term_25 (fun b25 => ?_) (fun b25 => ?_)
        · replace h := if_p b25 h
          refine g_lv [] rfl ?_
          exact hk56  τ22 x22 h
        · replace h := if_n b25 h
          exact (J28 (fn_X7_term_L10 p0 z1 k56 fuel) ih k56 hk56)  τ22 x22 h
  show GW κ 0 0 (C μ.1 μ.2.1 μ.2.2 x) 0 [(0, .ref h0), (1, .int (z1))] []
  refine g_aload_n hX 0 rfl rfl dX7_term_0 ?_
  refine g_iload_n hX 1 rfl rfl dX7_term_1 ?_
  obtain ⟨y2, τ2, e2, h⟩ := ob_some h
  refine m_call hX hzo hC [.int (z1)] [] (hp0 _ _ z1 μ _ x _ e2) kX7_part0 tMet_X7_265 rfl rfl (by show F + 1 ≤ F + 1; omega) (by show 8 + (2 + 11) + (L) ≤ L + 30; omega) ⟨Nat.le_of_ble_eq_true rfl, Nat.le_of_ble_eq_true rfl⟩ rfl (Nat.le_of_ble_eq_true rfl) dX7_term_2 ?_
  rintro _ _ ⟨rfl, x2, rfl⟩
  show GW κ 0 0 (C τ2.1 τ2.2.1 τ2.2.2 x2) 5 [(0, .ref h0), (1, .int (z1))] [.int (y2)]
  refine g_if_ne hX 10 (by decide) dX7_term_5 (fun b5 => ?_) (fun b5 => ?_)
  · replace h := if_n b5 h
    exact (J10 (fn_X7_term_L56 p0 z1) J56 4000)  τ2 x2 h
  · replace h := if_p b5 h
    refine g_iconst hX (v := nI 0) rfl dX7_term_8 ?_
    exact g_retb hR (by decide) ⟨by rw [oi_1 h], x2, by rw [← oi_2 h]⟩ dX7_term_9
theorem kX7_sum : mKV RX7 yX7_sum cX7_sum 3 (some .boolean) 1 := ⟨tIns_X7_sum, tSel_X7_sum, tIni_X7, tCod_X7_sum, by decide +kernel⟩
set_option maxHeartbeats 4000000 in
set_option maxRecDepth 100000 in
theorem ct_X7_sum (l : Launch) (D : va_G) (cy : Nat → ClassId) (Z : (Nat → Prop) → State → Heap → Prop) (hzo : zOK Z) {h0 : Nat} {a q : Nat → Nat} {C : (Nat → Int32) → (Nat → Int32) → (Nat → Nat → Int32) → (Nat → Nat → Int32) → va_W} (hC : mLens (cy 0) h0 a q C) (p0 : Int32 → Mg → Option (Int32 × Mg)) (F L : Nat) (hF : 8 ≤ F) (hL : 300 ≤ L) (hp0 : ∀ (l : Launch) (D : va_G) (z1 : Int32) (μ μ2 : Mg) (x : Nat → Nat → Int32) (res : Int32), p0 z1 μ = some (res, μ2) → GM l D cy Z yX7_part0 (zW yX7_part0 cX7_part0 2 (some .boolean)) { frames := F, cells := 0, slots := 0, locals := L } [.ref h0, .int (z1)] (C μ.1 μ.2.1 μ.2.2 x) (fun rs w2 => rs = some (.int res) ∧ ∃ x2, w2 = C μ2.1 μ2.2.1 μ2.2.2 x2) 0 0) (z1 : Int32) (μ μ2 : Mg) (x : Nat → Nat → Int32) (res : Int32) (h : fn_X7_sum p0 z1 μ = some (res, μ2)) : GM l D cy Z yX7_sum (zW yX7_sum cX7_sum 3 (some .boolean)) { frames := F + 2, cells := 0, slots := 0, locals := L + 60 } [.ref h0, .int (z1)] (C μ.1 μ.2.1 μ.2.2 x) (fun rs w2 => rs = some (.int res) ∧ ∃ x2, w2 = C μ2.1 μ2.2.1 μ2.2.2 x2) 0 0 := by
  refine g_entry (cc := cX7_sum) (maxL := 3) (by decide) rfl (Nat.le_of_ble_eq_true rfl) ?_
  intro κ hN hX hR
  have hX : GX κ cy Z cX7_sum (Cond.code yX7_sum cX7_sum 3 (some .boolean) :: zT) RX7 { frames := F + 2, cells := 0, slots := 0, locals := L + 60 } := hX
  have J56 : ∀ (μ : Mg) (x : Nat → Nat → Int32) , fn_X7_sum_L56 p0 z1  μ = some (res, μ2) → GW κ 0 0 (C μ.1 μ.2.1 μ.2.2 x) 56 [] [] := by
    intro μ x h
    refine g_iconst hX (v := nI 1) rfl dX7_sum_56 ?_
    exact g_retb hR (by decide) ⟨by rw [oi_1 h], x, by rw [← oi_2 h]⟩ dX7_sum_57
  have J28 : ∀ (slf : Mg → Option (Int32 × Mg)) (hslf : ∀ (μ : Mg) (x : Nat → Nat → Int32) , slf  μ = some (res, μ2) → GW κ 0 0 (C μ.1 μ.2.1 μ.2.2 x) 10 [(0, .ref h0), (1, .int (z1))] []) (k56 : Mg → Option (Int32 × Mg)) (hk56 : ∀ (μ : Mg) (x : Nat → Nat → Int32) , k56  μ = some (res, μ2) → GW κ 0 0 (C μ.1 μ.2.1 μ.2.2 x) 56 [] []), ∀ (μ : Mg) (x : Nat → Nat → Int32) , fn_X7_sum_L28 p0 z1 slf k56  μ = some (res, μ2) → GW κ 0 0 (C μ.1 μ.2.1 μ.2.2 x) 28 [(0, .ref h0), (1, .int (z1))] [] := by
    intro slf hslf k56 hk56 μ x h
    refine g_aload_n hX 0 rfl rfl dX7_sum_28 ?_
    refine m_getI hX hC 21 (by decide) rfl tFld_X7_224 dX7_sum_29 ?_
    refine g_istore_n (lv2 := [(2, .int (μ.1 21)), (0, .ref h0), (1, .int (z1))]) hX 2 3 hN rfl (by decide) rfl dX7_sum_32 ?_
    refine g_aload_n hX 1 rfl rfl dX7_sum_33 ?_
    obtain ⟨y34, τ34, e34, h⟩ := ob_some h
    refine m_call hX hzo hC [] [] (ct_X7_nextToken _ _ _ _ hzo hC  μ _ x _ e34) kX7_nextToken tMet_X7_249 rfl rfl (by show 2 + 1 ≤ F + 2; omega) (by show 8 + (3 + 11) + (46) ≤ L + 60; omega) ⟨Nat.le_of_ble_eq_true rfl, Nat.le_of_ble_eq_true rfl⟩ rfl (Nat.le_of_ble_eq_true rfl) dX7_sum_34 ?_
    rintro _ _ ⟨rfl, x34, rfl⟩
    show GW κ 0 0 (C τ34.1 τ34.2.1 τ34.2.2 x34) 37 [(2, .int (μ.1 21)), (0, .ref h0), (1, .int (z1))] []
    refine g_aload_n hX 1 rfl rfl dX7_sum_37 ?_
    refine g_iload_n hX 2 rfl rfl dX7_sum_38 ?_
    obtain ⟨y39, τ39, e39, h⟩ := ob_some h
    refine m_call hX hzo hC [.int (z1)] [] (ct_X7_term _ _ _ _ hzo hC p0 F L hF hL hp0 z1 τ34 _ x34 _ e39) kX7_term tMet_X7_262 rfl rfl (by show F + 1 + 1 ≤ F + 2; omega) (by show 8 + (3 + 11) + (L + 30) ≤ L + 60; omega) ⟨Nat.le_of_ble_eq_true rfl, Nat.le_of_ble_eq_true rfl⟩ rfl (Nat.le_of_ble_eq_true rfl) dX7_sum_39 ?_
    rintro _ _ ⟨rfl, x39, rfl⟩
    show GW κ 0 0 (C τ39.1 τ39.2.1 τ39.2.2 x39) 42 [(2, .int (μ.1 21)), (0, .ref h0), (1, .int (z1))] [.int (y39)]
    refine g_if_ne hX 47 (by decide) dX7_sum_42 (fun b42 => ?_) (fun b42 => ?_)
    · replace h := if_n b42 h
      refine g_aload_n hX 1 rfl rfl dX7_sum_47 ?_
      refine g_iconst hX (v := nI 2) rfl dX7_sum_48 ?_
      refine g_iload_n hX 0 rfl rfl dX7_sum_49 ?_
      obtain ⟨y50, τ50, e50, h⟩ := ob_some h
      refine m_call hX hzo hC [.int (nI 2), .int (μ.1 21)] [] (ct_X7_step _ _ _ _ hzo hC (nI 2) (μ.1 21) τ39 _ x39 _ e50) kX7_step tMet_X7_252 rfl rfl (by show 0 + 1 ≤ F + 2; omega) (by show 8 + (3 + 11) + (0) ≤ L + 60; omega) ⟨Nat.le_of_ble_eq_true rfl, Nat.le_of_ble_eq_true rfl⟩ rfl (Nat.le_of_ble_eq_true rfl) dX7_sum_50 ?_
      rintro _ _ ⟨rfl, x50, rfl⟩
      show GW κ 0 0 (C τ50.1 τ50.2.1 τ50.2.2 x50) 53 [(2, .int (μ.1 21)), (0, .ref h0), (1, .int (z1))] []
      refine g_goto hX 10 (by decide) dX7_sum_53 ?_
      refine g_lv [1, 2] rfl ?_
      exact hslf  τ50 x50 h
    · replace h := if_p b42 h
      refine g_iconst hX (v := nI 0) rfl dX7_sum_45 ?_
      exact g_retb hR (by decide) ⟨by rw [oi_1 h], x39, by rw [← oi_2 h]⟩ dX7_sum_46
  have J10 : ∀ (k56 : Mg → Option (Int32 × Mg)) (hk56 : ∀ (μ : Mg) (x : Nat → Nat → Int32) , k56  μ = some (res, μ2) → GW κ 0 0 (C μ.1 μ.2.1 μ.2.2 x) 56 [] []) (fuel : Nat), ∀ (μ : Mg) (x : Nat → Nat → Int32) , fn_X7_sum_L10 p0 z1 k56 fuel  μ = some (res, μ2) → GW κ 0 0 (C μ.1 μ.2.1 μ.2.2 x) 10 [(0, .ref h0), (1, .int (z1))] [] := by
    intro k56 hk56 fuel
    induction fuel with
    | zero => intro μ x h; cases (show none = some (res, μ2) from h)
    | succ fuel ih =>
      intro μ x h
      replace h : (ob (fn_X7_isSign (nI 43) μ) (fun y13 τ13 => (if y13 = 0 then (ob (fn_X7_isSign (nI 45) τ13) (fun y22 τ22 => (if y22 = 0 then (k56  τ22) else ((fn_X7_sum_L28 p0 z1 (fn_X7_sum_L10 p0 z1 k56 fuel) k56)  τ22)))) else ((fn_X7_sum_L28 p0 z1 (fn_X7_sum_L10 p0 z1 k56 fuel) k56)  τ13)))) = some (res, μ2) := h
      refine g_aload_n hX 0 rfl rfl dX7_sum_10 ?_
      refine g_bipush hX (v := nI 43) (by decide) dX7_sum_11 ?_
      obtain ⟨y13, τ13, e13, h⟩ := ob_some h
      refine m_call hX hzo hC [.int (nI 43)] [] (ct_X7_isSign _ _ _ _ hzo hC (nI 43) μ _ x _ e13) kX7_isSign tMet_X7_246 rfl rfl (by show 0 + 1 ≤ F + 2; omega) (by show 8 + (2 + 11) + (0) ≤ L + 60; omega) ⟨Nat.le_of_ble_eq_true rfl, Nat.le_of_ble_eq_true rfl⟩ rfl (Nat.le_of_ble_eq_true rfl) dX7_sum_13 ?_
      rintro _ _ ⟨rfl, x13, rfl⟩
      show GW κ 0 0 (C τ13.1 τ13.2.1 τ13.2.2 x13) 16 [(0, .ref h0), (1, .int (z1))] [.int (y13)]
      refine g_if_ne hX 28 (by decide) dX7_sum_16 (fun b16 => ?_) (fun b16 => ?_)
      · replace h := if_n b16 h
        exact (J28 (fn_X7_sum_L10 p0 z1 k56 fuel) ih k56 hk56)  τ13 x13 h
      · replace h := if_p b16 h
        refine g_aload_n hX 0 rfl rfl dX7_sum_19 ?_
        refine g_bipush hX (v := nI 45) (by decide) dX7_sum_20 ?_
        obtain ⟨y22, τ22, e22, h⟩ := ob_some h
        refine m_call hX hzo hC [.int (nI 45)] [] (ct_X7_isSign _ _ _ _ hzo hC (nI 45) τ13 _ x13 _ e22) kX7_isSign tMet_X7_246 rfl rfl (by show 0 + 1 ≤ F + 2; omega) (by show 8 + (2 + 11) + (0) ≤ L + 60; omega) ⟨Nat.le_of_ble_eq_true rfl, Nat.le_of_ble_eq_true rfl⟩ rfl (Nat.le_of_ble_eq_true rfl) dX7_sum_22 ?_
        rintro _ _ ⟨rfl, x22, rfl⟩
        show GW κ 0 0 (C τ22.1 τ22.2.1 τ22.2.2 x22) 25 [(0, .ref h0), (1, .int (z1))] [.int (y22)]
        refine g_if_eq hX 56 (by decide) dX7_sum_25 (fun b25 => ?_) (fun b25 => ?_)
        · replace h := if_p b25 h
          refine g_lv [] rfl ?_
          exact hk56  τ22 x22 h
        · replace h := if_n b25 h
          exact (J28 (fn_X7_sum_L10 p0 z1 k56 fuel) ih k56 hk56)  τ22 x22 h
  show GW κ 0 0 (C μ.1 μ.2.1 μ.2.2 x) 0 [(0, .ref h0), (1, .int (z1))] []
  refine g_aload_n hX 0 rfl rfl dX7_sum_0 ?_
  refine g_iload_n hX 1 rfl rfl dX7_sum_1 ?_
  obtain ⟨y2, τ2, e2, h⟩ := ob_some h
  refine m_call hX hzo hC [.int (z1)] [] (ct_X7_term _ _ _ _ hzo hC p0 F L hF hL hp0 z1 μ _ x _ e2) kX7_term tMet_X7_262 rfl rfl (by show F + 1 + 1 ≤ F + 2; omega) (by show 8 + (3 + 11) + (L + 30) ≤ L + 60; omega) ⟨Nat.le_of_ble_eq_true rfl, Nat.le_of_ble_eq_true rfl⟩ rfl (Nat.le_of_ble_eq_true rfl) dX7_sum_2 ?_
  rintro _ _ ⟨rfl, x2, rfl⟩
  show GW κ 0 0 (C τ2.1 τ2.2.1 τ2.2.2 x2) 5 [(0, .ref h0), (1, .int (z1))] [.int (y2)]
  refine g_if_ne hX 10 (by decide) dX7_sum_5 (fun b5 => ?_) (fun b5 => ?_)
  · replace h := if_n b5 h
    exact (J10 (fn_X7_sum_L56 p0 z1) J56 4000)  τ2 x2 h
  · replace h := if_p b5 h
    refine g_iconst hX (v := nI 0) rfl dX7_sum_8 ?_
    exact g_retb hR (by decide) ⟨by rw [oi_1 h], x2, by rw [← oi_2 h]⟩ dX7_sum_9
theorem kX7_test : mKV RX7 yX7_test cX7_test 3 (some .boolean) 1 := ⟨tIns_X7_test, tSel_X7_test, tIni_X7, tCod_X7_test, by decide +kernel⟩
set_option maxHeartbeats 4000000 in
set_option maxRecDepth 100000 in
theorem ct_X7_test (l : Launch) (D : va_G) (cy : Nat → ClassId) (Z : (Nat → Prop) → State → Heap → Prop) (hzo : zOK Z) {h0 : Nat} {a q : Nat → Nat} {C : (Nat → Int32) → (Nat → Int32) → (Nat → Nat → Int32) → (Nat → Nat → Int32) → va_W} (hC : mLens (cy 0) h0 a q C) (p0 : Int32 → Mg → Option (Int32 × Mg)) (F L : Nat) (hF : 8 ≤ F) (hL : 300 ≤ L) (hp0 : ∀ (l : Launch) (D : va_G) (z1 : Int32) (μ μ2 : Mg) (x : Nat → Nat → Int32) (res : Int32), p0 z1 μ = some (res, μ2) → GM l D cy Z yX7_part0 (zW yX7_part0 cX7_part0 2 (some .boolean)) { frames := F, cells := 0, slots := 0, locals := L } [.ref h0, .int (z1)] (C μ.1 μ.2.1 μ.2.2 x) (fun rs w2 => rs = some (.int res) ∧ ∃ x2, w2 = C μ2.1 μ2.2.1 μ2.2.2 x2) 0 0) (z1 : Int32) (μ μ2 : Mg) (x : Nat → Nat → Int32) (res : Int32) (h : fn_X7_test p0 z1 μ = some (res, μ2)) : GM l D cy Z yX7_test (zW yX7_test cX7_test 3 (some .boolean)) { frames := F + 3, cells := 0, slots := 0, locals := L + 90 } [.ref h0, .int (z1)] (C μ.1 μ.2.1 μ.2.2 x) (fun rs w2 => rs = some (.int res) ∧ ∃ x2, w2 = C μ2.1 μ2.2.1 μ2.2.2 x2) 0 0 := by
  refine g_entry (cc := cX7_test) (maxL := 3) (by decide) rfl (Nat.le_of_ble_eq_true rfl) ?_
  intro κ hN hX hR
  have hX : GX κ cy Z cX7_test (Cond.code yX7_test cX7_test 3 (some .boolean) :: zT) RX7 { frames := F + 3, cells := 0, slots := 0, locals := L + 90 } := hX
  have J62 : ∀ (μ : Mg) (x : Nat → Nat → Int32) , fn_X7_test_L62 p0 z1  μ = some (res, μ2) → GW κ 0 0 (C μ.1 μ.2.1 μ.2.2 x) 62 [] [] := by
    intro μ x h
    refine g_iconst hX (v := nI 1) rfl dX7_test_62 ?_
    exact g_retb hR (by decide) ⟨by rw [oi_1 h], x, by rw [← oi_2 h]⟩ dX7_test_63
  have J37 : ∀ (μ : Mg) (x : Nat → Nat → Int32) , fn_X7_test_L37 p0 z1  μ = some (res, μ2) → GW κ 0 0 (C μ.1 μ.2.1 μ.2.2 x) 37 [(0, .ref h0), (1, .int (z1))] [] := by
    intro μ x h
    refine g_aload_n hX 0 rfl rfl dX7_test_37 ?_
    refine m_getI hX hC 21 (by decide) rfl tFld_X7_224 dX7_test_38 ?_
    refine g_istore_n (lv2 := [(2, .int (μ.1 21)), (0, .ref h0), (1, .int (z1))]) hX 2 3 hN rfl (by decide) rfl dX7_test_41 ?_
    refine g_aload_n hX 1 rfl rfl dX7_test_42 ?_
    obtain ⟨y43, τ43, e43, h⟩ := ob_some h
    refine m_call hX hzo hC [] [] (ct_X7_nextToken _ _ _ _ hzo hC  μ _ x _ e43) kX7_nextToken tMet_X7_249 rfl rfl (by show 2 + 1 ≤ F + 3; omega) (by show 8 + (3 + 11) + (46) ≤ L + 90; omega) ⟨Nat.le_of_ble_eq_true rfl, Nat.le_of_ble_eq_true rfl⟩ rfl (Nat.le_of_ble_eq_true rfl) dX7_test_43 ?_
    rintro _ _ ⟨rfl, x43, rfl⟩
    show GW κ 0 0 (C τ43.1 τ43.2.1 τ43.2.2 x43) 46 [(2, .int (μ.1 21)), (0, .ref h0), (1, .int (z1))] []
    refine g_aload_n hX 1 rfl rfl dX7_test_46 ?_
    refine g_iload_n hX 2 rfl rfl dX7_test_47 ?_
    obtain ⟨y48, τ48, e48, h⟩ := ob_some h
    refine m_call hX hzo hC [.int (z1)] [] (ct_X7_sum _ _ _ _ hzo hC p0 F L hF hL hp0 z1 τ43 _ x43 _ e48) kX7_sum tMet_X7_259 rfl rfl (by show F + 2 + 1 ≤ F + 3; omega) (by show 8 + (3 + 11) + (L + 60) ≤ L + 90; omega) ⟨Nat.le_of_ble_eq_true rfl, Nat.le_of_ble_eq_true rfl⟩ rfl (Nat.le_of_ble_eq_true rfl) dX7_test_48 ?_
    rintro _ _ ⟨rfl, x48, rfl⟩
    show GW κ 0 0 (C τ48.1 τ48.2.1 τ48.2.2 x48) 51 [(2, .int (μ.1 21)), (0, .ref h0), (1, .int (z1))] [.int (y48)]
    refine g_if_ne hX 56 (by decide) dX7_test_51 (fun b51 => ?_) (fun b51 => ?_)
    · replace h := if_n b51 h
      refine g_aload_n hX 1 rfl rfl dX7_test_56 ?_
      refine g_iconst hX (v := nI 2) rfl dX7_test_57 ?_
      refine g_iload_n hX 0 rfl rfl dX7_test_58 ?_
      obtain ⟨y59, τ59, e59, h⟩ := ob_some h
      refine m_call hX hzo hC [.int (nI 2), .int (μ.1 21)] [] (ct_X7_step _ _ _ _ hzo hC (nI 2) (μ.1 21) τ48 _ x48 _ e59) kX7_step tMet_X7_252 rfl rfl (by show 0 + 1 ≤ F + 3; omega) (by show 8 + (3 + 11) + (0) ≤ L + 90; omega) ⟨Nat.le_of_ble_eq_true rfl, Nat.le_of_ble_eq_true rfl⟩ rfl (Nat.le_of_ble_eq_true rfl) dX7_test_59 ?_
      rintro _ _ ⟨rfl, x59, rfl⟩
      show GW κ 0 0 (C τ59.1 τ59.2.1 τ59.2.2 x59) 62 [(2, .int (μ.1 21)), (0, .ref h0), (1, .int (z1))] []
      refine g_lv [] rfl ?_
      exact J62  τ59 x59 h
    · replace h := if_p b51 h
      refine g_iconst hX (v := nI 0) rfl dX7_test_54 ?_
      exact g_retb hR (by decide) ⟨by rw [oi_1 h], x48, by rw [← oi_2 h]⟩ dX7_test_55
  show GW κ 0 0 (C μ.1 μ.2.1 μ.2.2 x) 0 [(0, .ref h0), (1, .int (z1))] []
  refine g_aload_n hX 0 rfl rfl dX7_test_0 ?_
  refine g_iload_n hX 1 rfl rfl dX7_test_1 ?_
  obtain ⟨y2, τ2, e2, h⟩ := ob_some h
  refine m_call hX hzo hC [.int (z1)] [] (ct_X7_sum _ _ _ _ hzo hC p0 F L hF hL hp0 z1 μ _ x _ e2) kX7_sum tMet_X7_259 rfl rfl (by show F + 2 + 1 ≤ F + 3; omega) (by show 8 + (3 + 11) + (L + 60) ≤ L + 90; omega) ⟨Nat.le_of_ble_eq_true rfl, Nat.le_of_ble_eq_true rfl⟩ rfl (Nat.le_of_ble_eq_true rfl) dX7_test_2 ?_
  rintro _ _ ⟨rfl, x2, rfl⟩
  show GW κ 0 0 (C τ2.1 τ2.2.1 τ2.2.2 x2) 5 [(0, .ref h0), (1, .int (z1))] [.int (y2)]
  refine g_if_ne hX 10 (by decide) dX7_test_5 (fun b5 => ?_) (fun b5 => ?_)
  · replace h := if_n b5 h
    refine g_aload_n hX 0 rfl rfl dX7_test_10 ?_
    refine g_bipush hX (v := nI 60) (by decide) dX7_test_11 ?_
    obtain ⟨y13, τ13, e13, h⟩ := ob_some h
    refine m_call hX hzo hC [.int (nI 60)] [] (ct_X7_isSign _ _ _ _ hzo hC (nI 60) τ2 _ x2 _ e13) kX7_isSign tMet_X7_246 rfl rfl (by show 0 + 1 ≤ F + 3; omega) (by show 8 + (2 + 11) + (0) ≤ L + 90; omega) ⟨Nat.le_of_ble_eq_true rfl, Nat.le_of_ble_eq_true rfl⟩ rfl (Nat.le_of_ble_eq_true rfl) dX7_test_13 ?_
    rintro _ _ ⟨rfl, x13, rfl⟩
    show GW κ 0 0 (C τ13.1 τ13.2.1 τ13.2.2 x13) 16 [(0, .ref h0), (1, .int (z1))] [.int (y13)]
    refine g_if_ne hX 37 (by decide) dX7_test_16 (fun b16 => ?_) (fun b16 => ?_)
    · replace h := if_n b16 h
      exact J37  τ13 x13 h
    · replace h := if_p b16 h
      refine g_aload_n hX 0 rfl rfl dX7_test_19 ?_
      refine g_bipush hX (v := nI 61) (by decide) dX7_test_20 ?_
      obtain ⟨y22, τ22, e22, h⟩ := ob_some h
      refine m_call hX hzo hC [.int (nI 61)] [] (ct_X7_isSign _ _ _ _ hzo hC (nI 61) τ13 _ x13 _ e22) kX7_isSign tMet_X7_246 rfl rfl (by show 0 + 1 ≤ F + 3; omega) (by show 8 + (2 + 11) + (0) ≤ L + 90; omega) ⟨Nat.le_of_ble_eq_true rfl, Nat.le_of_ble_eq_true rfl⟩ rfl (Nat.le_of_ble_eq_true rfl) dX7_test_22 ?_
      rintro _ _ ⟨rfl, x22, rfl⟩
      show GW κ 0 0 (C τ22.1 τ22.2.1 τ22.2.2 x22) 25 [(0, .ref h0), (1, .int (z1))] [.int (y22)]
      refine g_if_ne hX 37 (by decide) dX7_test_25 (fun b25 => ?_) (fun b25 => ?_)
      · replace h := if_n b25 h
        exact J37  τ22 x22 h
      · replace h := if_p b25 h
        refine g_aload_n hX 0 rfl rfl dX7_test_28 ?_
        refine g_bipush hX (v := nI 62) (by decide) dX7_test_29 ?_
        obtain ⟨y31, τ31, e31, h⟩ := ob_some h
        refine m_call hX hzo hC [.int (nI 62)] [] (ct_X7_isSign _ _ _ _ hzo hC (nI 62) τ22 _ x22 _ e31) kX7_isSign tMet_X7_246 rfl rfl (by show 0 + 1 ≤ F + 3; omega) (by show 8 + (2 + 11) + (0) ≤ L + 90; omega) ⟨Nat.le_of_ble_eq_true rfl, Nat.le_of_ble_eq_true rfl⟩ rfl (Nat.le_of_ble_eq_true rfl) dX7_test_31 ?_
        rintro _ _ ⟨rfl, x31, rfl⟩
        show GW κ 0 0 (C τ31.1 τ31.2.1 τ31.2.2 x31) 34 [(0, .ref h0), (1, .int (z1))] [.int (y31)]
        refine g_if_eq hX 62 (by decide) dX7_test_34 (fun b34 => ?_) (fun b34 => ?_)
        · replace h := if_p b34 h
          refine g_lv [] rfl ?_
          exact J62  τ31 x31 h
        · replace h := if_n b34 h
          exact J37  τ31 x31 h
  · replace h := if_p b5 h
    refine g_iconst hX (v := nI 0) rfl dX7_test_8 ?_
    exact g_retb hR (by decide) ⟨by rw [oi_1 h], x2, by rw [← oi_2 h]⟩ dX7_test_9
theorem kX7_both : mKV RX7 yX7_both cX7_both 2 (some .boolean) 1 := ⟨tIns_X7_both, tSel_X7_both, tIni_X7, tCod_X7_both, by decide +kernel⟩
set_option maxHeartbeats 4000000 in
set_option maxRecDepth 100000 in
theorem ct_X7_both (l : Launch) (D : va_G) (cy : Nat → ClassId) (Z : (Nat → Prop) → State → Heap → Prop) (hzo : zOK Z) {h0 : Nat} {a q : Nat → Nat} {C : (Nat → Int32) → (Nat → Int32) → (Nat → Nat → Int32) → (Nat → Nat → Int32) → va_W} (hC : mLens (cy 0) h0 a q C) (p0 : Int32 → Mg → Option (Int32 × Mg)) (F L : Nat) (hF : 8 ≤ F) (hL : 300 ≤ L) (hp0 : ∀ (l : Launch) (D : va_G) (z1 : Int32) (μ μ2 : Mg) (x : Nat → Nat → Int32) (res : Int32), p0 z1 μ = some (res, μ2) → GM l D cy Z yX7_part0 (zW yX7_part0 cX7_part0 2 (some .boolean)) { frames := F, cells := 0, slots := 0, locals := L } [.ref h0, .int (z1)] (C μ.1 μ.2.1 μ.2.2 x) (fun rs w2 => rs = some (.int res) ∧ ∃ x2, w2 = C μ2.1 μ2.2.1 μ2.2.2 x2) 0 0) (z1 : Int32) (μ μ2 : Mg) (x : Nat → Nat → Int32) (res : Int32) (h : fn_X7_both p0 z1 μ = some (res, μ2)) : GM l D cy Z yX7_both (zW yX7_both cX7_both 2 (some .boolean)) { frames := F + 4, cells := 0, slots := 0, locals := L + 120 } [.ref h0, .int (z1)] (C μ.1 μ.2.1 μ.2.2 x) (fun rs w2 => rs = some (.int res) ∧ ∃ x2, w2 = C μ2.1 μ2.2.1 μ2.2.2 x2) 0 0 := by
  refine g_entry (cc := cX7_both) (maxL := 2) (by decide) rfl (Nat.le_of_ble_eq_true rfl) ?_
  intro κ hN hX hR
  have hX : GX κ cy Z cX7_both (Cond.code yX7_both cX7_both 2 (some .boolean) :: zT) RX7 { frames := F + 4, cells := 0, slots := 0, locals := L + 120 } := hX
  have J43 : ∀ (μ : Mg) (x : Nat → Nat → Int32) , fn_X7_both_L43 p0 z1  μ = some (res, μ2) → GW κ 0 0 (C μ.1 μ.2.1 μ.2.2 x) 43 [] [] := by
    intro μ x h
    refine g_iconst hX (v := nI 1) rfl dX7_both_43 ?_
    exact g_retb hR (by decide) ⟨by rw [oi_1 h], x, by rw [← oi_2 h]⟩ dX7_both_44
  have J10 : ∀ (k43 : Mg → Option (Int32 × Mg)) (hk43 : ∀ (μ : Mg) (x : Nat → Nat → Int32) , k43  μ = some (res, μ2) → GW κ 0 0 (C μ.1 μ.2.1 μ.2.2 x) 43 [] []) (fuel : Nat), ∀ (μ : Mg) (x : Nat → Nat → Int32) , fn_X7_both_L10 p0 z1 k43 fuel  μ = some (res, μ2) → GW κ 0 0 (C μ.1 μ.2.1 μ.2.2 x) 10 [(0, .ref h0), (1, .int (z1))] [] := by
    intro k43 hk43 fuel
    induction fuel with
    | zero => intro μ x h; cases (show none = some (res, μ2) from h)
    | succ fuel ih =>
      intro μ x h
      replace h : (ob (fn_X7_isSign (nI 38) μ) (fun y13 τ13 => (if y13 = 0 then (k43  τ13) else (ob (fn_X7_nextToken  τ13) (fun y20 τ20 => (ob (fn_X7_test p0 z1 τ20) (fun y25 τ25 => (if y25 = 0 then some (nI 0, τ25) else (ob (fn_X7_step (nI 2) (nI 38) τ25) (fun y37 τ37 => ((fn_X7_both_L10 p0 z1 k43 fuel)  τ37))))))))))) = some (res, μ2) := h
      refine g_aload_n hX 0 rfl rfl dX7_both_10 ?_
      refine g_bipush hX (v := nI 38) (by decide) dX7_both_11 ?_
      obtain ⟨y13, τ13, e13, h⟩ := ob_some h
      refine m_call hX hzo hC [.int (nI 38)] [] (ct_X7_isSign _ _ _ _ hzo hC (nI 38) μ _ x _ e13) kX7_isSign tMet_X7_246 rfl rfl (by show 0 + 1 ≤ F + 4; omega) (by show 8 + (2 + 11) + (0) ≤ L + 120; omega) ⟨Nat.le_of_ble_eq_true rfl, Nat.le_of_ble_eq_true rfl⟩ rfl (Nat.le_of_ble_eq_true rfl) dX7_both_13 ?_
      rintro _ _ ⟨rfl, x13, rfl⟩
      show GW κ 0 0 (C τ13.1 τ13.2.1 τ13.2.2 x13) 16 [(0, .ref h0), (1, .int (z1))] [.int (y13)]
      refine g_if_eq hX 43 (by decide) dX7_both_16 (fun b16 => ?_) (fun b16 => ?_)
      · replace h := if_p b16 h
        refine g_lv [] rfl ?_
        exact hk43  τ13 x13 h
      · replace h := if_n b16 h
        refine g_aload_n hX 0 rfl rfl dX7_both_19 ?_
        obtain ⟨y20, τ20, e20, h⟩ := ob_some h
        refine m_call hX hzo hC [] [] (ct_X7_nextToken _ _ _ _ hzo hC  τ13 _ x13 _ e20) kX7_nextToken tMet_X7_249 rfl rfl (by show 2 + 1 ≤ F + 4; omega) (by show 8 + (3 + 11) + (46) ≤ L + 120; omega) ⟨Nat.le_of_ble_eq_true rfl, Nat.le_of_ble_eq_true rfl⟩ rfl (Nat.le_of_ble_eq_true rfl) dX7_both_20 ?_
        rintro _ _ ⟨rfl, x20, rfl⟩
        show GW κ 0 0 (C τ20.1 τ20.2.1 τ20.2.2 x20) 23 [(0, .ref h0), (1, .int (z1))] []
        refine g_aload_n hX 0 rfl rfl dX7_both_23 ?_
        refine g_iload_n hX 1 rfl rfl dX7_both_24 ?_
        obtain ⟨y25, τ25, e25, h⟩ := ob_some h
        refine m_call hX hzo hC [.int (z1)] [] (ct_X7_test _ _ _ _ hzo hC p0 F L hF hL hp0 z1 τ20 _ x20 _ e25) kX7_test tMet_X7_256 rfl rfl (by show F + 3 + 1 ≤ F + 4; omega) (by show 8 + (3 + 11) + (L + 90) ≤ L + 120; omega) ⟨Nat.le_of_ble_eq_true rfl, Nat.le_of_ble_eq_true rfl⟩ rfl (Nat.le_of_ble_eq_true rfl) dX7_both_25 ?_
        rintro _ _ ⟨rfl, x25, rfl⟩
        show GW κ 0 0 (C τ25.1 τ25.2.1 τ25.2.2 x25) 28 [(0, .ref h0), (1, .int (z1))] [.int (y25)]
        refine g_if_ne hX 33 (by decide) dX7_both_28 (fun b28 => ?_) (fun b28 => ?_)
        · replace h := if_n b28 h
          refine g_aload_n hX 0 rfl rfl dX7_both_33 ?_
          refine g_iconst hX (v := nI 2) rfl dX7_both_34 ?_
          refine g_bipush hX (v := nI 38) (by decide) dX7_both_35 ?_
          obtain ⟨y37, τ37, e37, h⟩ := ob_some h
          refine m_call hX hzo hC [.int (nI 2), .int (nI 38)] [] (ct_X7_step _ _ _ _ hzo hC (nI 2) (nI 38) τ25 _ x25 _ e37) kX7_step tMet_X7_252 rfl rfl (by show 0 + 1 ≤ F + 4; omega) (by show 8 + (3 + 11) + (0) ≤ L + 120; omega) ⟨Nat.le_of_ble_eq_true rfl, Nat.le_of_ble_eq_true rfl⟩ rfl (Nat.le_of_ble_eq_true rfl) dX7_both_37 ?_
          rintro _ _ ⟨rfl, x37, rfl⟩
          show GW κ 0 0 (C τ37.1 τ37.2.1 τ37.2.2 x37) 40 [(0, .ref h0), (1, .int (z1))] []
          refine g_goto hX 10 (by decide) dX7_both_40 ?_
          exact ih  τ37 x37 h
        · replace h := if_p b28 h
          refine g_iconst hX (v := nI 0) rfl dX7_both_31 ?_
          exact g_retb hR (by decide) ⟨by rw [oi_1 h], x25, by rw [← oi_2 h]⟩ dX7_both_32
  show GW κ 0 0 (C μ.1 μ.2.1 μ.2.2 x) 0 [(0, .ref h0), (1, .int (z1))] []
  refine g_aload_n hX 0 rfl rfl dX7_both_0 ?_
  refine g_iload_n hX 1 rfl rfl dX7_both_1 ?_
  obtain ⟨y2, τ2, e2, h⟩ := ob_some h
  refine m_call hX hzo hC [.int (z1)] [] (ct_X7_test _ _ _ _ hzo hC p0 F L hF hL hp0 z1 μ _ x _ e2) kX7_test tMet_X7_256 rfl rfl (by show F + 3 + 1 ≤ F + 4; omega) (by show 8 + (3 + 11) + (L + 90) ≤ L + 120; omega) ⟨Nat.le_of_ble_eq_true rfl, Nat.le_of_ble_eq_true rfl⟩ rfl (Nat.le_of_ble_eq_true rfl) dX7_both_2 ?_
  rintro _ _ ⟨rfl, x2, rfl⟩
  show GW κ 0 0 (C τ2.1 τ2.2.1 τ2.2.2 x2) 5 [(0, .ref h0), (1, .int (z1))] [.int (y2)]
  refine g_if_ne hX 10 (by decide) dX7_both_5 (fun b5 => ?_) (fun b5 => ?_)
  · replace h := if_n b5 h
    exact (J10 (fn_X7_both_L43 p0 z1) J43 4000)  τ2 x2 h
  · replace h := if_p b5 h
    refine g_iconst hX (v := nI 0) rfl dX7_both_8 ?_
    exact g_retb hR (by decide) ⟨by rw [oi_1 h], x2, by rw [← oi_2 h]⟩ dX7_both_9
theorem kX7_either : mKV RX7 yX7_either cX7_either 2 (some .boolean) 1 := ⟨tIns_X7_either, tSel_X7_either, tIni_X7, tCod_X7_either, by decide +kernel⟩
set_option maxHeartbeats 4000000 in
set_option maxRecDepth 100000 in
theorem ct_X7_either (l : Launch) (D : va_G) (cy : Nat → ClassId) (Z : (Nat → Prop) → State → Heap → Prop) (hzo : zOK Z) {h0 : Nat} {a q : Nat → Nat} {C : (Nat → Int32) → (Nat → Int32) → (Nat → Nat → Int32) → (Nat → Nat → Int32) → va_W} (hC : mLens (cy 0) h0 a q C) (p0 : Int32 → Mg → Option (Int32 × Mg)) (F L : Nat) (hF : 8 ≤ F) (hL : 300 ≤ L) (hp0 : ∀ (l : Launch) (D : va_G) (z1 : Int32) (μ μ2 : Mg) (x : Nat → Nat → Int32) (res : Int32), p0 z1 μ = some (res, μ2) → GM l D cy Z yX7_part0 (zW yX7_part0 cX7_part0 2 (some .boolean)) { frames := F, cells := 0, slots := 0, locals := L } [.ref h0, .int (z1)] (C μ.1 μ.2.1 μ.2.2 x) (fun rs w2 => rs = some (.int res) ∧ ∃ x2, w2 = C μ2.1 μ2.2.1 μ2.2.2 x2) 0 0) (z1 : Int32) (μ μ2 : Mg) (x : Nat → Nat → Int32) (res : Int32) (h : fn_X7_either p0 z1 μ = some (res, μ2)) : GM l D cy Z yX7_either (zW yX7_either cX7_either 2 (some .boolean)) { frames := F + 5, cells := 0, slots := 0, locals := L + 150 } [.ref h0, .int (z1)] (C μ.1 μ.2.1 μ.2.2 x) (fun rs w2 => rs = some (.int res) ∧ ∃ x2, w2 = C μ2.1 μ2.2.1 μ2.2.2 x2) 0 0 := by
  refine g_entry (cc := cX7_either) (maxL := 2) (by decide) rfl (Nat.le_of_ble_eq_true rfl) ?_
  intro κ hN hX hR
  have hX : GX κ cy Z cX7_either (Cond.code yX7_either cX7_either 2 (some .boolean) :: zT) RX7 { frames := F + 5, cells := 0, slots := 0, locals := L + 150 } := hX
  have J43 : ∀ (μ : Mg) (x : Nat → Nat → Int32) , fn_X7_either_L43 p0 z1  μ = some (res, μ2) → GW κ 0 0 (C μ.1 μ.2.1 μ.2.2 x) 43 [] [] := by
    intro μ x h
    refine g_iconst hX (v := nI 1) rfl dX7_either_43 ?_
    exact g_retb hR (by decide) ⟨by rw [oi_1 h], x, by rw [← oi_2 h]⟩ dX7_either_44
  have J10 : ∀ (k43 : Mg → Option (Int32 × Mg)) (hk43 : ∀ (μ : Mg) (x : Nat → Nat → Int32) , k43  μ = some (res, μ2) → GW κ 0 0 (C μ.1 μ.2.1 μ.2.2 x) 43 [] []) (fuel : Nat), ∀ (μ : Mg) (x : Nat → Nat → Int32) , fn_X7_either_L10 p0 z1 k43 fuel  μ = some (res, μ2) → GW κ 0 0 (C μ.1 μ.2.1 μ.2.2 x) 10 [(0, .ref h0), (1, .int (z1))] [] := by
    intro k43 hk43 fuel
    induction fuel with
    | zero => intro μ x h; cases (show none = some (res, μ2) from h)
    | succ fuel ih =>
      intro μ x h
      replace h : (ob (fn_X7_isSign (nI 124) μ) (fun y13 τ13 => (if y13 = 0 then (k43  τ13) else (ob (fn_X7_nextToken  τ13) (fun y20 τ20 => (ob (fn_X7_both p0 z1 τ20) (fun y25 τ25 => (if y25 = 0 then some (nI 0, τ25) else (ob (fn_X7_step (nI 2) (nI 124) τ25) (fun y37 τ37 => ((fn_X7_either_L10 p0 z1 k43 fuel)  τ37))))))))))) = some (res, μ2) := h
      refine g_aload_n hX 0 rfl rfl dX7_either_10 ?_
      refine g_bipush hX (v := nI 124) (by decide) dX7_either_11 ?_
      obtain ⟨y13, τ13, e13, h⟩ := ob_some h
      refine m_call hX hzo hC [.int (nI 124)] [] (ct_X7_isSign _ _ _ _ hzo hC (nI 124) μ _ x _ e13) kX7_isSign tMet_X7_246 rfl rfl (by show 0 + 1 ≤ F + 5; omega) (by show 8 + (2 + 11) + (0) ≤ L + 150; omega) ⟨Nat.le_of_ble_eq_true rfl, Nat.le_of_ble_eq_true rfl⟩ rfl (Nat.le_of_ble_eq_true rfl) dX7_either_13 ?_
      rintro _ _ ⟨rfl, x13, rfl⟩
      show GW κ 0 0 (C τ13.1 τ13.2.1 τ13.2.2 x13) 16 [(0, .ref h0), (1, .int (z1))] [.int (y13)]
      refine g_if_eq hX 43 (by decide) dX7_either_16 (fun b16 => ?_) (fun b16 => ?_)
      · replace h := if_p b16 h
        refine g_lv [] rfl ?_
        exact hk43  τ13 x13 h
      · replace h := if_n b16 h
        refine g_aload_n hX 0 rfl rfl dX7_either_19 ?_
        obtain ⟨y20, τ20, e20, h⟩ := ob_some h
        refine m_call hX hzo hC [] [] (ct_X7_nextToken _ _ _ _ hzo hC  τ13 _ x13 _ e20) kX7_nextToken tMet_X7_249 rfl rfl (by show 2 + 1 ≤ F + 5; omega) (by show 8 + (3 + 11) + (46) ≤ L + 150; omega) ⟨Nat.le_of_ble_eq_true rfl, Nat.le_of_ble_eq_true rfl⟩ rfl (Nat.le_of_ble_eq_true rfl) dX7_either_20 ?_
        rintro _ _ ⟨rfl, x20, rfl⟩
        show GW κ 0 0 (C τ20.1 τ20.2.1 τ20.2.2 x20) 23 [(0, .ref h0), (1, .int (z1))] []
        refine g_aload_n hX 0 rfl rfl dX7_either_23 ?_
        refine g_iload_n hX 1 rfl rfl dX7_either_24 ?_
        obtain ⟨y25, τ25, e25, h⟩ := ob_some h
        refine m_call hX hzo hC [.int (z1)] [] (ct_X7_both _ _ _ _ hzo hC p0 F L hF hL hp0 z1 τ20 _ x20 _ e25) kX7_both tMet_X7_243 rfl rfl (by show F + 4 + 1 ≤ F + 5; omega) (by show 8 + (2 + 11) + (L + 120) ≤ L + 150; omega) ⟨Nat.le_of_ble_eq_true rfl, Nat.le_of_ble_eq_true rfl⟩ rfl (Nat.le_of_ble_eq_true rfl) dX7_either_25 ?_
        rintro _ _ ⟨rfl, x25, rfl⟩
        show GW κ 0 0 (C τ25.1 τ25.2.1 τ25.2.2 x25) 28 [(0, .ref h0), (1, .int (z1))] [.int (y25)]
        refine g_if_ne hX 33 (by decide) dX7_either_28 (fun b28 => ?_) (fun b28 => ?_)
        · replace h := if_n b28 h
          refine g_aload_n hX 0 rfl rfl dX7_either_33 ?_
          refine g_iconst hX (v := nI 2) rfl dX7_either_34 ?_
          refine g_bipush hX (v := nI 124) (by decide) dX7_either_35 ?_
          obtain ⟨y37, τ37, e37, h⟩ := ob_some h
          refine m_call hX hzo hC [.int (nI 2), .int (nI 124)] [] (ct_X7_step _ _ _ _ hzo hC (nI 2) (nI 124) τ25 _ x25 _ e37) kX7_step tMet_X7_252 rfl rfl (by show 0 + 1 ≤ F + 5; omega) (by show 8 + (3 + 11) + (0) ≤ L + 150; omega) ⟨Nat.le_of_ble_eq_true rfl, Nat.le_of_ble_eq_true rfl⟩ rfl (Nat.le_of_ble_eq_true rfl) dX7_either_37 ?_
          rintro _ _ ⟨rfl, x37, rfl⟩
          show GW κ 0 0 (C τ37.1 τ37.2.1 τ37.2.2 x37) 40 [(0, .ref h0), (1, .int (z1))] []
          refine g_goto hX 10 (by decide) dX7_either_40 ?_
          exact ih  τ37 x37 h
        · replace h := if_p b28 h
          refine g_iconst hX (v := nI 0) rfl dX7_either_31 ?_
          exact g_retb hR (by decide) ⟨by rw [oi_1 h], x25, by rw [← oi_2 h]⟩ dX7_either_32
  show GW κ 0 0 (C μ.1 μ.2.1 μ.2.2 x) 0 [(0, .ref h0), (1, .int (z1))] []
  refine g_aload_n hX 0 rfl rfl dX7_either_0 ?_
  refine g_iload_n hX 1 rfl rfl dX7_either_1 ?_
  obtain ⟨y2, τ2, e2, h⟩ := ob_some h
  refine m_call hX hzo hC [.int (z1)] [] (ct_X7_both _ _ _ _ hzo hC p0 F L hF hL hp0 z1 μ _ x _ e2) kX7_both tMet_X7_243 rfl rfl (by show F + 4 + 1 ≤ F + 5; omega) (by show 8 + (2 + 11) + (L + 120) ≤ L + 150; omega) ⟨Nat.le_of_ble_eq_true rfl, Nat.le_of_ble_eq_true rfl⟩ rfl (Nat.le_of_ble_eq_true rfl) dX7_either_2 ?_
  rintro _ _ ⟨rfl, x2, rfl⟩
  show GW κ 0 0 (C τ2.1 τ2.2.1 τ2.2.2 x2) 5 [(0, .ref h0), (1, .int (z1))] [.int (y2)]
  refine g_if_ne hX 10 (by decide) dX7_either_5 (fun b5 => ?_) (fun b5 => ?_)
  · replace h := if_n b5 h
    exact (J10 (fn_X7_either_L43 p0 z1) J43 4000)  τ2 x2 h
  · replace h := if_p b5 h
    refine g_iconst hX (v := nI 0) rfl dX7_either_8 ?_
    exact g_retb hR (by decide) ⟨by rw [oi_1 h], x2, by rw [← oi_2 h]⟩ dX7_either_9
set_option maxHeartbeats 4000000 in
set_option maxRecDepth 100000 in
theorem ct_X7_part0B (l : Launch) (D : va_G) (cy : Nat → ClassId) (Z : (Nat → Prop) → State → Heap → Prop) (hzo : zOK Z) {h0 : Nat} {a q : Nat → Nat} {C : (Nat → Int32) → (Nat → Int32) → (Nat → Nat → Int32) → (Nat → Nat → Int32) → va_W} (hC : mLens (cy 0) h0 a q C) (p0 : Int32 → Mg → Option (Int32 × Mg)) (F L : Nat) (hF : 8 ≤ F) (hL : 300 ≤ L) (hp0 : ∀ (l : Launch) (D : va_G) (z1 : Int32) (μ μ2 : Mg) (x : Nat → Nat → Int32) (res : Int32), p0 z1 μ = some (res, μ2) → GM l D cy Z yX7_part0 (zW yX7_part0 cX7_part0 2 (some .boolean)) { frames := F, cells := 0, slots := 0, locals := L } [.ref h0, .int (z1)] (C μ.1 μ.2.1 μ.2.2 x) (fun rs w2 => rs = some (.int res) ∧ ∃ x2, w2 = C μ2.1 μ2.2.1 μ2.2.2 x2) 0 0) (z1 : Int32) (μ μ2 : Mg) (x : Nat → Nat → Int32) (res : Int32) (h : fn_X7_part0B p0 z1 μ = some (res, μ2)) : GM l D cy Z yX7_part0 (zW yX7_part0 cX7_part0 2 (some .boolean)) { frames := F + 6, cells := 0, slots := 0, locals := L + 180 } [.ref h0, .int (z1)] (C μ.1 μ.2.1 μ.2.2 x) (fun rs w2 => rs = some (.int res) ∧ ∃ x2, w2 = C μ2.1 μ2.2.1 μ2.2.2 x2) 0 0 := by
  refine g_entry (cc := cX7_part0) (maxL := 2) (by decide) rfl (Nat.le_of_ble_eq_true rfl) ?_
  intro κ hN hX hR
  have hX : GX κ cy Z cX7_part0 (Cond.code yX7_part0 cX7_part0 2 (some .boolean) :: zT) RX7 { frames := F + 6, cells := 0, slots := 0, locals := L + 180 } := hX
  have J196 : ∀ (μ : Mg) (x : Nat → Nat → Int32) , fn_X7_part0B_L196 p0 z1  μ = some (res, μ2) → GW κ 0 0 (C μ.1 μ.2.1 μ.2.2 x) 196 [] [] := by
    intro μ x h
    refine g_iconst hX (v := nI 0) rfl dX7_part0_196 ?_
    exact g_retb hR (by decide) ⟨by rw [oi_1 h], x, by rw [← oi_2 h]⟩ dX7_part0_197
  have J163 : ∀ (μ : Mg) (x : Nat → Nat → Int32) , fn_X7_part0B_L163 p0 z1  μ = some (res, μ2) → GW κ 0 0 (C μ.1 μ.2.1 μ.2.2 x) 163 [] [] := by
    intro μ x h
    refine g_iconst hX (v := nI 0) rfl dX7_part0_163 ?_
    exact g_retb hR (by decide) ⟨by rw [oi_1 h], x, by rw [← oi_2 h]⟩ dX7_part0_164
  have J145 : ∀ (μ : Mg) (x : Nat → Nat → Int32) , fn_X7_part0B_L145 p0 z1  μ = some (res, μ2) → GW κ 0 0 (C μ.1 μ.2.1 μ.2.2 x) 145 [(0, .ref h0), (1, .int (z1))] [] := by
    intro μ x h
    refine g_aload_n hX 0 rfl rfl dX7_part0_145 ?_
    refine g_bipush hX (v := nI 40) (by decide) dX7_part0_146 ?_
    obtain ⟨y148, τ148, e148, h⟩ := ob_some h
    refine m_call hX hzo hC [.int (nI 40)] [] (ct_X7_isSign _ _ _ _ hzo hC (nI 40) μ _ x _ e148) kX7_isSign tMet_X7_246 rfl rfl (by show 0 + 1 ≤ F + 6; omega) (by show 8 + (2 + 11) + (0) ≤ L + 180; omega) ⟨Nat.le_of_ble_eq_true rfl, Nat.le_of_ble_eq_true rfl⟩ rfl (Nat.le_of_ble_eq_true rfl) dX7_part0_148 ?_
    rintro _ _ ⟨rfl, x148, rfl⟩
    show GW κ 0 0 (C τ148.1 τ148.2.1 τ148.2.2 x148) 151 [(0, .ref h0), (1, .int (z1))] [.int (y148)]
    refine g_if_eq hX 163 (by decide) dX7_part0_151 (fun b151 => ?_) (fun b151 => ?_)
    · replace h := if_p b151 h
      refine g_lv [] rfl ?_
      exact J163  τ148 x148 h
    · replace h := if_n b151 h
      refine g_aload_n hX 0 rfl rfl dX7_part0_154 ?_
      refine m_getI hX hC 22 (by decide) rfl tFld_X7_277 dX7_part0_155 ?_
      refine g_bipush hX (v := nI 8) (by decide) dX7_part0_158 ?_
      refine g_icmp_ne hX 165 (by decide) dX7_part0_160 (fun b160 => ?_) (fun b160 => ?_)
      · replace h := if_n b160 h
        refine g_aload_n hX 0 rfl rfl dX7_part0_165 ?_
        refine g_dup hX rfl dX7_part0_166 ?_
        refine m_getI hX hC 22 (by decide) rfl tFld_X7_277 dX7_part0_167 ?_
        refine g_iconst hX (v := nI 1) rfl dX7_part0_170 ?_
        refine g_iadd hX dX7_part0_171 ?_
        refine m_putI (ty := .int) hX hC 22 (by decide) rfl rfl (by decide +kernel) rfl rfl tFld_X7_277 dX7_part0_172 ?_
        refine g_aload_n hX 0 rfl rfl dX7_part0_175 ?_
        obtain ⟨y176, τ176, e176, h⟩ := ob_some h
        refine m_call hX hzo hC [] [] (ct_X7_nextToken _ _ _ _ hzo hC  ((upd τ148.1 22 ((τ148.1 22 + nI 1)), τ148.2.1, τ148.2.2)) _ x148 _ e176) kX7_nextToken tMet_X7_249 rfl rfl (by show 2 + 1 ≤ F + 6; omega) (by show 8 + (3 + 11) + (46) ≤ L + 180; omega) ⟨Nat.le_of_ble_eq_true rfl, Nat.le_of_ble_eq_true rfl⟩ rfl (Nat.le_of_ble_eq_true rfl) dX7_part0_176 ?_
        rintro _ _ ⟨rfl, x176, rfl⟩
        show GW κ 0 0 (C τ176.1 τ176.2.1 τ176.2.2 x176) 179 [(0, .ref h0), (1, .int (z1))] []
        refine g_aload_n hX 0 rfl rfl dX7_part0_179 ?_
        refine g_iload_n hX 1 rfl rfl dX7_part0_180 ?_
        obtain ⟨y181, τ181, e181, h⟩ := ob_some h
        refine m_call hX hzo hC [.int (z1)] [] (ct_X7_either _ _ _ _ hzo hC p0 F L hF hL hp0 z1 τ176 _ x176 _ e181) kX7_either tMet_X7_280 rfl rfl (by show F + 5 + 1 ≤ F + 6; omega) (by show 8 + (2 + 11) + (L + 150) ≤ L + 180; omega) ⟨Nat.le_of_ble_eq_true rfl, Nat.le_of_ble_eq_true rfl⟩ rfl (Nat.le_of_ble_eq_true rfl) dX7_part0_181 ?_
        rintro _ _ ⟨rfl, x181, rfl⟩
        show GW κ 0 0 (C τ181.1 τ181.2.1 τ181.2.2 x181) 184 [(0, .ref h0), (1, .int (z1))] [.int (y181)]
        refine g_if_eq hX 196 (by decide) dX7_part0_184 (fun b184 => ?_) (fun b184 => ?_)
        · replace h := if_p b184 h
          refine g_lv [] rfl ?_
          exact J196  τ181 x181 h
        · replace h := if_n b184 h
          refine g_aload_n hX 0 rfl rfl dX7_part0_187 ?_
          refine g_bipush hX (v := nI 41) (by decide) dX7_part0_188 ?_
          obtain ⟨y190, τ190, e190, h⟩ := ob_some h
          refine m_call hX hzo hC [.int (nI 41)] [] (ct_X7_isSign _ _ _ _ hzo hC (nI 41) τ181 _ x181 _ e190) kX7_isSign tMet_X7_246 rfl rfl (by show 0 + 1 ≤ F + 6; omega) (by show 8 + (2 + 11) + (0) ≤ L + 180; omega) ⟨Nat.le_of_ble_eq_true rfl, Nat.le_of_ble_eq_true rfl⟩ rfl (Nat.le_of_ble_eq_true rfl) dX7_part0_190 ?_
          rintro _ _ ⟨rfl, x190, rfl⟩
          show GW κ 0 0 (C τ190.1 τ190.2.1 τ190.2.2 x190) 193 [(0, .ref h0), (1, .int (z1))] [.int (y190)]
          refine g_if_ne hX 198 (by decide) dX7_part0_193 (fun b193 => ?_) (fun b193 => ?_)
          · replace h := if_n b193 h
            refine g_aload_n hX 0 rfl rfl dX7_part0_198 ?_
            refine g_dup hX rfl dX7_part0_199 ?_
            refine m_getI hX hC 22 (by decide) rfl tFld_X7_277 dX7_part0_200 ?_
            refine g_iconst hX (v := nI 1) rfl dX7_part0_203 ?_
            refine g_isub hX dX7_part0_204 ?_
            refine m_putI (ty := .int) hX hC 22 (by decide) rfl rfl (by decide +kernel) rfl rfl tFld_X7_277 dX7_part0_205 ?_
            refine g_aload_n hX 0 rfl rfl dX7_part0_208 ?_
            obtain ⟨y209, τ209, e209, h⟩ := ob_some h
            refine m_call hX hzo hC [] [] (ct_X7_nextToken _ _ _ _ hzo hC  ((upd τ190.1 22 ((τ190.1 22 - nI 1)), τ190.2.1, τ190.2.2)) _ x190 _ e209) kX7_nextToken tMet_X7_249 rfl rfl (by show 2 + 1 ≤ F + 6; omega) (by show 8 + (3 + 11) + (46) ≤ L + 180; omega) ⟨Nat.le_of_ble_eq_true rfl, Nat.le_of_ble_eq_true rfl⟩ rfl (Nat.le_of_ble_eq_true rfl) dX7_part0_209 ?_
            rintro _ _ ⟨rfl, x209, rfl⟩
            show GW κ 0 0 (C τ209.1 τ209.2.1 τ209.2.2 x209) 212 [(0, .ref h0), (1, .int (z1))] []
            refine g_iconst hX (v := nI 1) rfl dX7_part0_212 ?_
            exact g_retb hR (by decide) ⟨by rw [oi_1 h], x209, by rw [← oi_2 h]⟩ dX7_part0_213
          · replace h := if_p b193 h
            refine g_lv [] rfl ?_
            exact J196  τ190 x190 h
      · replace h := if_p b160 h
        refine g_lv [] rfl ?_
        exact J163  τ148 x148 h
  have J84 : ∀ (μ : Mg) (x : Nat → Nat → Int32) , fn_X7_part0B_L84 p0 z1  μ = some (res, μ2) → GW κ 0 0 (C μ.1 μ.2.1 μ.2.2 x) 84 [(0, .ref h0), (1, .int (z1))] [] := by
    intro μ x h
    refine g_aload_n hX 0 rfl rfl dX7_part0_84 ?_
    refine g_bipush hX (v := nI 33) (by decide) dX7_part0_85 ?_
    obtain ⟨y87, τ87, e87, h⟩ := ob_some h
    refine m_call hX hzo hC [.int (nI 33)] [] (ct_X7_isSign _ _ _ _ hzo hC (nI 33) μ _ x _ e87) kX7_isSign tMet_X7_246 rfl rfl (by show 0 + 1 ≤ F + 6; omega) (by show 8 + (2 + 11) + (0) ≤ L + 180; omega) ⟨Nat.le_of_ble_eq_true rfl, Nat.le_of_ble_eq_true rfl⟩ rfl (Nat.le_of_ble_eq_true rfl) dX7_part0_87 ?_
    rintro _ _ ⟨rfl, x87, rfl⟩
    show GW κ 0 0 (C τ87.1 τ87.2.1 τ87.2.2 x87) 90 [(0, .ref h0), (1, .int (z1))] [.int (y87)]
    refine g_if_eq hX 145 (by decide) dX7_part0_90 (fun b90 => ?_) (fun b90 => ?_)
    · replace h := if_p b90 h
      exact J145  τ87 x87 h
    · replace h := if_n b90 h
      refine g_aload_n hX 0 rfl rfl dX7_part0_93 ?_
      refine m_getI hX hC 23 (by decide) rfl tFld_X7_274 dX7_part0_94 ?_
      refine g_bipush hX (v := nI 8) (by decide) dX7_part0_97 ?_
      refine g_icmp_ge hX 145 (by decide) dX7_part0_99 (fun b99 => ?_) (fun b99 => ?_)
      · replace h := if_p b99 h
        exact J145  τ87 x87 h
      · replace h := if_n b99 h
        refine g_aload_n hX 0 rfl rfl dX7_part0_102 ?_
        refine g_dup hX rfl dX7_part0_103 ?_
        refine m_getI hX hC 23 (by decide) rfl tFld_X7_274 dX7_part0_104 ?_
        refine g_iconst hX (v := nI 1) rfl dX7_part0_107 ?_
        refine g_iadd hX dX7_part0_108 ?_
        refine m_putI (ty := .int) hX hC 23 (by decide) rfl rfl (by decide +kernel) rfl rfl tFld_X7_274 dX7_part0_109 ?_
        refine g_aload_n hX 0 rfl rfl dX7_part0_112 ?_
        obtain ⟨y113, τ113, e113, h⟩ := ob_some h
        refine m_call hX hzo hC [] [] (ct_X7_nextToken _ _ _ _ hzo hC  ((upd τ87.1 23 ((τ87.1 23 + nI 1)), τ87.2.1, τ87.2.2)) _ x87 _ e113) kX7_nextToken tMet_X7_249 rfl rfl (by show 2 + 1 ≤ F + 6; omega) (by show 8 + (3 + 11) + (46) ≤ L + 180; omega) ⟨Nat.le_of_ble_eq_true rfl, Nat.le_of_ble_eq_true rfl⟩ rfl (Nat.le_of_ble_eq_true rfl) dX7_part0_113 ?_
        rintro _ _ ⟨rfl, x113, rfl⟩
        show GW κ 0 0 (C τ113.1 τ113.2.1 τ113.2.2 x113) 116 [(0, .ref h0), (1, .int (z1))] []
        refine g_aload_n hX 0 rfl rfl dX7_part0_116 ?_
        refine g_iload_n hX 1 rfl rfl dX7_part0_117 ?_
        obtain ⟨y118, τ118, e118, h⟩ := ob_some h
        refine m_call hX hzo hC [.int (z1)] [] (hp0 _ _ z1 τ113 _ x113 _ e118) kX7_part0 tMet_X7_265 rfl rfl (by show F + 1 ≤ F + 6; omega) (by show 8 + (2 + 11) + (L) ≤ L + 180; omega) ⟨Nat.le_of_ble_eq_true rfl, Nat.le_of_ble_eq_true rfl⟩ rfl (Nat.le_of_ble_eq_true rfl) dX7_part0_118 ?_
        rintro _ _ ⟨rfl, x118, rfl⟩
        show GW κ 0 0 (C τ118.1 τ118.2.1 τ118.2.2 x118) 121 [(0, .ref h0), (1, .int (z1))] [.int (y118)]
        refine g_if_ne hX 126 (by decide) dX7_part0_121 (fun b121 => ?_) (fun b121 => ?_)
        · replace h := if_n b121 h
          refine g_aload_n hX 0 rfl rfl dX7_part0_126 ?_
          refine g_dup hX rfl dX7_part0_127 ?_
          refine m_getI hX hC 23 (by decide) rfl tFld_X7_274 dX7_part0_128 ?_
          refine g_iconst hX (v := nI 1) rfl dX7_part0_131 ?_
          refine g_isub hX dX7_part0_132 ?_
          refine m_putI (ty := .int) hX hC 23 (by decide) rfl rfl (by decide +kernel) rfl rfl tFld_X7_274 dX7_part0_133 ?_
          refine g_aload_n hX 0 rfl rfl dX7_part0_136 ?_
          refine g_iconst hX (v := nI 2) rfl dX7_part0_137 ?_
          refine g_bipush hX (v := nI 33) (by decide) dX7_part0_138 ?_
          obtain ⟨y140, τ140, e140, h⟩ := ob_some h
          refine m_call hX hzo hC [.int (nI 2), .int (nI 33)] [] (ct_X7_step _ _ _ _ hzo hC (nI 2) (nI 33) ((upd τ118.1 23 ((τ118.1 23 - nI 1)), τ118.2.1, τ118.2.2)) _ x118 _ e140) kX7_step tMet_X7_252 rfl rfl (by show 0 + 1 ≤ F + 6; omega) (by show 8 + (3 + 11) + (0) ≤ L + 180; omega) ⟨Nat.le_of_ble_eq_true rfl, Nat.le_of_ble_eq_true rfl⟩ rfl (Nat.le_of_ble_eq_true rfl) dX7_part0_140 ?_
          rintro _ _ ⟨rfl, x140, rfl⟩
          show GW κ 0 0 (C τ140.1 τ140.2.1 τ140.2.2 x140) 143 [(0, .ref h0), (1, .int (z1))] []
          refine g_iconst hX (v := nI 1) rfl dX7_part0_143 ?_
          exact g_retb hR (by decide) ⟨by rw [oi_1 h], x140, by rw [← oi_2 h]⟩ dX7_part0_144
        · replace h := if_p b121 h
          refine g_iconst hX (v := nI 0) rfl dX7_part0_124 ?_
          exact g_retb hR (by decide) ⟨by rw [oi_1 h], x118, by rw [← oi_2 h]⟩ dX7_part0_125
  show GW κ 0 0 (C μ.1 μ.2.1 μ.2.2 x) 0 [(0, .ref h0), (1, .int (z1))] []
  refine g_aload_n hX 0 rfl rfl dX7_part0_0 ?_
  refine m_getI hX hC 19 (by decide) rfl tFld_X7_215 dX7_part0_1 ?_
  refine g_iconst hX (v := nI 2) rfl dX7_part0_4 ?_
  refine g_icmp_ne hX 33 (by decide) dX7_part0_5 (fun b5 => ?_) (fun b5 => ?_)
  · replace h := if_n b5 h
    refine g_aload_n hX 0 rfl rfl dX7_part0_33 ?_
    refine m_getI hX hC 19 (by decide) rfl tFld_X7_215 dX7_part0_34 ?_
    refine g_iconst hX (v := nI 1) rfl dX7_part0_37 ?_
    refine g_icmp_ne hX 84 (by decide) dX7_part0_38 (fun b38 => ?_) (fun b38 => ?_)
    · replace h := if_n b38 h
      exact J84  μ x h
    · replace h := if_p b38 h
      refine g_aload_n hX 0 rfl rfl dX7_part0_41 ?_
      refine m_getI hX hC 21 (by decide) rfl tFld_X7_224 dX7_part0_42 ?_
      refine g_if_eq hX 84 (by decide) dX7_part0_45 (fun b45 => ?_) (fun b45 => ?_)
      · replace h := if_p b45 h
        exact J84  μ x h
      · replace h := if_n b45 h
        refine g_iload_n hX 1 rfl rfl dX7_part0_48 ?_
        refine g_aload_n hX 0 rfl rfl dX7_part0_49 ?_
        refine m_getI hX hC 21 (by decide) rfl tFld_X7_224 dX7_part0_50 ?_
        obtain ⟨y53, e53, h⟩ := o1_some h
        refine s_call hX hzo [.int (z1), .int (μ.1 21)] [] (ct_X7_isName _ _ _ _ hzo _ z1 (μ.1 21) _ e53) kX7_isName tMet_X7_271 rfl rfl (by show 0 + 1 ≤ F + 6; omega) (by show 8 + (2 + 11) + (0) ≤ L + 180; omega) ⟨Nat.le_of_ble_eq_true rfl, Nat.le_of_ble_eq_true rfl⟩ rfl rfl (Nat.le_of_ble_eq_true rfl) dX7_part0_53 ?_
        refine g_if_eq hX 84 (by decide) dX7_part0_56 (fun b56 => ?_) (fun b56 => ?_)
        · replace h := if_p b56 h
          exact J84  μ x h
        · replace h := if_n b56 h
          refine g_aload_n hX 0 rfl rfl dX7_part0_59 ?_
          refine g_iconst hX (v := nI 1) rfl dX7_part0_60 ?_
          refine g_aload_n hX 0 rfl rfl dX7_part0_61 ?_
          refine m_getI hX hC 21 (by decide) rfl tFld_X7_224 dX7_part0_62 ?_
          obtain ⟨y65, τ65, e65, h⟩ := ob_some h
          refine m_call hX hzo hC [.int (nI 1), .int (μ.1 21)] [] (ct_X7_step _ _ _ _ hzo hC (nI 1) (μ.1 21) μ _ x _ e65) kX7_step tMet_X7_252 rfl rfl (by show 0 + 1 ≤ F + 6; omega) (by show 8 + (3 + 11) + (0) ≤ L + 180; omega) ⟨Nat.le_of_ble_eq_true rfl, Nat.le_of_ble_eq_true rfl⟩ rfl (Nat.le_of_ble_eq_true rfl) dX7_part0_65 ?_
          rintro _ _ ⟨rfl, x65, rfl⟩
          show GW κ 0 0 (C τ65.1 τ65.2.1 τ65.2.2 x65) 68 [(0, .ref h0), (1, .int (z1))] []
          refine g_aload_n hX 0 rfl rfl dX7_part0_68 ?_
          refine g_dup hX rfl dX7_part0_69 ?_
          refine m_getI hX hC 26 (by decide) rfl tFld_X7_268 dX7_part0_70 ?_
          refine g_iconst hX (v := nI 1) rfl dX7_part0_73 ?_
          refine g_iadd hX dX7_part0_74 ?_
          refine m_putI (ty := .int) hX hC 26 (by decide) rfl rfl (by decide +kernel) rfl rfl tFld_X7_268 dX7_part0_75 ?_
          refine g_aload_n hX 0 rfl rfl dX7_part0_78 ?_
          obtain ⟨y79, τ79, e79, h⟩ := ob_some h
          refine m_call hX hzo hC [] [] (ct_X7_nextToken _ _ _ _ hzo hC  ((upd τ65.1 26 ((τ65.1 26 + nI 1)), τ65.2.1, τ65.2.2)) _ x65 _ e79) kX7_nextToken tMet_X7_249 rfl rfl (by show 2 + 1 ≤ F + 6; omega) (by show 8 + (3 + 11) + (46) ≤ L + 180; omega) ⟨Nat.le_of_ble_eq_true rfl, Nat.le_of_ble_eq_true rfl⟩ rfl (Nat.le_of_ble_eq_true rfl) dX7_part0_79 ?_
          rintro _ _ ⟨rfl, x79, rfl⟩
          show GW κ 0 0 (C τ79.1 τ79.2.1 τ79.2.2 x79) 82 [(0, .ref h0), (1, .int (z1))] []
          refine g_iconst hX (v := nI 1) rfl dX7_part0_82 ?_
          exact g_retb hR (by decide) ⟨by rw [oi_1 h], x79, by rw [← oi_2 h]⟩ dX7_part0_83
  · replace h := if_p b5 h
    refine g_aload_n hX 0 rfl rfl dX7_part0_8 ?_
    refine g_iconst hX (v := nI 0) rfl dX7_part0_9 ?_
    refine g_aload_n hX 0 rfl rfl dX7_part0_10 ?_
    refine m_getI hX hC 20 (by decide) rfl tFld_X7_230 dX7_part0_11 ?_
    obtain ⟨y14, τ14, e14, h⟩ := ob_some h
    refine m_call hX hzo hC [.int (nI 0), .int (μ.1 20)] [] (ct_X7_step _ _ _ _ hzo hC (nI 0) (μ.1 20) μ _ x _ e14) kX7_step tMet_X7_252 rfl rfl (by show 0 + 1 ≤ F + 6; omega) (by show 8 + (3 + 11) + (0) ≤ L + 180; omega) ⟨Nat.le_of_ble_eq_true rfl, Nat.le_of_ble_eq_true rfl⟩ rfl (Nat.le_of_ble_eq_true rfl) dX7_part0_14 ?_
    rintro _ _ ⟨rfl, x14, rfl⟩
    show GW κ 0 0 (C τ14.1 τ14.2.1 τ14.2.2 x14) 17 [(0, .ref h0), (1, .int (z1))] []
    refine g_aload_n hX 0 rfl rfl dX7_part0_17 ?_
    refine g_dup hX rfl dX7_part0_18 ?_
    refine m_getI hX hC 26 (by decide) rfl tFld_X7_268 dX7_part0_19 ?_
    refine g_iconst hX (v := nI 1) rfl dX7_part0_22 ?_
    refine g_iadd hX dX7_part0_23 ?_
    refine m_putI (ty := .int) hX hC 26 (by decide) rfl rfl (by decide +kernel) rfl rfl tFld_X7_268 dX7_part0_24 ?_
    refine g_aload_n hX 0 rfl rfl dX7_part0_27 ?_
    obtain ⟨y28, τ28, e28, h⟩ := ob_some h
    refine m_call hX hzo hC [] [] (ct_X7_nextToken _ _ _ _ hzo hC  ((upd τ14.1 26 ((τ14.1 26 + nI 1)), τ14.2.1, τ14.2.2)) _ x14 _ e28) kX7_nextToken tMet_X7_249 rfl rfl (by show 2 + 1 ≤ F + 6; omega) (by show 8 + (3 + 11) + (46) ≤ L + 180; omega) ⟨Nat.le_of_ble_eq_true rfl, Nat.le_of_ble_eq_true rfl⟩ rfl (Nat.le_of_ble_eq_true rfl) dX7_part0_28 ?_
    rintro _ _ ⟨rfl, x28, rfl⟩
    show GW κ 0 0 (C τ28.1 τ28.2.1 τ28.2.2 x28) 31 [(0, .ref h0), (1, .int (z1))] []
    refine g_iconst hX (v := nI 1) rfl dX7_part0_31 ?_
    exact g_retb hR (by decide) ⟨by rw [oi_1 h], x28, by rw [← oi_2 h]⟩ dX7_part0_32
theorem ct_X7_part0 (l : Launch) (D : va_G) (cy : Nat → ClassId) (Z : (Nat → Prop) → State → Heap → Prop) (hzo : zOK Z) {h0 : Nat} {a q : Nat → Nat} {C : (Nat → Int32) → (Nat → Int32) → (Nat → Nat → Int32) → (Nat → Nat → Int32) → va_W} (hC : mLens (cy 0) h0 a q C) : ∀ (d : Nat) (z1 : Int32) (μ μ2 : Mg) (x : Nat → Nat → Int32) (res : Int32), fn_X7_part0 d z1 μ = some (res, μ2) → GM l D cy Z yX7_part0 (zW yX7_part0 cX7_part0 2 (some .boolean)) { frames := fD d, cells := 0, slots := 0, locals := lD d } [.ref h0, .int (z1)] (C μ.1 μ.2.1 μ.2.2 x) (fun rs w2 => rs = some (.int res) ∧ ∃ x2, w2 = C μ2.1 μ2.2.1 μ2.2.2 x2) 0 0
  | 0, _, _, _, _, _, h => by cases h
  | d + 1, z1, μ, μ2, x, res, h => ct_X7_part0B l D cy Z hzo hC (fn_X7_part0 d) (fD d) (lD d) (fD_8 d) (lD_300 d) (fun l D z1 μ μ2 x res h => ct_X7_part0 l D cy Z hzo hC d z1 μ μ2 x res h) z1 μ μ2 x res h
theorem kX7_parse : mKV RX7 yX7_parse cX7_parse 3 (some .int) 0 := ⟨tIns_X7_parse, tSel_X7_parse, tIni_X7, tCod_X7_parse, by decide +kernel⟩
set_option maxHeartbeats 4000000 in
set_option maxRecDepth 100000 in
theorem ct_X7_parse (l : Launch) (D : va_G) (cy : Nat → ClassId) (Z : (Nat → Prop) → State → Heap → Prop) (hzo : zOK Z) {h0 : Nat} {a q : Nat → Nat} {C : (Nat → Int32) → (Nat → Int32) → (Nat → Nat → Int32) → (Nat → Nat → Int32) → va_W} (hC : mLens (cy 0) h0 a q C) (μ μ2 : Mg) (x : Nat → Nat → Int32) (res : Int32) (h : fn_X7_parse  μ = some (res, μ2)) : GM l D cy Z yX7_parse (zW yX7_parse cX7_parse 3 (some .int)) { frames := 134, cells := 0, slots := 0, locals := 4071 } [.ref h0] (C μ.1 μ.2.1 μ.2.2 x) (fun rs w2 => rs = some (.int res) ∧ ∃ x2, w2 = C μ2.1 μ2.2.1 μ2.2.2 x2) 0 0 := by
  refine g_entry (cc := cX7_parse) (maxL := 3) (by decide) rfl (Nat.le_of_ble_eq_true rfl) ?_
  intro κ hN hX hR
  have hX : GX κ cy Z cX7_parse (Cond.code yX7_parse cX7_parse 3 (some .int) :: zT) RX7 { frames := 134, cells := 0, slots := 0, locals := 4071 } := hX
  have J125 : ∀ (s0 : Int32) (μ : Mg) (x : Nat → Nat → Int32) , fn_X7_parse_L125  s0 μ = some (res, μ2) → GW κ 0 0 (C μ.1 μ.2.1 μ.2.2 x) 125 [] [.int (s0)] := by
    intro s0 μ x h
    exact g_retiP hR ⟨by rw [oi_1 h], x, by rw [← oi_2 h]⟩ dX7_parse_125
  have J111 : ∀ (v1 : Int32) (v2 : Int32) (μ : Mg) (x : Nat → Nat → Int32) , fn_X7_parse_L111  v1 v2 μ = some (res, μ2) → GW κ 0 0 (C μ.1 μ.2.1 μ.2.2 x) 111 [(0, .ref h0), (1, .int (v1)), (2, .int (v2))] [] := by
    intro v1 v2 μ x h
    refine g_aload_n hX 0 rfl rfl dX7_parse_111 ?_
    refine g_iconst hX (v := nI 0) rfl dX7_parse_112 ?_
    refine m_putI (ty := .int) hX hC 16 (by decide) rfl rfl (by decide +kernel) rfl rfl tFld_X7_200 dX7_parse_113 ?_
    refine g_iload_n hX 2 rfl rfl dX7_parse_116 ?_
    refine g_if_eq hX 124 (by decide) dX7_parse_117 (fun b117 => ?_) (fun b117 => ?_)
    · replace h := if_p b117 h
      refine g_iconst hX (v := -1) (by decide) dX7_parse_124 ?_
      refine g_lv [] rfl ?_
      exact J125 ((-1)) ((upd μ.1 16 (nI 0), μ.2.1, μ.2.2)) x h
    · replace h := if_n b117 h
      refine g_iload_n hX 1 rfl rfl dX7_parse_120 ?_
      refine g_goto hX 125 (by decide) dX7_parse_121 ?_
      refine g_lv [] rfl ?_
      exact J125 v1 ((upd μ.1 16 (nI 0), μ.2.1, μ.2.2)) x h
  have J110 : ∀ (v1 : Int32) (s0 : Int32) (μ : Mg) (x : Nat → Nat → Int32) , fn_X7_parse_L110  v1 s0 μ = some (res, μ2) → GW κ 0 0 (C μ.1 μ.2.1 μ.2.2 x) 110 [(0, .ref h0), (1, .int (v1))] [.int (s0)] := by
    intro v1 s0 μ x h
    refine g_istore_n (lv2 := [(2, .int (s0)), (0, .ref h0), (1, .int (v1))]) hX 2 3 hN rfl (by decide) rfl dX7_parse_110 ?_
    refine g_lv [1, 2, 0] rfl ?_
    exact J111 v1 s0 μ x h
  have J109 : ∀ (v1 : Int32) (μ : Mg) (x : Nat → Nat → Int32) , fn_X7_parse_L109  v1 μ = some (res, μ2) → GW κ 0 0 (C μ.1 μ.2.1 μ.2.2 x) 109 [(0, .ref h0), (1, .int (v1))] [] := by
    intro v1 μ x h
    refine g_iconst hX (v := nI 0) rfl dX7_parse_109 ?_
    exact J110 v1 (nI 0) μ x h
  have J81 : ∀ (v1 : Int32) (s0 : Int32) (μ : Mg) (x : Nat → Nat → Int32) , fn_X7_parse_L81  v1 s0 μ = some (res, μ2) → GW κ 0 0 (C μ.1 μ.2.1 μ.2.2 x) 81 [(0, .ref h0), (1, .int (v1))] [.int (s0)] := by
    intro v1 s0 μ x h
    refine g_istore_n (lv2 := [(2, .int (s0)), (0, .ref h0), (1, .int (v1))]) hX 2 3 hN rfl (by decide) rfl dX7_parse_81 ?_
    refine g_iload_n hX 0 rfl rfl dX7_parse_82 ?_
    refine g_if_eq hX 111 (by decide) dX7_parse_83 (fun b83 => ?_) (fun b83 => ?_)
    · replace h := if_p b83 h
      refine g_lv [1, 2, 0] rfl ?_
      exact J111 v1 s0 μ x h
    · replace h := if_n b83 h
      refine g_aload_n hX 1 rfl rfl dX7_parse_86 ?_
      obtain ⟨y87, τ87, e87, h⟩ := ob_some h
      refine m_call hX hzo hC [] [] (ct_X7_nextToken _ _ _ _ hzo hC  μ _ x _ e87) kX7_nextToken tMet_X7_249 rfl rfl (Nat.le_of_ble_eq_true rfl) (Nat.le_of_ble_eq_true rfl) ⟨Nat.le_of_ble_eq_true rfl, Nat.le_of_ble_eq_true rfl⟩ rfl (Nat.le_of_ble_eq_true rfl) dX7_parse_87 ?_
      rintro _ _ ⟨rfl, x87, rfl⟩
      show GW κ 0 0 (C τ87.1 τ87.2.1 τ87.2.2 x87) 90 [(2, .int (s0)), (0, .ref h0), (1, .int (v1))] []
      refine g_aload_n hX 1 rfl rfl dX7_parse_90 ?_
      refine g_iload_n hX 2 rfl rfl dX7_parse_91 ?_
      obtain ⟨y92, τ92, e92, h⟩ := ob_some h
      refine m_call hX hzo hC [.int (v1)] [] (ct_X7_either _ _ _ _ hzo hC (fn_X7_part0 20) (fD 20) (lD 20) (fD_8 _) (lD_300 _) (fun l D => ct_X7_part0 l D _ _ hzo hC 20) v1 τ87 _ x87 _ e92) kX7_either tMet_X7_280 rfl rfl (Nat.le_of_ble_eq_true rfl) (Nat.le_of_ble_eq_true rfl) ⟨Nat.le_of_ble_eq_true rfl, Nat.le_of_ble_eq_true rfl⟩ rfl (Nat.le_of_ble_eq_true rfl) dX7_parse_92 ?_
      rintro _ _ ⟨rfl, x92, rfl⟩
      show GW κ 0 0 (C τ92.1 τ92.2.1 τ92.2.2 x92) 95 [(2, .int (s0)), (0, .ref h0), (1, .int (v1))] [.int (y92)]
      refine g_if_eq hX 109 (by decide) dX7_parse_95 (fun b95 => ?_) (fun b95 => ?_)
      · replace h := if_p b95 h
        refine g_lv [1, 2] rfl ?_
        exact J109 v1 τ92 x92 h
      · replace h := if_n b95 h
        refine g_aload_n hX 1 rfl rfl dX7_parse_98 ?_
        refine m_getI hX hC 19 (by decide) rfl tFld_X7_215 dX7_parse_99 ?_
        refine g_if_ne hX 109 (by decide) dX7_parse_102 (fun b102 => ?_) (fun b102 => ?_)
        · replace h := if_n b102 h
          refine g_lv [1, 2] rfl ?_
          exact J109 v1 τ92 x92 h
        · replace h := if_p b102 h
          refine g_iconst hX (v := nI 1) rfl dX7_parse_105 ?_
          refine g_goto hX 110 (by decide) dX7_parse_106 ?_
          refine g_lv [1, 2] rfl ?_
          exact J110 v1 (nI 1) τ92 x92 h
  have J60 : ∀ (s0 : Int32) (μ : Mg) (x : Nat → Nat → Int32) , fn_X7_parse_L60  s0 μ = some (res, μ2) → GW κ 0 0 (C μ.1 μ.2.1 μ.2.2 x) 60 [(0, .ref h0)] [.int (s0), .ref h0] := by
    intro s0 μ x h
    refine m_putI (ty := .int) hX hC 25 (by decide) rfl rfl (by decide +kernel) rfl rfl tFld_X7_237 dX7_parse_60 ?_
    refine g_aload_n hX 0 rfl rfl dX7_parse_63 ?_
    obtain ⟨y64, τ64, e64, h⟩ := ob_some h
    refine m_call hX hzo hC [] [] (ct_X7_nextToken _ _ _ _ hzo hC  ((upd μ.1 25 s0, μ.2.1, μ.2.2)) _ x _ e64) kX7_nextToken tMet_X7_249 rfl rfl (Nat.le_of_ble_eq_true rfl) (Nat.le_of_ble_eq_true rfl) ⟨Nat.le_of_ble_eq_true rfl, Nat.le_of_ble_eq_true rfl⟩ rfl (Nat.le_of_ble_eq_true rfl) dX7_parse_64 ?_
    rintro _ _ ⟨rfl, x64, rfl⟩
    show GW κ 0 0 (C τ64.1 τ64.2.1 τ64.2.2 x64) 67 [(0, .ref h0)] []
    refine g_aload_n hX 0 rfl rfl dX7_parse_67 ?_
    obtain ⟨y68, τ68, e68, h⟩ := ob_some h
    refine m_call hX hzo hC [] [] (ct_X7_key _ _ _ _ hzo hC  τ64 _ x64 _ e68) kX7_key tMet_X7_286 rfl rfl (Nat.le_of_ble_eq_true rfl) (Nat.le_of_ble_eq_true rfl) ⟨Nat.le_of_ble_eq_true rfl, Nat.le_of_ble_eq_true rfl⟩ rfl (Nat.le_of_ble_eq_true rfl) dX7_parse_68 ?_
    rintro _ _ ⟨rfl, x68, rfl⟩
    show GW κ 0 0 (C τ68.1 τ68.2.1 τ68.2.2 x68) 71 [(0, .ref h0)] [.int (y68)]
    refine g_istore_n (lv2 := [(1, .int (y68)), (0, .ref h0)]) hX 1 3 hN rfl (by decide) rfl dX7_parse_71 ?_
    refine g_iload_n hX 0 rfl rfl dX7_parse_72 ?_
    refine g_if_lt hX 80 (by decide) dX7_parse_73 (fun b73 => ?_) (fun b73 => ?_)
    · replace h := if_p b73 h
      refine g_iconst hX (v := nI 0) rfl dX7_parse_80 ?_
      refine g_lv [1, 0] rfl ?_
      exact J81 y68 (nI 0) τ68 x68 h
    · replace h := if_n b73 h
      refine g_iconst hX (v := nI 1) rfl dX7_parse_76 ?_
      refine g_goto hX 81 (by decide) dX7_parse_77 ?_
      refine g_lv [1, 0] rfl ?_
      exact J81 y68 (nI 1) τ68 x68 h
  show GW κ 0 0 (C μ.1 μ.2.1 μ.2.2 x) 0 [(0, .ref h0)] []
  refine g_aload_n hX 0 rfl rfl dX7_parse_0 ?_
  refine g_iconst hX (v := nI 0) rfl dX7_parse_1 ?_
  refine m_putI (ty := .int) hX hC 18 (by decide) rfl rfl (by decide +kernel) rfl rfl tFld_X7_212 dX7_parse_2 ?_
  refine g_aload_n hX 0 rfl rfl dX7_parse_5 ?_
  refine g_iconst hX (v := nI 3) rfl dX7_parse_6 ?_
  refine m_putI (ty := .int) hX hC 19 (by decide) rfl rfl (by decide +kernel) rfl rfl tFld_X7_215 dX7_parse_7 ?_
  refine g_aload_n hX 0 rfl rfl dX7_parse_10 ?_
  refine g_iconst hX (v := nI 0) rfl dX7_parse_11 ?_
  refine m_putI (ty := .int) hX hC 22 (by decide) rfl rfl (by decide +kernel) rfl rfl tFld_X7_277 dX7_parse_12 ?_
  refine g_aload_n hX 0 rfl rfl dX7_parse_15 ?_
  refine g_iconst hX (v := nI 0) rfl dX7_parse_16 ?_
  refine m_putI (ty := .int) hX hC 23 (by decide) rfl rfl (by decide +kernel) rfl rfl tFld_X7_274 dX7_parse_17 ?_
  refine g_aload_n hX 0 rfl rfl dX7_parse_20 ?_
  refine g_iconst hX (v := nI 0) rfl dX7_parse_21 ?_
  refine m_putI (ty := .int) hX hC 24 (by decide) rfl rfl (by decide +kernel) rfl rfl tFld_X7_240 dX7_parse_22 ?_
  refine g_aload_n hX 0 rfl rfl dX7_parse_25 ?_
  refine g_iconst hX (v := nI 0) rfl dX7_parse_26 ?_
  refine m_putI (ty := .int) hX hC 26 (by decide) rfl rfl (by decide +kernel) rfl rfl tFld_X7_268 dX7_parse_27 ?_
  refine g_aload_n hX 0 rfl rfl dX7_parse_30 ?_
  refine g_aload_n hX 0 rfl rfl dX7_parse_31 ?_
  refine m_getA hX hC 0 (by decide) rfl tFld_X7_7 dX7_parse_32 ?_
  refine g_iconst hX (v := nI 1) rfl dX7_parse_35 ?_
  obtain ⟨g1, h⟩ := gd_some h
  refine m0_ald hX hC g1 dX7_parse_36 ?_
  refine g_bipush hX (v := nI 14) (by decide) dX7_parse_37 ?_
  refine g_icmp_ge hX 57 (by decide) dX7_parse_39 (fun b39 => ?_) (fun b39 => ?_)
  · replace h := if_p b39 h
    refine g_sipush hX (v := nI 2869) (by decide) dX7_parse_57 ?_
    exact J60 (nI 2869) ((upd (upd (upd (upd (upd (upd μ.1 18 (nI 0)) 19 (nI 3)) 22 (nI 0)) 23 (nI 0)) 24 (nI 0)) 26 (nI 0), μ.2.1, μ.2.2)) x h
  · replace h := if_n b39 h
    refine g_aload_n hX 0 rfl rfl dX7_parse_42 ?_
    refine g_aload_n hX 0 rfl rfl dX7_parse_43 ?_
    refine m_getA hX hC 0 (by decide) rfl tFld_X7_7 dX7_parse_44 ?_
    refine g_iconst hX (v := nI 1) rfl dX7_parse_47 ?_
    refine m0_ald hX hC g1 dX7_parse_48 ?_
    obtain ⟨y49, τ49, e49, h⟩ := ob_some h
    refine m_call hX hzo hC [.int (μ.2.1 (nI 1).toNatClampNeg)] [.ref h0] (ct_X7_textAt _ _ _ _ hzo hC (μ.2.1 (nI 1).toNatClampNeg) ((upd (upd (upd (upd (upd (upd μ.1 18 (nI 0)) 19 (nI 3)) 22 (nI 0)) 23 (nI 0)) 24 (nI 0)) 26 (nI 0), μ.2.1, μ.2.2)) _ x _ e49) kX7_textAt tMet_X7_283 rfl rfl (Nat.le_of_ble_eq_true rfl) (Nat.le_of_ble_eq_true rfl) ⟨Nat.le_of_ble_eq_true rfl, Nat.le_of_ble_eq_true rfl⟩ rfl (Nat.le_of_ble_eq_true rfl) dX7_parse_49 ?_
    rintro _ _ ⟨rfl, x49, rfl⟩
    show GW κ 0 0 (C τ49.1 τ49.2.1 τ49.2.2 x49) 52 [(0, .ref h0)] [.int (y49), .ref h0]
    refine g_iconst hX (v := nI 4) rfl dX7_parse_52 ?_
    refine g_iadd hX dX7_parse_53 ?_
    refine g_goto hX 60 (by decide) dX7_parse_54 ?_
    exact J60 ((y49 + nI 4)) τ49 x49 h
theorem kX7_text : mKV RX7 yX7_text cX7_text 3 (some .int) 0 := ⟨tIns_X7_text, tSel_X7_text, tIni_X7, tCod_X7_text, by decide +kernel⟩
set_option maxHeartbeats 4000000 in
set_option maxRecDepth 100000 in
theorem ct_X7_text (l : Launch) (D : va_G) (cy : Nat → ClassId) (Z : (Nat → Prop) → State → Heap → Prop) (hzo : zOK Z) {h0 : Nat} {a q : Nat → Nat} {C : (Nat → Int32) → (Nat → Int32) → (Nat → Nat → Int32) → (Nat → Nat → Int32) → va_W} (hC : mLens (cy 0) h0 a q C) (μ μ2 : Mg) (x : Nat → Nat → Int32) (res : Int32) (h : fn_X7_text  μ = some (res, μ2)) : GM l D cy Z yX7_text (zW yX7_text cX7_text 3 (some .int)) { frames := 135, cells := 0, slots := 0, locals := 4093 } [.ref h0] (C μ.1 μ.2.1 μ.2.2 x) (fun rs w2 => rs = some (.int res) ∧ ∃ x2, w2 = C μ2.1 μ2.2.1 μ2.2.2 x2) 0 0 := by
  refine g_entry (cc := cX7_text) (maxL := 3) (by decide) rfl (Nat.le_of_ble_eq_true rfl) ?_
  intro κ hN hX hR
  have hX : GX κ cy Z cX7_text (Cond.code yX7_text cX7_text 3 (some .int) :: zT) RX7 { frames := 135, cells := 0, slots := 0, locals := 4093 } := hX
  show GW κ 0 0 (C μ.1 μ.2.1 μ.2.2 x) 0 [(0, .ref h0)] []
  refine g_aload_n hX 0 rfl rfl dX7_text_0 ?_
  obtain ⟨y1, τ1, e1, h⟩ := ob_some h
  refine m_call hX hzo hC [] [] (ct_X7_parse _ _ _ _ hzo hC  μ _ x _ e1) kX7_parse tMet_X7_289 rfl rfl (Nat.le_of_ble_eq_true rfl) (Nat.le_of_ble_eq_true rfl) ⟨Nat.le_of_ble_eq_true rfl, Nat.le_of_ble_eq_true rfl⟩ rfl (Nat.le_of_ble_eq_true rfl) dX7_text_1 ?_
  rintro _ _ ⟨rfl, x1, rfl⟩
  show GW κ 0 0 (C τ1.1 τ1.2.1 τ1.2.2 x1) 4 [(0, .ref h0)] [.int (y1)]
  refine g_istore_n (lv2 := [(1, .int (y1)), (0, .ref h0)]) hX 1 3 hN rfl (by decide) rfl dX7_text_4 ?_
  refine g_iload_n hX 0 rfl rfl dX7_text_5 ?_
  refine g_if_ge hX 17 (by decide) dX7_text_6 (fun b6 => ?_) (fun b6 => ?_)
  · replace h := if_p b6 h
    refine g_aload_n hX 1 rfl rfl dX7_text_17 ?_
    refine m_getA hX hC 0 (by decide) rfl tFld_X7_7 dX7_text_18 ?_
    refine g_iconst hX (v := nI 1) rfl dX7_text_21 ?_
    obtain ⟨g1, h⟩ := gd_some h
    refine m0_ald hX hC g1 dX7_text_22 ?_
    refine g_bipush hX (v := nI 14) (by decide) dX7_text_23 ?_
    refine g_icmp_ne hX 31 (by decide) dX7_text_25 (fun b25 => ?_) (fun b25 => ?_)
    · replace h := if_n b25 h
      refine g_aload_n hX 1 rfl rfl dX7_text_31 ?_
      refine g_aload_n hX 1 rfl rfl dX7_text_32 ?_
      refine m_getA hX hC 0 (by decide) rfl tFld_X7_7 dX7_text_33 ?_
      refine g_iconst hX (v := nI 1) rfl dX7_text_36 ?_
      refine m0_ald hX hC g1 dX7_text_37 ?_
      obtain ⟨y38, τ38, e38, h⟩ := ob_some h
      refine m_call hX hzo hC [.int (τ1.2.1 (nI 1).toNatClampNeg)] [] (ct_X7_textAt _ _ _ _ hzo hC (τ1.2.1 (nI 1).toNatClampNeg) τ1 _ x1 _ e38) kX7_textAt tMet_X7_283 rfl rfl (Nat.le_of_ble_eq_true rfl) (Nat.le_of_ble_eq_true rfl) ⟨Nat.le_of_ble_eq_true rfl, Nat.le_of_ble_eq_true rfl⟩ rfl (Nat.le_of_ble_eq_true rfl) dX7_text_38 ?_
      rintro _ _ ⟨rfl, x38, rfl⟩
      show GW κ 0 0 (C τ38.1 τ38.2.1 τ38.2.2 x38) 41 [(1, .int (y1)), (0, .ref h0)] [.int (y38)]
      refine g_istore_n (lv2 := [(2, .int (y38)), (1, .int (y1)), (0, .ref h0)]) hX 2 3 hN rfl (by decide) rfl dX7_text_41 ?_
      refine g_aload_n hX 2 rfl rfl dX7_text_42 ?_
      refine m_getA hX hC 0 (by decide) rfl tFld_X7_7 dX7_text_43 ?_
      refine g_iload_n hX 0 rfl rfl dX7_text_46 ?_
      refine g_iconst hX (v := nI 0) rfl dX7_text_47 ?_
      refine g_iadd hX dX7_text_48 ?_
      refine g_iload_n hX 1 rfl rfl dX7_text_49 ?_
      obtain ⟨g2, h⟩ := gd_some h
      refine m0_ast hX hC g2 dX7_text_50 ?_
      refine g_aload_n hX 2 rfl rfl dX7_text_51 ?_
      refine m_getA hX hC 0 (by decide) rfl tFld_X7_7 dX7_text_52 ?_
      refine g_iload_n hX 0 rfl rfl dX7_text_55 ?_
      refine g_iconst hX (v := nI 1) rfl dX7_text_56 ?_
      refine g_iadd hX dX7_text_57 ?_
      refine g_aload_n hX 2 rfl rfl dX7_text_58 ?_
      refine m_getI hX hC 26 (by decide) rfl tFld_X7_268 dX7_text_59 ?_
      obtain ⟨g3, h⟩ := gd_some h
      refine m0_ast hX hC g3 dX7_text_62 ?_
      refine g_aload_n hX 2 rfl rfl dX7_text_63 ?_
      refine m_getA hX hC 0 (by decide) rfl tFld_X7_7 dX7_text_64 ?_
      refine g_iload_n hX 0 rfl rfl dX7_text_67 ?_
      refine g_iconst hX (v := nI 2) rfl dX7_text_68 ?_
      refine g_iadd hX dX7_text_69 ?_
      refine g_aload_n hX 2 rfl rfl dX7_text_70 ?_
      refine m_getI hX hC 24 (by decide) rfl tFld_X7_240 dX7_text_71 ?_
      obtain ⟨g4, h⟩ := gd_some h
      refine m0_ast hX hC g4 dX7_text_74 ?_
      refine g_aload_n hX 2 rfl rfl dX7_text_75 ?_
      refine m_getA hX hC 0 (by decide) rfl tFld_X7_7 dX7_text_76 ?_
      refine g_iconst hX (v := nI 1) rfl dX7_text_79 ?_
      refine g_dup2 hX rfl rfl dX7_text_80 ?_
      refine m0_ald hX hC g1 dX7_text_81 ?_
      refine g_iconst hX (v := nI 1) rfl dX7_text_82 ?_
      refine g_iadd hX dX7_text_83 ?_
      refine m0_ast hX hC g1 dX7_text_84 ?_
      refine g_aload_n hX 2 rfl rfl dX7_text_85 ?_
      refine m_getA hX hC 0 (by decide) rfl tFld_X7_7 dX7_text_86 ?_
      refine g_iconst hX (v := nI 1) rfl dX7_text_89 ?_
      refine m0_ald hX hC g1 dX7_text_90 ?_
      refine g_iconst hX (v := nI 1) rfl dX7_text_91 ?_
      refine g_isub hX dX7_text_92 ?_
      exact g_retiP hR ⟨by rw [oi_1 h], x38, by rw [← oi_2 h]⟩ dX7_text_93
    · replace h := if_p b25 h
      refine g_ldc hX (v := -1000000003) (zu tCon_X7_101 rfl) dX7_text_28 ?_
      exact g_retiP hR ⟨by rw [oi_1 h], x1, by rw [← oi_2 h]⟩ dX7_text_30
  · replace h := if_n b6 h
    refine g_bipush hX (v := -100) (by decide) dX7_text_9 ?_
    refine g_aload_n hX 1 rfl rfl dX7_text_11 ?_
    refine m_getI hX hC 17 (by decide) rfl tFld_X7_218 dX7_text_12 ?_
    refine g_isub hX dX7_text_15 ?_
    exact g_retiP hR ⟨by rw [oi_1 h], x1, by rw [← oi_2 h]⟩ dX7_text_16
