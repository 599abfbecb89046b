noncomputable def fn_X7_isOf_L34 (z0 : Int32) (z1 : Int32) (s0 : Int32) : Option Int32 := (if s0 = 0 ∨ s0 = 1 then some s0 else none)
noncomputable def fn_X7_isOf_L33 (z0 : Int32) (z1 : Int32)  : Option Int32 := ((fn_X7_isOf_L34 z0 z1) (nI 0))
noncomputable def fn_X7_isOf_L29 (z0 : Int32) (z1 : Int32)  : Option Int32 := ((fn_X7_isOf_L34 z0 z1) (nI 1))
noncomputable def fn_X7_isOf_L19 (z0 : Int32) (z1 : Int32)  : Option Int32 := (if z1 = nI 2 then (if z0 = nI 4 then ((fn_X7_isOf_L29 z0 z1) ) else ((fn_X7_isOf_L33 z0 z1) )) else ((fn_X7_isOf_L33 z0 z1) ))
noncomputable def fn_X7_isOf (z0 : Int32) (z1 : Int32) : Option Int32 := (if z0 = z1 then ((fn_X7_isOf_L29 z0 z1) ) else (if z1 = 0 then ((fn_X7_isOf_L29 z0 z1) ) else (if z1 = nI 1 then (if z0 = nI 3 then ((fn_X7_isOf_L29 z0 z1) ) else ((fn_X7_isOf_L19 z0 z1) )) else ((fn_X7_isOf_L19 z0 z1) ))))
noncomputable def fn_X7_isSheet (z0 : Int32) : Option Int32 := (if (bI (inB z0 ((0)) ((3)))) = 0 ∨ (bI (inB z0 ((0)) ((3)))) = 1 then some ((bI (inB z0 ((0)) ((3))))) else none)
noncomputable def fn_X7_isSlot (z0 : Int32) : Option Int32 := (if (bI (inB z0 ((0)) ((4)))) = 0 ∨ (bI (inB z0 ((0)) ((4)))) = 1 then some ((bI (inB z0 ((0)) ((4))))) else none)
noncomputable def fn_X7_becomes (z1 : Int32) (z2 : Int32) (μ : Mg) : Option (Int32 × Mg) := (if ¬ (z1 < 0 ∨ 3069 ≤ z1.toNatClampNeg) then some (μ.2.1 z1.toNatClampNeg, (μ.1, upd μ.2.1 z1.toNatClampNeg z2, μ.2.2)) else none)
noncomputable def fn_X7_textAt (z1 : Int32) (μ : Mg) : Option (Int32 × Mg) := some ((nI 69 + (nI 200 * z1)), μ)
noncomputable def fn_X7_of (z1 : Int32) (z2 : Int32) (μ : Mg) : Option (Int32 × Mg) := (if ¬ (((nI 6 + (nI 7 * z1)) + z2) < 0 ∨ 3069 ≤ (((nI 6 + (nI 7 * z1)) + z2)).toNatClampNeg) then some (μ.2.1 (((nI 6 + (nI 7 * z1)) + z2)).toNatClampNeg, μ) else none)
noncomputable def fn_X7_sets (z1 : Int32) (z2 : Int32) (z3 : Int32) (μ : Mg) : Option (Unit × Mg) := (if ¬ (((nI 6 + (nI 7 * z1)) + z2) < 0 ∨ 3069 ≤ (((nI 6 + (nI 7 * z1)) + z2)).toNatClampNeg) then some ((), (μ.1, upd μ.2.1 (((nI 6 + (nI 7 * z1)) + z2)).toNatClampNeg z3, μ.2.2)) else none)
noncomputable def fn_X7_isHouse (z1 : Int32) (μ : Mg) : Option (Int32 × Mg) := (if ¬ (nI 0 < 0 ∨ 3069 ≤ (nI 0).toNatClampNeg) then (if (bI (inB z1 ((0)) ((μ.2.1 (nI 0).toNatClampNeg - nI 1)))) = 0 ∨ (bI (inB z1 ((0)) ((μ.2.1 (nI 0).toNatClampNeg - nI 1)))) = 1 then some ((bI (inB z1 ((0)) ((μ.2.1 (nI 0).toNatClampNeg - nI 1)))), μ) else none) else none)
noncomputable def fn_X7_stands_L15 (z1 : Int32) (s0 : Int32) (μ : Mg) : Option (Int32 × Mg) := (if s0 = 0 ∨ s0 = 1 then some (s0, μ) else none)
noncomputable def fn_X7_stands (z1 : Int32) (μ : Mg) : Option (Int32 × Mg) := (ob (fn_X7_of z1 (nI 6) μ) (fun y4 τ4 => (if y4 = 0 then ((fn_X7_stands_L15 z1) (nI 1) τ4) else ((fn_X7_stands_L15 z1) (nI 0) τ4))))
noncomputable def fn_X7_isText (z1 : Int32) (μ : Mg) : Option (Int32 × Mg) := (if ¬ (nI 1 < 0 ∨ 3069 ≤ (nI 1).toNatClampNeg) then (if (bI (inB z1 ((0)) ((μ.2.1 (nI 1).toNatClampNeg - nI 1)))) = 0 ∨ (bI (inB z1 ((0)) ((μ.2.1 (nI 1).toNatClampNeg - nI 1)))) = 1 then some ((bI (inB z1 ((0)) ((μ.2.1 (nI 1).toNatClampNeg - nI 1)))), μ) else none) else none)
noncomputable def fn_X7_worth (z1 : Int32) (μ : Mg) : Option (Int32 × Mg) := (ob (fn_X7_of z1 (nI 3) μ) (fun y3 τ3 => (ob (fn_X7_of z1 (nI 0) τ3) (fun y10 τ10 => (if y10 = nI 1 then some ((y3 + nI 7), τ10) else (if y10 = nI 2 then some ((nI 99 - y3), τ10) else (if y10 = nI 3 then some ((nI 2 * (y3 + nI 7)), τ10) else (if y10 = nI 4 then some ((nI 94 - y3), τ10) else (if y10 = nI 5 then some (nI 6, τ10) else some (y3, τ10))))))))))
noncomputable def fn_X7_falls (z1 : Int32) (μ : Mg) : Option (Unit × Mg) := (ob (fn_X7_sets z1 (nI 6) (nI 1) μ) (fun y5 τ5 => (ob (fn_X7_sets z1 (nI 5) (nI 0) τ5) (fun y12 τ12 => some ((), τ12)))))
noncomputable def fn_X7_keeps_L23 (z1 : Int32) (s0 : Int32) (μ : Mg) : Option (Int32 × Mg) := (ob (fn_X7_laysBack  μ) (fun y25 τ25 => (if s0 = 0 ∨ s0 = 1 then some (s0, τ25) else none)))
noncomputable def fn_X7_keeps (z1 : Int32) (μ : Mg) : Option (Int32 × Mg) := (ob (fn_X7_allStanding  μ) (fun y1 τ1 => (ob (fn_X7_goesOnMany z1 τ1) (fun y7 τ7 => (ob (fn_X7_allStanding  τ7) (fun y11 τ11 => (if y11 = y1 then ((fn_X7_keeps_L23 z1) (nI 1) τ11) else ((fn_X7_keeps_L23 z1) (nI 0) τ11))))))))
noncomputable def fn_X7_behind_L88 (z1 : Int32) (z2 : Int32) (s0 : Int32) (μ : Mg) : Option (Int32 × Mg) := (ob (fn_X7_laysBack  μ) (fun y90 τ90 => some (s0, τ90)))
noncomputable def fn_X7_behind_L30 (z1 : Int32) (z2 : Int32)  (μ : Mg) : Option (Int32 × Mg) := some ((-1000000001), μ)
noncomputable def fn_X7_behind (z1 : Int32) (z2 : Int32) (μ : Mg) : Option (Int32 × Mg) := (if (bI (inB z1 ((0)) ((100)))) = 0 then ((fn_X7_behind_L30 z1 z2)  μ) else (if ¬ (nI 0 < 0 ∨ 3069 ≤ (nI 0).toNatClampNeg) then (if (bI (inB z2 ((0)) ((nI 2 + μ.2.1 (nI 0).toNatClampNeg)))) = 0 then ((fn_X7_behind_L30 z1 z2)  μ) else (ob (fn_X7_laysBy  μ) (fun y34 τ34 => (ob (fn_X7_goesOnMany z1 τ34) (fun y39 τ39 => (if z2 = 0 then (ob (fn_X7_allStanding  τ39) (fun y47 τ47 => ((fn_X7_behind_L88 z1 z2) y47 τ47))) else (if z2 = nI 1 then (ob (fn_X7_allOf (nI 4) τ39) (fun y60 τ60 => ((fn_X7_behind_L88 z1 z2) y60 τ60))) else (if z2 = nI 2 then (if ¬ (nI 3 < 0 ∨ 3069 ≤ (nI 3).toNatClampNeg) then ((fn_X7_behind_L88 z1 z2) (τ39.2.1 (nI 3).toNatClampNeg) τ39) else none) else (ob (fn_X7_of ((z2 - nI 3)) (nI 2) τ39) (fun y85 τ85 => ((fn_X7_behind_L88 z1 z2) y85 τ85))))))))))) else none))
noncomputable def fn_X7_lasts_L48  (v2 : Int32) (μ : Mg) : Option (Int32 × Mg) := (ob (fn_X7_laysBack  μ) (fun y49 τ49 => (o1 (fn_X7_orNone v2) (fun y53 => some (y53, τ49)))))
noncomputable def fn_X7_lasts_L41  (slf : Int32 → Int32 → Int32 → Mg → Option (Int32 × Mg)) (k48 : Int32 → Mg → Option (Int32 × Mg)) (v1 : Int32) (v3 : Int32) (s0 : Int32) (μ : Mg) : Option (Int32 × Mg) := (slf v1 s0 ((v3 + nI 1)) μ)
noncomputable def fn_X7_lasts_L13  (k48 : Int32 → Mg → Option (Int32 × Mg)) : Nat → Int32 → Int32 → Int32 → Mg → Option (Int32 × Mg)
  | 0 => fun _ _ _ _ => none
  | fuel + 1 => fun (v1 : Int32) (v2 : Int32) (v3 : Int32) (μ : Mg) => (if nI 300 < v3 then (k48 v2 μ) else (if 0 ≤ v2 then (k48 v2 μ) else (ob (fn_X7_goesOn  μ) (fun y25 τ25 => (ob (fn_X7_allStanding  τ25) (fun y29 τ29 => (if y29 = v1 then ((fn_X7_lasts_L41  (fn_X7_lasts_L13  k48 fuel) k48) v1 v3 ((-1)) τ29) else ((fn_X7_lasts_L41  (fn_X7_lasts_L13  k48 fuel) k48) v1 v3 v3 τ29))))))))
noncomputable def fn_X7_lasts  (μ : Mg) : Option (Int32 × Mg) := (ob (fn_X7_laysBy  μ) (fun y1 τ1 => (ob (fn_X7_allStanding  τ1) (fun y5 τ5 => ((fn_X7_lasts_L13  (fn_X7_lasts_L48 ) 4000) y5 ((-1)) (nI 1) τ5)))))
noncomputable def fn_X7_taken_L20 (z1 : Int32) (z2 : Int32)  (μ : Mg) : Option (Int32 × Mg) := some ((-1000000001), μ)
noncomputable def fn_X7_taken (z1 : Int32) (z2 : Int32) (μ : Mg) : Option (Int32 × Mg) := (ob (fn_X7_isHouse z1 μ) (fun y2 τ2 => (if y2 = 0 then ((fn_X7_taken_L20 z1 z2)  τ2) else (if (bI (inB z2 ((1)) ((60)))) = 0 then ((fn_X7_taken_L20 z1 z2)  τ2) else (ob (fn_X7_stands z1 τ2) (fun y25 τ25 => (if y25 = 0 then some ((-1000000002), τ25) else (ob (fn_X7_laysBy  τ25) (fun y35 τ35 => (ob (fn_X7_goesOnMany z2 τ35) (fun y40 τ40 => (ob (fn_X7_allStanding  τ40) (fun y44 τ44 => (ob (fn_X7_laysBack  τ44) (fun y49 τ49 => (ob (fn_X7_falls z1 τ49) (fun y54 τ54 => (ob (fn_X7_goesOnMany z2 τ54) (fun y59 τ59 => (ob (fn_X7_allStanding  τ59) (fun y64 τ64 => (ob (fn_X7_laysBack  τ64) (fun y79 τ79 => some (((y44 &&& (y64 ^^^ (-1))) &&& ((nI 1 <<< (z1 &&& 31)) ^^^ (-1))), τ79))))))))))))))))))))))))
noncomputable def fn_X7_propped_L103 (z1 : Int32)  (μ : Mg) : Option (Int32 × Mg) := some ((-1000000005), μ)
noncomputable def fn_X7_propped_L97 (z1 : Int32) (slf : Int32 → Mg → Option (Int32 × Mg)) (k103 : Mg → Option (Int32 × Mg)) (v2 : Int32) (μ : Mg) : Option (Int32 × Mg) := (slf ((v2 + nI 1)) μ)
noncomputable def fn_X7_propped_L91 (z1 : Int32) (slf : Int32 → Int32 → Mg → Option (Int32 × Mg)) (k97 : Int32 → Mg → Option (Int32 × Mg)) (v2 : Int32) (v3 : Int32) (μ : Mg) : Option (Int32 × Mg) := (slf v2 ((v3 + nI 1)) μ)
noncomputable def fn_X7_propped_L39 (z1 : Int32) (k97 : Int32 → Mg → Option (Int32 × Mg)) : Nat → Int32 → Int32 → Mg → Option (Int32 × Mg)
  | 0 => fun _ _ _ => none
  | fuel + 1 => fun (v2 : Int32) (v3 : Int32) (μ : Mg) => (if ¬ (nI 0 < 0 ∨ 3069 ≤ (nI 0).toNatClampNeg) then (if μ.2.1 (nI 0).toNatClampNeg ≤ v3 then (k97 v2 μ) else (ob (fn_X7_of v3 (nI 5) μ) (fun y52 τ52 => (if nI 9 < (y52 + v2) then ((fn_X7_propped_L91 z1 (fn_X7_propped_L39 z1 k97 fuel) k97) v2 v3 τ52) else (ob (fn_X7_of v3 (nI 5) τ52) (fun y68 τ68 => (ob (fn_X7_sets v3 (nI 5) ((y68 + v2)) τ68) (fun y73 τ73 => (ob (fn_X7_keeps z1 τ73) (fun y78 τ78 => (if y78 = 0 then ((fn_X7_propped_L91 z1 (fn_X7_propped_L39 z1 k97 fuel) k97) v2 v3 τ78) else some (((nI 10 * v3) + v2), τ78)))))))))))) else none)
noncomputable def fn_X7_propped_L31 (z1 : Int32) (k103 : Mg → Option (Int32 × Mg)) : Nat → Int32 → Mg → Option (Int32 × Mg)
  | 0 => fun _ _ => none
  | fuel + 1 => fun (v2 : Int32) (μ : Mg) => (if nI 9 < v2 then (k103  μ) else ((fn_X7_propped_L39 z1 (fn_X7_propped_L97 z1 (fn_X7_propped_L31 z1 k103 fuel) k103) 4000) v2 (nI 0) μ))
noncomputable def fn_X7_propped (z1 : Int32) (μ : Mg) : Option (Int32 × Mg) := (if (bI (inB z1 ((1)) ((40)))) = 0 then some ((-1000000001), μ) else (ob (fn_X7_laysBy  μ) (fun y16 τ16 => (ob (fn_X7_keeps z1 τ16) (fun y21 τ21 => (if y21 = 0 then ((fn_X7_propped_L31 z1 (fn_X7_propped_L103 z1) 4000) (nI 1) τ21) else some (nI 0, τ21)))))))
noncomputable def fn_X7_wall_L116 (z1 : Int32) (z2 : Int32) (s0 : Int32) (μ : Mg) : Option (Int32 × Mg) := some (s0, μ)
noncomputable def fn_X7_wall_L97 (z1 : Int32) (z2 : Int32) (v3 : Int32) (v4 : Int32) (μ : Mg) : Option (Int32 × Mg) := (if 0 ≤ v3 then (if z2 = 0 then ((fn_X7_wall_L116 z1 z2) v3 μ) else ((fn_X7_wall_L116 z1 z2) v4 μ)) else ((fn_X7_wall_L116 z1 z2) ((-1000000005)) μ))
noncomputable def fn_X7_wall_L91 (z1 : Int32) (z2 : Int32) (slf : Int32 → Int32 → Int32 → Mg → Option (Int32 × Mg)) (k97 : Int32 → Int32 → Mg → Option (Int32 × Mg)) (v3 : Int32) (v4 : Int32) (v5 : Int32) (μ : Mg) : Option (Int32 × Mg) := (slf v3 v4 ((v5 + nI 1)) μ)
noncomputable def fn_X7_wall_L84 (z1 : Int32) (z2 : Int32) (slf : Int32 → Int32 → Int32 → Mg → Option (Int32 × Mg)) (k97 : Int32 → Int32 → Mg → Option (Int32 × Mg)) (v5 : Int32) (v6 : Int32) (μ : Mg) : Option (Int32 × Mg) := ((fn_X7_wall_L91 z1 z2 slf k97) v5 v6 v5 μ)
noncomputable def fn_X7_wall_L37 (z1 : Int32) (z2 : Int32) (k97 : Int32 → Int32 → Mg → Option (Int32 × Mg)) : Nat → Int32 → Int32 → Int32 → Mg → Option (Int32 × Mg)
  | 0 => fun _ _ _ _ => none
  | fuel + 1 => fun (v3 : Int32) (v4 : Int32) (v5 : Int32) (μ : Mg) => (if ¬ (nI 0 < 0 ∨ 3069 ≤ (nI 0).toNatClampNeg) then (if μ.2.1 (nI 0).toNatClampNeg ≤ v5 then (k97 v3 v4 μ) else (ob (fn_X7_sets v5 (nI 3) (nI 0) μ) (fun y53 τ53 => (ob (fn_X7_goesOnMany z1 τ53) (fun y58 τ58 => (ob (fn_X7_allOf (nI 6) τ58) (fun y64 τ64 => (ob (fn_X7_laysBack  τ64) (fun y70 τ70 => (if v3 < 0 then ((fn_X7_wall_L84 z1 z2 (fn_X7_wall_L37 z1 z2 k97 fuel) k97) v5 y64 τ70) else (if y64 ≤ v4 then ((fn_X7_wall_L91 z1 z2 (fn_X7_wall_L37 z1 z2 k97 fuel) k97) v3 v4 v5 τ70) else ((fn_X7_wall_L84 z1 z2 (fn_X7_wall_L37 z1 z2 k97 fuel) k97) v5 y64 τ70)))))))))))) else none)
noncomputable def fn_X7_wall_L22 (z1 : Int32) (z2 : Int32)  (μ : Mg) : Option (Int32 × Mg) := some ((-1000000001), μ)
noncomputable def fn_X7_wall (z1 : Int32) (z2 : Int32) (μ : Mg) : Option (Int32 × Mg) := (if (bI (inB z1 ((1)) ((60)))) = 0 then ((fn_X7_wall_L22 z1 z2)  μ) else (if (bI (inB z2 ((0)) ((1)))) = 0 then ((fn_X7_wall_L22 z1 z2)  μ) else (ob (fn_X7_laysBy  μ) (fun y26 τ26 => ((fn_X7_wall_L37 z1 z2 (fn_X7_wall_L97 z1 z2) 4000) ((-1)) (nI 0) (nI 0) τ26)))))
noncomputable def fn_X7_snows_L49 (z1 : Int32)  (μ : Mg) : Option (Int32 × Mg) := some ((-1000000005), μ)
noncomputable def fn_X7_snows_L22 (z1 : Int32) (k49 : Mg → Option (Int32 × Mg)) : Nat → Int32 → Mg → Option (Int32 × Mg)
  | 0 => fun _ _ => none
  | fuel + 1 => fun (v2 : Int32) (μ : Mg) => (if v2 < 0 then (k49  μ) else (if ¬ (nI 4 < 0 ∨ 3069 ≤ (nI 4).toNatClampNeg) then (ob (fn_X7_keeps z1 ((μ.1, upd μ.2.1 (nI 4).toNatClampNeg v2, μ.2.2))) (fun y35 τ35 => (if y35 = 0 then ((fn_X7_snows_L22 z1 k49 fuel) ((v2 + (-1))) τ35) else some (v2, τ35)))) else none))
noncomputable def fn_X7_snows (z1 : Int32) (μ : Mg) : Option (Int32 × Mg) := (if (bI (inB z1 ((1)) ((60)))) = 0 then some ((-1000000001), μ) else (ob (fn_X7_laysBy  μ) (fun y16 τ16 => ((fn_X7_snows_L22 z1 (fn_X7_snows_L49 z1) 4000) (nI 20) τ16))))
set_option maxHeartbeats 4000000 in
set_option maxRecDepth 100000 in
theorem ct_X7_isOf (l : Launch) (D : va_G) (cy : Nat → ClassId) (Z : (Nat → Prop) → State → Heap → Prop) (hzo : zOK Z) (w : va_W) (z0 : Int32) (z1 : Int32) (res : Int32) (h : fn_X7_isOf z0 z1 = some res) : GD l D cy Z yX7_isOf (zW yX7_isOf cX7_isOf 2 (some .boolean)) { frames := 0, cells := 0, slots := 0, locals := 0 } [.int (z0), .int (z1)] w (some (.int res)) w 0 0 := by
  refine g_entry (cc := cX7_isOf) (maxL := 2) (by decide) rfl (Nat.le_of_ble_eq_true rfl) ?_
  intro κ hN hX hR
  have hX : GX κ cy Z cX7_isOf (Cond.code yX7_isOf cX7_isOf 2 (some .boolean) :: zT) RX7 { frames := 0, cells := 0, slots := 0, locals := 0 } := hX
  have J34 : ∀ (s0 : Int32) , fn_X7_isOf_L34 z0 z1 s0 = some res → GW κ 0 0 w 34 [] [.int (s0)] := by
    intro s0 h
    obtain ⟨g1, h⟩ := gd_some h
    exact g_retbD hR g1 (oi_0 h) rfl dX7_isOf_34
  have J33 : fn_X7_isOf_L33 z0 z1  = some res → GW κ 0 0 w 33 [] [] := by
    intro h
    refine g_iconst hX (v := nI 0) rfl dX7_isOf_33 ?_
    exact J34 (nI 0) h
  have J29 : fn_X7_isOf_L29 z0 z1  = some res → GW κ 0 0 w 29 [] [] := by
    intro h
    refine g_iconst hX (v := nI 1) rfl dX7_isOf_29 ?_
    refine g_goto hX 34 (by decide) dX7_isOf_30 ?_
    exact J34 (nI 1) h
  have J19 : fn_X7_isOf_L19 z0 z1  = some res → GW κ 0 0 w 19 [(0, .int (z0)), (1, .int (z1))] [] := by
    intro h
    refine g_iload_n hX 1 rfl rfl dX7_isOf_19 ?_
    refine g_iconst hX (v := nI 2) rfl dX7_isOf_20 ?_
    refine g_icmp_ne hX 33 (by decide) dX7_isOf_21 (fun b21 => ?_) (fun b21 => ?_)
    · replace h := if_n b21 h
      refine g_lv [] rfl ?_
      exact J33  h
    · replace h := if_p b21 h
      refine g_iload_n hX 0 rfl rfl dX7_isOf_24 ?_
      refine g_iconst hX (v := nI 4) rfl dX7_isOf_25 ?_
      refine g_icmp_ne hX 33 (by decide) dX7_isOf_26 (fun b26 => ?_) (fun b26 => ?_)
      · replace h := if_n b26 h
        refine g_lv [] rfl ?_
        exact J33  h
      · replace h := if_p b26 h
        refine g_lv [] rfl ?_
        exact J29  h
  show GW κ 0 0 w 0 [(0, .int (z0)), (1, .int (z1))] []
  refine g_iload_n hX 0 rfl rfl dX7_isOf_0 ?_
  refine g_iload_n hX 1 rfl rfl dX7_isOf_1 ?_
  refine g_icmp_eq hX 29 (by decide) dX7_isOf_2 (fun b2 => ?_) (fun b2 => ?_)
  · replace h := if_p b2 h
    refine g_lv [] rfl ?_
    exact J29  h
  · replace h := if_n b2 h
    refine g_iload_n hX 1 rfl rfl dX7_isOf_5 ?_
    refine g_if_eq hX 29 (by decide) dX7_isOf_6 (fun b6 => ?_) (fun b6 => ?_)
    · replace h := if_p b6 h
      refine g_lv [] rfl ?_
      exact J29  h
    · replace h := if_n b6 h
      refine g_iload_n hX 1 rfl rfl dX7_isOf_9 ?_
      refine g_iconst hX (v := nI 1) rfl dX7_isOf_10 ?_
      refine g_icmp_ne hX 19 (by decide) dX7_isOf_11 (fun b11 => ?_) (fun b11 => ?_)
      · replace h := if_n b11 h
        exact J19  h
      · replace h := if_p b11 h
        refine g_iload_n hX 0 rfl rfl dX7_isOf_14 ?_
        refine g_iconst hX (v := nI 3) rfl dX7_isOf_15 ?_
        refine g_icmp_eq hX 29 (by decide) dX7_isOf_16 (fun b16 => ?_) (fun b16 => ?_)
        · replace h := if_p b16 h
          refine g_lv [] rfl ?_
          exact J29  h
        · replace h := if_n b16 h
          exact J19  h
theorem kX7_isSheet : mKS yX7_isSheet cX7_isSheet 1 (some .boolean) 1 := ⟨tSta_X7_isSheet, tIni_X7, tCod_X7_isSheet, by decide +kernel⟩
set_option maxHeartbeats 4000000 in
set_option maxRecDepth 100000 in
theorem ct_X7_isSheet (l : Launch) (D : va_G) (cy : Nat → ClassId) (Z : (Nat → Prop) → State → Heap → Prop) (hzo : zOK Z) (w : va_W) (z0 : Int32) (res : Int32) (h : fn_X7_isSheet z0 = some res) : GD l D cy Z yX7_isSheet (zW yX7_isSheet cX7_isSheet 1 (some .boolean)) { frames := 1, cells := 0, slots := 0, locals := 25 } [.int (z0)] w (some (.int res)) w 0 0 := by
  refine g_entry (cc := cX7_isSheet) (maxL := 1) (by decide) rfl (Nat.le_of_ble_eq_true rfl) ?_
  intro κ hN hX hR
  have hX : GX κ cy Z cX7_isSheet (Cond.code yX7_isSheet cX7_isSheet 1 (some .boolean) :: zT) RX7 { frames := 1, cells := 0, slots := 0, locals := 25 } := hX
  show GW κ 0 0 w 0 [(0, .int (z0))] []
  refine g_iload_n hX 0 rfl rfl dX7_isSheet_0 ?_
  refine g_i2l hX dX7_isSheet_1 ?_
  refine g_lconst hX (v := Int32.toInt64 (0)) (by decide) dX7_isSheet_2 ?_
  refine g_ldc2 hX (v := Int32.toInt64 (3)) (zu tCoL_X7_300 rfl) dX7_isSheet_3 ?_
  refine s_call hX hzo [.long (Int32.toInt64 (z0)), .long (Int32.toInt64 ((0))), .long (Int32.toInt64 ((3)))] [] (c_isIn _ _ _ _ _ (z0) ((0)) ((3))) kX7_isIn tMet_X7_71 rfl rfl (Nat.le_of_ble_eq_true rfl) (Nat.le_of_ble_eq_true rfl) ⟨Nat.le_of_ble_eq_true rfl, Nat.le_of_ble_eq_true rfl⟩ rfl rfl (Nat.le_of_ble_eq_true rfl) dX7_isSheet_6 ?_
  obtain ⟨g1, h⟩ := gd_some h
  exact g_retbD hR g1 (oi_0 h) rfl dX7_isSheet_9
theorem kX7_isSlot : mKS yX7_isSlot cX7_isSlot 1 (some .boolean) 1 := ⟨tSta_X7_isSlot, tIni_X7, tCod_X7_isSlot, by decide +kernel⟩
set_option maxHeartbeats 4000000 in
set_option maxRecDepth 100000 in
theorem ct_X7_isSlot (l : Launch) (D : va_G) (cy : Nat → ClassId) (Z : (Nat → Prop) → State → Heap → Prop) (hzo : zOK Z) (w : va_W) (z0 : Int32) (res : Int32) (h : fn_X7_isSlot z0 = some res) : GD l D cy Z yX7_isSlot (zW yX7_isSlot cX7_isSlot 1 (some .boolean)) { frames := 1, cells := 0, slots := 0, locals := 25 } [.int (z0)] w (some (.int res)) w 0 0 := by
  refine g_entry (cc := cX7_isSlot) (maxL := 1) (by decide) rfl (Nat.le_of_ble_eq_true rfl) ?_
  intro κ hN hX hR
  have hX : GX κ cy Z cX7_isSlot (Cond.code yX7_isSlot cX7_isSlot 1 (some .boolean) :: zT) RX7 { frames := 1, cells := 0, slots := 0, locals := 25 } := hX
  show GW κ 0 0 w 0 [(0, .int (z0))] []
  refine g_iload_n hX 0 rfl rfl dX7_isSlot_0 ?_
  refine g_i2l hX dX7_isSlot_1 ?_
  refine g_lconst hX (v := Int32.toInt64 (0)) (by decide) dX7_isSlot_2 ?_
  refine g_ldc2 hX (v := Int32.toInt64 (4)) (zu tCoL_X7_314 rfl) dX7_isSlot_3 ?_
  refine s_call hX hzo [.long (Int32.toInt64 (z0)), .long (Int32.toInt64 ((0))), .long (Int32.toInt64 ((4)))] [] (c_isIn _ _ _ _ _ (z0) ((0)) ((4))) kX7_isIn tMet_X7_71 rfl rfl (Nat.le_of_ble_eq_true rfl) (Nat.le_of_ble_eq_true rfl) ⟨Nat.le_of_ble_eq_true rfl, Nat.le_of_ble_eq_true rfl⟩ rfl rfl (Nat.le_of_ble_eq_true rfl) dX7_isSlot_6 ?_
  obtain ⟨g1, h⟩ := gd_some h
  exact g_retbD hR g1 (oi_0 h) rfl dX7_isSlot_9
set_option maxHeartbeats 4000000 in
set_option maxRecDepth 100000 in
theorem ct_X7_becomes (l : Launch) (D : va_G) (cy : Nat → ClassId) (Z : (Nat → Prop) → State → Heap → Prop) (hzo : zOK Z) {h0 : Nat} {a q : Nat → Nat} {C : (Nat → Int32) → (Nat → Int32) → (Nat → Nat → Int32) → (Nat → Nat → Int32) → va_W} (hC : mLens (cy 0) h0 a q C) (z1 : Int32) (z2 : Int32) (μ μ2 : Mg) (x : Nat → Nat → Int32) (res : Int32) (h : fn_X7_becomes z1 z2 μ = some (res, μ2)) : GM l D cy Z yX7_becomes (zW yX7_becomes cX7_becomes 4 (some .int)) { frames := 0, cells := 0, slots := 0, locals := 0 } [.ref h0, .int (z1), .int (z2)] (C μ.1 μ.2.1 μ.2.2 x) (fun rs w2 => rs = some (.int res) ∧ ∃ x2, w2 = C μ2.1 μ2.2.1 μ2.2.2 x2) 0 0 := by
  refine g_entry (cc := cX7_becomes) (maxL := 4) (by decide) rfl (Nat.le_of_ble_eq_true rfl) ?_
  intro κ hN hX hR
  have hX : GX κ cy Z cX7_becomes (Cond.code yX7_becomes cX7_becomes 4 (some .int) :: zT) RX7 { frames := 0, cells := 0, slots := 0, locals := 0 } := hX
  show GW κ 0 0 (C μ.1 μ.2.1 μ.2.2 x) 0 [(0, .ref h0), (1, .int (z1)), (2, .int (z2))] []
  refine g_aload_n hX 0 rfl rfl dX7_becomes_0 ?_
  refine m_getA hX hC 0 (by decide) rfl tFld_X7_7 dX7_becomes_1 ?_
  refine g_iload_n hX 1 rfl rfl dX7_becomes_4 ?_
  obtain ⟨g1, h⟩ := gd_some h
  refine m0_ald hX hC g1 dX7_becomes_5 ?_
  refine g_istore_n (lv2 := [(3, .int (μ.2.1 z1.toNatClampNeg)), (0, .ref h0), (1, .int (z1)), (2, .int (z2))]) hX 3 4 hN rfl (by decide) rfl dX7_becomes_6 ?_
  refine g_aload_n hX 1 rfl rfl dX7_becomes_7 ?_
  refine m_getA hX hC 0 (by decide) rfl tFld_X7_7 dX7_becomes_8 ?_
  refine g_iload_n hX 2 rfl rfl dX7_becomes_11 ?_
  refine g_iload_n hX 3 rfl rfl dX7_becomes_12 ?_
  refine m0_ast hX hC g1 dX7_becomes_13 ?_
  refine g_iload_n hX 0 rfl rfl dX7_becomes_14 ?_
  exact g_retiP hR ⟨by rw [oi_1 h], x, by rw [← oi_2 h]⟩ dX7_becomes_15
set_option maxHeartbeats 4000000 in
set_option maxRecDepth 100000 in
theorem ct_X7_textAt (l : Launch) (D : va_G) (cy : Nat → ClassId) (Z : (Nat → Prop) → State → Heap → Prop) (hzo : zOK Z) {h0 : Nat} {a q : Nat → Nat} {C : (Nat → Int32) → (Nat → Int32) → (Nat → Nat → Int32) → (Nat → Nat → Int32) → va_W} (hC : mLens (cy 0) h0 a q C) (z1 : Int32) (μ μ2 : Mg) (x : Nat → Nat → Int32) (res : Int32) (h : fn_X7_textAt z1 μ = some (res, μ2)) : GM l D cy Z yX7_textAt (zW yX7_textAt cX7_textAt 2 (some .int)) { frames := 0, cells := 0, slots := 0, locals := 0 } [.ref h0, .int (z1)] (C μ.1 μ.2.1 μ.2.2 x) (fun rs w2 => rs = some (.int res) ∧ ∃ x2, w2 = C μ2.1 μ2.2.1 μ2.2.2 x2) 0 0 := by
  refine g_entry (cc := cX7_textAt) (maxL := 2) (by decide) rfl (Nat.le_of_ble_eq_true rfl) ?_
  intro κ hN hX hR
  have hX : GX κ cy Z cX7_textAt (Cond.code yX7_textAt cX7_textAt 2 (some .int) :: zT) RX7 { frames := 0, cells := 0, slots := 0, locals := 0 } := hX
  show GW κ 0 0 (C μ.1 μ.2.1 μ.2.2 x) 0 [(0, .ref h0), (1, .int (z1))] []
  refine g_bipush hX (v := nI 69) (by decide) dX7_textAt_0 ?_
  refine g_sipush hX (v := nI 200) (by decide) dX7_textAt_2 ?_
  refine g_iload_n hX 1 rfl rfl dX7_textAt_5 ?_
  refine g_imul hX dX7_textAt_6 ?_
  refine g_iadd hX dX7_textAt_7 ?_
  exact g_retiP hR ⟨by rw [oi_1 h], x, by rw [← oi_2 h]⟩ dX7_textAt_8
set_option maxHeartbeats 4000000 in
set_option maxRecDepth 100000 in
theorem ct_X7_of (l : Launch) (D : va_G) (cy : Nat → ClassId) (Z : (Nat → Prop) → State → Heap → Prop) (hzo : zOK Z) {h0 : Nat} {a q : Nat → Nat} {C : (Nat → Int32) → (Nat → Int32) → (Nat → Nat → Int32) → (Nat → Nat → Int32) → va_W} (hC : mLens (cy 0) h0 a q C) (z1 : Int32) (z2 : Int32) (μ μ2 : Mg) (x : Nat → Nat → Int32) (res : Int32) (h : fn_X7_of z1 z2 μ = some (res, μ2)) : GM l D cy Z yX7_of (zW yX7_of cX7_of 3 (some .int)) { frames := 0, cells := 0, slots := 0, locals := 0 } [.ref h0, .int (z1), .int (z2)] (C μ.1 μ.2.1 μ.2.2 x) (fun rs w2 => rs = some (.int res) ∧ ∃ x2, w2 = C μ2.1 μ2.2.1 μ2.2.2 x2) 0 0 := by
  refine g_entry (cc := cX7_of) (maxL := 3) (by decide) rfl (Nat.le_of_ble_eq_true rfl) ?_
  intro κ hN hX hR
  have hX : GX κ cy Z cX7_of (Cond.code yX7_of cX7_of 3 (some .int) :: zT) RX7 { frames := 0, cells := 0, slots := 0, locals := 0 } := hX
  show GW κ 0 0 (C μ.1 μ.2.1 μ.2.2 x) 0 [(0, .ref h0), (1, .int (z1)), (2, .int (z2))] []
  refine g_aload_n hX 0 rfl rfl dX7_of_0 ?_
  refine m_getA hX hC 0 (by decide) rfl tFld_X7_7 dX7_of_1 ?_
  refine g_bipush hX (v := nI 6) (by decide) dX7_of_4 ?_
  refine g_bipush hX (v := nI 7) (by decide) dX7_of_6 ?_
  refine g_iload_n hX 1 rfl rfl dX7_of_8 ?_
  refine g_imul hX dX7_of_9 ?_
  refine g_iadd hX dX7_of_10 ?_
  refine g_iload_n hX 2 rfl rfl dX7_of_11 ?_
  refine g_iadd hX dX7_of_12 ?_
  obtain ⟨g1, h⟩ := gd_some h
  refine m0_ald hX hC g1 dX7_of_13 ?_
  exact g_retiP hR ⟨by rw [oi_1 h], x, by rw [← oi_2 h]⟩ dX7_of_14
set_option maxHeartbeats 4000000 in
set_option maxRecDepth 100000 in
theorem ct_X7_sets (l : Launch) (D : va_G) (cy : Nat → ClassId) (Z : (Nat → Prop) → State → Heap → Prop) (hzo : zOK Z) {h0 : Nat} {a q : Nat → Nat} {C : (Nat → Int32) → (Nat → Int32) → (Nat → Nat → Int32) → (Nat → Nat → Int32) → va_W} (hC : mLens (cy 0) h0 a q C) (z1 : Int32) (z2 : Int32) (z3 : Int32) (μ μ2 : Mg) (x : Nat → Nat → Int32) (res : Unit) (h : fn_X7_sets z1 z2 z3 μ = some (res, μ2)) : GM l D cy Z yX7_sets (zW yX7_sets cX7_sets 4 none) { frames := 0, cells := 0, slots := 0, locals := 0 } [.ref h0, .int (z1), .int (z2), .int (z3)] (C μ.1 μ.2.1 μ.2.2 x) (fun rs w2 => rs = none ∧ ∃ x2, w2 = C μ2.1 μ2.2.1 μ2.2.2 x2) 0 0 := by
  refine g_entry (cc := cX7_sets) (maxL := 4) (by decide) rfl (Nat.le_of_ble_eq_true rfl) ?_
  intro κ hN hX hR
  have hX : GX κ cy Z cX7_sets (Cond.code yX7_sets cX7_sets 4 none :: zT) RX7 { frames := 0, cells := 0, slots := 0, locals := 0 } := hX
  show GW κ 0 0 (C μ.1 μ.2.1 μ.2.2 x) 0 [(0, .ref h0), (1, .int (z1)), (2, .int (z2)), (3, .int (z3))] []
  refine g_aload_n hX 0 rfl rfl dX7_sets_0 ?_
  refine m_getA hX hC 0 (by decide) rfl tFld_X7_7 dX7_sets_1 ?_
  refine g_bipush hX (v := nI 6) (by decide) dX7_sets_4 ?_
  refine g_bipush hX (v := nI 7) (by decide) dX7_sets_6 ?_
  refine g_iload_n hX 1 rfl rfl dX7_sets_8 ?_
  refine g_imul hX dX7_sets_9 ?_
  refine g_iadd hX dX7_sets_10 ?_
  refine g_iload_n hX 2 rfl rfl dX7_sets_11 ?_
  refine g_iadd hX dX7_sets_12 ?_
  refine g_iload_n hX 3 rfl rfl dX7_sets_13 ?_
  obtain ⟨g1, h⟩ := gd_some h
  refine m0_ast hX hC g1 dX7_sets_14 ?_
  exact g_retvP hR ⟨rfl, x, by rw [← oi_2 h]⟩ dX7_sets_15
set_option maxHeartbeats 4000000 in
set_option maxRecDepth 100000 in
theorem ct_X7_isHouse (l : Launch) (D : va_G) (cy : Nat → ClassId) (Z : (Nat → Prop) → State → Heap → Prop) (hzo : zOK Z) {h0 : Nat} {a q : Nat → Nat} {C : (Nat → Int32) → (Nat → Int32) → (Nat → Nat → Int32) → (Nat → Nat → Int32) → va_W} (hC : mLens (cy 0) h0 a q C) (z1 : Int32) (μ μ2 : Mg) (x : Nat → Nat → Int32) (res : Int32) (h : fn_X7_isHouse z1 μ = some (res, μ2)) : GM l D cy Z yX7_isHouse (zW yX7_isHouse cX7_isHouse 2 (some .boolean)) { frames := 1, cells := 0, slots := 0, locals := 25 } [.ref h0, .int (z1)] (C μ.1 μ.2.1 μ.2.2 x) (fun rs w2 => rs = some (.int res) ∧ ∃ x2, w2 = C μ2.1 μ2.2.1 μ2.2.2 x2) 0 0 := by
  refine g_entry (cc := cX7_isHouse) (maxL := 2) (by decide) rfl (Nat.le_of_ble_eq_true rfl) ?_
  intro κ hN hX hR
  have hX : GX κ cy Z cX7_isHouse (Cond.code yX7_isHouse cX7_isHouse 2 (some .boolean) :: zT) RX7 { frames := 1, cells := 0, slots := 0, locals := 25 } := hX
  show GW κ 0 0 (C μ.1 μ.2.1 μ.2.2 x) 0 [(0, .ref h0), (1, .int (z1))] []
  refine g_iload_n hX 1 rfl rfl dX7_isHouse_0 ?_
  refine g_i2l hX dX7_isHouse_1 ?_
  refine g_lconst hX (v := Int32.toInt64 (0)) (by decide) dX7_isHouse_2 ?_
  refine g_aload_n hX 0 rfl rfl dX7_isHouse_3 ?_
  refine m_getA hX hC 0 (by decide) rfl tFld_X7_7 dX7_isHouse_4 ?_
  refine g_iconst hX (v := nI 0) rfl dX7_isHouse_7 ?_
  obtain ⟨g1, h⟩ := gd_some h
  refine m0_ald hX hC g1 dX7_isHouse_8 ?_
  refine g_iconst hX (v := nI 1) rfl dX7_isHouse_9 ?_
  refine g_isub hX dX7_isHouse_10 ?_
  refine g_i2l hX dX7_isHouse_11 ?_
  refine s_call hX hzo [.long (Int32.toInt64 (z1)), .long (Int32.toInt64 ((0))), .long (Int32.toInt64 ((μ.2.1 (nI 0).toNatClampNeg - nI 1)))] [] (c_isIn _ _ _ _ _ (z1) ((0)) ((μ.2.1 (nI 0).toNatClampNeg - nI 1))) kX7_isIn tMet_X7_71 rfl rfl (Nat.le_of_ble_eq_true rfl) (Nat.le_of_ble_eq_true rfl) ⟨Nat.le_of_ble_eq_true rfl, Nat.le_of_ble_eq_true rfl⟩ rfl rfl (Nat.le_of_ble_eq_true rfl) dX7_isHouse_12 ?_
  obtain ⟨g2, h⟩ := gd_some h
  exact g_retb hR g2 ⟨by rw [oi_1 h], x, by rw [← oi_2 h]⟩ dX7_isHouse_15
set_option maxHeartbeats 4000000 in
set_option maxRecDepth 100000 in
theorem ct_X7_stands (l : Launch) (D : va_G) (cy : Nat → ClassId) (Z : (Nat → Prop) → State → Heap → Prop) (hzo : zOK Z) {h0 : Nat} {a q : Nat → Nat} {C : (Nat → Int32) → (Nat → Int32) → (Nat → Nat → Int32) → (Nat → Nat → Int32) → va_W} (hC : mLens (cy 0) h0 a q C) (z1 : Int32) (μ μ2 : Mg) (x : Nat → Nat → Int32) (res : Int32) (h : fn_X7_stands z1 μ = some (res, μ2)) : GM l D cy Z yX7_stands (zW yX7_stands cX7_stands 2 (some .boolean)) { frames := 1, cells := 0, slots := 0, locals := 22 } [.ref h0, .int (z1)] (C μ.1 μ.2.1 μ.2.2 x) (fun rs w2 => rs = some (.int res) ∧ ∃ x2, w2 = C μ2.1 μ2.2.1 μ2.2.2 x2) 0 0 := by
  refine g_entry (cc := cX7_stands) (maxL := 2) (by decide) rfl (Nat.le_of_ble_eq_true rfl) ?_
  intro κ hN hX hR
  have hX : GX κ cy Z cX7_stands (Cond.code yX7_stands cX7_stands 2 (some .boolean) :: zT) RX7 { frames := 1, cells := 0, slots := 0, locals := 22 } := hX
  have J15 : ∀ (s0 : Int32) (μ : Mg) (x : Nat → Nat → Int32) , fn_X7_stands_L15 z1 s0 μ = some (res, μ2) → GW κ 0 0 (C μ.1 μ.2.1 μ.2.2 x) 15 [] [.int (s0)] := by
    intro s0 μ x h
    obtain ⟨g1, h⟩ := gd_some h
    exact g_retb hR g1 ⟨by rw [oi_1 h], x, by rw [← oi_2 h]⟩ dX7_stands_15
  show GW κ 0 0 (C μ.1 μ.2.1 μ.2.2 x) 0 [(0, .ref h0), (1, .int (z1))] []
  refine g_aload_n hX 0 rfl rfl dX7_stands_0 ?_
  refine g_iload_n hX 1 rfl rfl dX7_stands_1 ?_
  refine g_bipush hX (v := nI 6) (by decide) dX7_stands_2 ?_
  obtain ⟨y4, τ4, e4, h⟩ := ob_some h
  refine m_call hX hzo hC [.int (z1), .int (nI 6)] [] (ct_X7_of _ _ _ _ hzo hC z1 (nI 6) μ _ x _ e4) kX7_of tMet_X7_75 rfl rfl (Nat.le_of_ble_eq_true rfl) (Nat.le_of_ble_eq_true rfl) ⟨Nat.le_of_ble_eq_true rfl, Nat.le_of_ble_eq_true rfl⟩ rfl (Nat.le_of_ble_eq_true rfl) dX7_stands_4 ?_
  rintro _ _ ⟨rfl, x4, rfl⟩
  show GW κ 0 0 (C τ4.1 τ4.2.1 τ4.2.2 x4) 7 [(0, .ref h0), (1, .int (z1))] [.int (y4)]
  refine g_if_ne hX 14 (by decide) dX7_stands_7 (fun b7 => ?_) (fun b7 => ?_)
  · replace h := if_n b7 h
    refine g_iconst hX (v := nI 0) rfl dX7_stands_14 ?_
    refine g_lv [] rfl ?_
    exact J15 (nI 0) τ4 x4 h
  · replace h := if_p b7 h
    refine g_iconst hX (v := nI 1) rfl dX7_stands_10 ?_
    refine g_goto hX 15 (by decide) dX7_stands_11 ?_
    refine g_lv [] rfl ?_
    exact J15 (nI 1) τ4 x4 h
set_option maxHeartbeats 4000000 in
set_option maxRecDepth 100000 in
theorem ct_X7_isText (l : Launch) (D : va_G) (cy : Nat → ClassId) (Z : (Nat → Prop) → State → Heap → Prop) (hzo : zOK Z) {h0 : Nat} {a q : Nat → Nat} {C : (Nat → Int32) → (Nat → Int32) → (Nat → Nat → Int32) → (Nat → Nat → Int32) → va_W} (hC : mLens (cy 0) h0 a q C) (z1 : Int32) (μ μ2 : Mg) (x : Nat → Nat → Int32) (res : Int32) (h : fn_X7_isText z1 μ = some (res, μ2)) : GM l D cy Z yX7_isText (zW yX7_isText cX7_isText 2 (some .boolean)) { frames := 1, cells := 0, slots := 0, locals := 25 } [.ref h0, .int (z1)] (C μ.1 μ.2.1 μ.2.2 x) (fun rs w2 => rs = some (.int res) ∧ ∃ x2, w2 = C μ2.1 μ2.2.1 μ2.2.2 x2) 0 0 := by
  refine g_entry (cc := cX7_isText) (maxL := 2) (by decide) rfl (Nat.le_of_ble_eq_true rfl) ?_
  intro κ hN hX hR
  have hX : GX κ cy Z cX7_isText (Cond.code yX7_isText cX7_isText 2 (some .boolean) :: zT) RX7 { frames := 1, cells := 0, slots := 0, locals := 25 } := hX
  show GW κ 0 0 (C μ.1 μ.2.1 μ.2.2 x) 0 [(0, .ref h0), (1, .int (z1))] []
  refine g_iload_n hX 1 rfl rfl dX7_isText_0 ?_
  refine g_i2l hX dX7_isText_1 ?_
  refine g_lconst hX (v := Int32.toInt64 (0)) (by decide) dX7_isText_2 ?_
  refine g_aload_n hX 0 rfl rfl dX7_isText_3 ?_
  refine m_getA hX hC 0 (by decide) rfl tFld_X7_7 dX7_isText_4 ?_
  refine g_iconst hX (v := nI 1) rfl dX7_isText_7 ?_
  obtain ⟨g1, h⟩ := gd_some h
  refine m0_ald hX hC g1 dX7_isText_8 ?_
  refine g_iconst hX (v := nI 1) rfl dX7_isText_9 ?_
  refine g_isub hX dX7_isText_10 ?_
  refine g_i2l hX dX7_isText_11 ?_
  refine s_call hX hzo [.long (Int32.toInt64 (z1)), .long (Int32.toInt64 ((0))), .long (Int32.toInt64 ((μ.2.1 (nI 1).toNatClampNeg - nI 1)))] [] (c_isIn _ _ _ _ _ (z1) ((0)) ((μ.2.1 (nI 1).toNatClampNeg - nI 1))) kX7_isIn tMet_X7_71 rfl rfl (Nat.le_of_ble_eq_true rfl) (Nat.le_of_ble_eq_true rfl) ⟨Nat.le_of_ble_eq_true rfl, Nat.le_of_ble_eq_true rfl⟩ rfl rfl (Nat.le_of_ble_eq_true rfl) dX7_isText_12 ?_
  obtain ⟨g2, h⟩ := gd_some h
  exact g_retb hR g2 ⟨by rw [oi_1 h], x, by rw [← oi_2 h]⟩ dX7_isText_15
set_option maxHeartbeats 4000000 in
set_option maxRecDepth 100000 in
theorem ct_X7_worth (l : Launch) (D : va_G) (cy : Nat → ClassId) (Z : (Nat → Prop) → State → Heap → Prop) (hzo : zOK Z) {h0 : Nat} {a q : Nat → Nat} {C : (Nat → Int32) → (Nat → Int32) → (Nat → Nat → Int32) → (Nat → Nat → Int32) → va_W} (hC : mLens (cy 0) h0 a q C) (z1 : Int32) (μ μ2 : Mg) (x : Nat → Nat → Int32) (res : Int32) (h : fn_X7_worth z1 μ = some (res, μ2)) : GM l D cy Z yX7_worth (zW yX7_worth cX7_worth 3 (some .int)) { frames := 1, cells := 0, slots := 0, locals := 22 } [.ref h0, .int (z1)] (C μ.1 μ.2.1 μ.2.2 x) (fun rs w2 => rs = some (.int res) ∧ ∃ x2, w2 = C μ2.1 μ2.2.1 μ2.2.2 x2) 0 0 := by
  refine g_entry (cc := cX7_worth) (maxL := 3) (by decide) rfl (Nat.le_of_ble_eq_true rfl) ?_
  intro κ hN hX hR
  have hX : GX κ cy Z cX7_worth (Cond.code yX7_worth cX7_worth 3 (some .int) :: zT) RX7 { frames := 1, cells := 0, slots := 0, locals := 22 } := hX
  show GW κ 0 0 (C μ.1 μ.2.1 μ.2.2 x) 0 [(0, .ref h0), (1, .int (z1))] []
  refine g_aload_n hX 0 rfl rfl dX7_worth_0 ?_
  refine g_iload_n hX 1 rfl rfl dX7_worth_1 ?_
  refine g_iconst hX (v := nI 3) rfl dX7_worth_2 ?_
  obtain ⟨y3, τ3, e3, h⟩ := ob_some h
  refine m_call hX hzo hC [.int (z1), .int (nI 3)] [] (ct_X7_of _ _ _ _ hzo hC z1 (nI 3) μ _ x _ e3) kX7_of tMet_X7_75 rfl rfl (Nat.le_of_ble_eq_true rfl) (Nat.le_of_ble_eq_true rfl) ⟨Nat.le_of_ble_eq_true rfl, Nat.le_of_ble_eq_true rfl⟩ rfl (Nat.le_of_ble_eq_true rfl) dX7_worth_3 ?_
  rintro _ _ ⟨rfl, x3, rfl⟩
  show GW κ 0 0 (C τ3.1 τ3.2.1 τ3.2.2 x3) 6 [(0, .ref h0), (1, .int (z1))] [.int (y3)]
  refine g_istore_n (lv2 := [(2, .int (y3)), (0, .ref h0), (1, .int (z1))]) hX 2 3 hN rfl (by decide) rfl dX7_worth_6 ?_
  refine g_aload_n hX 1 rfl rfl dX7_worth_7 ?_
  refine g_iload_n hX 2 rfl rfl dX7_worth_8 ?_
  refine g_iconst hX (v := nI 0) rfl dX7_worth_9 ?_
  obtain ⟨y10, τ10, e10, h⟩ := ob_some h
  refine m_call hX hzo hC [.int (z1), .int (nI 0)] [] (ct_X7_of _ _ _ _ hzo hC z1 (nI 0) τ3 _ x3 _ e10) kX7_of tMet_X7_75 rfl rfl (Nat.le_of_ble_eq_true rfl) (Nat.le_of_ble_eq_true rfl) ⟨Nat.le_of_ble_eq_true rfl, Nat.le_of_ble_eq_true rfl⟩ rfl (Nat.le_of_ble_eq_true rfl) dX7_worth_10 ?_
  rintro _ _ ⟨rfl, x10, rfl⟩
  show GW κ 0 0 (C τ10.1 τ10.2.1 τ10.2.2 x10) 13 [(2, .int (y3)), (0, .ref h0), (1, .int (z1))] [.int (y10)]
  rcases sw_in (y10) 1 5 (by decide) with w13 | ⟨j13, w13a, w13b, w13⟩
  · replace h := if_n (sw_out w13 1 (by decide) (by decide) (by decide)) h
    replace h := if_n (sw_out w13 2 (by decide) (by decide) (by decide)) h
    replace h := if_n (sw_out w13 3 (by decide) (by decide) (by decide)) h
    replace h := if_n (sw_out w13 4 (by decide) (by decide) (by decide)) h
    replace h := if_n (sw_out w13 5 (by decide) (by decide) (by decide)) h
    refine g_tableOut hX 73 w13 (by decide) dX7_worth_13 ?_
    refine g_iload_n hX 0 rfl rfl dX7_worth_73 ?_
    exact g_retiP hR ⟨by rw [oi_1 h], x10, by rw [← oi_2 h]⟩ dX7_worth_74
  · have hj : j13 = 1 ∨ j13 = 2 ∨ j13 = 3 ∨ j13 = 4 ∨ j13 = 5 := by omega
    rcases hj with rfl | rfl | rfl | rfl | rfl
    · replace h := if_p w13 h
      refine g_top (y := .int (nI 1)) (congrArg Value.int w13) ?_
      refine g_tableIn hX 48 (by decide) (by decide) rfl (by decide) dX7_worth_13 ?_
      refine g_iload_n hX 0 rfl rfl dX7_worth_48 ?_
      refine g_bipush hX (v := nI 7) (by decide) dX7_worth_49 ?_
      refine g_iadd hX dX7_worth_51 ?_
      exact g_retiP hR ⟨by rw [oi_1 h], x10, by rw [← oi_2 h]⟩ dX7_worth_52
    · replace h := if_n (by rw [w13]; decide) h
      replace h := if_p w13 h
      refine g_top (y := .int (nI 2)) (congrArg Value.int w13) ?_
      refine g_tableIn hX 53 (by decide) (by decide) rfl (by decide) dX7_worth_13 ?_
      refine g_bipush hX (v := nI 99) (by decide) dX7_worth_53 ?_
      refine g_iload_n hX 0 rfl rfl dX7_worth_55 ?_
      refine g_isub hX dX7_worth_56 ?_
      exact g_retiP hR ⟨by rw [oi_1 h], x10, by rw [← oi_2 h]⟩ dX7_worth_57
    · replace h := if_n (by rw [w13]; decide) h
      replace h := if_n (by rw [w13]; decide) h
      replace h := if_p w13 h
      refine g_top (y := .int (nI 3)) (congrArg Value.int w13) ?_
      refine g_tableIn hX 58 (by decide) (by decide) rfl (by decide) dX7_worth_13 ?_
      refine g_iconst hX (v := nI 2) rfl dX7_worth_58 ?_
      refine g_iload_n hX 0 rfl rfl dX7_worth_59 ?_
      refine g_bipush hX (v := nI 7) (by decide) dX7_worth_60 ?_
      refine g_iadd hX dX7_worth_62 ?_
      refine g_imul hX dX7_worth_63 ?_
      exact g_retiP hR ⟨by rw [oi_1 h], x10, by rw [← oi_2 h]⟩ dX7_worth_64
    · replace h := if_n (by rw [w13]; decide) h
      replace h := if_n (by rw [w13]; decide) h
      replace h := if_n (by rw [w13]; decide) h
      replace h := if_p w13 h
      refine g_top (y := .int (nI 4)) (congrArg Value.int w13) ?_
      refine g_tableIn hX 65 (by decide) (by decide) rfl (by decide) dX7_worth_13 ?_
      refine g_bipush hX (v := nI 94) (by decide) dX7_worth_65 ?_
      refine g_iload_n hX 0 rfl rfl dX7_worth_67 ?_
      refine g_isub hX dX7_worth_68 ?_
      exact g_retiP hR ⟨by rw [oi_1 h], x10, by rw [← oi_2 h]⟩ dX7_worth_69
    · replace h := if_n (by rw [w13]; decide) h
      replace h := if_n (by rw [w13]; decide) h
      replace h := if_n (by rw [w13]; decide) h
      replace h := if_n (by rw [w13]; decide) h
      replace h := if_p w13 h
      refine g_top (y := .int (nI 5)) (congrArg Value.int w13) ?_
      refine g_tableIn hX 70 (by decide) (by decide) rfl (by decide) dX7_worth_13 ?_
      refine g_bipush hX (v := nI 6) (by decide) dX7_worth_70 ?_
      exact g_retiP hR ⟨by rw [oi_1 h], x10, by rw [← oi_2 h]⟩ dX7_worth_72
set_option maxHeartbeats 4000000 in
set_option maxRecDepth 100000 in
theorem ct_X7_falls (l : Launch) (D : va_G) (cy : Nat → ClassId) (Z : (Nat → Prop) → State → Heap → Prop) (hzo : zOK Z) {h0 : Nat} {a q : Nat → Nat} {C : (Nat → Int32) → (Nat → Int32) → (Nat → Nat → Int32) → (Nat → Nat → Int32) → va_W} (hC : mLens (cy 0) h0 a q C) (z1 : Int32) (μ μ2 : Mg) (x : Nat → Nat → Int32) (res : Unit) (h : fn_X7_falls z1 μ = some (res, μ2)) : GM l D cy Z yX7_falls (zW yX7_falls cX7_falls 2 none) { frames := 1, cells := 0, slots := 0, locals := 23 } [.ref h0, .int (z1)] (C μ.1 μ.2.1 μ.2.2 x) (fun rs w2 => rs = none ∧ ∃ x2, w2 = C μ2.1 μ2.2.1 μ2.2.2 x2) 0 0 := by
  refine g_entry (cc := cX7_falls) (maxL := 2) (by decide) rfl (Nat.le_of_ble_eq_true rfl) ?_
  intro κ hN hX hR
  have hX : GX κ cy Z cX7_falls (Cond.code yX7_falls cX7_falls 2 none :: zT) RX7 { frames := 1, cells := 0, slots := 0, locals := 23 } := hX
  show GW κ 0 0 (C μ.1 μ.2.1 μ.2.2 x) 0 [(0, .ref h0), (1, .int (z1))] []
  refine g_aload_n hX 0 rfl rfl dX7_falls_0 ?_
  refine g_iload_n hX 1 rfl rfl dX7_falls_1 ?_
  refine g_bipush hX (v := nI 6) (by decide) dX7_falls_2 ?_
  refine g_iconst hX (v := nI 1) rfl dX7_falls_4 ?_
  obtain ⟨y5, τ5, e5, h⟩ := ob_some h
  refine m_call hX hzo hC [.int (z1), .int (nI 6), .int (nI 1)] [] (ct_X7_sets _ _ _ _ hzo hC z1 (nI 6) (nI 1) μ _ x _ e5) kX7_sets tMet_X7_80 rfl rfl (Nat.le_of_ble_eq_true rfl) (Nat.le_of_ble_eq_true rfl) ⟨Nat.le_of_ble_eq_true rfl, Nat.le_of_ble_eq_true rfl⟩ rfl (Nat.le_of_ble_eq_true rfl) dX7_falls_5 ?_
  rintro _ _ ⟨rfl, x5, rfl⟩
  show GW κ 0 0 (C τ5.1 τ5.2.1 τ5.2.2 x5) 8 [(0, .ref h0), (1, .int (z1))] []
  refine g_aload_n hX 0 rfl rfl dX7_falls_8 ?_
  refine g_iload_n hX 1 rfl rfl dX7_falls_9 ?_
  refine g_iconst hX (v := nI 5) rfl dX7_falls_10 ?_
  refine g_iconst hX (v := nI 0) rfl dX7_falls_11 ?_
  obtain ⟨y12, τ12, e12, h⟩ := ob_some h
  refine m_call hX hzo hC [.int (z1), .int (nI 5), .int (nI 0)] [] (ct_X7_sets _ _ _ _ hzo hC z1 (nI 5) (nI 0) τ5 _ x5 _ e12) kX7_sets tMet_X7_80 rfl rfl (Nat.le_of_ble_eq_true rfl) (Nat.le_of_ble_eq_true rfl) ⟨Nat.le_of_ble_eq_true rfl, Nat.le_of_ble_eq_true rfl⟩ rfl (Nat.le_of_ble_eq_true rfl) dX7_falls_12 ?_
  rintro _ _ ⟨rfl, x12, rfl⟩
  show GW κ 0 0 (C τ12.1 τ12.2.1 τ12.2.2 x12) 15 [(0, .ref h0), (1, .int (z1))] []
  exact g_retvP hR ⟨rfl, x12, by rw [← oi_2 h]⟩ dX7_falls_15
set_option maxHeartbeats 4000000 in
set_option maxRecDepth 100000 in
theorem ct_X7_keeps (l : Launch) (D : va_G) (cy : Nat → ClassId) (Z : (Nat → Prop) → State → Heap → Prop) (hzo : zOK Z) {h0 : Nat} {a q : Nat → Nat} {C : (Nat → Int32) → (Nat → Int32) → (Nat → Nat → Int32) → (Nat → Nat → Int32) → va_W} (hC : mLens (cy 0) h0 a q C) (z1 : Int32) (μ μ2 : Mg) (x : Nat → Nat → Int32) (res : Int32) (h : fn_X7_keeps z1 μ = some (res, μ2)) : GM l D cy Z yX7_keeps (zW yX7_keeps cX7_keeps 4 (some .boolean)) { frames := 6, cells := 0, slots := 0, locals := 142 } [.ref h0, .int (z1)] (C μ.1 μ.2.1 μ.2.2 x) (fun rs w2 => rs = some (.int res) ∧ ∃ x2, w2 = C μ2.1 μ2.2.1 μ2.2.2 x2) 0 0 := by
  refine g_entry (cc := cX7_keeps) (maxL := 4) (by decide) rfl (Nat.le_of_ble_eq_true rfl) ?_
  intro κ hN hX hR
  have hX : GX κ cy Z cX7_keeps (Cond.code yX7_keeps cX7_keeps 4 (some .boolean) :: zT) RX7 { frames := 6, cells := 0, slots := 0, locals := 142 } := hX
  have J23 : ∀ (s0 : Int32) (μ : Mg) (x : Nat → Nat → Int32) , fn_X7_keeps_L23 z1 s0 μ = some (res, μ2) → GW κ 0 0 (C μ.1 μ.2.1 μ.2.2 x) 23 [(0, .ref h0)] [.int (s0)] := by
    intro s0 μ x h
    refine g_istore_n (lv2 := [(3, .int (s0)), (0, .ref h0)]) hX 3 4 hN rfl (by decide) rfl dX7_keeps_23 ?_
    refine g_aload_n hX 1 rfl rfl dX7_keeps_24 ?_
    obtain ⟨y25, τ25, e25, h⟩ := ob_some h
    refine m_call hX hzo hC [] [] (ct_X7_laysBack _ _ _ _ hzo hC  μ _ x _ e25) kX7_laysBack tMet_X7_187 rfl rfl (Nat.le_of_ble_eq_true rfl) (Nat.le_of_ble_eq_true rfl) ⟨Nat.le_of_ble_eq_true rfl, Nat.le_of_ble_eq_true rfl⟩ rfl (Nat.le_of_ble_eq_true rfl) dX7_keeps_25 ?_
    rintro _ _ ⟨rfl, x25, rfl⟩
    show GW κ 0 0 (C τ25.1 τ25.2.1 τ25.2.2 x25) 28 [(3, .int (s0)), (0, .ref h0)] []
    refine g_iload_n hX 0 rfl rfl dX7_keeps_28 ?_
    obtain ⟨g1, h⟩ := gd_some h
    exact g_retb hR g1 ⟨by rw [oi_1 h], x25, by rw [← oi_2 h]⟩ dX7_keeps_29
  show GW κ 0 0 (C μ.1 μ.2.1 μ.2.2 x) 0 [(0, .ref h0), (1, .int (z1))] []
  refine g_aload_n hX 0 rfl rfl dX7_keeps_0 ?_
  obtain ⟨y1, τ1, e1, h⟩ := ob_some h
  refine m_call hX hzo hC [] [] (ct_X7_allStanding _ _ _ _ hzo hC  μ _ x _ e1) kX7_allStanding tMet_X7_123 rfl rfl (Nat.le_of_ble_eq_true rfl) (Nat.le_of_ble_eq_true rfl) ⟨Nat.le_of_ble_eq_true rfl, Nat.le_of_ble_eq_true rfl⟩ rfl (Nat.le_of_ble_eq_true rfl) dX7_keeps_1 ?_
  rintro _ _ ⟨rfl, x1, rfl⟩
  show GW κ 0 0 (C τ1.1 τ1.2.1 τ1.2.2 x1) 4 [(0, .ref h0), (1, .int (z1))] [.int (y1)]
  refine g_istore_n (lv2 := [(2, .int (y1)), (0, .ref h0), (1, .int (z1))]) hX 2 4 hN rfl (by decide) rfl dX7_keeps_4 ?_
  refine g_aload_n hX 1 rfl rfl dX7_keeps_5 ?_
  refine g_iload_n hX 2 rfl rfl dX7_keeps_6 ?_
  obtain ⟨y7, τ7, e7, h⟩ := ob_some h
  refine m_call hX hzo hC [.int (z1)] [] (ct_X7_goesOnMany _ _ _ _ hzo hC z1 τ1 _ x1 _ e7) kX7_goesOnMany tMet_X7_184 rfl rfl (Nat.le_of_ble_eq_true rfl) (Nat.le_of_ble_eq_true rfl) ⟨Nat.le_of_ble_eq_true rfl, Nat.le_of_ble_eq_true rfl⟩ rfl (Nat.le_of_ble_eq_true rfl) dX7_keeps_7 ?_
  rintro _ _ ⟨rfl, x7, rfl⟩
  show GW κ 0 0 (C τ7.1 τ7.2.1 τ7.2.2 x7) 10 [(2, .int (y1)), (0, .ref h0), (1, .int (z1))] []
  refine g_aload_n hX 1 rfl rfl dX7_keeps_10 ?_
  obtain ⟨y11, τ11, e11, h⟩ := ob_some h
  refine m_call hX hzo hC [] [] (ct_X7_allStanding _ _ _ _ hzo hC  τ7 _ x7 _ e11) kX7_allStanding tMet_X7_123 rfl rfl (Nat.le_of_ble_eq_true rfl) (Nat.le_of_ble_eq_true rfl) ⟨Nat.le_of_ble_eq_true rfl, Nat.le_of_ble_eq_true rfl⟩ rfl (Nat.le_of_ble_eq_true rfl) dX7_keeps_11 ?_
  rintro _ _ ⟨rfl, x11, rfl⟩
  show GW κ 0 0 (C τ11.1 τ11.2.1 τ11.2.2 x11) 14 [(2, .int (y1)), (0, .ref h0), (1, .int (z1))] [.int (y11)]
  refine g_iload_n hX 0 rfl rfl dX7_keeps_14 ?_
  refine g_icmp_ne hX 22 (by decide) dX7_keeps_15 (fun b15 => ?_) (fun b15 => ?_)
  · replace h := if_n b15 h
    refine g_iconst hX (v := nI 0) rfl dX7_keeps_22 ?_
    refine g_lv [1] rfl ?_
    exact J23 (nI 0) τ11 x11 h
  · replace h := if_p b15 h
    refine g_iconst hX (v := nI 1) rfl dX7_keeps_18 ?_
    refine g_goto hX 23 (by decide) dX7_keeps_19 ?_
    refine g_lv [1] rfl ?_
    exact J23 (nI 1) τ11 x11 h
set_option maxHeartbeats 4000000 in
set_option maxRecDepth 100000 in
theorem ct_X7_behind (l : Launch) (D : va_G) (cy : Nat → ClassId) (Z : (Nat → Prop) → State → Heap → Prop) (hzo : zOK Z) {h0 : Nat} {a q : Nat → Nat} {C : (Nat → Int32) → (Nat → Int32) → (Nat → Nat → Int32) → (Nat → Nat → Int32) → va_W} (hC : mLens (cy 0) h0 a q C) (z1 : Int32) (z2 : Int32) (μ μ2 : Mg) (x : Nat → Nat → Int32) (res : Int32) (h : fn_X7_behind z1 z2 μ = some (res, μ2)) : GM l D cy Z yX7_behind (zW yX7_behind cX7_behind 4 (some .int)) { frames := 6, cells := 0, slots := 0, locals := 142 } [.ref h0, .int (z1), .int (z2)] (C μ.1 μ.2.1 μ.2.2 x) (fun rs w2 => rs = some (.int res) ∧ ∃ x2, w2 = C μ2.1 μ2.2.1 μ2.2.2 x2) 0 0 := by
  refine g_entry (cc := cX7_behind) (maxL := 4) (by decide) rfl (Nat.le_of_ble_eq_true rfl) ?_
  intro κ hN hX hR
  have hX : GX κ cy Z cX7_behind (Cond.code yX7_behind cX7_behind 4 (some .int) :: zT) RX7 { frames := 6, cells := 0, slots := 0, locals := 142 } := hX
  have J88 : ∀ (s0 : Int32) (μ : Mg) (x : Nat → Nat → Int32) , fn_X7_behind_L88 z1 z2 s0 μ = some (res, μ2) → GW κ 0 0 (C μ.1 μ.2.1 μ.2.2 x) 88 [(0, .ref h0)] [.int (s0)] := by
    intro s0 μ x h
    refine g_istore_n (lv2 := [(3, .int (s0)), (0, .ref h0)]) hX 3 4 hN rfl (by decide) rfl dX7_behind_88 ?_
    refine g_aload_n hX 1 rfl rfl dX7_behind_89 ?_
    obtain ⟨y90, τ90, e90, h⟩ := ob_some h
    refine m_call hX hzo hC [] [] (ct_X7_laysBack _ _ _ _ hzo hC  μ _ x _ e90) kX7_laysBack tMet_X7_187 rfl rfl (Nat.le_of_ble_eq_true rfl) (Nat.le_of_ble_eq_true rfl) ⟨Nat.le_of_ble_eq_true rfl, Nat.le_of_ble_eq_true rfl⟩ rfl (Nat.le_of_ble_eq_true rfl) dX7_behind_90 ?_
    rintro _ _ ⟨rfl, x90, rfl⟩
    show GW κ 0 0 (C τ90.1 τ90.2.1 τ90.2.2 x90) 93 [(3, .int (s0)), (0, .ref h0)] []
    refine g_iload_n hX 0 rfl rfl dX7_behind_93 ?_
    exact g_retiP hR ⟨by rw [oi_1 h], x90, by rw [← oi_2 h]⟩ dX7_behind_94
  have J30 : ∀ (μ : Mg) (x : Nat → Nat → Int32) , fn_X7_behind_L30 z1 z2  μ = some (res, μ2) → GW κ 0 0 (C μ.1 μ.2.1 μ.2.2 x) 30 [] [] := by
    intro μ x h
    refine g_ldc hX (v := -1000000001) (zu tCon_X7_100 rfl) dX7_behind_30 ?_
    exact g_retiP hR ⟨by rw [oi_1 h], x, by rw [← oi_2 h]⟩ dX7_behind_32
  show GW κ 0 0 (C μ.1 μ.2.1 μ.2.2 x) 0 [(0, .ref h0), (1, .int (z1)), (2, .int (z2))] []
  refine g_iload_n hX 1 rfl rfl dX7_behind_0 ?_
  refine g_i2l hX dX7_behind_1 ?_
  refine g_lconst hX (v := Int32.toInt64 (0)) (by decide) dX7_behind_2 ?_
  refine g_ldc2 hX (v := Int32.toInt64 (100)) (zu tCoL_X7_170 rfl) dX7_behind_3 ?_
  refine s_call hX hzo [.long (Int32.toInt64 (z1)), .long (Int32.toInt64 ((0))), .long (Int32.toInt64 ((100)))] [] (c_isIn _ _ _ _ _ (z1) ((0)) ((100))) kX7_isIn tMet_X7_71 rfl rfl (Nat.le_of_ble_eq_true rfl) (Nat.le_of_ble_eq_true rfl) ⟨Nat.le_of_ble_eq_true rfl, Nat.le_of_ble_eq_true rfl⟩ rfl rfl (Nat.le_of_ble_eq_true rfl) dX7_behind_6 ?_
  refine g_if_eq hX 30 (by decide) dX7_behind_9 (fun b9 => ?_) (fun b9 => ?_)
  · replace h := if_p b9 h
    refine g_lv [] rfl ?_
    exact J30  μ x h
  · replace h := if_n b9 h
    refine g_iload_n hX 2 rfl rfl dX7_behind_12 ?_
    refine g_i2l hX dX7_behind_13 ?_
    refine g_lconst hX (v := Int32.toInt64 (0)) (by decide) dX7_behind_14 ?_
    refine g_iconst hX (v := nI 2) rfl dX7_behind_15 ?_
    refine g_aload_n hX 0 rfl rfl dX7_behind_16 ?_
    refine m_getA hX hC 0 (by decide) rfl tFld_X7_7 dX7_behind_17 ?_
    refine g_iconst hX (v := nI 0) rfl dX7_behind_20 ?_
    obtain ⟨g1, h⟩ := gd_some h
    refine m0_ald hX hC g1 dX7_behind_21 ?_
    refine g_iadd hX dX7_behind_22 ?_
    refine g_i2l hX dX7_behind_23 ?_
    refine s_call hX hzo [.long (Int32.toInt64 (z2)), .long (Int32.toInt64 ((0))), .long (Int32.toInt64 ((nI 2 + μ.2.1 (nI 0).toNatClampNeg)))] [] (c_isIn _ _ _ _ _ (z2) ((0)) ((nI 2 + μ.2.1 (nI 0).toNatClampNeg))) kX7_isIn tMet_X7_71 rfl rfl (Nat.le_of_ble_eq_true rfl) (Nat.le_of_ble_eq_true rfl) ⟨Nat.le_of_ble_eq_true rfl, Nat.le_of_ble_eq_true rfl⟩ rfl rfl (Nat.le_of_ble_eq_true rfl) dX7_behind_24 ?_
    refine g_if_ne hX 33 (by decide) dX7_behind_27 (fun b27 => ?_) (fun b27 => ?_)
    · replace h := if_n b27 h
      refine g_aload_n hX 0 rfl rfl dX7_behind_33 ?_
      obtain ⟨y34, τ34, e34, h⟩ := ob_some h
      refine m_call hX hzo hC [] [] (ct_X7_laysBy _ _ _ _ hzo hC  μ _ x _ e34) kX7_laysBy tMet_X7_181 rfl rfl (Nat.le_of_ble_eq_true rfl) (Nat.le_of_ble_eq_true rfl) ⟨Nat.le_of_ble_eq_true rfl, Nat.le_of_ble_eq_true rfl⟩ rfl (Nat.le_of_ble_eq_true rfl) dX7_behind_34 ?_
      rintro _ _ ⟨rfl, x34, rfl⟩
      show GW κ 0 0 (C τ34.1 τ34.2.1 τ34.2.2 x34) 37 [(0, .ref h0), (1, .int (z1)), (2, .int (z2))] []
      refine g_aload_n hX 0 rfl rfl dX7_behind_37 ?_
      refine g_iload_n hX 1 rfl rfl dX7_behind_38 ?_
      obtain ⟨y39, τ39, e39, h⟩ := ob_some h
      refine m_call hX hzo hC [.int (z1)] [] (ct_X7_goesOnMany _ _ _ _ hzo hC z1 τ34 _ x34 _ e39) kX7_goesOnMany tMet_X7_184 rfl rfl (Nat.le_of_ble_eq_true rfl) (Nat.le_of_ble_eq_true rfl) ⟨Nat.le_of_ble_eq_true rfl, Nat.le_of_ble_eq_true rfl⟩ rfl (Nat.le_of_ble_eq_true rfl) dX7_behind_39 ?_
      rintro _ _ ⟨rfl, x39, rfl⟩
      show GW κ 0 0 (C τ39.1 τ39.2.1 τ39.2.2 x39) 42 [(0, .ref h0), (1, .int (z1)), (2, .int (z2))] []
      refine g_iload_n hX 2 rfl rfl dX7_behind_42 ?_
      refine g_if_ne hX 53 (by decide) dX7_behind_43 (fun b43 => ?_) (fun b43 => ?_)
      · replace h := if_n b43 h
        refine g_iload_n hX 2 rfl rfl dX7_behind_53 ?_
        refine g_iconst hX (v := nI 1) rfl dX7_behind_54 ?_
        refine g_icmp_ne hX 66 (by decide) dX7_behind_55 (fun b55 => ?_) (fun b55 => ?_)
        · replace h := if_n b55 h
          refine g_iload_n hX 2 rfl rfl dX7_behind_66 ?_
          refine g_iconst hX (v := nI 2) rfl dX7_behind_67 ?_
          refine g_icmp_ne hX 80 (by decide) dX7_behind_68 (fun b68 => ?_) (fun b68 => ?_)
          · replace h := if_n b68 h
            refine g_aload_n hX 0 rfl rfl dX7_behind_80 ?_
            refine g_iload_n hX 2 rfl rfl dX7_behind_81 ?_
            refine g_iconst hX (v := nI 3) rfl dX7_behind_82 ?_
            refine g_isub hX dX7_behind_83 ?_
            refine g_iconst hX (v := nI 2) rfl dX7_behind_84 ?_
            obtain ⟨y85, τ85, e85, h⟩ := ob_some h
            refine m_call hX hzo hC [.int ((z2 - nI 3)), .int (nI 2)] [] (ct_X7_of _ _ _ _ hzo hC ((z2 - nI 3)) (nI 2) τ39 _ x39 _ e85) kX7_of tMet_X7_75 rfl rfl (Nat.le_of_ble_eq_true rfl) (Nat.le_of_ble_eq_true rfl) ⟨Nat.le_of_ble_eq_true rfl, Nat.le_of_ble_eq_true rfl⟩ rfl (Nat.le_of_ble_eq_true rfl) dX7_behind_85 ?_
            rintro _ _ ⟨rfl, x85, rfl⟩
            show GW κ 0 0 (C τ85.1 τ85.2.1 τ85.2.2 x85) 88 [(0, .ref h0), (1, .int (z1)), (2, .int (z2))] [.int (y85)]
            refine g_lv [0] rfl ?_
            exact J88 y85 τ85 x85 h
          · replace h := if_p b68 h
            refine g_aload_n hX 0 rfl rfl dX7_behind_71 ?_
            refine m_getA hX hC 0 (by decide) rfl tFld_X7_7 dX7_behind_72 ?_
            refine g_iconst hX (v := nI 3) rfl dX7_behind_75 ?_
            obtain ⟨g2, h⟩ := gd_some h
            refine m0_ald hX hC g2 dX7_behind_76 ?_
            refine g_goto hX 88 (by decide) dX7_behind_77 ?_
            refine g_lv [0] rfl ?_
            exact J88 (τ39.2.1 (nI 3).toNatClampNeg) τ39 x39 h
        · replace h := if_p b55 h
          refine g_aload_n hX 0 rfl rfl dX7_behind_58 ?_
          refine g_iconst hX (v := nI 4) rfl dX7_behind_59 ?_
          obtain ⟨y60, τ60, e60, h⟩ := ob_some h
          refine m_call hX hzo hC [.int (nI 4)] [] (ct_X7_allOf _ _ _ _ hzo hC (nI 4) τ39 _ x39 _ e60) kX7_allOf tMet_X7_175 rfl rfl (Nat.le_of_ble_eq_true rfl) (Nat.le_of_ble_eq_true rfl) ⟨Nat.le_of_ble_eq_true rfl, Nat.le_of_ble_eq_true rfl⟩ rfl (Nat.le_of_ble_eq_true rfl) dX7_behind_60 ?_
          rintro _ _ ⟨rfl, x60, rfl⟩
          show GW κ 0 0 (C τ60.1 τ60.2.1 τ60.2.2 x60) 63 [(0, .ref h0), (1, .int (z1)), (2, .int (z2))] [.int (y60)]
          refine g_goto hX 88 (by decide) dX7_behind_63 ?_
          refine g_lv [0] rfl ?_
          exact J88 y60 τ60 x60 h
      · replace h := if_p b43 h
        refine g_aload_n hX 0 rfl rfl dX7_behind_46 ?_
        obtain ⟨y47, τ47, e47, h⟩ := ob_some h
        refine m_call hX hzo hC [] [] (ct_X7_allStanding _ _ _ _ hzo hC  τ39 _ x39 _ e47) kX7_allStanding tMet_X7_123 rfl rfl (Nat.le_of_ble_eq_true rfl) (Nat.le_of_ble_eq_true rfl) ⟨Nat.le_of_ble_eq_true rfl, Nat.le_of_ble_eq_true rfl⟩ rfl (Nat.le_of_ble_eq_true rfl) dX7_behind_47 ?_
        rintro _ _ ⟨rfl, x47, rfl⟩
        show GW κ 0 0 (C τ47.1 τ47.2.1 τ47.2.2 x47) 50 [(0, .ref h0), (1, .int (z1)), (2, .int (z2))] [.int (y47)]
        refine g_goto hX 88 (by decide) dX7_behind_50 ?_
        refine g_lv [0] rfl ?_
        exact J88 y47 τ47 x47 h
    · replace h := if_p b27 h
      refine g_lv [] rfl ?_
      exact J30  μ x h
set_option maxHeartbeats 4000000 in
set_option maxRecDepth 100000 in
theorem ct_X7_lasts (l : Launch) (D : va_G) (cy : Nat → ClassId) (Z : (Nat → Prop) → State → Heap → Prop) (hzo : zOK Z) {h0 : Nat} {a q : Nat → Nat} {C : (Nat → Int32) → (Nat → Int32) → (Nat → Nat → Int32) → (Nat → Nat → Int32) → va_W} (hC : mLens (cy 0) h0 a q C) (μ μ2 : Mg) (x : Nat → Nat → Int32) (res : Int32) (h : fn_X7_lasts  μ = some (res, μ2)) : GM l D cy Z yX7_lasts (zW yX7_lasts cX7_lasts 4 (some .int)) { frames := 5, cells := 0, slots := 0, locals := 120 } [.ref h0] (C μ.1 μ.2.1 μ.2.2 x) (fun rs w2 => rs = some (.int res) ∧ ∃ x2, w2 = C μ2.1 μ2.2.1 μ2.2.2 x2) 0 0 := by
  refine g_entry (cc := cX7_lasts) (maxL := 4) (by decide) rfl (Nat.le_of_ble_eq_true rfl) ?_
  intro κ hN hX hR
  have hX : GX κ cy Z cX7_lasts (Cond.code yX7_lasts cX7_lasts 4 (some .int) :: zT) RX7 { frames := 5, cells := 0, slots := 0, locals := 120 } := hX
  have J48 : ∀ (v2 : Int32) (μ : Mg) (x : Nat → Nat → Int32) , fn_X7_lasts_L48  v2 μ = some (res, μ2) → GW κ 0 0 (C μ.1 μ.2.1 μ.2.2 x) 48 [(0, .ref h0), (2, .int (v2))] [] := by
    intro v2 μ x h
    refine g_aload_n hX 0 rfl rfl dX7_lasts_48 ?_
    obtain ⟨y49, τ49, e49, h⟩ := ob_some h
    refine m_call hX hzo hC [] [] (ct_X7_laysBack _ _ _ _ hzo hC  μ _ x _ e49) kX7_laysBack tMet_X7_187 rfl rfl (Nat.le_of_ble_eq_true rfl) (Nat.le_of_ble_eq_true rfl) ⟨Nat.le_of_ble_eq_true rfl, Nat.le_of_ble_eq_true rfl⟩ rfl (Nat.le_of_ble_eq_true rfl) dX7_lasts_49 ?_
    rintro _ _ ⟨rfl, x49, rfl⟩
    show GW κ 0 0 (C τ49.1 τ49.2.1 τ49.2.2 x49) 52 [(0, .ref h0), (2, .int (v2))] []
    refine g_iload_n hX 1 rfl rfl dX7_lasts_52 ?_
    obtain ⟨y53, e53, h⟩ := o1_some h
    refine s_call hX hzo [.int (v2)] [] (ct_X7_orNone _ _ _ _ hzo _ v2 _ e53) kX7_orNone tMet_X7_190 rfl rfl (Nat.le_of_ble_eq_true rfl) (Nat.le_of_ble_eq_true rfl) ⟨Nat.le_of_ble_eq_true rfl, Nat.le_of_ble_eq_true rfl⟩ rfl rfl (Nat.le_of_ble_eq_true rfl) dX7_lasts_53 ?_
    exact g_retiP hR ⟨by rw [oi_1 h], x49, by rw [← oi_2 h]⟩ dX7_lasts_56
  have J41 : ∀ (slf : Int32 → Int32 → Int32 → Mg → Option (Int32 × Mg)) (hslf : ∀ (v1 : Int32) (v2 : Int32) (v3 : Int32) (μ : Mg) (x : Nat → Nat → Int32) , slf v1 v2 v3 μ = some (res, μ2) → GW κ 0 0 (C μ.1 μ.2.1 μ.2.2 x) 13 [(0, .ref h0), (1, .int (v1)), (2, .int (v2)), (3, .int (v3))] []) (k48 : Int32 → Mg → Option (Int32 × Mg)) (hk48 : ∀ (v2 : Int32) (μ : Mg) (x : Nat → Nat → Int32) , k48 v2 μ = some (res, μ2) → GW κ 0 0 (C μ.1 μ.2.1 μ.2.2 x) 48 [(0, .ref h0), (2, .int (v2))] []), ∀ (v1 : Int32) (v3 : Int32) (s0 : Int32) (μ : Mg) (x : Nat → Nat → Int32) , fn_X7_lasts_L41  slf k48 v1 v3 s0 μ = some (res, μ2) → GW κ 0 0 (C μ.1 μ.2.1 μ.2.2 x) 41 [(0, .ref h0), (1, .int (v1)), (3, .int (v3))] [.int (s0)] := by
    intro slf hslf k48 hk48 v1 v3 s0 μ x h
    refine g_istore_n (lv2 := [(2, .int (s0)), (0, .ref h0), (1, .int (v1)), (3, .int (v3))]) hX 2 4 hN rfl (by decide) rfl dX7_lasts_41 ?_
    refine g_iinc (v := (v3 + nI 1)) (lv2 := [(3, .int ((v3 + nI 1))), (2, .int (s0)), (0, .ref h0), (1, .int (v1))]) hX 3 3 4 hN rfl rfl (by decide) rfl dX7_lasts_42 ?_
    refine g_goto hX 13 (by decide) dX7_lasts_45 ?_
    refine g_lv [2, 3, 1, 0] rfl ?_
    exact hslf v1 s0 ((v3 + nI 1)) μ x h
  have J13 : ∀ (k48 : Int32 → Mg → Option (Int32 × Mg)) (hk48 : ∀ (v2 : Int32) (μ : Mg) (x : Nat → Nat → Int32) , k48 v2 μ = some (res, μ2) → GW κ 0 0 (C μ.1 μ.2.1 μ.2.2 x) 48 [(0, .ref h0), (2, .int (v2))] []) (fuel : Nat), ∀ (v1 : Int32) (v2 : Int32) (v3 : Int32) (μ : Mg) (x : Nat → Nat → Int32) , fn_X7_lasts_L13  k48 fuel v1 v2 v3 μ = some (res, μ2) → GW κ 0 0 (C μ.1 μ.2.1 μ.2.2 x) 13 [(0, .ref h0), (1, .int (v1)), (2, .int (v2)), (3, .int (v3))] [] := by
    intro k48 hk48 fuel
    induction fuel with
    | zero => intro v1 v2 v3 μ x h; cases (show none = some (res, μ2) from h)
    | succ fuel ih =>
      intro v1 v2 v3 μ x h
      replace h : (if nI 300 < v3 then (k48 v2 μ) else (if 0 ≤ v2 then (k48 v2 μ) else (ob (fn_X7_goesOn  μ) (fun y25 τ25 => (ob (fn_X7_allStanding  τ25) (fun y29 τ29 => (if y29 = v1 then ((fn_X7_lasts_L41  (fn_X7_lasts_L13  k48 fuel) k48) v1 v3 ((-1)) τ29) else ((fn_X7_lasts_L41  (fn_X7_lasts_L13  k48 fuel) k48) v1 v3 v3 τ29)))))))) = some (res, μ2) := h
      refine g_iload_n hX 3 rfl rfl dX7_lasts_13 ?_
      refine g_sipush hX (v := nI 300) (by decide) dX7_lasts_14 ?_
      refine g_icmp_gt hX 48 (by decide) dX7_lasts_17 (fun b17 => ?_) (fun b17 => ?_)
      · replace h := if_p b17 h
        refine g_lv [0, 2] rfl ?_
        exact hk48 v2 μ x h
      · replace h := if_n b17 h
        refine g_iload_n hX 2 rfl rfl dX7_lasts_20 ?_
        refine g_if_ge hX 48 (by decide) dX7_lasts_21 (fun b21 => ?_) (fun b21 => ?_)
        · replace h := if_p b21 h
          refine g_lv [0, 2] rfl ?_
          exact hk48 v2 μ x h
        · replace h := if_n b21 h
          refine g_aload_n hX 0 rfl rfl dX7_lasts_24 ?_
          obtain ⟨y25, τ25, e25, h⟩ := ob_some h
          refine m_call hX hzo hC [] [] (ct_X7_goesOn _ _ _ _ hzo hC  μ _ x _ e25) kX7_goesOn tMet_X7_172 rfl rfl (Nat.le_of_ble_eq_true rfl) (Nat.le_of_ble_eq_true rfl) ⟨Nat.le_of_ble_eq_true rfl, Nat.le_of_ble_eq_true rfl⟩ rfl (Nat.le_of_ble_eq_true rfl) dX7_lasts_25 ?_
          rintro _ _ ⟨rfl, x25, rfl⟩
          show GW κ 0 0 (C τ25.1 τ25.2.1 τ25.2.2 x25) 28 [(0, .ref h0), (1, .int (v1)), (2, .int (v2)), (3, .int (v3))] []
          refine g_aload_n hX 0 rfl rfl dX7_lasts_28 ?_
          obtain ⟨y29, τ29, e29, h⟩ := ob_some h
          refine m_call hX hzo hC [] [] (ct_X7_allStanding _ _ _ _ hzo hC  τ25 _ x25 _ e29) kX7_allStanding tMet_X7_123 rfl rfl (Nat.le_of_ble_eq_true rfl) (Nat.le_of_ble_eq_true rfl) ⟨Nat.le_of_ble_eq_true rfl, Nat.le_of_ble_eq_true rfl⟩ rfl (Nat.le_of_ble_eq_true rfl) dX7_lasts_29 ?_
          rintro _ _ ⟨rfl, x29, rfl⟩
          show GW κ 0 0 (C τ29.1 τ29.2.1 τ29.2.2 x29) 32 [(0, .ref h0), (1, .int (v1)), (2, .int (v2)), (3, .int (v3))] [.int (y29)]
          refine g_iload_n hX 1 rfl rfl dX7_lasts_32 ?_
          refine g_icmp_eq hX 40 (by decide) dX7_lasts_33 (fun b33 => ?_) (fun b33 => ?_)
          · replace h := if_p b33 h
            refine g_iconst hX (v := -1) (by decide) dX7_lasts_40 ?_
            refine g_lv [0, 1, 3] rfl ?_
            exact (J41 (fn_X7_lasts_L13  k48 fuel) ih k48 hk48) v1 v3 ((-1)) τ29 x29 h
          · replace h := if_n b33 h
            refine g_iload_n hX 3 rfl rfl dX7_lasts_36 ?_
            refine g_goto hX 41 (by decide) dX7_lasts_37 ?_
            refine g_lv [0, 1, 3] rfl ?_
            exact (J41 (fn_X7_lasts_L13  k48 fuel) ih k48 hk48) v1 v3 v3 τ29 x29 h
  show GW κ 0 0 (C μ.1 μ.2.1 μ.2.2 x) 0 [(0, .ref h0)] []
  refine g_aload_n hX 0 rfl rfl dX7_lasts_0 ?_
  obtain ⟨y1, τ1, e1, h⟩ := ob_some h
  refine m_call hX hzo hC [] [] (ct_X7_laysBy _ _ _ _ hzo hC  μ _ x _ e1) kX7_laysBy tMet_X7_181 rfl rfl (Nat.le_of_ble_eq_true rfl) (Nat.le_of_ble_eq_true rfl) ⟨Nat.le_of_ble_eq_true rfl, Nat.le_of_ble_eq_true rfl⟩ rfl (Nat.le_of_ble_eq_true rfl) dX7_lasts_1 ?_
  rintro _ _ ⟨rfl, x1, rfl⟩
  show GW κ 0 0 (C τ1.1 τ1.2.1 τ1.2.2 x1) 4 [(0, .ref h0)] []
  refine g_aload_n hX 0 rfl rfl dX7_lasts_4 ?_
  obtain ⟨y5, τ5, e5, h⟩ := ob_some h
  refine m_call hX hzo hC [] [] (ct_X7_allStanding _ _ _ _ hzo hC  τ1 _ x1 _ e5) kX7_allStanding tMet_X7_123 rfl rfl (Nat.le_of_ble_eq_true rfl) (Nat.le_of_ble_eq_true rfl) ⟨Nat.le_of_ble_eq_true rfl, Nat.le_of_ble_eq_true rfl⟩ rfl (Nat.le_of_ble_eq_true rfl) dX7_lasts_5 ?_
  rintro _ _ ⟨rfl, x5, rfl⟩
  show GW κ 0 0 (C τ5.1 τ5.2.1 τ5.2.2 x5) 8 [(0, .ref h0)] [.int (y5)]
  refine g_istore_n (lv2 := [(1, .int (y5)), (0, .ref h0)]) hX 1 4 hN rfl (by decide) rfl dX7_lasts_8 ?_
  refine g_iconst hX (v := -1) (by decide) dX7_lasts_9 ?_
  refine g_istore_n (lv2 := [(2, .int ((-1))), (1, .int (y5)), (0, .ref h0)]) hX 2 4 hN rfl (by decide) rfl dX7_lasts_10 ?_
  refine g_iconst hX (v := nI 1) rfl dX7_lasts_11 ?_
  refine g_istore_n (lv2 := [(3, .int (nI 1)), (2, .int ((-1))), (1, .int (y5)), (0, .ref h0)]) hX 3 4 hN rfl (by decide) rfl dX7_lasts_12 ?_
  refine g_lv [3, 2, 1, 0] rfl ?_
  exact (J13 (fn_X7_lasts_L48 ) J48 4000) y5 ((-1)) (nI 1) τ5 x5 h
set_option maxHeartbeats 4000000 in
set_option maxRecDepth 100000 in
theorem ct_X7_taken (l : Launch) (D : va_G) (cy : Nat → ClassId) (Z : (Nat → Prop) → State → Heap → Prop) (hzo : zOK Z) {h0 : Nat} {a q : Nat → Nat} {C : (Nat → Int32) → (Nat → Int32) → (Nat → Nat → Int32) → (Nat → Nat → Int32) → va_W} (hC : mLens (cy 0) h0 a q C) (z1 : Int32) (z2 : Int32) (μ μ2 : Mg) (x : Nat → Nat → Int32) (res : Int32) (h : fn_X7_taken z1 z2 μ = some (res, μ2)) : GM l D cy Z yX7_taken (zW yX7_taken cX7_taken 5 (some .int)) { frames := 6, cells := 0, slots := 0, locals := 142 } [.ref h0, .int (z1), .int (z2)] (C μ.1 μ.2.1 μ.2.2 x) (fun rs w2 => rs = some (.int res) ∧ ∃ x2, w2 = C μ2.1 μ2.2.1 μ2.2.2 x2) 0 0 := by
  refine g_entry (cc := cX7_taken) (maxL := 5) (by decide) rfl (Nat.le_of_ble_eq_true rfl) ?_
  intro κ hN hX hR
  have hX : GX κ cy Z cX7_taken (Cond.code yX7_taken cX7_taken 5 (some .int) :: zT) RX7 { frames := 6, cells := 0, slots := 0, locals := 142 } := hX
  have J20 : ∀ (μ : Mg) (x : Nat → Nat → Int32) , fn_X7_taken_L20 z1 z2  μ = some (res, μ2) → GW κ 0 0 (C μ.1 μ.2.1 μ.2.2 x) 20 [] [] := by
    intro μ x h
    refine g_ldc hX (v := -1000000001) (zu tCon_X7_100 rfl) dX7_taken_20 ?_
    exact g_retiP hR ⟨by rw [oi_1 h], x, by rw [← oi_2 h]⟩ dX7_taken_22
  show GW κ 0 0 (C μ.1 μ.2.1 μ.2.2 x) 0 [(0, .ref h0), (1, .int (z1)), (2, .int (z2))] []
  refine g_aload_n hX 0 rfl rfl dX7_taken_0 ?_
  refine g_iload_n hX 1 rfl rfl dX7_taken_1 ?_
  obtain ⟨y2, τ2, e2, h⟩ := ob_some h
  refine m_call hX hzo hC [.int (z1)] [] (ct_X7_isHouse _ _ _ _ hzo hC z1 μ _ x _ e2) kX7_isHouse tMet_X7_133 rfl rfl (Nat.le_of_ble_eq_true rfl) (Nat.le_of_ble_eq_true rfl) ⟨Nat.le_of_ble_eq_true rfl, Nat.le_of_ble_eq_true rfl⟩ rfl (Nat.le_of_ble_eq_true rfl) dX7_taken_2 ?_
  rintro _ _ ⟨rfl, x2, rfl⟩
  show GW κ 0 0 (C τ2.1 τ2.2.1 τ2.2.2 x2) 5 [(0, .ref h0), (1, .int (z1)), (2, .int (z2))] [.int (y2)]
  refine g_if_eq hX 20 (by decide) dX7_taken_5 (fun b5 => ?_) (fun b5 => ?_)
  · replace h := if_p b5 h
    refine g_lv [] rfl ?_
    exact J20  τ2 x2 h
  · replace h := if_n b5 h
    refine g_iload_n hX 2 rfl rfl dX7_taken_8 ?_
    refine g_i2l hX dX7_taken_9 ?_
    refine g_lconst hX (v := Int32.toInt64 (1)) (by decide) dX7_taken_10 ?_
    refine g_ldc2 hX (v := Int32.toInt64 (60)) (zu tCoL_X7_193 rfl) dX7_taken_11 ?_
    refine s_call hX hzo [.long (Int32.toInt64 (z2)), .long (Int32.toInt64 ((1))), .long (Int32.toInt64 ((60)))] [] (c_isIn _ _ _ _ _ (z2) ((1)) ((60))) kX7_isIn tMet_X7_71 rfl rfl (Nat.le_of_ble_eq_true rfl) (Nat.le_of_ble_eq_true rfl) ⟨Nat.le_of_ble_eq_true rfl, Nat.le_of_ble_eq_true rfl⟩ rfl rfl (Nat.le_of_ble_eq_true rfl) dX7_taken_14 ?_
    refine g_if_ne hX 23 (by decide) dX7_taken_17 (fun b17 => ?_) (fun b17 => ?_)
    · replace h := if_n b17 h
      refine g_aload_n hX 0 rfl rfl dX7_taken_23 ?_
      refine g_iload_n hX 1 rfl rfl dX7_taken_24 ?_
      obtain ⟨y25, τ25, e25, h⟩ := ob_some h
      refine m_call hX hzo hC [.int (z1)] [] (ct_X7_stands _ _ _ _ hzo hC z1 τ2 _ x2 _ e25) kX7_stands tMet_X7_119 rfl rfl (Nat.le_of_ble_eq_true rfl) (Nat.le_of_ble_eq_true rfl) ⟨Nat.le_of_ble_eq_true rfl, Nat.le_of_ble_eq_true rfl⟩ rfl (Nat.le_of_ble_eq_true rfl) dX7_taken_25 ?_
      rintro _ _ ⟨rfl, x25, rfl⟩
      show GW κ 0 0 (C τ25.1 τ25.2.1 τ25.2.2 x25) 28 [(0, .ref h0), (1, .int (z1)), (2, .int (z2))] [.int (y25)]
      refine g_if_ne hX 34 (by decide) dX7_taken_28 (fun b28 => ?_) (fun b28 => ?_)
      · replace h := if_n b28 h
        refine g_aload_n hX 0 rfl rfl dX7_taken_34 ?_
        obtain ⟨y35, τ35, e35, h⟩ := ob_some h
        refine m_call hX hzo hC [] [] (ct_X7_laysBy _ _ _ _ hzo hC  τ25 _ x25 _ e35) kX7_laysBy tMet_X7_181 rfl rfl (Nat.le_of_ble_eq_true rfl) (Nat.le_of_ble_eq_true rfl) ⟨Nat.le_of_ble_eq_true rfl, Nat.le_of_ble_eq_true rfl⟩ rfl (Nat.le_of_ble_eq_true rfl) dX7_taken_35 ?_
        rintro _ _ ⟨rfl, x35, rfl⟩
        show GW κ 0 0 (C τ35.1 τ35.2.1 τ35.2.2 x35) 38 [(0, .ref h0), (1, .int (z1)), (2, .int (z2))] []
        refine g_aload_n hX 0 rfl rfl dX7_taken_38 ?_
        refine g_iload_n hX 2 rfl rfl dX7_taken_39 ?_
        obtain ⟨y40, τ40, e40, h⟩ := ob_some h
        refine m_call hX hzo hC [.int (z2)] [] (ct_X7_goesOnMany _ _ _ _ hzo hC z2 τ35 _ x35 _ e40) kX7_goesOnMany tMet_X7_184 rfl rfl (Nat.le_of_ble_eq_true rfl) (Nat.le_of_ble_eq_true rfl) ⟨Nat.le_of_ble_eq_true rfl, Nat.le_of_ble_eq_true rfl⟩ rfl (Nat.le_of_ble_eq_true rfl) dX7_taken_40 ?_
        rintro _ _ ⟨rfl, x40, rfl⟩
        show GW κ 0 0 (C τ40.1 τ40.2.1 τ40.2.2 x40) 43 [(0, .ref h0), (1, .int (z1)), (2, .int (z2))] []
        refine g_aload_n hX 0 rfl rfl dX7_taken_43 ?_
        obtain ⟨y44, τ44, e44, h⟩ := ob_some h
        refine m_call hX hzo hC [] [] (ct_X7_allStanding _ _ _ _ hzo hC  τ40 _ x40 _ e44) kX7_allStanding tMet_X7_123 rfl rfl (Nat.le_of_ble_eq_true rfl) (Nat.le_of_ble_eq_true rfl) ⟨Nat.le_of_ble_eq_true rfl, Nat.le_of_ble_eq_true rfl⟩ rfl (Nat.le_of_ble_eq_true rfl) dX7_taken_44 ?_
        rintro _ _ ⟨rfl, x44, rfl⟩
        show GW κ 0 0 (C τ44.1 τ44.2.1 τ44.2.2 x44) 47 [(0, .ref h0), (1, .int (z1)), (2, .int (z2))] [.int (y44)]
        refine g_istore_n (lv2 := [(3, .int (y44)), (0, .ref h0), (1, .int (z1)), (2, .int (z2))]) hX 3 5 hN rfl (by decide) rfl dX7_taken_47 ?_
        refine g_aload_n hX 1 rfl rfl dX7_taken_48 ?_
        obtain ⟨y49, τ49, e49, h⟩ := ob_some h
        refine m_call hX hzo hC [] [] (ct_X7_laysBack _ _ _ _ hzo hC  τ44 _ x44 _ e49) kX7_laysBack tMet_X7_187 rfl rfl (Nat.le_of_ble_eq_true rfl) (Nat.le_of_ble_eq_true rfl) ⟨Nat.le_of_ble_eq_true rfl, Nat.le_of_ble_eq_true rfl⟩ rfl (Nat.le_of_ble_eq_true rfl) dX7_taken_49 ?_
        rintro _ _ ⟨rfl, x49, rfl⟩
        show GW κ 0 0 (C τ49.1 τ49.2.1 τ49.2.2 x49) 52 [(3, .int (y44)), (0, .ref h0), (1, .int (z1)), (2, .int (z2))] []
        refine g_aload_n hX 1 rfl rfl dX7_taken_52 ?_
        refine g_iload_n hX 2 rfl rfl dX7_taken_53 ?_
        obtain ⟨y54, τ54, e54, h⟩ := ob_some h
        refine m_call hX hzo hC [.int (z1)] [] (ct_X7_falls _ _ _ _ hzo hC z1 τ49 _ x49 _ e54) kX7_falls tMet_X7_153 rfl rfl (Nat.le_of_ble_eq_true rfl) (Nat.le_of_ble_eq_true rfl) ⟨Nat.le_of_ble_eq_true rfl, Nat.le_of_ble_eq_true rfl⟩ rfl (Nat.le_of_ble_eq_true rfl) dX7_taken_54 ?_
        rintro _ _ ⟨rfl, x54, rfl⟩
        show GW κ 0 0 (C τ54.1 τ54.2.1 τ54.2.2 x54) 57 [(3, .int (y44)), (0, .ref h0), (1, .int (z1)), (2, .int (z2))] []
        refine g_aload_n hX 1 rfl rfl dX7_taken_57 ?_
        refine g_iload_n hX 3 rfl rfl dX7_taken_58 ?_
        obtain ⟨y59, τ59, e59, h⟩ := ob_some h
        refine m_call hX hzo hC [.int (z2)] [] (ct_X7_goesOnMany _ _ _ _ hzo hC z2 τ54 _ x54 _ e59) kX7_goesOnMany tMet_X7_184 rfl rfl (Nat.le_of_ble_eq_true rfl) (Nat.le_of_ble_eq_true rfl) ⟨Nat.le_of_ble_eq_true rfl, Nat.le_of_ble_eq_true rfl⟩ rfl (Nat.le_of_ble_eq_true rfl) dX7_taken_59 ?_
        rintro _ _ ⟨rfl, x59, rfl⟩
        show GW κ 0 0 (C τ59.1 τ59.2.1 τ59.2.2 x59) 62 [(3, .int (y44)), (0, .ref h0), (1, .int (z1)), (2, .int (z2))] []
        refine g_iload_n hX 0 rfl rfl dX7_taken_62 ?_
        refine g_aload_n hX 1 rfl rfl dX7_taken_63 ?_
        obtain ⟨y64, τ64, e64, h⟩ := ob_some h
        refine m_call hX hzo hC [] [.int (y44)] (ct_X7_allStanding _ _ _ _ hzo hC  τ59 _ x59 _ e64) kX7_allStanding tMet_X7_123 rfl rfl (Nat.le_of_ble_eq_true rfl) (Nat.le_of_ble_eq_true rfl) ⟨Nat.le_of_ble_eq_true rfl, Nat.le_of_ble_eq_true rfl⟩ rfl (Nat.le_of_ble_eq_true rfl) dX7_taken_64 ?_
        rintro _ _ ⟨rfl, x64, rfl⟩
        show GW κ 0 0 (C τ64.1 τ64.2.1 τ64.2.2 x64) 67 [(3, .int (y44)), (0, .ref h0), (1, .int (z1)), (2, .int (z2))] [.int (y64), .int (y44)]
        refine g_iconst hX (v := -1) (by decide) dX7_taken_67 ?_
        refine g_ixor hX dX7_taken_68 ?_
        refine g_iand hX dX7_taken_69 ?_
        refine g_iconst hX (v := nI 1) rfl dX7_taken_70 ?_
        refine g_iload_n hX 2 rfl rfl dX7_taken_71 ?_
        refine g_ishl hX dX7_taken_72 ?_
        refine g_iconst hX (v := -1) (by decide) dX7_taken_73 ?_
        refine g_ixor hX dX7_taken_74 ?_
        refine g_iand hX dX7_taken_75 ?_
        refine g_istore (lv2 := [(4, .int (((y44 &&& (y64 ^^^ (-1))) &&& ((nI 1 <<< (z1 &&& 31)) ^^^ (-1))))), (3, .int (y44)), (0, .ref h0), (1, .int (z1)), (2, .int (z2))]) hX 4 5 hN (by decide) rfl dX7_taken_76 ?_
        refine g_aload_n hX 2 rfl rfl dX7_taken_78 ?_
        obtain ⟨y79, τ79, e79, h⟩ := ob_some h
        refine m_call hX hzo hC [] [] (ct_X7_laysBack _ _ _ _ hzo hC  τ64 _ x64 _ e79) kX7_laysBack tMet_X7_187 rfl rfl (Nat.le_of_ble_eq_true rfl) (Nat.le_of_ble_eq_true rfl) ⟨Nat.le_of_ble_eq_true rfl, Nat.le_of_ble_eq_true rfl⟩ rfl (Nat.le_of_ble_eq_true rfl) dX7_taken_79 ?_
        rintro _ _ ⟨rfl, x79, rfl⟩
        show GW κ 0 0 (C τ79.1 τ79.2.1 τ79.2.2 x79) 82 [(4, .int (((y44 &&& (y64 ^^^ (-1))) &&& ((nI 1 <<< (z1 &&& 31)) ^^^ (-1))))), (3, .int (y44)), (0, .ref h0), (1, .int (z1)), (2, .int (z2))] []
        refine g_iload hX 0 rfl dX7_taken_82 ?_
        exact g_retiP hR ⟨by rw [oi_1 h], x79, by rw [← oi_2 h]⟩ dX7_taken_84
      · replace h := if_p b28 h
        refine g_ldc hX (v := -1000000002) (zu tCon_X7_152 rfl) dX7_taken_31 ?_
        exact g_retiP hR ⟨by rw [oi_1 h], x25, by rw [← oi_2 h]⟩ dX7_taken_33
    · replace h := if_p b17 h
      refine g_lv [] rfl ?_
      exact J20  τ2 x2 h
theorem kX7_propped : mKV RX7 yX7_propped cX7_propped 4 (some .int) 1 := ⟨tIns_X7_propped, tSel_X7_propped, tIni_X7, tCod_X7_propped, by decide +kernel⟩
set_option maxHeartbeats 4000000 in
set_option maxRecDepth 100000 in
theorem ct_X7_propped (l : Launch) (D : va_G) (cy : Nat → ClassId) (Z : (Nat → Prop) → State → Heap → Prop) (hzo : zOK Z) {h0 : Nat} {a q : Nat → Nat} {C : (Nat → Int32) → (Nat → Int32) → (Nat → Nat → Int32) → (Nat → Nat → Int32) → va_W} (hC : mLens (cy 0) h0 a q C) (z1 : Int32) (μ μ2 : Mg) (x : Nat → Nat → Int32) (res : Int32) (h : fn_X7_propped z1 μ = some (res, μ2)) : GM l D cy Z yX7_propped (zW yX7_propped cX7_propped 4 (some .int)) { frames := 7, cells := 0, slots := 0, locals := 165 } [.ref h0, .int (z1)] (C μ.1 μ.2.1 μ.2.2 x) (fun rs w2 => rs = some (.int res) ∧ ∃ x2, w2 = C μ2.1 μ2.2.1 μ2.2.2 x2) 0 0 := by
  refine g_entry (cc := cX7_propped) (maxL := 4) (by decide) rfl (Nat.le_of_ble_eq_true rfl) ?_
  intro κ hN hX hR
  have hX : GX κ cy Z cX7_propped (Cond.code yX7_propped cX7_propped 4 (some .int) :: zT) RX7 { frames := 7, cells := 0, slots := 0, locals := 165 } := hX
  have J103 : ∀ (μ : Mg) (x : Nat → Nat → Int32) , fn_X7_propped_L103 z1  μ = some (res, μ2) → GW κ 0 0 (C μ.1 μ.2.1 μ.2.2 x) 103 [] [] := by
    intro μ x h
    refine g_ldc hX (v := -1000000005) (zu tCon_X7_70 rfl) dX7_propped_103 ?_
    exact g_retiP hR ⟨by rw [oi_1 h], x, by rw [← oi_2 h]⟩ dX7_propped_105
  have J97 : ∀ (slf : Int32 → Mg → Option (Int32 × Mg)) (hslf : ∀ (v2 : Int32) (μ : Mg) (x : Nat → Nat → Int32) , slf v2 μ = some (res, μ2) → GW κ 0 0 (C μ.1 μ.2.1 μ.2.2 x) 31 [(0, .ref h0), (1, .int (z1)), (2, .int (v2))] []) (k103 : Mg → Option (Int32 × Mg)) (hk103 : ∀ (μ : Mg) (x : Nat → Nat → Int32) , k103  μ = some (res, μ2) → GW κ 0 0 (C μ.1 μ.2.1 μ.2.2 x) 103 [] []), ∀ (v2 : Int32) (μ : Mg) (x : Nat → Nat → Int32) , fn_X7_propped_L97 z1 slf k103 v2 μ = some (res, μ2) → GW κ 0 0 (C μ.1 μ.2.1 μ.2.2 x) 97 [(0, .ref h0), (1, .int (z1)), (2, .int (v2))] [] := by
    intro slf hslf k103 hk103 v2 μ x h
    refine g_iinc (v := (v2 + nI 1)) (lv2 := [(2, .int ((v2 + nI 1))), (0, .ref h0), (1, .int (z1))]) hX 2 2 4 hN rfl rfl (by decide) rfl dX7_propped_97 ?_
    refine g_goto hX 31 (by decide) dX7_propped_100 ?_
    refine g_lv [1, 2, 0] rfl ?_
    exact hslf ((v2 + nI 1)) μ x h
  have J91 : ∀ (slf : Int32 → Int32 → Mg → Option (Int32 × Mg)) (hslf : ∀ (v2 : Int32) (v3 : Int32) (μ : Mg) (x : Nat → Nat → Int32) , slf v2 v3 μ = some (res, μ2) → GW κ 0 0 (C μ.1 μ.2.1 μ.2.2 x) 39 [(0, .ref h0), (1, .int (z1)), (2, .int (v2)), (3, .int (v3))] []) (k97 : Int32 → Mg → Option (Int32 × Mg)) (hk97 : ∀ (v2 : Int32) (μ : Mg) (x : Nat → Nat → Int32) , k97 v2 μ = some (res, μ2) → GW κ 0 0 (C μ.1 μ.2.1 μ.2.2 x) 97 [(0, .ref h0), (1, .int (z1)), (2, .int (v2))] []), ∀ (v2 : Int32) (v3 : Int32) (μ : Mg) (x : Nat → Nat → Int32) , fn_X7_propped_L91 z1 slf k97 v2 v3 μ = some (res, μ2) → GW κ 0 0 (C μ.1 μ.2.1 μ.2.2 x) 91 [(0, .ref h0), (1, .int (z1)), (2, .int (v2)), (3, .int (v3))] [] := by
    intro slf hslf k97 hk97 v2 v3 μ x h
    refine g_iinc (v := (v3 + nI 1)) (lv2 := [(3, .int ((v3 + nI 1))), (0, .ref h0), (1, .int (z1)), (2, .int (v2))]) hX 3 3 4 hN rfl rfl (by decide) rfl dX7_propped_91 ?_
    refine g_goto hX 39 (by decide) dX7_propped_94 ?_
    refine g_lv [1, 2, 3, 0] rfl ?_
    exact hslf v2 ((v3 + nI 1)) μ x h
  have J39 : ∀ (k97 : Int32 → Mg → Option (Int32 × Mg)) (hk97 : ∀ (v2 : Int32) (μ : Mg) (x : Nat → Nat → Int32) , k97 v2 μ = some (res, μ2) → GW κ 0 0 (C μ.1 μ.2.1 μ.2.2 x) 97 [(0, .ref h0), (1, .int (z1)), (2, .int (v2))] []) (fuel : Nat), ∀ (v2 : Int32) (v3 : Int32) (μ : Mg) (x : Nat → Nat → Int32) , fn_X7_propped_L39 z1 k97 fuel v2 v3 μ = some (res, μ2) → GW κ 0 0 (C μ.1 μ.2.1 μ.2.2 x) 39 [(0, .ref h0), (1, .int (z1)), (2, .int (v2)), (3, .int (v3))] [] := by
    intro k97 hk97 fuel
    induction fuel with
    | zero => intro v2 v3 μ x h; cases (show none = some (res, μ2) from h)
    | succ fuel ih =>
      intro v2 v3 μ x h
      replace h : (if ¬ (nI 0 < 0 ∨ 3069 ≤ (nI 0).toNatClampNeg) then (if μ.2.1 (nI 0).toNatClampNeg ≤ v3 then (k97 v2 μ) else (ob (fn_X7_of v3 (nI 5) μ) (fun y52 τ52 => (if nI 9 < (y52 + v2) then ((fn_X7_propped_L91 z1 (fn_X7_propped_L39 z1 k97 fuel) k97) v2 v3 τ52) else (ob (fn_X7_of v3 (nI 5) τ52) (fun y68 τ68 => (ob (fn_X7_sets v3 (nI 5) ((y68 + v2)) τ68) (fun y73 τ73 => (ob (fn_X7_keeps z1 τ73) (fun y78 τ78 => (if y78 = 0 then ((fn_X7_propped_L91 z1 (fn_X7_propped_L39 z1 k97 fuel) k97) v2 v3 τ78) else some (((nI 10 * v3) + v2), τ78)))))))))))) else none) = some (res, μ2) := h
      refine g_iload_n hX 3 rfl rfl dX7_propped_39 ?_
      refine g_aload_n hX 0 rfl rfl dX7_propped_40 ?_
      refine m_getA hX hC 0 (by decide) rfl tFld_X7_7 dX7_propped_41 ?_
      refine g_iconst hX (v := nI 0) rfl dX7_propped_44 ?_
      obtain ⟨g1, h⟩ := gd_some h
      refine m0_ald hX hC g1 dX7_propped_45 ?_
      refine g_icmp_ge hX 97 (by decide) dX7_propped_46 (fun b46 => ?_) (fun b46 => ?_)
      · replace h := if_p b46 h
        refine g_lv [0, 1, 2] rfl ?_
        exact hk97 v2 μ x h
      · replace h := if_n b46 h
        refine g_aload_n hX 0 rfl rfl dX7_propped_49 ?_
        refine g_iload_n hX 3 rfl rfl dX7_propped_50 ?_
        refine g_iconst hX (v := nI 5) rfl dX7_propped_51 ?_
        obtain ⟨y52, τ52, e52, h⟩ := ob_some h
        refine m_call hX hzo hC [.int (v3), .int (nI 5)] [] (ct_X7_of _ _ _ _ hzo hC v3 (nI 5) μ _ x _ e52) kX7_of tMet_X7_75 rfl rfl (Nat.le_of_ble_eq_true rfl) (Nat.le_of_ble_eq_true rfl) ⟨Nat.le_of_ble_eq_true rfl, Nat.le_of_ble_eq_true rfl⟩ rfl (Nat.le_of_ble_eq_true rfl) dX7_propped_52 ?_
        rintro _ _ ⟨rfl, x52, rfl⟩
        show GW κ 0 0 (C τ52.1 τ52.2.1 τ52.2.2 x52) 55 [(0, .ref h0), (1, .int (z1)), (2, .int (v2)), (3, .int (v3))] [.int (y52)]
        refine g_iload_n hX 2 rfl rfl dX7_propped_55 ?_
        refine g_iadd hX dX7_propped_56 ?_
        refine g_bipush hX (v := nI 9) (by decide) dX7_propped_57 ?_
        refine g_icmp_gt hX 91 (by decide) dX7_propped_59 (fun b59 => ?_) (fun b59 => ?_)
        · replace h := if_p b59 h
          exact (J91 (fn_X7_propped_L39 z1 k97 fuel) ih k97 hk97) v2 v3 τ52 x52 h
        · replace h := if_n b59 h
          refine g_aload_n hX 0 rfl rfl dX7_propped_62 ?_
          refine g_iload_n hX 3 rfl rfl dX7_propped_63 ?_
          refine g_iconst hX (v := nI 5) rfl dX7_propped_64 ?_
          refine g_aload_n hX 0 rfl rfl dX7_propped_65 ?_
          refine g_iload_n hX 3 rfl rfl dX7_propped_66 ?_
          refine g_iconst hX (v := nI 5) rfl dX7_propped_67 ?_
          obtain ⟨y68, τ68, e68, h⟩ := ob_some h
          refine m_call hX hzo hC [.int (v3), .int (nI 5)] [.int (nI 5), .int (v3), .ref h0] (ct_X7_of _ _ _ _ hzo hC v3 (nI 5) τ52 _ x52 _ e68) kX7_of tMet_X7_75 rfl rfl (Nat.le_of_ble_eq_true rfl) (Nat.le_of_ble_eq_true rfl) ⟨Nat.le_of_ble_eq_true rfl, Nat.le_of_ble_eq_true rfl⟩ rfl (Nat.le_of_ble_eq_true rfl) dX7_propped_68 ?_
          rintro _ _ ⟨rfl, x68, rfl⟩
          show GW κ 0 0 (C τ68.1 τ68.2.1 τ68.2.2 x68) 71 [(0, .ref h0), (1, .int (z1)), (2, .int (v2)), (3, .int (v3))] [.int (y68), .int (nI 5), .int (v3), .ref h0]
          refine g_iload_n hX 2 rfl rfl dX7_propped_71 ?_
          refine g_iadd hX dX7_propped_72 ?_
          obtain ⟨y73, τ73, e73, h⟩ := ob_some h
          refine m_call hX hzo hC [.int (v3), .int (nI 5), .int ((y68 + v2))] [] (ct_X7_sets _ _ _ _ hzo hC v3 (nI 5) ((y68 + v2)) τ68 _ x68 _ e73) kX7_sets tMet_X7_80 rfl rfl (Nat.le_of_ble_eq_true rfl) (Nat.le_of_ble_eq_true rfl) ⟨Nat.le_of_ble_eq_true rfl, Nat.le_of_ble_eq_true rfl⟩ rfl (Nat.le_of_ble_eq_true rfl) dX7_propped_73 ?_
          rintro _ _ ⟨rfl, x73, rfl⟩
          show GW κ 0 0 (C τ73.1 τ73.2.1 τ73.2.2 x73) 76 [(0, .ref h0), (1, .int (z1)), (2, .int (v2)), (3, .int (v3))] []
          refine g_aload_n hX 0 rfl rfl dX7_propped_76 ?_
          refine g_iload_n hX 1 rfl rfl dX7_propped_77 ?_
          obtain ⟨y78, τ78, e78, h⟩ := ob_some h
          refine m_call hX hzo hC [.int (z1)] [] (ct_X7_keeps _ _ _ _ hzo hC z1 τ73 _ x73 _ e78) kX7_keeps tMet_X7_197 rfl rfl (Nat.le_of_ble_eq_true rfl) (Nat.le_of_ble_eq_true rfl) ⟨Nat.le_of_ble_eq_true rfl, Nat.le_of_ble_eq_true rfl⟩ rfl (Nat.le_of_ble_eq_true rfl) dX7_propped_78 ?_
          rintro _ _ ⟨rfl, x78, rfl⟩
          show GW κ 0 0 (C τ78.1 τ78.2.1 τ78.2.2 x78) 81 [(0, .ref h0), (1, .int (z1)), (2, .int (v2)), (3, .int (v3))] [.int (y78)]
          refine g_if_eq hX 91 (by decide) dX7_propped_81 (fun b81 => ?_) (fun b81 => ?_)
          · replace h := if_p b81 h
            exact (J91 (fn_X7_propped_L39 z1 k97 fuel) ih k97 hk97) v2 v3 τ78 x78 h
          · replace h := if_n b81 h
            refine g_bipush hX (v := nI 10) (by decide) dX7_propped_84 ?_
            refine g_iload_n hX 3 rfl rfl dX7_propped_86 ?_
            refine g_imul hX dX7_propped_87 ?_
            refine g_iload_n hX 2 rfl rfl dX7_propped_88 ?_
            refine g_iadd hX dX7_propped_89 ?_
            exact g_retiP hR ⟨by rw [oi_1 h], x78, by rw [← oi_2 h]⟩ dX7_propped_90
  have J31 : ∀ (k103 : Mg → Option (Int32 × Mg)) (hk103 : ∀ (μ : Mg) (x : Nat → Nat → Int32) , k103  μ = some (res, μ2) → GW κ 0 0 (C μ.1 μ.2.1 μ.2.2 x) 103 [] []) (fuel : Nat), ∀ (v2 : Int32) (μ : Mg) (x : Nat → Nat → Int32) , fn_X7_propped_L31 z1 k103 fuel v2 μ = some (res, μ2) → GW κ 0 0 (C μ.1 μ.2.1 μ.2.2 x) 31 [(0, .ref h0), (1, .int (z1)), (2, .int (v2))] [] := by
    intro k103 hk103 fuel
    induction fuel with
    | zero => intro v2 μ x h; cases (show none = some (res, μ2) from h)
    | succ fuel ih =>
      intro v2 μ x h
      replace h : (if nI 9 < v2 then (k103  μ) else ((fn_X7_propped_L39 z1 (fn_X7_propped_L97 z1 (fn_X7_propped_L31 z1 k103 fuel) k103) 4000) v2 (nI 0) μ)) = some (res, μ2) := h
      refine g_iload_n hX 2 rfl rfl dX7_propped_31 ?_
      refine g_bipush hX (v := nI 9) (by decide) dX7_propped_32 ?_
      refine g_icmp_gt hX 103 (by decide) dX7_propped_34 (fun b34 => ?_) (fun b34 => ?_)
      · replace h := if_p b34 h
        refine g_lv [] rfl ?_
        exact hk103  μ x h
      · replace h := if_n b34 h
        refine g_iconst hX (v := nI 0) rfl dX7_propped_37 ?_
        refine g_istore_n (lv2 := [(3, .int (nI 0)), (0, .ref h0), (1, .int (z1)), (2, .int (v2))]) hX 3 4 hN rfl (by decide) rfl dX7_propped_38 ?_
        refine g_lv [1, 2, 3, 0] rfl ?_
        exact (J39 (fn_X7_propped_L97 z1 (fn_X7_propped_L31 z1 k103 fuel) k103) (J97 (fn_X7_propped_L31 z1 k103 fuel) ih k103 hk103) 4000) v2 (nI 0) μ x h
  show GW κ 0 0 (C μ.1 μ.2.1 μ.2.2 x) 0 [(0, .ref h0), (1, .int (z1))] []
  refine g_iload_n hX 1 rfl rfl dX7_propped_0 ?_
  refine g_i2l hX dX7_propped_1 ?_
  refine g_lconst hX (v := Int32.toInt64 (1)) (by decide) dX7_propped_2 ?_
  refine g_ldc2 hX (v := Int32.toInt64 (40)) (zu tCoL_X7_195 rfl) dX7_propped_3 ?_
  refine s_call hX hzo [.long (Int32.toInt64 (z1)), .long (Int32.toInt64 ((1))), .long (Int32.toInt64 ((40)))] [] (c_isIn _ _ _ _ _ (z1) ((1)) ((40))) kX7_isIn tMet_X7_71 rfl rfl (Nat.le_of_ble_eq_true rfl) (Nat.le_of_ble_eq_true rfl) ⟨Nat.le_of_ble_eq_true rfl, Nat.le_of_ble_eq_true rfl⟩ rfl rfl (Nat.le_of_ble_eq_true rfl) dX7_propped_6 ?_
  refine g_if_ne hX 15 (by decide) dX7_propped_9 (fun b9 => ?_) (fun b9 => ?_)
  · replace h := if_n b9 h
    refine g_aload_n hX 0 rfl rfl dX7_propped_15 ?_
    obtain ⟨y16, τ16, e16, h⟩ := ob_some h
    refine m_call hX hzo hC [] [] (ct_X7_laysBy _ _ _ _ hzo hC  μ _ x _ e16) kX7_laysBy tMet_X7_181 rfl rfl (Nat.le_of_ble_eq_true rfl) (Nat.le_of_ble_eq_true rfl) ⟨Nat.le_of_ble_eq_true rfl, Nat.le_of_ble_eq_true rfl⟩ rfl (Nat.le_of_ble_eq_true rfl) dX7_propped_16 ?_
    rintro _ _ ⟨rfl, x16, rfl⟩
    show GW κ 0 0 (C τ16.1 τ16.2.1 τ16.2.2 x16) 19 [(0, .ref h0), (1, .int (z1))] []
    refine g_aload_n hX 0 rfl rfl dX7_propped_19 ?_
    refine g_iload_n hX 1 rfl rfl dX7_propped_20 ?_
    obtain ⟨y21, τ21, e21, h⟩ := ob_some h
    refine m_call hX hzo hC [.int (z1)] [] (ct_X7_keeps _ _ _ _ hzo hC z1 τ16 _ x16 _ e21) kX7_keeps tMet_X7_197 rfl rfl (Nat.le_of_ble_eq_true rfl) (Nat.le_of_ble_eq_true rfl) ⟨Nat.le_of_ble_eq_true rfl, Nat.le_of_ble_eq_true rfl⟩ rfl (Nat.le_of_ble_eq_true rfl) dX7_propped_21 ?_
    rintro _ _ ⟨rfl, x21, rfl⟩
    show GW κ 0 0 (C τ21.1 τ21.2.1 τ21.2.2 x21) 24 [(0, .ref h0), (1, .int (z1))] [.int (y21)]
    refine g_if_eq hX 29 (by decide) dX7_propped_24 (fun b24 => ?_) (fun b24 => ?_)
    · replace h := if_p b24 h
      refine g_iconst hX (v := nI 1) rfl dX7_propped_29 ?_
      refine g_istore_n (lv2 := [(2, .int (nI 1)), (0, .ref h0), (1, .int (z1))]) hX 2 4 hN rfl (by decide) rfl dX7_propped_30 ?_
      refine g_lv [1, 2, 0] rfl ?_
      exact (J31 (fn_X7_propped_L103 z1) J103 4000) (nI 1) τ21 x21 h
    · replace h := if_n b24 h
      refine g_iconst hX (v := nI 0) rfl dX7_propped_27 ?_
      exact g_retiP hR ⟨by rw [oi_1 h], x21, by rw [← oi_2 h]⟩ dX7_propped_28
  · replace h := if_p b9 h
    refine g_ldc hX (v := -1000000001) (zu tCon_X7_100 rfl) dX7_propped_12 ?_
    exact g_retiP hR ⟨by rw [oi_1 h], x, by rw [← oi_2 h]⟩ dX7_propped_14
theorem kX7_wall : mKV RX7 yX7_wall cX7_wall 7 (some .int) 2 := ⟨tIns_X7_wall, tSel_X7_wall, tIni_X7, tCod_X7_wall, by decide +kernel⟩
set_option maxHeartbeats 4000000 in
set_option maxRecDepth 100000 in
theorem ct_X7_wall (l : Launch) (D : va_G) (cy : Nat → ClassId) (Z : (Nat → Prop) → State → Heap → Prop) (hzo : zOK Z) {h0 : Nat} {a q : Nat → Nat} {C : (Nat → Int32) → (Nat → Int32) → (Nat → Nat → Int32) → (Nat → Nat → Int32) → va_W} (hC : mLens (cy 0) h0 a q C) (z1 : Int32) (z2 : Int32) (μ μ2 : Mg) (x : Nat → Nat → Int32) (res : Int32) (h : fn_X7_wall z1 z2 μ = some (res, μ2)) : GM l D cy Z yX7_wall (zW yX7_wall cX7_wall 7 (some .int)) { frames := 6, cells := 0, slots := 0, locals := 142 } [.ref h0, .int (z1), .int (z2)] (C μ.1 μ.2.1 μ.2.2 x) (fun rs w2 => rs = some (.int res) ∧ ∃ x2, w2 = C μ2.1 μ2.2.1 μ2.2.2 x2) 0 0 := by
  refine g_entry (cc := cX7_wall) (maxL := 7) (by decide) rfl (Nat.le_of_ble_eq_true rfl) ?_
  intro κ hN hX hR
  have hX : GX κ cy Z cX7_wall (Cond.code yX7_wall cX7_wall 7 (some .int) :: zT) RX7 { frames := 6, cells := 0, slots := 0, locals := 142 } := hX
  have J116 : ∀ (s0 : Int32) (μ : Mg) (x : Nat → Nat → Int32) , fn_X7_wall_L116 z1 z2 s0 μ = some (res, μ2) → GW κ 0 0 (C μ.1 μ.2.1 μ.2.2 x) 116 [] [.int (s0)] := by
    intro s0 μ x h
    exact g_retiP hR ⟨by rw [oi_1 h], x, by rw [← oi_2 h]⟩ dX7_wall_116
  have J97 : ∀ (v3 : Int32) (v4 : Int32) (μ : Mg) (x : Nat → Nat → Int32) , fn_X7_wall_L97 z1 z2 v3 v4 μ = some (res, μ2) → GW κ 0 0 (C μ.1 μ.2.1 μ.2.2 x) 97 [(2, .int (z2)), (3, .int (v3)), (4, .int (v4))] [] := by
    intro v3 v4 μ x h
    refine g_iload_n hX 1 rfl rfl dX7_wall_97 ?_
    refine g_if_ge hX 106 (by decide) dX7_wall_98 (fun b98 => ?_) (fun b98 => ?_)
    · replace h := if_p b98 h
      refine g_iload_n hX 0 rfl rfl dX7_wall_106 ?_
      refine g_if_ne hX 114 (by decide) dX7_wall_107 (fun b107 => ?_) (fun b107 => ?_)
      · replace h := if_n b107 h
        refine g_iload hX 2 rfl dX7_wall_114 ?_
        refine g_lv [] rfl ?_
        exact J116 v4 μ x h
      · replace h := if_p b107 h
        refine g_iload_n hX 1 rfl rfl dX7_wall_110 ?_
        refine g_goto hX 116 (by decide) dX7_wall_111 ?_
        refine g_lv [] rfl ?_
        exact J116 v3 μ x h
    · replace h := if_n b98 h
      refine g_ldc hX (v := -1000000005) (zu tCon_X7_70 rfl) dX7_wall_101 ?_
      refine g_goto hX 116 (by decide) dX7_wall_103 ?_
      refine g_lv [] rfl ?_
      exact J116 ((-1000000005)) μ x h
  have J91 : ∀ (slf : Int32 → Int32 → Int32 → Mg → Option (Int32 × Mg)) (hslf : ∀ (v3 : Int32) (v4 : Int32) (v5 : Int32) (μ : Mg) (x : Nat → Nat → Int32) , slf v3 v4 v5 μ = some (res, μ2) → GW κ 0 0 (C μ.1 μ.2.1 μ.2.2 x) 37 [(0, .ref h0), (1, .int (z1)), (2, .int (z2)), (3, .int (v3)), (4, .int (v4)), (5, .int (v5))] []) (k97 : Int32 → Int32 → Mg → Option (Int32 × Mg)) (hk97 : ∀ (v3 : Int32) (v4 : Int32) (μ : Mg) (x : Nat → Nat → Int32) , k97 v3 v4 μ = some (res, μ2) → GW κ 0 0 (C μ.1 μ.2.1 μ.2.2 x) 97 [(2, .int (z2)), (3, .int (v3)), (4, .int (v4))] []), ∀ (v3 : Int32) (v4 : Int32) (v5 : Int32) (μ : Mg) (x : Nat → Nat → Int32) , fn_X7_wall_L91 z1 z2 slf k97 v3 v4 v5 μ = some (res, μ2) → GW κ 0 0 (C μ.1 μ.2.1 μ.2.2 x) 91 [(0, .ref h0), (1, .int (z1)), (2, .int (z2)), (3, .int (v3)), (4, .int (v4)), (5, .int (v5))] [] := by
    intro slf hslf k97 hk97 v3 v4 v5 μ x h
    refine g_iinc (v := (v5 + nI 1)) (lv2 := [(5, .int ((v5 + nI 1))), (0, .ref h0), (1, .int (z1)), (2, .int (z2)), (3, .int (v3)), (4, .int (v4))]) hX 5 5 7 hN rfl rfl (by decide) rfl dX7_wall_91 ?_
    refine g_goto hX 37 (by decide) dX7_wall_94 ?_
    refine g_lv [1, 2, 3, 4, 5, 0] rfl ?_
    exact hslf v3 v4 ((v5 + nI 1)) μ x h
  have J84 : ∀ (slf : Int32 → Int32 → Int32 → Mg → Option (Int32 × Mg)) (hslf : ∀ (v3 : Int32) (v4 : Int32) (v5 : Int32) (μ : Mg) (x : Nat → Nat → Int32) , slf v3 v4 v5 μ = some (res, μ2) → GW κ 0 0 (C μ.1 μ.2.1 μ.2.2 x) 37 [(0, .ref h0), (1, .int (z1)), (2, .int (z2)), (3, .int (v3)), (4, .int (v4)), (5, .int (v5))] []) (k97 : Int32 → Int32 → Mg → Option (Int32 × Mg)) (hk97 : ∀ (v3 : Int32) (v4 : Int32) (μ : Mg) (x : Nat → Nat → Int32) , k97 v3 v4 μ = some (res, μ2) → GW κ 0 0 (C μ.1 μ.2.1 μ.2.2 x) 97 [(2, .int (z2)), (3, .int (v3)), (4, .int (v4))] []), ∀ (v5 : Int32) (v6 : Int32) (μ : Mg) (x : Nat → Nat → Int32) , fn_X7_wall_L84 z1 z2 slf k97 v5 v6 μ = some (res, μ2) → GW κ 0 0 (C μ.1 μ.2.1 μ.2.2 x) 84 [(0, .ref h0), (1, .int (z1)), (2, .int (z2)), (5, .int (v5)), (6, .int (v6))] [] := by
    intro slf hslf k97 hk97 v5 v6 μ x h
    refine g_iload hX 3 rfl dX7_wall_84 ?_
    refine g_istore_n (lv2 := [(3, .int (v5)), (0, .ref h0), (1, .int (z1)), (2, .int (z2)), (5, .int (v5)), (6, .int (v6))]) hX 3 7 hN rfl (by decide) rfl dX7_wall_86 ?_
    refine g_iload hX 5 rfl dX7_wall_87 ?_
    refine g_istore (lv2 := [(4, .int (v6)), (3, .int (v5)), (0, .ref h0), (1, .int (z1)), (2, .int (z2)), (5, .int (v5)), (6, .int (v6))]) hX 4 7 hN (by decide) rfl dX7_wall_89 ?_
    refine g_lv [2, 3, 4, 1, 0, 5] rfl ?_
    exact (J91 slf hslf k97 hk97) v5 v6 v5 μ x h
  have J37 : ∀ (k97 : Int32 → Int32 → Mg → Option (Int32 × Mg)) (hk97 : ∀ (v3 : Int32) (v4 : Int32) (μ : Mg) (x : Nat → Nat → Int32) , k97 v3 v4 μ = some (res, μ2) → GW κ 0 0 (C μ.1 μ.2.1 μ.2.2 x) 97 [(2, .int (z2)), (3, .int (v3)), (4, .int (v4))] []) (fuel : Nat), ∀ (v3 : Int32) (v4 : Int32) (v5 : Int32) (μ : Mg) (x : Nat → Nat → Int32) , fn_X7_wall_L37 z1 z2 k97 fuel v3 v4 v5 μ = some (res, μ2) → GW κ 0 0 (C μ.1 μ.2.1 μ.2.2 x) 37 [(0, .ref h0), (1, .int (z1)), (2, .int (z2)), (3, .int (v3)), (4, .int (v4)), (5, .int (v5))] [] := by
    intro k97 hk97 fuel
    induction fuel with
    | zero => intro v3 v4 v5 μ x h; cases (show none = some (res, μ2) from h)
    | succ fuel ih =>
      intro v3 v4 v5 μ x h
      replace h : (if ¬ (nI 0 < 0 ∨ 3069 ≤ (nI 0).toNatClampNeg) then (if μ.2.1 (nI 0).toNatClampNeg ≤ v5 then (k97 v3 v4 μ) else (ob (fn_X7_sets v5 (nI 3) (nI 0) μ) (fun y53 τ53 => (ob (fn_X7_goesOnMany z1 τ53) (fun y58 τ58 => (ob (fn_X7_allOf (nI 6) τ58) (fun y64 τ64 => (ob (fn_X7_laysBack  τ64) (fun y70 τ70 => (if v3 < 0 then ((fn_X7_wall_L84 z1 z2 (fn_X7_wall_L37 z1 z2 k97 fuel) k97) v5 y64 τ70) else (if y64 ≤ v4 then ((fn_X7_wall_L91 z1 z2 (fn_X7_wall_L37 z1 z2 k97 fuel) k97) v3 v4 v5 τ70) else ((fn_X7_wall_L84 z1 z2 (fn_X7_wall_L37 z1 z2 k97 fuel) k97) v5 y64 τ70)))))))))))) else none) = some (res, μ2) := h
      refine g_iload hX 5 rfl dX7_wall_37 ?_
      refine g_aload_n hX 0 rfl rfl dX7_wall_39 ?_
      refine m_getA hX hC 0 (by decide) rfl tFld_X7_7 dX7_wall_40 ?_
      refine g_iconst hX (v := nI 0) rfl dX7_wall_43 ?_
      obtain ⟨g1, h⟩ := gd_some h
      refine m0_ald hX hC g1 dX7_wall_44 ?_
      refine g_icmp_ge hX 97 (by decide) dX7_wall_45 (fun b45 => ?_) (fun b45 => ?_)
      · replace h := if_p b45 h
        refine g_lv [2, 3, 4] rfl ?_
        exact hk97 v3 v4 μ x h
      · replace h := if_n b45 h
        refine g_aload_n hX 0 rfl rfl dX7_wall_48 ?_
        refine g_iload hX 5 rfl dX7_wall_49 ?_
        refine g_iconst hX (v := nI 3) rfl dX7_wall_51 ?_
        refine g_iconst hX (v := nI 0) rfl dX7_wall_52 ?_
        obtain ⟨y53, τ53, e53, h⟩ := ob_some h
        refine m_call hX hzo hC [.int (v5), .int (nI 3), .int (nI 0)] [] (ct_X7_sets _ _ _ _ hzo hC v5 (nI 3) (nI 0) μ _ x _ e53) kX7_sets tMet_X7_80 rfl rfl (Nat.le_of_ble_eq_true rfl) (Nat.le_of_ble_eq_true rfl) ⟨Nat.le_of_ble_eq_true rfl, Nat.le_of_ble_eq_true rfl⟩ rfl (Nat.le_of_ble_eq_true rfl) dX7_wall_53 ?_
        rintro _ _ ⟨rfl, x53, rfl⟩
        show GW κ 0 0 (C τ53.1 τ53.2.1 τ53.2.2 x53) 56 [(0, .ref h0), (1, .int (z1)), (2, .int (z2)), (3, .int (v3)), (4, .int (v4)), (5, .int (v5))] []
        refine g_aload_n hX 0 rfl rfl dX7_wall_56 ?_
        refine g_iload_n hX 1 rfl rfl dX7_wall_57 ?_
        obtain ⟨y58, τ58, e58, h⟩ := ob_some h
        refine m_call hX hzo hC [.int (z1)] [] (ct_X7_goesOnMany _ _ _ _ hzo hC z1 τ53 _ x53 _ e58) kX7_goesOnMany tMet_X7_184 rfl rfl (Nat.le_of_ble_eq_true rfl) (Nat.le_of_ble_eq_true rfl) ⟨Nat.le_of_ble_eq_true rfl, Nat.le_of_ble_eq_true rfl⟩ rfl (Nat.le_of_ble_eq_true rfl) dX7_wall_58 ?_
        rintro _ _ ⟨rfl, x58, rfl⟩
        show GW κ 0 0 (C τ58.1 τ58.2.1 τ58.2.2 x58) 61 [(0, .ref h0), (1, .int (z1)), (2, .int (z2)), (3, .int (v3)), (4, .int (v4)), (5, .int (v5))] []
        refine g_aload_n hX 0 rfl rfl dX7_wall_61 ?_
        refine g_bipush hX (v := nI 6) (by decide) dX7_wall_62 ?_
        obtain ⟨y64, τ64, e64, h⟩ := ob_some h
        refine m_call hX hzo hC [.int (nI 6)] [] (ct_X7_allOf _ _ _ _ hzo hC (nI 6) τ58 _ x58 _ e64) kX7_allOf tMet_X7_175 rfl rfl (Nat.le_of_ble_eq_true rfl) (Nat.le_of_ble_eq_true rfl) ⟨Nat.le_of_ble_eq_true rfl, Nat.le_of_ble_eq_true rfl⟩ rfl (Nat.le_of_ble_eq_true rfl) dX7_wall_64 ?_
        rintro _ _ ⟨rfl, x64, rfl⟩
        show GW κ 0 0 (C τ64.1 τ64.2.1 τ64.2.2 x64) 67 [(0, .ref h0), (1, .int (z1)), (2, .int (z2)), (3, .int (v3)), (4, .int (v4)), (5, .int (v5))] [.int (y64)]
        refine g_istore (lv2 := [(6, .int (y64)), (0, .ref h0), (1, .int (z1)), (2, .int (z2)), (3, .int (v3)), (4, .int (v4)), (5, .int (v5))]) hX 6 7 hN (by decide) rfl dX7_wall_67 ?_
        refine g_aload_n hX 1 rfl rfl dX7_wall_69 ?_
        obtain ⟨y70, τ70, e70, h⟩ := ob_some h
        refine m_call hX hzo hC [] [] (ct_X7_laysBack _ _ _ _ hzo hC  τ64 _ x64 _ e70) kX7_laysBack tMet_X7_187 rfl rfl (Nat.le_of_ble_eq_true rfl) (Nat.le_of_ble_eq_true rfl) ⟨Nat.le_of_ble_eq_true rfl, Nat.le_of_ble_eq_true rfl⟩ rfl (Nat.le_of_ble_eq_true rfl) dX7_wall_70 ?_
        rintro _ _ ⟨rfl, x70, rfl⟩
        show GW κ 0 0 (C τ70.1 τ70.2.1 τ70.2.2 x70) 73 [(6, .int (y64)), (0, .ref h0), (1, .int (z1)), (2, .int (z2)), (3, .int (v3)), (4, .int (v4)), (5, .int (v5))] []
        refine g_iload_n hX 4 rfl rfl dX7_wall_73 ?_
        refine g_if_lt hX 84 (by decide) dX7_wall_74 (fun b74 => ?_) (fun b74 => ?_)
        · replace h := if_p b74 h
          refine g_lv [1, 2, 3, 6, 0] rfl ?_
          exact (J84 (fn_X7_wall_L37 z1 z2 k97 fuel) ih k97 hk97) v5 y64 τ70 x70 h
        · replace h := if_n b74 h
          refine g_iload hX 0 rfl dX7_wall_77 ?_
          refine g_iload hX 5 rfl dX7_wall_79 ?_
          refine g_icmp_le hX 91 (by decide) dX7_wall_81 (fun b81 => ?_) (fun b81 => ?_)
          · replace h := if_p b81 h
            refine g_lv [1, 2, 3, 4, 5, 6] rfl ?_
            exact (J91 (fn_X7_wall_L37 z1 z2 k97 fuel) ih k97 hk97) v3 v4 v5 τ70 x70 h
          · replace h := if_n b81 h
            refine g_lv [1, 2, 3, 6, 0] rfl ?_
            exact (J84 (fn_X7_wall_L37 z1 z2 k97 fuel) ih k97 hk97) v5 y64 τ70 x70 h
  have J22 : ∀ (μ : Mg) (x : Nat → Nat → Int32) , fn_X7_wall_L22 z1 z2  μ = some (res, μ2) → GW κ 0 0 (C μ.1 μ.2.1 μ.2.2 x) 22 [] [] := by
    intro μ x h
    refine g_ldc hX (v := -1000000001) (zu tCon_X7_100 rfl) dX7_wall_22 ?_
    exact g_retiP hR ⟨by rw [oi_1 h], x, by rw [← oi_2 h]⟩ dX7_wall_24
  show GW κ 0 0 (C μ.1 μ.2.1 μ.2.2 x) 0 [(0, .ref h0), (1, .int (z1)), (2, .int (z2))] []
  refine g_iload_n hX 1 rfl rfl dX7_wall_0 ?_
  refine g_i2l hX dX7_wall_1 ?_
  refine g_lconst hX (v := Int32.toInt64 (1)) (by decide) dX7_wall_2 ?_
  refine g_ldc2 hX (v := Int32.toInt64 (60)) (zu tCoL_X7_193 rfl) dX7_wall_3 ?_
  refine s_call hX hzo [.long (Int32.toInt64 (z1)), .long (Int32.toInt64 ((1))), .long (Int32.toInt64 ((60)))] [] (c_isIn _ _ _ _ _ (z1) ((1)) ((60))) kX7_isIn tMet_X7_71 rfl rfl (Nat.le_of_ble_eq_true rfl) (Nat.le_of_ble_eq_true rfl) ⟨Nat.le_of_ble_eq_true rfl, Nat.le_of_ble_eq_true rfl⟩ rfl rfl (Nat.le_of_ble_eq_true rfl) dX7_wall_6 ?_
  refine g_if_eq hX 22 (by decide) dX7_wall_9 (fun b9 => ?_) (fun b9 => ?_)
  · replace h := if_p b9 h
    refine g_lv [] rfl ?_
    exact J22  μ x h
  · replace h := if_n b9 h
    refine g_iload_n hX 2 rfl rfl dX7_wall_12 ?_
    refine g_i2l hX dX7_wall_13 ?_
    refine g_lconst hX (v := Int32.toInt64 (0)) (by decide) dX7_wall_14 ?_
    refine g_lconst hX (v := Int32.toInt64 (1)) (by decide) dX7_wall_15 ?_
    refine s_call hX hzo [.long (Int32.toInt64 (z2)), .long (Int32.toInt64 ((0))), .long (Int32.toInt64 ((1)))] [] (c_isIn _ _ _ _ _ (z2) ((0)) ((1))) kX7_isIn tMet_X7_71 rfl rfl (Nat.le_of_ble_eq_true rfl) (Nat.le_of_ble_eq_true rfl) ⟨Nat.le_of_ble_eq_true rfl, Nat.le_of_ble_eq_true rfl⟩ rfl rfl (Nat.le_of_ble_eq_true rfl) dX7_wall_16 ?_
    refine g_if_ne hX 25 (by decide) dX7_wall_19 (fun b19 => ?_) (fun b19 => ?_)
    · replace h := if_n b19 h
      refine g_aload_n hX 0 rfl rfl dX7_wall_25 ?_
      obtain ⟨y26, τ26, e26, h⟩ := ob_some h
      refine m_call hX hzo hC [] [] (ct_X7_laysBy _ _ _ _ hzo hC  μ _ x _ e26) kX7_laysBy tMet_X7_181 rfl rfl (Nat.le_of_ble_eq_true rfl) (Nat.le_of_ble_eq_true rfl) ⟨Nat.le_of_ble_eq_true rfl, Nat.le_of_ble_eq_true rfl⟩ rfl (Nat.le_of_ble_eq_true rfl) dX7_wall_26 ?_
      rintro _ _ ⟨rfl, x26, rfl⟩
      show GW κ 0 0 (C τ26.1 τ26.2.1 τ26.2.2 x26) 29 [(0, .ref h0), (1, .int (z1)), (2, .int (z2))] []
      refine g_iconst hX (v := -1) (by decide) dX7_wall_29 ?_
      refine g_istore_n (lv2 := [(3, .int ((-1))), (0, .ref h0), (1, .int (z1)), (2, .int (z2))]) hX 3 7 hN rfl (by decide) rfl dX7_wall_30 ?_
      refine g_iconst hX (v := nI 0) rfl dX7_wall_31 ?_
      refine g_istore (lv2 := [(4, .int (nI 0)), (3, .int ((-1))), (0, .ref h0), (1, .int (z1)), (2, .int (z2))]) hX 4 7 hN (by decide) rfl dX7_wall_32 ?_
      refine g_iconst hX (v := nI 0) rfl dX7_wall_34 ?_
      refine g_istore (lv2 := [(5, .int (nI 0)), (4, .int (nI 0)), (3, .int ((-1))), (0, .ref h0), (1, .int (z1)), (2, .int (z2))]) hX 5 7 hN (by decide) rfl dX7_wall_35 ?_
      refine g_lv [3, 4, 5, 2, 1, 0] rfl ?_
      exact (J37 (fn_X7_wall_L97 z1 z2) J97 4000) ((-1)) (nI 0) (nI 0) τ26 x26 h
    · replace h := if_p b19 h
      refine g_lv [] rfl ?_
      exact J22  μ x h
theorem kX7_snows : mKV RX7 yX7_snows cX7_snows 3 (some .int) 1 := ⟨tIns_X7_snows, tSel_X7_snows, tIni_X7, tCod_X7_snows, by decide +kernel⟩
set_option maxHeartbeats 4000000 in
set_option maxRecDepth 100000 in
theorem ct_X7_snows (l : Launch) (D : va_G) (cy : Nat → ClassId) (Z : (Nat → Prop) → State → Heap → Prop) (hzo : zOK Z) {h0 : Nat} {a q : Nat → Nat} {C : (Nat → Int32) → (Nat → Int32) → (Nat → Nat → Int32) → (Nat → Nat → Int32) → va_W} (hC : mLens (cy 0) h0 a q C) (z1 : Int32) (μ μ2 : Mg) (x : Nat → Nat → Int32) (res : Int32) (h : fn_X7_snows z1 μ = some (res, μ2)) : GM l D cy Z yX7_snows (zW yX7_snows cX7_snows 3 (some .int)) { frames := 7, cells := 0, slots := 0, locals := 165 } [.ref h0, .int (z1)] (C μ.1 μ.2.1 μ.2.2 x) (fun rs w2 => rs = some (.int res) ∧ ∃ x2, w2 = C μ2.1 μ2.2.1 μ2.2.2 x2) 0 0 := by
  refine g_entry (cc := cX7_snows) (maxL := 3) (by decide) rfl (Nat.le_of_ble_eq_true rfl) ?_
  intro κ hN hX hR
  have hX : GX κ cy Z cX7_snows (Cond.code yX7_snows cX7_snows 3 (some .int) :: zT) RX7 { frames := 7, cells := 0, slots := 0, locals := 165 } := hX
  have J49 : ∀ (μ : Mg) (x : Nat → Nat → Int32) , fn_X7_snows_L49 z1  μ = some (res, μ2) → GW κ 0 0 (C μ.1 μ.2.1 μ.2.2 x) 49 [] [] := by
    intro μ x h
    refine g_ldc hX (v := -1000000005) (zu tCon_X7_70 rfl) dX7_snows_49 ?_
    exact g_retiP hR ⟨by rw [oi_1 h], x, by rw [← oi_2 h]⟩ dX7_snows_51
  have J22 : ∀ (k49 : Mg → Option (Int32 × Mg)) (hk49 : ∀ (μ : Mg) (x : Nat → Nat → Int32) , k49  μ = some (res, μ2) → GW κ 0 0 (C μ.1 μ.2.1 μ.2.2 x) 49 [] []) (fuel : Nat), ∀ (v2 : Int32) (μ : Mg) (x : Nat → Nat → Int32) , fn_X7_snows_L22 z1 k49 fuel v2 μ = some (res, μ2) → GW κ 0 0 (C μ.1 μ.2.1 μ.2.2 x) 22 [(0, .ref h0), (1, .int (z1)), (2, .int (v2))] [] := by
    intro k49 hk49 fuel
    induction fuel with
    | zero => intro v2 μ x h; cases (show none = some (res, μ2) from h)
    | succ fuel ih =>
      intro v2 μ x h
      replace h : (if v2 < 0 then (k49  μ) else (if ¬ (nI 4 < 0 ∨ 3069 ≤ (nI 4).toNatClampNeg) then (ob (fn_X7_keeps z1 ((μ.1, upd μ.2.1 (nI 4).toNatClampNeg v2, μ.2.2))) (fun y35 τ35 => (if y35 = 0 then ((fn_X7_snows_L22 z1 k49 fuel) ((v2 + (-1))) τ35) else some (v2, τ35)))) else none)) = some (res, μ2) := h
      refine g_iload_n hX 2 rfl rfl dX7_snows_22 ?_
      refine g_if_lt hX 49 (by decide) dX7_snows_23 (fun b23 => ?_) (fun b23 => ?_)
      · replace h := if_p b23 h
        refine g_lv [] rfl ?_
        exact hk49  μ x h
      · replace h := if_n b23 h
        refine g_aload_n hX 0 rfl rfl dX7_snows_26 ?_
        refine m_getA hX hC 0 (by decide) rfl tFld_X7_7 dX7_snows_27 ?_
        refine g_iconst hX (v := nI 4) rfl dX7_snows_30 ?_
        refine g_iload_n hX 2 rfl rfl dX7_snows_31 ?_
        obtain ⟨g1, h⟩ := gd_some h
        refine m0_ast hX hC g1 dX7_snows_32 ?_
        refine g_aload_n hX 0 rfl rfl dX7_snows_33 ?_
        refine g_iload_n hX 1 rfl rfl dX7_snows_34 ?_
        obtain ⟨y35, τ35, e35, h⟩ := ob_some h
        refine m_call hX hzo hC [.int (z1)] [] (ct_X7_keeps _ _ _ _ hzo hC z1 ((μ.1, upd μ.2.1 (nI 4).toNatClampNeg v2, μ.2.2)) _ x _ e35) kX7_keeps tMet_X7_197 rfl rfl (Nat.le_of_ble_eq_true rfl) (Nat.le_of_ble_eq_true rfl) ⟨Nat.le_of_ble_eq_true rfl, Nat.le_of_ble_eq_true rfl⟩ rfl (Nat.le_of_ble_eq_true rfl) dX7_snows_35 ?_
        rintro _ _ ⟨rfl, x35, rfl⟩
        show GW κ 0 0 (C τ35.1 τ35.2.1 τ35.2.2 x35) 38 [(0, .ref h0), (1, .int (z1)), (2, .int (v2))] [.int (y35)]
        refine g_if_eq hX 43 (by decide) dX7_snows_38 (fun b38 => ?_) (fun b38 => ?_)
        · replace h := if_p b38 h
          refine g_iinc (v := (v2 + (-1))) (lv2 := [(2, .int ((v2 + (-1)))), (0, .ref h0), (1, .int (z1))]) hX 2 2 3 hN rfl (by rw [show Int32.ofInt (-1) = (-1 : Int32) from by decide]) (by decide) rfl dX7_snows_43 ?_
          refine g_goto hX 22 (by decide) dX7_snows_46 ?_
          refine g_lv [1, 2, 0] rfl ?_
          exact ih ((v2 + (-1))) τ35 x35 h
        · replace h := if_n b38 h
          refine g_iload_n hX 2 rfl rfl dX7_snows_41 ?_
          exact g_retiP hR ⟨by rw [oi_1 h], x35, by rw [← oi_2 h]⟩ dX7_snows_42
  show GW κ 0 0 (C μ.1 μ.2.1 μ.2.2 x) 0 [(0, .ref h0), (1, .int (z1))] []
  refine g_iload_n hX 1 rfl rfl dX7_snows_0 ?_
  refine g_i2l hX dX7_snows_1 ?_
  refine g_lconst hX (v := Int32.toInt64 (1)) (by decide) dX7_snows_2 ?_
  refine g_ldc2 hX (v := Int32.toInt64 (60)) (zu tCoL_X7_193 rfl) dX7_snows_3 ?_
  refine s_call hX hzo [.long (Int32.toInt64 (z1)), .long (Int32.toInt64 ((1))), .long (Int32.toInt64 ((60)))] [] (c_isIn _ _ _ _ _ (z1) ((1)) ((60))) kX7_isIn tMet_X7_71 rfl rfl (Nat.le_of_ble_eq_true rfl) (Nat.le_of_ble_eq_true rfl) ⟨Nat.le_of_ble_eq_true rfl, Nat.le_of_ble_eq_true rfl⟩ rfl rfl (Nat.le_of_ble_eq_true rfl) dX7_snows_6 ?_
  refine g_if_ne hX 15 (by decide) dX7_snows_9 (fun b9 => ?_) (fun b9 => ?_)
  · replace h := if_n b9 h
    refine g_aload_n hX 0 rfl rfl dX7_snows_15 ?_
    obtain ⟨y16, τ16, e16, h⟩ := ob_some h
    refine m_call hX hzo hC [] [] (ct_X7_laysBy _ _ _ _ hzo hC  μ _ x _ e16) kX7_laysBy tMet_X7_181 rfl rfl (Nat.le_of_ble_eq_true rfl) (Nat.le_of_ble_eq_true rfl) ⟨Nat.le_of_ble_eq_true rfl, Nat.le_of_ble_eq_true rfl⟩ rfl (Nat.le_of_ble_eq_true rfl) dX7_snows_16 ?_
    rintro _ _ ⟨rfl, x16, rfl⟩
    show GW κ 0 0 (C τ16.1 τ16.2.1 τ16.2.2 x16) 19 [(0, .ref h0), (1, .int (z1))] []
    refine g_bipush hX (v := nI 20) (by decide) dX7_snows_19 ?_
    refine g_istore_n (lv2 := [(2, .int (nI 20)), (0, .ref h0), (1, .int (z1))]) hX 2 3 hN rfl (by decide) rfl dX7_snows_21 ?_
    refine g_lv [1, 2, 0] rfl ?_
    exact (J22 (fn_X7_snows_L49 z1) J49 4000) (nI 20) τ16 x16 h
  · replace h := if_p b9 h
    refine g_ldc hX (v := -1000000001) (zu tCon_X7_100 rfl) dX7_snows_12 ?_
    exact g_retiP hR ⟨by rw [oi_1 h], x, by rw [← oi_2 h]⟩ dX7_snows_14
