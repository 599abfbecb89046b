def fn_X6_fits_L23 (z0 : Int32) (z1 : Int32) (s0 : Int32) : Option Int32 := (if s0 = 0 ∨ s0 = 1 then some s0 else none)
def fn_X6_fits_L22 (z0 : Int32) (z1 : Int32)  : Option Int32 := ((fn_X6_fits_L23 z0 z1) (nI 0))
def fn_X6_fits (z0 : Int32) (z1 : Int32) : Option Int32 := (if ¬ (z0 < 0 ∨ 6 ≤ z0.toNatClampNeg) then (if z1 < tabLEAST z0.toNatClampNeg then ((fn_X6_fits_L22 z0 z1) ) else (if tabMOST z0.toNatClampNeg < z1 then ((fn_X6_fits_L22 z0 z1) ) else ((fn_X6_fits_L23 z0 z1) (nI 1)))) else none)
def fn_X6_isKind_L15 (z0 : Int32) (s0 : Int32) : Option Int32 := (if s0 = 0 ∨ s0 = 1 then some s0 else none)
def fn_X6_isKind_L14 (z0 : Int32)  : Option Int32 := ((fn_X6_isKind_L15 z0) (nI 0))
def fn_X6_isKind (z0 : Int32) : Option Int32 := (if z0 < 0 then ((fn_X6_isKind_L14 z0) ) else (if nI 6 ≤ z0 then ((fn_X6_isKind_L14 z0) ) else ((fn_X6_isKind_L15 z0) (nI 1))))
def fn_X6_isSheet_L14 (z0 : Int32) (s0 : Int32) : Option Int32 := (if s0 = 0 ∨ s0 = 1 then some s0 else none)
def fn_X6_isSheet_L13 (z0 : Int32)  : Option Int32 := ((fn_X6_isSheet_L14 z0) (nI 0))
def fn_X6_isSheet (z0 : Int32) : Option Int32 := (if z0 < 0 then ((fn_X6_isSheet_L13 z0) ) else (if nI 4 ≤ z0 then ((fn_X6_isSheet_L13 z0) ) else ((fn_X6_isSheet_L14 z0) (nI 1))))
def fn_X6_isSlot_L14 (z0 : Int32) (s0 : Int32) : Option Int32 := (if s0 = 0 ∨ s0 = 1 then some s0 else none)
def fn_X6_isSlot_L13 (z0 : Int32)  : Option Int32 := ((fn_X6_isSlot_L14 z0) (nI 0))
def fn_X6_isSlot (z0 : Int32) : Option Int32 := (if z0 < 0 then ((fn_X6_isSlot_L13 z0) ) else (if nI 5 ≤ z0 then ((fn_X6_isSlot_L13 z0) ) else ((fn_X6_isSlot_L14 z0) (nI 1))))
def fn_X6_isHouse_L20 (ε : Ev) (z1 : Int32) (s0 : Int32) (σ : Sg) : Option (Int32 × Sg) := (if s0 = 0 ∨ s0 = 1 then some (s0, σ) else none)
def fn_X6_isHouse_L19 (ε : Ev) (z1 : Int32)  (σ : Sg) : Option (Int32 × Sg) := ((fn_X6_isHouse_L20 ε z1) (nI 0) σ)
def fn_X6_isHouse (ε : Ev) (z1 : Int32) (σ : Sg) : Option (Int32 × Sg) := (if z1 < 0 then ((fn_X6_isHouse_L19 ε z1)  σ) else (if σ.1 16 6 ≤ z1 then ((fn_X6_isHouse_L19 ε z1)  σ) else ((fn_X6_isHouse_L20 ε z1) (nI 1) σ)))
def fn_X6_thinkOf (ε : Ev) (c1 : Nat) (σ : Sg) : Option (Nat × Sg) := (ob (fn_X4_beLike ε 48 c1 σ) (fun y5 τ5 => some (48, τ5)))
def fn_X6_thinkWithoutWall (ε : Ev) (z1 : Int32) (z2 : Int32) (σ : Sg) : Option (Unit × Sg) := (ob (fn_X6_thinkOf ε 16 σ) (fun y5 τ5 => (if isX4 y5 then (if ¬ (z1 < 0 ∨ 9 ≤ z1.toNatClampNeg) then (ob (fn_X4_goOn ε 48 z2 (pI τ5 (y5 + 7 + z1.toNatClampNeg) 3 (nI 0))) (fun y22 τ22 => some ((), τ22))) else none) else none)))
def fn_X6_isEnough_L62 (ε : Ev) (z1 : Int32) (z2 : Int32) (z3 : Int32) (s0 : Int32) (σ : Sg) : Option (Int32 × Sg) := (if s0 = 0 ∨ s0 = 1 then some (s0, σ) else none)
def fn_X6_isEnough (ε : Ev) (z1 : Int32) (z2 : Int32) (z3 : Int32) (σ : Sg) : Option (Int32 × Sg) := (if ¬ (z1 < 0 ∨ 9 ≤ z1.toNatClampNeg) then (if ¬ (nI 5 < 0 ∨ 6 ≤ (nI 5).toNatClampNeg) then (if (σ.1 (23 + z1.toNatClampNeg) 5 + z2) ≤ tabMOST (nI 5).toNatClampNeg then (ob (fn_X6_thinkOf ε 16 σ) (fun y29 τ29 => (if isX4 y29 then (ob (fn_X4_firstFall ε 48 z3 (pI τ29 (y29 + 7 + z1.toNatClampNeg) 5 ((τ29.1 (y29 + 7 + z1.toNatClampNeg) 5 + z2)))) (fun y51 τ51 => (if y51 = 0 then ((fn_X6_isEnough_L62 ε z1 z2 z3) (nI 1) τ51) else ((fn_X6_isEnough_L62 ε z1 z2 z3) (nI 0) τ51)))) else none))) else some (nI 0, σ)) else none) else none)
def fn_X6_house_L33 (ε : Ev) (z1 : Int32) (z2 : Int32) (z3 : Int32) (z4 : Int32)  (σ : Sg) : Option (Int32 × Sg) := some ((-1000000001), σ)
def fn_X6_house (ε : Ev) (z1 : Int32) (z2 : Int32) (z3 : Int32) (z4 : Int32) (σ : Sg) : Option (Int32 × Sg) := (o1 (fn_X6_fits (nI 0) z1) (fun y2 => (if y2 = 0 then ((fn_X6_house_L33 ε z1 z2 z3 z4)  σ) else (o1 (fn_X6_fits (nI 1) z2) (fun y10 => (if y10 = 0 then ((fn_X6_house_L33 ε z1 z2 z3 z4)  σ) else (o1 (fn_X6_fits (nI 2) z3) (fun y18 => (if y18 = 0 then ((fn_X6_house_L33 ε z1 z2 z3 z4)  σ) else (o1 (fn_X6_fits (nI 3) z4) (fun y27 => (if y27 = 0 then ((fn_X6_house_L33 ε z1 z2 z3 z4)  σ) else (if σ.1 16 6 < nI 9 then (ob (fn_X4_build ε 16 z1 z2 z3 z4 σ) (fun y60 τ60 => some ((τ60.1 16 6 - nI 1), τ60))) else some ((-1000000003), σ))))))))))))))
def fn_X6_told_L80 (ε : Ev) (z1 : Int32) (z2 : Int32) (s0 : Int32) (σ : Sg) : Option (Int32 × Sg) := some (s0, σ)
def fn_X6_told_L18 (ε : Ev) (z1 : Int32) (z2 : Int32)  (σ : Sg) : Option (Int32 × Sg) := some ((-1000000001), σ)
def fn_X6_told (ε : Ev) (z1 : Int32) (z2 : Int32) (σ : Sg) : Option (Int32 × Sg) := (ob (fn_X6_isHouse ε z1 σ) (fun y2 τ2 => (if y2 = 0 then ((fn_X6_told_L18 ε z1 z2)  τ2) else (if z2 < 0 then ((fn_X6_told_L18 ε z1 z2)  τ2) else (if z2 ≤ nI 10 then (if ¬ (z1 < 0 ∨ 9 ≤ z1.toNatClampNeg) then (if z2 = nI 6 then (if τ2.1 (23 + z1.toNatClampNeg) 6 = 0 then ((fn_X6_told_L80 ε z1 z2) (nI 0) τ2) else ((fn_X6_told_L80 ε z1 z2) (nI 1) τ2)) else (if z2 = nI 7 then (ob (fn_X4_pushOf ε 16 (23 + z1.toNatClampNeg) τ2) (fun y86 τ86 => some (y86, τ86))) else (if z2 = nI 8 then (ob (fn_X0_bearing ε (23 + z1.toNatClampNeg) τ2) (fun y91 τ91 => some (y91, τ91))) else (if z2 = nI 9 then (ob (fn_X4_workOutThrusts ε 16 τ2) (fun y99 τ99 => some (τ99.1 20 z1.toNatClampNeg, τ99))) else (if z2 = nI 10 then (ob (fn_X0_worth ε (23 + z1.toNatClampNeg) τ2) (fun y113 τ113 => some (y113, τ113))) else (ob (fn_X0_part ε (23 + z1.toNatClampNeg) z2 τ2) (fun y119 τ119 => some (y119, τ119)))))))) else none) else ((fn_X6_told_L18 ε z1 z2)  τ2))))))
def fn_X6_as_L51 (ε : Ev) (z1 : Int32) (z2 : Int32) (s0 : Int32) (σ : Sg) : Option (Int32 × Sg) := some (s0, σ)
def fn_X6_as_L15 (ε : Ev) (z1 : Int32) (z2 : Int32)  (σ : Sg) : Option (Int32 × Sg) := some ((-1000000001), σ)
def fn_X6_as (ε : Ev) (z1 : Int32) (z2 : Int32) (σ : Sg) : Option (Int32 × Sg) := (ob (fn_X6_isHouse ε z1 σ) (fun y2 τ2 => (if y2 = 0 then ((fn_X6_as_L15 ε z1 z2)  τ2) else (o1 (fn_X6_isKind z2) (fun y9 => (if y9 = 0 then ((fn_X6_as_L15 ε z1 z2)  τ2) else (if ¬ (z1 < 0 ∨ 9 ≤ z1.toNatClampNeg) then (ob (fn_X0_isOf ε (23 + z1.toNatClampNeg) z2 τ2) (fun y28 τ28 => (if y28 = 0 then ((fn_X6_as_L51 ε z1 z2) ((-1000000012)) τ28) else ((fn_X6_as_L51 ε z1 z2) (τ28.1 (23 + z1.toNatClampNeg) 3) τ28)))) else none)))))))
def fn_X6_turns_L15 (ε : Ev) (z1 : Int32) (z2 : Int32)  (σ : Sg) : Option (Int32 × Sg) := some ((-1000000001), σ)
def fn_X6_turns (ε : Ev) (z1 : Int32) (z2 : Int32) (σ : Sg) : Option (Int32 × Sg) := (ob (fn_X6_isHouse ε z1 σ) (fun y2 τ2 => (if y2 = 0 then ((fn_X6_turns_L15 ε z1 z2)  τ2) else (o1 (fn_X6_isKind z2) (fun y9 => (if y9 = 0 then ((fn_X6_turns_L15 ε z1 z2)  τ2) else (if ¬ (z1 < 0 ∨ 9 ≤ z1.toNatClampNeg) then some (τ2.1 (23 + z1.toNatClampNeg) 0, pI τ2 (23 + z1.toNatClampNeg) 0 z2) else none)))))))
def fn_X6_set_L26 (ε : Ev) (z1 : Int32) (z2 : Int32) (z3 : Int32)  (σ : Sg) : Option (Int32 × Sg) := some ((-1000000001), σ)
def fn_X6_set (ε : Ev) (z1 : Int32) (z2 : Int32) (z3 : Int32) (σ : Sg) : Option (Int32 × Sg) := (ob (fn_X6_isHouse ε z1 σ) (fun y2 τ2 => (if y2 = 0 then ((fn_X6_set_L26 ε z1 z2 z3)  τ2) else (if z2 < nI 1 then ((fn_X6_set_L26 ε z1 z2 z3)  τ2) else (if nI 5 < z2 then ((fn_X6_set_L26 ε z1 z2 z3)  τ2) else (o1 (fn_X6_fits z2 z3) (fun y20 => (if y20 = 0 then ((fn_X6_set_L26 ε z1 z2 z3)  τ2) else (if ¬ (z1 < 0 ∨ 9 ≤ z1.toNatClampNeg) then (ob (fn_X0_part ε (23 + z1.toNatClampNeg) z2 τ2) (fun y39 τ39 => (ob (fn_X0_becomes ε (23 + z1.toNatClampNeg) z2 z3 τ39) (fun y55 τ55 => some (y39, τ55))))) else none)))))))))
def fn_X6_fells (ε : Ev) (z1 : Int32) (σ : Sg) : Option (Int32 × Sg) := (ob (fn_X6_isHouse ε z1 σ) (fun y2 τ2 => (if y2 = 0 then some ((-1000000001), τ2) else (if ¬ (z1 < 0 ∨ 9 ≤ z1.toNatClampNeg) then (if τ2.1 (23 + z1.toNatClampNeg) 6 = 0 then some ((-1000000002), τ2) else (ob (fn_X0_fall ε (23 + z1.toNatClampNeg) τ2) (fun y38 τ38 => (ob (fn_X4_howManyStand ε 16 τ38) (fun y45 τ45 => some (y45, τ45)))))) else none))))
def fn_X6_raises (ε : Ev) (z1 : Int32) (σ : Sg) : Option (Int32 × Sg) := (ob (fn_X6_isHouse ε z1 σ) (fun y2 τ2 => (if y2 = 0 then some ((-1000000001), τ2) else (if ¬ (z1 < 0 ∨ 9 ≤ z1.toNatClampNeg) then (if τ2.1 (23 + z1.toNatClampNeg) 6 = 0 then (ob (fn_X0_rise ε (23 + z1.toNatClampNeg) τ2) (fun y38 τ38 => (ob (fn_X4_howManyStand ε 16 τ38) (fun y45 τ45 => some (y45, τ45))))) else some ((-1000000002), τ2)) else none))))
def fn_X6_snow_L12 (ε : Ev) (z1 : Int32)  (σ : Sg) : Option (Int32 × Sg) := some ((-1000000001), σ)
def fn_X6_snow (ε : Ev) (z1 : Int32) (σ : Sg) : Option (Int32 × Sg) := (if z1 < (-20) then ((fn_X6_snow_L12 ε z1)  σ) else (if z1 ≤ nI 20 then some (σ.1 16 8, pI σ 16 8 z1) else ((fn_X6_snow_L12 ε z1)  σ)))
def fn_X6_deal_L49 (ε : Ev) (z1 : Int32) (v2 : Int32) (σ : Sg) : Option (Int32 × Sg) := some (v2, σ)
def fn_X6_deal_L31 (ε : Ev) (z1 : Int32) (k49 : Int32 → Sg → Option (Int32 × Sg)) : Nat → Int32 → Int32 → Sg → Option (Int32 × Sg)
  | 0 => fun _ _ _ => none
  | fuel + 1 => fun (v2 : Int32) (v3 : Int32) (σ : Sg) => (if v2 ≤ v3 then (k49 v2 σ) else (ob (fn_X4_buildByLot ε 16 σ) (fun y40 τ40 => ((fn_X6_deal_L31 ε z1 k49 fuel) v2 ((v3 + nI 1)) τ40))))
def fn_X6_deal_L11 (ε : Ev) (z1 : Int32)  (σ : Sg) : Option (Int32 × Sg) := some ((-1000000001), σ)
def fn_X6_deal (ε : Ev) (z1 : Int32) (σ : Sg) : Option (Int32 × Sg) := (if z1 < nI 1 then ((fn_X6_deal_L11 ε z1)  σ) else (if z1 ≤ nI 9 then ((fn_X6_deal_L31 ε z1 (fn_X6_deal_L49 ε z1) 4000) ((mnI z1 ((nI 9 - σ.1 16 6)))) (nI 0) σ) else ((fn_X6_deal_L11 ε z1)  σ)))
def fn_X6_seed (ε : Ev) (z1 : Int32) (σ : Sg) : Option (Int32 × Sg) := some (σ.1 16 11, pI σ 16 11 z1)
def fn_X6_days_L11 (ε : Ev) (z1 : Int32)  (σ : Sg) : Option (Int32 × Sg) := some ((-1000000001), σ)
def fn_X6_days (ε : Ev) (z1 : Int32) (σ : Sg) : Option (Int32 × Sg) := (if z1 < nI 1 then ((fn_X6_days_L11 ε z1)  σ) else (if z1 ≤ nI 100 then (ob (fn_X4_howManyStand ε 16 σ) (fun y18 τ18 => (ob (fn_X4_goOn ε 16 ((mnI z1 ((nI 9999 - τ18.1 16 10)))) τ18) (fun y41 τ41 => (ob (fn_X4_howManyStand ε 16 τ41) (fun y49 τ49 => some ((y18 - y49), τ49))))))) else ((fn_X6_days_L11 ε z1)  σ)))
def fn_X6_street (ε : Ev) (z1 : Int32) (σ : Sg) : Option (Int32 × Sg) := (if z1 = nI 0 then some (σ.1 16 9, σ) else (if z1 = nI 1 then (ob (fn_X4_standing ε 16 σ) (fun y48 τ48 => some (y48, τ48))) else (if z1 = nI 2 then (ob (fn_X4_cracks ε 16 σ) (fun y56 τ56 => some (y56, τ56))) else (if z1 = nI 3 then (ob (fn_X4_props ε 16 σ) (fun y64 τ64 => some (y64, τ64))) else (if z1 = nI 4 then (ob (fn_X4_notHolding ε 16 σ) (fun y72 τ72 => some (y72, τ72))) else some ((-1000000001), σ))))))
def fn_X6_behind_L27 (ε : Ev) (z1 : Int32) (z2 : Int32)  (σ : Sg) : Option (Int32 × Sg) := some ((-1000000001), σ)
def fn_X6_behind (ε : Ev) (z1 : Int32) (z2 : Int32) (σ : Sg) : Option (Int32 × Sg) := (if z1 < 0 then ((fn_X6_behind_L27 ε z1 z2)  σ) else (if nI 100 < z1 then ((fn_X6_behind_L27 ε z1 z2)  σ) else (if z2 < 0 then ((fn_X6_behind_L27 ε z1 z2)  σ) else (if z2 < (nI 3 + σ.1 16 6) then (ob (fn_X6_thinkOf ε 16 σ) (fun y35 τ35 => (if isX4 y35 then (ob (fn_X4_goOn ε y35 z1 τ35) (fun y39 τ39 => (if z2 = nI 0 then (ob (fn_X4_standing ε 48 τ39) (fun y72 τ72 => some (y72, τ72))) else (if z2 = nI 1 then (ob (fn_X4_cracks ε 48 τ39) (fun y80 τ80 => some (y80, τ80))) else (if z2 = nI 2 then some (τ39.1 48 9, τ39) else (if ¬ ((z2 - nI 3) < 0 ∨ 9 ≤ ((z2 - nI 3)).toNatClampNeg) then some (τ39.1 (55 + ((z2 - nI 3)).toNatClampNeg) 2, τ39) else none)))))) else none))) else ((fn_X6_behind_L27 ε z1 z2)  σ)))))
def fn_X6_lasts_L25 (ε : Ev) (s0 : Int32) (σ : Sg) : Option (Int32 × Sg) := some (s0, σ)
def fn_X6_lasts (ε : Ev) (σ : Sg) : Option (Int32 × Sg) := (ob (fn_X6_thinkOf ε 16 σ) (fun y5 τ5 => (if isX4 y5 then (ob (fn_X4_firstFall ε y5 (nI 300) τ5) (fun y11 τ11 => (if y11 = 0 then ((fn_X6_lasts_L25 ε) ((-1000000005)) τ11) else ((fn_X6_lasts_L25 ε) y11 τ11)))) else none)))
def fn_X6_taken_L19 (ε : Ev) (z1 : Int32) (z2 : Int32)  (σ : Sg) : Option (Int32 × Sg) := some ((-1000000001), σ)
def fn_X6_taken (ε : Ev) (z1 : Int32) (z2 : Int32) (σ : Sg) : Option (Int32 × Sg) := (ob (fn_X6_isHouse ε z1 σ) (fun y2 τ2 => (if y2 = 0 then ((fn_X6_taken_L19 ε z1 z2)  τ2) else (if z2 < nI 1 then ((fn_X6_taken_L19 ε z1 z2)  τ2) else (if z2 ≤ nI 60 then (if ¬ (z1 < 0 ∨ 9 ≤ z1.toNatClampNeg) then (if τ2.1 (23 + z1.toNatClampNeg) 6 = 0 then some ((-1000000002), τ2) else (ob (fn_X6_thinkOf ε 16 τ2) (fun y45 τ45 => (if isX4 y45 then (ob (fn_X4_goOn ε y45 z2 τ45) (fun y49 τ49 => (ob (fn_X4_standing ε 48 τ49) (fun y56 τ56 => (ob (fn_X6_thinkOf ε 16 τ56) (fun y65 τ65 => (if isX4 y65 then (ob (fn_X0_fall ε (y65 + 7 + z1.toNatClampNeg) τ65) (fun y73 τ73 => (ob (fn_X4_goOn ε 48 z2 τ73) (fun y81 τ81 => (ob (fn_X4_standing ε 48 τ81) (fun y89 τ89 => some (((y56 &&& (y89 ^^^ (-1))) &&& ((nI 1 <<< (z1 &&& 31)) ^^^ (-1))), τ89))))))) else none))))))) else none)))) else none) else ((fn_X6_taken_L19 ε z1 z2)  τ2))))))
def fn_X6_propped_L110 (ε : Ev) (z1 : Int32)  (σ : Sg) : Option (Int32 × Sg) := some ((-1000000005), σ)
def fn_X6_propped_L104 (ε : Ev) (z1 : Int32) (slf : Int32 → Int32 → Sg → Option (Int32 × Sg)) (k110 : Sg → Option (Int32 × Sg)) (v2 : Int32) (v3 : Int32) (σ : Sg) : Option (Int32 × Sg) := (slf v2 ((v3 + nI 1)) σ)
def fn_X6_propped_L98 (ε : Ev) (z1 : Int32) (slf : Int32 → Int32 → Int32 → Sg → Option (Int32 × Sg)) (k104 : Int32 → Int32 → Sg → Option (Int32 × Sg)) (v2 : Int32) (v3 : Int32) (v4 : Int32) (σ : Sg) : Option (Int32 × Sg) := (slf v2 v3 ((v4 + nI 1)) σ)
def fn_X6_propped_L57 (ε : Ev) (z1 : Int32) (k104 : Int32 → Int32 → Sg → Option (Int32 × Sg)) : Nat → Int32 → Int32 → Int32 → Sg → Option (Int32 × Sg)
  | 0 => fun _ _ _ _ => none
  | fuel + 1 => fun (v2 : Int32) (v3 : Int32) (v4 : Int32) (σ : Sg) => (if σ.1 16 6 ≤ v4 then (k104 v2 v3 σ) else (if ((v2 >>> (v4 &&& 31)) &&& nI 1) = nI 1 then (ob (fn_X6_isEnough ε v4 v3 z1 σ) (fun y84 τ84 => (if y84 = 0 then ((fn_X6_propped_L98 ε z1 (fn_X6_propped_L57 ε z1 k104 fuel) k104) v2 v3 v4 τ84) else some (((nI 10 * v4) + v3), τ84)))) else ((fn_X6_propped_L98 ε z1 (fn_X6_propped_L57 ε z1 k104 fuel) k104) v2 v3 v4 σ)))
def fn_X6_propped_L45 (ε : Ev) (z1 : Int32) (k110 : Sg → Option (Int32 × Sg)) : Nat → Int32 → Int32 → Sg → Option (Int32 × Sg)
  | 0 => fun _ _ _ => none
  | fuel + 1 => fun (v2 : Int32) (v3 : Int32) (σ : Sg) => (if ¬ (nI 5 < 0 ∨ 6 ≤ (nI 5).toNatClampNeg) then (if tabMOST (nI 5).toNatClampNeg < v3 then (k110  σ) else ((fn_X6_propped_L57 ε z1 (fn_X6_propped_L104 ε z1 (fn_X6_propped_L45 ε z1 k110 fuel) k110) 4000) v2 v3 (nI 0) σ)) else none)
def fn_X6_propped_L11 (ε : Ev) (z1 : Int32)  (σ : Sg) : Option (Int32 × Sg) := some ((-1000000001), σ)
def fn_X6_propped (ε : Ev) (z1 : Int32) (σ : Sg) : Option (Int32 × Sg) := (if z1 < nI 1 then ((fn_X6_propped_L11 ε z1)  σ) else (if z1 ≤ nI 40 then (ob (fn_X6_thinkOf ε 16 σ) (fun y19 τ19 => (if isX4 y19 then (ob (fn_X4_firstFall ε y19 z1 τ19) (fun y23 τ23 => (if y23 = 0 then some (nI 0, τ23) else (ob (fn_X4_crackedSince ε 48 16 τ23) (fun y39 τ39 => ((fn_X6_propped_L45 ε z1 (fn_X6_propped_L110 ε z1) 4000) y39 (nI 1) τ39)))))) else none))) else ((fn_X6_propped_L11 ε z1)  σ)))
def fn_X6_wall_L104 (ε : Ev) (z1 : Int32) (z2 : Int32) (s0 : Int32) (σ : Sg) : Option (Int32 × Sg) := some (s0, σ)
def fn_X6_wall_L98 (ε : Ev) (z1 : Int32) (z2 : Int32) (v3 : Int32) (σ : Sg) : Option (Int32 × Sg) := ((fn_X6_wall_L104 ε z1 z2) v3 σ)
def fn_X6_wall_L88 (ε : Ev) (z1 : Int32) (z2 : Int32) (v3 : Int32) (v4 : Int32) (σ : Sg) : Option (Int32 × Sg) := (if z2 = 0 then ((fn_X6_wall_L98 ε z1 z2) v3 σ) else (if v3 = (-1000000005) then ((fn_X6_wall_L98 ε z1 z2) v3 σ) else ((fn_X6_wall_L104 ε z1 z2) v4 σ)))
def fn_X6_wall_L82 (ε : Ev) (z1 : Int32) (z2 : Int32) (slf : Int32 → Int32 → Int32 → Sg → Option (Int32 × Sg)) (k88 : Int32 → Int32 → Sg → Option (Int32 × Sg)) (v3 : Int32) (v4 : Int32) (v5 : Int32) (σ : Sg) : Option (Int32 × Sg) := (slf v3 v4 ((v5 + nI 1)) σ)
def fn_X6_wall_L32 (ε : Ev) (z1 : Int32) (z2 : Int32) (k88 : Int32 → Int32 → Sg → Option (Int32 × Sg)) : Nat → Int32 → Int32 → Int32 → Sg → Option (Int32 × Sg)
  | 0 => fun _ _ _ _ => none
  | fuel + 1 => fun (v3 : Int32) (v4 : Int32) (v5 : Int32) (σ : Sg) => (if σ.1 16 6 ≤ v5 then (k88 v3 v4 σ) else (ob (fn_X6_thinkWithoutWall ε v5 z1 σ) (fun y48 τ48 => (ob (fn_X4_howManyStand ε 48 τ48) (fun y62 τ62 => (if (τ48.1 48 6 - y62) ≤ v4 then ((fn_X6_wall_L82 ε z1 z2 (fn_X6_wall_L32 ε z1 z2 k88 fuel) k88) v3 v4 v5 τ62) else ((fn_X6_wall_L82 ε z1 z2 (fn_X6_wall_L32 ε z1 z2 k88 fuel) k88) v5 ((τ48.1 48 6 - y62)) v5 τ62)))))))
def fn_X6_wall_L20 (ε : Ev) (z1 : Int32) (z2 : Int32)  (σ : Sg) : Option (Int32 × Sg) := some ((-1000000001), σ)
def fn_X6_wall (ε : Ev) (z1 : Int32) (z2 : Int32) (σ : Sg) : Option (Int32 × Sg) := (if z1 < nI 1 then ((fn_X6_wall_L20 ε z1 z2)  σ) else (if nI 60 < z1 then ((fn_X6_wall_L20 ε z1 z2)  σ) else (if z2 < 0 then ((fn_X6_wall_L20 ε z1 z2)  σ) else (if z2 ≤ nI 1 then ((fn_X6_wall_L32 ε z1 z2 (fn_X6_wall_L88 ε z1 z2) 4000) ((-1000000005)) ((-1)) (nI 0) σ) else ((fn_X6_wall_L20 ε z1 z2)  σ)))))
def fn_X6_snows_L52 (ε : Ev) (z1 : Int32)  (σ : Sg) : Option (Int32 × Sg) := some ((-1000000005), σ)
def fn_X6_snows_L17 (ε : Ev) (z1 : Int32) (k52 : Sg → Option (Int32 × Sg)) : Nat → Int32 → Sg → Option (Int32 × Sg)
  | 0 => fun _ _ => none
  | fuel + 1 => fun (v2 : Int32) (σ : Sg) => (if v2 < 0 then (k52  σ) else (ob (fn_X6_thinkOf ε 16 σ) (fun y26 τ26 => (if isX4 y26 then (ob (fn_X4_firstFall ε 48 z1 (pI τ26 y26 8 v2)) (fun y38 τ38 => (if y38 = 0 then some (v2, τ38) else ((fn_X6_snows_L17 ε z1 k52 fuel) ((v2 + (-1))) τ38)))) else none))))
def fn_X6_snows_L11 (ε : Ev) (z1 : Int32)  (σ : Sg) : Option (Int32 × Sg) := some ((-1000000001), σ)
def fn_X6_snows (ε : Ev) (z1 : Int32) (σ : Sg) : Option (Int32 × Sg) := (if z1 < nI 1 then ((fn_X6_snows_L11 ε z1)  σ) else (if z1 ≤ nI 60 then ((fn_X6_snows_L17 ε z1 (fn_X6_snows_L52 ε z1) 4000) (nI 20) σ) else ((fn_X6_snows_L11 ε z1)  σ)))
def fn_X6_began_L135 (ε : Ev) (z1 : Int32) (z2 : Int32) (z3 : Int32) (s0 : Int32) (σ : Sg) : Option (Int32 × Sg) := some (s0, σ)
def fn_X6_began_L128 (ε : Ev) (z1 : Int32) (z2 : Int32) (z3 : Int32) (v4 : Int32) (σ : Sg) : Option (Int32 × Sg) := ((fn_X6_began_L135 ε z1 z2 z3) v4 σ)
def fn_X6_began_L117 (ε : Ev) (z1 : Int32) (z2 : Int32) (z3 : Int32) (v4 : Int32) (v5 : Int32) (σ : Sg) : Option (Int32 × Sg) := (if z3 = 0 then ((fn_X6_began_L128 ε z1 z2 z3) v4 σ) else (if v4 = (-1000000005) then ((fn_X6_began_L128 ε z1 z2 z3) v4 σ) else ((fn_X6_began_L135 ε z1 z2 z3) v5 σ)))
def fn_X6_began_L111 (ε : Ev) (z1 : Int32) (z2 : Int32) (z3 : Int32) (slf : Int32 → Int32 → Int32 → Sg → Option (Int32 × Sg)) (k117 : Int32 → Int32 → Sg → Option (Int32 × Sg)) (v4 : Int32) (v5 : Int32) (v6 : Int32) (σ : Sg) : Option (Int32 × Sg) := (slf v4 v5 ((v6 + nI 1)) σ)
def fn_X6_began_L103 (ε : Ev) (z1 : Int32) (z2 : Int32) (z3 : Int32) (slf : Int32 → Int32 → Int32 → Sg → Option (Int32 × Sg)) (k117 : Int32 → Int32 → Sg → Option (Int32 × Sg)) (v6 : Int32) (v7 : Int32) (σ : Sg) : Option (Int32 × Sg) := ((fn_X6_began_L111 ε z1 z2 z3 slf k117) v6 v7 v6 σ)
def fn_X6_began_L55 (ε : Ev) (z1 : Int32) (z2 : Int32) (z3 : Int32) (k117 : Int32 → Int32 → Sg → Option (Int32 × Sg)) : Nat → Int32 → Int32 → Int32 → Sg → Option (Int32 × Sg)
  | 0 => fun _ _ _ _ => none
  | fuel + 1 => fun (v4 : Int32) (v5 : Int32) (v6 : Int32) (σ : Sg) => (if σ.1 16 6 ≤ v6 then (k117 v4 v5 σ) else (ob (fn_X6_thinkWithoutWall ε v6 z2 σ) (fun y71 τ71 => (if ¬ (z1 < 0 ∨ 4 ≤ z1.toNatClampNeg) then (ob (fn_X4_differsFrom ε 48 (80 + 2 * z1.toNatClampNeg) τ71) (fun y84 τ84 => (if v4 = (-1000000005) then ((fn_X6_began_L103 ε z1 z2 z3 (fn_X6_began_L55 ε z1 z2 z3 k117 fuel) k117) v6 y84 τ84) else (if v5 ≤ y84 then ((fn_X6_began_L111 ε z1 z2 z3 (fn_X6_began_L55 ε z1 z2 z3 k117 fuel) k117) v4 v5 v6 τ84) else ((fn_X6_began_L103 ε z1 z2 z3 (fn_X6_began_L55 ε z1 z2 z3 k117 fuel) k117) v6 y84 τ84))))) else none))))
def fn_X6_began_L26 (ε : Ev) (z1 : Int32) (z2 : Int32) (z3 : Int32)  (σ : Sg) : Option (Int32 × Sg) := some ((-1000000001), σ)
def fn_X6_began (ε : Ev) (z1 : Int32) (z2 : Int32) (z3 : Int32) (σ : Sg) : Option (Int32 × Sg) := (o1 (fn_X6_isSheet z1) (fun y1 => (if y1 = 0 then ((fn_X6_began_L26 ε z1 z2 z3)  σ) else (if z2 < 0 then ((fn_X6_began_L26 ε z1 z2 z3)  σ) else (if nI 60 < z2 then ((fn_X6_began_L26 ε z1 z2 z3)  σ) else (if z3 < 0 then ((fn_X6_began_L26 ε z1 z2 z3)  σ) else (if z3 ≤ nI 1 then (if ¬ (z1 < 0 ∨ 4 ≤ z1.toNatClampNeg) then (if σ.1 (80 + 2 * z1.toNatClampNeg) 1 = (-1) then some ((-1000000011), σ) else ((fn_X6_began_L55 ε z1 z2 z3 (fn_X6_began_L117 ε z1 z2 z3) 4000) ((-1000000005)) (nI 0) (nI 0) σ)) else none) else ((fn_X6_began_L26 ε z1 z2 z3)  σ))))))))
def fn_X6_fee_L43 (ε : Ev) (s0 : Int32) (σ : Sg) : Option (Int32 × Sg) := some (s0, σ)
def fn_X6_fee (ε : Ev) (σ : Sg) : Option (Int32 × Sg) := (if ¬ (nI 1 < 0 ∨ 3 ≤ (nI 1).toNatClampNeg) then (oq (σ.2 19 (nI 1).toNatClampNeg) ((fn_X6_fee_L43 ε) (σ.1 16 9) σ) (fun x11 => (if isX5 ε x11 then (ob (fn_X5_value ε x11 (σ.1 16 9) (σ.1 16 10) (nI 0) σ) (fun y40 τ40 => ((fn_X6_fee_L43 ε) y40 τ40))) else none))) else none)
def fn_X6_fine_L55 (ε : Ev) (z1 : Int32) (s0 : Int32) (σ : Sg) : Option (Int32 × Sg) := some (s0, σ)
def fn_X6_fine (ε : Ev) (z1 : Int32) (σ : Sg) : Option (Int32 × Sg) := (ob (fn_X6_isHouse ε z1 σ) (fun y2 τ2 => (if y2 = 0 then some ((-1000000001), τ2) else (if ¬ (z1 < 0 ∨ 9 ≤ z1.toNatClampNeg) then (if ¬ (nI 2 < 0 ∨ 3 ≤ (nI 2).toNatClampNeg) then (oq (τ2.2 19 (nI 2).toNatClampNeg) ((fn_X6_fine_L55 ε z1) (τ2.1 (23 + z1.toNatClampNeg) 4) τ2) (fun x32 => (if isX5 ε x32 then (ob (fn_X5_value ε x32 (τ2.1 (23 + z1.toNatClampNeg) 4) (τ2.1 (23 + z1.toNatClampNeg) 5) (nI 0) τ2) (fun y52 τ52 => ((fn_X6_fine_L55 ε z1) y52 τ52))) else none))) else none) else none))))
def fn_X6_feed (ε : Ev) (z1 : Int32) (z2 : Int32) (z3 : Int32) (σ : Sg) : Option (Int32 × Sg) := (if (σ.1 64 1 + nI 12) ≤ nI 96 then (ob (fn_X1_addBytesOf ε z1 σ) (fun y23 τ23 => (ob (fn_X1_addBytesOf ε z2 τ23) (fun y31 τ31 => (ob (fn_X1_addBytesOf ε z3 τ31) (fun y39 τ39 => some (τ39.1 64 1, τ39))))))) else some ((-1000000003), σ))
def fn_X6_trim_L15 (ε : Ev) (z1 : Int32)  (σ : Sg) : Option (Int32 × Sg) := some ((-1000000001), σ)
def fn_X6_trim (ε : Ev) (z1 : Int32) (σ : Sg) : Option (Int32 × Sg) := (if z1 < 0 then ((fn_X6_trim_L15 ε z1)  σ) else (if z1 ≤ σ.1 64 1 then some (z1, pI σ 64 1 z1) else ((fn_X6_trim_L15 ε z1)  σ)))
def fn_X6_textTold_L61 (ε : Ev) (z1 : Int32) (z2 : Int32) (s0 : Int32) (σ : Sg) : Option (Int32 × Sg) := some (s0, σ)
def fn_X6_textTold_L24 (ε : Ev) (z1 : Int32) (z2 : Int32)  (σ : Sg) : Option (Int32 × Sg) := some ((-1000000001), σ)
def fn_X6_textTold (ε : Ev) (z1 : Int32) (z2 : Int32) (σ : Sg) : Option (Int32 × Sg) := (if z1 < 0 then ((fn_X6_textTold_L24 ε z1 z2)  σ) else (if σ.1 16 7 ≤ z1 then ((fn_X6_textTold_L24 ε z1 z2)  σ) else (if z2 < 0 then ((fn_X6_textTold_L24 ε z1 z2)  σ) else (if z2 ≤ nI 1 then (if ¬ (z1 < 0 ∨ 14 ≤ z1.toNatClampNeg) then (oq (σ.2 18 z1.toNatClampNeg) ((fn_X6_textTold_L61 ε z1 z2) ((-1000000001)) σ) (fun x38 => (if isX5 ε x38 then (if z2 = 0 then ((fn_X6_textTold_L61 ε z1 z2) (σ.1 x38 1) σ) else ((fn_X6_textTold_L61 ε z1 z2) (σ.1 x38 2) σ)) else none))) else none) else ((fn_X6_textTold_L24 ε z1 z2)  σ)))))
def fn_X6_why_L35 (ε : Ev) (z1 : Int32) (s0 : Int32) (σ : Sg) : Option (Int32 × Sg) := some (s0, σ)
def fn_X6_why_L9 (ε : Ev) (z1 : Int32)  (σ : Sg) : Option (Int32 × Sg) := some ((-1000000001), σ)
def fn_X6_why (ε : Ev) (z1 : Int32) (σ : Sg) : Option (Int32 × Sg) := (if z1 < 0 then ((fn_X6_why_L9 ε z1)  σ) else (if z1 < nI 3 then (if ¬ (z1 < 0 ∨ 3 ≤ z1.toNatClampNeg) then (oq (σ.2 19 z1.toNatClampNeg) ((fn_X6_why_L35 ε z1) ((-1000000005)) σ) (fun x23 => (if isX5 ε x23 then ((fn_X6_why_L35 ε z1) (σ.1 x23 0) σ) else none))) else none) else ((fn_X6_why_L9 ε z1)  σ)))
def fn_X6_sheet_L17 (ε : Ev) (z1 : Int32) (z2 : Int32) (z3 : Int32)  (σ : Sg) : Option (Int32 × Sg) := some ((-1000000001), σ)
def fn_X6_sheet (ε : Ev) (z1 : Int32) (z2 : Int32) (z3 : Int32) (σ : Sg) : Option (Int32 × Sg) := (o1 (fn_X6_isSheet z1) (fun y1 => (if y1 = 0 then ((fn_X6_sheet_L17 ε z1 z2 z3)  σ) else (if z2 < (-1) then ((fn_X6_sheet_L17 ε z1 z2 z3)  σ) else (if z2 ≤ nI 1 then (if z2 = (-1) then (if ¬ (z1 < 0 ∨ 4 ≤ z1.toNatClampNeg) then (ob (fn_X2_begin ε (80 + 2 * z1.toNatClampNeg) ((-1)) (nI 0) σ) (fun y33 τ33 => some (nI 0, τ33))) else none) else (if z3 ≤ nI 24 then (if 0 ≤ z3 then (if ¬ (z1 < 0 ∨ 4 ≤ z1.toNatClampNeg) then (ob (fn_X2_begin ε (80 + 2 * z1.toNatClampNeg) z2 z3 σ) (fun y62 τ62 => some (z3, τ62))) else none) else some ((-1000000014), σ)) else some ((-1000000001), σ))) else ((fn_X6_sheet_L17 ε z1 z2 z3)  σ))))))
def fn_X6_mark_L94 (ε : Ev) (z1 : Int32) (z2 : Int32) (z3 : Int32) (v4 : Nat) (σ : Sg) : Option (Int32 × Sg) := (if ¬ (z2 < 0 ∨ 24 ≤ z2.toNatClampNeg) then some (nI 1, pI σ (v4 + 1) z2.toNatClampNeg z3) else none)
def fn_X6_mark_L91 (ε : Ev) (z1 : Int32) (z2 : Int32) (z3 : Int32)  (σ : Sg) : Option (Int32 × Sg) := some ((-1000000001), σ)
def fn_X6_mark (ε : Ev) (z1 : Int32) (z2 : Int32) (z3 : Int32) (σ : Sg) : Option (Int32 × Sg) := (o1 (fn_X6_isSheet z1) (fun y1 => (if y1 = 0 then some ((-1000000001), σ) else (if ¬ (z1 < 0 ∨ 4 ≤ z1.toNatClampNeg) then (if σ.1 (80 + 2 * z1.toNatClampNeg) 1 = (-1) then some ((-1000000011), σ) else (ob (fn_X2_hasPlace ε (80 + 2 * z1.toNatClampNeg) z2 σ) (fun y33 τ33 => (if y33 = 0 then some ((-1000000013), τ33) else (if τ33.1 (80 + 2 * z1.toNatClampNeg) 1 = 0 then (if z3 = (-1000000005) then some ((-1000000012), τ33) else (if ¬ (z2 < 0 ∨ 24 ≤ z2.toNatClampNeg) then some (nI 1, pI τ33 (80 + 2 * z1.toNatClampNeg + 1) z2.toNatClampNeg ((Int32.toInt16 (z3)).toInt32)) else none)) else (if z3 = (-1000000005) then ((fn_X6_mark_L94 ε z1 z2 z3) (80 + 2 * z1.toNatClampNeg) τ33) else (if z3 < (-99999) then ((fn_X6_mark_L91 ε z1 z2 z3)  τ33) else (if z3 ≤ (99999) then ((fn_X6_mark_L94 ε z1 z2 z3) (80 + 2 * z1.toNatClampNeg) τ33) else ((fn_X6_mark_L91 ε z1 z2 z3)  τ33))))))))) else none))))
def fn_X6_pour (ε : Ev) (z1 : Int32) (σ : Sg) : Option (Int32 × Sg) := (o1 (fn_X6_isSheet z1) (fun y1 => (if y1 = 0 then some ((-1000000001), σ) else (if ¬ (z1 < 0 ∨ 4 ≤ z1.toNatClampNeg) then (if σ.1 (80 + 2 * z1.toNatClampNeg) 1 = (-1) then some ((-1000000011), σ) else (ob (fn_X4_takeWalls ε 16 (80 + 2 * z1.toNatClampNeg) σ) (fun y36 τ36 => some (y36, τ36)))) else none))))
def fn_X6_reads_L86 (ε : Ev) (z1 : Int32)  (σ : Sg) : Option (Int32 × Sg) := some ((-1000000005), σ)
def fn_X6_reads_L80 (ε : Ev) (z1 : Int32) (slf : Nat → Int32 → Sg → Option (Int32 × Sg)) (k86 : Sg → Option (Int32 × Sg)) (v2 : Nat) (v3 : Int32) (σ : Sg) : Option (Int32 × Sg) := (slf v2 ((v3 + nI 1)) σ)
def fn_X6_reads_L78 (ε : Ev) (z1 : Int32) (slf : Nat → Int32 → Sg → Option (Int32 × Sg)) (k86 : Sg → Option (Int32 × Sg)) (v3 : Int32) (σ : Sg) : Option (Int32 × Sg) := some (v3, σ)
def fn_X6_reads_L30 (ε : Ev) (z1 : Int32) (k86 : Sg → Option (Int32 × Sg)) : Nat → Nat → Int32 → Sg → Option (Int32 × Sg)
  | 0 => fun _ _ _ => none
  | fuel + 1 => fun (v2 : Nat) (v3 : Int32) (σ : Sg) => (if σ.1 v2 2 ≤ v3 then (k86  σ) else (ob (fn_X2_isNumber ε v2 v3 σ) (fun y40 τ40 => (if y40 = 0 then ((fn_X6_reads_L80 ε z1 (fn_X6_reads_L30 ε z1 k86 fuel) k86) v2 v3 τ40) else (if τ40.1 16 6 ≤ v3 then ((fn_X6_reads_L78 ε z1 (fn_X6_reads_L30 ε z1 k86 fuel) k86) v3 τ40) else (if ¬ (v3 < 0 ∨ 24 ≤ v3.toNatClampNeg) then (if ¬ (v3 < 0 ∨ 9 ≤ v3.toNatClampNeg) then (if τ40.1 (v2 + 1) v3.toNatClampNeg = τ40.1 (23 + v3.toNatClampNeg) 2 then ((fn_X6_reads_L80 ε z1 (fn_X6_reads_L30 ε z1 k86 fuel) k86) v2 v3 τ40) else ((fn_X6_reads_L78 ε z1 (fn_X6_reads_L30 ε z1 k86 fuel) k86) v3 τ40)) else none) else none))))))
def fn_X6_reads (ε : Ev) (z1 : Int32) (σ : Sg) : Option (Int32 × Sg) := (o1 (fn_X6_isSheet z1) (fun y1 => (if y1 = 0 then some ((-1000000001), σ) else (if ¬ (z1 < 0 ∨ 4 ≤ z1.toNatClampNeg) then (if σ.1 (80 + 2 * z1.toNatClampNeg) 1 = (-1) then some ((-1000000011), σ) else ((fn_X6_reads_L30 ε z1 (fn_X6_reads_L86 ε z1) 4000) (80 + 2 * z1.toNatClampNeg) (nI 0) σ)) else none))))
def fn_X6_copy_L93 (ε : Ev) (z1 : Int32) (z2 : Int32) (z3 : Int32) (z4 : Int32) (z5 : Int32)  (σ : Sg) : Option (Int32 × Sg) := some ((-1000000013), σ)
def fn_X6_copy_L51 (ε : Ev) (z1 : Int32) (z2 : Int32) (z3 : Int32) (z4 : Int32) (z5 : Int32)  (σ : Sg) : Option (Int32 × Sg) := some ((-1000000011), σ)
def fn_X6_copy_L14 (ε : Ev) (z1 : Int32) (z2 : Int32) (z3 : Int32) (z4 : Int32) (z5 : Int32)  (σ : Sg) : Option (Int32 × Sg) := some ((-1000000001), σ)
def fn_X6_copy (ε : Ev) (z1 : Int32) (z2 : Int32) (z3 : Int32) (z4 : Int32) (z5 : Int32) (σ : Sg) : Option (Int32 × Sg) := (o1 (fn_X6_isSheet z1) (fun y1 => (if y1 = 0 then ((fn_X6_copy_L14 ε z1 z2 z3 z4 z5)  σ) else (o1 (fn_X6_isSheet z3) (fun y8 => (if y8 = 0 then ((fn_X6_copy_L14 ε z1 z2 z3 z4 z5)  σ) else (if ¬ (z1 < 0 ∨ 4 ≤ z1.toNatClampNeg) then (if ¬ (z3 < 0 ∨ 4 ≤ z3.toNatClampNeg) then (if σ.1 (80 + 2 * z1.toNatClampNeg) 1 = (-1) then ((fn_X6_copy_L51 ε z1 z2 z3 z4 z5)  σ) else (if σ.1 (80 + 2 * z3.toNatClampNeg) 1 = (-1) then ((fn_X6_copy_L51 ε z1 z2 z3 z4 z5)  σ) else (if σ.1 (80 + 2 * z1.toNatClampNeg) 1 = σ.1 (80 + 2 * z3.toNatClampNeg) 1 then (ob (fn_X2_hasPlaces ε (80 + 2 * z1.toNatClampNeg) z2 z5 σ) (fun y75 τ75 => (if y75 = 0 then ((fn_X6_copy_L93 ε z1 z2 z3 z4 z5)  τ75) else (ob (fn_X2_hasPlaces ε (80 + 2 * z3.toNatClampNeg) z4 z5 τ75) (fun y87 τ87 => (if y87 = 0 then ((fn_X6_copy_L93 ε z1 z2 z3 z4 z5)  τ87) else (if (¬ z2 < 0 ∧ ¬ z4 < 0 ∧ ¬ z5 < 0 ∧ z2.toNatClampNeg + z5.toNatClampNeg ≤ 24 ∧ z4.toNatClampNeg + z5.toNatClampNeg ≤ 24) then some (z5, pA τ87 (80 + 2 * z3.toNatClampNeg + 1) (va_cpy (τ87.1 (80 + 2 * z1.toNatClampNeg + 1)) (τ87.1 (80 + 2 * z3.toNatClampNeg + 1)) z2.toNatClampNeg z4.toNatClampNeg z5.toNatClampNeg)) else none))))))) else some ((-1000000012), σ)))) else none) else none)))))))
def fn_X6_lay_L142 (ε : Ev) (z1 : Int32) (z2 : Int32) (z3 : Int32) (v5 : Int32) (σ : Sg) : Option (Int32 × Sg) := some (v5, σ)
def fn_X6_lay_L68 (ε : Ev) (z1 : Int32) (z2 : Int32) (z3 : Int32)  (σ : Sg) : Option (Int32 × Sg) := (if ¬ (z1 < 0 ∨ 5 ≤ z1.toNatClampNeg) then (if z2 = nI 1 then (if ¬ (z3 < 0 ∨ 9 ≤ z3.toNatClampNeg) then (ob (fn_X0_beLike ε (96 + 4 * z1.toNatClampNeg + 1) (23 + z3.toNatClampNeg) (pI σ (96 + 4 * z1.toNatClampNeg) 0 z2)) (fun y108 τ108 => ((fn_X6_lay_L142 ε z1 z2 z3) (σ.1 (96 + 4 * z1.toNatClampNeg) 0) τ108))) else none) else (if z2 = nI 2 then (if ¬ (z3 < 0 ∨ 4 ≤ z3.toNatClampNeg) then (ob (fn_X2_beLike ε (96 + 4 * z1.toNatClampNeg + 2) (80 + 2 * z3.toNatClampNeg) (pI σ (96 + 4 * z1.toNatClampNeg) 0 z2)) (fun y130 τ130 => ((fn_X6_lay_L142 ε z1 z2 z3) (σ.1 (96 + 4 * z1.toNatClampNeg) 0) τ130))) else none) else ((fn_X6_lay_L142 ε z1 z2 z3) (σ.1 (96 + 4 * z1.toNatClampNeg) 0) (pI (pI σ (96 + 4 * z1.toNatClampNeg) 0 z2) (96 + 4 * z1.toNatClampNeg) 1 z3)))) else none)
def fn_X6_lay_L47 (ε : Ev) (z1 : Int32) (z2 : Int32) (z3 : Int32)  (σ : Sg) : Option (Int32 × Sg) := (if z2 = nI 2 then (if ¬ (z3 < 0 ∨ 4 ≤ z3.toNatClampNeg) then (if σ.1 (80 + 2 * z3.toNatClampNeg) 1 = (-1) then some ((-1000000011), σ) else ((fn_X6_lay_L68 ε z1 z2 z3)  σ)) else none) else ((fn_X6_lay_L68 ε z1 z2 z3)  σ))
def fn_X6_lay_L44 (ε : Ev) (z1 : Int32) (z2 : Int32) (z3 : Int32)  (σ : Sg) : Option (Int32 × Sg) := some ((-1000000001), σ)
def fn_X6_lay_L32 (ε : Ev) (z1 : Int32) (z2 : Int32) (z3 : Int32)  (σ : Sg) : Option (Int32 × Sg) := (if z2 = nI 2 then (o1 (fn_X6_isSheet z3) (fun y38 => (if y38 = 0 then ((fn_X6_lay_L44 ε z1 z2 z3)  σ) else ((fn_X6_lay_L47 ε z1 z2 z3)  σ)))) else ((fn_X6_lay_L47 ε z1 z2 z3)  σ))
def fn_X6_lay_L16 (ε : Ev) (z1 : Int32) (z2 : Int32) (z3 : Int32)  (σ : Sg) : Option (Int32 × Sg) := some ((-1000000001), σ)
def fn_X6_lay (ε : Ev) (z1 : Int32) (z2 : Int32) (z3 : Int32) (σ : Sg) : Option (Int32 × Sg) := (o1 (fn_X6_isSlot z1) (fun y1 => (if y1 = 0 then ((fn_X6_lay_L16 ε z1 z2 z3)  σ) else (if z2 < 0 then ((fn_X6_lay_L16 ε z1 z2 z3)  σ) else (if z2 ≤ nI 3 then (if z2 = nI 1 then (ob (fn_X6_isHouse ε z3 σ) (fun y26 τ26 => (if y26 = 0 then ((fn_X6_lay_L44 ε z1 z2 z3)  τ26) else ((fn_X6_lay_L32 ε z1 z2 z3)  τ26)))) else ((fn_X6_lay_L32 ε z1 z2 z3)  σ)) else ((fn_X6_lay_L16 ε z1 z2 z3)  σ))))))
def fn_X6_ask_L53 (ε : Ev) (z1 : Int32) (z2 : Int32)  (σ : Sg) : Option (Int32 × Sg) := some ((-1000000012), σ)
def fn_X6_ask_L14 (ε : Ev) (z1 : Int32) (z2 : Int32)  (σ : Sg) : Option (Int32 × Sg) := some ((-1000000001), σ)
def fn_X6_ask (ε : Ev) (z1 : Int32) (z2 : Int32) (σ : Sg) : Option (Int32 × Sg) := (o1 (fn_X6_isSlot z1) (fun y1 => (if y1 = 0 then ((fn_X6_ask_L14 ε z1 z2)  σ) else (o1 (fn_X6_isKind z2) (fun y8 => (if y8 = 0 then ((fn_X6_ask_L14 ε z1 z2)  σ) else (if ¬ (z1 < 0 ∨ 5 ≤ z1.toNatClampNeg) then (if σ.1 (96 + 4 * z1.toNatClampNeg) 0 = 0 then some ((-1000000011), σ) else (if σ.1 (96 + 4 * z1.toNatClampNeg) 0 = nI 1 then (ob (fn_X0_isOf ε (96 + 4 * z1.toNatClampNeg + 1) z2 σ) (fun y47 τ47 => (if y47 = 0 then ((fn_X6_ask_L53 ε z1 z2)  τ47) else (ob (fn_X0_worth ε (96 + 4 * z1.toNatClampNeg + 1) τ47) (fun y60 τ60 => some (y60, τ60)))))) else ((fn_X6_ask_L53 ε z1 z2)  σ))) else none)))))))
def fn_X6_item_L78 (ε : Ev) (z1 : Int32) (z2 : Int32) (s0 : Int32) (σ : Sg) : Option (Int32 × Sg) := some (s0, σ)
def fn_X6_item (ε : Ev) (z1 : Int32) (z2 : Int32) (σ : Sg) : Option (Int32 × Sg) := (o1 (fn_X6_isSlot z1) (fun y1 => (if y1 = 0 then some ((-1000000001), σ) else (if ¬ (z1 < 0 ∨ 5 ≤ z1.toNatClampNeg) then (if σ.1 (96 + 4 * z1.toNatClampNeg) 0 = 0 then some ((-1000000011), σ) else (if σ.1 (96 + 4 * z1.toNatClampNeg) 0 = nI 2 then (ob (fn_X2_hasPlace ε (96 + 4 * z1.toNatClampNeg + 2) z2 σ) (fun y43 τ43 => (if y43 = 0 then some ((-1000000013), τ43) else (ob (fn_X2_isNumber ε (96 + 4 * z1.toNatClampNeg + 2) z2 τ43) (fun y58 τ58 => (if y58 = 0 then ((fn_X6_item_L78 ε z1 z2) ((-1000000012)) τ58) else (if ¬ (z2 < 0 ∨ 24 ≤ z2.toNatClampNeg) then ((fn_X6_item_L78 ε z1 z2) (τ58.1 (96 + 4 * z1.toNatClampNeg + 2 + 1) z2.toNatClampNeg) τ58) else none))))))) else some ((-1000000012), σ))) else none))))
def fn_X6_rest_L53 (ε : Ev) (z1 : Int32) (z2 : Int32) (s0 : Int32) (σ : Sg) : Option (Int32 × Sg) := some (s0, σ)
def fn_X6_rest (ε : Ev) (z1 : Int32) (z2 : Int32) (σ : Sg) : Option (Int32 × Sg) := (o1 (fn_X6_isSlot z1) (fun y1 => (if y1 = 0 then some ((-1000000001), σ) else (if ¬ (z1 < 0 ∨ 5 ≤ z1.toNatClampNeg) then (if σ.1 (96 + 4 * z1.toNatClampNeg) 0 = 0 then some ((-1000000011), σ) else (if σ.1 (96 + 4 * z1.toNatClampNeg) 0 = nI 3 then (if z2 = 0 then ((fn_X6_rest_L53 ε z1 z2) ((-1000000002)) σ) else (if ¬ z2 = 0 then ((fn_X6_rest_L53 ε z1 z2) ((σ.1 (96 + 4 * z1.toNatClampNeg) 1 - σ.1 (96 + 4 * z1.toNatClampNeg) 1 / z2 * z2)) σ) else none)) else some ((-1000000012), σ))) else none))))
def fn_X6_tell (ε : Ev) (z1 : Int32) (σ : Sg) : Option (Int32 × Sg) := (if σ.1 0 7 < nI 60 then (if ¬ (σ.1 0 7 < 0 ∨ 60 ≤ (σ.1 0 7).toNatClampNeg) then some ((pI (pI σ 3 (σ.1 0 7).toNatClampNeg z1) 0 7 (((pI σ 3 (σ.1 0 7).toNatClampNeg z1).1 0 7 + nI 1))).1 0 7, pI (pI σ 3 (σ.1 0 7).toNatClampNeg z1) 0 7 (((pI σ 3 (σ.1 0 7).toNatClampNeg z1).1 0 7 + nI 1))) else none) else some ((-1000000003), σ))
def fn_X6_check_L152 (ε : Ev) (z1 : Int32) (s0 : Int32) (σ : Sg) : Option (Int32 × Sg) := some (s0, σ)
def fn_X6_check_L140 (ε : Ev) (z1 : Int32) (v2 : Int32) (v3 : Int32) (σ : Sg) : Option (Int32 × Sg) := (if v2 ≤ v3 then ((fn_X6_check_L152 ε z1) (nI 0) σ) else ((fn_X6_check_L152 ε z1) ((nI 1 + v3)) σ))
def fn_X6_check_L129 (ε : Ev) (z1 : Int32) (slf : Int32 → Int32 → Int32 → Sg → Option (Int32 × Sg)) (k140 : Int32 → Int32 → Sg → Option (Int32 × Sg)) (v4 : Int32) (σ : Sg) : Option (Int32 × Sg) := some ((nI 1 + v4), σ)
def fn_X6_check_L109 (ε : Ev) (z1 : Int32) (slf : Int32 → Int32 → Int32 → Sg → Option (Int32 × Sg)) (k140 : Int32 → Int32 → Sg → Option (Int32 × Sg)) (v2 : Int32) (v3 : Int32) (v4 : Int32) (s0 : Int32) (σ : Sg) : Option (Int32 × Sg) := (if v2 ≤ v4 then ((fn_X6_check_L129 ε z1 slf k140) v4 σ) else (if ¬ (v4 < 0 ∨ 60 ≤ v4.toNatClampNeg) then (if σ.1 3 v4.toNatClampNeg = s0 then (slf v2 v3 ((v4 + nI 1)) σ) else ((fn_X6_check_L129 ε z1 slf k140) v4 σ)) else none))
def fn_X6_check_L85 (ε : Ev) (z1 : Int32) (slf : Int32 → Int32 → Int32 → Sg → Option (Int32 × Sg)) (k140 : Int32 → Int32 → Sg → Option (Int32 × Sg)) (v2 : Int32) (v3 : Int32) (v4 : Int32) (σ : Sg) : Option (Int32 × Sg) := (if (v4 - v4 / nI 2 * nI 2) = 0 then (ob (fn_X4_howManyStand ε 48 σ) (fun y96 τ96 => ((fn_X6_check_L109 ε z1 slf k140) v2 v3 v4 y96 τ96))) else (ob (fn_X4_cracks ε 48 σ) (fun y106 τ106 => ((fn_X6_check_L109 ε z1 slf k140) v2 v3 v4 y106 τ106))))
def fn_X6_check_L64 (ε : Ev) (z1 : Int32) (k140 : Int32 → Int32 → Sg → Option (Int32 × Sg)) : Nat → Int32 → Int32 → Int32 → Sg → Option (Int32 × Sg)
  | 0 => fun _ _ _ _ => none
  | fuel + 1 => fun (v2 : Int32) (v3 : Int32) (v4 : Int32) (σ : Sg) => (if v3 ≤ v4 then (k140 v2 v3 σ) else (if (v4 - v4 / nI 2 * nI 2) = 0 then (ob (fn_X4_goOn ε 48 (nI 1) σ) (fun y82 τ82 => ((fn_X6_check_L85 ε z1 (fn_X6_check_L64 ε z1 k140 fuel) k140) v2 v3 v4 τ82))) else ((fn_X6_check_L85 ε z1 (fn_X6_check_L64 ε z1 k140 fuel) k140) v2 v3 v4 σ)))
def fn_X6_check_L21 (ε : Ev) (z1 : Int32)  (σ : Sg) : Option (Int32 × Sg) := some ((-1000000001), σ)
def fn_X6_check (ε : Ev) (z1 : Int32) (σ : Sg) : Option (Int32 × Sg) := (if z1 < nI 1 then ((fn_X6_check_L21 ε z1)  (pI σ 0 7 (nI 0))) else (if z1 ≤ nI 30 then (if (pI σ 0 7 (nI 0)).1 0 8 = 0 then some ((-1000000002), pI σ 0 7 (nI 0)) else (ob (fn_X6_thinkOf ε 32 (pI σ 0 7 (nI 0))) (fun y57 τ57 => (if isX4 y57 then ((fn_X6_check_L64 ε z1 (fn_X6_check_L140 ε z1) 4000) (σ.1 0 7) ((nI 2 * (mnI z1 ((nI 9999 - (pI σ 0 7 (nI 0)).1 32 10))))) (nI 0) τ57) else none)))) else ((fn_X6_check_L21 ε z1)  (pI σ 0 7 (nI 0)))))
def fn_X6_keep (ε : Ev) (σ : Sg) : Option (Int32 × Sg) := (ob (fn_X4_beLike ε 32 16 σ) (fun y8 τ8 => some ((pI τ8 0 8 (nI 1)).1 16 6, pI τ8 0 8 (nI 1))))
def fn_X6_back (ε : Ev) (σ : Sg) : Option (Int32 × Sg) := (if σ.1 0 8 = 0 then some ((-1000000002), σ) else (ob (fn_X4_beLike ε 16 32 σ) (fun y18 τ18 => some (τ18.1 16 6, τ18))))
def fn_X6_count (ε : Ev) (z1 : Int32) (σ : Sg) : Option (Int32 × Sg) := (if z1 = nI 0 then some (σ.1 16 6, σ) else (if z1 = nI 1 then (ob (fn_X4_howManyStand ε 16 σ) (fun y60 τ60 => some (y60, τ60))) else (if z1 = nI 2 then some (σ.1 16 10, σ) else (if z1 = nI 3 then some (σ.1 16 8, σ) else (if z1 = nI 4 then some (σ.1 16 7, σ) else (if z1 = nI 5 then some (σ.1 0 7, σ) else (if z1 = nI 6 then some (σ.1 64 1, σ) else (if z1 = nI 7 then some (σ.1 16 11, σ) else some ((-1000000001), σ)))))))))
theorem kX6_fits : mKS yX6_fits cX6_fits 2 (some .boolean) 2 := ⟨tSta_X6_fits, tIni_X6, tCod_X6_fits, by decide +kernel⟩
set_option maxHeartbeats 4000000 in
set_option maxRecDepth 100000 in
theorem ct_X6_fits (l : Launch) (D : va_G) (cy : Nat → ClassId) (Z : (Nat → Prop) → State → Heap → Prop) (hzo : zOK Z) {aStr aByt : Nat → Nat} (hzs : zSt Z aStr aByt) (w : va_W) (z0 : Int32) (z1 : Int32) (res : Int32) (h : fn_X6_fits z0 z1 = some res) : GD l D cy Z yX6_fits (zW yX6_fits cX6_fits 2 (some .boolean)) { frames := 0, cells := 0, slots := 0, locals := 0 } [.int (z0), .int (z1)] w (some (.int res)) w 0 0 := by
  refine g_entry (cc := cX6_fits) (maxL := 2) (by decide) rfl (Nat.le_of_ble_eq_true rfl) ?_
  intro κ hN hX hR
  have hX : GX κ cy Z cX6_fits (Cond.code yX6_fits cX6_fits 2 (some .boolean) :: zT) RX6 { frames := 0, cells := 0, slots := 0, locals := 0 } := hX
  obtain ⟨tLEAST, hLEAST⟩ := zt_LEAST hX hzs
  obtain ⟨tMOST, hMOST⟩ := zt_MOST hX hzs
  have J23 : ∀ (s0 : Int32) , fn_X6_fits_L23 z0 z1 s0 = some res → GW κ 0 0 w 23 [] [.int (s0)] := by
    intro s0 h
    obtain ⟨g1, h⟩ := gd_some h
    exact g_retbD hR g1 (oi_0 h) rfl dX6_fits_23
  have J22 : fn_X6_fits_L22 z0 z1  = some res → GW κ 0 0 w 22 [] [] := by
    intro h
    refine g_iconst hX (v := nI 0) rfl dX6_fits_22 ?_
    exact J23 (nI 0)  h
  show GW κ 0 0 w 0 [(0, .int (z0)), (1, .int (z1))] []
  refine g_iload_n hX 1 rfl rfl dX6_fits_0 ?_
  refine g_tab hX hLEAST (zu tFld_X6_306 rfl) dX6_fits_1 ?_
  refine g_iload_n hX 0 rfl rfl dX6_fits_4 ?_
  obtain ⟨g2, h⟩ := gd_some h
  refine g_tabi hX hLEAST g2 dX6_fits_5 ?_
  refine g_icmp_lt hX 22 (by decide) dX6_fits_6 (fun b6 => ?_) (fun b6 => ?_)
  · replace h := if_p b6 h
    refine g_lv [] rfl ?_
    exact J22   h
  · replace h := if_n b6 h
    refine g_iload_n hX 1 rfl rfl dX6_fits_9 ?_
    refine g_tab hX hMOST (zu tFld_X6_181 rfl) dX6_fits_10 ?_
    refine g_iload_n hX 0 rfl rfl dX6_fits_13 ?_
    refine g_tabi hX hMOST g2 dX6_fits_14 ?_
    refine g_icmp_gt hX 22 (by decide) dX6_fits_15 (fun b15 => ?_) (fun b15 => ?_)
    · replace h := if_p b15 h
      refine g_lv [] rfl ?_
      exact J22   h
    · replace h := if_n b15 h
      refine g_iconst hX (v := nI 1) rfl dX6_fits_18 ?_
      refine g_goto hX 23 (by decide) dX6_fits_19 ?_
      refine g_lv [] rfl ?_
      exact J23 (nI 1)  h
theorem kX6_isKind : mKS yX6_isKind cX6_isKind 1 (some .boolean) 1 := ⟨tSta_X6_isKind, tIni_X6, tCod_X6_isKind, by decide +kernel⟩
set_option maxHeartbeats 4000000 in
set_option maxRecDepth 100000 in
theorem ct_X6_isKind (l : Launch) (D : va_G) (cy : Nat → ClassId) (Z : (Nat → Prop) → State → Heap → Prop) (hzo : zOK Z) {aStr aByt : Nat → Nat} (hzs : zSt Z aStr aByt) (w : va_W) (z0 : Int32) (res : Int32) (h : fn_X6_isKind z0 = some res) : GD l D cy Z yX6_isKind (zW yX6_isKind cX6_isKind 1 (some .boolean)) { frames := 0, cells := 0, slots := 0, locals := 0 } [.int (z0)] w (some (.int res)) w 0 0 := by
  refine g_entry (cc := cX6_isKind) (maxL := 1) (by decide) rfl (Nat.le_of_ble_eq_true rfl) ?_
  intro κ hN hX hR
  have hX : GX κ cy Z cX6_isKind (Cond.code yX6_isKind cX6_isKind 1 (some .boolean) :: zT) RX6 { frames := 0, cells := 0, slots := 0, locals := 0 } := hX
  have J15 : ∀ (s0 : Int32) , fn_X6_isKind_L15 z0 s0 = some res → GW κ 0 0 w 15 [] [.int (s0)] := by
    intro s0 h
    obtain ⟨g1, h⟩ := gd_some h
    exact g_retbD hR g1 (oi_0 h) rfl dX6_isKind_15
  have J14 : fn_X6_isKind_L14 z0  = some res → GW κ 0 0 w 14 [] [] := by
    intro h
    refine g_iconst hX (v := nI 0) rfl dX6_isKind_14 ?_
    exact J15 (nI 0)  h
  show GW κ 0 0 w 0 [(0, .int (z0))] []
  refine g_iload_n hX 0 rfl rfl dX6_isKind_0 ?_
  refine g_if_lt hX 14 (by decide) dX6_isKind_1 (fun b1 => ?_) (fun b1 => ?_)
  · replace h := if_p b1 h
    refine g_lv [] rfl ?_
    exact J14   h
  · replace h := if_n b1 h
    refine g_iload_n hX 0 rfl rfl dX6_isKind_4 ?_
    refine g_bipush hX (v := nI 6) (by decide) dX6_isKind_5 ?_
    refine g_icmp_ge hX 14 (by decide) dX6_isKind_7 (fun b7 => ?_) (fun b7 => ?_)
    · replace h := if_p b7 h
      refine g_lv [] rfl ?_
      exact J14   h
    · replace h := if_n b7 h
      refine g_iconst hX (v := nI 1) rfl dX6_isKind_10 ?_
      refine g_goto hX 15 (by decide) dX6_isKind_11 ?_
      refine g_lv [] rfl ?_
      exact J15 (nI 1)  h
theorem kX6_isSheet : mKS yX6_isSheet cX6_isSheet 1 (some .boolean) 1 := ⟨tSta_X6_isSheet, tIni_X6, tCod_X6_isSheet, by decide +kernel⟩
set_option maxHeartbeats 4000000 in
set_option maxRecDepth 100000 in
theorem ct_X6_isSheet (l : Launch) (D : va_G) (cy : Nat → ClassId) (Z : (Nat → Prop) → State → Heap → Prop) (hzo : zOK Z) {aStr aByt : Nat → Nat} (hzs : zSt Z aStr aByt) (w : va_W) (z0 : Int32) (res : Int32) (h : fn_X6_isSheet z0 = some res) : GD l D cy Z yX6_isSheet (zW yX6_isSheet cX6_isSheet 1 (some .boolean)) { frames := 0, cells := 0, slots := 0, locals := 0 } [.int (z0)] w (some (.int res)) w 0 0 := by
  refine g_entry (cc := cX6_isSheet) (maxL := 1) (by decide) rfl (Nat.le_of_ble_eq_true rfl) ?_
  intro κ hN hX hR
  have hX : GX κ cy Z cX6_isSheet (Cond.code yX6_isSheet cX6_isSheet 1 (some .boolean) :: zT) RX6 { frames := 0, cells := 0, slots := 0, locals := 0 } := hX
  have J14 : ∀ (s0 : Int32) , fn_X6_isSheet_L14 z0 s0 = some res → GW κ 0 0 w 14 [] [.int (s0)] := by
    intro s0 h
    obtain ⟨g1, h⟩ := gd_some h
    exact g_retbD hR g1 (oi_0 h) rfl dX6_isSheet_14
  have J13 : fn_X6_isSheet_L13 z0  = some res → GW κ 0 0 w 13 [] [] := by
    intro h
    refine g_iconst hX (v := nI 0) rfl dX6_isSheet_13 ?_
    exact J14 (nI 0)  h
  show GW κ 0 0 w 0 [(0, .int (z0))] []
  refine g_iload_n hX 0 rfl rfl dX6_isSheet_0 ?_
  refine g_if_lt hX 13 (by decide) dX6_isSheet_1 (fun b1 => ?_) (fun b1 => ?_)
  · replace h := if_p b1 h
    refine g_lv [] rfl ?_
    exact J13   h
  · replace h := if_n b1 h
    refine g_iload_n hX 0 rfl rfl dX6_isSheet_4 ?_
    refine g_iconst hX (v := nI 4) rfl dX6_isSheet_5 ?_
    refine g_icmp_ge hX 13 (by decide) dX6_isSheet_6 (fun b6 => ?_) (fun b6 => ?_)
    · replace h := if_p b6 h
      refine g_lv [] rfl ?_
      exact J13   h
    · replace h := if_n b6 h
      refine g_iconst hX (v := nI 1) rfl dX6_isSheet_9 ?_
      refine g_goto hX 14 (by decide) dX6_isSheet_10 ?_
      refine g_lv [] rfl ?_
      exact J14 (nI 1)  h
theorem kX6_isSlot : mKS yX6_isSlot cX6_isSlot 1 (some .boolean) 1 := ⟨tSta_X6_isSlot, tIni_X6, tCod_X6_isSlot, by decide +kernel⟩
set_option maxHeartbeats 4000000 in
set_option maxRecDepth 100000 in
theorem ct_X6_isSlot (l : Launch) (D : va_G) (cy : Nat → ClassId) (Z : (Nat → Prop) → State → Heap → Prop) (hzo : zOK Z) {aStr aByt : Nat → Nat} (hzs : zSt Z aStr aByt) (w : va_W) (z0 : Int32) (res : Int32) (h : fn_X6_isSlot z0 = some res) : GD l D cy Z yX6_isSlot (zW yX6_isSlot cX6_isSlot 1 (some .boolean)) { frames := 0, cells := 0, slots := 0, locals := 0 } [.int (z0)] w (some (.int res)) w 0 0 := by
  refine g_entry (cc := cX6_isSlot) (maxL := 1) (by decide) rfl (Nat.le_of_ble_eq_true rfl) ?_
  intro κ hN hX hR
  have hX : GX κ cy Z cX6_isSlot (Cond.code yX6_isSlot cX6_isSlot 1 (some .boolean) :: zT) RX6 { frames := 0, cells := 0, slots := 0, locals := 0 } := hX
  have J14 : ∀ (s0 : Int32) , fn_X6_isSlot_L14 z0 s0 = some res → GW κ 0 0 w 14 [] [.int (s0)] := by
    intro s0 h
    obtain ⟨g1, h⟩ := gd_some h
    exact g_retbD hR g1 (oi_0 h) rfl dX6_isSlot_14
  have J13 : fn_X6_isSlot_L13 z0  = some res → GW κ 0 0 w 13 [] [] := by
    intro h
    refine g_iconst hX (v := nI 0) rfl dX6_isSlot_13 ?_
    exact J14 (nI 0)  h
  show GW κ 0 0 w 0 [(0, .int (z0))] []
  refine g_iload_n hX 0 rfl rfl dX6_isSlot_0 ?_
  refine g_if_lt hX 13 (by decide) dX6_isSlot_1 (fun b1 => ?_) (fun b1 => ?_)
  · replace h := if_p b1 h
    refine g_lv [] rfl ?_
    exact J13   h
  · replace h := if_n b1 h
    refine g_iload_n hX 0 rfl rfl dX6_isSlot_4 ?_
    refine g_iconst hX (v := nI 5) rfl dX6_isSlot_5 ?_
    refine g_icmp_ge hX 13 (by decide) dX6_isSlot_6 (fun b6 => ?_) (fun b6 => ?_)
    · replace h := if_p b6 h
      refine g_lv [] rfl ?_
      exact J13   h
    · replace h := if_n b6 h
      refine g_iconst hX (v := nI 1) rfl dX6_isSlot_9 ?_
      refine g_goto hX 14 (by decide) dX6_isSlot_10 ?_
      refine g_lv [] rfl ?_
      exact J14 (nI 1)  h
theorem kX6_isHouse : mKV RX6 yX6_isHouse cX6_isHouse 2 (some .boolean) 1 := ⟨tIns_X6_isHouse, tSel_X6_isHouse, tIni_X6, tCod_X6_isHouse, by decide +kernel⟩
set_option maxHeartbeats 4000000 in
set_option maxRecDepth 100000 in
theorem ct_X6_isHouse (l : Launch) (D : va_G) (cy : Nat → ClassId) (Z : (Nat → Prop) → State → Heap → Prop) (hzo : zOK Z) {aStr aByt : Nat → Nat} (hzs : zSt Z aStr aByt) {q : Nat → Nat} {C : Ev → Sg → va_W} (hC : cLens cy q C) (ε : Ev) (z1 : Int32) (σ σ2 : Sg) (res : Int32) (h : fn_X6_isHouse ε z1 σ = some (res, σ2)) : GD l D cy Z yX6_isHouse (zW yX6_isHouse cX6_isHouse 2 (some .boolean)) { frames := 0, cells := 0, slots := 0, locals := 0 } [.ref (sAd ε (0)), .int (z1)] (C ε σ) (some (.int res)) (C ε σ2) 0 0 := by
  refine g_entry (cc := cX6_isHouse) (maxL := 2) (by decide) rfl (Nat.le_of_ble_eq_true rfl) ?_
  intro κ hN hX hR
  have hX : GX κ cy Z cX6_isHouse (Cond.code yX6_isHouse cX6_isHouse 2 (some .boolean) :: zT) RX6 { frames := 0, cells := 0, slots := 0, locals := 0 } := hX
  have J20 : ∀ (s0 : Int32) (σ : Sg) , fn_X6_isHouse_L20 ε z1 s0 σ = some (res, σ2) → GW κ 0 0 (C ε σ) 20 [] [.int (s0)] := by
    intro s0 σ h
    obtain ⟨g1, h⟩ := gd_some h
    exact g_retbD hR g1 (oi_1 h) (congrArg (C ε) (oi_2 h)) dX6_isHouse_20
  have J19 : ∀ (σ : Sg) , fn_X6_isHouse_L19 ε z1  σ = some (res, σ2) → GW κ 0 0 (C ε σ) 19 [] [] := by
    intro σ h
    refine g_iconst hX (v := nI 0) rfl dX6_isHouse_19 ?_
    exact J20 (nI 0)  σ h
  show GW κ 0 0 (C ε σ) 0 [(0, .ref (sAd ε (0))), (1, .int (z1))] []
  refine g_iload_n hX 1 rfl rfl dX6_isHouse_0 ?_
  refine g_if_lt hX 19 (by decide) dX6_isHouse_1 (fun b1 => ?_) (fun b1 => ?_)
  · replace h := if_p b1 h
    refine g_lv [] rfl ?_
    exact J19   σ h
  · replace h := if_n b1 h
    refine g_iload_n hX 1 rfl rfl dX6_isHouse_4 ?_
    refine g_aload_n hX 0 rfl rfl dX6_isHouse_5 ?_
    refine c_get6 hX hC rfl 0 (by decide) rfl tFld_X6_10 rfl dX6_isHouse_6 ?_
    refine c_get4 hX hC (kst_now rfl) 6 (by decide) rfl tFld_X6_60 rfl dX6_isHouse_9 ?_
    refine g_icmp_ge hX 19 (by decide) dX6_isHouse_12 (fun b12 => ?_) (fun b12 => ?_)
    · replace h := if_p b12 h
      refine g_lv [] rfl ?_
      exact J19   σ h
    · replace h := if_n b12 h
      refine g_iconst hX (v := nI 1) rfl dX6_isHouse_15 ?_
      refine g_goto hX 20 (by decide) dX6_isHouse_16 ?_
      refine g_lv [] rfl ?_
      exact J20 (nI 1)  σ h
theorem kX6_thinkOf : mKV RX6 yX6_thinkOf cX6_thinkOf 2 (some (.object "LeaningStreet$Street")) 1 := ⟨tIns_X6_thinkOf, tSel_X6_thinkOf, tIni_X6, tCod_X6_thinkOf, by decide +kernel⟩
set_option maxHeartbeats 4000000 in
set_option maxRecDepth 100000 in
theorem ct_X6_thinkOf (l : Launch) (D : va_G) (cy : Nat → ClassId) (Z : (Nat → Prop) → State → Heap → Prop) (hzo : zOK Z) {aStr aByt : Nat → Nat} (hzs : zSt Z aStr aByt) {q : Nat → Nat} {C : Ev → Sg → va_W} (hC : cLens cy q C) (ε : Ev) (c1 : Nat) (hc1 : isX4 c1) (σ σ2 : Sg) (res : Nat) (h : fn_X6_thinkOf ε c1 σ = some (res, σ2)) : GD l D cy Z yX6_thinkOf (zW yX6_thinkOf cX6_thinkOf 2 (some (.object "LeaningStreet$Street"))) { frames := 2, cells := 0, slots := 0, locals := 43 } [.ref (sAd ε (0)), .ref (sAd ε (c1))] (C ε σ) (some (.ref (sAd ε res))) (C ε σ2) 0 0 := by
  refine g_entry (cc := cX6_thinkOf) (maxL := 2) (by decide) rfl (Nat.le_of_ble_eq_true rfl) ?_
  intro κ hN hX hR
  have hX : GX κ cy Z cX6_thinkOf (Cond.code yX6_thinkOf cX6_thinkOf 2 (some (.object "LeaningStreet$Street")) :: zT) RX6 { frames := 2, cells := 0, slots := 0, locals := 43 } := hX
  show GW κ 0 0 (C ε σ) 0 [(0, .ref (sAd ε (0))), (1, .ref (sAd ε (c1)))] []
  refine g_aload_n hX 0 rfl rfl dX6_thinkOf_0 ?_
  refine c_get6 hX hC rfl 2 (by decide) rfl tFld_X6_19 rfl dX6_thinkOf_1 ?_
  refine g_aload_n hX 1 rfl rfl dX6_thinkOf_4 ?_
  obtain ⟨y5, τ5, e5, h⟩ := ob_some h
  refine c_call4 hX hC hzo (kst_tho rfl) [.ref (sAd ε (c1))] [] (ct_X4_beLike _ _ _ _ hzo hzs hC ε 48 (kst_tho rfl) c1 hc1 σ _ _ e5) kX4_beLike tMet_X6_303 rfl rfl (Nat.le_of_ble_eq_true rfl) (Nat.le_of_ble_eq_true rfl) ⟨Nat.le_of_ble_eq_true rfl, Nat.le_of_ble_eq_true rfl⟩ rfl rfl (Nat.le_of_ble_eq_true rfl) dX6_thinkOf_5 ?_
  refine g_aload_n hX 0 rfl rfl dX6_thinkOf_8 ?_
  refine c_get6 hX hC rfl 2 (by decide) rfl tFld_X6_19 rfl dX6_thinkOf_9 ?_
  exact g_retrD hR (congrArg (sAd ε) (oi_1 h)) (congrArg (C ε) (oi_2 h)) dX6_thinkOf_12
theorem kX6_thinkWithoutWall : mKV RX6 yX6_thinkWithoutWall cX6_thinkWithoutWall 3 none 2 := ⟨tIns_X6_thinkWithoutWall, tSel_X6_thinkWithoutWall, tIni_X6, tCod_X6_thinkWithoutWall, by decide +kernel⟩
set_option maxHeartbeats 4000000 in
set_option maxRecDepth 100000 in
theorem ct_X6_thinkWithoutWall (l : Launch) (D : va_G) (cy : Nat → ClassId) (Z : (Nat → Prop) → State → Heap → Prop) (hzo : zOK Z) {aStr aByt : Nat → Nat} (hzs : zSt Z aStr aByt) {q : Nat → Nat} {C : Ev → Sg → va_W} (hC : cLens cy q C) (ε : Ev) (z1 : Int32) (z2 : Int32) (σ σ2 : Sg) (res : Unit) (h : fn_X6_thinkWithoutWall ε z1 z2 σ = some (res, σ2)) : GD l D cy Z yX6_thinkWithoutWall (zW yX6_thinkWithoutWall cX6_thinkWithoutWall 3 none) { frames := 6, cells := 0, slots := 0, locals := 139 } [.ref (sAd ε (0)), .int (z1), .int (z2)] (C ε σ) none (C ε σ2) 0 0 := by
  refine g_entry (cc := cX6_thinkWithoutWall) (maxL := 3) (by decide) rfl (Nat.le_of_ble_eq_true rfl) ?_
  intro κ hN hX hR
  have hX : GX κ cy Z cX6_thinkWithoutWall (Cond.code yX6_thinkWithoutWall cX6_thinkWithoutWall 3 none :: zT) RX6 { frames := 6, cells := 0, slots := 0, locals := 139 } := hX
  show GW κ 0 0 (C ε σ) 0 [(0, .ref (sAd ε (0))), (1, .int (z1)), (2, .int (z2))] []
  refine g_aload_n hX 0 rfl rfl dX6_thinkWithoutWall_0 ?_
  refine g_aload_n hX 0 rfl rfl dX6_thinkWithoutWall_1 ?_
  refine c_get6 hX hC rfl 0 (by decide) rfl tFld_X6_10 rfl dX6_thinkWithoutWall_2 ?_
  obtain ⟨y5, τ5, e5, h⟩ := ob_some h
  refine c_call6 hX hC hzo rfl [.ref (sAd ε (16))] [] (ct_X6_thinkOf _ _ _ _ hzo hzs hC ε 16 (kst_now rfl) σ _ _ e5) kX6_thinkOf tMet_X6_166 rfl rfl (Nat.le_of_ble_eq_true rfl) (Nat.le_of_ble_eq_true rfl) ⟨Nat.le_of_ble_eq_true rfl, Nat.le_of_ble_eq_true rfl⟩ rfl rfl (Nat.le_of_ble_eq_true rfl) dX6_thinkWithoutWall_5 ?_
  obtain ⟨g1, h⟩ := gd_some h
  refine c_get4 hX hC g1 0 (by decide) rfl tFld_X6_72 rfl dX6_thinkWithoutWall_8 ?_
  refine g_iload_n hX 1 rfl rfl dX6_thinkWithoutWall_11 ?_
  obtain ⟨g2, h⟩ := gd_some h
  refine c_aald hX hC (kq_X4_1 g1) rfl g2 (v := .ref (sAd ε (y5 + 7 + z1.toNatClampNeg))) rfl dX6_thinkWithoutWall_12 ?_
  refine g_iconst hX (v := nI 0) rfl dX6_thinkWithoutWall_13 ?_
  refine c_put0 (ty := .int) hX hC (kh_X4 g1 (vin_lt g2)) 3 (by decide) (cs_X0 ε _ _ _).2.2.2.1 rfl (by decide +kernel) rfl rfl tFld_X6_108 rfl dX6_thinkWithoutWall_14 ?_
  refine g_aload_n hX 0 rfl rfl dX6_thinkWithoutWall_17 ?_
  refine c_get6 hX hC rfl 2 (by decide) rfl tFld_X6_19 rfl dX6_thinkWithoutWall_18 ?_
  refine g_iload_n hX 2 rfl rfl dX6_thinkWithoutWall_21 ?_
  obtain ⟨y22, τ22, e22, h⟩ := ob_some h
  refine c_call4 hX hC hzo (kst_tho rfl) [.int (z2)] [] (ct_X4_goOn _ _ _ _ hzo hzs hC ε 48 (kst_tho rfl) z2 (pI τ5 (y5 + 7 + z1.toNatClampNeg) 3 (nI 0)) _ _ e22) kX4_goOn tMet_X6_147 rfl rfl (Nat.le_of_ble_eq_true rfl) (Nat.le_of_ble_eq_true rfl) ⟨Nat.le_of_ble_eq_true rfl, Nat.le_of_ble_eq_true rfl⟩ rfl rfl (Nat.le_of_ble_eq_true rfl) dX6_thinkWithoutWall_22 ?_
  exact g_retv hR (congrArg (C ε) (oi_2 h)) dX6_thinkWithoutWall_25
theorem kX6_isEnough : mKV RX6 yX6_isEnough cX6_isEnough 4 (some .boolean) 3 := ⟨tIns_X6_isEnough, tSel_X6_isEnough, tIni_X6, tCod_X6_isEnough, by decide +kernel⟩
set_option maxHeartbeats 4000000 in
set_option maxRecDepth 100000 in
theorem ct_X6_isEnough (l : Launch) (D : va_G) (cy : Nat → ClassId) (Z : (Nat → Prop) → State → Heap → Prop) (hzo : zOK Z) {aStr aByt : Nat → Nat} (hzs : zSt Z aStr aByt) {q : Nat → Nat} {C : Ev → Sg → va_W} (hC : cLens cy q C) (ε : Ev) (z1 : Int32) (z2 : Int32) (z3 : Int32) (σ σ2 : Sg) (res : Int32) (h : fn_X6_isEnough ε z1 z2 z3 σ = some (res, σ2)) : GD l D cy Z yX6_isEnough (zW yX6_isEnough cX6_isEnough 4 (some .boolean)) { frames := 6, cells := 0, slots := 0, locals := 141 } [.ref (sAd ε (0)), .int (z1), .int (z2), .int (z3)] (C ε σ) (some (.int res)) (C ε σ2) 0 0 := by
  refine g_entry (cc := cX6_isEnough) (maxL := 4) (by decide) rfl (Nat.le_of_ble_eq_true rfl) ?_
  intro κ hN hX hR
  have hX : GX κ cy Z cX6_isEnough (Cond.code yX6_isEnough cX6_isEnough 4 (some .boolean) :: zT) RX6 { frames := 6, cells := 0, slots := 0, locals := 141 } := hX
  obtain ⟨tMOST, hMOST⟩ := zt_MOST hX hzs
  have J62 : ∀ (s0 : Int32) (σ : Sg) , fn_X6_isEnough_L62 ε z1 z2 z3 s0 σ = some (res, σ2) → GW κ 0 0 (C ε σ) 62 [] [.int (s0)] := by
    intro s0 σ h
    obtain ⟨g1, h⟩ := gd_some h
    exact g_retbD hR g1 (oi_1 h) (congrArg (C ε) (oi_2 h)) dX6_isEnough_62
  show GW κ 0 0 (C ε σ) 0 [(0, .ref (sAd ε (0))), (1, .int (z1)), (2, .int (z2)), (3, .int (z3))] []
  refine g_aload_n hX 0 rfl rfl dX6_isEnough_0 ?_
  refine c_get6 hX hC rfl 0 (by decide) rfl tFld_X6_10 rfl dX6_isEnough_1 ?_
  refine c_get4 hX hC (kst_now rfl) 0 (by decide) rfl tFld_X6_72 rfl dX6_isEnough_4 ?_
  refine g_iload_n hX 1 rfl rfl dX6_isEnough_7 ?_
  obtain ⟨g2, h⟩ := gd_some h
  refine c_aald hX hC (kq_X4_1 (kst_now rfl)) rfl g2 (v := .ref (sAd ε (23 + z1.toNatClampNeg))) rfl dX6_isEnough_8 ?_
  refine c_get0 hX hC (kh_X4 (kst_now rfl) (vin_lt g2)) 5 (by decide) rfl tFld_X6_215 rfl dX6_isEnough_9 ?_
  refine g_iload_n hX 2 rfl rfl dX6_isEnough_12 ?_
  refine g_iadd hX dX6_isEnough_13 ?_
  refine g_tab hX hMOST (zu tFld_X6_181 rfl) dX6_isEnough_14 ?_
  refine g_iconst hX (v := nI 5) rfl dX6_isEnough_17 ?_
  obtain ⟨g3, h⟩ := gd_some h
  refine g_tabi hX hMOST g3 dX6_isEnough_18 ?_
  refine g_icmp_le hX 24 (by decide) dX6_isEnough_19 (fun b19 => ?_) (fun b19 => ?_)
  · replace h := if_p b19 h
    refine g_aload_n hX 0 rfl rfl dX6_isEnough_24 ?_
    refine g_aload_n hX 0 rfl rfl dX6_isEnough_25 ?_
    refine c_get6 hX hC rfl 0 (by decide) rfl tFld_X6_10 rfl dX6_isEnough_26 ?_
    obtain ⟨y29, τ29, e29, h⟩ := ob_some h
    refine c_call6 hX hC hzo rfl [.ref (sAd ε (16))] [] (ct_X6_thinkOf _ _ _ _ hzo hzs hC ε 16 (kst_now rfl) σ _ _ e29) kX6_thinkOf tMet_X6_166 rfl rfl (Nat.le_of_ble_eq_true rfl) (Nat.le_of_ble_eq_true rfl) ⟨Nat.le_of_ble_eq_true rfl, Nat.le_of_ble_eq_true rfl⟩ rfl rfl (Nat.le_of_ble_eq_true rfl) dX6_isEnough_29 ?_
    obtain ⟨g4, h⟩ := gd_some h
    refine c_get4 hX hC g4 0 (by decide) rfl tFld_X6_72 rfl dX6_isEnough_32 ?_
    refine g_iload_n hX 1 rfl rfl dX6_isEnough_35 ?_
    refine c_aald hX hC (kq_X4_1 g4) rfl g2 (v := .ref (sAd ε (y29 + 7 + z1.toNatClampNeg))) rfl dX6_isEnough_36 ?_
    refine g_dup hX rfl dX6_isEnough_37 ?_
    refine c_get0 hX hC (kh_X4 g4 (vin_lt g2)) 5 (by decide) rfl tFld_X6_215 rfl dX6_isEnough_38 ?_
    refine g_iload_n hX 2 rfl rfl dX6_isEnough_41 ?_
    refine g_iadd hX dX6_isEnough_42 ?_
    refine c_put0 (ty := .int) hX hC (kh_X4 g4 (vin_lt g2)) 5 (by decide) (cs_X0 ε _ _ _).2.2.2.2.2.1 rfl (by decide +kernel) rfl rfl tFld_X6_215 rfl dX6_isEnough_43 ?_
    refine g_aload_n hX 0 rfl rfl dX6_isEnough_46 ?_
    refine c_get6 hX hC rfl 2 (by decide) rfl tFld_X6_19 rfl dX6_isEnough_47 ?_
    refine g_iload_n hX 3 rfl rfl dX6_isEnough_50 ?_
    obtain ⟨y51, τ51, e51, h⟩ := ob_some h
    refine c_call4 hX hC hzo (kst_tho rfl) [.int (z3)] [] (ct_X4_firstFall _ _ _ _ hzo hzs hC ε 48 (kst_tho rfl) z3 (pI τ29 (y29 + 7 + z1.toNatClampNeg) 5 ((τ29.1 (y29 + 7 + z1.toNatClampNeg) 5 + z2))) _ _ e51) kX4_firstFall tMet_X6_173 rfl rfl (Nat.le_of_ble_eq_true rfl) (Nat.le_of_ble_eq_true rfl) ⟨Nat.le_of_ble_eq_true rfl, Nat.le_of_ble_eq_true rfl⟩ rfl rfl (Nat.le_of_ble_eq_true rfl) dX6_isEnough_51 ?_
    refine g_if_ne hX 61 (by decide) dX6_isEnough_54 (fun b54 => ?_) (fun b54 => ?_)
    · replace h := if_n b54 h
      refine g_iconst hX (v := nI 0) rfl dX6_isEnough_61 ?_
      refine g_lv [] rfl ?_
      exact J62 (nI 0)  τ51 h
    · replace h := if_p b54 h
      refine g_iconst hX (v := nI 1) rfl dX6_isEnough_57 ?_
      refine g_goto hX 62 (by decide) dX6_isEnough_58 ?_
      refine g_lv [] rfl ?_
      exact J62 (nI 1)  τ51 h
  · replace h := if_n b19 h
    refine g_iconst hX (v := nI 0) rfl dX6_isEnough_22 ?_
    exact g_retbD hR (by decide) (oi_1 h) (congrArg (C ε) (oi_2 h)) dX6_isEnough_23
theorem kX6_house : mKV RX6 yX6_house cX6_house 5 (some .int) 4 := ⟨tIns_X6_house, tSel_X6_house, tIni_X6, tCod_X6_house, by decide +kernel⟩
set_option maxHeartbeats 4000000 in
set_option maxRecDepth 100000 in
theorem ct_X6_house (l : Launch) (D : va_G) (cy : Nat → ClassId) (Z : (Nat → Prop) → State → Heap → Prop) (hzo : zOK Z) {aStr aByt : Nat → Nat} (hzs : zSt Z aStr aByt) {q : Nat → Nat} {C : Ev → Sg → va_W} (hC : cLens cy q C) (ε : Ev) (z1 : Int32) (z2 : Int32) (z3 : Int32) (z4 : Int32) (σ σ2 : Sg) (res : Int32) (h : fn_X6_house ε z1 z2 z3 z4 σ = some (res, σ2)) : GD l D cy Z yX6_house (zW yX6_house cX6_house 5 (some .int)) { frames := 2, cells := 0, slots := 0, locals := 45 } [.ref (sAd ε (0)), .int (z1), .int (z2), .int (z3), .int (z4)] (C ε σ) (some (.int res)) (C ε σ2) 0 0 := by
  refine g_entry (cc := cX6_house) (maxL := 5) (by decide) rfl (Nat.le_of_ble_eq_true rfl) ?_
  intro κ hN hX hR
  have hX : GX κ cy Z cX6_house (Cond.code yX6_house cX6_house 5 (some .int) :: zT) RX6 { frames := 2, cells := 0, slots := 0, locals := 45 } := hX
  have J33 : ∀ (σ : Sg) , fn_X6_house_L33 ε z1 z2 z3 z4  σ = some (res, σ2) → GW κ 0 0 (C ε σ) 33 [] [] := by
    intro σ h
    refine g_ldc hX (v := -1000000001) (zu tCon_X6_59 rfl) dX6_house_33 ?_
    exact g_reti hR (oi_1 h) (congrArg (C ε) (oi_2 h)) dX6_house_35
  show GW κ 0 0 (C ε σ) 0 [(0, .ref (sAd ε (0))), (1, .int (z1)), (2, .int (z2)), (3, .int (z3)), (4, .int (z4))] []
  refine g_iconst hX (v := nI 0) rfl dX6_house_0 ?_
  refine g_iload_n hX 1 rfl rfl dX6_house_1 ?_
  obtain ⟨y2, e2, h⟩ := o1_some h
  refine s_call hX hzo [.int (nI 0), .int (z1)] [] (ct_X6_fits _ _ _ _ hzo hzs _ (nI 0) z1 _ e2) kX6_fits tMet_X6_55 rfl rfl (Nat.le_of_ble_eq_true rfl) (Nat.le_of_ble_eq_true rfl) ⟨Nat.le_of_ble_eq_true rfl, Nat.le_of_ble_eq_true rfl⟩ rfl rfl (Nat.le_of_ble_eq_true rfl) dX6_house_2 ?_
  refine g_if_eq hX 33 (by decide) dX6_house_5 (fun b5 => ?_) (fun b5 => ?_)
  · replace h := if_p b5 h
    refine g_lv [] rfl ?_
    exact J33   σ h
  · replace h := if_n b5 h
    refine g_iconst hX (v := nI 1) rfl dX6_house_8 ?_
    refine g_iload_n hX 2 rfl rfl dX6_house_9 ?_
    obtain ⟨y10, e10, h⟩ := o1_some h
    refine s_call hX hzo [.int (nI 1), .int (z2)] [] (ct_X6_fits _ _ _ _ hzo hzs _ (nI 1) z2 _ e10) kX6_fits tMet_X6_55 rfl rfl (Nat.le_of_ble_eq_true rfl) (Nat.le_of_ble_eq_true rfl) ⟨Nat.le_of_ble_eq_true rfl, Nat.le_of_ble_eq_true rfl⟩ rfl rfl (Nat.le_of_ble_eq_true rfl) dX6_house_10 ?_
    refine g_if_eq hX 33 (by decide) dX6_house_13 (fun b13 => ?_) (fun b13 => ?_)
    · replace h := if_p b13 h
      refine g_lv [] rfl ?_
      exact J33   σ h
    · replace h := if_n b13 h
      refine g_iconst hX (v := nI 2) rfl dX6_house_16 ?_
      refine g_iload_n hX 3 rfl rfl dX6_house_17 ?_
      obtain ⟨y18, e18, h⟩ := o1_some h
      refine s_call hX hzo [.int (nI 2), .int (z3)] [] (ct_X6_fits _ _ _ _ hzo hzs _ (nI 2) z3 _ e18) kX6_fits tMet_X6_55 rfl rfl (Nat.le_of_ble_eq_true rfl) (Nat.le_of_ble_eq_true rfl) ⟨Nat.le_of_ble_eq_true rfl, Nat.le_of_ble_eq_true rfl⟩ rfl rfl (Nat.le_of_ble_eq_true rfl) dX6_house_18 ?_
      refine g_if_eq hX 33 (by decide) dX6_house_21 (fun b21 => ?_) (fun b21 => ?_)
      · replace h := if_p b21 h
        refine g_lv [] rfl ?_
        exact J33   σ h
      · replace h := if_n b21 h
        refine g_iconst hX (v := nI 3) rfl dX6_house_24 ?_
        refine g_iload hX 4 rfl dX6_house_25 ?_
        obtain ⟨y27, e27, h⟩ := o1_some h
        refine s_call hX hzo [.int (nI 3), .int (z4)] [] (ct_X6_fits _ _ _ _ hzo hzs _ (nI 3) z4 _ e27) kX6_fits tMet_X6_55 rfl rfl (Nat.le_of_ble_eq_true rfl) (Nat.le_of_ble_eq_true rfl) ⟨Nat.le_of_ble_eq_true rfl, Nat.le_of_ble_eq_true rfl⟩ rfl rfl (Nat.le_of_ble_eq_true rfl) dX6_house_27 ?_
        refine g_if_ne hX 36 (by decide) dX6_house_30 (fun b30 => ?_) (fun b30 => ?_)
        · replace h := if_n b30 h
          refine g_aload_n hX 0 rfl rfl dX6_house_36 ?_
          refine c_get6 hX hC rfl 0 (by decide) rfl tFld_X6_10 rfl dX6_house_37 ?_
          refine c_get4 hX hC (kst_now rfl) 6 (by decide) rfl tFld_X6_60 rfl dX6_house_40 ?_
          refine g_bipush hX (v := nI 9) (by decide) dX6_house_43 ?_
          refine g_icmp_lt hX 51 (by decide) dX6_house_45 (fun b45 => ?_) (fun b45 => ?_)
          · replace h := if_p b45 h
            refine g_aload_n hX 0 rfl rfl dX6_house_51 ?_
            refine c_get6 hX hC rfl 0 (by decide) rfl tFld_X6_10 rfl dX6_house_52 ?_
            refine g_iload_n hX 1 rfl rfl dX6_house_55 ?_
            refine g_iload_n hX 2 rfl rfl dX6_house_56 ?_
            refine g_iload_n hX 3 rfl rfl dX6_house_57 ?_
            refine g_iload hX 4 rfl dX6_house_58 ?_
            obtain ⟨y60, τ60, e60, h⟩ := ob_some h
            refine c_call4 hX hC hzo (kst_now rfl) [.int (z1), .int (z2), .int (z3), .int (z4)] [] (ct_X4_build _ _ _ _ hzo hzs hC ε 16 (kst_now rfl) z1 z2 z3 z4 σ _ _ e60) kX4_build tMet_X6_64 rfl rfl (Nat.le_of_ble_eq_true rfl) (Nat.le_of_ble_eq_true rfl) ⟨Nat.le_of_ble_eq_true rfl, Nat.le_of_ble_eq_true rfl⟩ rfl rfl (Nat.le_of_ble_eq_true rfl) dX6_house_60 ?_
            refine g_aload_n hX 0 rfl rfl dX6_house_63 ?_
            refine c_get6 hX hC rfl 0 (by decide) rfl tFld_X6_10 rfl dX6_house_64 ?_
            refine c_get4 hX hC (kst_now rfl) 6 (by decide) rfl tFld_X6_60 rfl dX6_house_67 ?_
            refine g_iconst hX (v := nI 1) rfl dX6_house_70 ?_
            refine g_isub hX dX6_house_71 ?_
            exact g_reti hR (oi_1 h) (congrArg (C ε) (oi_2 h)) dX6_house_72
          · replace h := if_n b45 h
            refine g_ldc hX (v := -1000000003) (zu tCon_X6_63 rfl) dX6_house_48 ?_
            exact g_reti hR (oi_1 h) (congrArg (C ε) (oi_2 h)) dX6_house_50
        · replace h := if_p b30 h
          refine g_lv [] rfl ?_
          exact J33   σ h
theorem kX6_told : mKV RX6 yX6_told cX6_told 4 (some .int) 2 := ⟨tIns_X6_told, tSel_X6_told, tIni_X6, tCod_X6_told, by decide +kernel⟩
set_option maxHeartbeats 4000000 in
set_option maxRecDepth 100000 in
theorem ct_X6_told (l : Launch) (D : va_G) (cy : Nat → ClassId) (Z : (Nat → Prop) → State → Heap → Prop) (hzo : zOK Z) {aStr aByt : Nat → Nat} (hzs : zSt Z aStr aByt) {q : Nat → Nat} {C : Ev → Sg → va_W} (hC : cLens cy q C) (ε : Ev) (z1 : Int32) (z2 : Int32) (σ σ2 : Sg) (res : Int32) (h : fn_X6_told ε z1 z2 σ = some (res, σ2)) : GD l D cy Z yX6_told (zW yX6_told cX6_told 4 (some .int)) { frames := 4, cells := 0, slots := 0, locals := 95 } [.ref (sAd ε (0)), .int (z1), .int (z2)] (C ε σ) (some (.int res)) (C ε σ2) 0 0 := by
  refine g_entry (cc := cX6_told) (maxL := 4) (by decide) rfl (Nat.le_of_ble_eq_true rfl) ?_
  intro κ hN hX hR
  have hX : GX κ cy Z cX6_told (Cond.code yX6_told cX6_told 4 (some .int) :: zT) RX6 { frames := 4, cells := 0, slots := 0, locals := 95 } := hX
  have J80 : ∀ (s0 : Int32) (σ : Sg) , fn_X6_told_L80 ε z1 z2 s0 σ = some (res, σ2) → GW κ 0 0 (C ε σ) 80 [] [.int (s0)] := by
    intro s0 σ h
    exact g_reti hR (oi_1 h) (congrArg (C ε) (oi_2 h)) dX6_told_80
  have J18 : ∀ (σ : Sg) , fn_X6_told_L18 ε z1 z2  σ = some (res, σ2) → GW κ 0 0 (C ε σ) 18 [] [] := by
    intro σ h
    refine g_ldc hX (v := -1000000001) (zu tCon_X6_59 rfl) dX6_told_18 ?_
    exact g_reti hR (oi_1 h) (congrArg (C ε) (oi_2 h)) dX6_told_20
  show GW κ 0 0 (C ε σ) 0 [(0, .ref (sAd ε (0))), (1, .int (z1)), (2, .int (z2))] []
  refine g_aload_n hX 0 rfl rfl dX6_told_0 ?_
  refine g_iload_n hX 1 rfl rfl dX6_told_1 ?_
  obtain ⟨y2, τ2, e2, h⟩ := ob_some h
  refine c_call6 hX hC hzo rfl [.int (z1)] [] (ct_X6_isHouse _ _ _ _ hzo hzs hC ε z1 σ _ _ e2) kX6_isHouse tMet_X6_68 rfl rfl (Nat.le_of_ble_eq_true rfl) (Nat.le_of_ble_eq_true rfl) ⟨Nat.le_of_ble_eq_true rfl, Nat.le_of_ble_eq_true rfl⟩ rfl rfl (Nat.le_of_ble_eq_true rfl) dX6_told_2 ?_
  refine g_if_eq hX 18 (by decide) dX6_told_5 (fun b5 => ?_) (fun b5 => ?_)
  · replace h := if_p b5 h
    refine g_lv [] rfl ?_
    exact J18   τ2 h
  · replace h := if_n b5 h
    refine g_iload_n hX 2 rfl rfl dX6_told_8 ?_
    refine g_if_lt hX 18 (by decide) dX6_told_9 (fun b9 => ?_) (fun b9 => ?_)
    · replace h := if_p b9 h
      refine g_lv [] rfl ?_
      exact J18   τ2 h
    · replace h := if_n b9 h
      refine g_iload_n hX 2 rfl rfl dX6_told_12 ?_
      refine g_bipush hX (v := nI 10) (by decide) dX6_told_13 ?_
      refine g_icmp_le hX 21 (by decide) dX6_told_15 (fun b15 => ?_) (fun b15 => ?_)
      · replace h := if_p b15 h
        refine g_aload_n hX 0 rfl rfl dX6_told_21 ?_
        refine c_get6 hX hC rfl 0 (by decide) rfl tFld_X6_10 rfl dX6_told_22 ?_
        refine c_get4 hX hC (kst_now rfl) 0 (by decide) rfl tFld_X6_72 rfl dX6_told_25 ?_
        refine g_iload_n hX 1 rfl rfl dX6_told_28 ?_
        obtain ⟨g1, h⟩ := gd_some h
        refine c_aald hX hC (kq_X4_1 (kst_now rfl)) rfl g1 (v := .ref (sAd ε (23 + z1.toNatClampNeg))) rfl dX6_told_29 ?_
        refine g_astore_n (lv2 := [(3, .ref (sAd ε (23 + z1.toNatClampNeg))), (0, .ref (sAd ε (0))), (1, .int (z1)), (2, .int (z2))]) hX 3 4 hN rfl (by decide) rfl dX6_told_30 ?_
        refine g_iload_n hX 3 rfl rfl dX6_told_31 ?_
        rcases sw_in (z2) 6 10 (by decide) with w32 | ⟨j32, w32a, w32b, w32⟩
        · replace h := if_n (sw_out w32 6 (by decide) (by decide) (by decide)) h
          replace h := if_n (sw_out w32 7 (by decide) (by decide) (by decide)) h
          replace h := if_n (sw_out w32 8 (by decide) (by decide) (by decide)) h
          replace h := if_n (sw_out w32 9 (by decide) (by decide) (by decide)) h
          replace h := if_n (sw_out w32 10 (by decide) (by decide) (by decide)) h
          refine g_tableOut hX 117 w32 (by decide) dX6_told_32 ?_
          refine g_aload_n hX 0 rfl rfl dX6_told_117 ?_
          refine g_iload_n hX 3 rfl rfl dX6_told_118 ?_
          obtain ⟨y119, τ119, e119, h⟩ := ob_some h
          refine c_call0 hX hC hzo (kh_X4 (kst_now rfl) (vin_lt g1)) [.int (z2)] [] (ct_X0_part _ _ _ _ hzo hzs hC ε (23 + z1.toNatClampNeg) (kh_X4 (kst_now rfl) (vin_lt g1)) z2 τ2 _ _ e119) kX0_part tMet_X6_98 rfl rfl (Nat.le_of_ble_eq_true rfl) (Nat.le_of_ble_eq_true rfl) ⟨Nat.le_of_ble_eq_true rfl, Nat.le_of_ble_eq_true rfl⟩ rfl rfl (Nat.le_of_ble_eq_true rfl) dX6_told_119 ?_
          exact g_reti hR (oi_1 h) (congrArg (C ε) (oi_2 h)) dX6_told_122
        · have hj : j32 = 6 ∨ j32 = 7 ∨ j32 = 8 ∨ j32 = 9 ∨ j32 = 10 := by omega
          rcases hj with rfl | rfl | rfl | rfl | rfl
          · replace h := if_p w32 h
            refine g_top (y := .int (nI 6)) (congrArg Value.int w32) ?_
            refine g_tableIn hX 68 (by decide) (by decide) rfl (by decide) dX6_told_32 ?_
            refine g_aload_n hX 0 rfl rfl dX6_told_68 ?_
            refine c_get0 hX hC (kh_X4 (kst_now rfl) (vin_lt g1)) 6 (by decide) rfl tFld_X6_76 rfl dX6_told_69 ?_
            refine g_if_eq hX 79 (by decide) dX6_told_72 (fun b72 => ?_) (fun b72 => ?_)
            · replace h := if_p b72 h
              refine g_iconst hX (v := nI 0) rfl dX6_told_79 ?_
              refine g_lv [] rfl ?_
              exact J80 (nI 0)  τ2 h
            · replace h := if_n b72 h
              refine g_iconst hX (v := nI 1) rfl dX6_told_75 ?_
              refine g_goto hX 80 (by decide) dX6_told_76 ?_
              refine g_lv [] rfl ?_
              exact J80 (nI 1)  τ2 h
          · replace h := if_n (by rw [w32]; decide) h
            replace h := if_p w32 h
            refine g_top (y := .int (nI 7)) (congrArg Value.int w32) ?_
            refine g_tableIn hX 81 (by decide) (by decide) rfl (by decide) dX6_told_32 ?_
            refine g_aload_n hX 1 rfl rfl dX6_told_81 ?_
            refine c_get6 hX hC rfl 0 (by decide) rfl tFld_X6_10 rfl dX6_told_82 ?_
            refine g_aload_n hX 0 rfl rfl dX6_told_85 ?_
            obtain ⟨y86, τ86, e86, h⟩ := ob_some h
            refine c_call4 hX hC hzo (kst_now rfl) [.ref (sAd ε (23 + z1.toNatClampNeg))] [] (ct_X4_pushOf _ _ _ _ hzo hzs hC ε 16 (kst_now rfl) (23 + z1.toNatClampNeg) (kh_X4 (kst_now rfl) (vin_lt g1)) τ2 _ _ e86) kX4_pushOf tMet_X6_81 rfl rfl (Nat.le_of_ble_eq_true rfl) (Nat.le_of_ble_eq_true rfl) ⟨Nat.le_of_ble_eq_true rfl, Nat.le_of_ble_eq_true rfl⟩ rfl rfl (Nat.le_of_ble_eq_true rfl) dX6_told_86 ?_
            exact g_reti hR (oi_1 h) (congrArg (C ε) (oi_2 h)) dX6_told_89
          · replace h := if_n (by rw [w32]; decide) h
            replace h := if_n (by rw [w32]; decide) h
            replace h := if_p w32 h
            refine g_top (y := .int (nI 8)) (congrArg Value.int w32) ?_
            refine g_tableIn hX 90 (by decide) (by decide) rfl (by decide) dX6_told_32 ?_
            refine g_aload_n hX 0 rfl rfl dX6_told_90 ?_
            obtain ⟨y91, τ91, e91, h⟩ := ob_some h
            refine c_call0 hX hC hzo (kh_X4 (kst_now rfl) (vin_lt g1)) [] [] (ct_X0_bearing _ _ _ _ hzo hzs hC ε (23 + z1.toNatClampNeg) (kh_X4 (kst_now rfl) (vin_lt g1)) τ2 _ _ e91) kX0_bearing tMet_X6_85 rfl rfl (Nat.le_of_ble_eq_true rfl) (Nat.le_of_ble_eq_true rfl) ⟨Nat.le_of_ble_eq_true rfl, Nat.le_of_ble_eq_true rfl⟩ rfl rfl (Nat.le_of_ble_eq_true rfl) dX6_told_91 ?_
            exact g_reti hR (oi_1 h) (congrArg (C ε) (oi_2 h)) dX6_told_94
          · replace h := if_n (by rw [w32]; decide) h
            replace h := if_n (by rw [w32]; decide) h
            replace h := if_n (by rw [w32]; decide) h
            replace h := if_p w32 h
            refine g_top (y := .int (nI 9)) (congrArg Value.int w32) ?_
            refine g_tableIn hX 95 (by decide) (by decide) rfl (by decide) dX6_told_32 ?_
            refine g_aload_n hX 1 rfl rfl dX6_told_95 ?_
            refine c_get6 hX hC rfl 0 (by decide) rfl tFld_X6_10 rfl dX6_told_96 ?_
            obtain ⟨y99, τ99, e99, h⟩ := ob_some h
            refine c_call4 hX hC hzo (kst_now rfl) [] [] (ct_X4_workOutThrusts _ _ _ _ hzo hzs hC ε 16 (kst_now rfl) τ2 _ _ e99) kX4_workOutThrusts tMet_X6_89 rfl rfl (Nat.le_of_ble_eq_true rfl) (Nat.le_of_ble_eq_true rfl) ⟨Nat.le_of_ble_eq_true rfl, Nat.le_of_ble_eq_true rfl⟩ rfl rfl (Nat.le_of_ble_eq_true rfl) dX6_told_99 ?_
            refine g_aload_n hX 1 rfl rfl dX6_told_102 ?_
            refine c_get6 hX hC rfl 0 (by decide) rfl tFld_X6_10 rfl dX6_told_103 ?_
            refine c_get4 hX hC (kst_now rfl) 3 (by decide) rfl tFld_X6_92 rfl dX6_told_106 ?_
            refine g_iload_n hX 2 rfl rfl dX6_told_109 ?_
            refine c_ald hX hC (ka_X4_4 (kst_now rfl)) g1 dX6_told_110 ?_
            exact g_reti hR (oi_1 h) (congrArg (C ε) (oi_2 h)) dX6_told_111
          · replace h := if_n (by rw [w32]; decide) h
            replace h := if_n (by rw [w32]; decide) h
            replace h := if_n (by rw [w32]; decide) h
            replace h := if_n (by rw [w32]; decide) h
            replace h := if_p w32 h
            refine g_top (y := .int (nI 10)) (congrArg Value.int w32) ?_
            refine g_tableIn hX 112 (by decide) (by decide) rfl (by decide) dX6_told_32 ?_
            refine g_aload_n hX 0 rfl rfl dX6_told_112 ?_
            obtain ⟨y113, τ113, e113, h⟩ := ob_some h
            refine c_call0 hX hC hzo (kh_X4 (kst_now rfl) (vin_lt g1)) [] [] (ct_X0_worth _ _ _ _ hzo hzs hC ε (23 + z1.toNatClampNeg) (kh_X4 (kst_now rfl) (vin_lt g1)) τ2 _ _ e113) kX0_worth tMet_X6_95 rfl rfl (Nat.le_of_ble_eq_true rfl) (Nat.le_of_ble_eq_true rfl) ⟨Nat.le_of_ble_eq_true rfl, Nat.le_of_ble_eq_true rfl⟩ rfl rfl (Nat.le_of_ble_eq_true rfl) dX6_told_113 ?_
            exact g_reti hR (oi_1 h) (congrArg (C ε) (oi_2 h)) dX6_told_116
      · replace h := if_n b15 h
        refine g_lv [] rfl ?_
        exact J18   τ2 h
theorem kX6_as : mKV RX6 yX6_as cX6_as 3 (some .int) 2 := ⟨tIns_X6_as, tSel_X6_as, tIni_X6, tCod_X6_as, by decide +kernel⟩
set_option maxHeartbeats 4000000 in
set_option maxRecDepth 100000 in
theorem ct_X6_as (l : Launch) (D : va_G) (cy : Nat → ClassId) (Z : (Nat → Prop) → State → Heap → Prop) (hzo : zOK Z) {aStr aByt : Nat → Nat} (hzs : zSt Z aStr aByt) {q : Nat → Nat} {C : Ev → Sg → va_W} (hC : cLens cy q C) (ε : Ev) (z1 : Int32) (z2 : Int32) (σ σ2 : Sg) (res : Int32) (h : fn_X6_as ε z1 z2 σ = some (res, σ2)) : GD l D cy Z yX6_as (zW yX6_as cX6_as 3 (some .int)) { frames := 1, cells := 0, slots := 0, locals := 23 } [.ref (sAd ε (0)), .int (z1), .int (z2)] (C ε σ) (some (.int res)) (C ε σ2) 0 0 := by
  refine g_entry (cc := cX6_as) (maxL := 3) (by decide) rfl (Nat.le_of_ble_eq_true rfl) ?_
  intro κ hN hX hR
  have hX : GX κ cy Z cX6_as (Cond.code yX6_as cX6_as 3 (some .int) :: zT) RX6 { frames := 1, cells := 0, slots := 0, locals := 23 } := hX
  have J51 : ∀ (s0 : Int32) (σ : Sg) , fn_X6_as_L51 ε z1 z2 s0 σ = some (res, σ2) → GW κ 0 0 (C ε σ) 51 [] [.int (s0)] := by
    intro s0 σ h
    exact g_reti hR (oi_1 h) (congrArg (C ε) (oi_2 h)) dX6_as_51
  have J15 : ∀ (σ : Sg) , fn_X6_as_L15 ε z1 z2  σ = some (res, σ2) → GW κ 0 0 (C ε σ) 15 [] [] := by
    intro σ h
    refine g_ldc hX (v := -1000000001) (zu tCon_X6_59 rfl) dX6_as_15 ?_
    exact g_reti hR (oi_1 h) (congrArg (C ε) (oi_2 h)) dX6_as_17
  show GW κ 0 0 (C ε σ) 0 [(0, .ref (sAd ε (0))), (1, .int (z1)), (2, .int (z2))] []
  refine g_aload_n hX 0 rfl rfl dX6_as_0 ?_
  refine g_iload_n hX 1 rfl rfl dX6_as_1 ?_
  obtain ⟨y2, τ2, e2, h⟩ := ob_some h
  refine c_call6 hX hC hzo rfl [.int (z1)] [] (ct_X6_isHouse _ _ _ _ hzo hzs hC ε z1 σ _ _ e2) kX6_isHouse tMet_X6_68 rfl rfl (Nat.le_of_ble_eq_true rfl) (Nat.le_of_ble_eq_true rfl) ⟨Nat.le_of_ble_eq_true rfl, Nat.le_of_ble_eq_true rfl⟩ rfl rfl (Nat.le_of_ble_eq_true rfl) dX6_as_2 ?_
  refine g_if_eq hX 15 (by decide) dX6_as_5 (fun b5 => ?_) (fun b5 => ?_)
  · replace h := if_p b5 h
    refine g_lv [] rfl ?_
    exact J15   τ2 h
  · replace h := if_n b5 h
    refine g_iload_n hX 2 rfl rfl dX6_as_8 ?_
    obtain ⟨y9, e9, h⟩ := o1_some h
    refine s_call hX hzo [.int (z2)] [] (ct_X6_isKind _ _ _ _ hzo hzs _ z2 _ e9) kX6_isKind tMet_X6_102 rfl rfl (Nat.le_of_ble_eq_true rfl) (Nat.le_of_ble_eq_true rfl) ⟨Nat.le_of_ble_eq_true rfl, Nat.le_of_ble_eq_true rfl⟩ rfl rfl (Nat.le_of_ble_eq_true rfl) dX6_as_9 ?_
    refine g_if_ne hX 18 (by decide) dX6_as_12 (fun b12 => ?_) (fun b12 => ?_)
    · replace h := if_n b12 h
      refine g_aload_n hX 0 rfl rfl dX6_as_18 ?_
      refine c_get6 hX hC rfl 0 (by decide) rfl tFld_X6_10 rfl dX6_as_19 ?_
      refine c_get4 hX hC (kst_now rfl) 0 (by decide) rfl tFld_X6_72 rfl dX6_as_22 ?_
      refine g_iload_n hX 1 rfl rfl dX6_as_25 ?_
      obtain ⟨g1, h⟩ := gd_some h
      refine c_aald hX hC (kq_X4_1 (kst_now rfl)) rfl g1 (v := .ref (sAd ε (23 + z1.toNatClampNeg))) rfl dX6_as_26 ?_
      refine g_iload_n hX 2 rfl rfl dX6_as_27 ?_
      obtain ⟨y28, τ28, e28, h⟩ := ob_some h
      refine c_call0 hX hC hzo (kh_X4 (kst_now rfl) (vin_lt g1)) [.int (z2)] [] (ct_X0_isOf _ _ _ _ hzo hzs hC ε (23 + z1.toNatClampNeg) (kh_X4 (kst_now rfl) (vin_lt g1)) z2 τ2 _ _ e28) kX0_isOf tMet_X6_105 rfl rfl (Nat.le_of_ble_eq_true rfl) (Nat.le_of_ble_eq_true rfl) ⟨Nat.le_of_ble_eq_true rfl, Nat.le_of_ble_eq_true rfl⟩ rfl rfl (Nat.le_of_ble_eq_true rfl) dX6_as_28 ?_
      refine g_if_eq hX 49 (by decide) dX6_as_31 (fun b31 => ?_) (fun b31 => ?_)
      · replace h := if_p b31 h
        refine g_ldc hX (v := -1000000012) (zu tCon_X6_111 rfl) dX6_as_49 ?_
        refine g_lv [] rfl ?_
        exact J51 ((-1000000012))  τ28 h
      · replace h := if_n b31 h
        refine g_aload_n hX 0 rfl rfl dX6_as_34 ?_
        refine c_get6 hX hC rfl 0 (by decide) rfl tFld_X6_10 rfl dX6_as_35 ?_
        refine c_get4 hX hC (kst_now rfl) 0 (by decide) rfl tFld_X6_72 rfl dX6_as_38 ?_
        refine g_iload_n hX 1 rfl rfl dX6_as_41 ?_
        refine c_aald hX hC (kq_X4_1 (kst_now rfl)) rfl g1 (v := .ref (sAd ε (23 + z1.toNatClampNeg))) rfl dX6_as_42 ?_
        refine c_get0 hX hC (kh_X4 (kst_now rfl) (vin_lt g1)) 3 (by decide) rfl tFld_X6_108 rfl dX6_as_43 ?_
        refine g_goto hX 51 (by decide) dX6_as_46 ?_
        refine g_lv [] rfl ?_
        exact J51 (τ28.1 (23 + z1.toNatClampNeg) 3)  τ28 h
    · replace h := if_p b12 h
      refine g_lv [] rfl ?_
      exact J15   τ2 h
theorem kX6_turns : mKV RX6 yX6_turns cX6_turns 4 (some .int) 2 := ⟨tIns_X6_turns, tSel_X6_turns, tIni_X6, tCod_X6_turns, by decide +kernel⟩
set_option maxHeartbeats 4000000 in
set_option maxRecDepth 100000 in
theorem ct_X6_turns (l : Launch) (D : va_G) (cy : Nat → ClassId) (Z : (Nat → Prop) → State → Heap → Prop) (hzo : zOK Z) {aStr aByt : Nat → Nat} (hzs : zSt Z aStr aByt) {q : Nat → Nat} {C : Ev → Sg → va_W} (hC : cLens cy q C) (ε : Ev) (z1 : Int32) (z2 : Int32) (σ σ2 : Sg) (res : Int32) (h : fn_X6_turns ε z1 z2 σ = some (res, σ2)) : GD l D cy Z yX6_turns (zW yX6_turns cX6_turns 4 (some .int)) { frames := 1, cells := 0, slots := 0, locals := 21 } [.ref (sAd ε (0)), .int (z1), .int (z2)] (C ε σ) (some (.int res)) (C ε σ2) 0 0 := by
  refine g_entry (cc := cX6_turns) (maxL := 4) (by decide) rfl (Nat.le_of_ble_eq_true rfl) ?_
  intro κ hN hX hR
  have hX : GX κ cy Z cX6_turns (Cond.code yX6_turns cX6_turns 4 (some .int) :: zT) RX6 { frames := 1, cells := 0, slots := 0, locals := 21 } := hX
  have J15 : ∀ (σ : Sg) , fn_X6_turns_L15 ε z1 z2  σ = some (res, σ2) → GW κ 0 0 (C ε σ) 15 [] [] := by
    intro σ h
    refine g_ldc hX (v := -1000000001) (zu tCon_X6_59 rfl) dX6_turns_15 ?_
    exact g_reti hR (oi_1 h) (congrArg (C ε) (oi_2 h)) dX6_turns_17
  show GW κ 0 0 (C ε σ) 0 [(0, .ref (sAd ε (0))), (1, .int (z1)), (2, .int (z2))] []
  refine g_aload_n hX 0 rfl rfl dX6_turns_0 ?_
  refine g_iload_n hX 1 rfl rfl dX6_turns_1 ?_
  obtain ⟨y2, τ2, e2, h⟩ := ob_some h
  refine c_call6 hX hC hzo rfl [.int (z1)] [] (ct_X6_isHouse _ _ _ _ hzo hzs hC ε z1 σ _ _ e2) kX6_isHouse tMet_X6_68 rfl rfl (Nat.le_of_ble_eq_true rfl) (Nat.le_of_ble_eq_true rfl) ⟨Nat.le_of_ble_eq_true rfl, Nat.le_of_ble_eq_true rfl⟩ rfl rfl (Nat.le_of_ble_eq_true rfl) dX6_turns_2 ?_
  refine g_if_eq hX 15 (by decide) dX6_turns_5 (fun b5 => ?_) (fun b5 => ?_)
  · replace h := if_p b5 h
    refine g_lv [] rfl ?_
    exact J15   τ2 h
  · replace h := if_n b5 h
    refine g_iload_n hX 2 rfl rfl dX6_turns_8 ?_
    obtain ⟨y9, e9, h⟩ := o1_some h
    refine s_call hX hzo [.int (z2)] [] (ct_X6_isKind _ _ _ _ hzo hzs _ z2 _ e9) kX6_isKind tMet_X6_102 rfl rfl (Nat.le_of_ble_eq_true rfl) (Nat.le_of_ble_eq_true rfl) ⟨Nat.le_of_ble_eq_true rfl, Nat.le_of_ble_eq_true rfl⟩ rfl rfl (Nat.le_of_ble_eq_true rfl) dX6_turns_9 ?_
    refine g_if_ne hX 18 (by decide) dX6_turns_12 (fun b12 => ?_) (fun b12 => ?_)
    · replace h := if_n b12 h
      refine g_aload_n hX 0 rfl rfl dX6_turns_18 ?_
      refine c_get6 hX hC rfl 0 (by decide) rfl tFld_X6_10 rfl dX6_turns_19 ?_
      refine c_get4 hX hC (kst_now rfl) 0 (by decide) rfl tFld_X6_72 rfl dX6_turns_22 ?_
      refine g_iload_n hX 1 rfl rfl dX6_turns_25 ?_
      obtain ⟨g1, h⟩ := gd_some h
      refine c_aald hX hC (kq_X4_1 (kst_now rfl)) rfl g1 (v := .ref (sAd ε (23 + z1.toNatClampNeg))) rfl dX6_turns_26 ?_
      refine c_get0 hX hC (kh_X4 (kst_now rfl) (vin_lt g1)) 0 (by decide) rfl tFld_X6_112 rfl dX6_turns_27 ?_
      refine g_istore_n (lv2 := [(3, .int (τ2.1 (23 + z1.toNatClampNeg) 0)), (0, .ref (sAd ε (0))), (1, .int (z1)), (2, .int (z2))]) hX 3 4 hN rfl (by decide) rfl dX6_turns_30 ?_
      refine g_aload_n hX 1 rfl rfl dX6_turns_31 ?_
      refine c_get6 hX hC rfl 0 (by decide) rfl tFld_X6_10 rfl dX6_turns_32 ?_
      refine c_get4 hX hC (kst_now rfl) 0 (by decide) rfl tFld_X6_72 rfl dX6_turns_35 ?_
      refine g_iload_n hX 2 rfl rfl dX6_turns_38 ?_
      refine c_aald hX hC (kq_X4_1 (kst_now rfl)) rfl g1 (v := .ref (sAd ε (23 + z1.toNatClampNeg))) rfl dX6_turns_39 ?_
      refine g_iload_n hX 3 rfl rfl dX6_turns_40 ?_
      refine c_put0 (ty := .int) hX hC (kh_X4 (kst_now rfl) (vin_lt g1)) 0 (by decide) (cs_X0 ε _ _ _).1 rfl (by decide +kernel) rfl rfl tFld_X6_112 rfl dX6_turns_41 ?_
      refine g_iload_n hX 0 rfl rfl dX6_turns_44 ?_
      exact g_reti hR (oi_1 h) (congrArg (C ε) (oi_2 h)) dX6_turns_45
    · replace h := if_p b12 h
      refine g_lv [] rfl ?_
      exact J15   τ2 h
theorem kX6_set : mKV RX6 yX6_set cX6_set 5 (some .int) 3 := ⟨tIns_X6_set, tSel_X6_set, tIni_X6, tCod_X6_set, by decide +kernel⟩
set_option maxHeartbeats 4000000 in
set_option maxRecDepth 100000 in
theorem ct_X6_set (l : Launch) (D : va_G) (cy : Nat → ClassId) (Z : (Nat → Prop) → State → Heap → Prop) (hzo : zOK Z) {aStr aByt : Nat → Nat} (hzs : zSt Z aStr aByt) {q : Nat → Nat} {C : Ev → Sg → va_W} (hC : cLens cy q C) (ε : Ev) (z1 : Int32) (z2 : Int32) (z3 : Int32) (σ σ2 : Sg) (res : Int32) (h : fn_X6_set ε z1 z2 z3 σ = some (res, σ2)) : GD l D cy Z yX6_set (zW yX6_set cX6_set 5 (some .int)) { frames := 1, cells := 0, slots := 0, locals := 22 } [.ref (sAd ε (0)), .int (z1), .int (z2), .int (z3)] (C ε σ) (some (.int res)) (C ε σ2) 0 0 := by
  refine g_entry (cc := cX6_set) (maxL := 5) (by decide) rfl (Nat.le_of_ble_eq_true rfl) ?_
  intro κ hN hX hR
  have hX : GX κ cy Z cX6_set (Cond.code yX6_set cX6_set 5 (some .int) :: zT) RX6 { frames := 1, cells := 0, slots := 0, locals := 22 } := hX
  have J26 : ∀ (σ : Sg) , fn_X6_set_L26 ε z1 z2 z3  σ = some (res, σ2) → GW κ 0 0 (C ε σ) 26 [] [] := by
    intro σ h
    refine g_ldc hX (v := -1000000001) (zu tCon_X6_59 rfl) dX6_set_26 ?_
    exact g_reti hR (oi_1 h) (congrArg (C ε) (oi_2 h)) dX6_set_28
  show GW κ 0 0 (C ε σ) 0 [(0, .ref (sAd ε (0))), (1, .int (z1)), (2, .int (z2)), (3, .int (z3))] []
  refine g_aload_n hX 0 rfl rfl dX6_set_0 ?_
  refine g_iload_n hX 1 rfl rfl dX6_set_1 ?_
  obtain ⟨y2, τ2, e2, h⟩ := ob_some h
  refine c_call6 hX hC hzo rfl [.int (z1)] [] (ct_X6_isHouse _ _ _ _ hzo hzs hC ε z1 σ _ _ e2) kX6_isHouse tMet_X6_68 rfl rfl (Nat.le_of_ble_eq_true rfl) (Nat.le_of_ble_eq_true rfl) ⟨Nat.le_of_ble_eq_true rfl, Nat.le_of_ble_eq_true rfl⟩ rfl rfl (Nat.le_of_ble_eq_true rfl) dX6_set_2 ?_
  refine g_if_eq hX 26 (by decide) dX6_set_5 (fun b5 => ?_) (fun b5 => ?_)
  · replace h := if_p b5 h
    refine g_lv [] rfl ?_
    exact J26   τ2 h
  · replace h := if_n b5 h
    refine g_iload_n hX 2 rfl rfl dX6_set_8 ?_
    refine g_iconst hX (v := nI 1) rfl dX6_set_9 ?_
    refine g_icmp_lt hX 26 (by decide) dX6_set_10 (fun b10 => ?_) (fun b10 => ?_)
    · replace h := if_p b10 h
      refine g_lv [] rfl ?_
      exact J26   τ2 h
    · replace h := if_n b10 h
      refine g_iload_n hX 2 rfl rfl dX6_set_13 ?_
      refine g_iconst hX (v := nI 5) rfl dX6_set_14 ?_
      refine g_icmp_gt hX 26 (by decide) dX6_set_15 (fun b15 => ?_) (fun b15 => ?_)
      · replace h := if_p b15 h
        refine g_lv [] rfl ?_
        exact J26   τ2 h
      · replace h := if_n b15 h
        refine g_iload_n hX 2 rfl rfl dX6_set_18 ?_
        refine g_iload_n hX 3 rfl rfl dX6_set_19 ?_
        obtain ⟨y20, e20, h⟩ := o1_some h
        refine s_call hX hzo [.int (z2), .int (z3)] [] (ct_X6_fits _ _ _ _ hzo hzs _ z2 z3 _ e20) kX6_fits tMet_X6_55 rfl rfl (Nat.le_of_ble_eq_true rfl) (Nat.le_of_ble_eq_true rfl) ⟨Nat.le_of_ble_eq_true rfl, Nat.le_of_ble_eq_true rfl⟩ rfl rfl (Nat.le_of_ble_eq_true rfl) dX6_set_20 ?_
        refine g_if_ne hX 29 (by decide) dX6_set_23 (fun b23 => ?_) (fun b23 => ?_)
        · replace h := if_n b23 h
          refine g_aload_n hX 0 rfl rfl dX6_set_29 ?_
          refine c_get6 hX hC rfl 0 (by decide) rfl tFld_X6_10 rfl dX6_set_30 ?_
          refine c_get4 hX hC (kst_now rfl) 0 (by decide) rfl tFld_X6_72 rfl dX6_set_33 ?_
          refine g_iload_n hX 1 rfl rfl dX6_set_36 ?_
          obtain ⟨g1, h⟩ := gd_some h
          refine c_aald hX hC (kq_X4_1 (kst_now rfl)) rfl g1 (v := .ref (sAd ε (23 + z1.toNatClampNeg))) rfl dX6_set_37 ?_
          refine g_iload_n hX 2 rfl rfl dX6_set_38 ?_
          obtain ⟨y39, τ39, e39, h⟩ := ob_some h
          refine c_call0 hX hC hzo (kh_X4 (kst_now rfl) (vin_lt g1)) [.int (z2)] [] (ct_X0_part _ _ _ _ hzo hzs hC ε (23 + z1.toNatClampNeg) (kh_X4 (kst_now rfl) (vin_lt g1)) z2 τ2 _ _ e39) kX0_part tMet_X6_98 rfl rfl (Nat.le_of_ble_eq_true rfl) (Nat.le_of_ble_eq_true rfl) ⟨Nat.le_of_ble_eq_true rfl, Nat.le_of_ble_eq_true rfl⟩ rfl rfl (Nat.le_of_ble_eq_true rfl) dX6_set_39 ?_
          refine g_istore (lv2 := [(4, .int (y39)), (0, .ref (sAd ε (0))), (1, .int (z1)), (2, .int (z2)), (3, .int (z3))]) hX 4 5 hN (by decide) rfl dX6_set_42 ?_
          refine g_aload_n hX 1 rfl rfl dX6_set_44 ?_
          refine c_get6 hX hC rfl 0 (by decide) rfl tFld_X6_10 rfl dX6_set_45 ?_
          refine c_get4 hX hC (kst_now rfl) 0 (by decide) rfl tFld_X6_72 rfl dX6_set_48 ?_
          refine g_iload_n hX 2 rfl rfl dX6_set_51 ?_
          refine c_aald hX hC (kq_X4_1 (kst_now rfl)) rfl g1 (v := .ref (sAd ε (23 + z1.toNatClampNeg))) rfl dX6_set_52 ?_
          refine g_iload_n hX 3 rfl rfl dX6_set_53 ?_
          refine g_iload_n hX 4 rfl rfl dX6_set_54 ?_
          obtain ⟨y55, τ55, e55, h⟩ := ob_some h
          refine c_call0 hX hC hzo (kh_X4 (kst_now rfl) (vin_lt g1)) [.int (z2), .int (z3)] [] (ct_X0_becomes _ _ _ _ hzo hzs hC ε (23 + z1.toNatClampNeg) (kh_X4 (kst_now rfl) (vin_lt g1)) z2 z3 τ39 _ _ e55) kX0_becomes tMet_X6_115 rfl rfl (Nat.le_of_ble_eq_true rfl) (Nat.le_of_ble_eq_true rfl) ⟨Nat.le_of_ble_eq_true rfl, Nat.le_of_ble_eq_true rfl⟩ rfl rfl (Nat.le_of_ble_eq_true rfl) dX6_set_55 ?_
          refine g_iload hX 0 rfl dX6_set_58 ?_
          exact g_reti hR (oi_1 h) (congrArg (C ε) (oi_2 h)) dX6_set_60
        · replace h := if_p b23 h
          refine g_lv [] rfl ?_
          exact J26   τ2 h
theorem kX6_fells : mKV RX6 yX6_fells cX6_fells 2 (some .int) 1 := ⟨tIns_X6_fells, tSel_X6_fells, tIni_X6, tCod_X6_fells, by decide +kernel⟩
set_option maxHeartbeats 4000000 in
set_option maxRecDepth 100000 in
theorem ct_X6_fells (l : Launch) (D : va_G) (cy : Nat → ClassId) (Z : (Nat → Prop) → State → Heap → Prop) (hzo : zOK Z) {aStr aByt : Nat → Nat} (hzs : zSt Z aStr aByt) {q : Nat → Nat} {C : Ev → Sg → va_W} (hC : cLens cy q C) (ε : Ev) (z1 : Int32) (σ σ2 : Sg) (res : Int32) (h : fn_X6_fells ε z1 σ = some (res, σ2)) : GD l D cy Z yX6_fells (zW yX6_fells cX6_fells 2 (some .int)) { frames := 2, cells := 0, slots := 0, locals := 42 } [.ref (sAd ε (0)), .int (z1)] (C ε σ) (some (.int res)) (C ε σ2) 0 0 := by
  refine g_entry (cc := cX6_fells) (maxL := 2) (by decide) rfl (Nat.le_of_ble_eq_true rfl) ?_
  intro κ hN hX hR
  have hX : GX κ cy Z cX6_fells (Cond.code yX6_fells cX6_fells 2 (some .int) :: zT) RX6 { frames := 2, cells := 0, slots := 0, locals := 42 } := hX
  show GW κ 0 0 (C ε σ) 0 [(0, .ref (sAd ε (0))), (1, .int (z1))] []
  refine g_aload_n hX 0 rfl rfl dX6_fells_0 ?_
  refine g_iload_n hX 1 rfl rfl dX6_fells_1 ?_
  obtain ⟨y2, τ2, e2, h⟩ := ob_some h
  refine c_call6 hX hC hzo rfl [.int (z1)] [] (ct_X6_isHouse _ _ _ _ hzo hzs hC ε z1 σ _ _ e2) kX6_isHouse tMet_X6_68 rfl rfl (Nat.le_of_ble_eq_true rfl) (Nat.le_of_ble_eq_true rfl) ⟨Nat.le_of_ble_eq_true rfl, Nat.le_of_ble_eq_true rfl⟩ rfl rfl (Nat.le_of_ble_eq_true rfl) dX6_fells_2 ?_
  refine g_if_ne hX 11 (by decide) dX6_fells_5 (fun b5 => ?_) (fun b5 => ?_)
  · replace h := if_n b5 h
    refine g_aload_n hX 0 rfl rfl dX6_fells_11 ?_
    refine c_get6 hX hC rfl 0 (by decide) rfl tFld_X6_10 rfl dX6_fells_12 ?_
    refine c_get4 hX hC (kst_now rfl) 0 (by decide) rfl tFld_X6_72 rfl dX6_fells_15 ?_
    refine g_iload_n hX 1 rfl rfl dX6_fells_18 ?_
    obtain ⟨g1, h⟩ := gd_some h
    refine c_aald hX hC (kq_X4_1 (kst_now rfl)) rfl g1 (v := .ref (sAd ε (23 + z1.toNatClampNeg))) rfl dX6_fells_19 ?_
    refine c_get0 hX hC (kh_X4 (kst_now rfl) (vin_lt g1)) 6 (by decide) rfl tFld_X6_76 rfl dX6_fells_20 ?_
    refine g_if_ne hX 29 (by decide) dX6_fells_23 (fun b23 => ?_) (fun b23 => ?_)
    · replace h := if_n b23 h
      refine g_aload_n hX 0 rfl rfl dX6_fells_29 ?_
      refine c_get6 hX hC rfl 0 (by decide) rfl tFld_X6_10 rfl dX6_fells_30 ?_
      refine c_get4 hX hC (kst_now rfl) 0 (by decide) rfl tFld_X6_72 rfl dX6_fells_33 ?_
      refine g_iload_n hX 1 rfl rfl dX6_fells_36 ?_
      refine c_aald hX hC (kq_X4_1 (kst_now rfl)) rfl g1 (v := .ref (sAd ε (23 + z1.toNatClampNeg))) rfl dX6_fells_37 ?_
      obtain ⟨y38, τ38, e38, h⟩ := ob_some h
      refine c_call0 hX hC hzo (kh_X4 (kst_now rfl) (vin_lt g1)) [] [] (ct_X0_fall _ _ _ _ hzo hzs hC ε (23 + z1.toNatClampNeg) (kh_X4 (kst_now rfl) (vin_lt g1)) τ2 _ _ e38) kX0_fall tMet_X6_120 rfl rfl (Nat.le_of_ble_eq_true rfl) (Nat.le_of_ble_eq_true rfl) ⟨Nat.le_of_ble_eq_true rfl, Nat.le_of_ble_eq_true rfl⟩ rfl rfl (Nat.le_of_ble_eq_true rfl) dX6_fells_38 ?_
      refine g_aload_n hX 0 rfl rfl dX6_fells_41 ?_
      refine c_get6 hX hC rfl 0 (by decide) rfl tFld_X6_10 rfl dX6_fells_42 ?_
      obtain ⟨y45, τ45, e45, h⟩ := ob_some h
      refine c_call4 hX hC hzo (kst_now rfl) [] [] (ct_X4_howManyStand _ _ _ _ hzo hzs hC ε 16 (kst_now rfl) τ38 _ _ e45) kX4_howManyStand tMet_X6_123 rfl rfl (Nat.le_of_ble_eq_true rfl) (Nat.le_of_ble_eq_true rfl) ⟨Nat.le_of_ble_eq_true rfl, Nat.le_of_ble_eq_true rfl⟩ rfl rfl (Nat.le_of_ble_eq_true rfl) dX6_fells_45 ?_
      exact g_reti hR (oi_1 h) (congrArg (C ε) (oi_2 h)) dX6_fells_48
    · replace h := if_p b23 h
      refine g_ldc hX (v := -1000000002) (zu tCon_X6_119 rfl) dX6_fells_26 ?_
      exact g_reti hR (oi_1 h) (congrArg (C ε) (oi_2 h)) dX6_fells_28
  · replace h := if_p b5 h
    refine g_ldc hX (v := -1000000001) (zu tCon_X6_59 rfl) dX6_fells_8 ?_
    exact g_reti hR (oi_1 h) (congrArg (C ε) (oi_2 h)) dX6_fells_10
theorem kX6_raises : mKV RX6 yX6_raises cX6_raises 2 (some .int) 1 := ⟨tIns_X6_raises, tSel_X6_raises, tIni_X6, tCod_X6_raises, by decide +kernel⟩
set_option maxHeartbeats 4000000 in
set_option maxRecDepth 100000 in
theorem ct_X6_raises (l : Launch) (D : va_G) (cy : Nat → ClassId) (Z : (Nat → Prop) → State → Heap → Prop) (hzo : zOK Z) {aStr aByt : Nat → Nat} (hzs : zSt Z aStr aByt) {q : Nat → Nat} {C : Ev → Sg → va_W} (hC : cLens cy q C) (ε : Ev) (z1 : Int32) (σ σ2 : Sg) (res : Int32) (h : fn_X6_raises ε z1 σ = some (res, σ2)) : GD l D cy Z yX6_raises (zW yX6_raises cX6_raises 2 (some .int)) { frames := 2, cells := 0, slots := 0, locals := 42 } [.ref (sAd ε (0)), .int (z1)] (C ε σ) (some (.int res)) (C ε σ2) 0 0 := by
  refine g_entry (cc := cX6_raises) (maxL := 2) (by decide) rfl (Nat.le_of_ble_eq_true rfl) ?_
  intro κ hN hX hR
  have hX : GX κ cy Z cX6_raises (Cond.code yX6_raises cX6_raises 2 (some .int) :: zT) RX6 { frames := 2, cells := 0, slots := 0, locals := 42 } := hX
  show GW κ 0 0 (C ε σ) 0 [(0, .ref (sAd ε (0))), (1, .int (z1))] []
  refine g_aload_n hX 0 rfl rfl dX6_raises_0 ?_
  refine g_iload_n hX 1 rfl rfl dX6_raises_1 ?_
  obtain ⟨y2, τ2, e2, h⟩ := ob_some h
  refine c_call6 hX hC hzo rfl [.int (z1)] [] (ct_X6_isHouse _ _ _ _ hzo hzs hC ε z1 σ _ _ e2) kX6_isHouse tMet_X6_68 rfl rfl (Nat.le_of_ble_eq_true rfl) (Nat.le_of_ble_eq_true rfl) ⟨Nat.le_of_ble_eq_true rfl, Nat.le_of_ble_eq_true rfl⟩ rfl rfl (Nat.le_of_ble_eq_true rfl) dX6_raises_2 ?_
  refine g_if_ne hX 11 (by decide) dX6_raises_5 (fun b5 => ?_) (fun b5 => ?_)
  · replace h := if_n b5 h
    refine g_aload_n hX 0 rfl rfl dX6_raises_11 ?_
    refine c_get6 hX hC rfl 0 (by decide) rfl tFld_X6_10 rfl dX6_raises_12 ?_
    refine c_get4 hX hC (kst_now rfl) 0 (by decide) rfl tFld_X6_72 rfl dX6_raises_15 ?_
    refine g_iload_n hX 1 rfl rfl dX6_raises_18 ?_
    obtain ⟨g1, h⟩ := gd_some h
    refine c_aald hX hC (kq_X4_1 (kst_now rfl)) rfl g1 (v := .ref (sAd ε (23 + z1.toNatClampNeg))) rfl dX6_raises_19 ?_
    refine c_get0 hX hC (kh_X4 (kst_now rfl) (vin_lt g1)) 6 (by decide) rfl tFld_X6_76 rfl dX6_raises_20 ?_
    refine g_if_eq hX 29 (by decide) dX6_raises_23 (fun b23 => ?_) (fun b23 => ?_)
    · replace h := if_p b23 h
      refine g_aload_n hX 0 rfl rfl dX6_raises_29 ?_
      refine c_get6 hX hC rfl 0 (by decide) rfl tFld_X6_10 rfl dX6_raises_30 ?_
      refine c_get4 hX hC (kst_now rfl) 0 (by decide) rfl tFld_X6_72 rfl dX6_raises_33 ?_
      refine g_iload_n hX 1 rfl rfl dX6_raises_36 ?_
      refine c_aald hX hC (kq_X4_1 (kst_now rfl)) rfl g1 (v := .ref (sAd ε (23 + z1.toNatClampNeg))) rfl dX6_raises_37 ?_
      obtain ⟨y38, τ38, e38, h⟩ := ob_some h
      refine c_call0 hX hC hzo (kh_X4 (kst_now rfl) (vin_lt g1)) [] [] (ct_X0_rise _ _ _ _ hzo hzs hC ε (23 + z1.toNatClampNeg) (kh_X4 (kst_now rfl) (vin_lt g1)) τ2 _ _ e38) kX0_rise tMet_X6_126 rfl rfl (Nat.le_of_ble_eq_true rfl) (Nat.le_of_ble_eq_true rfl) ⟨Nat.le_of_ble_eq_true rfl, Nat.le_of_ble_eq_true rfl⟩ rfl rfl (Nat.le_of_ble_eq_true rfl) dX6_raises_38 ?_
      refine g_aload_n hX 0 rfl rfl dX6_raises_41 ?_
      refine c_get6 hX hC rfl 0 (by decide) rfl tFld_X6_10 rfl dX6_raises_42 ?_
      obtain ⟨y45, τ45, e45, h⟩ := ob_some h
      refine c_call4 hX hC hzo (kst_now rfl) [] [] (ct_X4_howManyStand _ _ _ _ hzo hzs hC ε 16 (kst_now rfl) τ38 _ _ e45) kX4_howManyStand tMet_X6_123 rfl rfl (Nat.le_of_ble_eq_true rfl) (Nat.le_of_ble_eq_true rfl) ⟨Nat.le_of_ble_eq_true rfl, Nat.le_of_ble_eq_true rfl⟩ rfl rfl (Nat.le_of_ble_eq_true rfl) dX6_raises_45 ?_
      exact g_reti hR (oi_1 h) (congrArg (C ε) (oi_2 h)) dX6_raises_48
    · replace h := if_n b23 h
      refine g_ldc hX (v := -1000000002) (zu tCon_X6_119 rfl) dX6_raises_26 ?_
      exact g_reti hR (oi_1 h) (congrArg (C ε) (oi_2 h)) dX6_raises_28
  · replace h := if_p b5 h
    refine g_ldc hX (v := -1000000001) (zu tCon_X6_59 rfl) dX6_raises_8 ?_
    exact g_reti hR (oi_1 h) (congrArg (C ε) (oi_2 h)) dX6_raises_10
theorem kX6_snow : mKV RX6 yX6_snow cX6_snow 3 (some .int) 1 := ⟨tIns_X6_snow, tSel_X6_snow, tIni_X6, tCod_X6_snow, by decide +kernel⟩
set_option maxHeartbeats 4000000 in
set_option maxRecDepth 100000 in
theorem ct_X6_snow (l : Launch) (D : va_G) (cy : Nat → ClassId) (Z : (Nat → Prop) → State → Heap → Prop) (hzo : zOK Z) {aStr aByt : Nat → Nat} (hzs : zSt Z aStr aByt) {q : Nat → Nat} {C : Ev → Sg → va_W} (hC : cLens cy q C) (ε : Ev) (z1 : Int32) (σ σ2 : Sg) (res : Int32) (h : fn_X6_snow ε z1 σ = some (res, σ2)) : GD l D cy Z yX6_snow (zW yX6_snow cX6_snow 3 (some .int)) { frames := 0, cells := 0, slots := 0, locals := 0 } [.ref (sAd ε (0)), .int (z1)] (C ε σ) (some (.int res)) (C ε σ2) 0 0 := by
  refine g_entry (cc := cX6_snow) (maxL := 3) (by decide) rfl (Nat.le_of_ble_eq_true rfl) ?_
  intro κ hN hX hR
  have hX : GX κ cy Z cX6_snow (Cond.code yX6_snow cX6_snow 3 (some .int) :: zT) RX6 { frames := 0, cells := 0, slots := 0, locals := 0 } := hX
  have J12 : ∀ (σ : Sg) , fn_X6_snow_L12 ε z1  σ = some (res, σ2) → GW κ 0 0 (C ε σ) 12 [] [] := by
    intro σ h
    refine g_ldc hX (v := -1000000001) (zu tCon_X6_59 rfl) dX6_snow_12 ?_
    exact g_reti hR (oi_1 h) (congrArg (C ε) (oi_2 h)) dX6_snow_14
  show GW κ 0 0 (C ε σ) 0 [(0, .ref (sAd ε (0))), (1, .int (z1))] []
  refine g_iload_n hX 1 rfl rfl dX6_snow_0 ?_
  refine g_bipush hX (v := -20) (by decide) dX6_snow_1 ?_
  refine g_icmp_lt hX 12 (by decide) dX6_snow_3 (fun b3 => ?_) (fun b3 => ?_)
  · replace h := if_p b3 h
    refine g_lv [] rfl ?_
    exact J12   σ h
  · replace h := if_n b3 h
    refine g_iload_n hX 1 rfl rfl dX6_snow_6 ?_
    refine g_bipush hX (v := nI 20) (by decide) dX6_snow_7 ?_
    refine g_icmp_le hX 15 (by decide) dX6_snow_9 (fun b9 => ?_) (fun b9 => ?_)
    · replace h := if_p b9 h
      refine g_aload_n hX 0 rfl rfl dX6_snow_15 ?_
      refine c_get6 hX hC rfl 0 (by decide) rfl tFld_X6_10 rfl dX6_snow_16 ?_
      refine c_get4 hX hC (kst_now rfl) 8 (by decide) rfl tFld_X6_129 rfl dX6_snow_19 ?_
      refine g_istore_n (lv2 := [(2, .int (σ.1 16 8)), (0, .ref (sAd ε (0))), (1, .int (z1))]) hX 2 3 hN rfl (by decide) rfl dX6_snow_22 ?_
      refine g_aload_n hX 1 rfl rfl dX6_snow_23 ?_
      refine c_get6 hX hC rfl 0 (by decide) rfl tFld_X6_10 rfl dX6_snow_24 ?_
      refine g_iload_n hX 2 rfl rfl dX6_snow_27 ?_
      refine c_put4 (ty := .int) hX hC (kst_now rfl) 8 (by decide) (cs_X4 ε _ _ _).2.2.1 rfl (by decide +kernel) rfl rfl tFld_X6_129 rfl dX6_snow_28 ?_
      refine g_iload_n hX 0 rfl rfl dX6_snow_31 ?_
      exact g_reti hR (oi_1 h) (congrArg (C ε) (oi_2 h)) dX6_snow_32
    · replace h := if_n b9 h
      refine g_lv [] rfl ?_
      exact J12   σ h
theorem kX6_deal : mKV RX6 yX6_deal cX6_deal 4 (some .int) 1 := ⟨tIns_X6_deal, tSel_X6_deal, tIni_X6, tCod_X6_deal, by decide +kernel⟩
set_option maxHeartbeats 4000000 in
set_option maxRecDepth 100000 in
theorem ct_X6_deal (l : Launch) (D : va_G) (cy : Nat → ClassId) (Z : (Nat → Prop) → State → Heap → Prop) (hzo : zOK Z) {aStr aByt : Nat → Nat} (hzs : zSt Z aStr aByt) {q : Nat → Nat} {C : Ev → Sg → va_W} (hC : cLens cy q C) (ε : Ev) (z1 : Int32) (σ σ2 : Sg) (res : Int32) (h : fn_X6_deal ε z1 σ = some (res, σ2)) : GD l D cy Z yX6_deal (zW yX6_deal cX6_deal 4 (some .int)) { frames := 3, cells := 0, slots := 0, locals := 69 } [.ref (sAd ε (0)), .int (z1)] (C ε σ) (some (.int res)) (C ε σ2) 0 0 := by
  refine g_entry (cc := cX6_deal) (maxL := 4) (by decide) rfl (Nat.le_of_ble_eq_true rfl) ?_
  intro κ hN hX hR
  have hX : GX κ cy Z cX6_deal (Cond.code yX6_deal cX6_deal 4 (some .int) :: zT) RX6 { frames := 3, cells := 0, slots := 0, locals := 69 } := hX
  have J49 : ∀ (v2 : Int32) (σ : Sg) , fn_X6_deal_L49 ε z1 v2 σ = some (res, σ2) → GW κ 0 0 (C ε σ) 49 [(2, .int (v2))] [] := by
    intro v2 σ h
    refine g_iload_n hX 0 rfl rfl dX6_deal_49 ?_
    exact g_reti hR (oi_1 h) (congrArg (C ε) (oi_2 h)) dX6_deal_50
  have J31 : ∀ (k49 : Int32 → Sg → Option (Int32 × Sg)) (hk49 : ∀ (v2 : Int32) (σ : Sg) , k49 v2 σ = some (res, σ2) → GW κ 0 0 (C ε σ) 49 [(2, .int (v2))] []) (fuel : Nat), ∀ (v2 : Int32) (v3 : Int32) (σ : Sg) , fn_X6_deal_L31 ε z1 k49 fuel v2 v3 σ = some (res, σ2) → GW κ 0 0 (C ε σ) 31 [(0, .ref (sAd ε (0))), (2, .int (v2)), (3, .int (v3))] [] := by
    intro k49 hk49 fuel
    induction fuel with
    | zero => intro v2 v3 σ h; cases (show none = some (res, σ2) from h)
    | succ fuel ih =>
      intro v2 v3 σ h
      replace h : (if v2 ≤ v3 then (k49 v2 σ) else (ob (fn_X4_buildByLot ε 16 σ) (fun y40 τ40 => ((fn_X6_deal_L31 ε z1 k49 fuel) v2 ((v3 + nI 1)) τ40)))) = some (res, σ2) := h
      refine g_iload_n hX 2 rfl rfl dX6_deal_31 ?_
      refine g_iload_n hX 1 rfl rfl dX6_deal_32 ?_
      refine g_icmp_ge hX 49 (by decide) dX6_deal_33 (fun b33 => ?_) (fun b33 => ?_)
      · replace h := if_p b33 h
        refine g_lv [1] rfl ?_
        exact hk49 v2  σ h
      · replace h := if_n b33 h
        refine g_aload_n hX 0 rfl rfl dX6_deal_36 ?_
        refine c_get6 hX hC rfl 0 (by decide) rfl tFld_X6_10 rfl dX6_deal_37 ?_
        obtain ⟨y40, τ40, e40, h⟩ := ob_some h
        refine c_call4 hX hC hzo (kst_now rfl) [] [] (ct_X4_buildByLot _ _ _ _ hzo hzs hC ε 16 (kst_now rfl) σ _ _ e40) kX4_buildByLot tMet_X6_138 rfl rfl (Nat.le_of_ble_eq_true rfl) (Nat.le_of_ble_eq_true rfl) ⟨Nat.le_of_ble_eq_true rfl, Nat.le_of_ble_eq_true rfl⟩ rfl rfl (Nat.le_of_ble_eq_true rfl) dX6_deal_40 ?_
        refine g_iinc (v := (v3 + nI 1)) (lv2 := [(3, .int ((v3 + nI 1))), (0, .ref (sAd ε (0))), (2, .int (v2))]) hX 2 3 4 hN rfl rfl (by decide) rfl dX6_deal_43 ?_
        refine g_goto hX 31 (by decide) dX6_deal_46 ?_
        refine g_lv [1, 2, 0] rfl ?_
        exact ih v2 ((v3 + nI 1))  τ40 h
  have J11 : ∀ (σ : Sg) , fn_X6_deal_L11 ε z1  σ = some (res, σ2) → GW κ 0 0 (C ε σ) 11 [] [] := by
    intro σ h
    refine g_ldc hX (v := -1000000001) (zu tCon_X6_59 rfl) dX6_deal_11 ?_
    exact g_reti hR (oi_1 h) (congrArg (C ε) (oi_2 h)) dX6_deal_13
  show GW κ 0 0 (C ε σ) 0 [(0, .ref (sAd ε (0))), (1, .int (z1))] []
  refine g_iload_n hX 1 rfl rfl dX6_deal_0 ?_
  refine g_iconst hX (v := nI 1) rfl dX6_deal_1 ?_
  refine g_icmp_lt hX 11 (by decide) dX6_deal_2 (fun b2 => ?_) (fun b2 => ?_)
  · replace h := if_p b2 h
    refine g_lv [] rfl ?_
    exact J11   σ h
  · replace h := if_n b2 h
    refine g_iload_n hX 1 rfl rfl dX6_deal_5 ?_
    refine g_bipush hX (v := nI 9) (by decide) dX6_deal_6 ?_
    refine g_icmp_le hX 14 (by decide) dX6_deal_8 (fun b8 => ?_) (fun b8 => ?_)
    · replace h := if_p b8 h
      refine g_iload_n hX 1 rfl rfl dX6_deal_14 ?_
      refine g_bipush hX (v := nI 9) (by decide) dX6_deal_15 ?_
      refine g_aload_n hX 0 rfl rfl dX6_deal_17 ?_
      refine c_get6 hX hC rfl 0 (by decide) rfl tFld_X6_10 rfl dX6_deal_18 ?_
      refine c_get4 hX hC (kst_now rfl) 6 (by decide) rfl tFld_X6_60 rfl dX6_deal_21 ?_
      refine g_isub hX dX6_deal_24 ?_
      refine g_mmin hX tMet_X6_132 (Nat.le_of_ble_eq_true rfl) (Nat.le_of_ble_eq_true rfl) (Nat.le_of_ble_eq_true rfl) (Nat.le_of_ble_eq_true rfl) (Nat.le_of_ble_eq_true rfl) dX6_deal_25 ?_
      refine g_istore_n (lv2 := [(2, .int ((mnI z1 ((nI 9 - σ.1 16 6))))), (0, .ref (sAd ε (0))), (1, .int (z1))]) hX 2 4 hN rfl (by decide) rfl dX6_deal_28 ?_
      refine g_iconst hX (v := nI 0) rfl dX6_deal_29 ?_
      refine g_istore_n (lv2 := [(3, .int (nI 0)), (2, .int ((mnI z1 ((nI 9 - σ.1 16 6))))), (0, .ref (sAd ε (0))), (1, .int (z1))]) hX 3 4 hN rfl (by decide) rfl dX6_deal_30 ?_
      refine g_lv [2, 1, 0] rfl ?_
      exact (J31 (fn_X6_deal_L49 ε z1) J49 4000) ((mnI z1 ((nI 9 - σ.1 16 6)))) (nI 0)  σ h
    · replace h := if_n b8 h
      refine g_lv [] rfl ?_
      exact J11   σ h
theorem kX6_seed : mKV RX6 yX6_seed cX6_seed 3 (some .int) 1 := ⟨tIns_X6_seed, tSel_X6_seed, tIni_X6, tCod_X6_seed, by decide +kernel⟩
set_option maxHeartbeats 4000000 in
set_option maxRecDepth 100000 in
theorem ct_X6_seed (l : Launch) (D : va_G) (cy : Nat → ClassId) (Z : (Nat → Prop) → State → Heap → Prop) (hzo : zOK Z) {aStr aByt : Nat → Nat} (hzs : zSt Z aStr aByt) {q : Nat → Nat} {C : Ev → Sg → va_W} (hC : cLens cy q C) (ε : Ev) (z1 : Int32) (σ σ2 : Sg) (res : Int32) (h : fn_X6_seed ε z1 σ = some (res, σ2)) : GD l D cy Z yX6_seed (zW yX6_seed cX6_seed 3 (some .int)) { frames := 0, cells := 0, slots := 0, locals := 0 } [.ref (sAd ε (0)), .int (z1)] (C ε σ) (some (.int res)) (C ε σ2) 0 0 := by
  refine g_entry (cc := cX6_seed) (maxL := 3) (by decide) rfl (Nat.le_of_ble_eq_true rfl) ?_
  intro κ hN hX hR
  have hX : GX κ cy Z cX6_seed (Cond.code yX6_seed cX6_seed 3 (some .int) :: zT) RX6 { frames := 0, cells := 0, slots := 0, locals := 0 } := hX
  show GW κ 0 0 (C ε σ) 0 [(0, .ref (sAd ε (0))), (1, .int (z1))] []
  refine g_aload_n hX 0 rfl rfl dX6_seed_0 ?_
  refine c_get6 hX hC rfl 0 (by decide) rfl tFld_X6_10 rfl dX6_seed_1 ?_
  refine c_get4 hX hC (kst_now rfl) 11 (by decide) rfl tFld_X6_141 rfl dX6_seed_4 ?_
  refine g_istore_n (lv2 := [(2, .int (σ.1 16 11)), (0, .ref (sAd ε (0))), (1, .int (z1))]) hX 2 3 hN rfl (by decide) rfl dX6_seed_7 ?_
  refine g_aload_n hX 1 rfl rfl dX6_seed_8 ?_
  refine c_get6 hX hC rfl 0 (by decide) rfl tFld_X6_10 rfl dX6_seed_9 ?_
  refine g_iload_n hX 2 rfl rfl dX6_seed_12 ?_
  refine c_put4 (ty := .int) hX hC (kst_now rfl) 11 (by decide) (cs_X4 ε _ _ _).2.2.2.2.2 rfl (by decide +kernel) rfl rfl tFld_X6_141 rfl dX6_seed_13 ?_
  refine g_iload_n hX 0 rfl rfl dX6_seed_16 ?_
  exact g_reti hR (oi_1 h) (congrArg (C ε) (oi_2 h)) dX6_seed_17
theorem kX6_days : mKV RX6 yX6_days cX6_days 3 (some .int) 1 := ⟨tIns_X6_days, tSel_X6_days, tIni_X6, tCod_X6_days, by decide +kernel⟩
set_option maxHeartbeats 4000000 in
set_option maxRecDepth 100000 in
theorem ct_X6_days (l : Launch) (D : va_G) (cy : Nat → ClassId) (Z : (Nat → Prop) → State → Heap → Prop) (hzo : zOK Z) {aStr aByt : Nat → Nat} (hzs : zSt Z aStr aByt) {q : Nat → Nat} {C : Ev → Sg → va_W} (hC : cLens cy q C) (ε : Ev) (z1 : Int32) (σ σ2 : Sg) (res : Int32) (h : fn_X6_days ε z1 σ = some (res, σ2)) : GD l D cy Z yX6_days (zW yX6_days cX6_days 3 (some .int)) { frames := 6, cells := 0, slots := 0, locals := 139 } [.ref (sAd ε (0)), .int (z1)] (C ε σ) (some (.int res)) (C ε σ2) 0 0 := by
  refine g_entry (cc := cX6_days) (maxL := 3) (by decide) rfl (Nat.le_of_ble_eq_true rfl) ?_
  intro κ hN hX hR
  have hX : GX κ cy Z cX6_days (Cond.code yX6_days cX6_days 3 (some .int) :: zT) RX6 { frames := 6, cells := 0, slots := 0, locals := 139 } := hX
  have J11 : ∀ (σ : Sg) , fn_X6_days_L11 ε z1  σ = some (res, σ2) → GW κ 0 0 (C ε σ) 11 [] [] := by
    intro σ h
    refine g_ldc hX (v := -1000000001) (zu tCon_X6_59 rfl) dX6_days_11 ?_
    exact g_reti hR (oi_1 h) (congrArg (C ε) (oi_2 h)) dX6_days_13
  show GW κ 0 0 (C ε σ) 0 [(0, .ref (sAd ε (0))), (1, .int (z1))] []
  refine g_iload_n hX 1 rfl rfl dX6_days_0 ?_
  refine g_iconst hX (v := nI 1) rfl dX6_days_1 ?_
  refine g_icmp_lt hX 11 (by decide) dX6_days_2 (fun b2 => ?_) (fun b2 => ?_)
  · replace h := if_p b2 h
    refine g_lv [] rfl ?_
    exact J11   σ h
  · replace h := if_n b2 h
    refine g_iload_n hX 1 rfl rfl dX6_days_5 ?_
    refine g_bipush hX (v := nI 100) (by decide) dX6_days_6 ?_
    refine g_icmp_le hX 14 (by decide) dX6_days_8 (fun b8 => ?_) (fun b8 => ?_)
    · replace h := if_p b8 h
      refine g_aload_n hX 0 rfl rfl dX6_days_14 ?_
      refine c_get6 hX hC rfl 0 (by decide) rfl tFld_X6_10 rfl dX6_days_15 ?_
      obtain ⟨y18, τ18, e18, h⟩ := ob_some h
      refine c_call4 hX hC hzo (kst_now rfl) [] [] (ct_X4_howManyStand _ _ _ _ hzo hzs hC ε 16 (kst_now rfl) σ _ _ e18) kX4_howManyStand tMet_X6_123 rfl rfl (Nat.le_of_ble_eq_true rfl) (Nat.le_of_ble_eq_true rfl) ⟨Nat.le_of_ble_eq_true rfl, Nat.le_of_ble_eq_true rfl⟩ rfl rfl (Nat.le_of_ble_eq_true rfl) dX6_days_18 ?_
      refine g_istore_n (lv2 := [(2, .int (y18)), (0, .ref (sAd ε (0))), (1, .int (z1))]) hX 2 3 hN rfl (by decide) rfl dX6_days_21 ?_
      refine g_aload_n hX 1 rfl rfl dX6_days_22 ?_
      refine c_get6 hX hC rfl 0 (by decide) rfl tFld_X6_10 rfl dX6_days_23 ?_
      refine g_iload_n hX 2 rfl rfl dX6_days_26 ?_
      refine g_sipush hX (v := nI 9999) (by decide) dX6_days_27 ?_
      refine g_aload_n hX 1 rfl rfl dX6_days_30 ?_
      refine c_get6 hX hC rfl 0 (by decide) rfl tFld_X6_10 rfl dX6_days_31 ?_
      refine c_get4 hX hC (kst_now rfl) 10 (by decide) rfl tFld_X6_144 rfl dX6_days_34 ?_
      refine g_isub hX dX6_days_37 ?_
      refine g_mmin hX tMet_X6_132 (Nat.le_of_ble_eq_true rfl) (Nat.le_of_ble_eq_true rfl) (Nat.le_of_ble_eq_true rfl) (Nat.le_of_ble_eq_true rfl) (Nat.le_of_ble_eq_true rfl) dX6_days_38 ?_
      obtain ⟨y41, τ41, e41, h⟩ := ob_some h
      refine c_call4 hX hC hzo (kst_now rfl) [.int ((mnI z1 ((nI 9999 - τ18.1 16 10))))] [] (ct_X4_goOn _ _ _ _ hzo hzs hC ε 16 (kst_now rfl) ((mnI z1 ((nI 9999 - τ18.1 16 10)))) τ18 _ _ e41) kX4_goOn tMet_X6_147 rfl rfl (Nat.le_of_ble_eq_true rfl) (Nat.le_of_ble_eq_true rfl) ⟨Nat.le_of_ble_eq_true rfl, Nat.le_of_ble_eq_true rfl⟩ rfl rfl (Nat.le_of_ble_eq_true rfl) dX6_days_41 ?_
      refine g_iload_n hX 0 rfl rfl dX6_days_44 ?_
      refine g_aload_n hX 1 rfl rfl dX6_days_45 ?_
      refine c_get6 hX hC rfl 0 (by decide) rfl tFld_X6_10 rfl dX6_days_46 ?_
      obtain ⟨y49, τ49, e49, h⟩ := ob_some h
      refine c_call4 hX hC hzo (kst_now rfl) [] [.int (y18)] (ct_X4_howManyStand _ _ _ _ hzo hzs hC ε 16 (kst_now rfl) τ41 _ _ e49) kX4_howManyStand tMet_X6_123 rfl rfl (Nat.le_of_ble_eq_true rfl) (Nat.le_of_ble_eq_true rfl) ⟨Nat.le_of_ble_eq_true rfl, Nat.le_of_ble_eq_true rfl⟩ rfl rfl (Nat.le_of_ble_eq_true rfl) dX6_days_49 ?_
      refine g_isub hX dX6_days_52 ?_
      exact g_reti hR (oi_1 h) (congrArg (C ε) (oi_2 h)) dX6_days_53
    · replace h := if_n b8 h
      refine g_lv [] rfl ?_
      exact J11   σ h
theorem kX6_street : mKV RX6 yX6_street cX6_street 2 (some .int) 1 := ⟨tIns_X6_street, tSel_X6_street, tIni_X6, tCod_X6_street, by decide +kernel⟩
set_option maxHeartbeats 4000000 in
set_option maxRecDepth 100000 in
theorem ct_X6_street (l : Launch) (D : va_G) (cy : Nat → ClassId) (Z : (Nat → Prop) → State → Heap → Prop) (hzo : zOK Z) {aStr aByt : Nat → Nat} (hzs : zSt Z aStr aByt) {q : Nat → Nat} {C : Ev → Sg → va_W} (hC : cLens cy q C) (ε : Ev) (z1 : Int32) (σ σ2 : Sg) (res : Int32) (h : fn_X6_street ε z1 σ = some (res, σ2)) : GD l D cy Z yX6_street (zW yX6_street cX6_street 2 (some .int)) { frames := 5, cells := 0, slots := 0, locals := 117 } [.ref (sAd ε (0)), .int (z1)] (C ε σ) (some (.int res)) (C ε σ2) 0 0 := by
  refine g_entry (cc := cX6_street) (maxL := 2) (by decide) rfl (Nat.le_of_ble_eq_true rfl) ?_
  intro κ hN hX hR
  have hX : GX κ cy Z cX6_street (Cond.code yX6_street cX6_street 2 (some .int) :: zT) RX6 { frames := 5, cells := 0, slots := 0, locals := 117 } := hX
  show GW κ 0 0 (C ε σ) 0 [(0, .ref (sAd ε (0))), (1, .int (z1))] []
  refine g_iload_n hX 1 rfl rfl dX6_street_0 ?_
  rcases sw_in (z1) 0 4 (by decide) with w1 | ⟨j1, w1a, w1b, w1⟩
  · replace h := if_n (sw_out w1 0 (by decide) (by decide) (by decide)) h
    replace h := if_n (sw_out w1 1 (by decide) (by decide) (by decide)) h
    replace h := if_n (sw_out w1 2 (by decide) (by decide) (by decide)) h
    replace h := if_n (sw_out w1 3 (by decide) (by decide) (by decide)) h
    replace h := if_n (sw_out w1 4 (by decide) (by decide) (by decide)) h
    refine g_tableOut hX 76 w1 (by decide) dX6_street_1 ?_
    refine g_ldc hX (v := -1000000001) (zu tCon_X6_59 rfl) dX6_street_76 ?_
    exact g_reti hR (oi_1 h) (congrArg (C ε) (oi_2 h)) dX6_street_78
  · have hj : j1 = 0 ∨ j1 = 1 ∨ j1 = 2 ∨ j1 = 3 ∨ j1 = 4 := by omega
    rcases hj with rfl | rfl | rfl | rfl | rfl
    · replace h := if_p w1 h
      refine g_top (y := .int (nI 0)) (congrArg Value.int w1) ?_
      refine g_tableIn hX 36 (by decide) (by decide) rfl (by decide) dX6_street_1 ?_
      refine g_aload_n hX 0 rfl rfl dX6_street_36 ?_
      refine c_get6 hX hC rfl 0 (by decide) rfl tFld_X6_10 rfl dX6_street_37 ?_
      refine c_get4 hX hC (kst_now rfl) 9 (by decide) rfl tFld_X6_151 rfl dX6_street_40 ?_
      exact g_reti hR (oi_1 h) (congrArg (C ε) (oi_2 h)) dX6_street_43
    · replace h := if_n (by rw [w1]; decide) h
      replace h := if_p w1 h
      refine g_top (y := .int (nI 1)) (congrArg Value.int w1) ?_
      refine g_tableIn hX 44 (by decide) (by decide) rfl (by decide) dX6_street_1 ?_
      refine g_aload_n hX 0 rfl rfl dX6_street_44 ?_
      refine c_get6 hX hC rfl 0 (by decide) rfl tFld_X6_10 rfl dX6_street_45 ?_
      obtain ⟨y48, τ48, e48, h⟩ := ob_some h
      refine c_call4 hX hC hzo (kst_now rfl) [] [] (ct_X4_standing _ _ _ _ hzo hzs hC ε 16 (kst_now rfl) σ _ _ e48) kX4_standing tMet_X6_154 rfl rfl (Nat.le_of_ble_eq_true rfl) (Nat.le_of_ble_eq_true rfl) ⟨Nat.le_of_ble_eq_true rfl, Nat.le_of_ble_eq_true rfl⟩ rfl rfl (Nat.le_of_ble_eq_true rfl) dX6_street_48 ?_
      exact g_reti hR (oi_1 h) (congrArg (C ε) (oi_2 h)) dX6_street_51
    · replace h := if_n (by rw [w1]; decide) h
      replace h := if_n (by rw [w1]; decide) h
      replace h := if_p w1 h
      refine g_top (y := .int (nI 2)) (congrArg Value.int w1) ?_
      refine g_tableIn hX 52 (by decide) (by decide) rfl (by decide) dX6_street_1 ?_
      refine g_aload_n hX 0 rfl rfl dX6_street_52 ?_
      refine c_get6 hX hC rfl 0 (by decide) rfl tFld_X6_10 rfl dX6_street_53 ?_
      obtain ⟨y56, τ56, e56, h⟩ := ob_some h
      refine c_call4 hX hC hzo (kst_now rfl) [] [] (ct_X4_cracks _ _ _ _ hzo hzs hC ε 16 (kst_now rfl) σ _ _ e56) kX4_cracks tMet_X6_157 rfl rfl (Nat.le_of_ble_eq_true rfl) (Nat.le_of_ble_eq_true rfl) ⟨Nat.le_of_ble_eq_true rfl, Nat.le_of_ble_eq_true rfl⟩ rfl rfl (Nat.le_of_ble_eq_true rfl) dX6_street_56 ?_
      exact g_reti hR (oi_1 h) (congrArg (C ε) (oi_2 h)) dX6_street_59
    · replace h := if_n (by rw [w1]; decide) h
      replace h := if_n (by rw [w1]; decide) h
      replace h := if_n (by rw [w1]; decide) h
      replace h := if_p w1 h
      refine g_top (y := .int (nI 3)) (congrArg Value.int w1) ?_
      refine g_tableIn hX 60 (by decide) (by decide) rfl (by decide) dX6_street_1 ?_
      refine g_aload_n hX 0 rfl rfl dX6_street_60 ?_
      refine c_get6 hX hC rfl 0 (by decide) rfl tFld_X6_10 rfl dX6_street_61 ?_
      obtain ⟨y64, τ64, e64, h⟩ := ob_some h
      refine c_call4 hX hC hzo (kst_now rfl) [] [] (ct_X4_props _ _ _ _ hzo hzs hC ε 16 (kst_now rfl) σ _ _ e64) kX4_props tMet_X6_160 rfl rfl (Nat.le_of_ble_eq_true rfl) (Nat.le_of_ble_eq_true rfl) ⟨Nat.le_of_ble_eq_true rfl, Nat.le_of_ble_eq_true rfl⟩ rfl rfl (Nat.le_of_ble_eq_true rfl) dX6_street_64 ?_
      exact g_reti hR (oi_1 h) (congrArg (C ε) (oi_2 h)) dX6_street_67
    · replace h := if_n (by rw [w1]; decide) h
      replace h := if_n (by rw [w1]; decide) h
      replace h := if_n (by rw [w1]; decide) h
      replace h := if_n (by rw [w1]; decide) h
      replace h := if_p w1 h
      refine g_top (y := .int (nI 4)) (congrArg Value.int w1) ?_
      refine g_tableIn hX 68 (by decide) (by decide) rfl (by decide) dX6_street_1 ?_
      refine g_aload_n hX 0 rfl rfl dX6_street_68 ?_
      refine c_get6 hX hC rfl 0 (by decide) rfl tFld_X6_10 rfl dX6_street_69 ?_
      obtain ⟨y72, τ72, e72, h⟩ := ob_some h
      refine c_call4 hX hC hzo (kst_now rfl) [] [] (ct_X4_notHolding _ _ _ _ hzo hzs hC ε 16 (kst_now rfl) σ _ _ e72) kX4_notHolding tMet_X6_163 rfl rfl (Nat.le_of_ble_eq_true rfl) (Nat.le_of_ble_eq_true rfl) ⟨Nat.le_of_ble_eq_true rfl, Nat.le_of_ble_eq_true rfl⟩ rfl rfl (Nat.le_of_ble_eq_true rfl) dX6_street_72 ?_
      exact g_reti hR (oi_1 h) (congrArg (C ε) (oi_2 h)) dX6_street_75
theorem kX6_behind : mKV RX6 yX6_behind cX6_behind 3 (some .int) 2 := ⟨tIns_X6_behind, tSel_X6_behind, tIni_X6, tCod_X6_behind, by decide +kernel⟩
set_option maxHeartbeats 4000000 in
set_option maxRecDepth 100000 in
theorem ct_X6_behind (l : Launch) (D : va_G) (cy : Nat → ClassId) (Z : (Nat → Prop) → State → Heap → Prop) (hzo : zOK Z) {aStr aByt : Nat → Nat} (hzs : zSt Z aStr aByt) {q : Nat → Nat} {C : Ev → Sg → va_W} (hC : cLens cy q C) (ε : Ev) (z1 : Int32) (z2 : Int32) (σ σ2 : Sg) (res : Int32) (h : fn_X6_behind ε z1 z2 σ = some (res, σ2)) : GD l D cy Z yX6_behind (zW yX6_behind cX6_behind 3 (some .int)) { frames := 6, cells := 0, slots := 0, locals := 139 } [.ref (sAd ε (0)), .int (z1), .int (z2)] (C ε σ) (some (.int res)) (C ε σ2) 0 0 := by
  refine g_entry (cc := cX6_behind) (maxL := 3) (by decide) rfl (Nat.le_of_ble_eq_true rfl) ?_
  intro κ hN hX hR
  have hX : GX κ cy Z cX6_behind (Cond.code yX6_behind cX6_behind 3 (some .int) :: zT) RX6 { frames := 6, cells := 0, slots := 0, locals := 139 } := hX
  have J27 : ∀ (σ : Sg) , fn_X6_behind_L27 ε z1 z2  σ = some (res, σ2) → GW κ 0 0 (C ε σ) 27 [] [] := by
    intro σ h
    refine g_ldc hX (v := -1000000001) (zu tCon_X6_59 rfl) dX6_behind_27 ?_
    exact g_reti hR (oi_1 h) (congrArg (C ε) (oi_2 h)) dX6_behind_29
  show GW κ 0 0 (C ε σ) 0 [(0, .ref (sAd ε (0))), (1, .int (z1)), (2, .int (z2))] []
  refine g_iload_n hX 1 rfl rfl dX6_behind_0 ?_
  refine g_if_lt hX 27 (by decide) dX6_behind_1 (fun b1 => ?_) (fun b1 => ?_)
  · replace h := if_p b1 h
    refine g_lv [] rfl ?_
    exact J27   σ h
  · replace h := if_n b1 h
    refine g_iload_n hX 1 rfl rfl dX6_behind_4 ?_
    refine g_bipush hX (v := nI 100) (by decide) dX6_behind_5 ?_
    refine g_icmp_gt hX 27 (by decide) dX6_behind_7 (fun b7 => ?_) (fun b7 => ?_)
    · replace h := if_p b7 h
      refine g_lv [] rfl ?_
      exact J27   σ h
    · replace h := if_n b7 h
      refine g_iload_n hX 2 rfl rfl dX6_behind_10 ?_
      refine g_if_lt hX 27 (by decide) dX6_behind_11 (fun b11 => ?_) (fun b11 => ?_)
      · replace h := if_p b11 h
        refine g_lv [] rfl ?_
        exact J27   σ h
      · replace h := if_n b11 h
        refine g_iload_n hX 2 rfl rfl dX6_behind_14 ?_
        refine g_iconst hX (v := nI 3) rfl dX6_behind_15 ?_
        refine g_aload_n hX 0 rfl rfl dX6_behind_16 ?_
        refine c_get6 hX hC rfl 0 (by decide) rfl tFld_X6_10 rfl dX6_behind_17 ?_
        refine c_get4 hX hC (kst_now rfl) 6 (by decide) rfl tFld_X6_60 rfl dX6_behind_20 ?_
        refine g_iadd hX dX6_behind_23 ?_
        refine g_icmp_lt hX 30 (by decide) dX6_behind_24 (fun b24 => ?_) (fun b24 => ?_)
        · replace h := if_p b24 h
          refine g_aload_n hX 0 rfl rfl dX6_behind_30 ?_
          refine g_aload_n hX 0 rfl rfl dX6_behind_31 ?_
          refine c_get6 hX hC rfl 0 (by decide) rfl tFld_X6_10 rfl dX6_behind_32 ?_
          obtain ⟨y35, τ35, e35, h⟩ := ob_some h
          refine c_call6 hX hC hzo rfl [.ref (sAd ε (16))] [] (ct_X6_thinkOf _ _ _ _ hzo hzs hC ε 16 (kst_now rfl) σ _ _ e35) kX6_thinkOf tMet_X6_166 rfl rfl (Nat.le_of_ble_eq_true rfl) (Nat.le_of_ble_eq_true rfl) ⟨Nat.le_of_ble_eq_true rfl, Nat.le_of_ble_eq_true rfl⟩ rfl rfl (Nat.le_of_ble_eq_true rfl) dX6_behind_35 ?_
          obtain ⟨g1, h⟩ := gd_some h
          refine g_iload_n hX 1 rfl rfl dX6_behind_38 ?_
          obtain ⟨y39, τ39, e39, h⟩ := ob_some h
          refine c_call4 hX hC hzo g1 [.int (z1)] [] (ct_X4_goOn _ _ _ _ hzo hzs hC ε y35 g1 z1 τ35 _ _ e39) kX4_goOn tMet_X6_147 rfl rfl (Nat.le_of_ble_eq_true rfl) (Nat.le_of_ble_eq_true rfl) ⟨Nat.le_of_ble_eq_true rfl, Nat.le_of_ble_eq_true rfl⟩ rfl rfl (Nat.le_of_ble_eq_true rfl) dX6_behind_39 ?_
          refine g_iload_n hX 2 rfl rfl dX6_behind_42 ?_
          rcases sw_in (z2) 0 2 (by decide) with w43 | ⟨j43, w43a, w43b, w43⟩
          · replace h := if_n (sw_out w43 0 (by decide) (by decide) (by decide)) h
            replace h := if_n (sw_out w43 1 (by decide) (by decide) (by decide)) h
            replace h := if_n (sw_out w43 2 (by decide) (by decide) (by decide)) h
            refine g_tableOut hX 92 w43 (by decide) dX6_behind_43 ?_
            refine g_aload_n hX 0 rfl rfl dX6_behind_92 ?_
            refine c_get6 hX hC rfl 2 (by decide) rfl tFld_X6_19 rfl dX6_behind_93 ?_
            refine c_get4 hX hC (kst_tho rfl) 0 (by decide) rfl tFld_X6_72 rfl dX6_behind_96 ?_
            refine g_iload_n hX 2 rfl rfl dX6_behind_99 ?_
            refine g_iconst hX (v := nI 3) rfl dX6_behind_100 ?_
            refine g_isub hX dX6_behind_101 ?_
            obtain ⟨g2, h⟩ := gd_some h
            refine c_aald hX hC (kq_X4_1 (kst_tho rfl)) rfl g2 (v := .ref (sAd ε (55 + ((z2 - nI 3)).toNatClampNeg))) rfl dX6_behind_102 ?_
            refine c_get0 hX hC (kh_X4 (kst_tho rfl) (vin_lt g2)) 2 (by decide) rfl tFld_X6_170 rfl dX6_behind_103 ?_
            exact g_reti hR (oi_1 h) (congrArg (C ε) (oi_2 h)) dX6_behind_106
          · have hj : j43 = 0 ∨ j43 = 1 ∨ j43 = 2 := by omega
            rcases hj with rfl | rfl | rfl
            · replace h := if_p w43 h
              refine g_top (y := .int (nI 0)) (congrArg Value.int w43) ?_
              refine g_tableIn hX 68 (by decide) (by decide) rfl (by decide) dX6_behind_43 ?_
              refine g_aload_n hX 0 rfl rfl dX6_behind_68 ?_
              refine c_get6 hX hC rfl 2 (by decide) rfl tFld_X6_19 rfl dX6_behind_69 ?_
              obtain ⟨y72, τ72, e72, h⟩ := ob_some h
              refine c_call4 hX hC hzo (kst_tho rfl) [] [] (ct_X4_standing _ _ _ _ hzo hzs hC ε 48 (kst_tho rfl) τ39 _ _ e72) kX4_standing tMet_X6_154 rfl rfl (Nat.le_of_ble_eq_true rfl) (Nat.le_of_ble_eq_true rfl) ⟨Nat.le_of_ble_eq_true rfl, Nat.le_of_ble_eq_true rfl⟩ rfl rfl (Nat.le_of_ble_eq_true rfl) dX6_behind_72 ?_
              exact g_reti hR (oi_1 h) (congrArg (C ε) (oi_2 h)) dX6_behind_75
            · replace h := if_n (by rw [w43]; decide) h
              replace h := if_p w43 h
              refine g_top (y := .int (nI 1)) (congrArg Value.int w43) ?_
              refine g_tableIn hX 76 (by decide) (by decide) rfl (by decide) dX6_behind_43 ?_
              refine g_aload_n hX 0 rfl rfl dX6_behind_76 ?_
              refine c_get6 hX hC rfl 2 (by decide) rfl tFld_X6_19 rfl dX6_behind_77 ?_
              obtain ⟨y80, τ80, e80, h⟩ := ob_some h
              refine c_call4 hX hC hzo (kst_tho rfl) [] [] (ct_X4_cracks _ _ _ _ hzo hzs hC ε 48 (kst_tho rfl) τ39 _ _ e80) kX4_cracks tMet_X6_157 rfl rfl (Nat.le_of_ble_eq_true rfl) (Nat.le_of_ble_eq_true rfl) ⟨Nat.le_of_ble_eq_true rfl, Nat.le_of_ble_eq_true rfl⟩ rfl rfl (Nat.le_of_ble_eq_true rfl) dX6_behind_80 ?_
              exact g_reti hR (oi_1 h) (congrArg (C ε) (oi_2 h)) dX6_behind_83
            · replace h := if_n (by rw [w43]; decide) h
              replace h := if_n (by rw [w43]; decide) h
              replace h := if_p w43 h
              refine g_top (y := .int (nI 2)) (congrArg Value.int w43) ?_
              refine g_tableIn hX 84 (by decide) (by decide) rfl (by decide) dX6_behind_43 ?_
              refine g_aload_n hX 0 rfl rfl dX6_behind_84 ?_
              refine c_get6 hX hC rfl 2 (by decide) rfl tFld_X6_19 rfl dX6_behind_85 ?_
              refine c_get4 hX hC (kst_tho rfl) 9 (by decide) rfl tFld_X6_151 rfl dX6_behind_88 ?_
              exact g_reti hR (oi_1 h) (congrArg (C ε) (oi_2 h)) dX6_behind_91
        · replace h := if_n b24 h
          refine g_lv [] rfl ?_
          exact J27   σ h
theorem kX6_lasts : mKV RX6 yX6_lasts cX6_lasts 2 (some .int) 0 := ⟨tIns_X6_lasts, tSel_X6_lasts, tIni_X6, tCod_X6_lasts, by decide +kernel⟩
set_option maxHeartbeats 4000000 in
set_option maxRecDepth 100000 in
theorem ct_X6_lasts (l : Launch) (D : va_G) (cy : Nat → ClassId) (Z : (Nat → Prop) → State → Heap → Prop) (hzo : zOK Z) {aStr aByt : Nat → Nat} (hzs : zSt Z aStr aByt) {q : Nat → Nat} {C : Ev → Sg → va_W} (hC : cLens cy q C) (ε : Ev) (σ σ2 : Sg) (res : Int32) (h : fn_X6_lasts ε σ = some (res, σ2)) : GD l D cy Z yX6_lasts (zW yX6_lasts cX6_lasts 2 (some .int)) { frames := 6, cells := 0, slots := 0, locals := 141 } [.ref (sAd ε (0))] (C ε σ) (some (.int res)) (C ε σ2) 0 0 := by
  refine g_entry (cc := cX6_lasts) (maxL := 2) (by decide) rfl (Nat.le_of_ble_eq_true rfl) ?_
  intro κ hN hX hR
  have hX : GX κ cy Z cX6_lasts (Cond.code yX6_lasts cX6_lasts 2 (some .int) :: zT) RX6 { frames := 6, cells := 0, slots := 0, locals := 141 } := hX
  have J25 : ∀ (s0 : Int32) (σ : Sg) , fn_X6_lasts_L25 ε s0 σ = some (res, σ2) → GW κ 0 0 (C ε σ) 25 [] [.int (s0)] := by
    intro s0 σ h
    exact g_reti hR (oi_1 h) (congrArg (C ε) (oi_2 h)) dX6_lasts_25
  show GW κ 0 0 (C ε σ) 0 [(0, .ref (sAd ε (0)))] []
  refine g_aload_n hX 0 rfl rfl dX6_lasts_0 ?_
  refine g_aload_n hX 0 rfl rfl dX6_lasts_1 ?_
  refine c_get6 hX hC rfl 0 (by decide) rfl tFld_X6_10 rfl dX6_lasts_2 ?_
  obtain ⟨y5, τ5, e5, h⟩ := ob_some h
  refine c_call6 hX hC hzo rfl [.ref (sAd ε (16))] [] (ct_X6_thinkOf _ _ _ _ hzo hzs hC ε 16 (kst_now rfl) σ _ _ e5) kX6_thinkOf tMet_X6_166 rfl rfl (Nat.le_of_ble_eq_true rfl) (Nat.le_of_ble_eq_true rfl) ⟨Nat.le_of_ble_eq_true rfl, Nat.le_of_ble_eq_true rfl⟩ rfl rfl (Nat.le_of_ble_eq_true rfl) dX6_lasts_5 ?_
  obtain ⟨g1, h⟩ := gd_some h
  refine g_sipush hX (v := nI 300) (by decide) dX6_lasts_8 ?_
  obtain ⟨y11, τ11, e11, h⟩ := ob_some h
  refine c_call4 hX hC hzo g1 [.int (nI 300)] [] (ct_X4_firstFall _ _ _ _ hzo hzs hC ε y5 g1 (nI 300) τ5 _ _ e11) kX4_firstFall tMet_X6_173 rfl rfl (Nat.le_of_ble_eq_true rfl) (Nat.le_of_ble_eq_true rfl) ⟨Nat.le_of_ble_eq_true rfl, Nat.le_of_ble_eq_true rfl⟩ rfl rfl (Nat.le_of_ble_eq_true rfl) dX6_lasts_11 ?_
  refine g_istore_n (lv2 := [(1, .int (y11)), (0, .ref (sAd ε (0)))]) hX 1 2 hN rfl (by decide) rfl dX6_lasts_14 ?_
  refine g_iload_n hX 0 rfl rfl dX6_lasts_15 ?_
  refine g_if_ne hX 24 (by decide) dX6_lasts_16 (fun b16 => ?_) (fun b16 => ?_)
  · replace h := if_n b16 h
    refine g_iload_n hX 0 rfl rfl dX6_lasts_24 ?_
    refine g_lv [] rfl ?_
    exact J25 y11  τ11 h
  · replace h := if_p b16 h
    refine g_ldc hX (v := -1000000005) (zu tCon_X6_176 rfl) dX6_lasts_19 ?_
    refine g_goto hX 25 (by decide) dX6_lasts_21 ?_
    refine g_lv [] rfl ?_
    exact J25 ((-1000000005))  τ11 h
theorem kX6_taken : mKV RX6 yX6_taken cX6_taken 4 (some .int) 2 := ⟨tIns_X6_taken, tSel_X6_taken, tIni_X6, tCod_X6_taken, by decide +kernel⟩
set_option maxHeartbeats 4000000 in
set_option maxRecDepth 100000 in
theorem ct_X6_taken (l : Launch) (D : va_G) (cy : Nat → ClassId) (Z : (Nat → Prop) → State → Heap → Prop) (hzo : zOK Z) {aStr aByt : Nat → Nat} (hzs : zSt Z aStr aByt) {q : Nat → Nat} {C : Ev → Sg → va_W} (hC : cLens cy q C) (ε : Ev) (z1 : Int32) (z2 : Int32) (σ σ2 : Sg) (res : Int32) (h : fn_X6_taken ε z1 z2 σ = some (res, σ2)) : GD l D cy Z yX6_taken (zW yX6_taken cX6_taken 4 (some .int)) { frames := 6, cells := 0, slots := 0, locals := 139 } [.ref (sAd ε (0)), .int (z1), .int (z2)] (C ε σ) (some (.int res)) (C ε σ2) 0 0 := by
  refine g_entry (cc := cX6_taken) (maxL := 4) (by decide) rfl (Nat.le_of_ble_eq_true rfl) ?_
  intro κ hN hX hR
  have hX : GX κ cy Z cX6_taken (Cond.code yX6_taken cX6_taken 4 (some .int) :: zT) RX6 { frames := 6, cells := 0, slots := 0, locals := 139 } := hX
  have J19 : ∀ (σ : Sg) , fn_X6_taken_L19 ε z1 z2  σ = some (res, σ2) → GW κ 0 0 (C ε σ) 19 [] [] := by
    intro σ h
    refine g_ldc hX (v := -1000000001) (zu tCon_X6_59 rfl) dX6_taken_19 ?_
    exact g_reti hR (oi_1 h) (congrArg (C ε) (oi_2 h)) dX6_taken_21
  show GW κ 0 0 (C ε σ) 0 [(0, .ref (sAd ε (0))), (1, .int (z1)), (2, .int (z2))] []
  refine g_aload_n hX 0 rfl rfl dX6_taken_0 ?_
  refine g_iload_n hX 1 rfl rfl dX6_taken_1 ?_
  obtain ⟨y2, τ2, e2, h⟩ := ob_some h
  refine c_call6 hX hC hzo rfl [.int (z1)] [] (ct_X6_isHouse _ _ _ _ hzo hzs hC ε z1 σ _ _ e2) kX6_isHouse tMet_X6_68 rfl rfl (Nat.le_of_ble_eq_true rfl) (Nat.le_of_ble_eq_true rfl) ⟨Nat.le_of_ble_eq_true rfl, Nat.le_of_ble_eq_true rfl⟩ rfl rfl (Nat.le_of_ble_eq_true rfl) dX6_taken_2 ?_
  refine g_if_eq hX 19 (by decide) dX6_taken_5 (fun b5 => ?_) (fun b5 => ?_)
  · replace h := if_p b5 h
    refine g_lv [] rfl ?_
    exact J19   τ2 h
  · replace h := if_n b5 h
    refine g_iload_n hX 2 rfl rfl dX6_taken_8 ?_
    refine g_iconst hX (v := nI 1) rfl dX6_taken_9 ?_
    refine g_icmp_lt hX 19 (by decide) dX6_taken_10 (fun b10 => ?_) (fun b10 => ?_)
    · replace h := if_p b10 h
      refine g_lv [] rfl ?_
      exact J19   τ2 h
    · replace h := if_n b10 h
      refine g_iload_n hX 2 rfl rfl dX6_taken_13 ?_
      refine g_bipush hX (v := nI 60) (by decide) dX6_taken_14 ?_
      refine g_icmp_le hX 22 (by decide) dX6_taken_16 (fun b16 => ?_) (fun b16 => ?_)
      · replace h := if_p b16 h
        refine g_aload_n hX 0 rfl rfl dX6_taken_22 ?_
        refine c_get6 hX hC rfl 0 (by decide) rfl tFld_X6_10 rfl dX6_taken_23 ?_
        refine c_get4 hX hC (kst_now rfl) 0 (by decide) rfl tFld_X6_72 rfl dX6_taken_26 ?_
        refine g_iload_n hX 1 rfl rfl dX6_taken_29 ?_
        obtain ⟨g1, h⟩ := gd_some h
        refine c_aald hX hC (kq_X4_1 (kst_now rfl)) rfl g1 (v := .ref (sAd ε (23 + z1.toNatClampNeg))) rfl dX6_taken_30 ?_
        refine c_get0 hX hC (kh_X4 (kst_now rfl) (vin_lt g1)) 6 (by decide) rfl tFld_X6_76 rfl dX6_taken_31 ?_
        refine g_if_ne hX 40 (by decide) dX6_taken_34 (fun b34 => ?_) (fun b34 => ?_)
        · replace h := if_n b34 h
          refine g_aload_n hX 0 rfl rfl dX6_taken_40 ?_
          refine g_aload_n hX 0 rfl rfl dX6_taken_41 ?_
          refine c_get6 hX hC rfl 0 (by decide) rfl tFld_X6_10 rfl dX6_taken_42 ?_
          obtain ⟨y45, τ45, e45, h⟩ := ob_some h
          refine c_call6 hX hC hzo rfl [.ref (sAd ε (16))] [] (ct_X6_thinkOf _ _ _ _ hzo hzs hC ε 16 (kst_now rfl) τ2 _ _ e45) kX6_thinkOf tMet_X6_166 rfl rfl (Nat.le_of_ble_eq_true rfl) (Nat.le_of_ble_eq_true rfl) ⟨Nat.le_of_ble_eq_true rfl, Nat.le_of_ble_eq_true rfl⟩ rfl rfl (Nat.le_of_ble_eq_true rfl) dX6_taken_45 ?_
          obtain ⟨g2, h⟩ := gd_some h
          refine g_iload_n hX 2 rfl rfl dX6_taken_48 ?_
          obtain ⟨y49, τ49, e49, h⟩ := ob_some h
          refine c_call4 hX hC hzo g2 [.int (z2)] [] (ct_X4_goOn _ _ _ _ hzo hzs hC ε y45 g2 z2 τ45 _ _ e49) kX4_goOn tMet_X6_147 rfl rfl (Nat.le_of_ble_eq_true rfl) (Nat.le_of_ble_eq_true rfl) ⟨Nat.le_of_ble_eq_true rfl, Nat.le_of_ble_eq_true rfl⟩ rfl rfl (Nat.le_of_ble_eq_true rfl) dX6_taken_49 ?_
          refine g_aload_n hX 0 rfl rfl dX6_taken_52 ?_
          refine c_get6 hX hC rfl 2 (by decide) rfl tFld_X6_19 rfl dX6_taken_53 ?_
          obtain ⟨y56, τ56, e56, h⟩ := ob_some h
          refine c_call4 hX hC hzo (kst_tho rfl) [] [] (ct_X4_standing _ _ _ _ hzo hzs hC ε 48 (kst_tho rfl) τ49 _ _ e56) kX4_standing tMet_X6_154 rfl rfl (Nat.le_of_ble_eq_true rfl) (Nat.le_of_ble_eq_true rfl) ⟨Nat.le_of_ble_eq_true rfl, Nat.le_of_ble_eq_true rfl⟩ rfl rfl (Nat.le_of_ble_eq_true rfl) dX6_taken_56 ?_
          refine g_istore_n (lv2 := [(3, .int (y56)), (0, .ref (sAd ε (0))), (1, .int (z1)), (2, .int (z2))]) hX 3 4 hN rfl (by decide) rfl dX6_taken_59 ?_
          refine g_aload_n hX 1 rfl rfl dX6_taken_60 ?_
          refine g_aload_n hX 1 rfl rfl dX6_taken_61 ?_
          refine c_get6 hX hC rfl 0 (by decide) rfl tFld_X6_10 rfl dX6_taken_62 ?_
          obtain ⟨y65, τ65, e65, h⟩ := ob_some h
          refine c_call6 hX hC hzo rfl [.ref (sAd ε (16))] [] (ct_X6_thinkOf _ _ _ _ hzo hzs hC ε 16 (kst_now rfl) τ56 _ _ e65) kX6_thinkOf tMet_X6_166 rfl rfl (Nat.le_of_ble_eq_true rfl) (Nat.le_of_ble_eq_true rfl) ⟨Nat.le_of_ble_eq_true rfl, Nat.le_of_ble_eq_true rfl⟩ rfl rfl (Nat.le_of_ble_eq_true rfl) dX6_taken_65 ?_
          obtain ⟨g3, h⟩ := gd_some h
          refine c_get4 hX hC g3 0 (by decide) rfl tFld_X6_72 rfl dX6_taken_68 ?_
          refine g_iload_n hX 2 rfl rfl dX6_taken_71 ?_
          refine c_aald hX hC (kq_X4_1 g3) rfl g1 (v := .ref (sAd ε (y65 + 7 + z1.toNatClampNeg))) rfl dX6_taken_72 ?_
          obtain ⟨y73, τ73, e73, h⟩ := ob_some h
          refine c_call0 hX hC hzo (kh_X4 g3 (vin_lt g1)) [] [] (ct_X0_fall _ _ _ _ hzo hzs hC ε (y65 + 7 + z1.toNatClampNeg) (kh_X4 g3 (vin_lt g1)) τ65 _ _ e73) kX0_fall tMet_X6_120 rfl rfl (Nat.le_of_ble_eq_true rfl) (Nat.le_of_ble_eq_true rfl) ⟨Nat.le_of_ble_eq_true rfl, Nat.le_of_ble_eq_true rfl⟩ rfl rfl (Nat.le_of_ble_eq_true rfl) dX6_taken_73 ?_
          refine g_aload_n hX 1 rfl rfl dX6_taken_76 ?_
          refine c_get6 hX hC rfl 2 (by decide) rfl tFld_X6_19 rfl dX6_taken_77 ?_
          refine g_iload_n hX 3 rfl rfl dX6_taken_80 ?_
          obtain ⟨y81, τ81, e81, h⟩ := ob_some h
          refine c_call4 hX hC hzo (kst_tho rfl) [.int (z2)] [] (ct_X4_goOn _ _ _ _ hzo hzs hC ε 48 (kst_tho rfl) z2 τ73 _ _ e81) kX4_goOn tMet_X6_147 rfl rfl (Nat.le_of_ble_eq_true rfl) (Nat.le_of_ble_eq_true rfl) ⟨Nat.le_of_ble_eq_true rfl, Nat.le_of_ble_eq_true rfl⟩ rfl rfl (Nat.le_of_ble_eq_true rfl) dX6_taken_81 ?_
          refine g_iload_n hX 0 rfl rfl dX6_taken_84 ?_
          refine g_aload_n hX 1 rfl rfl dX6_taken_85 ?_
          refine c_get6 hX hC rfl 2 (by decide) rfl tFld_X6_19 rfl dX6_taken_86 ?_
          obtain ⟨y89, τ89, e89, h⟩ := ob_some h
          refine c_call4 hX hC hzo (kst_tho rfl) [] [.int (y56)] (ct_X4_standing _ _ _ _ hzo hzs hC ε 48 (kst_tho rfl) τ81 _ _ e89) kX4_standing tMet_X6_154 rfl rfl (Nat.le_of_ble_eq_true rfl) (Nat.le_of_ble_eq_true rfl) ⟨Nat.le_of_ble_eq_true rfl, Nat.le_of_ble_eq_true rfl⟩ rfl rfl (Nat.le_of_ble_eq_true rfl) dX6_taken_89 ?_
          refine g_iconst hX (v := -1) (by decide) dX6_taken_92 ?_
          refine g_ixor hX dX6_taken_93 ?_
          refine g_iand hX dX6_taken_94 ?_
          refine g_iconst hX (v := nI 1) rfl dX6_taken_95 ?_
          refine g_iload_n hX 2 rfl rfl dX6_taken_96 ?_
          refine g_ishl hX dX6_taken_97 ?_
          refine g_iconst hX (v := -1) (by decide) dX6_taken_98 ?_
          refine g_ixor hX dX6_taken_99 ?_
          refine g_iand hX dX6_taken_100 ?_
          exact g_reti hR (oi_1 h) (congrArg (C ε) (oi_2 h)) dX6_taken_101
        · replace h := if_p b34 h
          refine g_ldc hX (v := -1000000002) (zu tCon_X6_119 rfl) dX6_taken_37 ?_
          exact g_reti hR (oi_1 h) (congrArg (C ε) (oi_2 h)) dX6_taken_39
      · replace h := if_n b16 h
        refine g_lv [] rfl ?_
        exact J19   τ2 h
theorem kX6_propped : mKV RX6 yX6_propped cX6_propped 5 (some .int) 1 := ⟨tIns_X6_propped, tSel_X6_propped, tIni_X6, tCod_X6_propped, by decide +kernel⟩
set_option maxHeartbeats 4000000 in
set_option maxRecDepth 100000 in
theorem ct_X6_propped (l : Launch) (D : va_G) (cy : Nat → ClassId) (Z : (Nat → Prop) → State → Heap → Prop) (hzo : zOK Z) {aStr aByt : Nat → Nat} (hzs : zSt Z aStr aByt) {q : Nat → Nat} {C : Ev → Sg → va_W} (hC : cLens cy q C) (ε : Ev) (z1 : Int32) (σ σ2 : Sg) (res : Int32) (h : fn_X6_propped ε z1 σ = some (res, σ2)) : GD l D cy Z yX6_propped (zW yX6_propped cX6_propped 5 (some .int)) { frames := 7, cells := 0, slots := 0, locals := 164 } [.ref (sAd ε (0)), .int (z1)] (C ε σ) (some (.int res)) (C ε σ2) 0 0 := by
  refine g_entry (cc := cX6_propped) (maxL := 5) (by decide) rfl (Nat.le_of_ble_eq_true rfl) ?_
  intro κ hN hX hR
  have hX : GX κ cy Z cX6_propped (Cond.code yX6_propped cX6_propped 5 (some .int) :: zT) RX6 { frames := 7, cells := 0, slots := 0, locals := 164 } := hX
  obtain ⟨tMOST, hMOST⟩ := zt_MOST hX hzs
  have J110 : ∀ (σ : Sg) , fn_X6_propped_L110 ε z1  σ = some (res, σ2) → GW κ 0 0 (C ε σ) 110 [] [] := by
    intro σ h
    refine g_ldc hX (v := -1000000005) (zu tCon_X6_176 rfl) dX6_propped_110 ?_
    exact g_reti hR (oi_1 h) (congrArg (C ε) (oi_2 h)) dX6_propped_112
  have J104 : ∀ (slf : Int32 → Int32 → Sg → Option (Int32 × Sg)) (hslf : ∀ (v2 : Int32) (v3 : Int32) (σ : Sg) , slf v2 v3 σ = some (res, σ2) → GW κ 0 0 (C ε σ) 45 [(0, .ref (sAd ε (0))), (1, .int (z1)), (2, .int (v2)), (3, .int (v3))] []) (k110 : Sg → Option (Int32 × Sg)) (hk110 : ∀ (σ : Sg) , k110  σ = some (res, σ2) → GW κ 0 0 (C ε σ) 110 [] []), ∀ (v2 : Int32) (v3 : Int32) (σ : Sg) , fn_X6_propped_L104 ε z1 slf k110 v2 v3 σ = some (res, σ2) → GW κ 0 0 (C ε σ) 104 [(0, .ref (sAd ε (0))), (1, .int (z1)), (2, .int (v2)), (3, .int (v3))] [] := by
    intro slf hslf k110 hk110 v2 v3 σ h
    refine g_iinc (v := (v3 + nI 1)) (lv2 := [(3, .int ((v3 + nI 1))), (0, .ref (sAd ε (0))), (1, .int (z1)), (2, .int (v2))]) hX 3 3 5 hN rfl rfl (by decide) rfl dX6_propped_104 ?_
    refine g_goto hX 45 (by decide) dX6_propped_107 ?_
    refine g_lv [1, 2, 3, 0] rfl ?_
    exact hslf v2 ((v3 + nI 1))  σ h
  have J98 : ∀ (slf : Int32 → Int32 → Int32 → Sg → Option (Int32 × Sg)) (hslf : ∀ (v2 : Int32) (v3 : Int32) (v4 : Int32) (σ : Sg) , slf v2 v3 v4 σ = some (res, σ2) → GW κ 0 0 (C ε σ) 57 [(0, .ref (sAd ε (0))), (1, .int (z1)), (2, .int (v2)), (3, .int (v3)), (4, .int (v4))] []) (k104 : Int32 → Int32 → Sg → Option (Int32 × Sg)) (hk104 : ∀ (v2 : Int32) (v3 : Int32) (σ : Sg) , k104 v2 v3 σ = some (res, σ2) → GW κ 0 0 (C ε σ) 104 [(0, .ref (sAd ε (0))), (1, .int (z1)), (2, .int (v2)), (3, .int (v3))] []), ∀ (v2 : Int32) (v3 : Int32) (v4 : Int32) (σ : Sg) , fn_X6_propped_L98 ε z1 slf k104 v2 v3 v4 σ = some (res, σ2) → GW κ 0 0 (C ε σ) 98 [(0, .ref (sAd ε (0))), (1, .int (z1)), (2, .int (v2)), (3, .int (v3)), (4, .int (v4))] [] := by
    intro slf hslf k104 hk104 v2 v3 v4 σ h
    refine g_iinc (v := (v4 + nI 1)) (lv2 := [(4, .int ((v4 + nI 1))), (0, .ref (sAd ε (0))), (1, .int (z1)), (2, .int (v2)), (3, .int (v3))]) hX 4 4 5 hN rfl rfl (by decide) rfl dX6_propped_98 ?_
    refine g_goto hX 57 (by decide) dX6_propped_101 ?_
    refine g_lv [1, 2, 3, 4, 0] rfl ?_
    exact hslf v2 v3 ((v4 + nI 1))  σ h
  have J57 : ∀ (k104 : Int32 → Int32 → Sg → Option (Int32 × Sg)) (hk104 : ∀ (v2 : Int32) (v3 : Int32) (σ : Sg) , k104 v2 v3 σ = some (res, σ2) → GW κ 0 0 (C ε σ) 104 [(0, .ref (sAd ε (0))), (1, .int (z1)), (2, .int (v2)), (3, .int (v3))] []) (fuel : Nat), ∀ (v2 : Int32) (v3 : Int32) (v4 : Int32) (σ : Sg) , fn_X6_propped_L57 ε z1 k104 fuel v2 v3 v4 σ = some (res, σ2) → GW κ 0 0 (C ε σ) 57 [(0, .ref (sAd ε (0))), (1, .int (z1)), (2, .int (v2)), (3, .int (v3)), (4, .int (v4))] [] := by
    intro k104 hk104 fuel
    induction fuel with
    | zero => intro v2 v3 v4 σ h; cases (show none = some (res, σ2) from h)
    | succ fuel ih =>
      intro v2 v3 v4 σ h
      replace h : (if σ.1 16 6 ≤ v4 then (k104 v2 v3 σ) else (if ((v2 >>> (v4 &&& 31)) &&& nI 1) = nI 1 then (ob (fn_X6_isEnough ε v4 v3 z1 σ) (fun y84 τ84 => (if y84 = 0 then ((fn_X6_propped_L98 ε z1 (fn_X6_propped_L57 ε z1 k104 fuel) k104) v2 v3 v4 τ84) else some (((nI 10 * v4) + v3), τ84)))) else ((fn_X6_propped_L98 ε z1 (fn_X6_propped_L57 ε z1 k104 fuel) k104) v2 v3 v4 σ))) = some (res, σ2) := h
      refine g_iload hX 4 rfl dX6_propped_57 ?_
      refine g_aload_n hX 0 rfl rfl dX6_propped_59 ?_
      refine c_get6 hX hC rfl 0 (by decide) rfl tFld_X6_10 rfl dX6_propped_60 ?_
      refine c_get4 hX hC (kst_now rfl) 6 (by decide) rfl tFld_X6_60 rfl dX6_propped_63 ?_
      refine g_icmp_ge hX 104 (by decide) dX6_propped_66 (fun b66 => ?_) (fun b66 => ?_)
      · replace h := if_p b66 h
        refine g_lv [0, 1, 2, 3] rfl ?_
        exact hk104 v2 v3  σ h
      · replace h := if_n b66 h
        refine g_iload_n hX 2 rfl rfl dX6_propped_69 ?_
        refine g_iload hX 4 rfl dX6_propped_70 ?_
        refine g_ishr hX dX6_propped_72 ?_
        refine g_iconst hX (v := nI 1) rfl dX6_propped_73 ?_
        refine g_iand hX dX6_propped_74 ?_
        refine g_iconst hX (v := nI 1) rfl dX6_propped_75 ?_
        refine g_icmp_ne hX 98 (by decide) dX6_propped_76 (fun b76 => ?_) (fun b76 => ?_)
        · replace h := if_n b76 h
          exact (J98 (fn_X6_propped_L57 ε z1 k104 fuel) ih k104 hk104) v2 v3 v4  σ h
        · replace h := if_p b76 h
          refine g_aload_n hX 0 rfl rfl dX6_propped_79 ?_
          refine g_iload hX 4 rfl dX6_propped_80 ?_
          refine g_iload_n hX 3 rfl rfl dX6_propped_82 ?_
          refine g_iload_n hX 1 rfl rfl dX6_propped_83 ?_
          obtain ⟨y84, τ84, e84, h⟩ := ob_some h
          refine c_call6 hX hC hzo rfl [.int (v4), .int (v3), .int (z1)] [] (ct_X6_isEnough _ _ _ _ hzo hzs hC ε v4 v3 z1 σ _ _ e84) kX6_isEnough tMet_X6_184 rfl rfl (Nat.le_of_ble_eq_true rfl) (Nat.le_of_ble_eq_true rfl) ⟨Nat.le_of_ble_eq_true rfl, Nat.le_of_ble_eq_true rfl⟩ rfl rfl (Nat.le_of_ble_eq_true rfl) dX6_propped_84 ?_
          refine g_if_eq hX 98 (by decide) dX6_propped_87 (fun b87 => ?_) (fun b87 => ?_)
          · replace h := if_p b87 h
            exact (J98 (fn_X6_propped_L57 ε z1 k104 fuel) ih k104 hk104) v2 v3 v4  τ84 h
          · replace h := if_n b87 h
            refine g_bipush hX (v := nI 10) (by decide) dX6_propped_90 ?_
            refine g_iload hX 4 rfl dX6_propped_92 ?_
            refine g_imul hX dX6_propped_94 ?_
            refine g_iload_n hX 3 rfl rfl dX6_propped_95 ?_
            refine g_iadd hX dX6_propped_96 ?_
            exact g_reti hR (oi_1 h) (congrArg (C ε) (oi_2 h)) dX6_propped_97
  have J45 : ∀ (k110 : Sg → Option (Int32 × Sg)) (hk110 : ∀ (σ : Sg) , k110  σ = some (res, σ2) → GW κ 0 0 (C ε σ) 110 [] []) (fuel : Nat), ∀ (v2 : Int32) (v3 : Int32) (σ : Sg) , fn_X6_propped_L45 ε z1 k110 fuel v2 v3 σ = some (res, σ2) → GW κ 0 0 (C ε σ) 45 [(0, .ref (sAd ε (0))), (1, .int (z1)), (2, .int (v2)), (3, .int (v3))] [] := by
    intro k110 hk110 fuel
    induction fuel with
    | zero => intro v2 v3 σ h; cases (show none = some (res, σ2) from h)
    | succ fuel ih =>
      intro v2 v3 σ h
      replace h : (if ¬ (nI 5 < 0 ∨ 6 ≤ (nI 5).toNatClampNeg) then (if tabMOST (nI 5).toNatClampNeg < v3 then (k110  σ) else ((fn_X6_propped_L57 ε z1 (fn_X6_propped_L104 ε z1 (fn_X6_propped_L45 ε z1 k110 fuel) k110) 4000) v2 v3 (nI 0) σ)) else none) = some (res, σ2) := h
      refine g_iload_n hX 3 rfl rfl dX6_propped_45 ?_
      refine g_tab hX hMOST (zu tFld_X6_181 rfl) dX6_propped_46 ?_
      refine g_iconst hX (v := nI 5) rfl dX6_propped_49 ?_
      obtain ⟨g1, h⟩ := gd_some h
      refine g_tabi hX hMOST g1 dX6_propped_50 ?_
      refine g_icmp_gt hX 110 (by decide) dX6_propped_51 (fun b51 => ?_) (fun b51 => ?_)
      · replace h := if_p b51 h
        refine g_lv [] rfl ?_
        exact hk110   σ h
      · replace h := if_n b51 h
        refine g_iconst hX (v := nI 0) rfl dX6_propped_54 ?_
        refine g_istore (lv2 := [(4, .int (nI 0)), (0, .ref (sAd ε (0))), (1, .int (z1)), (2, .int (v2)), (3, .int (v3))]) hX 4 5 hN (by decide) rfl dX6_propped_55 ?_
        refine g_lv [1, 2, 3, 4, 0] rfl ?_
        exact (J57 (fn_X6_propped_L104 ε z1 (fn_X6_propped_L45 ε z1 k110 fuel) k110) (J104 (fn_X6_propped_L45 ε z1 k110 fuel) ih k110 hk110) 4000) v2 v3 (nI 0)  σ h
  have J11 : ∀ (σ : Sg) , fn_X6_propped_L11 ε z1  σ = some (res, σ2) → GW κ 0 0 (C ε σ) 11 [] [] := by
    intro σ h
    refine g_ldc hX (v := -1000000001) (zu tCon_X6_59 rfl) dX6_propped_11 ?_
    exact g_reti hR (oi_1 h) (congrArg (C ε) (oi_2 h)) dX6_propped_13
  show GW κ 0 0 (C ε σ) 0 [(0, .ref (sAd ε (0))), (1, .int (z1))] []
  refine g_iload_n hX 1 rfl rfl dX6_propped_0 ?_
  refine g_iconst hX (v := nI 1) rfl dX6_propped_1 ?_
  refine g_icmp_lt hX 11 (by decide) dX6_propped_2 (fun b2 => ?_) (fun b2 => ?_)
  · replace h := if_p b2 h
    refine g_lv [] rfl ?_
    exact J11   σ h
  · replace h := if_n b2 h
    refine g_iload_n hX 1 rfl rfl dX6_propped_5 ?_
    refine g_bipush hX (v := nI 40) (by decide) dX6_propped_6 ?_
    refine g_icmp_le hX 14 (by decide) dX6_propped_8 (fun b8 => ?_) (fun b8 => ?_)
    · replace h := if_p b8 h
      refine g_aload_n hX 0 rfl rfl dX6_propped_14 ?_
      refine g_aload_n hX 0 rfl rfl dX6_propped_15 ?_
      refine c_get6 hX hC rfl 0 (by decide) rfl tFld_X6_10 rfl dX6_propped_16 ?_
      obtain ⟨y19, τ19, e19, h⟩ := ob_some h
      refine c_call6 hX hC hzo rfl [.ref (sAd ε (16))] [] (ct_X6_thinkOf _ _ _ _ hzo hzs hC ε 16 (kst_now rfl) σ _ _ e19) kX6_thinkOf tMet_X6_166 rfl rfl (Nat.le_of_ble_eq_true rfl) (Nat.le_of_ble_eq_true rfl) ⟨Nat.le_of_ble_eq_true rfl, Nat.le_of_ble_eq_true rfl⟩ rfl rfl (Nat.le_of_ble_eq_true rfl) dX6_propped_19 ?_
      obtain ⟨g2, h⟩ := gd_some h
      refine g_iload_n hX 1 rfl rfl dX6_propped_22 ?_
      obtain ⟨y23, τ23, e23, h⟩ := ob_some h
      refine c_call4 hX hC hzo g2 [.int (z1)] [] (ct_X4_firstFall _ _ _ _ hzo hzs hC ε y19 g2 z1 τ19 _ _ e23) kX4_firstFall tMet_X6_173 rfl rfl (Nat.le_of_ble_eq_true rfl) (Nat.le_of_ble_eq_true rfl) ⟨Nat.le_of_ble_eq_true rfl, Nat.le_of_ble_eq_true rfl⟩ rfl rfl (Nat.le_of_ble_eq_true rfl) dX6_propped_23 ?_
      refine g_if_ne hX 31 (by decide) dX6_propped_26 (fun b26 => ?_) (fun b26 => ?_)
      · replace h := if_n b26 h
        refine g_aload_n hX 0 rfl rfl dX6_propped_31 ?_
        refine c_get6 hX hC rfl 2 (by decide) rfl tFld_X6_19 rfl dX6_propped_32 ?_
        refine g_aload_n hX 0 rfl rfl dX6_propped_35 ?_
        refine c_get6 hX hC rfl 0 (by decide) rfl tFld_X6_10 rfl dX6_propped_36 ?_
        obtain ⟨y39, τ39, e39, h⟩ := ob_some h
        refine c_call4 hX hC hzo (kst_tho rfl) [.ref (sAd ε (16))] [] (ct_X4_crackedSince _ _ _ _ hzo hzs hC ε 48 (kst_tho rfl) 16 (kst_now rfl) τ23 _ _ e39) kX4_crackedSince tMet_X6_177 rfl rfl (Nat.le_of_ble_eq_true rfl) (Nat.le_of_ble_eq_true rfl) ⟨Nat.le_of_ble_eq_true rfl, Nat.le_of_ble_eq_true rfl⟩ rfl rfl (Nat.le_of_ble_eq_true rfl) dX6_propped_39 ?_
        refine g_istore_n (lv2 := [(2, .int (y39)), (0, .ref (sAd ε (0))), (1, .int (z1))]) hX 2 5 hN rfl (by decide) rfl dX6_propped_42 ?_
        refine g_iconst hX (v := nI 1) rfl dX6_propped_43 ?_
        refine g_istore_n (lv2 := [(3, .int (nI 1)), (2, .int (y39)), (0, .ref (sAd ε (0))), (1, .int (z1))]) hX 3 5 hN rfl (by decide) rfl dX6_propped_44 ?_
        refine g_lv [2, 3, 1, 0] rfl ?_
        exact (J45 (fn_X6_propped_L110 ε z1) J110 4000) y39 (nI 1)  τ39 h
      · replace h := if_p b26 h
        refine g_iconst hX (v := nI 0) rfl dX6_propped_29 ?_
        exact g_reti hR (oi_1 h) (congrArg (C ε) (oi_2 h)) dX6_propped_30
    · replace h := if_n b8 h
      refine g_lv [] rfl ?_
      exact J11   σ h
theorem kX6_wall : mKV RX6 yX6_wall cX6_wall 7 (some .int) 2 := ⟨tIns_X6_wall, tSel_X6_wall, tIni_X6, tCod_X6_wall, by decide +kernel⟩
set_option maxHeartbeats 4000000 in
set_option maxRecDepth 100000 in
theorem ct_X6_wall (l : Launch) (D : va_G) (cy : Nat → ClassId) (Z : (Nat → Prop) → State → Heap → Prop) (hzo : zOK Z) {aStr aByt : Nat → Nat} (hzs : zSt Z aStr aByt) {q : Nat → Nat} {C : Ev → Sg → va_W} (hC : cLens cy q C) (ε : Ev) (z1 : Int32) (z2 : Int32) (σ σ2 : Sg) (res : Int32) (h : fn_X6_wall ε z1 z2 σ = some (res, σ2)) : GD l D cy Z yX6_wall (zW yX6_wall cX6_wall 7 (some .int)) { frames := 7, cells := 0, slots := 0, locals := 161 } [.ref (sAd ε (0)), .int (z1), .int (z2)] (C ε σ) (some (.int res)) (C ε σ2) 0 0 := by
  refine g_entry (cc := cX6_wall) (maxL := 7) (by decide) rfl (Nat.le_of_ble_eq_true rfl) ?_
  intro κ hN hX hR
  have hX : GX κ cy Z cX6_wall (Cond.code yX6_wall cX6_wall 7 (some .int) :: zT) RX6 { frames := 7, cells := 0, slots := 0, locals := 161 } := hX
  have J104 : ∀ (s0 : Int32) (σ : Sg) , fn_X6_wall_L104 ε z1 z2 s0 σ = some (res, σ2) → GW κ 0 0 (C ε σ) 104 [] [.int (s0)] := by
    intro s0 σ h
    exact g_reti hR (oi_1 h) (congrArg (C ε) (oi_2 h)) dX6_wall_104
  have J98 : ∀ (v3 : Int32) (σ : Sg) , fn_X6_wall_L98 ε z1 z2 v3 σ = some (res, σ2) → GW κ 0 0 (C ε σ) 98 [(3, .int (v3))] [] := by
    intro v3 σ h
    refine g_iload_n hX 0 rfl rfl dX6_wall_98 ?_
    refine g_goto hX 104 (by decide) dX6_wall_99 ?_
    refine g_lv [] rfl ?_
    exact J104 v3  σ h
  have J88 : ∀ (v3 : Int32) (v4 : Int32) (σ : Sg) , fn_X6_wall_L88 ε z1 z2 v3 v4 σ = some (res, σ2) → GW κ 0 0 (C ε σ) 88 [(2, .int (z2)), (3, .int (v3)), (4, .int (v4))] [] := by
    intro v3 v4 σ h
    refine g_iload_n hX 0 rfl rfl dX6_wall_88 ?_
    refine g_if_eq hX 98 (by decide) dX6_wall_89 (fun b89 => ?_) (fun b89 => ?_)
    · replace h := if_p b89 h
      refine g_lv [1] rfl ?_
      exact J98 v3  σ h
    · replace h := if_n b89 h
      refine g_iload_n hX 1 rfl rfl dX6_wall_92 ?_
      refine g_ldc hX (v := -1000000005) (zu tCon_X6_176 rfl) dX6_wall_93 ?_
      refine g_icmp_ne hX 102 (by decide) dX6_wall_95 (fun b95 => ?_) (fun b95 => ?_)
      · replace h := if_n b95 h
        refine g_iload hX 2 rfl dX6_wall_102 ?_
        refine g_lv [] rfl ?_
        exact J104 v4  σ h
      · replace h := if_p b95 h
        refine g_lv [1] rfl ?_
        exact J98 v3  σ h
  have J82 : ∀ (slf : Int32 → Int32 → Int32 → Sg → Option (Int32 × Sg)) (hslf : ∀ (v3 : Int32) (v4 : Int32) (v5 : Int32) (σ : Sg) , slf v3 v4 v5 σ = some (res, σ2) → GW κ 0 0 (C ε σ) 32 [(0, .ref (sAd ε (0))), (1, .int (z1)), (2, .int (z2)), (3, .int (v3)), (4, .int (v4)), (5, .int (v5))] []) (k88 : Int32 → Int32 → Sg → Option (Int32 × Sg)) (hk88 : ∀ (v3 : Int32) (v4 : Int32) (σ : Sg) , k88 v3 v4 σ = some (res, σ2) → GW κ 0 0 (C ε σ) 88 [(2, .int (z2)), (3, .int (v3)), (4, .int (v4))] []), ∀ (v3 : Int32) (v4 : Int32) (v5 : Int32) (σ : Sg) , fn_X6_wall_L82 ε z1 z2 slf k88 v3 v4 v5 σ = some (res, σ2) → GW κ 0 0 (C ε σ) 82 [(0, .ref (sAd ε (0))), (1, .int (z1)), (2, .int (z2)), (3, .int (v3)), (4, .int (v4)), (5, .int (v5))] [] := by
    intro slf hslf k88 hk88 v3 v4 v5 σ h
    refine g_iinc (v := (v5 + nI 1)) (lv2 := [(5, .int ((v5 + nI 1))), (0, .ref (sAd ε (0))), (1, .int (z1)), (2, .int (z2)), (3, .int (v3)), (4, .int (v4))]) hX 5 5 7 hN rfl rfl (by decide) rfl dX6_wall_82 ?_
    refine g_goto hX 32 (by decide) dX6_wall_85 ?_
    refine g_lv [1, 2, 3, 4, 5, 0] rfl ?_
    exact hslf v3 v4 ((v5 + nI 1))  σ h
  have J32 : ∀ (k88 : Int32 → Int32 → Sg → Option (Int32 × Sg)) (hk88 : ∀ (v3 : Int32) (v4 : Int32) (σ : Sg) , k88 v3 v4 σ = some (res, σ2) → GW κ 0 0 (C ε σ) 88 [(2, .int (z2)), (3, .int (v3)), (4, .int (v4))] []) (fuel : Nat), ∀ (v3 : Int32) (v4 : Int32) (v5 : Int32) (σ : Sg) , fn_X6_wall_L32 ε z1 z2 k88 fuel v3 v4 v5 σ = some (res, σ2) → GW κ 0 0 (C ε σ) 32 [(0, .ref (sAd ε (0))), (1, .int (z1)), (2, .int (z2)), (3, .int (v3)), (4, .int (v4)), (5, .int (v5))] [] := by
    intro k88 hk88 fuel
    induction fuel with
    | zero => intro v3 v4 v5 σ h; cases (show none = some (res, σ2) from h)
    | succ fuel ih =>
      intro v3 v4 v5 σ h
      replace h : (if σ.1 16 6 ≤ v5 then (k88 v3 v4 σ) else (ob (fn_X6_thinkWithoutWall ε v5 z1 σ) (fun y48 τ48 => (ob (fn_X4_howManyStand ε 48 τ48) (fun y62 τ62 => (if (τ48.1 48 6 - y62) ≤ v4 then ((fn_X6_wall_L82 ε z1 z2 (fn_X6_wall_L32 ε z1 z2 k88 fuel) k88) v3 v4 v5 τ62) else ((fn_X6_wall_L82 ε z1 z2 (fn_X6_wall_L32 ε z1 z2 k88 fuel) k88) v5 ((τ48.1 48 6 - y62)) v5 τ62))))))) = some (res, σ2) := h
      refine g_iload hX 5 rfl dX6_wall_32 ?_
      refine g_aload_n hX 0 rfl rfl dX6_wall_34 ?_
      refine c_get6 hX hC rfl 0 (by decide) rfl tFld_X6_10 rfl dX6_wall_35 ?_
      refine c_get4 hX hC (kst_now rfl) 6 (by decide) rfl tFld_X6_60 rfl dX6_wall_38 ?_
      refine g_icmp_ge hX 88 (by decide) dX6_wall_41 (fun b41 => ?_) (fun b41 => ?_)
      · replace h := if_p b41 h
        refine g_lv [2, 3, 4] rfl ?_
        exact hk88 v3 v4  σ h
      · replace h := if_n b41 h
        refine g_aload_n hX 0 rfl rfl dX6_wall_44 ?_
        refine g_iload hX 5 rfl dX6_wall_45 ?_
        refine g_iload_n hX 1 rfl rfl dX6_wall_47 ?_
        obtain ⟨y48, τ48, e48, h⟩ := ob_some h
        refine c_call6 hX hC hzo rfl [.int (v5), .int (z1)] [] (ct_X6_thinkWithoutWall _ _ _ _ hzo hzs hC ε v5 z1 σ _ _ e48) kX6_thinkWithoutWall tMet_X6_188 rfl rfl (Nat.le_of_ble_eq_true rfl) (Nat.le_of_ble_eq_true rfl) ⟨Nat.le_of_ble_eq_true rfl, Nat.le_of_ble_eq_true rfl⟩ rfl rfl (Nat.le_of_ble_eq_true rfl) dX6_wall_48 ?_
        refine g_aload_n hX 0 rfl rfl dX6_wall_51 ?_
        refine c_get6 hX hC rfl 2 (by decide) rfl tFld_X6_19 rfl dX6_wall_52 ?_
        refine c_get4 hX hC (kst_tho rfl) 6 (by decide) rfl tFld_X6_60 rfl dX6_wall_55 ?_
        refine g_aload_n hX 0 rfl rfl dX6_wall_58 ?_
        refine c_get6 hX hC rfl 2 (by decide) rfl tFld_X6_19 rfl dX6_wall_59 ?_
        obtain ⟨y62, τ62, e62, h⟩ := ob_some h
        refine c_call4 hX hC hzo (kst_tho rfl) [] [.int (τ48.1 48 6)] (ct_X4_howManyStand _ _ _ _ hzo hzs hC ε 48 (kst_tho rfl) τ48 _ _ e62) kX4_howManyStand tMet_X6_123 rfl rfl (Nat.le_of_ble_eq_true rfl) (Nat.le_of_ble_eq_true rfl) ⟨Nat.le_of_ble_eq_true rfl, Nat.le_of_ble_eq_true rfl⟩ rfl rfl (Nat.le_of_ble_eq_true rfl) dX6_wall_62 ?_
        refine g_isub hX dX6_wall_65 ?_
        refine g_istore (lv2 := [(6, .int ((τ48.1 48 6 - y62))), (0, .ref (sAd ε (0))), (1, .int (z1)), (2, .int (z2)), (3, .int (v3)), (4, .int (v4)), (5, .int (v5))]) hX 6 7 hN (by decide) rfl dX6_wall_66 ?_
        refine g_iload hX 0 rfl dX6_wall_68 ?_
        refine g_iload hX 5 rfl dX6_wall_70 ?_
        refine g_icmp_le hX 82 (by decide) dX6_wall_72 (fun b72 => ?_) (fun b72 => ?_)
        · replace h := if_p b72 h
          refine g_lv [1, 2, 3, 4, 5, 6] rfl ?_
          exact (J82 (fn_X6_wall_L32 ε z1 z2 k88 fuel) ih k88 hk88) v3 v4 v5  τ62 h
        · replace h := if_n b72 h
          refine g_iload hX 6 rfl dX6_wall_75 ?_
          refine g_istore_n (lv2 := [(3, .int (v5)), (6, .int ((τ48.1 48 6 - y62))), (0, .ref (sAd ε (0))), (1, .int (z1)), (2, .int (z2)), (4, .int (v4)), (5, .int (v5))]) hX 3 7 hN rfl (by decide) rfl dX6_wall_77 ?_
          refine g_iload hX 1 rfl dX6_wall_78 ?_
          refine g_istore (lv2 := [(4, .int ((τ48.1 48 6 - y62))), (3, .int (v5)), (6, .int ((τ48.1 48 6 - y62))), (0, .ref (sAd ε (0))), (1, .int (z1)), (2, .int (z2)), (5, .int (v5))]) hX 4 7 hN (by decide) rfl dX6_wall_80 ?_
          refine g_lv [3, 4, 5, 1, 0, 6] rfl ?_
          exact (J82 (fn_X6_wall_L32 ε z1 z2 k88 fuel) ih k88 hk88) v5 ((τ48.1 48 6 - y62)) v5  τ62 h
  have J20 : ∀ (σ : Sg) , fn_X6_wall_L20 ε z1 z2  σ = some (res, σ2) → GW κ 0 0 (C ε σ) 20 [] [] := by
    intro σ h
    refine g_ldc hX (v := -1000000001) (zu tCon_X6_59 rfl) dX6_wall_20 ?_
    exact g_reti hR (oi_1 h) (congrArg (C ε) (oi_2 h)) dX6_wall_22
  show GW κ 0 0 (C ε σ) 0 [(0, .ref (sAd ε (0))), (1, .int (z1)), (2, .int (z2))] []
  refine g_iload_n hX 1 rfl rfl dX6_wall_0 ?_
  refine g_iconst hX (v := nI 1) rfl dX6_wall_1 ?_
  refine g_icmp_lt hX 20 (by decide) dX6_wall_2 (fun b2 => ?_) (fun b2 => ?_)
  · replace h := if_p b2 h
    refine g_lv [] rfl ?_
    exact J20   σ h
  · replace h := if_n b2 h
    refine g_iload_n hX 1 rfl rfl dX6_wall_5 ?_
    refine g_bipush hX (v := nI 60) (by decide) dX6_wall_6 ?_
    refine g_icmp_gt hX 20 (by decide) dX6_wall_8 (fun b8 => ?_) (fun b8 => ?_)
    · replace h := if_p b8 h
      refine g_lv [] rfl ?_
      exact J20   σ h
    · replace h := if_n b8 h
      refine g_iload_n hX 2 rfl rfl dX6_wall_11 ?_
      refine g_if_lt hX 20 (by decide) dX6_wall_12 (fun b12 => ?_) (fun b12 => ?_)
      · replace h := if_p b12 h
        refine g_lv [] rfl ?_
        exact J20   σ h
      · replace h := if_n b12 h
        refine g_iload_n hX 2 rfl rfl dX6_wall_15 ?_
        refine g_iconst hX (v := nI 1) rfl dX6_wall_16 ?_
        refine g_icmp_le hX 23 (by decide) dX6_wall_17 (fun b17 => ?_) (fun b17 => ?_)
        · replace h := if_p b17 h
          refine g_ldc hX (v := -1000000005) (zu tCon_X6_176 rfl) dX6_wall_23 ?_
          refine g_istore_n (lv2 := [(3, .int ((-1000000005))), (0, .ref (sAd ε (0))), (1, .int (z1)), (2, .int (z2))]) hX 3 7 hN rfl (by decide) rfl dX6_wall_25 ?_
          refine g_iconst hX (v := -1) (by decide) dX6_wall_26 ?_
          refine g_istore (lv2 := [(4, .int ((-1))), (3, .int ((-1000000005))), (0, .ref (sAd ε (0))), (1, .int (z1)), (2, .int (z2))]) hX 4 7 hN (by decide) rfl dX6_wall_27 ?_
          refine g_iconst hX (v := nI 0) rfl dX6_wall_29 ?_
          refine g_istore (lv2 := [(5, .int (nI 0)), (4, .int ((-1))), (3, .int ((-1000000005))), (0, .ref (sAd ε (0))), (1, .int (z1)), (2, .int (z2))]) hX 5 7 hN (by decide) rfl dX6_wall_30 ?_
          refine g_lv [3, 4, 5, 2, 1, 0] rfl ?_
          exact (J32 (fn_X6_wall_L88 ε z1 z2) J88 4000) ((-1000000005)) ((-1)) (nI 0)  σ h
        · replace h := if_n b17 h
          refine g_lv [] rfl ?_
          exact J20   σ h
theorem kX6_snows : mKV RX6 yX6_snows cX6_snows 3 (some .int) 1 := ⟨tIns_X6_snows, tSel_X6_snows, tIni_X6, tCod_X6_snows, by decide +kernel⟩
set_option maxHeartbeats 4000000 in
set_option maxRecDepth 100000 in
theorem ct_X6_snows (l : Launch) (D : va_G) (cy : Nat → ClassId) (Z : (Nat → Prop) → State → Heap → Prop) (hzo : zOK Z) {aStr aByt : Nat → Nat} (hzs : zSt Z aStr aByt) {q : Nat → Nat} {C : Ev → Sg → va_W} (hC : cLens cy q C) (ε : Ev) (z1 : Int32) (σ σ2 : Sg) (res : Int32) (h : fn_X6_snows ε z1 σ = some (res, σ2)) : GD l D cy Z yX6_snows (zW yX6_snows cX6_snows 3 (some .int)) { frames := 6, cells := 0, slots := 0, locals := 141 } [.ref (sAd ε (0)), .int (z1)] (C ε σ) (some (.int res)) (C ε σ2) 0 0 := by
  refine g_entry (cc := cX6_snows) (maxL := 3) (by decide) rfl (Nat.le_of_ble_eq_true rfl) ?_
  intro κ hN hX hR
  have hX : GX κ cy Z cX6_snows (Cond.code yX6_snows cX6_snows 3 (some .int) :: zT) RX6 { frames := 6, cells := 0, slots := 0, locals := 141 } := hX
  have J52 : ∀ (σ : Sg) , fn_X6_snows_L52 ε z1  σ = some (res, σ2) → GW κ 0 0 (C ε σ) 52 [] [] := by
    intro σ h
    refine g_ldc hX (v := -1000000005) (zu tCon_X6_176 rfl) dX6_snows_52 ?_
    exact g_reti hR (oi_1 h) (congrArg (C ε) (oi_2 h)) dX6_snows_54
  have J17 : ∀ (k52 : Sg → Option (Int32 × Sg)) (hk52 : ∀ (σ : Sg) , k52  σ = some (res, σ2) → GW κ 0 0 (C ε σ) 52 [] []) (fuel : Nat), ∀ (v2 : Int32) (σ : Sg) , fn_X6_snows_L17 ε z1 k52 fuel v2 σ = some (res, σ2) → GW κ 0 0 (C ε σ) 17 [(0, .ref (sAd ε (0))), (1, .int (z1)), (2, .int (v2))] [] := by
    intro k52 hk52 fuel
    induction fuel with
    | zero => intro v2 σ h; cases (show none = some (res, σ2) from h)
    | succ fuel ih =>
      intro v2 σ h
      replace h : (if v2 < 0 then (k52  σ) else (ob (fn_X6_thinkOf ε 16 σ) (fun y26 τ26 => (if isX4 y26 then (ob (fn_X4_firstFall ε 48 z1 (pI τ26 y26 8 v2)) (fun y38 τ38 => (if y38 = 0 then some (v2, τ38) else ((fn_X6_snows_L17 ε z1 k52 fuel) ((v2 + (-1))) τ38)))) else none)))) = some (res, σ2) := h
      refine g_iload_n hX 2 rfl rfl dX6_snows_17 ?_
      refine g_if_lt hX 52 (by decide) dX6_snows_18 (fun b18 => ?_) (fun b18 => ?_)
      · replace h := if_p b18 h
        refine g_lv [] rfl ?_
        exact hk52   σ h
      · replace h := if_n b18 h
        refine g_aload_n hX 0 rfl rfl dX6_snows_21 ?_
        refine g_aload_n hX 0 rfl rfl dX6_snows_22 ?_
        refine c_get6 hX hC rfl 0 (by decide) rfl tFld_X6_10 rfl dX6_snows_23 ?_
        obtain ⟨y26, τ26, e26, h⟩ := ob_some h
        refine c_call6 hX hC hzo rfl [.ref (sAd ε (16))] [] (ct_X6_thinkOf _ _ _ _ hzo hzs hC ε 16 (kst_now rfl) σ _ _ e26) kX6_thinkOf tMet_X6_166 rfl rfl (Nat.le_of_ble_eq_true rfl) (Nat.le_of_ble_eq_true rfl) ⟨Nat.le_of_ble_eq_true rfl, Nat.le_of_ble_eq_true rfl⟩ rfl rfl (Nat.le_of_ble_eq_true rfl) dX6_snows_26 ?_
        obtain ⟨g1, h⟩ := gd_some h
        refine g_iload_n hX 2 rfl rfl dX6_snows_29 ?_
        refine c_put4 (ty := .int) hX hC g1 8 (by decide) (cs_X4 ε _ _ _).2.2.1 rfl (by decide +kernel) rfl rfl tFld_X6_129 rfl dX6_snows_30 ?_
        refine g_aload_n hX 0 rfl rfl dX6_snows_33 ?_
        refine c_get6 hX hC rfl 2 (by decide) rfl tFld_X6_19 rfl dX6_snows_34 ?_
        refine g_iload_n hX 1 rfl rfl dX6_snows_37 ?_
        obtain ⟨y38, τ38, e38, h⟩ := ob_some h
        refine c_call4 hX hC hzo (kst_tho rfl) [.int (z1)] [] (ct_X4_firstFall _ _ _ _ hzo hzs hC ε 48 (kst_tho rfl) z1 (pI τ26 y26 8 v2) _ _ e38) kX4_firstFall tMet_X6_173 rfl rfl (Nat.le_of_ble_eq_true rfl) (Nat.le_of_ble_eq_true rfl) ⟨Nat.le_of_ble_eq_true rfl, Nat.le_of_ble_eq_true rfl⟩ rfl rfl (Nat.le_of_ble_eq_true rfl) dX6_snows_38 ?_
        refine g_if_ne hX 46 (by decide) dX6_snows_41 (fun b41 => ?_) (fun b41 => ?_)
        · replace h := if_n b41 h
          refine g_iinc (v := (v2 + (-1))) (lv2 := [(2, .int ((v2 + (-1)))), (0, .ref (sAd ε (0))), (1, .int (z1))]) hX 2 2 3 hN rfl (by rw [show Int32.ofInt (-1) = (-1 : Int32) from by decide]) (by decide) rfl dX6_snows_46 ?_
          refine g_goto hX 17 (by decide) dX6_snows_49 ?_
          refine g_lv [1, 2, 0] rfl ?_
          exact ih ((v2 + (-1)))  τ38 h
        · replace h := if_p b41 h
          refine g_iload_n hX 2 rfl rfl dX6_snows_44 ?_
          exact g_reti hR (oi_1 h) (congrArg (C ε) (oi_2 h)) dX6_snows_45
  have J11 : ∀ (σ : Sg) , fn_X6_snows_L11 ε z1  σ = some (res, σ2) → GW κ 0 0 (C ε σ) 11 [] [] := by
    intro σ h
    refine g_ldc hX (v := -1000000001) (zu tCon_X6_59 rfl) dX6_snows_11 ?_
    exact g_reti hR (oi_1 h) (congrArg (C ε) (oi_2 h)) dX6_snows_13
  show GW κ 0 0 (C ε σ) 0 [(0, .ref (sAd ε (0))), (1, .int (z1))] []
  refine g_iload_n hX 1 rfl rfl dX6_snows_0 ?_
  refine g_iconst hX (v := nI 1) rfl dX6_snows_1 ?_
  refine g_icmp_lt hX 11 (by decide) dX6_snows_2 (fun b2 => ?_) (fun b2 => ?_)
  · replace h := if_p b2 h
    refine g_lv [] rfl ?_
    exact J11   σ h
  · replace h := if_n b2 h
    refine g_iload_n hX 1 rfl rfl dX6_snows_5 ?_
    refine g_bipush hX (v := nI 60) (by decide) dX6_snows_6 ?_
    refine g_icmp_le hX 14 (by decide) dX6_snows_8 (fun b8 => ?_) (fun b8 => ?_)
    · replace h := if_p b8 h
      refine g_bipush hX (v := nI 20) (by decide) dX6_snows_14 ?_
      refine g_istore_n (lv2 := [(2, .int (nI 20)), (0, .ref (sAd ε (0))), (1, .int (z1))]) hX 2 3 hN rfl (by decide) rfl dX6_snows_16 ?_
      refine g_lv [1, 2, 0] rfl ?_
      exact (J17 (fn_X6_snows_L52 ε z1) J52 4000) (nI 20)  σ h
    · replace h := if_n b8 h
      refine g_lv [] rfl ?_
      exact J11   σ h
theorem kX6_began : mKV RX6 yX6_began cX6_began 8 (some .int) 3 := ⟨tIns_X6_began, tSel_X6_began, tIni_X6, tCod_X6_began, by decide +kernel⟩
set_option maxHeartbeats 4000000 in
set_option maxRecDepth 100000 in
theorem ct_X6_began (l : Launch) (D : va_G) (cy : Nat → ClassId) (Z : (Nat → Prop) → State → Heap → Prop) (hzo : zOK Z) {aStr aByt : Nat → Nat} (hzs : zSt Z aStr aByt) {q : Nat → Nat} {C : Ev → Sg → va_W} (hC : cLens cy q C) (ε : Ev) (z1 : Int32) (z2 : Int32) (z3 : Int32) (σ σ2 : Sg) (res : Int32) (h : fn_X6_began ε z1 z2 z3 σ = some (res, σ2)) : GD l D cy Z yX6_began (zW yX6_began cX6_began 8 (some .int)) { frames := 7, cells := 0, slots := 0, locals := 161 } [.ref (sAd ε (0)), .int (z1), .int (z2), .int (z3)] (C ε σ) (some (.int res)) (C ε σ2) 0 0 := by
  refine g_entry (cc := cX6_began) (maxL := 8) (by decide) rfl (Nat.le_of_ble_eq_true rfl) ?_
  intro κ hN hX hR
  have hX : GX κ cy Z cX6_began (Cond.code yX6_began cX6_began 8 (some .int) :: zT) RX6 { frames := 7, cells := 0, slots := 0, locals := 161 } := hX
  have J135 : ∀ (s0 : Int32) (σ : Sg) , fn_X6_began_L135 ε z1 z2 z3 s0 σ = some (res, σ2) → GW κ 0 0 (C ε σ) 135 [] [.int (s0)] := by
    intro s0 σ h
    exact g_reti hR (oi_1 h) (congrArg (C ε) (oi_2 h)) dX6_began_135
  have J128 : ∀ (v4 : Int32) (σ : Sg) , fn_X6_began_L128 ε z1 z2 z3 v4 σ = some (res, σ2) → GW κ 0 0 (C ε σ) 128 [(4, .int (v4))] [] := by
    intro v4 σ h
    refine g_iload hX 0 rfl dX6_began_128 ?_
    refine g_goto hX 135 (by decide) dX6_began_130 ?_
    refine g_lv [] rfl ?_
    exact J135 v4  σ h
  have J117 : ∀ (v4 : Int32) (v5 : Int32) (σ : Sg) , fn_X6_began_L117 ε z1 z2 z3 v4 v5 σ = some (res, σ2) → GW κ 0 0 (C ε σ) 117 [(3, .int (z3)), (4, .int (v4)), (5, .int (v5))] [] := by
    intro v4 v5 σ h
    refine g_iload_n hX 0 rfl rfl dX6_began_117 ?_
    refine g_if_eq hX 128 (by decide) dX6_began_118 (fun b118 => ?_) (fun b118 => ?_)
    · replace h := if_p b118 h
      refine g_lv [1] rfl ?_
      exact J128 v4  σ h
    · replace h := if_n b118 h
      refine g_iload hX 1 rfl dX6_began_121 ?_
      refine g_ldc hX (v := -1000000005) (zu tCon_X6_176 rfl) dX6_began_123 ?_
      refine g_icmp_ne hX 133 (by decide) dX6_began_125 (fun b125 => ?_) (fun b125 => ?_)
      · replace h := if_n b125 h
        refine g_iload hX 2 rfl dX6_began_133 ?_
        refine g_lv [] rfl ?_
        exact J135 v5  σ h
      · replace h := if_p b125 h
        refine g_lv [1] rfl ?_
        exact J128 v4  σ h
  have J111 : ∀ (slf : Int32 → Int32 → Int32 → Sg → Option (Int32 × Sg)) (hslf : ∀ (v4 : Int32) (v5 : Int32) (v6 : Int32) (σ : Sg) , slf v4 v5 v6 σ = some (res, σ2) → GW κ 0 0 (C ε σ) 55 [(0, .ref (sAd ε (0))), (1, .int (z1)), (2, .int (z2)), (3, .int (z3)), (4, .int (v4)), (5, .int (v5)), (6, .int (v6))] []) (k117 : Int32 → Int32 → Sg → Option (Int32 × Sg)) (hk117 : ∀ (v4 : Int32) (v5 : Int32) (σ : Sg) , k117 v4 v5 σ = some (res, σ2) → GW κ 0 0 (C ε σ) 117 [(3, .int (z3)), (4, .int (v4)), (5, .int (v5))] []), ∀ (v4 : Int32) (v5 : Int32) (v6 : Int32) (σ : Sg) , fn_X6_began_L111 ε z1 z2 z3 slf k117 v4 v5 v6 σ = some (res, σ2) → GW κ 0 0 (C ε σ) 111 [(0, .ref (sAd ε (0))), (1, .int (z1)), (2, .int (z2)), (3, .int (z3)), (4, .int (v4)), (5, .int (v5)), (6, .int (v6))] [] := by
    intro slf hslf k117 hk117 v4 v5 v6 σ h
    refine g_iinc (v := (v6 + nI 1)) (lv2 := [(6, .int ((v6 + nI 1))), (0, .ref (sAd ε (0))), (1, .int (z1)), (2, .int (z2)), (3, .int (z3)), (4, .int (v4)), (5, .int (v5))]) hX 6 6 8 hN rfl rfl (by decide) rfl dX6_began_111 ?_
    refine g_goto hX 55 (by decide) dX6_began_114 ?_
    refine g_lv [1, 2, 3, 4, 5, 6, 0] rfl ?_
    exact hslf v4 v5 ((v6 + nI 1))  σ h
  have J103 : ∀ (slf : Int32 → Int32 → Int32 → Sg → Option (Int32 × Sg)) (hslf : ∀ (v4 : Int32) (v5 : Int32) (v6 : Int32) (σ : Sg) , slf v4 v5 v6 σ = some (res, σ2) → GW κ 0 0 (C ε σ) 55 [(0, .ref (sAd ε (0))), (1, .int (z1)), (2, .int (z2)), (3, .int (z3)), (4, .int (v4)), (5, .int (v5)), (6, .int (v6))] []) (k117 : Int32 → Int32 → Sg → Option (Int32 × Sg)) (hk117 : ∀ (v4 : Int32) (v5 : Int32) (σ : Sg) , k117 v4 v5 σ = some (res, σ2) → GW κ 0 0 (C ε σ) 117 [(3, .int (z3)), (4, .int (v4)), (5, .int (v5))] []), ∀ (v6 : Int32) (v7 : Int32) (σ : Sg) , fn_X6_began_L103 ε z1 z2 z3 slf k117 v6 v7 σ = some (res, σ2) → GW κ 0 0 (C ε σ) 103 [(0, .ref (sAd ε (0))), (1, .int (z1)), (2, .int (z2)), (3, .int (z3)), (6, .int (v6)), (7, .int (v7))] [] := by
    intro slf hslf k117 hk117 v6 v7 σ h
    refine g_iload hX 4 rfl dX6_began_103 ?_
    refine g_istore (lv2 := [(4, .int (v6)), (0, .ref (sAd ε (0))), (1, .int (z1)), (2, .int (z2)), (3, .int (z3)), (6, .int (v6)), (7, .int (v7))]) hX 4 8 hN (by decide) rfl dX6_began_105 ?_
    refine g_iload hX 6 rfl dX6_began_107 ?_
    refine g_istore (lv2 := [(5, .int (v7)), (4, .int (v6)), (0, .ref (sAd ε (0))), (1, .int (z1)), (2, .int (z2)), (3, .int (z3)), (6, .int (v6)), (7, .int (v7))]) hX 5 8 hN (by decide) rfl dX6_began_109 ?_
    refine g_lv [2, 3, 4, 5, 1, 0, 6] rfl ?_
    exact (J111 slf hslf k117 hk117) v6 v7 v6  σ h
  have J55 : ∀ (k117 : Int32 → Int32 → Sg → Option (Int32 × Sg)) (hk117 : ∀ (v4 : Int32) (v5 : Int32) (σ : Sg) , k117 v4 v5 σ = some (res, σ2) → GW κ 0 0 (C ε σ) 117 [(3, .int (z3)), (4, .int (v4)), (5, .int (v5))] []) (fuel : Nat), ∀ (v4 : Int32) (v5 : Int32) (v6 : Int32) (σ : Sg) , fn_X6_began_L55 ε z1 z2 z3 k117 fuel v4 v5 v6 σ = some (res, σ2) → GW κ 0 0 (C ε σ) 55 [(0, .ref (sAd ε (0))), (1, .int (z1)), (2, .int (z2)), (3, .int (z3)), (4, .int (v4)), (5, .int (v5)), (6, .int (v6))] [] := by
    intro k117 hk117 fuel
    induction fuel with
    | zero => intro v4 v5 v6 σ h; cases (show none = some (res, σ2) from h)
    | succ fuel ih =>
      intro v4 v5 v6 σ h
      replace h : (if σ.1 16 6 ≤ v6 then (k117 v4 v5 σ) else (ob (fn_X6_thinkWithoutWall ε v6 z2 σ) (fun y71 τ71 => (if ¬ (z1 < 0 ∨ 4 ≤ z1.toNatClampNeg) then (ob (fn_X4_differsFrom ε 48 (80 + 2 * z1.toNatClampNeg) τ71) (fun y84 τ84 => (if v4 = (-1000000005) then ((fn_X6_began_L103 ε z1 z2 z3 (fn_X6_began_L55 ε z1 z2 z3 k117 fuel) k117) v6 y84 τ84) else (if v5 ≤ y84 then ((fn_X6_began_L111 ε z1 z2 z3 (fn_X6_began_L55 ε z1 z2 z3 k117 fuel) k117) v4 v5 v6 τ84) else ((fn_X6_began_L103 ε z1 z2 z3 (fn_X6_began_L55 ε z1 z2 z3 k117 fuel) k117) v6 y84 τ84))))) else none)))) = some (res, σ2) := h
      refine g_iload hX 6 rfl dX6_began_55 ?_
      refine g_aload_n hX 0 rfl rfl dX6_began_57 ?_
      refine c_get6 hX hC rfl 0 (by decide) rfl tFld_X6_10 rfl dX6_began_58 ?_
      refine c_get4 hX hC (kst_now rfl) 6 (by decide) rfl tFld_X6_60 rfl dX6_began_61 ?_
      refine g_icmp_ge hX 117 (by decide) dX6_began_64 (fun b64 => ?_) (fun b64 => ?_)
      · replace h := if_p b64 h
        refine g_lv [3, 4, 5] rfl ?_
        exact hk117 v4 v5  σ h
      · replace h := if_n b64 h
        refine g_aload_n hX 0 rfl rfl dX6_began_67 ?_
        refine g_iload hX 6 rfl dX6_began_68 ?_
        refine g_iload_n hX 2 rfl rfl dX6_began_70 ?_
        obtain ⟨y71, τ71, e71, h⟩ := ob_some h
        refine c_call6 hX hC hzo rfl [.int (v6), .int (z2)] [] (ct_X6_thinkWithoutWall _ _ _ _ hzo hzs hC ε v6 z2 σ _ _ e71) kX6_thinkWithoutWall tMet_X6_188 rfl rfl (Nat.le_of_ble_eq_true rfl) (Nat.le_of_ble_eq_true rfl) ⟨Nat.le_of_ble_eq_true rfl, Nat.le_of_ble_eq_true rfl⟩ rfl rfl (Nat.le_of_ble_eq_true rfl) dX6_began_71 ?_
        refine g_aload_n hX 0 rfl rfl dX6_began_74 ?_
        refine c_get6 hX hC rfl 2 (by decide) rfl tFld_X6_19 rfl dX6_began_75 ?_
        refine g_aload_n hX 0 rfl rfl dX6_began_78 ?_
        refine c_get6 hX hC rfl 4 (by decide) rfl tFld_X6_31 rfl dX6_began_79 ?_
        refine g_iload_n hX 1 rfl rfl dX6_began_82 ?_
        obtain ⟨g1, h⟩ := gd_some h
        refine c_aald hX hC (kq_X6_1 rfl) rfl g1 (v := .ref (sAd ε (80 + 2 * z1.toNatClampNeg))) rfl dX6_began_83 ?_
        obtain ⟨y84, τ84, e84, h⟩ := ob_some h
        refine c_call4 hX hC hzo (kst_tho rfl) [.ref (sAd ε (80 + 2 * z1.toNatClampNeg))] [] (ct_X4_differsFrom _ _ _ _ hzo hzs hC ε 48 (kst_tho rfl) (80 + 2 * z1.toNatClampNeg) (kr_X6 rfl (vin_lt g1)) τ71 _ _ e84) kX4_differsFrom tMet_X6_198 rfl rfl (Nat.le_of_ble_eq_true rfl) (Nat.le_of_ble_eq_true rfl) ⟨Nat.le_of_ble_eq_true rfl, Nat.le_of_ble_eq_true rfl⟩ rfl rfl (Nat.le_of_ble_eq_true rfl) dX6_began_84 ?_
        refine g_istore (lv2 := [(7, .int (y84)), (0, .ref (sAd ε (0))), (1, .int (z1)), (2, .int (z2)), (3, .int (z3)), (4, .int (v4)), (5, .int (v5)), (6, .int (v6))]) hX 7 8 hN (by decide) rfl dX6_began_87 ?_
        refine g_iload hX 5 rfl dX6_began_89 ?_
        refine g_ldc hX (v := -1000000005) (zu tCon_X6_176 rfl) dX6_began_91 ?_
        refine g_icmp_eq hX 103 (by decide) dX6_began_93 (fun b93 => ?_) (fun b93 => ?_)
        · replace h := if_p b93 h
          refine g_lv [1, 2, 3, 4, 7, 0] rfl ?_
          exact (J103 (fn_X6_began_L55 ε z1 z2 z3 k117 fuel) ih k117 hk117) v6 y84  τ84 h
        · replace h := if_n b93 h
          refine g_iload hX 0 rfl dX6_began_96 ?_
          refine g_iload hX 6 rfl dX6_began_98 ?_
          refine g_icmp_ge hX 111 (by decide) dX6_began_100 (fun b100 => ?_) (fun b100 => ?_)
          · replace h := if_p b100 h
            refine g_lv [1, 2, 3, 4, 5, 6, 7] rfl ?_
            exact (J111 (fn_X6_began_L55 ε z1 z2 z3 k117 fuel) ih k117 hk117) v4 v5 v6  τ84 h
          · replace h := if_n b100 h
            refine g_lv [1, 2, 3, 4, 7, 0] rfl ?_
            exact (J103 (fn_X6_began_L55 ε z1 z2 z3 k117 fuel) ih k117 hk117) v6 y84  τ84 h
  have J26 : ∀ (σ : Sg) , fn_X6_began_L26 ε z1 z2 z3  σ = some (res, σ2) → GW κ 0 0 (C ε σ) 26 [] [] := by
    intro σ h
    refine g_ldc hX (v := -1000000001) (zu tCon_X6_59 rfl) dX6_began_26 ?_
    exact g_reti hR (oi_1 h) (congrArg (C ε) (oi_2 h)) dX6_began_28
  show GW κ 0 0 (C ε σ) 0 [(0, .ref (sAd ε (0))), (1, .int (z1)), (2, .int (z2)), (3, .int (z3))] []
  refine g_iload_n hX 1 rfl rfl dX6_began_0 ?_
  obtain ⟨y1, e1, h⟩ := o1_some h
  refine s_call hX hzo [.int (z1)] [] (ct_X6_isSheet _ _ _ _ hzo hzs _ z1 _ e1) kX6_isSheet tMet_X6_191 rfl rfl (Nat.le_of_ble_eq_true rfl) (Nat.le_of_ble_eq_true rfl) ⟨Nat.le_of_ble_eq_true rfl, Nat.le_of_ble_eq_true rfl⟩ rfl rfl (Nat.le_of_ble_eq_true rfl) dX6_began_1 ?_
  refine g_if_eq hX 26 (by decide) dX6_began_4 (fun b4 => ?_) (fun b4 => ?_)
  · replace h := if_p b4 h
    refine g_lv [] rfl ?_
    exact J26   σ h
  · replace h := if_n b4 h
    refine g_iload_n hX 2 rfl rfl dX6_began_7 ?_
    refine g_if_lt hX 26 (by decide) dX6_began_8 (fun b8 => ?_) (fun b8 => ?_)
    · replace h := if_p b8 h
      refine g_lv [] rfl ?_
      exact J26   σ h
    · replace h := if_n b8 h
      refine g_iload_n hX 2 rfl rfl dX6_began_11 ?_
      refine g_bipush hX (v := nI 60) (by decide) dX6_began_12 ?_
      refine g_icmp_gt hX 26 (by decide) dX6_began_14 (fun b14 => ?_) (fun b14 => ?_)
      · replace h := if_p b14 h
        refine g_lv [] rfl ?_
        exact J26   σ h
      · replace h := if_n b14 h
        refine g_iload_n hX 3 rfl rfl dX6_began_17 ?_
        refine g_if_lt hX 26 (by decide) dX6_began_18 (fun b18 => ?_) (fun b18 => ?_)
        · replace h := if_p b18 h
          refine g_lv [] rfl ?_
          exact J26   σ h
        · replace h := if_n b18 h
          refine g_iload_n hX 3 rfl rfl dX6_began_21 ?_
          refine g_iconst hX (v := nI 1) rfl dX6_began_22 ?_
          refine g_icmp_le hX 29 (by decide) dX6_began_23 (fun b23 => ?_) (fun b23 => ?_)
          · replace h := if_p b23 h
            refine g_aload_n hX 0 rfl rfl dX6_began_29 ?_
            refine c_get6 hX hC rfl 4 (by decide) rfl tFld_X6_31 rfl dX6_began_30 ?_
            refine g_iload_n hX 1 rfl rfl dX6_began_33 ?_
            obtain ⟨g2, h⟩ := gd_some h
            refine c_aald hX hC (kq_X6_1 rfl) rfl g2 (v := .ref (sAd ε (80 + 2 * z1.toNatClampNeg))) rfl dX6_began_34 ?_
            refine c_get2 hX hC (kr_X6 rfl (vin_lt g2)) 1 (by decide) rfl tFld_X6_194 rfl dX6_began_35 ?_
            refine g_iconst hX (v := -1) (by decide) dX6_began_38 ?_
            refine g_icmp_ne hX 45 (by decide) dX6_began_39 (fun b39 => ?_) (fun b39 => ?_)
            · replace h := if_n b39 h
              refine g_ldc hX (v := -1000000005) (zu tCon_X6_176 rfl) dX6_began_45 ?_
              refine g_istore (lv2 := [(4, .int ((-1000000005))), (0, .ref (sAd ε (0))), (1, .int (z1)), (2, .int (z2)), (3, .int (z3))]) hX 4 8 hN (by decide) rfl dX6_began_47 ?_
              refine g_iconst hX (v := nI 0) rfl dX6_began_49 ?_
              refine g_istore (lv2 := [(5, .int (nI 0)), (4, .int ((-1000000005))), (0, .ref (sAd ε (0))), (1, .int (z1)), (2, .int (z2)), (3, .int (z3))]) hX 5 8 hN (by decide) rfl dX6_began_50 ?_
              refine g_iconst hX (v := nI 0) rfl dX6_began_52 ?_
              refine g_istore (lv2 := [(6, .int (nI 0)), (5, .int (nI 0)), (4, .int ((-1000000005))), (0, .ref (sAd ε (0))), (1, .int (z1)), (2, .int (z2)), (3, .int (z3))]) hX 6 8 hN (by decide) rfl dX6_began_53 ?_
              refine g_lv [3, 4, 5, 6, 2, 1, 0] rfl ?_
              exact (J55 (fn_X6_began_L117 ε z1 z2 z3) J117 4000) ((-1000000005)) (nI 0) (nI 0)  σ h
            · replace h := if_p b39 h
              refine g_ldc hX (v := -1000000011) (zu tCon_X6_197 rfl) dX6_began_42 ?_
              exact g_reti hR (oi_1 h) (congrArg (C ε) (oi_2 h)) dX6_began_44
          · replace h := if_n b23 h
            refine g_lv [] rfl ?_
            exact J26   σ h
theorem kX6_fee : mKV RX6 yX6_fee cX6_fee 2 (some .int) 0 := ⟨tIns_X6_fee, tSel_X6_fee, tIni_X6, tCod_X6_fee, by decide +kernel⟩
set_option maxHeartbeats 4000000 in
set_option maxRecDepth 100000 in
theorem ct_X6_fee (l : Launch) (D : va_G) (cy : Nat → ClassId) (Z : (Nat → Prop) → State → Heap → Prop) (hzo : zOK Z) {aStr aByt : Nat → Nat} (hzs : zSt Z aStr aByt) {q : Nat → Nat} {C : Ev → Sg → va_W} (hC : cLens cy q C) (ε : Ev) (σ σ2 : Sg) (res : Int32) (h : fn_X6_fee ε σ = some (res, σ2)) : GD l D cy Z yX6_fee (zW yX6_fee cX6_fee 2 (some .int)) { frames := 2, cells := 0, slots := 0, locals := 50 } [.ref (sAd ε (0))] (C ε σ) (some (.int res)) (C ε σ2) 0 0 := by
  refine g_entry (cc := cX6_fee) (maxL := 2) (by decide) rfl (Nat.le_of_ble_eq_true rfl) ?_
  intro κ hN hX hR
  have hX : GX κ cy Z cX6_fee (Cond.code yX6_fee cX6_fee 2 (some .int) :: zT) RX6 { frames := 2, cells := 0, slots := 0, locals := 50 } := hX
  have J43 : ∀ (s0 : Int32) (σ : Sg) , fn_X6_fee_L43 ε s0 σ = some (res, σ2) → GW κ 0 0 (C ε σ) 43 [] [.int (s0)] := by
    intro s0 σ h
    exact g_reti hR (oi_1 h) (congrArg (C ε) (oi_2 h)) dX6_fee_43
  show GW κ 0 0 (C ε σ) 0 [(0, .ref (sAd ε (0)))] []
  refine g_aload_n hX 0 rfl rfl dX6_fee_0 ?_
  refine c_get6 hX hC rfl 0 (by decide) rfl tFld_X6_10 rfl dX6_fee_1 ?_
  refine c_get4 hX hC (kst_now rfl) 2 (by decide) rfl tFld_X6_202 rfl dX6_fee_4 ?_
  refine g_iconst hX (v := nI 1) rfl dX6_fee_7 ?_
  obtain ⟨g1, h⟩ := gd_some h
  refine c_aald hX hC (kq_X4_3 (kst_now rfl)) rfl g1 (v := va_rf (Option.map (sAd ε) (σ.2 19 (nI 1).toNatClampNeg))) rfl dX6_fee_8 ?_
  refine g_astore_nQ (lv2 := [(1, va_rf (Option.map (sAd ε) (σ.2 19 (nI 1).toNatClampNeg))), (0, .ref (sAd ε (0)))]) hX 1 2 hN rfl (by decide) rfl dX6_fee_9 ?_
  refine g_aload_nQ hX 0 rfl rfl dX6_fee_10 ?_
  rcases oq_some h with ⟨hq, h⟩ | ⟨x11, hq, h⟩
  · refine g_re (lv2 := [(1, .null), (0, .ref (sAd ε (0)))]) (st2 := [.null]) (by rw [hq]; rfl) (by rw [hq]; rfl) ?_
    refine g_ifnonnullN hX dX6_fee_11 ?_
    refine g_aload_n hX 1 rfl rfl dX6_fee_14 ?_
    refine c_get6 hX hC rfl 0 (by decide) rfl tFld_X6_10 rfl dX6_fee_15 ?_
    refine c_get4 hX hC (kst_now rfl) 9 (by decide) rfl tFld_X6_151 rfl dX6_fee_18 ?_
    refine g_goto hX 43 (by decide) dX6_fee_21 ?_
    refine g_lv [] rfl ?_
    exact J43 (σ.1 16 9)  σ h
  · refine g_re (lv2 := [(1, .ref (sAd ε (x11))), (0, .ref (sAd ε (0)))]) (st2 := [.ref (sAd ε (x11))]) (by rw [hq]; rfl) (by rw [hq]; rfl) ?_
    obtain ⟨g2, h⟩ := gd_some h
    refine g_ifnonnull hX 24 (by decide) dX6_fee_11 ?_
    refine g_aload_n hX 0 rfl rfl dX6_fee_24 ?_
    refine g_aload_n hX 1 rfl rfl dX6_fee_25 ?_
    refine c_get6 hX hC rfl 0 (by decide) rfl tFld_X6_10 rfl dX6_fee_26 ?_
    refine c_get4 hX hC (kst_now rfl) 9 (by decide) rfl tFld_X6_151 rfl dX6_fee_29 ?_
    refine g_aload_n hX 1 rfl rfl dX6_fee_32 ?_
    refine c_get6 hX hC rfl 0 (by decide) rfl tFld_X6_10 rfl dX6_fee_33 ?_
    refine c_get4 hX hC (kst_now rfl) 10 (by decide) rfl tFld_X6_144 rfl dX6_fee_36 ?_
    refine g_iconst hX (v := nI 0) rfl dX6_fee_39 ?_
    obtain ⟨y40, τ40, e40, h⟩ := ob_some h
    refine c_call5 hX hC hzo g2 [.int (σ.1 16 9), .int (σ.1 16 10), .int (nI 0)] [] (ct_X5_value _ _ _ _ hzo hzs hC ε x11 g2 (σ.1 16 9) (σ.1 16 10) (nI 0) σ _ _ e40) kX5_value tMet_X6_206 rfl rfl (Nat.le_of_ble_eq_true rfl) (Nat.le_of_ble_eq_true rfl) ⟨Nat.le_of_ble_eq_true rfl, Nat.le_of_ble_eq_true rfl⟩ rfl rfl (Nat.le_of_ble_eq_true rfl) dX6_fee_40 ?_
    refine g_lv [] rfl ?_
    exact J43 y40  τ40 h
theorem kX6_fine : mKV RX6 yX6_fine cX6_fine 4 (some .int) 1 := ⟨tIns_X6_fine, tSel_X6_fine, tIni_X6, tCod_X6_fine, by decide +kernel⟩
set_option maxHeartbeats 4000000 in
set_option maxRecDepth 100000 in
theorem ct_X6_fine (l : Launch) (D : va_G) (cy : Nat → ClassId) (Z : (Nat → Prop) → State → Heap → Prop) (hzo : zOK Z) {aStr aByt : Nat → Nat} (hzs : zSt Z aStr aByt) {q : Nat → Nat} {C : Ev → Sg → va_W} (hC : cLens cy q C) (ε : Ev) (z1 : Int32) (σ σ2 : Sg) (res : Int32) (h : fn_X6_fine ε z1 σ = some (res, σ2)) : GD l D cy Z yX6_fine (zW yX6_fine cX6_fine 4 (some .int)) { frames := 2, cells := 0, slots := 0, locals := 50 } [.ref (sAd ε (0)), .int (z1)] (C ε σ) (some (.int res)) (C ε σ2) 0 0 := by
  refine g_entry (cc := cX6_fine) (maxL := 4) (by decide) rfl (Nat.le_of_ble_eq_true rfl) ?_
  intro κ hN hX hR
  have hX : GX κ cy Z cX6_fine (Cond.code yX6_fine cX6_fine 4 (some .int) :: zT) RX6 { frames := 2, cells := 0, slots := 0, locals := 50 } := hX
  have J55 : ∀ (s0 : Int32) (σ : Sg) , fn_X6_fine_L55 ε z1 s0 σ = some (res, σ2) → GW κ 0 0 (C ε σ) 55 [] [.int (s0)] := by
    intro s0 σ h
    exact g_reti hR (oi_1 h) (congrArg (C ε) (oi_2 h)) dX6_fine_55
  show GW κ 0 0 (C ε σ) 0 [(0, .ref (sAd ε (0))), (1, .int (z1))] []
  refine g_aload_n hX 0 rfl rfl dX6_fine_0 ?_
  refine g_iload_n hX 1 rfl rfl dX6_fine_1 ?_
  obtain ⟨y2, τ2, e2, h⟩ := ob_some h
  refine c_call6 hX hC hzo rfl [.int (z1)] [] (ct_X6_isHouse _ _ _ _ hzo hzs hC ε z1 σ _ _ e2) kX6_isHouse tMet_X6_68 rfl rfl (Nat.le_of_ble_eq_true rfl) (Nat.le_of_ble_eq_true rfl) ⟨Nat.le_of_ble_eq_true rfl, Nat.le_of_ble_eq_true rfl⟩ rfl rfl (Nat.le_of_ble_eq_true rfl) dX6_fine_2 ?_
  refine g_if_ne hX 11 (by decide) dX6_fine_5 (fun b5 => ?_) (fun b5 => ?_)
  · replace h := if_n b5 h
    refine g_aload_n hX 0 rfl rfl dX6_fine_11 ?_
    refine c_get6 hX hC rfl 0 (by decide) rfl tFld_X6_10 rfl dX6_fine_12 ?_
    refine c_get4 hX hC (kst_now rfl) 0 (by decide) rfl tFld_X6_72 rfl dX6_fine_15 ?_
    refine g_iload_n hX 1 rfl rfl dX6_fine_18 ?_
    obtain ⟨g1, h⟩ := gd_some h
    refine c_aald hX hC (kq_X4_1 (kst_now rfl)) rfl g1 (v := .ref (sAd ε (23 + z1.toNatClampNeg))) rfl dX6_fine_19 ?_
    refine g_astore_n (lv2 := [(2, .ref (sAd ε (23 + z1.toNatClampNeg))), (0, .ref (sAd ε (0))), (1, .int (z1))]) hX 2 4 hN rfl (by decide) rfl dX6_fine_20 ?_
    refine g_aload_n hX 1 rfl rfl dX6_fine_21 ?_
    refine c_get6 hX hC rfl 0 (by decide) rfl tFld_X6_10 rfl dX6_fine_22 ?_
    refine c_get4 hX hC (kst_now rfl) 2 (by decide) rfl tFld_X6_202 rfl dX6_fine_25 ?_
    refine g_iconst hX (v := nI 2) rfl dX6_fine_28 ?_
    obtain ⟨g2, h⟩ := gd_some h
    refine c_aald hX hC (kq_X4_3 (kst_now rfl)) rfl g2 (v := va_rf (Option.map (sAd ε) (τ2.2 19 (nI 2).toNatClampNeg))) rfl dX6_fine_29 ?_
    refine g_astore_nQ (lv2 := [(3, va_rf (Option.map (sAd ε) (τ2.2 19 (nI 2).toNatClampNeg))), (2, .ref (sAd ε (23 + z1.toNatClampNeg))), (0, .ref (sAd ε (0))), (1, .int (z1))]) hX 3 4 hN rfl (by decide) rfl dX6_fine_30 ?_
    refine g_aload_nQ hX 0 rfl rfl dX6_fine_31 ?_
    rcases oq_some h with ⟨hq, h⟩ | ⟨x32, hq, h⟩
    · refine g_re (lv2 := [(3, .null), (2, .ref (sAd ε (23 + z1.toNatClampNeg))), (0, .ref (sAd ε (0))), (1, .int (z1))]) (st2 := [.null]) (by rw [hq]; rfl) (by rw [hq]; rfl) ?_
      refine g_ifnonnullN hX dX6_fine_32 ?_
      refine g_aload_n hX 1 rfl rfl dX6_fine_35 ?_
      refine c_get0 hX hC (kh_X4 (kst_now rfl) (vin_lt g1)) 4 (by decide) rfl tFld_X6_212 rfl dX6_fine_36 ?_
      refine g_goto hX 55 (by decide) dX6_fine_39 ?_
      refine g_lv [] rfl ?_
      exact J55 (τ2.1 (23 + z1.toNatClampNeg) 4)  τ2 h
    · refine g_re (lv2 := [(3, .ref (sAd ε (x32))), (2, .ref (sAd ε (23 + z1.toNatClampNeg))), (0, .ref (sAd ε (0))), (1, .int (z1))]) (st2 := [.ref (sAd ε (x32))]) (by rw [hq]; rfl) (by rw [hq]; rfl) ?_
      obtain ⟨g3, h⟩ := gd_some h
      refine g_ifnonnull hX 42 (by decide) dX6_fine_32 ?_
      refine g_aload_n hX 0 rfl rfl dX6_fine_42 ?_
      refine g_aload_n hX 1 rfl rfl dX6_fine_43 ?_
      refine c_get0 hX hC (kh_X4 (kst_now rfl) (vin_lt g1)) 4 (by decide) rfl tFld_X6_212 rfl dX6_fine_44 ?_
      refine g_aload_n hX 1 rfl rfl dX6_fine_47 ?_
      refine c_get0 hX hC (kh_X4 (kst_now rfl) (vin_lt g1)) 5 (by decide) rfl tFld_X6_215 rfl dX6_fine_48 ?_
      refine g_iconst hX (v := nI 0) rfl dX6_fine_51 ?_
      obtain ⟨y52, τ52, e52, h⟩ := ob_some h
      refine c_call5 hX hC hzo g3 [.int (τ2.1 (23 + z1.toNatClampNeg) 4), .int (τ2.1 (23 + z1.toNatClampNeg) 5), .int (nI 0)] [] (ct_X5_value _ _ _ _ hzo hzs hC ε x32 g3 (τ2.1 (23 + z1.toNatClampNeg) 4) (τ2.1 (23 + z1.toNatClampNeg) 5) (nI 0) τ2 _ _ e52) kX5_value tMet_X6_206 rfl rfl (Nat.le_of_ble_eq_true rfl) (Nat.le_of_ble_eq_true rfl) ⟨Nat.le_of_ble_eq_true rfl, Nat.le_of_ble_eq_true rfl⟩ rfl rfl (Nat.le_of_ble_eq_true rfl) dX6_fine_52 ?_
      refine g_lv [] rfl ?_
      exact J55 y52  τ52 h
  · replace h := if_p b5 h
    refine g_ldc hX (v := -1000000001) (zu tCon_X6_59 rfl) dX6_fine_8 ?_
    exact g_reti hR (oi_1 h) (congrArg (C ε) (oi_2 h)) dX6_fine_10
theorem kX6_feed : mKV RX6 yX6_feed cX6_feed 4 (some .int) 3 := ⟨tIns_X6_feed, tSel_X6_feed, tIni_X6, tCod_X6_feed, by decide +kernel⟩
set_option maxHeartbeats 4000000 in
set_option maxRecDepth 100000 in
theorem ct_X6_feed (l : Launch) (D : va_G) (cy : Nat → ClassId) (Z : (Nat → Prop) → State → Heap → Prop) (hzo : zOK Z) {aStr aByt : Nat → Nat} (hzs : zSt Z aStr aByt) {q : Nat → Nat} {C : Ev → Sg → va_W} (hC : cLens cy q C) (ε : Ev) (z1 : Int32) (z2 : Int32) (z3 : Int32) (σ σ2 : Sg) (res : Int32) (h : fn_X6_feed ε z1 z2 z3 σ = some (res, σ2)) : GD l D cy Z yX6_feed (zW yX6_feed cX6_feed 4 (some .int)) { frames := 1, cells := 0, slots := 0, locals := 22 } [.ref (sAd ε (0)), .int (z1), .int (z2), .int (z3)] (C ε σ) (some (.int res)) (C ε σ2) 0 0 := by
  refine g_entry (cc := cX6_feed) (maxL := 4) (by decide) rfl (Nat.le_of_ble_eq_true rfl) ?_
  intro κ hN hX hR
  have hX : GX κ cy Z cX6_feed (Cond.code yX6_feed cX6_feed 4 (some .int) :: zT) RX6 { frames := 1, cells := 0, slots := 0, locals := 22 } := hX
  show GW κ 0 0 (C ε σ) 0 [(0, .ref (sAd ε (0))), (1, .int (z1)), (2, .int (z2)), (3, .int (z3))] []
  refine g_aload_n hX 0 rfl rfl dX6_feed_0 ?_
  refine c_get6 hX hC rfl 3 (by decide) rfl tFld_X6_25 rfl dX6_feed_1 ?_
  refine c_get1 hX hC (krd_X6 rfl) 1 (by decide) rfl tFld_X6_218 rfl dX6_feed_4 ?_
  refine g_bipush hX (v := nI 12) (by decide) dX6_feed_7 ?_
  refine g_iadd hX dX6_feed_9 ?_
  refine g_bipush hX (v := nI 96) (by decide) dX6_feed_10 ?_
  refine g_icmp_le hX 18 (by decide) dX6_feed_12 (fun b12 => ?_) (fun b12 => ?_)
  · replace h := if_p b12 h
    refine g_aload_n hX 0 rfl rfl dX6_feed_18 ?_
    refine c_get6 hX hC rfl 3 (by decide) rfl tFld_X6_25 rfl dX6_feed_19 ?_
    refine g_iload_n hX 1 rfl rfl dX6_feed_22 ?_
    obtain ⟨y23, τ23, e23, h⟩ := ob_some h
    refine c_call1 hX hC hzo (krd_X6 rfl) [.int (z1)] [] (ct_X1_addBytesOf _ _ _ _ hzo hzs hC ε z1 σ _ _ e23) kX1_addBytesOf tMet_X6_219 rfl rfl (Nat.le_of_ble_eq_true rfl) (Nat.le_of_ble_eq_true rfl) ⟨Nat.le_of_ble_eq_true rfl, Nat.le_of_ble_eq_true rfl⟩ rfl rfl (Nat.le_of_ble_eq_true rfl) dX6_feed_23 ?_
    refine g_aload_n hX 0 rfl rfl dX6_feed_26 ?_
    refine c_get6 hX hC rfl 3 (by decide) rfl tFld_X6_25 rfl dX6_feed_27 ?_
    refine g_iload_n hX 2 rfl rfl dX6_feed_30 ?_
    obtain ⟨y31, τ31, e31, h⟩ := ob_some h
    refine c_call1 hX hC hzo (krd_X6 rfl) [.int (z2)] [] (ct_X1_addBytesOf _ _ _ _ hzo hzs hC ε z2 τ23 _ _ e31) kX1_addBytesOf tMet_X6_219 rfl rfl (Nat.le_of_ble_eq_true rfl) (Nat.le_of_ble_eq_true rfl) ⟨Nat.le_of_ble_eq_true rfl, Nat.le_of_ble_eq_true rfl⟩ rfl rfl (Nat.le_of_ble_eq_true rfl) dX6_feed_31 ?_
    refine g_aload_n hX 0 rfl rfl dX6_feed_34 ?_
    refine c_get6 hX hC rfl 3 (by decide) rfl tFld_X6_25 rfl dX6_feed_35 ?_
    refine g_iload_n hX 3 rfl rfl dX6_feed_38 ?_
    obtain ⟨y39, τ39, e39, h⟩ := ob_some h
    refine c_call1 hX hC hzo (krd_X6 rfl) [.int (z3)] [] (ct_X1_addBytesOf _ _ _ _ hzo hzs hC ε z3 τ31 _ _ e39) kX1_addBytesOf tMet_X6_219 rfl rfl (Nat.le_of_ble_eq_true rfl) (Nat.le_of_ble_eq_true rfl) ⟨Nat.le_of_ble_eq_true rfl, Nat.le_of_ble_eq_true rfl⟩ rfl rfl (Nat.le_of_ble_eq_true rfl) dX6_feed_39 ?_
    refine g_aload_n hX 0 rfl rfl dX6_feed_42 ?_
    refine c_get6 hX hC rfl 3 (by decide) rfl tFld_X6_25 rfl dX6_feed_43 ?_
    refine c_get1 hX hC (krd_X6 rfl) 1 (by decide) rfl tFld_X6_218 rfl dX6_feed_46 ?_
    exact g_reti hR (oi_1 h) (congrArg (C ε) (oi_2 h)) dX6_feed_49
  · replace h := if_n b12 h
    refine g_ldc hX (v := -1000000003) (zu tCon_X6_63 rfl) dX6_feed_15 ?_
    exact g_reti hR (oi_1 h) (congrArg (C ε) (oi_2 h)) dX6_feed_17
theorem kX6_trim : mKV RX6 yX6_trim cX6_trim 2 (some .int) 1 := ⟨tIns_X6_trim, tSel_X6_trim, tIni_X6, tCod_X6_trim, by decide +kernel⟩
set_option maxHeartbeats 4000000 in
set_option maxRecDepth 100000 in
theorem ct_X6_trim (l : Launch) (D : va_G) (cy : Nat → ClassId) (Z : (Nat → Prop) → State → Heap → Prop) (hzo : zOK Z) {aStr aByt : Nat → Nat} (hzs : zSt Z aStr aByt) {q : Nat → Nat} {C : Ev → Sg → va_W} (hC : cLens cy q C) (ε : Ev) (z1 : Int32) (σ σ2 : Sg) (res : Int32) (h : fn_X6_trim ε z1 σ = some (res, σ2)) : GD l D cy Z yX6_trim (zW yX6_trim cX6_trim 2 (some .int)) { frames := 0, cells := 0, slots := 0, locals := 0 } [.ref (sAd ε (0)), .int (z1)] (C ε σ) (some (.int res)) (C ε σ2) 0 0 := by
  refine g_entry (cc := cX6_trim) (maxL := 2) (by decide) rfl (Nat.le_of_ble_eq_true rfl) ?_
  intro κ hN hX hR
  have hX : GX κ cy Z cX6_trim (Cond.code yX6_trim cX6_trim 2 (some .int) :: zT) RX6 { frames := 0, cells := 0, slots := 0, locals := 0 } := hX
  have J15 : ∀ (σ : Sg) , fn_X6_trim_L15 ε z1  σ = some (res, σ2) → GW κ 0 0 (C ε σ) 15 [] [] := by
    intro σ h
    refine g_ldc hX (v := -1000000001) (zu tCon_X6_59 rfl) dX6_trim_15 ?_
    exact g_reti hR (oi_1 h) (congrArg (C ε) (oi_2 h)) dX6_trim_17
  show GW κ 0 0 (C ε σ) 0 [(0, .ref (sAd ε (0))), (1, .int (z1))] []
  refine g_iload_n hX 1 rfl rfl dX6_trim_0 ?_
  refine g_if_lt hX 15 (by decide) dX6_trim_1 (fun b1 => ?_) (fun b1 => ?_)
  · replace h := if_p b1 h
    refine g_lv [] rfl ?_
    exact J15   σ h
  · replace h := if_n b1 h
    refine g_iload_n hX 1 rfl rfl dX6_trim_4 ?_
    refine g_aload_n hX 0 rfl rfl dX6_trim_5 ?_
    refine c_get6 hX hC rfl 3 (by decide) rfl tFld_X6_25 rfl dX6_trim_6 ?_
    refine c_get1 hX hC (krd_X6 rfl) 1 (by decide) rfl tFld_X6_218 rfl dX6_trim_9 ?_
    refine g_icmp_le hX 18 (by decide) dX6_trim_12 (fun b12 => ?_) (fun b12 => ?_)
    · replace h := if_p b12 h
      refine g_aload_n hX 0 rfl rfl dX6_trim_18 ?_
      refine c_get6 hX hC rfl 3 (by decide) rfl tFld_X6_25 rfl dX6_trim_19 ?_
      refine g_iload_n hX 1 rfl rfl dX6_trim_22 ?_
      refine c_put1 (ty := .int) hX hC (krd_X6 rfl) 1 (by decide) (cs_X1 ε _ _ _).1 rfl (by decide +kernel) rfl rfl tFld_X6_218 rfl dX6_trim_23 ?_
      refine g_iload_n hX 1 rfl rfl dX6_trim_26 ?_
      exact g_reti hR (oi_1 h) (congrArg (C ε) (oi_2 h)) dX6_trim_27
    · replace h := if_n b12 h
      refine g_lv [] rfl ?_
      exact J15   σ h
theorem kX6_textTold : mKV RX6 yX6_textTold cX6_textTold 4 (some .int) 2 := ⟨tIns_X6_textTold, tSel_X6_textTold, tIni_X6, tCod_X6_textTold, by decide +kernel⟩
set_option maxHeartbeats 4000000 in
set_option maxRecDepth 100000 in
theorem ct_X6_textTold (l : Launch) (D : va_G) (cy : Nat → ClassId) (Z : (Nat → Prop) → State → Heap → Prop) (hzo : zOK Z) {aStr aByt : Nat → Nat} (hzs : zSt Z aStr aByt) {q : Nat → Nat} {C : Ev → Sg → va_W} (hC : cLens cy q C) (ε : Ev) (z1 : Int32) (z2 : Int32) (σ σ2 : Sg) (res : Int32) (h : fn_X6_textTold ε z1 z2 σ = some (res, σ2)) : GD l D cy Z yX6_textTold (zW yX6_textTold cX6_textTold 4 (some .int)) { frames := 0, cells := 0, slots := 0, locals := 0 } [.ref (sAd ε (0)), .int (z1), .int (z2)] (C ε σ) (some (.int res)) (C ε σ2) 0 0 := by
  refine g_entry (cc := cX6_textTold) (maxL := 4) (by decide) rfl (Nat.le_of_ble_eq_true rfl) ?_
  intro κ hN hX hR
  have hX : GX κ cy Z cX6_textTold (Cond.code yX6_textTold cX6_textTold 4 (some .int) :: zT) RX6 { frames := 0, cells := 0, slots := 0, locals := 0 } := hX
  have J61 : ∀ (s0 : Int32) (σ : Sg) , fn_X6_textTold_L61 ε z1 z2 s0 σ = some (res, σ2) → GW κ 0 0 (C ε σ) 61 [] [.int (s0)] := by
    intro s0 σ h
    exact g_reti hR (oi_1 h) (congrArg (C ε) (oi_2 h)) dX6_textTold_61
  have J24 : ∀ (σ : Sg) , fn_X6_textTold_L24 ε z1 z2  σ = some (res, σ2) → GW κ 0 0 (C ε σ) 24 [] [] := by
    intro σ h
    refine g_ldc hX (v := -1000000001) (zu tCon_X6_59 rfl) dX6_textTold_24 ?_
    exact g_reti hR (oi_1 h) (congrArg (C ε) (oi_2 h)) dX6_textTold_26
  show GW κ 0 0 (C ε σ) 0 [(0, .ref (sAd ε (0))), (1, .int (z1)), (2, .int (z2))] []
  refine g_iload_n hX 1 rfl rfl dX6_textTold_0 ?_
  refine g_if_lt hX 24 (by decide) dX6_textTold_1 (fun b1 => ?_) (fun b1 => ?_)
  · replace h := if_p b1 h
    refine g_lv [] rfl ?_
    exact J24   σ h
  · replace h := if_n b1 h
    refine g_iload_n hX 1 rfl rfl dX6_textTold_4 ?_
    refine g_aload_n hX 0 rfl rfl dX6_textTold_5 ?_
    refine c_get6 hX hC rfl 0 (by decide) rfl tFld_X6_10 rfl dX6_textTold_6 ?_
    refine c_get4 hX hC (kst_now rfl) 7 (by decide) rfl tFld_X6_229 rfl dX6_textTold_9 ?_
    refine g_icmp_ge hX 24 (by decide) dX6_textTold_12 (fun b12 => ?_) (fun b12 => ?_)
    · replace h := if_p b12 h
      refine g_lv [] rfl ?_
      exact J24   σ h
    · replace h := if_n b12 h
      refine g_iload_n hX 2 rfl rfl dX6_textTold_15 ?_
      refine g_if_lt hX 24 (by decide) dX6_textTold_16 (fun b16 => ?_) (fun b16 => ?_)
      · replace h := if_p b16 h
        refine g_lv [] rfl ?_
        exact J24   σ h
      · replace h := if_n b16 h
        refine g_iload_n hX 2 rfl rfl dX6_textTold_19 ?_
        refine g_iconst hX (v := nI 1) rfl dX6_textTold_20 ?_
        refine g_icmp_le hX 27 (by decide) dX6_textTold_21 (fun b21 => ?_) (fun b21 => ?_)
        · replace h := if_p b21 h
          refine g_aload_n hX 0 rfl rfl dX6_textTold_27 ?_
          refine c_get6 hX hC rfl 0 (by decide) rfl tFld_X6_10 rfl dX6_textTold_28 ?_
          refine c_get4 hX hC (kst_now rfl) 1 (by decide) rfl tFld_X6_240 rfl dX6_textTold_31 ?_
          refine g_iload_n hX 1 rfl rfl dX6_textTold_34 ?_
          obtain ⟨g1, h⟩ := gd_some h
          refine c_aald hX hC (kq_X4_2 (kst_now rfl)) rfl g1 (v := va_rf (Option.map (sAd ε) (σ.2 18 z1.toNatClampNeg))) rfl dX6_textTold_35 ?_
          refine g_astore_nQ (lv2 := [(3, va_rf (Option.map (sAd ε) (σ.2 18 z1.toNatClampNeg))), (0, .ref (sAd ε (0))), (1, .int (z1)), (2, .int (z2))]) hX 3 4 hN rfl (by decide) rfl dX6_textTold_36 ?_
          refine g_aload_nQ hX 0 rfl rfl dX6_textTold_37 ?_
          rcases oq_some h with ⟨hq, h⟩ | ⟨x38, hq, h⟩
          · refine g_re (lv2 := [(3, .null), (0, .ref (sAd ε (0))), (1, .int (z1)), (2, .int (z2))]) (st2 := [.null]) (by rw [hq]; rfl) (by rw [hq]; rfl) ?_
            refine g_ifnonnullN hX dX6_textTold_38 ?_
            refine g_ldc hX (v := -1000000001) (zu tCon_X6_59 rfl) dX6_textTold_41 ?_
            refine g_goto hX 61 (by decide) dX6_textTold_43 ?_
            refine g_lv [] rfl ?_
            exact J61 ((-1000000001))  σ h
          · refine g_re (lv2 := [(3, .ref (sAd ε (x38))), (0, .ref (sAd ε (0))), (1, .int (z1)), (2, .int (z2))]) (st2 := [.ref (sAd ε (x38))]) (by rw [hq]; rfl) (by rw [hq]; rfl) ?_
            obtain ⟨g2, h⟩ := gd_some h
            refine g_ifnonnull hX 46 (by decide) dX6_textTold_38 ?_
            refine g_iload_n hX 3 rfl rfl dX6_textTold_46 ?_
            refine g_if_ne hX 57 (by decide) dX6_textTold_47 (fun b47 => ?_) (fun b47 => ?_)
            · replace h := if_n b47 h
              refine g_aload_n hX 0 rfl rfl dX6_textTold_57 ?_
              refine c_get5 hX hC g2 2 (by decide) rfl tFld_X6_246 rfl dX6_textTold_58 ?_
              refine g_lv [] rfl ?_
              exact J61 (σ.1 x38 2)  σ h
            · replace h := if_p b47 h
              refine g_aload_n hX 0 rfl rfl dX6_textTold_50 ?_
              refine c_get5 hX hC g2 1 (by decide) rfl tFld_X6_243 rfl dX6_textTold_51 ?_
              refine g_goto hX 61 (by decide) dX6_textTold_54 ?_
              refine g_lv [] rfl ?_
              exact J61 (σ.1 x38 1)  σ h
        · replace h := if_n b21 h
          refine g_lv [] rfl ?_
          exact J24   σ h
theorem kX6_why : mKV RX6 yX6_why cX6_why 3 (some .int) 1 := ⟨tIns_X6_why, tSel_X6_why, tIni_X6, tCod_X6_why, by decide +kernel⟩
set_option maxHeartbeats 4000000 in
set_option maxRecDepth 100000 in
theorem ct_X6_why (l : Launch) (D : va_G) (cy : Nat → ClassId) (Z : (Nat → Prop) → State → Heap → Prop) (hzo : zOK Z) {aStr aByt : Nat → Nat} (hzs : zSt Z aStr aByt) {q : Nat → Nat} {C : Ev → Sg → va_W} (hC : cLens cy q C) (ε : Ev) (z1 : Int32) (σ σ2 : Sg) (res : Int32) (h : fn_X6_why ε z1 σ = some (res, σ2)) : GD l D cy Z yX6_why (zW yX6_why cX6_why 3 (some .int)) { frames := 0, cells := 0, slots := 0, locals := 0 } [.ref (sAd ε (0)), .int (z1)] (C ε σ) (some (.int res)) (C ε σ2) 0 0 := by
  refine g_entry (cc := cX6_why) (maxL := 3) (by decide) rfl (Nat.le_of_ble_eq_true rfl) ?_
  intro κ hN hX hR
  have hX : GX κ cy Z cX6_why (Cond.code yX6_why cX6_why 3 (some .int) :: zT) RX6 { frames := 0, cells := 0, slots := 0, locals := 0 } := hX
  have J35 : ∀ (s0 : Int32) (σ : Sg) , fn_X6_why_L35 ε z1 s0 σ = some (res, σ2) → GW κ 0 0 (C ε σ) 35 [] [.int (s0)] := by
    intro s0 σ h
    exact g_reti hR (oi_1 h) (congrArg (C ε) (oi_2 h)) dX6_why_35
  have J9 : ∀ (σ : Sg) , fn_X6_why_L9 ε z1  σ = some (res, σ2) → GW κ 0 0 (C ε σ) 9 [] [] := by
    intro σ h
    refine g_ldc hX (v := -1000000001) (zu tCon_X6_59 rfl) dX6_why_9 ?_
    exact g_reti hR (oi_1 h) (congrArg (C ε) (oi_2 h)) dX6_why_11
  show GW κ 0 0 (C ε σ) 0 [(0, .ref (sAd ε (0))), (1, .int (z1))] []
  refine g_iload_n hX 1 rfl rfl dX6_why_0 ?_
  refine g_if_lt hX 9 (by decide) dX6_why_1 (fun b1 => ?_) (fun b1 => ?_)
  · replace h := if_p b1 h
    refine g_lv [] rfl ?_
    exact J9   σ h
  · replace h := if_n b1 h
    refine g_iload_n hX 1 rfl rfl dX6_why_4 ?_
    refine g_iconst hX (v := nI 3) rfl dX6_why_5 ?_
    refine g_icmp_lt hX 12 (by decide) dX6_why_6 (fun b6 => ?_) (fun b6 => ?_)
    · replace h := if_p b6 h
      refine g_aload_n hX 0 rfl rfl dX6_why_12 ?_
      refine c_get6 hX hC rfl 0 (by decide) rfl tFld_X6_10 rfl dX6_why_13 ?_
      refine c_get4 hX hC (kst_now rfl) 2 (by decide) rfl tFld_X6_202 rfl dX6_why_16 ?_
      refine g_iload_n hX 1 rfl rfl dX6_why_19 ?_
      obtain ⟨g1, h⟩ := gd_some h
      refine c_aald hX hC (kq_X4_3 (kst_now rfl)) rfl g1 (v := va_rf (Option.map (sAd ε) (σ.2 19 z1.toNatClampNeg))) rfl dX6_why_20 ?_
      refine g_astore_nQ (lv2 := [(2, va_rf (Option.map (sAd ε) (σ.2 19 z1.toNatClampNeg))), (0, .ref (sAd ε (0))), (1, .int (z1))]) hX 2 3 hN rfl (by decide) rfl dX6_why_21 ?_
      refine g_aload_nQ hX 0 rfl rfl dX6_why_22 ?_
      rcases oq_some h with ⟨hq, h⟩ | ⟨x23, hq, h⟩
      · refine g_re (lv2 := [(2, .null), (0, .ref (sAd ε (0))), (1, .int (z1))]) (st2 := [.null]) (by rw [hq]; rfl) (by rw [hq]; rfl) ?_
        refine g_ifnonnullN hX dX6_why_23 ?_
        refine g_ldc hX (v := -1000000005) (zu tCon_X6_176 rfl) dX6_why_26 ?_
        refine g_goto hX 35 (by decide) dX6_why_28 ?_
        refine g_lv [] rfl ?_
        exact J35 ((-1000000005))  σ h
      · refine g_re (lv2 := [(2, .ref (sAd ε (x23))), (0, .ref (sAd ε (0))), (1, .int (z1))]) (st2 := [.ref (sAd ε (x23))]) (by rw [hq]; rfl) (by rw [hq]; rfl) ?_
        obtain ⟨g2, h⟩ := gd_some h
        refine g_ifnonnull hX 31 (by decide) dX6_why_23 ?_
        refine g_aload_n hX 0 rfl rfl dX6_why_31 ?_
        refine c_get5 hX hC g2 0 (by decide) rfl tFld_X6_249 rfl dX6_why_32 ?_
        refine g_lv [] rfl ?_
        exact J35 (σ.1 x23 0)  σ h
    · replace h := if_n b6 h
      refine g_lv [] rfl ?_
      exact J9   σ h
theorem kX6_sheet : mKV RX6 yX6_sheet cX6_sheet 4 (some .int) 3 := ⟨tIns_X6_sheet, tSel_X6_sheet, tIni_X6, tCod_X6_sheet, by decide +kernel⟩
set_option maxHeartbeats 4000000 in
set_option maxRecDepth 100000 in
theorem ct_X6_sheet (l : Launch) (D : va_G) (cy : Nat → ClassId) (Z : (Nat → Prop) → State → Heap → Prop) (hzo : zOK Z) {aStr aByt : Nat → Nat} (hzs : zSt Z aStr aByt) {q : Nat → Nat} {C : Ev → Sg → va_W} (hC : cLens cy q C) (ε : Ev) (z1 : Int32) (z2 : Int32) (z3 : Int32) (σ σ2 : Sg) (res : Int32) (h : fn_X6_sheet ε z1 z2 z3 σ = some (res, σ2)) : GD l D cy Z yX6_sheet (zW yX6_sheet cX6_sheet 4 (some .int)) { frames := 2, cells := 0, slots := 0, locals := 45 } [.ref (sAd ε (0)), .int (z1), .int (z2), .int (z3)] (C ε σ) (some (.int res)) (C ε σ2) 0 0 := by
  refine g_entry (cc := cX6_sheet) (maxL := 4) (by decide) rfl (Nat.le_of_ble_eq_true rfl) ?_
  intro κ hN hX hR
  have hX : GX κ cy Z cX6_sheet (Cond.code yX6_sheet cX6_sheet 4 (some .int) :: zT) RX6 { frames := 2, cells := 0, slots := 0, locals := 45 } := hX
  have J17 : ∀ (σ : Sg) , fn_X6_sheet_L17 ε z1 z2 z3  σ = some (res, σ2) → GW κ 0 0 (C ε σ) 17 [] [] := by
    intro σ h
    refine g_ldc hX (v := -1000000001) (zu tCon_X6_59 rfl) dX6_sheet_17 ?_
    exact g_reti hR (oi_1 h) (congrArg (C ε) (oi_2 h)) dX6_sheet_19
  show GW κ 0 0 (C ε σ) 0 [(0, .ref (sAd ε (0))), (1, .int (z1)), (2, .int (z2)), (3, .int (z3))] []
  refine g_iload_n hX 1 rfl rfl dX6_sheet_0 ?_
  obtain ⟨y1, e1, h⟩ := o1_some h
  refine s_call hX hzo [.int (z1)] [] (ct_X6_isSheet _ _ _ _ hzo hzs _ z1 _ e1) kX6_isSheet tMet_X6_191 rfl rfl (Nat.le_of_ble_eq_true rfl) (Nat.le_of_ble_eq_true rfl) ⟨Nat.le_of_ble_eq_true rfl, Nat.le_of_ble_eq_true rfl⟩ rfl rfl (Nat.le_of_ble_eq_true rfl) dX6_sheet_1 ?_
  refine g_if_eq hX 17 (by decide) dX6_sheet_4 (fun b4 => ?_) (fun b4 => ?_)
  · replace h := if_p b4 h
    refine g_lv [] rfl ?_
    exact J17   σ h
  · replace h := if_n b4 h
    refine g_iload_n hX 2 rfl rfl dX6_sheet_7 ?_
    refine g_iconst hX (v := -1) (by decide) dX6_sheet_8 ?_
    refine g_icmp_lt hX 17 (by decide) dX6_sheet_9 (fun b9 => ?_) (fun b9 => ?_)
    · replace h := if_p b9 h
      refine g_lv [] rfl ?_
      exact J17   σ h
    · replace h := if_n b9 h
      refine g_iload_n hX 2 rfl rfl dX6_sheet_12 ?_
      refine g_iconst hX (v := nI 1) rfl dX6_sheet_13 ?_
      refine g_icmp_le hX 20 (by decide) dX6_sheet_14 (fun b14 => ?_) (fun b14 => ?_)
      · replace h := if_p b14 h
        refine g_iload_n hX 2 rfl rfl dX6_sheet_20 ?_
        refine g_iconst hX (v := -1) (by decide) dX6_sheet_21 ?_
        refine g_icmp_ne hX 38 (by decide) dX6_sheet_22 (fun b22 => ?_) (fun b22 => ?_)
        · replace h := if_n b22 h
          refine g_iload_n hX 3 rfl rfl dX6_sheet_38 ?_
          refine g_bipush hX (v := nI 24) (by decide) dX6_sheet_39 ?_
          refine g_icmp_le hX 47 (by decide) dX6_sheet_41 (fun b41 => ?_) (fun b41 => ?_)
          · replace h := if_p b41 h
            refine g_iload_n hX 3 rfl rfl dX6_sheet_47 ?_
            refine g_if_ge hX 54 (by decide) dX6_sheet_48 (fun b48 => ?_) (fun b48 => ?_)
            · replace h := if_p b48 h
              refine g_aload_n hX 0 rfl rfl dX6_sheet_54 ?_
              refine c_get6 hX hC rfl 4 (by decide) rfl tFld_X6_31 rfl dX6_sheet_55 ?_
              refine g_iload_n hX 1 rfl rfl dX6_sheet_58 ?_
              obtain ⟨g1, h⟩ := gd_some h
              refine c_aald hX hC (kq_X6_1 rfl) rfl g1 (v := .ref (sAd ε (80 + 2 * z1.toNatClampNeg))) rfl dX6_sheet_59 ?_
              refine g_iload_n hX 2 rfl rfl dX6_sheet_60 ?_
              refine g_iload_n hX 3 rfl rfl dX6_sheet_61 ?_
              obtain ⟨y62, τ62, e62, h⟩ := ob_some h
              refine c_call2 hX hC hzo (kr_X6 rfl (vin_lt g1)) [.int (z2), .int (z3)] [] (ct_X2_begin _ _ _ _ hzo hzs hC ε (80 + 2 * z1.toNatClampNeg) (kr_X6 rfl (vin_lt g1)) z2 z3 σ _ _ e62) kX2_begin tMet_X6_252 rfl rfl (Nat.le_of_ble_eq_true rfl) (Nat.le_of_ble_eq_true rfl) ⟨Nat.le_of_ble_eq_true rfl, Nat.le_of_ble_eq_true rfl⟩ rfl rfl (Nat.le_of_ble_eq_true rfl) dX6_sheet_62 ?_
              refine g_iload_n hX 3 rfl rfl dX6_sheet_65 ?_
              exact g_reti hR (oi_1 h) (congrArg (C ε) (oi_2 h)) dX6_sheet_66
            · replace h := if_n b48 h
              refine g_ldc hX (v := -1000000014) (zu tCon_X6_255 rfl) dX6_sheet_51 ?_
              exact g_reti hR (oi_1 h) (congrArg (C ε) (oi_2 h)) dX6_sheet_53
          · replace h := if_n b41 h
            refine g_ldc hX (v := -1000000001) (zu tCon_X6_59 rfl) dX6_sheet_44 ?_
            exact g_reti hR (oi_1 h) (congrArg (C ε) (oi_2 h)) dX6_sheet_46
        · replace h := if_p b22 h
          refine g_aload_n hX 0 rfl rfl dX6_sheet_25 ?_
          refine c_get6 hX hC rfl 4 (by decide) rfl tFld_X6_31 rfl dX6_sheet_26 ?_
          refine g_iload_n hX 1 rfl rfl dX6_sheet_29 ?_
          obtain ⟨g2, h⟩ := gd_some h
          refine c_aald hX hC (kq_X6_1 rfl) rfl g2 (v := .ref (sAd ε (80 + 2 * z1.toNatClampNeg))) rfl dX6_sheet_30 ?_
          refine g_iconst hX (v := -1) (by decide) dX6_sheet_31 ?_
          refine g_iconst hX (v := nI 0) rfl dX6_sheet_32 ?_
          obtain ⟨y33, τ33, e33, h⟩ := ob_some h
          refine c_call2 hX hC hzo (kr_X6 rfl (vin_lt g2)) [.int ((-1)), .int (nI 0)] [] (ct_X2_begin _ _ _ _ hzo hzs hC ε (80 + 2 * z1.toNatClampNeg) (kr_X6 rfl (vin_lt g2)) ((-1)) (nI 0) σ _ _ e33) kX2_begin tMet_X6_252 rfl rfl (Nat.le_of_ble_eq_true rfl) (Nat.le_of_ble_eq_true rfl) ⟨Nat.le_of_ble_eq_true rfl, Nat.le_of_ble_eq_true rfl⟩ rfl rfl (Nat.le_of_ble_eq_true rfl) dX6_sheet_33 ?_
          refine g_iconst hX (v := nI 0) rfl dX6_sheet_36 ?_
          exact g_reti hR (oi_1 h) (congrArg (C ε) (oi_2 h)) dX6_sheet_37
      · replace h := if_n b14 h
        refine g_lv [] rfl ?_
        exact J17   σ h
theorem kX6_mark : mKV RX6 yX6_mark cX6_mark 5 (some .int) 3 := ⟨tIns_X6_mark, tSel_X6_mark, tIni_X6, tCod_X6_mark, by decide +kernel⟩
set_option maxHeartbeats 4000000 in
set_option maxRecDepth 100000 in
theorem ct_X6_mark (l : Launch) (D : va_G) (cy : Nat → ClassId) (Z : (Nat → Prop) → State → Heap → Prop) (hzo : zOK Z) {aStr aByt : Nat → Nat} (hzs : zSt Z aStr aByt) {q : Nat → Nat} {C : Ev → Sg → va_W} (hC : cLens cy q C) (ε : Ev) (z1 : Int32) (z2 : Int32) (z3 : Int32) (σ σ2 : Sg) (res : Int32) (h : fn_X6_mark ε z1 z2 z3 σ = some (res, σ2)) : GD l D cy Z yX6_mark (zW yX6_mark cX6_mark 5 (some .int)) { frames := 1, cells := 0, slots := 0, locals := 21 } [.ref (sAd ε (0)), .int (z1), .int (z2), .int (z3)] (C ε σ) (some (.int res)) (C ε σ2) 0 0 := by
  refine g_entry (cc := cX6_mark) (maxL := 5) (by decide) rfl (Nat.le_of_ble_eq_true rfl) ?_
  intro κ hN hX hR
  have hX : GX κ cy Z cX6_mark (Cond.code yX6_mark cX6_mark 5 (some .int) :: zT) RX6 { frames := 1, cells := 0, slots := 0, locals := 21 } := hX
  have J94 : ∀ (v4 : Nat) (hv4 : isX2 v4) (σ : Sg) , fn_X6_mark_L94 ε z1 z2 z3 v4 σ = some (res, σ2) → GW κ 0 0 (C ε σ) 94 [(2, .int (z2)), (3, .int (z3)), (4, .ref (sAd ε (v4)))] [] := by
    intro v4 hv4 σ h
    refine g_aload hX 2 rfl dX6_mark_94 ?_
    refine c_get2 hX hC hv4 0 (by decide) rfl tFld_X6_260 rfl dX6_mark_96 ?_
    refine g_iload_n hX 0 rfl rfl dX6_mark_99 ?_
    refine g_iload_n hX 1 rfl rfl dX6_mark_100 ?_
    obtain ⟨g1, h⟩ := gd_some h
    refine c_ast hX hC (ka_X2_1 hv4) g1 dX6_mark_101 ?_
    refine g_iconst hX (v := nI 1) rfl dX6_mark_102 ?_
    exact g_reti hR (oi_1 h) (congrArg (C ε) (oi_2 h)) dX6_mark_103
  have J91 : ∀ (σ : Sg) , fn_X6_mark_L91 ε z1 z2 z3  σ = some (res, σ2) → GW κ 0 0 (C ε σ) 91 [] [] := by
    intro σ h
    refine g_ldc hX (v := -1000000001) (zu tCon_X6_59 rfl) dX6_mark_91 ?_
    exact g_reti hR (oi_1 h) (congrArg (C ε) (oi_2 h)) dX6_mark_93
  show GW κ 0 0 (C ε σ) 0 [(0, .ref (sAd ε (0))), (1, .int (z1)), (2, .int (z2)), (3, .int (z3))] []
  refine g_iload_n hX 1 rfl rfl dX6_mark_0 ?_
  obtain ⟨y1, e1, h⟩ := o1_some h
  refine s_call hX hzo [.int (z1)] [] (ct_X6_isSheet _ _ _ _ hzo hzs _ z1 _ e1) kX6_isSheet tMet_X6_191 rfl rfl (Nat.le_of_ble_eq_true rfl) (Nat.le_of_ble_eq_true rfl) ⟨Nat.le_of_ble_eq_true rfl, Nat.le_of_ble_eq_true rfl⟩ rfl rfl (Nat.le_of_ble_eq_true rfl) dX6_mark_1 ?_
  refine g_if_ne hX 10 (by decide) dX6_mark_4 (fun b4 => ?_) (fun b4 => ?_)
  · replace h := if_n b4 h
    refine g_aload_n hX 0 rfl rfl dX6_mark_10 ?_
    refine c_get6 hX hC rfl 4 (by decide) rfl tFld_X6_31 rfl dX6_mark_11 ?_
    refine g_iload_n hX 1 rfl rfl dX6_mark_14 ?_
    obtain ⟨g2, h⟩ := gd_some h
    refine c_aald hX hC (kq_X6_1 rfl) rfl g2 (v := .ref (sAd ε (80 + 2 * z1.toNatClampNeg))) rfl dX6_mark_15 ?_
    refine g_astore (lv2 := [(4, .ref (sAd ε (80 + 2 * z1.toNatClampNeg))), (0, .ref (sAd ε (0))), (1, .int (z1)), (2, .int (z2)), (3, .int (z3))]) hX 4 5 hN (by decide) rfl dX6_mark_16 ?_
    refine g_aload hX 0 rfl dX6_mark_18 ?_
    refine c_get2 hX hC (kr_X6 rfl (vin_lt g2)) 1 (by decide) rfl tFld_X6_194 rfl dX6_mark_20 ?_
    refine g_iconst hX (v := -1) (by decide) dX6_mark_23 ?_
    refine g_icmp_ne hX 30 (by decide) dX6_mark_24 (fun b24 => ?_) (fun b24 => ?_)
    · replace h := if_n b24 h
      refine g_aload hX 0 rfl dX6_mark_30 ?_
      refine g_iload_n hX 3 rfl rfl dX6_mark_32 ?_
      obtain ⟨y33, τ33, e33, h⟩ := ob_some h
      refine c_call2 hX hC hzo (kr_X6 rfl (vin_lt g2)) [.int (z2)] [] (ct_X2_hasPlace _ _ _ _ hzo hzs hC ε (80 + 2 * z1.toNatClampNeg) (kr_X6 rfl (vin_lt g2)) z2 σ _ _ e33) kX2_hasPlace tMet_X6_256 rfl rfl (Nat.le_of_ble_eq_true rfl) (Nat.le_of_ble_eq_true rfl) ⟨Nat.le_of_ble_eq_true rfl, Nat.le_of_ble_eq_true rfl⟩ rfl rfl (Nat.le_of_ble_eq_true rfl) dX6_mark_33 ?_
      refine g_if_ne hX 43 (by decide) dX6_mark_36 (fun b36 => ?_) (fun b36 => ?_)
      · replace h := if_n b36 h
        refine g_aload hX 0 rfl dX6_mark_43 ?_
        refine c_get2 hX hC (kr_X6 rfl (vin_lt g2)) 1 (by decide) rfl tFld_X6_194 rfl dX6_mark_45 ?_
        refine g_if_ne hX 71 (by decide) dX6_mark_48 (fun b48 => ?_) (fun b48 => ?_)
        · replace h := if_n b48 h
          refine g_iload_n hX 4 rfl rfl dX6_mark_71 ?_
          refine g_ldc hX (v := -1000000005) (zu tCon_X6_176 rfl) dX6_mark_72 ?_
          refine g_icmp_eq hX 94 (by decide) dX6_mark_74 (fun b74 => ?_) (fun b74 => ?_)
          · replace h := if_p b74 h
            refine g_lv [3, 4, 0] rfl ?_
            exact J94 (80 + 2 * z1.toNatClampNeg) (kr_X6 rfl (vin_lt g2)) τ33 h
          · replace h := if_n b74 h
            refine g_iload_n hX 4 rfl rfl dX6_mark_77 ?_
            refine g_ldcw hX (v := -99999) (zu tCon_X6_263 rfl) dX6_mark_78 ?_
            refine g_icmp_lt hX 91 (by decide) dX6_mark_81 (fun b81 => ?_) (fun b81 => ?_)
            · replace h := if_p b81 h
              refine g_lv [] rfl ?_
              exact J91   τ33 h
            · replace h := if_n b81 h
              refine g_iload_n hX 4 rfl rfl dX6_mark_84 ?_
              refine g_ldcw hX (v := 99999) (zu tCon_X6_264 rfl) dX6_mark_85 ?_
              refine g_icmp_le hX 94 (by decide) dX6_mark_88 (fun b88 => ?_) (fun b88 => ?_)
              · replace h := if_p b88 h
                refine g_lv [3, 4, 0] rfl ?_
                exact J94 (80 + 2 * z1.toNatClampNeg) (kr_X6 rfl (vin_lt g2)) τ33 h
              · replace h := if_n b88 h
                refine g_lv [] rfl ?_
                exact J91   τ33 h
        · replace h := if_p b48 h
          refine g_iload_n hX 4 rfl rfl dX6_mark_51 ?_
          refine g_ldc hX (v := -1000000005) (zu tCon_X6_176 rfl) dX6_mark_52 ?_
          refine g_icmp_ne hX 60 (by decide) dX6_mark_54 (fun b54 => ?_) (fun b54 => ?_)
          · replace h := if_n b54 h
            refine g_aload hX 0 rfl dX6_mark_60 ?_
            refine c_get2 hX hC (kr_X6 rfl (vin_lt g2)) 0 (by decide) rfl tFld_X6_260 rfl dX6_mark_62 ?_
            refine g_iload_n hX 3 rfl rfl dX6_mark_65 ?_
            refine g_iload_n hX 4 rfl rfl dX6_mark_66 ?_
            refine g_i2s hX dX6_mark_67 ?_
            obtain ⟨g3, h⟩ := gd_some h
            refine c_ast hX hC (ka_X2_1 (kr_X6 rfl (vin_lt g2))) g3 dX6_mark_68 ?_
            refine g_iconst hX (v := nI 1) rfl dX6_mark_69 ?_
            exact g_reti hR (oi_1 h) (congrArg (C ε) (oi_2 h)) dX6_mark_70
          · replace h := if_p b54 h
            refine g_ldc hX (v := -1000000012) (zu tCon_X6_111 rfl) dX6_mark_57 ?_
            exact g_reti hR (oi_1 h) (congrArg (C ε) (oi_2 h)) dX6_mark_59
      · replace h := if_p b36 h
        refine g_ldcw hX (v := -1000000013) (zu tCon_X6_259 rfl) dX6_mark_39 ?_
        exact g_reti hR (oi_1 h) (congrArg (C ε) (oi_2 h)) dX6_mark_42
    · replace h := if_p b24 h
      refine g_ldc hX (v := -1000000011) (zu tCon_X6_197 rfl) dX6_mark_27 ?_
      exact g_reti hR (oi_1 h) (congrArg (C ε) (oi_2 h)) dX6_mark_29
  · replace h := if_p b4 h
    refine g_ldc hX (v := -1000000001) (zu tCon_X6_59 rfl) dX6_mark_7 ?_
    exact g_reti hR (oi_1 h) (congrArg (C ε) (oi_2 h)) dX6_mark_9
theorem kX6_pour : mKV RX6 yX6_pour cX6_pour 2 (some .int) 1 := ⟨tIns_X6_pour, tSel_X6_pour, tIni_X6, tCod_X6_pour, by decide +kernel⟩
set_option maxHeartbeats 4000000 in
set_option maxRecDepth 100000 in
theorem ct_X6_pour (l : Launch) (D : va_G) (cy : Nat → ClassId) (Z : (Nat → Prop) → State → Heap → Prop) (hzo : zOK Z) {aStr aByt : Nat → Nat} (hzs : zSt Z aStr aByt) {q : Nat → Nat} {C : Ev → Sg → va_W} (hC : cLens cy q C) (ε : Ev) (z1 : Int32) (σ σ2 : Sg) (res : Int32) (h : fn_X6_pour ε z1 σ = some (res, σ2)) : GD l D cy Z yX6_pour (zW yX6_pour cX6_pour 2 (some .int)) { frames := 2, cells := 0, slots := 0, locals := 45 } [.ref (sAd ε (0)), .int (z1)] (C ε σ) (some (.int res)) (C ε σ2) 0 0 := by
  refine g_entry (cc := cX6_pour) (maxL := 2) (by decide) rfl (Nat.le_of_ble_eq_true rfl) ?_
  intro κ hN hX hR
  have hX : GX κ cy Z cX6_pour (Cond.code yX6_pour cX6_pour 2 (some .int) :: zT) RX6 { frames := 2, cells := 0, slots := 0, locals := 45 } := hX
  show GW κ 0 0 (C ε σ) 0 [(0, .ref (sAd ε (0))), (1, .int (z1))] []
  refine g_iload_n hX 1 rfl rfl dX6_pour_0 ?_
  obtain ⟨y1, e1, h⟩ := o1_some h
  refine s_call hX hzo [.int (z1)] [] (ct_X6_isSheet _ _ _ _ hzo hzs _ z1 _ e1) kX6_isSheet tMet_X6_191 rfl rfl (Nat.le_of_ble_eq_true rfl) (Nat.le_of_ble_eq_true rfl) ⟨Nat.le_of_ble_eq_true rfl, Nat.le_of_ble_eq_true rfl⟩ rfl rfl (Nat.le_of_ble_eq_true rfl) dX6_pour_1 ?_
  refine g_if_ne hX 10 (by decide) dX6_pour_4 (fun b4 => ?_) (fun b4 => ?_)
  · replace h := if_n b4 h
    refine g_aload_n hX 0 rfl rfl dX6_pour_10 ?_
    refine c_get6 hX hC rfl 4 (by decide) rfl tFld_X6_31 rfl dX6_pour_11 ?_
    refine g_iload_n hX 1 rfl rfl dX6_pour_14 ?_
    obtain ⟨g1, h⟩ := gd_some h
    refine c_aald hX hC (kq_X6_1 rfl) rfl g1 (v := .ref (sAd ε (80 + 2 * z1.toNatClampNeg))) rfl dX6_pour_15 ?_
    refine c_get2 hX hC (kr_X6 rfl (vin_lt g1)) 1 (by decide) rfl tFld_X6_194 rfl dX6_pour_16 ?_
    refine g_iconst hX (v := -1) (by decide) dX6_pour_19 ?_
    refine g_icmp_ne hX 26 (by decide) dX6_pour_20 (fun b20 => ?_) (fun b20 => ?_)
    · replace h := if_n b20 h
      refine g_aload_n hX 0 rfl rfl dX6_pour_26 ?_
      refine c_get6 hX hC rfl 0 (by decide) rfl tFld_X6_10 rfl dX6_pour_27 ?_
      refine g_aload_n hX 0 rfl rfl dX6_pour_30 ?_
      refine c_get6 hX hC rfl 4 (by decide) rfl tFld_X6_31 rfl dX6_pour_31 ?_
      refine g_iload_n hX 1 rfl rfl dX6_pour_34 ?_
      refine c_aald hX hC (kq_X6_1 rfl) rfl g1 (v := .ref (sAd ε (80 + 2 * z1.toNatClampNeg))) rfl dX6_pour_35 ?_
      obtain ⟨y36, τ36, e36, h⟩ := ob_some h
      refine c_call4 hX hC hzo (kst_now rfl) [.ref (sAd ε (80 + 2 * z1.toNatClampNeg))] [] (ct_X4_takeWalls _ _ _ _ hzo hzs hC ε 16 (kst_now rfl) (80 + 2 * z1.toNatClampNeg) (kr_X6 rfl (vin_lt g1)) σ _ _ e36) kX4_takeWalls tMet_X6_265 rfl rfl (Nat.le_of_ble_eq_true rfl) (Nat.le_of_ble_eq_true rfl) ⟨Nat.le_of_ble_eq_true rfl, Nat.le_of_ble_eq_true rfl⟩ rfl rfl (Nat.le_of_ble_eq_true rfl) dX6_pour_36 ?_
      exact g_reti hR (oi_1 h) (congrArg (C ε) (oi_2 h)) dX6_pour_39
    · replace h := if_p b20 h
      refine g_ldc hX (v := -1000000011) (zu tCon_X6_197 rfl) dX6_pour_23 ?_
      exact g_reti hR (oi_1 h) (congrArg (C ε) (oi_2 h)) dX6_pour_25
  · replace h := if_p b4 h
    refine g_ldc hX (v := -1000000001) (zu tCon_X6_59 rfl) dX6_pour_7 ?_
    exact g_reti hR (oi_1 h) (congrArg (C ε) (oi_2 h)) dX6_pour_9
theorem kX6_reads : mKV RX6 yX6_reads cX6_reads 4 (some .int) 1 := ⟨tIns_X6_reads, tSel_X6_reads, tIni_X6, tCod_X6_reads, by decide +kernel⟩
set_option maxHeartbeats 4000000 in
set_option maxRecDepth 100000 in
theorem ct_X6_reads (l : Launch) (D : va_G) (cy : Nat → ClassId) (Z : (Nat → Prop) → State → Heap → Prop) (hzo : zOK Z) {aStr aByt : Nat → Nat} (hzs : zSt Z aStr aByt) {q : Nat → Nat} {C : Ev → Sg → va_W} (hC : cLens cy q C) (ε : Ev) (z1 : Int32) (σ σ2 : Sg) (res : Int32) (h : fn_X6_reads ε z1 σ = some (res, σ2)) : GD l D cy Z yX6_reads (zW yX6_reads cX6_reads 4 (some .int)) { frames := 1, cells := 0, slots := 0, locals := 21 } [.ref (sAd ε (0)), .int (z1)] (C ε σ) (some (.int res)) (C ε σ2) 0 0 := by
  refine g_entry (cc := cX6_reads) (maxL := 4) (by decide) rfl (Nat.le_of_ble_eq_true rfl) ?_
  intro κ hN hX hR
  have hX : GX κ cy Z cX6_reads (Cond.code yX6_reads cX6_reads 4 (some .int) :: zT) RX6 { frames := 1, cells := 0, slots := 0, locals := 21 } := hX
  have J86 : ∀ (σ : Sg) , fn_X6_reads_L86 ε z1  σ = some (res, σ2) → GW κ 0 0 (C ε σ) 86 [] [] := by
    intro σ h
    refine g_ldc hX (v := -1000000005) (zu tCon_X6_176 rfl) dX6_reads_86 ?_
    exact g_reti hR (oi_1 h) (congrArg (C ε) (oi_2 h)) dX6_reads_88
  have J80 : ∀ (slf : Nat → Int32 → Sg → Option (Int32 × Sg)) (hslf : ∀ (v2 : Nat) (v3 : Int32) (hv2 : isX2 v2) (σ : Sg) , slf v2 v3 σ = some (res, σ2) → GW κ 0 0 (C ε σ) 30 [(0, .ref (sAd ε (0))), (2, .ref (sAd ε (v2))), (3, .int (v3))] []) (k86 : Sg → Option (Int32 × Sg)) (hk86 : ∀ (σ : Sg) , k86  σ = some (res, σ2) → GW κ 0 0 (C ε σ) 86 [] []), ∀ (v2 : Nat) (v3 : Int32) (hv2 : isX2 v2) (σ : Sg) , fn_X6_reads_L80 ε z1 slf k86 v2 v3 σ = some (res, σ2) → GW κ 0 0 (C ε σ) 80 [(0, .ref (sAd ε (0))), (2, .ref (sAd ε (v2))), (3, .int (v3))] [] := by
    intro slf hslf k86 hk86 v2 v3 hv2 σ h
    refine g_iinc (v := (v3 + nI 1)) (lv2 := [(3, .int ((v3 + nI 1))), (0, .ref (sAd ε (0))), (2, .ref (sAd ε (v2)))]) hX 2 3 4 hN rfl rfl (by decide) rfl dX6_reads_80 ?_
    refine g_goto hX 30 (by decide) dX6_reads_83 ?_
    refine g_lv [1, 2, 0] rfl ?_
    exact hslf v2 ((v3 + nI 1)) hv2 σ h
  have J78 : ∀ (slf : Nat → Int32 → Sg → Option (Int32 × Sg)) (hslf : ∀ (v2 : Nat) (v3 : Int32) (hv2 : isX2 v2) (σ : Sg) , slf v2 v3 σ = some (res, σ2) → GW κ 0 0 (C ε σ) 30 [(0, .ref (sAd ε (0))), (2, .ref (sAd ε (v2))), (3, .int (v3))] []) (k86 : Sg → Option (Int32 × Sg)) (hk86 : ∀ (σ : Sg) , k86  σ = some (res, σ2) → GW κ 0 0 (C ε σ) 86 [] []), ∀ (v3 : Int32) (σ : Sg) , fn_X6_reads_L78 ε z1 slf k86 v3 σ = some (res, σ2) → GW κ 0 0 (C ε σ) 78 [(3, .int (v3))] [] := by
    intro slf hslf k86 hk86 v3 σ h
    refine g_iload_n hX 0 rfl rfl dX6_reads_78 ?_
    exact g_reti hR (oi_1 h) (congrArg (C ε) (oi_2 h)) dX6_reads_79
  have J30 : ∀ (k86 : Sg → Option (Int32 × Sg)) (hk86 : ∀ (σ : Sg) , k86  σ = some (res, σ2) → GW κ 0 0 (C ε σ) 86 [] []) (fuel : Nat), ∀ (v2 : Nat) (v3 : Int32) (hv2 : isX2 v2) (σ : Sg) , fn_X6_reads_L30 ε z1 k86 fuel v2 v3 σ = some (res, σ2) → GW κ 0 0 (C ε σ) 30 [(0, .ref (sAd ε (0))), (2, .ref (sAd ε (v2))), (3, .int (v3))] [] := by
    intro k86 hk86 fuel
    induction fuel with
    | zero => intro v2 v3 hv2 σ h; cases (show none = some (res, σ2) from h)
    | succ fuel ih =>
      intro v2 v3 hv2 σ h
      replace h : (if σ.1 v2 2 ≤ v3 then (k86  σ) else (ob (fn_X2_isNumber ε v2 v3 σ) (fun y40 τ40 => (if y40 = 0 then ((fn_X6_reads_L80 ε z1 (fn_X6_reads_L30 ε z1 k86 fuel) k86) v2 v3 τ40) else (if τ40.1 16 6 ≤ v3 then ((fn_X6_reads_L78 ε z1 (fn_X6_reads_L30 ε z1 k86 fuel) k86) v3 τ40) else (if ¬ (v3 < 0 ∨ 24 ≤ v3.toNatClampNeg) then (if ¬ (v3 < 0 ∨ 9 ≤ v3.toNatClampNeg) then (if τ40.1 (v2 + 1) v3.toNatClampNeg = τ40.1 (23 + v3.toNatClampNeg) 2 then ((fn_X6_reads_L80 ε z1 (fn_X6_reads_L30 ε z1 k86 fuel) k86) v2 v3 τ40) else ((fn_X6_reads_L78 ε z1 (fn_X6_reads_L30 ε z1 k86 fuel) k86) v3 τ40)) else none) else none)))))) = some (res, σ2) := h
      refine g_iload_n hX 2 rfl rfl dX6_reads_30 ?_
      refine g_aload_n hX 1 rfl rfl dX6_reads_31 ?_
      refine c_get2 hX hC hv2 2 (by decide) rfl tFld_X6_268 rfl dX6_reads_32 ?_
      refine g_icmp_ge hX 86 (by decide) dX6_reads_35 (fun b35 => ?_) (fun b35 => ?_)
      · replace h := if_p b35 h
        refine g_lv [] rfl ?_
        exact hk86   σ h
      · replace h := if_n b35 h
        refine g_aload_n hX 1 rfl rfl dX6_reads_38 ?_
        refine g_iload_n hX 2 rfl rfl dX6_reads_39 ?_
        obtain ⟨y40, τ40, e40, h⟩ := ob_some h
        refine c_call2 hX hC hzo hv2 [.int (v3)] [] (ct_X2_isNumber _ _ _ _ hzo hzs hC ε v2 hv2 v3 σ _ _ e40) kX2_isNumber tMet_X6_269 rfl rfl (Nat.le_of_ble_eq_true rfl) (Nat.le_of_ble_eq_true rfl) ⟨Nat.le_of_ble_eq_true rfl, Nat.le_of_ble_eq_true rfl⟩ rfl rfl (Nat.le_of_ble_eq_true rfl) dX6_reads_40 ?_
        refine g_if_eq hX 80 (by decide) dX6_reads_43 (fun b43 => ?_) (fun b43 => ?_)
        · replace h := if_p b43 h
          exact (J80 (fn_X6_reads_L30 ε z1 k86 fuel) ih k86 hk86) v2 v3 hv2 τ40 h
        · replace h := if_n b43 h
          refine g_iload_n hX 2 rfl rfl dX6_reads_46 ?_
          refine g_aload_n hX 0 rfl rfl dX6_reads_47 ?_
          refine c_get6 hX hC rfl 0 (by decide) rfl tFld_X6_10 rfl dX6_reads_48 ?_
          refine c_get4 hX hC (kst_now rfl) 6 (by decide) rfl tFld_X6_60 rfl dX6_reads_51 ?_
          refine g_icmp_ge hX 78 (by decide) dX6_reads_54 (fun b54 => ?_) (fun b54 => ?_)
          · replace h := if_p b54 h
            refine g_lv [2] rfl ?_
            exact (J78 (fn_X6_reads_L30 ε z1 k86 fuel) ih k86 hk86) v3  τ40 h
          · replace h := if_n b54 h
            refine g_aload_n hX 1 rfl rfl dX6_reads_57 ?_
            refine c_get2 hX hC hv2 0 (by decide) rfl tFld_X6_260 rfl dX6_reads_58 ?_
            refine g_iload_n hX 2 rfl rfl dX6_reads_61 ?_
            obtain ⟨g1, h⟩ := gd_some h
            refine c_ald hX hC (ka_X2_1 hv2) g1 dX6_reads_62 ?_
            refine g_aload_n hX 0 rfl rfl dX6_reads_63 ?_
            refine c_get6 hX hC rfl 0 (by decide) rfl tFld_X6_10 rfl dX6_reads_64 ?_
            refine c_get4 hX hC (kst_now rfl) 0 (by decide) rfl tFld_X6_72 rfl dX6_reads_67 ?_
            refine g_iload_n hX 2 rfl rfl dX6_reads_70 ?_
            obtain ⟨g2, h⟩ := gd_some h
            refine c_aald hX hC (kq_X4_1 (kst_now rfl)) rfl g2 (v := .ref (sAd ε (23 + v3.toNatClampNeg))) rfl dX6_reads_71 ?_
            refine c_get0 hX hC (kh_X4 (kst_now rfl) (vin_lt g2)) 2 (by decide) rfl tFld_X6_170 rfl dX6_reads_72 ?_
            refine g_icmp_eq hX 80 (by decide) dX6_reads_75 (fun b75 => ?_) (fun b75 => ?_)
            · replace h := if_p b75 h
              exact (J80 (fn_X6_reads_L30 ε z1 k86 fuel) ih k86 hk86) v2 v3 hv2 τ40 h
            · replace h := if_n b75 h
              refine g_lv [2] rfl ?_
              exact (J78 (fn_X6_reads_L30 ε z1 k86 fuel) ih k86 hk86) v3  τ40 h
  show GW κ 0 0 (C ε σ) 0 [(0, .ref (sAd ε (0))), (1, .int (z1))] []
  refine g_iload_n hX 1 rfl rfl dX6_reads_0 ?_
  obtain ⟨y1, e1, h⟩ := o1_some h
  refine s_call hX hzo [.int (z1)] [] (ct_X6_isSheet _ _ _ _ hzo hzs _ z1 _ e1) kX6_isSheet tMet_X6_191 rfl rfl (Nat.le_of_ble_eq_true rfl) (Nat.le_of_ble_eq_true rfl) ⟨Nat.le_of_ble_eq_true rfl, Nat.le_of_ble_eq_true rfl⟩ rfl rfl (Nat.le_of_ble_eq_true rfl) dX6_reads_1 ?_
  refine g_if_ne hX 10 (by decide) dX6_reads_4 (fun b4 => ?_) (fun b4 => ?_)
  · replace h := if_n b4 h
    refine g_aload_n hX 0 rfl rfl dX6_reads_10 ?_
    refine c_get6 hX hC rfl 4 (by decide) rfl tFld_X6_31 rfl dX6_reads_11 ?_
    refine g_iload_n hX 1 rfl rfl dX6_reads_14 ?_
    obtain ⟨g3, h⟩ := gd_some h
    refine c_aald hX hC (kq_X6_1 rfl) rfl g3 (v := .ref (sAd ε (80 + 2 * z1.toNatClampNeg))) rfl dX6_reads_15 ?_
    refine g_astore_n (lv2 := [(2, .ref (sAd ε (80 + 2 * z1.toNatClampNeg))), (0, .ref (sAd ε (0))), (1, .int (z1))]) hX 2 4 hN rfl (by decide) rfl dX6_reads_16 ?_
    refine g_aload_n hX 0 rfl rfl dX6_reads_17 ?_
    refine c_get2 hX hC (kr_X6 rfl (vin_lt g3)) 1 (by decide) rfl tFld_X6_194 rfl dX6_reads_18 ?_
    refine g_iconst hX (v := -1) (by decide) dX6_reads_21 ?_
    refine g_icmp_ne hX 28 (by decide) dX6_reads_22 (fun b22 => ?_) (fun b22 => ?_)
    · replace h := if_n b22 h
      refine g_iconst hX (v := nI 0) rfl dX6_reads_28 ?_
      refine g_istore_n (lv2 := [(3, .int (nI 0)), (2, .ref (sAd ε (80 + 2 * z1.toNatClampNeg))), (0, .ref (sAd ε (0))), (1, .int (z1))]) hX 3 4 hN rfl (by decide) rfl dX6_reads_29 ?_
      refine g_lv [2, 1, 0] rfl ?_
      exact (J30 (fn_X6_reads_L86 ε z1) J86 4000) (80 + 2 * z1.toNatClampNeg) (nI 0) (kr_X6 rfl (vin_lt g3)) σ h
    · replace h := if_p b22 h
      refine g_ldc hX (v := -1000000011) (zu tCon_X6_197 rfl) dX6_reads_25 ?_
      exact g_reti hR (oi_1 h) (congrArg (C ε) (oi_2 h)) dX6_reads_27
  · replace h := if_p b4 h
    refine g_ldc hX (v := -1000000001) (zu tCon_X6_59 rfl) dX6_reads_7 ?_
    exact g_reti hR (oi_1 h) (congrArg (C ε) (oi_2 h)) dX6_reads_9
theorem kX6_copy : mKV RX6 yX6_copy cX6_copy 8 (some .int) 5 := ⟨tIns_X6_copy, tSel_X6_copy, tIni_X6, tCod_X6_copy, by decide +kernel⟩
set_option maxHeartbeats 4000000 in
set_option maxRecDepth 100000 in
theorem ct_X6_copy (l : Launch) (D : va_G) (cy : Nat → ClassId) (Z : (Nat → Prop) → State → Heap → Prop) (hzo : zOK Z) {aStr aByt : Nat → Nat} (hzs : zSt Z aStr aByt) {q : Nat → Nat} {C : Ev → Sg → va_W} (hC : cLens cy q C) (ε : Ev) (z1 : Int32) (z2 : Int32) (z3 : Int32) (z4 : Int32) (z5 : Int32) (σ σ2 : Sg) (res : Int32) (h : fn_X6_copy ε z1 z2 z3 z4 z5 σ = some (res, σ2)) : GD l D cy Z yX6_copy (zW yX6_copy cX6_copy 8 (some .int)) { frames := 1, cells := 0, slots := 0, locals := 60 } [.ref (sAd ε (0)), .int (z1), .int (z2), .int (z3), .int (z4), .int (z5)] (C ε σ) (some (.int res)) (C ε σ2) 0 0 := by
  refine g_entry (cc := cX6_copy) (maxL := 8) (by decide) rfl (Nat.le_of_ble_eq_true rfl) ?_
  intro κ hN hX hR
  have hX : GX κ cy Z cX6_copy (Cond.code yX6_copy cX6_copy 8 (some .int) :: zT) RX6 { frames := 1, cells := 0, slots := 0, locals := 60 } := hX
  have J93 : ∀ (σ : Sg) , fn_X6_copy_L93 ε z1 z2 z3 z4 z5  σ = some (res, σ2) → GW κ 0 0 (C ε σ) 93 [] [] := by
    intro σ h
    refine g_ldcw hX (v := -1000000013) (zu tCon_X6_259 rfl) dX6_copy_93 ?_
    exact g_reti hR (oi_1 h) (congrArg (C ε) (oi_2 h)) dX6_copy_96
  have J51 : ∀ (σ : Sg) , fn_X6_copy_L51 ε z1 z2 z3 z4 z5  σ = some (res, σ2) → GW κ 0 0 (C ε σ) 51 [] [] := by
    intro σ h
    refine g_ldc hX (v := -1000000011) (zu tCon_X6_197 rfl) dX6_copy_51 ?_
    exact g_reti hR (oi_1 h) (congrArg (C ε) (oi_2 h)) dX6_copy_53
  have J14 : ∀ (σ : Sg) , fn_X6_copy_L14 ε z1 z2 z3 z4 z5  σ = some (res, σ2) → GW κ 0 0 (C ε σ) 14 [] [] := by
    intro σ h
    refine g_ldc hX (v := -1000000001) (zu tCon_X6_59 rfl) dX6_copy_14 ?_
    exact g_reti hR (oi_1 h) (congrArg (C ε) (oi_2 h)) dX6_copy_16
  show GW κ 0 0 (C ε σ) 0 [(0, .ref (sAd ε (0))), (1, .int (z1)), (2, .int (z2)), (3, .int (z3)), (4, .int (z4)), (5, .int (z5))] []
  refine g_iload_n hX 1 rfl rfl dX6_copy_0 ?_
  obtain ⟨y1, e1, h⟩ := o1_some h
  refine s_call hX hzo [.int (z1)] [] (ct_X6_isSheet _ _ _ _ hzo hzs _ z1 _ e1) kX6_isSheet tMet_X6_191 rfl rfl (Nat.le_of_ble_eq_true rfl) (Nat.le_of_ble_eq_true rfl) ⟨Nat.le_of_ble_eq_true rfl, Nat.le_of_ble_eq_true rfl⟩ rfl rfl (Nat.le_of_ble_eq_true rfl) dX6_copy_1 ?_
  refine g_if_eq hX 14 (by decide) dX6_copy_4 (fun b4 => ?_) (fun b4 => ?_)
  · replace h := if_p b4 h
    refine g_lv [] rfl ?_
    exact J14   σ h
  · replace h := if_n b4 h
    refine g_iload_n hX 3 rfl rfl dX6_copy_7 ?_
    obtain ⟨y8, e8, h⟩ := o1_some h
    refine s_call hX hzo [.int (z3)] [] (ct_X6_isSheet _ _ _ _ hzo hzs _ z3 _ e8) kX6_isSheet tMet_X6_191 rfl rfl (Nat.le_of_ble_eq_true rfl) (Nat.le_of_ble_eq_true rfl) ⟨Nat.le_of_ble_eq_true rfl, Nat.le_of_ble_eq_true rfl⟩ rfl rfl (Nat.le_of_ble_eq_true rfl) dX6_copy_8 ?_
    refine g_if_ne hX 17 (by decide) dX6_copy_11 (fun b11 => ?_) (fun b11 => ?_)
    · replace h := if_n b11 h
      refine g_aload_n hX 0 rfl rfl dX6_copy_17 ?_
      refine c_get6 hX hC rfl 4 (by decide) rfl tFld_X6_31 rfl dX6_copy_18 ?_
      refine g_iload_n hX 1 rfl rfl dX6_copy_21 ?_
      obtain ⟨g1, h⟩ := gd_some h
      refine c_aald hX hC (kq_X6_1 rfl) rfl g1 (v := .ref (sAd ε (80 + 2 * z1.toNatClampNeg))) rfl dX6_copy_22 ?_
      refine g_astore (lv2 := [(6, .ref (sAd ε (80 + 2 * z1.toNatClampNeg))), (0, .ref (sAd ε (0))), (1, .int (z1)), (2, .int (z2)), (3, .int (z3)), (4, .int (z4)), (5, .int (z5))]) hX 6 8 hN (by decide) rfl dX6_copy_23 ?_
      refine g_aload_n hX 1 rfl rfl dX6_copy_25 ?_
      refine c_get6 hX hC rfl 4 (by decide) rfl tFld_X6_31 rfl dX6_copy_26 ?_
      refine g_iload_n hX 4 rfl rfl dX6_copy_29 ?_
      obtain ⟨g2, h⟩ := gd_some h
      refine c_aald hX hC (kq_X6_1 rfl) rfl g2 (v := .ref (sAd ε (80 + 2 * z3.toNatClampNeg))) rfl dX6_copy_30 ?_
      refine g_astore (lv2 := [(7, .ref (sAd ε (80 + 2 * z3.toNatClampNeg))), (6, .ref (sAd ε (80 + 2 * z1.toNatClampNeg))), (0, .ref (sAd ε (0))), (1, .int (z1)), (2, .int (z2)), (3, .int (z3)), (4, .int (z4)), (5, .int (z5))]) hX 7 8 hN (by decide) rfl dX6_copy_31 ?_
      refine g_aload hX 1 rfl dX6_copy_33 ?_
      refine c_get2 hX hC (kr_X6 rfl (vin_lt g1)) 1 (by decide) rfl tFld_X6_194 rfl dX6_copy_35 ?_
      refine g_iconst hX (v := -1) (by decide) dX6_copy_38 ?_
      refine g_icmp_eq hX 51 (by decide) dX6_copy_39 (fun b39 => ?_) (fun b39 => ?_)
      · replace h := if_p b39 h
        refine g_lv [] rfl ?_
        exact J51   σ h
      · replace h := if_n b39 h
        refine g_aload hX 0 rfl dX6_copy_42 ?_
        refine c_get2 hX hC (kr_X6 rfl (vin_lt g2)) 1 (by decide) rfl tFld_X6_194 rfl dX6_copy_44 ?_
        refine g_iconst hX (v := -1) (by decide) dX6_copy_47 ?_
        refine g_icmp_ne hX 54 (by decide) dX6_copy_48 (fun b48 => ?_) (fun b48 => ?_)
        · replace h := if_n b48 h
          refine g_aload hX 1 rfl dX6_copy_54 ?_
          refine c_get2 hX hC (kr_X6 rfl (vin_lt g1)) 1 (by decide) rfl tFld_X6_194 rfl dX6_copy_56 ?_
          refine g_aload hX 0 rfl dX6_copy_59 ?_
          refine c_get2 hX hC (kr_X6 rfl (vin_lt g2)) 1 (by decide) rfl tFld_X6_194 rfl dX6_copy_61 ?_
          refine g_icmp_eq hX 70 (by decide) dX6_copy_64 (fun b64 => ?_) (fun b64 => ?_)
          · replace h := if_p b64 h
            refine g_aload hX 1 rfl dX6_copy_70 ?_
            refine g_iload_n hX 4 rfl rfl dX6_copy_72 ?_
            refine g_iload hX 7 rfl dX6_copy_73 ?_
            obtain ⟨y75, τ75, e75, h⟩ := ob_some h
            refine c_call2 hX hC hzo (kr_X6 rfl (vin_lt g1)) [.int (z2), .int (z5)] [] (ct_X2_hasPlaces _ _ _ _ hzo hzs hC ε (80 + 2 * z1.toNatClampNeg) (kr_X6 rfl (vin_lt g1)) z2 z5 σ _ _ e75) kX2_hasPlaces tMet_X6_272 rfl rfl (Nat.le_of_ble_eq_true rfl) (Nat.le_of_ble_eq_true rfl) ⟨Nat.le_of_ble_eq_true rfl, Nat.le_of_ble_eq_true rfl⟩ rfl rfl (Nat.le_of_ble_eq_true rfl) dX6_copy_75 ?_
            refine g_if_eq hX 93 (by decide) dX6_copy_78 (fun b78 => ?_) (fun b78 => ?_)
            · replace h := if_p b78 h
              refine g_lv [] rfl ?_
              exact J93   τ75 h
            · replace h := if_n b78 h
              refine g_aload hX 0 rfl dX6_copy_81 ?_
              refine g_iload hX 6 rfl dX6_copy_83 ?_
              refine g_iload hX 7 rfl dX6_copy_85 ?_
              obtain ⟨y87, τ87, e87, h⟩ := ob_some h
              refine c_call2 hX hC hzo (kr_X6 rfl (vin_lt g2)) [.int (z4), .int (z5)] [] (ct_X2_hasPlaces _ _ _ _ hzo hzs hC ε (80 + 2 * z3.toNatClampNeg) (kr_X6 rfl (vin_lt g2)) z4 z5 τ75 _ _ e87) kX2_hasPlaces tMet_X6_272 rfl rfl (Nat.le_of_ble_eq_true rfl) (Nat.le_of_ble_eq_true rfl) ⟨Nat.le_of_ble_eq_true rfl, Nat.le_of_ble_eq_true rfl⟩ rfl rfl (Nat.le_of_ble_eq_true rfl) dX6_copy_87 ?_
              refine g_if_ne hX 97 (by decide) dX6_copy_90 (fun b90 => ?_) (fun b90 => ?_)
              · replace h := if_n b90 h
                refine g_aload hX 1 rfl dX6_copy_97 ?_
                refine c_get2 hX hC (kr_X6 rfl (vin_lt g1)) 0 (by decide) rfl tFld_X6_260 rfl dX6_copy_99 ?_
                refine g_iload_n hX 4 rfl rfl dX6_copy_102 ?_
                refine g_aload hX 0 rfl dX6_copy_103 ?_
                refine c_get2 hX hC (kr_X6 rfl (vin_lt g2)) 0 (by decide) rfl tFld_X6_260 rfl dX6_copy_105 ?_
                refine g_iload hX 6 rfl dX6_copy_108 ?_
                refine g_iload hX 7 rfl dX6_copy_110 ?_
                obtain ⟨g3, h⟩ := gd_some h
                refine c_copy hX hC tMet_X6_275 (ka_X2_1 (kr_X6 rfl (vin_lt g1))) (ka_X2_1 (kr_X6 rfl (vin_lt g2))) g3 (Nat.le_of_ble_eq_true rfl) (Nat.le_of_ble_eq_true rfl) (Nat.le_of_ble_eq_true rfl) dX6_copy_112 ?_
                refine g_iload hX 7 rfl dX6_copy_115 ?_
                exact g_reti hR (oi_1 h) (congrArg (C ε) (oi_2 h)) dX6_copy_117
              · replace h := if_p b90 h
                refine g_lv [] rfl ?_
                exact J93   τ87 h
          · replace h := if_n b64 h
            refine g_ldc hX (v := -1000000012) (zu tCon_X6_111 rfl) dX6_copy_67 ?_
            exact g_reti hR (oi_1 h) (congrArg (C ε) (oi_2 h)) dX6_copy_69
        · replace h := if_p b48 h
          refine g_lv [] rfl ?_
          exact J51   σ h
    · replace h := if_p b11 h
      refine g_lv [] rfl ?_
      exact J14   σ h
theorem kX6_lay : mKV RX6 yX6_lay cX6_lay 6 (some .int) 3 := ⟨tIns_X6_lay, tSel_X6_lay, tIni_X6, tCod_X6_lay, by decide +kernel⟩
set_option maxHeartbeats 4000000 in
set_option maxRecDepth 100000 in
theorem ct_X6_lay (l : Launch) (D : va_G) (cy : Nat → ClassId) (Z : (Nat → Prop) → State → Heap → Prop) (hzo : zOK Z) {aStr aByt : Nat → Nat} (hzs : zSt Z aStr aByt) {q : Nat → Nat} {C : Ev → Sg → va_W} (hC : cLens cy q C) (ε : Ev) (z1 : Int32) (z2 : Int32) (z3 : Int32) (σ σ2 : Sg) (res : Int32) (h : fn_X6_lay ε z1 z2 z3 σ = some (res, σ2)) : GD l D cy Z yX6_lay (zW yX6_lay cX6_lay 6 (some .int)) { frames := 2, cells := 0, slots := 0, locals := 81 } [.ref (sAd ε (0)), .int (z1), .int (z2), .int (z3)] (C ε σ) (some (.int res)) (C ε σ2) 0 0 := by
  refine g_entry (cc := cX6_lay) (maxL := 6) (by decide) rfl (Nat.le_of_ble_eq_true rfl) ?_
  intro κ hN hX hR
  have hX : GX κ cy Z cX6_lay (Cond.code yX6_lay cX6_lay 6 (some .int) :: zT) RX6 { frames := 2, cells := 0, slots := 0, locals := 81 } := hX
  have J142 : ∀ (v5 : Int32) (σ : Sg) , fn_X6_lay_L142 ε z1 z2 z3 v5 σ = some (res, σ2) → GW κ 0 0 (C ε σ) 142 [(5, .int (v5))] [] := by
    intro v5 σ h
    refine g_iload hX 0 rfl dX6_lay_142 ?_
    exact g_reti hR (oi_1 h) (congrArg (C ε) (oi_2 h)) dX6_lay_144
  have J68 : ∀ (σ : Sg) , fn_X6_lay_L68 ε z1 z2 z3  σ = some (res, σ2) → GW κ 0 0 (C ε σ) 68 [(0, .ref (sAd ε (0))), (1, .int (z1)), (2, .int (z2)), (3, .int (z3))] [] := by
    intro σ h
    refine g_aload_n hX 0 rfl rfl dX6_lay_68 ?_
    refine c_get6 hX hC rfl 5 (by decide) rfl tFld_X6_37 rfl dX6_lay_69 ?_
    refine g_iload_n hX 1 rfl rfl dX6_lay_72 ?_
    obtain ⟨g1, h⟩ := gd_some h
    refine c_aald hX hC (kq_X6_2 rfl) rfl g1 (v := .ref (sAd ε (96 + 4 * z1.toNatClampNeg))) rfl dX6_lay_73 ?_
    refine g_astore (lv2 := [(4, .ref (sAd ε (96 + 4 * z1.toNatClampNeg))), (0, .ref (sAd ε (0))), (1, .int (z1)), (2, .int (z2)), (3, .int (z3))]) hX 4 6 hN (by decide) rfl dX6_lay_74 ?_
    refine g_aload hX 0 rfl dX6_lay_76 ?_
    refine c_get3 hX hC (ks_X6 rfl (vin_lt g1)) 0 (by decide) rfl tFld_X6_284 rfl dX6_lay_78 ?_
    refine g_istore (lv2 := [(5, .int (σ.1 (96 + 4 * z1.toNatClampNeg) 0)), (4, .ref (sAd ε (96 + 4 * z1.toNatClampNeg))), (0, .ref (sAd ε (0))), (1, .int (z1)), (2, .int (z2)), (3, .int (z3))]) hX 5 6 hN (by decide) rfl dX6_lay_81 ?_
    refine g_aload hX 1 rfl dX6_lay_83 ?_
    refine g_iload_n hX 4 rfl rfl dX6_lay_85 ?_
    refine c_put3 (ty := .int) hX hC (ks_X6 rfl (vin_lt g1)) 0 (by decide) (cs_X3 ε _ _ _).1 rfl (by decide +kernel) rfl rfl tFld_X6_284 rfl dX6_lay_86 ?_
    refine g_iload_n hX 4 rfl rfl dX6_lay_89 ?_
    refine g_iconst hX (v := nI 1) rfl dX6_lay_90 ?_
    refine g_icmp_ne hX 114 (by decide) dX6_lay_91 (fun b91 => ?_) (fun b91 => ?_)
    · replace h := if_n b91 h
      refine g_iload_n hX 4 rfl rfl dX6_lay_114 ?_
      refine g_iconst hX (v := nI 2) rfl dX6_lay_115 ?_
      refine g_icmp_ne hX 136 (by decide) dX6_lay_116 (fun b116 => ?_) (fun b116 => ?_)
      · replace h := if_n b116 h
        refine g_aload hX 1 rfl dX6_lay_136 ?_
        refine g_iload_n hX 5 rfl rfl dX6_lay_138 ?_
        refine c_put3 (ty := .int) hX hC (ks_X6 rfl (vin_lt g1)) 1 (by decide) (cs_X3 ε _ _ _).2 rfl (by decide +kernel) rfl rfl tFld_X6_302 rfl dX6_lay_139 ?_
        refine g_lv [0] rfl ?_
        exact J142 (σ.1 (96 + 4 * z1.toNatClampNeg) 0)  (pI (pI σ (96 + 4 * z1.toNatClampNeg) 0 z2) (96 + 4 * z1.toNatClampNeg) 1 z3) h
      · replace h := if_p b116 h
        refine g_aload hX 1 rfl dX6_lay_119 ?_
        refine c_get3 hX hC (ks_X6 rfl (vin_lt g1)) 3 (by decide) rfl tFld_X6_295 rfl dX6_lay_121 ?_
        refine g_aload_n hX 2 rfl rfl dX6_lay_124 ?_
        refine c_get6 hX hC rfl 4 (by decide) rfl tFld_X6_31 rfl dX6_lay_125 ?_
        refine g_iload_n hX 5 rfl rfl dX6_lay_128 ?_
        obtain ⟨g2, h⟩ := gd_some h
        refine c_aald hX hC (kq_X6_1 rfl) rfl g2 (v := .ref (sAd ε (80 + 2 * z3.toNatClampNeg))) rfl dX6_lay_129 ?_
        obtain ⟨y130, τ130, e130, h⟩ := ob_some h
        refine c_call2 hX hC hzo (kl_0 _ (ks_X6 rfl (vin_lt g1))).2 [.ref (sAd ε (80 + 2 * z3.toNatClampNeg))] [] (ct_X2_beLike _ _ _ _ hzo hzs hC ε (96 + 4 * z1.toNatClampNeg + 2) (kl_0 _ (ks_X6 rfl (vin_lt g1))).2 (80 + 2 * z3.toNatClampNeg) (kr_X6 rfl (vin_lt g2)) (pI σ (96 + 4 * z1.toNatClampNeg) 0 z2) _ _ e130) kX2_beLike tMet_X6_299 rfl rfl (Nat.le_of_ble_eq_true rfl) (Nat.le_of_ble_eq_true rfl) ⟨Nat.le_of_ble_eq_true rfl, Nat.le_of_ble_eq_true rfl⟩ rfl rfl (Nat.le_of_ble_eq_true rfl) dX6_lay_130 ?_
        refine g_goto hX 142 (by decide) dX6_lay_133 ?_
        refine g_lv [0] rfl ?_
        exact J142 (σ.1 (96 + 4 * z1.toNatClampNeg) 0)  τ130 h
    · replace h := if_p b91 h
      refine g_aload hX 1 rfl dX6_lay_94 ?_
      refine c_get3 hX hC (ks_X6 rfl (vin_lt g1)) 2 (by decide) rfl tFld_X6_287 rfl dX6_lay_96 ?_
      refine g_aload_n hX 2 rfl rfl dX6_lay_99 ?_
      refine c_get6 hX hC rfl 0 (by decide) rfl tFld_X6_10 rfl dX6_lay_100 ?_
      refine c_get4 hX hC (kst_now rfl) 0 (by decide) rfl tFld_X6_72 rfl dX6_lay_103 ?_
      refine g_iload_n hX 5 rfl rfl dX6_lay_106 ?_
      obtain ⟨g3, h⟩ := gd_some h
      refine c_aald hX hC (kq_X4_1 (kst_now rfl)) rfl g3 (v := .ref (sAd ε (23 + z3.toNatClampNeg))) rfl dX6_lay_107 ?_
      obtain ⟨y108, τ108, e108, h⟩ := ob_some h
      refine c_call0 hX hC hzo (kl_0 _ (ks_X6 rfl (vin_lt g1))).1 [.ref (sAd ε (23 + z3.toNatClampNeg))] [] (ct_X0_beLike _ _ _ _ hzo hzs hC ε (96 + 4 * z1.toNatClampNeg + 1) (kl_0 _ (ks_X6 rfl (vin_lt g1))).1 (23 + z3.toNatClampNeg) (kh_X4 (kst_now rfl) (vin_lt g3)) (pI σ (96 + 4 * z1.toNatClampNeg) 0 z2) _ _ e108) kX0_beLike tMet_X6_291 rfl rfl (Nat.le_of_ble_eq_true rfl) (Nat.le_of_ble_eq_true rfl) ⟨Nat.le_of_ble_eq_true rfl, Nat.le_of_ble_eq_true rfl⟩ rfl rfl (Nat.le_of_ble_eq_true rfl) dX6_lay_108 ?_
      refine g_goto hX 142 (by decide) dX6_lay_111 ?_
      refine g_lv [0] rfl ?_
      exact J142 (σ.1 (96 + 4 * z1.toNatClampNeg) 0)  τ108 h
  have J47 : ∀ (σ : Sg) , fn_X6_lay_L47 ε z1 z2 z3  σ = some (res, σ2) → GW κ 0 0 (C ε σ) 47 [(0, .ref (sAd ε (0))), (1, .int (z1)), (2, .int (z2)), (3, .int (z3))] [] := by
    intro σ h
    refine g_iload_n hX 2 rfl rfl dX6_lay_47 ?_
    refine g_iconst hX (v := nI 2) rfl dX6_lay_48 ?_
    refine g_icmp_ne hX 68 (by decide) dX6_lay_49 (fun b49 => ?_) (fun b49 => ?_)
    · replace h := if_n b49 h
      exact J68   σ h
    · replace h := if_p b49 h
      refine g_aload_n hX 0 rfl rfl dX6_lay_52 ?_
      refine c_get6 hX hC rfl 4 (by decide) rfl tFld_X6_31 rfl dX6_lay_53 ?_
      refine g_iload_n hX 3 rfl rfl dX6_lay_56 ?_
      obtain ⟨g4, h⟩ := gd_some h
      refine c_aald hX hC (kq_X6_1 rfl) rfl g4 (v := .ref (sAd ε (80 + 2 * z3.toNatClampNeg))) rfl dX6_lay_57 ?_
      refine c_get2 hX hC (kr_X6 rfl (vin_lt g4)) 1 (by decide) rfl tFld_X6_194 rfl dX6_lay_58 ?_
      refine g_iconst hX (v := -1) (by decide) dX6_lay_61 ?_
      refine g_icmp_ne hX 68 (by decide) dX6_lay_62 (fun b62 => ?_) (fun b62 => ?_)
      · replace h := if_n b62 h
        exact J68   σ h
      · replace h := if_p b62 h
        refine g_ldc hX (v := -1000000011) (zu tCon_X6_197 rfl) dX6_lay_65 ?_
        exact g_reti hR (oi_1 h) (congrArg (C ε) (oi_2 h)) dX6_lay_67
  have J44 : ∀ (σ : Sg) , fn_X6_lay_L44 ε z1 z2 z3  σ = some (res, σ2) → GW κ 0 0 (C ε σ) 44 [] [] := by
    intro σ h
    refine g_ldc hX (v := -1000000001) (zu tCon_X6_59 rfl) dX6_lay_44 ?_
    exact g_reti hR (oi_1 h) (congrArg (C ε) (oi_2 h)) dX6_lay_46
  have J32 : ∀ (σ : Sg) , fn_X6_lay_L32 ε z1 z2 z3  σ = some (res, σ2) → GW κ 0 0 (C ε σ) 32 [(0, .ref (sAd ε (0))), (1, .int (z1)), (2, .int (z2)), (3, .int (z3))] [] := by
    intro σ h
    refine g_iload_n hX 2 rfl rfl dX6_lay_32 ?_
    refine g_iconst hX (v := nI 2) rfl dX6_lay_33 ?_
    refine g_icmp_ne hX 47 (by decide) dX6_lay_34 (fun b34 => ?_) (fun b34 => ?_)
    · replace h := if_n b34 h
      exact J47   σ h
    · replace h := if_p b34 h
      refine g_iload_n hX 3 rfl rfl dX6_lay_37 ?_
      obtain ⟨y38, e38, h⟩ := o1_some h
      refine s_call hX hzo [.int (z3)] [] (ct_X6_isSheet _ _ _ _ hzo hzs _ z3 _ e38) kX6_isSheet tMet_X6_191 rfl rfl (Nat.le_of_ble_eq_true rfl) (Nat.le_of_ble_eq_true rfl) ⟨Nat.le_of_ble_eq_true rfl, Nat.le_of_ble_eq_true rfl⟩ rfl rfl (Nat.le_of_ble_eq_true rfl) dX6_lay_38 ?_
      refine g_if_ne hX 47 (by decide) dX6_lay_41 (fun b41 => ?_) (fun b41 => ?_)
      · replace h := if_n b41 h
        exact J47   σ h
      · replace h := if_p b41 h
        refine g_lv [] rfl ?_
        exact J44   σ h
  have J16 : ∀ (σ : Sg) , fn_X6_lay_L16 ε z1 z2 z3  σ = some (res, σ2) → GW κ 0 0 (C ε σ) 16 [] [] := by
    intro σ h
    refine g_ldc hX (v := -1000000001) (zu tCon_X6_59 rfl) dX6_lay_16 ?_
    exact g_reti hR (oi_1 h) (congrArg (C ε) (oi_2 h)) dX6_lay_18
  show GW κ 0 0 (C ε σ) 0 [(0, .ref (sAd ε (0))), (1, .int (z1)), (2, .int (z2)), (3, .int (z3))] []
  refine g_iload_n hX 1 rfl rfl dX6_lay_0 ?_
  obtain ⟨y1, e1, h⟩ := o1_some h
  refine s_call hX hzo [.int (z1)] [] (ct_X6_isSlot _ _ _ _ hzo hzs _ z1 _ e1) kX6_isSlot tMet_X6_281 rfl rfl (Nat.le_of_ble_eq_true rfl) (Nat.le_of_ble_eq_true rfl) ⟨Nat.le_of_ble_eq_true rfl, Nat.le_of_ble_eq_true rfl⟩ rfl rfl (Nat.le_of_ble_eq_true rfl) dX6_lay_1 ?_
  refine g_if_eq hX 16 (by decide) dX6_lay_4 (fun b4 => ?_) (fun b4 => ?_)
  · replace h := if_p b4 h
    refine g_lv [] rfl ?_
    exact J16   σ h
  · replace h := if_n b4 h
    refine g_iload_n hX 2 rfl rfl dX6_lay_7 ?_
    refine g_if_lt hX 16 (by decide) dX6_lay_8 (fun b8 => ?_) (fun b8 => ?_)
    · replace h := if_p b8 h
      refine g_lv [] rfl ?_
      exact J16   σ h
    · replace h := if_n b8 h
      refine g_iload_n hX 2 rfl rfl dX6_lay_11 ?_
      refine g_iconst hX (v := nI 3) rfl dX6_lay_12 ?_
      refine g_icmp_le hX 19 (by decide) dX6_lay_13 (fun b13 => ?_) (fun b13 => ?_)
      · replace h := if_p b13 h
        refine g_iload_n hX 2 rfl rfl dX6_lay_19 ?_
        refine g_iconst hX (v := nI 1) rfl dX6_lay_20 ?_
        refine g_icmp_ne hX 32 (by decide) dX6_lay_21 (fun b21 => ?_) (fun b21 => ?_)
        · replace h := if_n b21 h
          exact J32   σ h
        · replace h := if_p b21 h
          refine g_aload_n hX 0 rfl rfl dX6_lay_24 ?_
          refine g_iload_n hX 3 rfl rfl dX6_lay_25 ?_
          obtain ⟨y26, τ26, e26, h⟩ := ob_some h
          refine c_call6 hX hC hzo rfl [.int (z3)] [] (ct_X6_isHouse _ _ _ _ hzo hzs hC ε z3 σ _ _ e26) kX6_isHouse tMet_X6_68 rfl rfl (Nat.le_of_ble_eq_true rfl) (Nat.le_of_ble_eq_true rfl) ⟨Nat.le_of_ble_eq_true rfl, Nat.le_of_ble_eq_true rfl⟩ rfl rfl (Nat.le_of_ble_eq_true rfl) dX6_lay_26 ?_
          refine g_if_eq hX 44 (by decide) dX6_lay_29 (fun b29 => ?_) (fun b29 => ?_)
          · replace h := if_p b29 h
            refine g_lv [] rfl ?_
            exact J44   τ26 h
          · replace h := if_n b29 h
            exact J32   τ26 h
      · replace h := if_n b13 h
        refine g_lv [] rfl ?_
        exact J16   σ h
theorem kX6_ask : mKV RX6 yX6_ask cX6_ask 4 (some .int) 2 := ⟨tIns_X6_ask, tSel_X6_ask, tIni_X6, tCod_X6_ask, by decide +kernel⟩
set_option maxHeartbeats 4000000 in
set_option maxRecDepth 100000 in
theorem ct_X6_ask (l : Launch) (D : va_G) (cy : Nat → ClassId) (Z : (Nat → Prop) → State → Heap → Prop) (hzo : zOK Z) {aStr aByt : Nat → Nat} (hzs : zSt Z aStr aByt) {q : Nat → Nat} {C : Ev → Sg → va_W} (hC : cLens cy q C) (ε : Ev) (z1 : Int32) (z2 : Int32) (σ σ2 : Sg) (res : Int32) (h : fn_X6_ask ε z1 z2 σ = some (res, σ2)) : GD l D cy Z yX6_ask (zW yX6_ask cX6_ask 4 (some .int)) { frames := 1, cells := 0, slots := 0, locals := 23 } [.ref (sAd ε (0)), .int (z1), .int (z2)] (C ε σ) (some (.int res)) (C ε σ2) 0 0 := by
  refine g_entry (cc := cX6_ask) (maxL := 4) (by decide) rfl (Nat.le_of_ble_eq_true rfl) ?_
  intro κ hN hX hR
  have hX : GX κ cy Z cX6_ask (Cond.code yX6_ask cX6_ask 4 (some .int) :: zT) RX6 { frames := 1, cells := 0, slots := 0, locals := 23 } := hX
  have J53 : ∀ (σ : Sg) , fn_X6_ask_L53 ε z1 z2  σ = some (res, σ2) → GW κ 0 0 (C ε σ) 53 [] [] := by
    intro σ h
    refine g_ldc hX (v := -1000000012) (zu tCon_X6_111 rfl) dX6_ask_53 ?_
    exact g_reti hR (oi_1 h) (congrArg (C ε) (oi_2 h)) dX6_ask_55
  have J14 : ∀ (σ : Sg) , fn_X6_ask_L14 ε z1 z2  σ = some (res, σ2) → GW κ 0 0 (C ε σ) 14 [] [] := by
    intro σ h
    refine g_ldc hX (v := -1000000001) (zu tCon_X6_59 rfl) dX6_ask_14 ?_
    exact g_reti hR (oi_1 h) (congrArg (C ε) (oi_2 h)) dX6_ask_16
  show GW κ 0 0 (C ε σ) 0 [(0, .ref (sAd ε (0))), (1, .int (z1)), (2, .int (z2))] []
  refine g_iload_n hX 1 rfl rfl dX6_ask_0 ?_
  obtain ⟨y1, e1, h⟩ := o1_some h
  refine s_call hX hzo [.int (z1)] [] (ct_X6_isSlot _ _ _ _ hzo hzs _ z1 _ e1) kX6_isSlot tMet_X6_281 rfl rfl (Nat.le_of_ble_eq_true rfl) (Nat.le_of_ble_eq_true rfl) ⟨Nat.le_of_ble_eq_true rfl, Nat.le_of_ble_eq_true rfl⟩ rfl rfl (Nat.le_of_ble_eq_true rfl) dX6_ask_1 ?_
  refine g_if_eq hX 14 (by decide) dX6_ask_4 (fun b4 => ?_) (fun b4 => ?_)
  · replace h := if_p b4 h
    refine g_lv [] rfl ?_
    exact J14   σ h
  · replace h := if_n b4 h
    refine g_iload_n hX 2 rfl rfl dX6_ask_7 ?_
    obtain ⟨y8, e8, h⟩ := o1_some h
    refine s_call hX hzo [.int (z2)] [] (ct_X6_isKind _ _ _ _ hzo hzs _ z2 _ e8) kX6_isKind tMet_X6_102 rfl rfl (Nat.le_of_ble_eq_true rfl) (Nat.le_of_ble_eq_true rfl) ⟨Nat.le_of_ble_eq_true rfl, Nat.le_of_ble_eq_true rfl⟩ rfl rfl (Nat.le_of_ble_eq_true rfl) dX6_ask_8 ?_
    refine g_if_ne hX 17 (by decide) dX6_ask_11 (fun b11 => ?_) (fun b11 => ?_)
    · replace h := if_n b11 h
      refine g_aload_n hX 0 rfl rfl dX6_ask_17 ?_
      refine c_get6 hX hC rfl 5 (by decide) rfl tFld_X6_37 rfl dX6_ask_18 ?_
      refine g_iload_n hX 1 rfl rfl dX6_ask_21 ?_
      obtain ⟨g1, h⟩ := gd_some h
      refine c_aald hX hC (kq_X6_2 rfl) rfl g1 (v := .ref (sAd ε (96 + 4 * z1.toNatClampNeg))) rfl dX6_ask_22 ?_
      refine g_astore_n (lv2 := [(3, .ref (sAd ε (96 + 4 * z1.toNatClampNeg))), (0, .ref (sAd ε (0))), (1, .int (z1)), (2, .int (z2))]) hX 3 4 hN rfl (by decide) rfl dX6_ask_23 ?_
      refine g_aload_n hX 0 rfl rfl dX6_ask_24 ?_
      refine c_get3 hX hC (ks_X6 rfl (vin_lt g1)) 0 (by decide) rfl tFld_X6_284 rfl dX6_ask_25 ?_
      refine g_if_ne hX 34 (by decide) dX6_ask_28 (fun b28 => ?_) (fun b28 => ?_)
      · replace h := if_n b28 h
        refine g_aload_n hX 0 rfl rfl dX6_ask_34 ?_
        refine c_get3 hX hC (ks_X6 rfl (vin_lt g1)) 0 (by decide) rfl tFld_X6_284 rfl dX6_ask_35 ?_
        refine g_iconst hX (v := nI 1) rfl dX6_ask_38 ?_
        refine g_icmp_ne hX 53 (by decide) dX6_ask_39 (fun b39 => ?_) (fun b39 => ?_)
        · replace h := if_n b39 h
          refine g_lv [] rfl ?_
          exact J53   σ h
        · replace h := if_p b39 h
          refine g_aload_n hX 0 rfl rfl dX6_ask_42 ?_
          refine c_get3 hX hC (ks_X6 rfl (vin_lt g1)) 2 (by decide) rfl tFld_X6_287 rfl dX6_ask_43 ?_
          refine g_iload_n hX 3 rfl rfl dX6_ask_46 ?_
          obtain ⟨y47, τ47, e47, h⟩ := ob_some h
          refine c_call0 hX hC hzo (kl_0 _ (ks_X6 rfl (vin_lt g1))).1 [.int (z2)] [] (ct_X0_isOf _ _ _ _ hzo hzs hC ε (96 + 4 * z1.toNatClampNeg + 1) (kl_0 _ (ks_X6 rfl (vin_lt g1))).1 z2 σ _ _ e47) kX0_isOf tMet_X6_105 rfl rfl (Nat.le_of_ble_eq_true rfl) (Nat.le_of_ble_eq_true rfl) ⟨Nat.le_of_ble_eq_true rfl, Nat.le_of_ble_eq_true rfl⟩ rfl rfl (Nat.le_of_ble_eq_true rfl) dX6_ask_47 ?_
          refine g_if_ne hX 56 (by decide) dX6_ask_50 (fun b50 => ?_) (fun b50 => ?_)
          · replace h := if_n b50 h
            refine g_aload_n hX 0 rfl rfl dX6_ask_56 ?_
            refine c_get3 hX hC (ks_X6 rfl (vin_lt g1)) 2 (by decide) rfl tFld_X6_287 rfl dX6_ask_57 ?_
            obtain ⟨y60, τ60, e60, h⟩ := ob_some h
            refine c_call0 hX hC hzo (kl_0 _ (ks_X6 rfl (vin_lt g1))).1 [] [] (ct_X0_worth _ _ _ _ hzo hzs hC ε (96 + 4 * z1.toNatClampNeg + 1) (kl_0 _ (ks_X6 rfl (vin_lt g1))).1 τ47 _ _ e60) kX0_worth tMet_X6_95 rfl rfl (Nat.le_of_ble_eq_true rfl) (Nat.le_of_ble_eq_true rfl) ⟨Nat.le_of_ble_eq_true rfl, Nat.le_of_ble_eq_true rfl⟩ rfl rfl (Nat.le_of_ble_eq_true rfl) dX6_ask_60 ?_
            exact g_reti hR (oi_1 h) (congrArg (C ε) (oi_2 h)) dX6_ask_63
          · replace h := if_p b50 h
            refine g_lv [] rfl ?_
            exact J53   τ47 h
      · replace h := if_p b28 h
        refine g_ldc hX (v := -1000000011) (zu tCon_X6_197 rfl) dX6_ask_31 ?_
        exact g_reti hR (oi_1 h) (congrArg (C ε) (oi_2 h)) dX6_ask_33
    · replace h := if_p b11 h
      refine g_lv [] rfl ?_
      exact J14   σ h
theorem kX6_item : mKV RX6 yX6_item cX6_item 4 (some .int) 2 := ⟨tIns_X6_item, tSel_X6_item, tIni_X6, tCod_X6_item, by decide +kernel⟩
set_option maxHeartbeats 4000000 in
set_option maxRecDepth 100000 in
theorem ct_X6_item (l : Launch) (D : va_G) (cy : Nat → ClassId) (Z : (Nat → Prop) → State → Heap → Prop) (hzo : zOK Z) {aStr aByt : Nat → Nat} (hzs : zSt Z aStr aByt) {q : Nat → Nat} {C : Ev → Sg → va_W} (hC : cLens cy q C) (ε : Ev) (z1 : Int32) (z2 : Int32) (σ σ2 : Sg) (res : Int32) (h : fn_X6_item ε z1 z2 σ = some (res, σ2)) : GD l D cy Z yX6_item (zW yX6_item cX6_item 4 (some .int)) { frames := 1, cells := 0, slots := 0, locals := 21 } [.ref (sAd ε (0)), .int (z1), .int (z2)] (C ε σ) (some (.int res)) (C ε σ2) 0 0 := by
  refine g_entry (cc := cX6_item) (maxL := 4) (by decide) rfl (Nat.le_of_ble_eq_true rfl) ?_
  intro κ hN hX hR
  have hX : GX κ cy Z cX6_item (Cond.code yX6_item cX6_item 4 (some .int) :: zT) RX6 { frames := 1, cells := 0, slots := 0, locals := 21 } := hX
  have J78 : ∀ (s0 : Int32) (σ : Sg) , fn_X6_item_L78 ε z1 z2 s0 σ = some (res, σ2) → GW κ 0 0 (C ε σ) 78 [] [.int (s0)] := by
    intro s0 σ h
    exact g_reti hR (oi_1 h) (congrArg (C ε) (oi_2 h)) dX6_item_78
  show GW κ 0 0 (C ε σ) 0 [(0, .ref (sAd ε (0))), (1, .int (z1)), (2, .int (z2))] []
  refine g_iload_n hX 1 rfl rfl dX6_item_0 ?_
  obtain ⟨y1, e1, h⟩ := o1_some h
  refine s_call hX hzo [.int (z1)] [] (ct_X6_isSlot _ _ _ _ hzo hzs _ z1 _ e1) kX6_isSlot tMet_X6_281 rfl rfl (Nat.le_of_ble_eq_true rfl) (Nat.le_of_ble_eq_true rfl) ⟨Nat.le_of_ble_eq_true rfl, Nat.le_of_ble_eq_true rfl⟩ rfl rfl (Nat.le_of_ble_eq_true rfl) dX6_item_1 ?_
  refine g_if_ne hX 10 (by decide) dX6_item_4 (fun b4 => ?_) (fun b4 => ?_)
  · replace h := if_n b4 h
    refine g_aload_n hX 0 rfl rfl dX6_item_10 ?_
    refine c_get6 hX hC rfl 5 (by decide) rfl tFld_X6_37 rfl dX6_item_11 ?_
    refine g_iload_n hX 1 rfl rfl dX6_item_14 ?_
    obtain ⟨g1, h⟩ := gd_some h
    refine c_aald hX hC (kq_X6_2 rfl) rfl g1 (v := .ref (sAd ε (96 + 4 * z1.toNatClampNeg))) rfl dX6_item_15 ?_
    refine g_astore_n (lv2 := [(3, .ref (sAd ε (96 + 4 * z1.toNatClampNeg))), (0, .ref (sAd ε (0))), (1, .int (z1)), (2, .int (z2))]) hX 3 4 hN rfl (by decide) rfl dX6_item_16 ?_
    refine g_aload_n hX 0 rfl rfl dX6_item_17 ?_
    refine c_get3 hX hC (ks_X6 rfl (vin_lt g1)) 0 (by decide) rfl tFld_X6_284 rfl dX6_item_18 ?_
    refine g_if_ne hX 27 (by decide) dX6_item_21 (fun b21 => ?_) (fun b21 => ?_)
    · replace h := if_n b21 h
      refine g_aload_n hX 0 rfl rfl dX6_item_27 ?_
      refine c_get3 hX hC (ks_X6 rfl (vin_lt g1)) 0 (by decide) rfl tFld_X6_284 rfl dX6_item_28 ?_
      refine g_iconst hX (v := nI 2) rfl dX6_item_31 ?_
      refine g_icmp_eq hX 38 (by decide) dX6_item_32 (fun b32 => ?_) (fun b32 => ?_)
      · replace h := if_p b32 h
        refine g_aload_n hX 0 rfl rfl dX6_item_38 ?_
        refine c_get3 hX hC (ks_X6 rfl (vin_lt g1)) 3 (by decide) rfl tFld_X6_295 rfl dX6_item_39 ?_
        refine g_iload_n hX 3 rfl rfl dX6_item_42 ?_
        obtain ⟨y43, τ43, e43, h⟩ := ob_some h
        refine c_call2 hX hC hzo (kl_0 _ (ks_X6 rfl (vin_lt g1))).2 [.int (z2)] [] (ct_X2_hasPlace _ _ _ _ hzo hzs hC ε (96 + 4 * z1.toNatClampNeg + 2) (kl_0 _ (ks_X6 rfl (vin_lt g1))).2 z2 σ _ _ e43) kX2_hasPlace tMet_X6_256 rfl rfl (Nat.le_of_ble_eq_true rfl) (Nat.le_of_ble_eq_true rfl) ⟨Nat.le_of_ble_eq_true rfl, Nat.le_of_ble_eq_true rfl⟩ rfl rfl (Nat.le_of_ble_eq_true rfl) dX6_item_43 ?_
        refine g_if_ne hX 53 (by decide) dX6_item_46 (fun b46 => ?_) (fun b46 => ?_)
        · replace h := if_n b46 h
          refine g_aload_n hX 0 rfl rfl dX6_item_53 ?_
          refine c_get3 hX hC (ks_X6 rfl (vin_lt g1)) 3 (by decide) rfl tFld_X6_295 rfl dX6_item_54 ?_
          refine g_iload_n hX 3 rfl rfl dX6_item_57 ?_
          obtain ⟨y58, τ58, e58, h⟩ := ob_some h
          refine c_call2 hX hC hzo (kl_0 _ (ks_X6 rfl (vin_lt g1))).2 [.int (z2)] [] (ct_X2_isNumber _ _ _ _ hzo hzs hC ε (96 + 4 * z1.toNatClampNeg + 2) (kl_0 _ (ks_X6 rfl (vin_lt g1))).2 z2 τ43 _ _ e58) kX2_isNumber tMet_X6_269 rfl rfl (Nat.le_of_ble_eq_true rfl) (Nat.le_of_ble_eq_true rfl) ⟨Nat.le_of_ble_eq_true rfl, Nat.le_of_ble_eq_true rfl⟩ rfl rfl (Nat.le_of_ble_eq_true rfl) dX6_item_58 ?_
          refine g_if_eq hX 76 (by decide) dX6_item_61 (fun b61 => ?_) (fun b61 => ?_)
          · replace h := if_p b61 h
            refine g_ldc hX (v := -1000000012) (zu tCon_X6_111 rfl) dX6_item_76 ?_
            refine g_lv [] rfl ?_
            exact J78 ((-1000000012))  τ58 h
          · replace h := if_n b61 h
            refine g_aload_n hX 0 rfl rfl dX6_item_64 ?_
            refine c_get3 hX hC (ks_X6 rfl (vin_lt g1)) 3 (by decide) rfl tFld_X6_295 rfl dX6_item_65 ?_
            refine c_get2 hX hC (kl_0 _ (ks_X6 rfl (vin_lt g1))).2 0 (by decide) rfl tFld_X6_260 rfl dX6_item_68 ?_
            refine g_iload_n hX 3 rfl rfl dX6_item_71 ?_
            obtain ⟨g2, h⟩ := gd_some h
            refine c_ald hX hC (ka_X2_1 (kl_0 _ (ks_X6 rfl (vin_lt g1))).2) g2 dX6_item_72 ?_
            refine g_goto hX 78 (by decide) dX6_item_73 ?_
            refine g_lv [] rfl ?_
            exact J78 (τ58.1 (96 + 4 * z1.toNatClampNeg + 2 + 1) z2.toNatClampNeg)  τ58 h
        · replace h := if_p b46 h
          refine g_ldcw hX (v := -1000000013) (zu tCon_X6_259 rfl) dX6_item_49 ?_
          exact g_reti hR (oi_1 h) (congrArg (C ε) (oi_2 h)) dX6_item_52
      · replace h := if_n b32 h
        refine g_ldc hX (v := -1000000012) (zu tCon_X6_111 rfl) dX6_item_35 ?_
        exact g_reti hR (oi_1 h) (congrArg (C ε) (oi_2 h)) dX6_item_37
    · replace h := if_p b21 h
      refine g_ldc hX (v := -1000000011) (zu tCon_X6_197 rfl) dX6_item_24 ?_
      exact g_reti hR (oi_1 h) (congrArg (C ε) (oi_2 h)) dX6_item_26
  · replace h := if_p b4 h
    refine g_ldc hX (v := -1000000001) (zu tCon_X6_59 rfl) dX6_item_7 ?_
    exact g_reti hR (oi_1 h) (congrArg (C ε) (oi_2 h)) dX6_item_9
theorem kX6_rest : mKV RX6 yX6_rest cX6_rest 4 (some .int) 2 := ⟨tIns_X6_rest, tSel_X6_rest, tIni_X6, tCod_X6_rest, by decide +kernel⟩
set_option maxHeartbeats 4000000 in
set_option maxRecDepth 100000 in
theorem ct_X6_rest (l : Launch) (D : va_G) (cy : Nat → ClassId) (Z : (Nat → Prop) → State → Heap → Prop) (hzo : zOK Z) {aStr aByt : Nat → Nat} (hzs : zSt Z aStr aByt) {q : Nat → Nat} {C : Ev → Sg → va_W} (hC : cLens cy q C) (ε : Ev) (z1 : Int32) (z2 : Int32) (σ σ2 : Sg) (res : Int32) (h : fn_X6_rest ε z1 z2 σ = some (res, σ2)) : GD l D cy Z yX6_rest (zW yX6_rest cX6_rest 4 (some .int)) { frames := 1, cells := 0, slots := 0, locals := 20 } [.ref (sAd ε (0)), .int (z1), .int (z2)] (C ε σ) (some (.int res)) (C ε σ2) 0 0 := by
  refine g_entry (cc := cX6_rest) (maxL := 4) (by decide) rfl (Nat.le_of_ble_eq_true rfl) ?_
  intro κ hN hX hR
  have hX : GX κ cy Z cX6_rest (Cond.code yX6_rest cX6_rest 4 (some .int) :: zT) RX6 { frames := 1, cells := 0, slots := 0, locals := 20 } := hX
  have J53 : ∀ (s0 : Int32) (σ : Sg) , fn_X6_rest_L53 ε z1 z2 s0 σ = some (res, σ2) → GW κ 0 0 (C ε σ) 53 [] [.int (s0)] := by
    intro s0 σ h
    exact g_reti hR (oi_1 h) (congrArg (C ε) (oi_2 h)) dX6_rest_53
  show GW κ 0 0 (C ε σ) 0 [(0, .ref (sAd ε (0))), (1, .int (z1)), (2, .int (z2))] []
  refine g_iload_n hX 1 rfl rfl dX6_rest_0 ?_
  obtain ⟨y1, e1, h⟩ := o1_some h
  refine s_call hX hzo [.int (z1)] [] (ct_X6_isSlot _ _ _ _ hzo hzs _ z1 _ e1) kX6_isSlot tMet_X6_281 rfl rfl (Nat.le_of_ble_eq_true rfl) (Nat.le_of_ble_eq_true rfl) ⟨Nat.le_of_ble_eq_true rfl, Nat.le_of_ble_eq_true rfl⟩ rfl rfl (Nat.le_of_ble_eq_true rfl) dX6_rest_1 ?_
  refine g_if_ne hX 10 (by decide) dX6_rest_4 (fun b4 => ?_) (fun b4 => ?_)
  · replace h := if_n b4 h
    refine g_aload_n hX 0 rfl rfl dX6_rest_10 ?_
    refine c_get6 hX hC rfl 5 (by decide) rfl tFld_X6_37 rfl dX6_rest_11 ?_
    refine g_iload_n hX 1 rfl rfl dX6_rest_14 ?_
    obtain ⟨g1, h⟩ := gd_some h
    refine c_aald hX hC (kq_X6_2 rfl) rfl g1 (v := .ref (sAd ε (96 + 4 * z1.toNatClampNeg))) rfl dX6_rest_15 ?_
    refine g_astore_n (lv2 := [(3, .ref (sAd ε (96 + 4 * z1.toNatClampNeg))), (0, .ref (sAd ε (0))), (1, .int (z1)), (2, .int (z2))]) hX 3 4 hN rfl (by decide) rfl dX6_rest_16 ?_
    refine g_aload_n hX 0 rfl rfl dX6_rest_17 ?_
    refine c_get3 hX hC (ks_X6 rfl (vin_lt g1)) 0 (by decide) rfl tFld_X6_284 rfl dX6_rest_18 ?_
    refine g_if_ne hX 27 (by decide) dX6_rest_21 (fun b21 => ?_) (fun b21 => ?_)
    · replace h := if_n b21 h
      refine g_aload_n hX 0 rfl rfl dX6_rest_27 ?_
      refine c_get3 hX hC (ks_X6 rfl (vin_lt g1)) 0 (by decide) rfl tFld_X6_284 rfl dX6_rest_28 ?_
      refine g_iconst hX (v := nI 3) rfl dX6_rest_31 ?_
      refine g_icmp_eq hX 38 (by decide) dX6_rest_32 (fun b32 => ?_) (fun b32 => ?_)
      · replace h := if_p b32 h
        refine g_iload_n hX 3 rfl rfl dX6_rest_38 ?_
        refine g_if_ne hX 47 (by decide) dX6_rest_39 (fun b39 => ?_) (fun b39 => ?_)
        · replace h := if_n b39 h
          refine g_aload_n hX 0 rfl rfl dX6_rest_47 ?_
          refine c_get3 hX hC (ks_X6 rfl (vin_lt g1)) 1 (by decide) rfl tFld_X6_302 rfl dX6_rest_48 ?_
          refine g_iload_n hX 3 rfl rfl dX6_rest_51 ?_
          obtain ⟨g2, h⟩ := gd_some h
          refine g_irem hX g2 dX6_rest_52 ?_
          refine g_lv [] rfl ?_
          exact J53 ((σ.1 (96 + 4 * z1.toNatClampNeg) 1 - σ.1 (96 + 4 * z1.toNatClampNeg) 1 / z2 * z2))  σ h
        · replace h := if_p b39 h
          refine g_ldc hX (v := -1000000002) (zu tCon_X6_119 rfl) dX6_rest_42 ?_
          refine g_goto hX 53 (by decide) dX6_rest_44 ?_
          refine g_lv [] rfl ?_
          exact J53 ((-1000000002))  σ h
      · replace h := if_n b32 h
        refine g_ldc hX (v := -1000000012) (zu tCon_X6_111 rfl) dX6_rest_35 ?_
        exact g_reti hR (oi_1 h) (congrArg (C ε) (oi_2 h)) dX6_rest_37
    · replace h := if_p b21 h
      refine g_ldc hX (v := -1000000011) (zu tCon_X6_197 rfl) dX6_rest_24 ?_
      exact g_reti hR (oi_1 h) (congrArg (C ε) (oi_2 h)) dX6_rest_26
  · replace h := if_p b4 h
    refine g_ldc hX (v := -1000000001) (zu tCon_X6_59 rfl) dX6_rest_7 ?_
    exact g_reti hR (oi_1 h) (congrArg (C ε) (oi_2 h)) dX6_rest_9
theorem kX6_tell : mKV RX6 yX6_tell cX6_tell 2 (some .int) 1 := ⟨tIns_X6_tell, tSel_X6_tell, tIni_X6, tCod_X6_tell, by decide +kernel⟩
set_option maxHeartbeats 4000000 in
set_option maxRecDepth 100000 in
theorem ct_X6_tell (l : Launch) (D : va_G) (cy : Nat → ClassId) (Z : (Nat → Prop) → State → Heap → Prop) (hzo : zOK Z) {aStr aByt : Nat → Nat} (hzs : zSt Z aStr aByt) {q : Nat → Nat} {C : Ev → Sg → va_W} (hC : cLens cy q C) (ε : Ev) (z1 : Int32) (σ σ2 : Sg) (res : Int32) (h : fn_X6_tell ε z1 σ = some (res, σ2)) : GD l D cy Z yX6_tell (zW yX6_tell cX6_tell 2 (some .int)) { frames := 0, cells := 0, slots := 0, locals := 0 } [.ref (sAd ε (0)), .int (z1)] (C ε σ) (some (.int res)) (C ε σ2) 0 0 := by
  refine g_entry (cc := cX6_tell) (maxL := 2) (by decide) rfl (Nat.le_of_ble_eq_true rfl) ?_
  intro κ hN hX hR
  have hX : GX κ cy Z cX6_tell (Cond.code yX6_tell cX6_tell 2 (some .int) :: zT) RX6 { frames := 0, cells := 0, slots := 0, locals := 0 } := hX
  show GW κ 0 0 (C ε σ) 0 [(0, .ref (sAd ε (0))), (1, .int (z1))] []
  refine g_aload_n hX 0 rfl rfl dX6_tell_0 ?_
  refine c_get6 hX hC rfl 7 (by decide) rfl tFld_X6_45 rfl dX6_tell_1 ?_
  refine g_bipush hX (v := nI 60) (by decide) dX6_tell_4 ?_
  refine g_icmp_lt hX 12 (by decide) dX6_tell_6 (fun b6 => ?_) (fun b6 => ?_)
  · replace h := if_p b6 h
    refine g_aload_n hX 0 rfl rfl dX6_tell_12 ?_
    refine c_get6 hX hC rfl 6 (by decide) rfl tFld_X6_41 rfl dX6_tell_13 ?_
    refine g_aload_n hX 0 rfl rfl dX6_tell_16 ?_
    refine c_get6 hX hC rfl 7 (by decide) rfl tFld_X6_45 rfl dX6_tell_17 ?_
    refine g_iload_n hX 1 rfl rfl dX6_tell_20 ?_
    obtain ⟨g1, h⟩ := gd_some h
    refine c_ast hX hC (ka_X6_3 rfl) g1 dX6_tell_21 ?_
    refine g_aload_n hX 0 rfl rfl dX6_tell_22 ?_
    refine g_dup hX rfl dX6_tell_23 ?_
    refine c_get6 hX hC rfl 7 (by decide) rfl tFld_X6_45 rfl dX6_tell_24 ?_
    refine g_iconst hX (v := nI 1) rfl dX6_tell_27 ?_
    refine g_iadd hX dX6_tell_28 ?_
    refine c_put6 (ty := .int) hX hC rfl 7 (by decide) (cs_X6 ε _ _ _).1 rfl (by decide +kernel) rfl rfl tFld_X6_45 rfl dX6_tell_29 ?_
    refine g_aload_n hX 0 rfl rfl dX6_tell_32 ?_
    refine c_get6 hX hC rfl 7 (by decide) rfl tFld_X6_45 rfl dX6_tell_33 ?_
    exact g_reti hR (oi_1 h) (congrArg (C ε) (oi_2 h)) dX6_tell_36
  · replace h := if_n b6 h
    refine g_ldc hX (v := -1000000003) (zu tCon_X6_63 rfl) dX6_tell_9 ?_
    exact g_reti hR (oi_1 h) (congrArg (C ε) (oi_2 h)) dX6_tell_11
theorem kX6_check : mKV RX6 yX6_check cX6_check 6 (some .int) 1 := ⟨tIns_X6_check, tSel_X6_check, tIni_X6, tCod_X6_check, by decide +kernel⟩
set_option maxHeartbeats 4000000 in
set_option maxRecDepth 100000 in
theorem ct_X6_check (l : Launch) (D : va_G) (cy : Nat → ClassId) (Z : (Nat → Prop) → State → Heap → Prop) (hzo : zOK Z) {aStr aByt : Nat → Nat} (hzs : zSt Z aStr aByt) {q : Nat → Nat} {C : Ev → Sg → va_W} (hC : cLens cy q C) (ε : Ev) (z1 : Int32) (σ σ2 : Sg) (res : Int32) (h : fn_X6_check ε z1 σ = some (res, σ2)) : GD l D cy Z yX6_check (zW yX6_check cX6_check 6 (some .int)) { frames := 6, cells := 0, slots := 0, locals := 139 } [.ref (sAd ε (0)), .int (z1)] (C ε σ) (some (.int res)) (C ε σ2) 0 0 := by
  refine g_entry (cc := cX6_check) (maxL := 6) (by decide) rfl (Nat.le_of_ble_eq_true rfl) ?_
  intro κ hN hX hR
  have hX : GX κ cy Z cX6_check (Cond.code yX6_check cX6_check 6 (some .int) :: zT) RX6 { frames := 6, cells := 0, slots := 0, locals := 139 } := hX
  have J152 : ∀ (s0 : Int32) (σ : Sg) , fn_X6_check_L152 ε z1 s0 σ = some (res, σ2) → GW κ 0 0 (C ε σ) 152 [] [.int (s0)] := by
    intro s0 σ h
    exact g_reti hR (oi_1 h) (congrArg (C ε) (oi_2 h)) dX6_check_152
  have J140 : ∀ (v2 : Int32) (v3 : Int32) (σ : Sg) , fn_X6_check_L140 ε z1 v2 v3 σ = some (res, σ2) → GW κ 0 0 (C ε σ) 140 [(2, .int (v2)), (3, .int (v3))] [] := by
    intro v2 v3 σ h
    refine g_iload_n hX 0 rfl rfl dX6_check_140 ?_
    refine g_iload_n hX 1 rfl rfl dX6_check_141 ?_
    refine g_icmp_le hX 151 (by decide) dX6_check_142 (fun b142 => ?_) (fun b142 => ?_)
    · replace h := if_p b142 h
      refine g_iconst hX (v := nI 0) rfl dX6_check_151 ?_
      refine g_lv [] rfl ?_
      exact J152 (nI 0)  σ h
    · replace h := if_n b142 h
      refine g_iconst hX (v := nI 1) rfl dX6_check_145 ?_
      refine g_iload_n hX 1 rfl rfl dX6_check_146 ?_
      refine g_iadd hX dX6_check_147 ?_
      refine g_goto hX 152 (by decide) dX6_check_148 ?_
      refine g_lv [] rfl ?_
      exact J152 ((nI 1 + v3))  σ h
  have J129 : ∀ (slf : Int32 → Int32 → Int32 → Sg → Option (Int32 × Sg)) (hslf : ∀ (v2 : Int32) (v3 : Int32) (v4 : Int32) (σ : Sg) , slf v2 v3 v4 σ = some (res, σ2) → GW κ 0 0 (C ε σ) 64 [(0, .ref (sAd ε (0))), (2, .int (v2)), (3, .int (v3)), (4, .int (v4))] []) (k140 : Int32 → Int32 → Sg → Option (Int32 × Sg)) (hk140 : ∀ (v2 : Int32) (v3 : Int32) (σ : Sg) , k140 v2 v3 σ = some (res, σ2) → GW κ 0 0 (C ε σ) 140 [(2, .int (v2)), (3, .int (v3))] []), ∀ (v4 : Int32) (σ : Sg) , fn_X6_check_L129 ε z1 slf k140 v4 σ = some (res, σ2) → GW κ 0 0 (C ε σ) 129 [(4, .int (v4))] [] := by
    intro slf hslf k140 hk140 v4 σ h
    refine g_iconst hX (v := nI 1) rfl dX6_check_129 ?_
    refine g_iload hX 0 rfl dX6_check_130 ?_
    refine g_iadd hX dX6_check_132 ?_
    exact g_reti hR (oi_1 h) (congrArg (C ε) (oi_2 h)) dX6_check_133
  have J109 : ∀ (slf : Int32 → Int32 → Int32 → Sg → Option (Int32 × Sg)) (hslf : ∀ (v2 : Int32) (v3 : Int32) (v4 : Int32) (σ : Sg) , slf v2 v3 v4 σ = some (res, σ2) → GW κ 0 0 (C ε σ) 64 [(0, .ref (sAd ε (0))), (2, .int (v2)), (3, .int (v3)), (4, .int (v4))] []) (k140 : Int32 → Int32 → Sg → Option (Int32 × Sg)) (hk140 : ∀ (v2 : Int32) (v3 : Int32) (σ : Sg) , k140 v2 v3 σ = some (res, σ2) → GW κ 0 0 (C ε σ) 140 [(2, .int (v2)), (3, .int (v3))] []), ∀ (v2 : Int32) (v3 : Int32) (v4 : Int32) (s0 : Int32) (σ : Sg) , fn_X6_check_L109 ε z1 slf k140 v2 v3 v4 s0 σ = some (res, σ2) → GW κ 0 0 (C ε σ) 109 [(0, .ref (sAd ε (0))), (2, .int (v2)), (3, .int (v3)), (4, .int (v4))] [.int (s0)] := by
    intro slf hslf k140 hk140 v2 v3 v4 s0 σ h
    refine g_istore (lv2 := [(5, .int (s0)), (0, .ref (sAd ε (0))), (2, .int (v2)), (3, .int (v3)), (4, .int (v4))]) hX 5 6 hN (by decide) rfl dX6_check_109 ?_
    refine g_iload hX 4 rfl dX6_check_111 ?_
    refine g_iload_n hX 2 rfl rfl dX6_check_113 ?_
    refine g_icmp_ge hX 129 (by decide) dX6_check_114 (fun b114 => ?_) (fun b114 => ?_)
    · replace h := if_p b114 h
      refine g_lv [4] rfl ?_
      exact (J129 slf hslf k140 hk140) v4  σ h
    · replace h := if_n b114 h
      refine g_aload_n hX 1 rfl rfl dX6_check_117 ?_
      refine c_get6 hX hC rfl 6 (by decide) rfl tFld_X6_41 rfl dX6_check_118 ?_
      refine g_iload hX 4 rfl dX6_check_121 ?_
      obtain ⟨g1, h⟩ := gd_some h
      refine c_ald hX hC (ka_X6_3 rfl) g1 dX6_check_123 ?_
      refine g_iload hX 0 rfl dX6_check_124 ?_
      refine g_icmp_eq hX 134 (by decide) dX6_check_126 (fun b126 => ?_) (fun b126 => ?_)
      · replace h := if_p b126 h
        refine g_iinc (v := (v4 + nI 1)) (lv2 := [(4, .int ((v4 + nI 1))), (5, .int (s0)), (0, .ref (sAd ε (0))), (2, .int (v2)), (3, .int (v3))]) hX 4 4 6 hN rfl rfl (by decide) rfl dX6_check_134 ?_
        refine g_goto hX 64 (by decide) dX6_check_137 ?_
        refine g_lv [2, 3, 4, 0] rfl ?_
        exact hslf v2 v3 ((v4 + nI 1))  σ h
      · replace h := if_n b126 h
        refine g_lv [4] rfl ?_
        exact (J129 slf hslf k140 hk140) v4  σ h
  have J85 : ∀ (slf : Int32 → Int32 → Int32 → Sg → Option (Int32 × Sg)) (hslf : ∀ (v2 : Int32) (v3 : Int32) (v4 : Int32) (σ : Sg) , slf v2 v3 v4 σ = some (res, σ2) → GW κ 0 0 (C ε σ) 64 [(0, .ref (sAd ε (0))), (2, .int (v2)), (3, .int (v3)), (4, .int (v4))] []) (k140 : Int32 → Int32 → Sg → Option (Int32 × Sg)) (hk140 : ∀ (v2 : Int32) (v3 : Int32) (σ : Sg) , k140 v2 v3 σ = some (res, σ2) → GW κ 0 0 (C ε σ) 140 [(2, .int (v2)), (3, .int (v3))] []), ∀ (v2 : Int32) (v3 : Int32) (v4 : Int32) (σ : Sg) , fn_X6_check_L85 ε z1 slf k140 v2 v3 v4 σ = some (res, σ2) → GW κ 0 0 (C ε σ) 85 [(0, .ref (sAd ε (0))), (2, .int (v2)), (3, .int (v3)), (4, .int (v4))] [] := by
    intro slf hslf k140 hk140 v2 v3 v4 σ h
    refine g_iload hX 3 rfl dX6_check_85 ?_
    refine g_iconst hX (v := nI 2) rfl dX6_check_87 ?_
    refine g_irem hX (by decide) dX6_check_88 ?_
    refine g_if_ne hX 102 (by decide) dX6_check_89 (fun b89 => ?_) (fun b89 => ?_)
    · replace h := if_n b89 h
      refine g_aload_n hX 0 rfl rfl dX6_check_102 ?_
      refine c_get6 hX hC rfl 2 (by decide) rfl tFld_X6_19 rfl dX6_check_103 ?_
      obtain ⟨y106, τ106, e106, h⟩ := ob_some h
      refine c_call4 hX hC hzo (kst_tho rfl) [] [] (ct_X4_cracks _ _ _ _ hzo hzs hC ε 48 (kst_tho rfl) σ _ _ e106) kX4_cracks tMet_X6_157 rfl rfl (Nat.le_of_ble_eq_true rfl) (Nat.le_of_ble_eq_true rfl) ⟨Nat.le_of_ble_eq_true rfl, Nat.le_of_ble_eq_true rfl⟩ rfl rfl (Nat.le_of_ble_eq_true rfl) dX6_check_106 ?_
      exact (J109 slf hslf k140 hk140) v2 v3 v4 y106  τ106 h
    · replace h := if_p b89 h
      refine g_aload_n hX 0 rfl rfl dX6_check_92 ?_
      refine c_get6 hX hC rfl 2 (by decide) rfl tFld_X6_19 rfl dX6_check_93 ?_
      obtain ⟨y96, τ96, e96, h⟩ := ob_some h
      refine c_call4 hX hC hzo (kst_tho rfl) [] [] (ct_X4_howManyStand _ _ _ _ hzo hzs hC ε 48 (kst_tho rfl) σ _ _ e96) kX4_howManyStand tMet_X6_123 rfl rfl (Nat.le_of_ble_eq_true rfl) (Nat.le_of_ble_eq_true rfl) ⟨Nat.le_of_ble_eq_true rfl, Nat.le_of_ble_eq_true rfl⟩ rfl rfl (Nat.le_of_ble_eq_true rfl) dX6_check_96 ?_
      refine g_goto hX 109 (by decide) dX6_check_99 ?_
      exact (J109 slf hslf k140 hk140) v2 v3 v4 y96  τ96 h
  have J64 : ∀ (k140 : Int32 → Int32 → Sg → Option (Int32 × Sg)) (hk140 : ∀ (v2 : Int32) (v3 : Int32) (σ : Sg) , k140 v2 v3 σ = some (res, σ2) → GW κ 0 0 (C ε σ) 140 [(2, .int (v2)), (3, .int (v3))] []) (fuel : Nat), ∀ (v2 : Int32) (v3 : Int32) (v4 : Int32) (σ : Sg) , fn_X6_check_L64 ε z1 k140 fuel v2 v3 v4 σ = some (res, σ2) → GW κ 0 0 (C ε σ) 64 [(0, .ref (sAd ε (0))), (2, .int (v2)), (3, .int (v3)), (4, .int (v4))] [] := by
    intro k140 hk140 fuel
    induction fuel with
    | zero => intro v2 v3 v4 σ h; cases (show none = some (res, σ2) from h)
    | succ fuel ih =>
      intro v2 v3 v4 σ h
      replace h : (if v3 ≤ v4 then (k140 v2 v3 σ) else (if (v4 - v4 / nI 2 * nI 2) = 0 then (ob (fn_X4_goOn ε 48 (nI 1) σ) (fun y82 τ82 => ((fn_X6_check_L85 ε z1 (fn_X6_check_L64 ε z1 k140 fuel) k140) v2 v3 v4 τ82))) else ((fn_X6_check_L85 ε z1 (fn_X6_check_L64 ε z1 k140 fuel) k140) v2 v3 v4 σ))) = some (res, σ2) := h
      refine g_iload hX 3 rfl dX6_check_64 ?_
      refine g_iload_n hX 2 rfl rfl dX6_check_66 ?_
      refine g_icmp_ge hX 140 (by decide) dX6_check_67 (fun b67 => ?_) (fun b67 => ?_)
      · replace h := if_p b67 h
        refine g_lv [1, 2] rfl ?_
        exact hk140 v2 v3  σ h
      · replace h := if_n b67 h
        refine g_iload hX 3 rfl dX6_check_70 ?_
        refine g_iconst hX (v := nI 2) rfl dX6_check_72 ?_
        refine g_irem hX (by decide) dX6_check_73 ?_
        refine g_if_ne hX 85 (by decide) dX6_check_74 (fun b74 => ?_) (fun b74 => ?_)
        · replace h := if_n b74 h
          exact (J85 (fn_X6_check_L64 ε z1 k140 fuel) ih k140 hk140) v2 v3 v4  σ h
        · replace h := if_p b74 h
          refine g_aload_n hX 0 rfl rfl dX6_check_77 ?_
          refine c_get6 hX hC rfl 2 (by decide) rfl tFld_X6_19 rfl dX6_check_78 ?_
          refine g_iconst hX (v := nI 1) rfl dX6_check_81 ?_
          obtain ⟨y82, τ82, e82, h⟩ := ob_some h
          refine c_call4 hX hC hzo (kst_tho rfl) [.int (nI 1)] [] (ct_X4_goOn _ _ _ _ hzo hzs hC ε 48 (kst_tho rfl) (nI 1) σ _ _ e82) kX4_goOn tMet_X6_147 rfl rfl (Nat.le_of_ble_eq_true rfl) (Nat.le_of_ble_eq_true rfl) ⟨Nat.le_of_ble_eq_true rfl, Nat.le_of_ble_eq_true rfl⟩ rfl rfl (Nat.le_of_ble_eq_true rfl) dX6_check_82 ?_
          exact (J85 (fn_X6_check_L64 ε z1 k140 fuel) ih k140 hk140) v2 v3 v4  τ82 h
  have J21 : ∀ (σ : Sg) , fn_X6_check_L21 ε z1  σ = some (res, σ2) → GW κ 0 0 (C ε σ) 21 [] [] := by
    intro σ h
    refine g_ldc hX (v := -1000000001) (zu tCon_X6_59 rfl) dX6_check_21 ?_
    exact g_reti hR (oi_1 h) (congrArg (C ε) (oi_2 h)) dX6_check_23
  show GW κ 0 0 (C ε σ) 0 [(0, .ref (sAd ε (0))), (1, .int (z1))] []
  refine g_aload_n hX 0 rfl rfl dX6_check_0 ?_
  refine c_get6 hX hC rfl 7 (by decide) rfl tFld_X6_45 rfl dX6_check_1 ?_
  refine g_istore_n (lv2 := [(2, .int (σ.1 0 7)), (0, .ref (sAd ε (0))), (1, .int (z1))]) hX 2 6 hN rfl (by decide) rfl dX6_check_4 ?_
  refine g_aload_n hX 1 rfl rfl dX6_check_5 ?_
  refine g_iconst hX (v := nI 0) rfl dX6_check_6 ?_
  refine c_put6 (ty := .int) hX hC rfl 7 (by decide) (cs_X6 ε _ _ _).1 rfl (by decide +kernel) rfl rfl tFld_X6_45 rfl dX6_check_7 ?_
  refine g_iload_n hX 2 rfl rfl dX6_check_10 ?_
  refine g_iconst hX (v := nI 1) rfl dX6_check_11 ?_
  refine g_icmp_lt hX 21 (by decide) dX6_check_12 (fun b12 => ?_) (fun b12 => ?_)
  · replace h := if_p b12 h
    refine g_lv [] rfl ?_
    exact J21   (pI σ 0 7 (nI 0)) h
  · replace h := if_n b12 h
    refine g_iload_n hX 2 rfl rfl dX6_check_15 ?_
    refine g_bipush hX (v := nI 30) (by decide) dX6_check_16 ?_
    refine g_icmp_le hX 24 (by decide) dX6_check_18 (fun b18 => ?_) (fun b18 => ?_)
    · replace h := if_p b18 h
      refine g_aload_n hX 1 rfl rfl dX6_check_24 ?_
      refine c_get6 hX hC rfl 8 (by decide) rfl tFld_X6_49 rfl dX6_check_25 ?_
      refine g_if_ne hX 34 (by decide) dX6_check_28 (fun b28 => ?_) (fun b28 => ?_)
      · replace h := if_n b28 h
        refine g_iconst hX (v := nI 2) rfl dX6_check_34 ?_
        refine g_iload_n hX 2 rfl rfl dX6_check_35 ?_
        refine g_sipush hX (v := nI 9999) (by decide) dX6_check_36 ?_
        refine g_aload_n hX 1 rfl rfl dX6_check_39 ?_
        refine c_get6 hX hC rfl 1 (by decide) rfl tFld_X6_16 rfl dX6_check_40 ?_
        refine c_get4 hX hC (kst_img rfl) 10 (by decide) rfl tFld_X6_144 rfl dX6_check_43 ?_
        refine g_isub hX dX6_check_46 ?_
        refine g_mmin hX tMet_X6_132 (Nat.le_of_ble_eq_true rfl) (Nat.le_of_ble_eq_true rfl) (Nat.le_of_ble_eq_true rfl) (Nat.le_of_ble_eq_true rfl) (Nat.le_of_ble_eq_true rfl) dX6_check_47 ?_
        refine g_imul hX dX6_check_50 ?_
        refine g_istore_n (lv2 := [(3, .int ((nI 2 * (mnI z1 ((nI 9999 - (pI σ 0 7 (nI 0)).1 32 10)))))), (2, .int (σ.1 0 7)), (0, .ref (sAd ε (0))), (1, .int (z1))]) hX 3 6 hN rfl (by decide) rfl dX6_check_51 ?_
        refine g_aload_n hX 2 rfl rfl dX6_check_52 ?_
        refine g_aload_n hX 2 rfl rfl dX6_check_53 ?_
        refine c_get6 hX hC rfl 1 (by decide) rfl tFld_X6_16 rfl dX6_check_54 ?_
        obtain ⟨y57, τ57, e57, h⟩ := ob_some h
        refine c_call6 hX hC hzo rfl [.ref (sAd ε (32))] [] (ct_X6_thinkOf _ _ _ _ hzo hzs hC ε 32 (kst_img rfl) (pI σ 0 7 (nI 0)) _ _ e57) kX6_thinkOf tMet_X6_166 rfl rfl (Nat.le_of_ble_eq_true rfl) (Nat.le_of_ble_eq_true rfl) ⟨Nat.le_of_ble_eq_true rfl, Nat.le_of_ble_eq_true rfl⟩ rfl rfl (Nat.le_of_ble_eq_true rfl) dX6_check_57 ?_
        obtain ⟨g2, h⟩ := gd_some h
        refine g_pop hX rfl dX6_check_60 ?_
        refine g_iconst hX (v := nI 0) rfl dX6_check_61 ?_
        refine g_istore (lv2 := [(4, .int (nI 0)), (3, .int ((nI 2 * (mnI z1 ((nI 9999 - (pI σ 0 7 (nI 0)).1 32 10)))))), (2, .int (σ.1 0 7)), (0, .ref (sAd ε (0))), (1, .int (z1))]) hX 4 6 hN (by decide) rfl dX6_check_62 ?_
        refine g_lv [3, 2, 1, 0] rfl ?_
        exact (J64 (fn_X6_check_L140 ε z1) J140 4000) (σ.1 0 7) ((nI 2 * (mnI z1 ((nI 9999 - (pI σ 0 7 (nI 0)).1 32 10))))) (nI 0)  τ57 h
      · replace h := if_p b28 h
        refine g_ldc hX (v := -1000000002) (zu tCon_X6_119 rfl) dX6_check_31 ?_
        exact g_reti hR (oi_1 h) (congrArg (C ε) (oi_2 h)) dX6_check_33
    · replace h := if_n b18 h
      refine g_lv [] rfl ?_
      exact J21   (pI σ 0 7 (nI 0)) h
theorem kX6_keep : mKV RX6 yX6_keep cX6_keep 1 (some .int) 0 := ⟨tIns_X6_keep, tSel_X6_keep, tIni_X6, tCod_X6_keep, by decide +kernel⟩
set_option maxHeartbeats 4000000 in
set_option maxRecDepth 100000 in
theorem ct_X6_keep (l : Launch) (D : va_G) (cy : Nat → ClassId) (Z : (Nat → Prop) → State → Heap → Prop) (hzo : zOK Z) {aStr aByt : Nat → Nat} (hzs : zSt Z aStr aByt) {q : Nat → Nat} {C : Ev → Sg → va_W} (hC : cLens cy q C) (ε : Ev) (σ σ2 : Sg) (res : Int32) (h : fn_X6_keep ε σ = some (res, σ2)) : GD l D cy Z yX6_keep (zW yX6_keep cX6_keep 1 (some .int)) { frames := 2, cells := 0, slots := 0, locals := 43 } [.ref (sAd ε (0))] (C ε σ) (some (.int res)) (C ε σ2) 0 0 := by
  refine g_entry (cc := cX6_keep) (maxL := 1) (by decide) rfl (Nat.le_of_ble_eq_true rfl) ?_
  intro κ hN hX hR
  have hX : GX κ cy Z cX6_keep (Cond.code yX6_keep cX6_keep 1 (some .int) :: zT) RX6 { frames := 2, cells := 0, slots := 0, locals := 43 } := hX
  show GW κ 0 0 (C ε σ) 0 [(0, .ref (sAd ε (0)))] []
  refine g_aload_n hX 0 rfl rfl dX6_keep_0 ?_
  refine c_get6 hX hC rfl 1 (by decide) rfl tFld_X6_16 rfl dX6_keep_1 ?_
  refine g_aload_n hX 0 rfl rfl dX6_keep_4 ?_
  refine c_get6 hX hC rfl 0 (by decide) rfl tFld_X6_10 rfl dX6_keep_5 ?_
  obtain ⟨y8, τ8, e8, h⟩ := ob_some h
  refine c_call4 hX hC hzo (kst_img rfl) [.ref (sAd ε (16))] [] (ct_X4_beLike _ _ _ _ hzo hzs hC ε 32 (kst_img rfl) 16 (kst_now rfl) σ _ _ e8) kX4_beLike tMet_X6_303 rfl rfl (Nat.le_of_ble_eq_true rfl) (Nat.le_of_ble_eq_true rfl) ⟨Nat.le_of_ble_eq_true rfl, Nat.le_of_ble_eq_true rfl⟩ rfl rfl (Nat.le_of_ble_eq_true rfl) dX6_keep_8 ?_
  refine g_aload_n hX 0 rfl rfl dX6_keep_11 ?_
  refine g_iconst hX (v := nI 1) rfl dX6_keep_12 ?_
  refine c_put6 (ty := .boolean) hX hC rfl 8 (by decide) (cs_X6 ε _ _ _).2 rfl (by decide +kernel) rfl rfl tFld_X6_49 rfl dX6_keep_13 ?_
  refine g_aload_n hX 0 rfl rfl dX6_keep_16 ?_
  refine c_get6 hX hC rfl 0 (by decide) rfl tFld_X6_10 rfl dX6_keep_17 ?_
  refine c_get4 hX hC (kst_now rfl) 6 (by decide) rfl tFld_X6_60 rfl dX6_keep_20 ?_
  exact g_reti hR (oi_1 h) (congrArg (C ε) (oi_2 h)) dX6_keep_23
theorem kX6_back : mKV RX6 yX6_back cX6_back 1 (some .int) 0 := ⟨tIns_X6_back, tSel_X6_back, tIni_X6, tCod_X6_back, by decide +kernel⟩
set_option maxHeartbeats 4000000 in
set_option maxRecDepth 100000 in
theorem ct_X6_back (l : Launch) (D : va_G) (cy : Nat → ClassId) (Z : (Nat → Prop) → State → Heap → Prop) (hzo : zOK Z) {aStr aByt : Nat → Nat} (hzs : zSt Z aStr aByt) {q : Nat → Nat} {C : Ev → Sg → va_W} (hC : cLens cy q C) (ε : Ev) (σ σ2 : Sg) (res : Int32) (h : fn_X6_back ε σ = some (res, σ2)) : GD l D cy Z yX6_back (zW yX6_back cX6_back 1 (some .int)) { frames := 2, cells := 0, slots := 0, locals := 43 } [.ref (sAd ε (0))] (C ε σ) (some (.int res)) (C ε σ2) 0 0 := by
  refine g_entry (cc := cX6_back) (maxL := 1) (by decide) rfl (Nat.le_of_ble_eq_true rfl) ?_
  intro κ hN hX hR
  have hX : GX κ cy Z cX6_back (Cond.code yX6_back cX6_back 1 (some .int) :: zT) RX6 { frames := 2, cells := 0, slots := 0, locals := 43 } := hX
  show GW κ 0 0 (C ε σ) 0 [(0, .ref (sAd ε (0)))] []
  refine g_aload_n hX 0 rfl rfl dX6_back_0 ?_
  refine c_get6 hX hC rfl 8 (by decide) rfl tFld_X6_49 rfl dX6_back_1 ?_
  refine g_if_ne hX 10 (by decide) dX6_back_4 (fun b4 => ?_) (fun b4 => ?_)
  · replace h := if_n b4 h
    refine g_aload_n hX 0 rfl rfl dX6_back_10 ?_
    refine c_get6 hX hC rfl 0 (by decide) rfl tFld_X6_10 rfl dX6_back_11 ?_
    refine g_aload_n hX 0 rfl rfl dX6_back_14 ?_
    refine c_get6 hX hC rfl 1 (by decide) rfl tFld_X6_16 rfl dX6_back_15 ?_
    obtain ⟨y18, τ18, e18, h⟩ := ob_some h
    refine c_call4 hX hC hzo (kst_now rfl) [.ref (sAd ε (32))] [] (ct_X4_beLike _ _ _ _ hzo hzs hC ε 16 (kst_now rfl) 32 (kst_img rfl) σ _ _ e18) kX4_beLike tMet_X6_303 rfl rfl (Nat.le_of_ble_eq_true rfl) (Nat.le_of_ble_eq_true rfl) ⟨Nat.le_of_ble_eq_true rfl, Nat.le_of_ble_eq_true rfl⟩ rfl rfl (Nat.le_of_ble_eq_true rfl) dX6_back_18 ?_
    refine g_aload_n hX 0 rfl rfl dX6_back_21 ?_
    refine c_get6 hX hC rfl 0 (by decide) rfl tFld_X6_10 rfl dX6_back_22 ?_
    refine c_get4 hX hC (kst_now rfl) 6 (by decide) rfl tFld_X6_60 rfl dX6_back_25 ?_
    exact g_reti hR (oi_1 h) (congrArg (C ε) (oi_2 h)) dX6_back_28
  · replace h := if_p b4 h
    refine g_ldc hX (v := -1000000002) (zu tCon_X6_119 rfl) dX6_back_7 ?_
    exact g_reti hR (oi_1 h) (congrArg (C ε) (oi_2 h)) dX6_back_9
theorem kX6_count : mKV RX6 yX6_count cX6_count 2 (some .int) 1 := ⟨tIns_X6_count, tSel_X6_count, tIni_X6, tCod_X6_count, by decide +kernel⟩
set_option maxHeartbeats 4000000 in
set_option maxRecDepth 100000 in
theorem ct_X6_count (l : Launch) (D : va_G) (cy : Nat → ClassId) (Z : (Nat → Prop) → State → Heap → Prop) (hzo : zOK Z) {aStr aByt : Nat → Nat} (hzs : zSt Z aStr aByt) {q : Nat → Nat} {C : Ev → Sg → va_W} (hC : cLens cy q C) (ε : Ev) (z1 : Int32) (σ σ2 : Sg) (res : Int32) (h : fn_X6_count ε z1 σ = some (res, σ2)) : GD l D cy Z yX6_count (zW yX6_count cX6_count 2 (some .int)) { frames := 2, cells := 0, slots := 0, locals := 42 } [.ref (sAd ε (0)), .int (z1)] (C ε σ) (some (.int res)) (C ε σ2) 0 0 := by
  refine g_entry (cc := cX6_count) (maxL := 2) (by decide) rfl (Nat.le_of_ble_eq_true rfl) ?_
  intro κ hN hX hR
  have hX : GX κ cy Z cX6_count (Cond.code yX6_count cX6_count 2 (some .int) :: zT) RX6 { frames := 2, cells := 0, slots := 0, locals := 42 } := hX
  show GW κ 0 0 (C ε σ) 0 [(0, .ref (sAd ε (0))), (1, .int (z1))] []
  refine g_iload_n hX 1 rfl rfl dX6_count_0 ?_
  rcases sw_in (z1) 0 7 (by decide) with w1 | ⟨j1, w1a, w1b, w1⟩
  · replace h := if_n (sw_out w1 0 (by decide) (by decide) (by decide)) h
    replace h := if_n (sw_out w1 1 (by decide) (by decide) (by decide)) h
    replace h := if_n (sw_out w1 2 (by decide) (by decide) (by decide)) h
    replace h := if_n (sw_out w1 3 (by decide) (by decide) (by decide)) h
    replace h := if_n (sw_out w1 4 (by decide) (by decide) (by decide)) h
    replace h := if_n (sw_out w1 5 (by decide) (by decide) (by decide)) h
    replace h := if_n (sw_out w1 6 (by decide) (by decide) (by decide)) h
    replace h := if_n (sw_out w1 7 (by decide) (by decide) (by decide)) h
    refine g_tableOut hX 109 w1 (by decide) dX6_count_1 ?_
    refine g_ldc hX (v := -1000000001) (zu tCon_X6_59 rfl) dX6_count_109 ?_
    exact g_reti hR (oi_1 h) (congrArg (C ε) (oi_2 h)) dX6_count_111
  · have hj : j1 = 0 ∨ j1 = 1 ∨ j1 = 2 ∨ j1 = 3 ∨ j1 = 4 ∨ j1 = 5 ∨ j1 = 6 ∨ j1 = 7 := by omega
    rcases hj with rfl | rfl | rfl | rfl | rfl | rfl | rfl | rfl
    · replace h := if_p w1 h
      refine g_top (y := .int (nI 0)) (congrArg Value.int w1) ?_
      refine g_tableIn hX 48 (by decide) (by decide) rfl (by decide) dX6_count_1 ?_
      refine g_aload_n hX 0 rfl rfl dX6_count_48 ?_
      refine c_get6 hX hC rfl 0 (by decide) rfl tFld_X6_10 rfl dX6_count_49 ?_
      refine c_get4 hX hC (kst_now rfl) 6 (by decide) rfl tFld_X6_60 rfl dX6_count_52 ?_
      exact g_reti hR (oi_1 h) (congrArg (C ε) (oi_2 h)) dX6_count_55
    · replace h := if_n (by rw [w1]; decide) h
      replace h := if_p w1 h
      refine g_top (y := .int (nI 1)) (congrArg Value.int w1) ?_
      refine g_tableIn hX 56 (by decide) (by decide) rfl (by decide) dX6_count_1 ?_
      refine g_aload_n hX 0 rfl rfl dX6_count_56 ?_
      refine c_get6 hX hC rfl 0 (by decide) rfl tFld_X6_10 rfl dX6_count_57 ?_
      obtain ⟨y60, τ60, e60, h⟩ := ob_some h
      refine c_call4 hX hC hzo (kst_now rfl) [] [] (ct_X4_howManyStand _ _ _ _ hzo hzs hC ε 16 (kst_now rfl) σ _ _ e60) kX4_howManyStand tMet_X6_123 rfl rfl (Nat.le_of_ble_eq_true rfl) (Nat.le_of_ble_eq_true rfl) ⟨Nat.le_of_ble_eq_true rfl, Nat.le_of_ble_eq_true rfl⟩ rfl rfl (Nat.le_of_ble_eq_true rfl) dX6_count_60 ?_
      exact g_reti hR (oi_1 h) (congrArg (C ε) (oi_2 h)) dX6_count_63
    · replace h := if_n (by rw [w1]; decide) h
      replace h := if_n (by rw [w1]; decide) h
      replace h := if_p w1 h
      refine g_top (y := .int (nI 2)) (congrArg Value.int w1) ?_
      refine g_tableIn hX 64 (by decide) (by decide) rfl (by decide) dX6_count_1 ?_
      refine g_aload_n hX 0 rfl rfl dX6_count_64 ?_
      refine c_get6 hX hC rfl 0 (by decide) rfl tFld_X6_10 rfl dX6_count_65 ?_
      refine c_get4 hX hC (kst_now rfl) 10 (by decide) rfl tFld_X6_144 rfl dX6_count_68 ?_
      exact g_reti hR (oi_1 h) (congrArg (C ε) (oi_2 h)) dX6_count_71
    · replace h := if_n (by rw [w1]; decide) h
      replace h := if_n (by rw [w1]; decide) h
      replace h := if_n (by rw [w1]; decide) h
      replace h := if_p w1 h
      refine g_top (y := .int (nI 3)) (congrArg Value.int w1) ?_
      refine g_tableIn hX 72 (by decide) (by decide) rfl (by decide) dX6_count_1 ?_
      refine g_aload_n hX 0 rfl rfl dX6_count_72 ?_
      refine c_get6 hX hC rfl 0 (by decide) rfl tFld_X6_10 rfl dX6_count_73 ?_
      refine c_get4 hX hC (kst_now rfl) 8 (by decide) rfl tFld_X6_129 rfl dX6_count_76 ?_
      exact g_reti hR (oi_1 h) (congrArg (C ε) (oi_2 h)) dX6_count_79
    · replace h := if_n (by rw [w1]; decide) h
      replace h := if_n (by rw [w1]; decide) h
      replace h := if_n (by rw [w1]; decide) h
      replace h := if_n (by rw [w1]; decide) h
      replace h := if_p w1 h
      refine g_top (y := .int (nI 4)) (congrArg Value.int w1) ?_
      refine g_tableIn hX 80 (by decide) (by decide) rfl (by decide) dX6_count_1 ?_
      refine g_aload_n hX 0 rfl rfl dX6_count_80 ?_
      refine c_get6 hX hC rfl 0 (by decide) rfl tFld_X6_10 rfl dX6_count_81 ?_
      refine c_get4 hX hC (kst_now rfl) 7 (by decide) rfl tFld_X6_229 rfl dX6_count_84 ?_
      exact g_reti hR (oi_1 h) (congrArg (C ε) (oi_2 h)) dX6_count_87
    · replace h := if_n (by rw [w1]; decide) h
      replace h := if_n (by rw [w1]; decide) h
      replace h := if_n (by rw [w1]; decide) h
      replace h := if_n (by rw [w1]; decide) h
      replace h := if_n (by rw [w1]; decide) h
      replace h := if_p w1 h
      refine g_top (y := .int (nI 5)) (congrArg Value.int w1) ?_
      refine g_tableIn hX 88 (by decide) (by decide) rfl (by decide) dX6_count_1 ?_
      refine g_aload_n hX 0 rfl rfl dX6_count_88 ?_
      refine c_get6 hX hC rfl 7 (by decide) rfl tFld_X6_45 rfl dX6_count_89 ?_
      exact g_reti hR (oi_1 h) (congrArg (C ε) (oi_2 h)) dX6_count_92
    · replace h := if_n (by rw [w1]; decide) h
      replace h := if_n (by rw [w1]; decide) h
      replace h := if_n (by rw [w1]; decide) h
      replace h := if_n (by rw [w1]; decide) h
      replace h := if_n (by rw [w1]; decide) h
      replace h := if_n (by rw [w1]; decide) h
      replace h := if_p w1 h
      refine g_top (y := .int (nI 6)) (congrArg Value.int w1) ?_
      refine g_tableIn hX 93 (by decide) (by decide) rfl (by decide) dX6_count_1 ?_
      refine g_aload_n hX 0 rfl rfl dX6_count_93 ?_
      refine c_get6 hX hC rfl 3 (by decide) rfl tFld_X6_25 rfl dX6_count_94 ?_
      refine c_get1 hX hC (krd_X6 rfl) 1 (by decide) rfl tFld_X6_218 rfl dX6_count_97 ?_
      exact g_reti hR (oi_1 h) (congrArg (C ε) (oi_2 h)) dX6_count_100
    · replace h := if_n (by rw [w1]; decide) h
      replace h := if_n (by rw [w1]; decide) h
      replace h := if_n (by rw [w1]; decide) h
      replace h := if_n (by rw [w1]; decide) h
      replace h := if_n (by rw [w1]; decide) h
      replace h := if_n (by rw [w1]; decide) h
      replace h := if_n (by rw [w1]; decide) h
      replace h := if_p w1 h
      refine g_top (y := .int (nI 7)) (congrArg Value.int w1) ?_
      refine g_tableIn hX 101 (by decide) (by decide) rfl (by decide) dX6_count_1 ?_
      refine g_aload_n hX 0 rfl rfl dX6_count_101 ?_
      refine c_get6 hX hC rfl 0 (by decide) rfl tFld_X6_10 rfl dX6_count_102 ?_
      refine c_get4 hX hC (kst_now rfl) 11 (by decide) rfl tFld_X6_141 rfl dX6_count_105 ?_
      exact g_reti hR (oi_1 h) (congrArg (C ε) (oi_2 h)) dX6_count_108
