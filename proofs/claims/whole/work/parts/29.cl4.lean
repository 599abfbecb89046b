def fn_X1_sortOf_L33 (z0 : Int32) (s0 : Int32) : Option Int32 := some s0
def fn_X1_sortOf_L32 (z0 : Int32)  : Option Int32 := ((fn_X1_sortOf_L33 z0) (nI 3))
def fn_X1_sortOf_L16 (z0 : Int32)  : Option Int32 := (if z0 < nI 48 then ((fn_X1_sortOf_L32 z0) ) else (if nI 57 < z0 then ((fn_X1_sortOf_L32 z0) ) else ((fn_X1_sortOf_L33 z0) (nI 2))))
def fn_X1_sortOf (z0 : Int32) : Option Int32 := (if z0 < nI 97 then ((fn_X1_sortOf_L16 z0) ) else (if nI 122 < z0 then ((fn_X1_sortOf_L16 z0) ) else ((fn_X1_sortOf_L33 z0) (nI 1))))
def fn_X1_addBytesOf_L48 (ε : Ev) (z1 : Int32)  (σ : Sg) : Option (Unit × Sg) := some ((), σ)
def fn_X1_addBytesOf_L42 (ε : Ev) (z1 : Int32) (slf : Int32 → Sg → Option (Unit × Sg)) (k48 : Sg → Option (Unit × Sg)) (v2 : Int32) (σ : Sg) : Option (Unit × Sg) := (slf ((v2 + (-8))) σ)
def fn_X1_addBytesOf_L3 (ε : Ev) (z1 : Int32) (k48 : Sg → Option (Unit × Sg)) : Nat → Int32 → Sg → Option (Unit × Sg)
  | 0 => fun _ _ => none
  | fuel + 1 => fun (v2 : Int32) (σ : Sg) => (if v2 < 0 then (k48  σ) else (if nI 96 ≤ σ.1 64 1 then ((fn_X1_addBytesOf_L42 ε z1 (fn_X1_addBytesOf_L3 ε z1 k48 fuel) k48) v2 σ) else (if ¬ (σ.1 64 1 < 0 ∨ 96 ≤ (σ.1 64 1).toNatClampNeg) then ((fn_X1_addBytesOf_L42 ε z1 (fn_X1_addBytesOf_L3 ε z1 k48 fuel) k48) v2 (pI (pI σ 65 (σ.1 64 1).toNatClampNeg (((Int32.toUInt32 (z1) >>> (Int32.toUInt32 (v2) &&& Int32.toUInt32 31)).toInt32 &&& nI 255))) 64 1 (((pI σ 65 (σ.1 64 1).toNatClampNeg (((Int32.toUInt32 (z1) >>> (Int32.toUInt32 (v2) &&& Int32.toUInt32 31)).toInt32 &&& nI 255))).1 64 1 + nI 1)))) else none)))
def fn_X1_addBytesOf (ε : Ev) (z1 : Int32) (σ : Sg) : Option (Unit × Sg) := ((fn_X1_addBytesOf_L3 ε z1 (fn_X1_addBytesOf_L48 ε z1) 4000) (nI 24) σ)
def fn_X1_goNext_L207 (ε : Ev)  (σ : Sg) : Option (Unit × Sg) := some ((), σ)
def fn_X1_goNext_L202 (ε : Ev)  (σ : Sg) : Option (Unit × Sg) := ((fn_X1_goNext_L207 ε)  (pI σ 64 4 (nI 4)))
def fn_X1_goNext_L174 (ε : Ev) (v1 : Int32) (v2 : Int32) (σ : Sg) : Option (Unit × Sg) := (if v1 = 0 then ((fn_X1_goNext_L207 ε)  σ) else (if σ.1 64 2 = v2 then (if σ.1 64 4 = nI 1 then ((fn_X1_goNext_L202 ε)  σ) else (if σ.1 64 4 = nI 2 then ((fn_X1_goNext_L202 ε)  σ) else ((fn_X1_goNext_L207 ε)  σ))) else ((fn_X1_goNext_L207 ε)  σ)))
def fn_X1_goNext_L161 (ε : Ev) (slf : Int32 → Int32 → Sg → Option (Unit × Sg)) (k174 : Int32 → Int32 → Sg → Option (Unit × Sg)) (v1 : Int32) (v2 : Int32) (σ : Sg) : Option (Unit × Sg) := (slf v1 v2 (pI σ 64 3 ((σ.1 64 3 + nI 1))))
def fn_X1_goNext_L112 (ε : Ev) (k174 : Int32 → Int32 → Sg → Option (Unit × Sg)) : Nat → Int32 → Int32 → Sg → Option (Unit × Sg)
  | 0 => fun _ _ _ => none
  | fuel + 1 => fun (v1 : Int32) (v2 : Int32) (σ : Sg) => (if σ.1 64 1 ≤ σ.1 64 3 then (k174 v1 v2 σ) else (if ¬ (σ.1 64 3 < 0 ∨ 96 ≤ (σ.1 64 3).toNatClampNeg) then (o1 (fn_X1_sortOf (σ.1 65 (σ.1 64 3).toNatClampNeg)) (fun y132 => (if y132 = σ.1 64 4 then (if σ.1 64 3 = σ.1 64 2 then ((fn_X1_goNext_L161 ε (fn_X1_goNext_L112 ε k174 fuel) k174) v1 v2 σ) else (if σ.1 64 4 = nI 3 then (k174 v1 v2 σ) else ((fn_X1_goNext_L161 ε (fn_X1_goNext_L112 ε k174 fuel) k174) v1 v2 σ))) else (k174 v1 v2 σ)))) else none))
def fn_X1_goNext_L109 (ε : Ev) (v1 : Int32) (v2 : Int32) (s0 : Int32) (σ : Sg) : Option (Unit × Sg) := ((fn_X1_goNext_L112 ε (fn_X1_goNext_L174 ε) 4000) v1 v2 (pI σ 64 4 s0))
def fn_X1_goNext_L73 (ε : Ev) (v1 : Int32) (v2 : Int32) (σ : Sg) : Option (Unit × Sg) := (if (pI σ 64 3 (σ.1 64 2)).1 64 1 ≤ (pI σ 64 3 (σ.1 64 2)).1 64 2 then ((fn_X1_goNext_L109 ε) v1 v2 (nI 0) (pI σ 64 3 (σ.1 64 2))) else (if ¬ ((pI σ 64 3 (σ.1 64 2)).1 64 2 < 0 ∨ 96 ≤ ((pI σ 64 3 (σ.1 64 2)).1 64 2).toNatClampNeg) then (o1 (fn_X1_sortOf ((pI σ 64 3 (σ.1 64 2)).1 65 ((pI σ 64 3 (σ.1 64 2)).1 64 2).toNatClampNeg)) (fun y102 => ((fn_X1_goNext_L109 ε) v1 v2 y102 (pI σ 64 3 (σ.1 64 2))))) else none))
def fn_X1_goNext_L35 (ε : Ev) (k73 : Int32 → Int32 → Sg → Option (Unit × Sg)) : Nat → Int32 → Int32 → Sg → Option (Unit × Sg)
  | 0 => fun _ _ _ => none
  | fuel + 1 => fun (v1 : Int32) (v2 : Int32) (σ : Sg) => (if σ.1 64 1 ≤ σ.1 64 2 then (k73 v1 v2 σ) else (if ¬ (σ.1 64 2 < 0 ∨ 96 ≤ (σ.1 64 2).toNatClampNeg) then (if σ.1 65 (σ.1 64 2).toNatClampNeg = nI 32 then ((fn_X1_goNext_L35 ε k73 fuel) v1 v2 (pI σ 64 2 ((σ.1 64 2 + nI 1)))) else (k73 v1 v2 σ)) else none))
def fn_X1_goNext_L21 (ε : Ev) (s0 : Int32) (σ : Sg) : Option (Unit × Sg) := ((fn_X1_goNext_L35 ε (fn_X1_goNext_L73 ε) 4000) s0 (σ.1 64 3) (pI σ 64 2 (σ.1 64 3)))
def fn_X1_goNext_L16 (ε : Ev)  (σ : Sg) : Option (Unit × Sg) := ((fn_X1_goNext_L21 ε) (nI 1) σ)
def fn_X1_goNext (ε : Ev) (σ : Sg) : Option (Unit × Sg) := (if σ.1 64 4 = nI 1 then ((fn_X1_goNext_L16 ε)  σ) else (if σ.1 64 4 = nI 2 then ((fn_X1_goNext_L16 ε)  σ) else ((fn_X1_goNext_L21 ε) (nI 0) σ)))
def fn_X1_isAt_L37 (ε : Ev) (z1 : Int32) (s0 : Int32) (σ : Sg) : Option (Int32 × Sg) := (if s0 = 0 ∨ s0 = 1 then some (s0, σ) else none)
def fn_X1_isAt_L36 (ε : Ev) (z1 : Int32)  (σ : Sg) : Option (Int32 × Sg) := ((fn_X1_isAt_L37 ε z1) (nI 0) σ)
def fn_X1_isAt (ε : Ev) (z1 : Int32) (σ : Sg) : Option (Int32 × Sg) := (if σ.1 64 4 = nI 3 then (if σ.1 64 1 ≤ σ.1 64 2 then ((fn_X1_isAt_L36 ε z1)  σ) else (if ¬ (σ.1 64 2 < 0 ∨ 96 ≤ (σ.1 64 2).toNatClampNeg) then (if σ.1 65 (σ.1 64 2).toNatClampNeg = z1 then ((fn_X1_isAt_L37 ε z1) (nI 1) σ) else ((fn_X1_isAt_L36 ε z1)  σ)) else none)) else ((fn_X1_isAt_L36 ε z1)  σ))
def fn_X1_write_L29 (ε : Ev) (z1 : Int32)  (σ : Sg) : Option (Unit × Sg) := some ((), σ)
def fn_X1_write (ε : Ev) (z1 : Int32) (σ : Sg) : Option (Unit × Sg) := (if nI 96 ≤ σ.1 64 7 then ((fn_X1_write_L29 ε z1)  σ) else (if ¬ (σ.1 64 7 < 0 ∨ 96 ≤ (σ.1 64 7).toNatClampNeg) then ((fn_X1_write_L29 ε z1)  (pI (pI σ 66 (σ.1 64 7).toNatClampNeg z1) 64 7 (((pI σ 66 (σ.1 64 7).toNatClampNeg z1).1 64 7 + nI 1)))) else none))
def fn_X1_passed_L34 (ε : Ev) (z1 : Int32) (z2 : Int32) (v3 : Int32) (σ : Sg) : Option (Int32 × Sg) := some (v3, σ)
def fn_X1_passed_L25 (ε : Ev) (z1 : Int32) (z2 : Int32) (s0 : Int32) (σ : Sg) : Option (Int32 × Sg) := (if s0 = 0 then ((fn_X1_passed_L34 ε z1 z2) s0 σ) else (ob (fn_X1_goNext ε  σ) (fun y31 τ31 => ((fn_X1_passed_L34 ε z1 z2) s0 τ31))))
def fn_X1_passed (ε : Ev) (z1 : Int32) (z2 : Int32) (σ : Sg) : Option (Int32 × Sg) := (ob (fn_X1_isAt ε z1 σ) (fun y2 τ2 => (if y2 = 0 then (ob (fn_X1_isAt ε z2 τ2) (fun y14 τ14 => (if y14 = 0 then ((fn_X1_passed_L25 ε z1 z2) (nI 0) τ14) else ((fn_X1_passed_L25 ε z1 z2) z2 τ14)))) else ((fn_X1_passed_L25 ε z1 z2) z1 τ2))))
def fn_X1_takePiece (ε : Ev) (z1 : Int32) (σ : Sg) : Option (Int32 × Sg) := (ob (fn_X1_write ε z1 σ) (fun y2 τ2 => (ob (fn_X1_goNext ε  (pI τ2 64 8 ((τ2.1 64 8 + nI 1)))) (fun y16 τ16 => some (nI 1, τ16)))))
def fn_X1_isNumber_L51 (ε : Ev) (v1 : Int32) (σ : Sg) : Option (Int32 × Sg) := (ob (fn_X1_takePiece ε v1 σ) (fun y53 τ53 => (if y53 = 0 ∨ y53 = 1 then some (y53, τ53) else none)))
def fn_X1_isNumber_L22 (ε : Ev) (k51 : Int32 → Sg → Option (Int32 × Sg)) : Nat → Int32 → Int32 → Sg → Option (Int32 × Sg)
  | 0 => fun _ _ _ => none
  | fuel + 1 => fun (v1 : Int32) (v2 : Int32) (σ : Sg) => (if σ.1 64 3 ≤ v2 then (k51 v1 σ) else (if ¬ (v2 < 0 ∨ 96 ≤ v2.toNatClampNeg) then ((fn_X1_isNumber_L22 ε k51 fuel) ((((nI 10 * v1) + σ.1 65 v2.toNatClampNeg) - nI 48)) ((v2 + nI 1)) σ) else none))
def fn_X1_isNumber (ε : Ev) (σ : Sg) : Option (Int32 × Sg) := (if (σ.1 64 3 - σ.1 64 2) ≤ nI 4 then ((fn_X1_isNumber_L22 ε (fn_X1_isNumber_L51 ε) 4000) (nI 0) (σ.1 64 2) σ) else some (nI 0, σ))
theorem kX1_sortOf : mKS yX1_sortOf cX1_sortOf 1 (some .int) 1 := ⟨tSta_X1_sortOf, tIni_X1, tCod_X1_sortOf, by decide +kernel⟩
set_option maxHeartbeats 4000000 in
set_option maxRecDepth 100000 in
theorem ct_X1_sortOf (l : Launch) (D : va_G) (cy : Nat → ClassId) (Z : (Nat → Prop) → State → Heap → Prop) (hzo : zOK Z) {aStr aByt : Nat → Nat} (hzs : zSt Z aStr aByt) (w : va_W) (z0 : Int32) (res : Int32) (h : fn_X1_sortOf z0 = some res) : GD l D cy Z yX1_sortOf (zW yX1_sortOf cX1_sortOf 1 (some .int)) { frames := 0, cells := 0, slots := 0, locals := 0 } [.int (z0)] w (some (.int res)) w 0 0 := by
  refine g_entry (cc := cX1_sortOf) (maxL := 1) (by decide) rfl (Nat.le_of_ble_eq_true rfl) ?_
  intro κ hN hX hR
  have hX : GX κ cy Z cX1_sortOf (Cond.code yX1_sortOf cX1_sortOf 1 (some .int) :: zT) RX1 { frames := 0, cells := 0, slots := 0, locals := 0 } := hX
  have J33 : ∀ (s0 : Int32) , fn_X1_sortOf_L33 z0 s0 = some res → GW κ 0 0 w 33 [] [.int (s0)] := by
    intro s0 h
    exact g_reti hR (oi_0 h) rfl dX1_sortOf_33
  have J32 : fn_X1_sortOf_L32 z0  = some res → GW κ 0 0 w 32 [] [] := by
    intro h
    refine g_iconst hX (v := nI 3) rfl dX1_sortOf_32 ?_
    exact J33 (nI 3)  h
  have J16 : fn_X1_sortOf_L16 z0  = some res → GW κ 0 0 w 16 [(0, .int (z0))] [] := by
    intro h
    refine g_iload_n hX 0 rfl rfl dX1_sortOf_16 ?_
    refine g_bipush hX (v := nI 48) (by decide) dX1_sortOf_17 ?_
    refine g_icmp_lt hX 32 (by decide) dX1_sortOf_19 (fun b19 => ?_) (fun b19 => ?_)
    · replace h := if_p b19 h
      refine g_lv [] rfl ?_
      exact J32   h
    · replace h := if_n b19 h
      refine g_iload_n hX 0 rfl rfl dX1_sortOf_22 ?_
      refine g_bipush hX (v := nI 57) (by decide) dX1_sortOf_23 ?_
      refine g_icmp_gt hX 32 (by decide) dX1_sortOf_25 (fun b25 => ?_) (fun b25 => ?_)
      · replace h := if_p b25 h
        refine g_lv [] rfl ?_
        exact J32   h
      · replace h := if_n b25 h
        refine g_iconst hX (v := nI 2) rfl dX1_sortOf_28 ?_
        refine g_goto hX 33 (by decide) dX1_sortOf_29 ?_
        refine g_lv [] rfl ?_
        exact J33 (nI 2)  h
  show GW κ 0 0 w 0 [(0, .int (z0))] []
  refine g_iload_n hX 0 rfl rfl dX1_sortOf_0 ?_
  refine g_bipush hX (v := nI 97) (by decide) dX1_sortOf_1 ?_
  refine g_icmp_lt hX 16 (by decide) dX1_sortOf_3 (fun b3 => ?_) (fun b3 => ?_)
  · replace h := if_p b3 h
    exact J16   h
  · replace h := if_n b3 h
    refine g_iload_n hX 0 rfl rfl dX1_sortOf_6 ?_
    refine g_bipush hX (v := nI 122) (by decide) dX1_sortOf_7 ?_
    refine g_icmp_gt hX 16 (by decide) dX1_sortOf_9 (fun b9 => ?_) (fun b9 => ?_)
    · replace h := if_p b9 h
      exact J16   h
    · replace h := if_n b9 h
      refine g_iconst hX (v := nI 1) rfl dX1_sortOf_12 ?_
      refine g_goto hX 33 (by decide) dX1_sortOf_13 ?_
      refine g_lv [] rfl ?_
      exact J33 (nI 1)  h
theorem kX1_addBytesOf : mKV RX1 yX1_addBytesOf cX1_addBytesOf 3 none 1 := ⟨tIns_X1_addBytesOf, tSel_X1_addBytesOf, tIni_X1, tCod_X1_addBytesOf, by decide +kernel⟩
set_option maxHeartbeats 4000000 in
set_option maxRecDepth 100000 in
theorem ct_X1_addBytesOf (l : Launch) (D : va_G) (cy : Nat → ClassId) (Z : (Nat → Prop) → State → Heap → Prop) (hzo : zOK Z) {aStr aByt : Nat → Nat} (hzs : zSt Z aStr aByt) {q : Nat → Nat} {C : Ev → Sg → va_W} (hC : cLens cy q C) (ε : Ev) (z1 : Int32) (σ σ2 : Sg) (res : Unit) (h : fn_X1_addBytesOf ε z1 σ = some (res, σ2)) : GD l D cy Z yX1_addBytesOf (zW yX1_addBytesOf cX1_addBytesOf 3 none) { frames := 0, cells := 0, slots := 0, locals := 0 } [.ref (sAd ε (64)), .int (z1)] (C ε σ) none (C ε σ2) 0 0 := by
  refine g_entry (cc := cX1_addBytesOf) (maxL := 3) (by decide) rfl (Nat.le_of_ble_eq_true rfl) ?_
  intro κ hN hX hR
  have hX : GX κ cy Z cX1_addBytesOf (Cond.code yX1_addBytesOf cX1_addBytesOf 3 none :: zT) RX1 { frames := 0, cells := 0, slots := 0, locals := 0 } := hX
  have J48 : ∀ (σ : Sg) , fn_X1_addBytesOf_L48 ε z1  σ = some (res, σ2) → GW κ 0 0 (C ε σ) 48 [] [] := by
    intro σ h
    exact g_retv hR (congrArg (C ε) (oi_2 h)) dX1_addBytesOf_48
  have J42 : ∀ (slf : Int32 → Sg → Option (Unit × Sg)) (hslf : ∀ (v2 : Int32) (σ : Sg) , slf v2 σ = some (res, σ2) → GW κ 0 0 (C ε σ) 3 [(0, .ref (sAd ε (64))), (1, .int (z1)), (2, .int (v2))] []) (k48 : Sg → Option (Unit × Sg)) (hk48 : ∀ (σ : Sg) , k48  σ = some (res, σ2) → GW κ 0 0 (C ε σ) 48 [] []), ∀ (v2 : Int32) (σ : Sg) , fn_X1_addBytesOf_L42 ε z1 slf k48 v2 σ = some (res, σ2) → GW κ 0 0 (C ε σ) 42 [(0, .ref (sAd ε (64))), (1, .int (z1)), (2, .int (v2))] [] := by
    intro slf hslf k48 hk48 v2 σ h
    refine g_iinc (v := (v2 + (-8))) (lv2 := [(2, .int ((v2 + (-8)))), (0, .ref (sAd ε (64))), (1, .int (z1))]) hX 2 2 3 hN rfl (by rw [show Int32.ofInt (-8) = (-8 : Int32) from by decide]) (by decide) rfl dX1_addBytesOf_42 ?_
    refine g_goto hX 3 (by decide) dX1_addBytesOf_45 ?_
    refine g_lv [1, 2, 0] rfl ?_
    exact hslf ((v2 + (-8)))  σ h
  have J3 : ∀ (k48 : Sg → Option (Unit × Sg)) (hk48 : ∀ (σ : Sg) , k48  σ = some (res, σ2) → GW κ 0 0 (C ε σ) 48 [] []) (fuel : Nat), ∀ (v2 : Int32) (σ : Sg) , fn_X1_addBytesOf_L3 ε z1 k48 fuel v2 σ = some (res, σ2) → GW κ 0 0 (C ε σ) 3 [(0, .ref (sAd ε (64))), (1, .int (z1)), (2, .int (v2))] [] := by
    intro k48 hk48 fuel
    induction fuel with
    | zero => intro v2 σ h; cases (show none = some (res, σ2) from h)
    | succ fuel ih =>
      intro v2 σ h
      replace h : (if v2 < 0 then (k48  σ) else (if nI 96 ≤ σ.1 64 1 then ((fn_X1_addBytesOf_L42 ε z1 (fn_X1_addBytesOf_L3 ε z1 k48 fuel) k48) v2 σ) else (if ¬ (σ.1 64 1 < 0 ∨ 96 ≤ (σ.1 64 1).toNatClampNeg) then ((fn_X1_addBytesOf_L42 ε z1 (fn_X1_addBytesOf_L3 ε z1 k48 fuel) k48) v2 (pI (pI σ 65 (σ.1 64 1).toNatClampNeg (((Int32.toUInt32 (z1) >>> (Int32.toUInt32 (v2) &&& Int32.toUInt32 31)).toInt32 &&& nI 255))) 64 1 (((pI σ 65 (σ.1 64 1).toNatClampNeg (((Int32.toUInt32 (z1) >>> (Int32.toUInt32 (v2) &&& Int32.toUInt32 31)).toInt32 &&& nI 255))).1 64 1 + nI 1)))) else none))) = some (res, σ2) := h
      refine g_iload_n hX 2 rfl rfl dX1_addBytesOf_3 ?_
      refine g_if_lt hX 48 (by decide) dX1_addBytesOf_4 (fun b4 => ?_) (fun b4 => ?_)
      · replace h := if_p b4 h
        refine g_lv [] rfl ?_
        exact hk48   σ h
      · replace h := if_n b4 h
        refine g_aload_n hX 0 rfl rfl dX1_addBytesOf_7 ?_
        refine c_get1 hX hC rfl 1 (by decide) rfl tFld_X1_15 rfl dX1_addBytesOf_8 ?_
        refine g_bipush hX (v := nI 96) (by decide) dX1_addBytesOf_11 ?_
        refine g_icmp_ge hX 42 (by decide) dX1_addBytesOf_13 (fun b13 => ?_) (fun b13 => ?_)
        · replace h := if_p b13 h
          exact (J42 (fn_X1_addBytesOf_L3 ε z1 k48 fuel) ih k48 hk48) v2  σ h
        · replace h := if_n b13 h
          refine g_aload_n hX 0 rfl rfl dX1_addBytesOf_16 ?_
          refine c_get1 hX hC rfl 0 (by decide) rfl tFld_X1_9 rfl dX1_addBytesOf_17 ?_
          refine g_aload_n hX 0 rfl rfl dX1_addBytesOf_20 ?_
          refine c_get1 hX hC rfl 1 (by decide) rfl tFld_X1_15 rfl dX1_addBytesOf_21 ?_
          refine g_iload_n hX 1 rfl rfl dX1_addBytesOf_24 ?_
          refine g_iload_n hX 2 rfl rfl dX1_addBytesOf_25 ?_
          refine g_iushr hX dX1_addBytesOf_26 ?_
          refine g_sipush hX (v := nI 255) (by decide) dX1_addBytesOf_27 ?_
          refine g_iand hX dX1_addBytesOf_30 ?_
          obtain ⟨g1, h⟩ := gd_some h
          refine c_ast hX hC (ka_X1_1 rfl) g1 dX1_addBytesOf_31 ?_
          refine g_aload_n hX 0 rfl rfl dX1_addBytesOf_32 ?_
          refine g_dup hX rfl dX1_addBytesOf_33 ?_
          refine c_get1 hX hC rfl 1 (by decide) rfl tFld_X1_15 rfl dX1_addBytesOf_34 ?_
          refine g_iconst hX (v := nI 1) rfl dX1_addBytesOf_37 ?_
          refine g_iadd hX dX1_addBytesOf_38 ?_
          refine c_put1 (ty := .int) hX hC rfl 1 (by decide) (cs_X1 ε _ _ _).1 rfl (by decide +kernel) rfl rfl tFld_X1_15 rfl dX1_addBytesOf_39 ?_
          exact (J42 (fn_X1_addBytesOf_L3 ε z1 k48 fuel) ih k48 hk48) v2  (pI (pI σ 65 (σ.1 64 1).toNatClampNeg (((Int32.toUInt32 (z1) >>> (Int32.toUInt32 (v2) &&& Int32.toUInt32 31)).toInt32 &&& nI 255))) 64 1 (((pI σ 65 (σ.1 64 1).toNatClampNeg (((Int32.toUInt32 (z1) >>> (Int32.toUInt32 (v2) &&& Int32.toUInt32 31)).toInt32 &&& nI 255))).1 64 1 + nI 1))) h
  show GW κ 0 0 (C ε σ) 0 [(0, .ref (sAd ε (64))), (1, .int (z1))] []
  refine g_bipush hX (v := nI 24) (by decide) dX1_addBytesOf_0 ?_
  refine g_istore_n (lv2 := [(2, .int (nI 24)), (0, .ref (sAd ε (64))), (1, .int (z1))]) hX 2 3 hN rfl (by decide) rfl dX1_addBytesOf_2 ?_
  refine g_lv [1, 2, 0] rfl ?_
  exact (J3 (fn_X1_addBytesOf_L48 ε z1) J48 4000) (nI 24)  σ h
theorem kX1_goNext : mKV RX1 yX1_goNext cX1_goNext 3 none 0 := ⟨tIns_X1_goNext, tSel_X1_goNext, tIni_X1, tCod_X1_goNext, by decide +kernel⟩
set_option maxHeartbeats 4000000 in
set_option maxRecDepth 100000 in
theorem ct_X1_goNext (l : Launch) (D : va_G) (cy : Nat → ClassId) (Z : (Nat → Prop) → State → Heap → Prop) (hzo : zOK Z) {aStr aByt : Nat → Nat} (hzs : zSt Z aStr aByt) {q : Nat → Nat} {C : Ev → Sg → va_W} (hC : cLens cy q C) (ε : Ev) (σ σ2 : Sg) (res : Unit) (h : fn_X1_goNext ε σ = some (res, σ2)) : GD l D cy Z yX1_goNext (zW yX1_goNext cX1_goNext 3 none) { frames := 1, cells := 0, slots := 0, locals := 20 } [.ref (sAd ε (64))] (C ε σ) none (C ε σ2) 0 0 := by
  refine g_entry (cc := cX1_goNext) (maxL := 3) (by decide) rfl (Nat.le_of_ble_eq_true rfl) ?_
  intro κ hN hX hR
  have hX : GX κ cy Z cX1_goNext (Cond.code yX1_goNext cX1_goNext 3 none :: zT) RX1 { frames := 1, cells := 0, slots := 0, locals := 20 } := hX
  have J207 : ∀ (σ : Sg) , fn_X1_goNext_L207 ε  σ = some (res, σ2) → GW κ 0 0 (C ε σ) 207 [] [] := by
    intro σ h
    exact g_retv hR (congrArg (C ε) (oi_2 h)) dX1_goNext_207
  have J202 : ∀ (σ : Sg) , fn_X1_goNext_L202 ε  σ = some (res, σ2) → GW κ 0 0 (C ε σ) 202 [(0, .ref (sAd ε (64)))] [] := by
    intro σ h
    refine g_aload_n hX 0 rfl rfl dX1_goNext_202 ?_
    refine g_iconst hX (v := nI 4) rfl dX1_goNext_203 ?_
    refine c_put1 (ty := .int) hX hC rfl 4 (by decide) (cs_X1 ε _ _ _).2.2.2.1 rfl (by decide +kernel) rfl rfl tFld_X1_25 rfl dX1_goNext_204 ?_
    refine g_lv [] rfl ?_
    exact J207   (pI σ 64 4 (nI 4)) h
  have J174 : ∀ (v1 : Int32) (v2 : Int32) (σ : Sg) , fn_X1_goNext_L174 ε v1 v2 σ = some (res, σ2) → GW κ 0 0 (C ε σ) 174 [(0, .ref (sAd ε (64))), (1, .int (v1)), (2, .int (v2))] [] := by
    intro v1 v2 σ h
    refine g_iload_n hX 1 rfl rfl dX1_goNext_174 ?_
    refine g_if_eq hX 207 (by decide) dX1_goNext_175 (fun b175 => ?_) (fun b175 => ?_)
    · replace h := if_p b175 h
      refine g_lv [] rfl ?_
      exact J207   σ h
    · replace h := if_n b175 h
      refine g_aload_n hX 0 rfl rfl dX1_goNext_178 ?_
      refine c_get1 hX hC rfl 2 (by decide) rfl tFld_X1_19 rfl dX1_goNext_179 ?_
      refine g_iload_n hX 2 rfl rfl dX1_goNext_182 ?_
      refine g_icmp_ne hX 207 (by decide) dX1_goNext_183 (fun b183 => ?_) (fun b183 => ?_)
      · replace h := if_n b183 h
        refine g_lv [] rfl ?_
        exact J207   σ h
      · replace h := if_p b183 h
        refine g_aload_n hX 0 rfl rfl dX1_goNext_186 ?_
        refine c_get1 hX hC rfl 4 (by decide) rfl tFld_X1_25 rfl dX1_goNext_187 ?_
        refine g_iconst hX (v := nI 1) rfl dX1_goNext_190 ?_
        refine g_icmp_eq hX 202 (by decide) dX1_goNext_191 (fun b191 => ?_) (fun b191 => ?_)
        · replace h := if_p b191 h
          refine g_lv [0] rfl ?_
          exact J202   σ h
        · replace h := if_n b191 h
          refine g_aload_n hX 0 rfl rfl dX1_goNext_194 ?_
          refine c_get1 hX hC rfl 4 (by decide) rfl tFld_X1_25 rfl dX1_goNext_195 ?_
          refine g_iconst hX (v := nI 2) rfl dX1_goNext_198 ?_
          refine g_icmp_ne hX 207 (by decide) dX1_goNext_199 (fun b199 => ?_) (fun b199 => ?_)
          · replace h := if_n b199 h
            refine g_lv [] rfl ?_
            exact J207   σ h
          · replace h := if_p b199 h
            refine g_lv [0] rfl ?_
            exact J202   σ h
  have J161 : ∀ (slf : Int32 → Int32 → Sg → Option (Unit × Sg)) (hslf : ∀ (v1 : Int32) (v2 : Int32) (σ : Sg) , slf v1 v2 σ = some (res, σ2) → GW κ 0 0 (C ε σ) 112 [(0, .ref (sAd ε (64))), (1, .int (v1)), (2, .int (v2))] []) (k174 : Int32 → Int32 → Sg → Option (Unit × Sg)) (hk174 : ∀ (v1 : Int32) (v2 : Int32) (σ : Sg) , k174 v1 v2 σ = some (res, σ2) → GW κ 0 0 (C ε σ) 174 [(0, .ref (sAd ε (64))), (1, .int (v1)), (2, .int (v2))] []), ∀ (v1 : Int32) (v2 : Int32) (σ : Sg) , fn_X1_goNext_L161 ε slf k174 v1 v2 σ = some (res, σ2) → GW κ 0 0 (C ε σ) 161 [(0, .ref (sAd ε (64))), (1, .int (v1)), (2, .int (v2))] [] := by
    intro slf hslf k174 hk174 v1 v2 σ h
    refine g_aload_n hX 0 rfl rfl dX1_goNext_161 ?_
    refine g_dup hX rfl dX1_goNext_162 ?_
    refine c_get1 hX hC rfl 3 (by decide) rfl tFld_X1_22 rfl dX1_goNext_163 ?_
    refine g_iconst hX (v := nI 1) rfl dX1_goNext_166 ?_
    refine g_iadd hX dX1_goNext_167 ?_
    refine c_put1 (ty := .int) hX hC rfl 3 (by decide) (cs_X1 ε _ _ _).2.2.1 rfl (by decide +kernel) rfl rfl tFld_X1_22 rfl dX1_goNext_168 ?_
    refine g_goto hX 112 (by decide) dX1_goNext_171 ?_
    exact hslf v1 v2  (pI σ 64 3 ((σ.1 64 3 + nI 1))) h
  have J112 : ∀ (k174 : Int32 → Int32 → Sg → Option (Unit × Sg)) (hk174 : ∀ (v1 : Int32) (v2 : Int32) (σ : Sg) , k174 v1 v2 σ = some (res, σ2) → GW κ 0 0 (C ε σ) 174 [(0, .ref (sAd ε (64))), (1, .int (v1)), (2, .int (v2))] []) (fuel : Nat), ∀ (v1 : Int32) (v2 : Int32) (σ : Sg) , fn_X1_goNext_L112 ε k174 fuel v1 v2 σ = some (res, σ2) → GW κ 0 0 (C ε σ) 112 [(0, .ref (sAd ε (64))), (1, .int (v1)), (2, .int (v2))] [] := by
    intro k174 hk174 fuel
    induction fuel with
    | zero => intro v1 v2 σ h; cases (show none = some (res, σ2) from h)
    | succ fuel ih =>
      intro v1 v2 σ h
      replace h : (if σ.1 64 1 ≤ σ.1 64 3 then (k174 v1 v2 σ) else (if ¬ (σ.1 64 3 < 0 ∨ 96 ≤ (σ.1 64 3).toNatClampNeg) then (o1 (fn_X1_sortOf (σ.1 65 (σ.1 64 3).toNatClampNeg)) (fun y132 => (if y132 = σ.1 64 4 then (if σ.1 64 3 = σ.1 64 2 then ((fn_X1_goNext_L161 ε (fn_X1_goNext_L112 ε k174 fuel) k174) v1 v2 σ) else (if σ.1 64 4 = nI 3 then (k174 v1 v2 σ) else ((fn_X1_goNext_L161 ε (fn_X1_goNext_L112 ε k174 fuel) k174) v1 v2 σ))) else (k174 v1 v2 σ)))) else none)) = some (res, σ2) := h
      refine g_aload_n hX 0 rfl rfl dX1_goNext_112 ?_
      refine c_get1 hX hC rfl 3 (by decide) rfl tFld_X1_22 rfl dX1_goNext_113 ?_
      refine g_aload_n hX 0 rfl rfl dX1_goNext_116 ?_
      refine c_get1 hX hC rfl 1 (by decide) rfl tFld_X1_15 rfl dX1_goNext_117 ?_
      refine g_icmp_ge hX 174 (by decide) dX1_goNext_120 (fun b120 => ?_) (fun b120 => ?_)
      · replace h := if_p b120 h
        exact hk174 v1 v2  σ h
      · replace h := if_n b120 h
        refine g_aload_n hX 0 rfl rfl dX1_goNext_123 ?_
        refine c_get1 hX hC rfl 0 (by decide) rfl tFld_X1_9 rfl dX1_goNext_124 ?_
        refine g_aload_n hX 0 rfl rfl dX1_goNext_127 ?_
        refine c_get1 hX hC rfl 3 (by decide) rfl tFld_X1_22 rfl dX1_goNext_128 ?_
        obtain ⟨g1, h⟩ := gd_some h
        refine c_ald hX hC (ka_X1_1 rfl) g1 dX1_goNext_131 ?_
        obtain ⟨y132, e132, h⟩ := o1_some h
        refine s_call hX hzo [.int (σ.1 65 (σ.1 64 3).toNatClampNeg)] [] (ct_X1_sortOf _ _ _ _ hzo hzs _ (σ.1 65 (σ.1 64 3).toNatClampNeg) _ e132) kX1_sortOf tMet_X1_62 rfl rfl (Nat.le_of_ble_eq_true rfl) (Nat.le_of_ble_eq_true rfl) ⟨Nat.le_of_ble_eq_true rfl, Nat.le_of_ble_eq_true rfl⟩ rfl rfl (Nat.le_of_ble_eq_true rfl) dX1_goNext_132 ?_
        refine g_aload_n hX 0 rfl rfl dX1_goNext_135 ?_
        refine c_get1 hX hC rfl 4 (by decide) rfl tFld_X1_25 rfl dX1_goNext_136 ?_
        refine g_icmp_ne hX 174 (by decide) dX1_goNext_139 (fun b139 => ?_) (fun b139 => ?_)
        · replace h := if_n b139 h
          exact hk174 v1 v2  σ h
        · replace h := if_p b139 h
          refine g_aload_n hX 0 rfl rfl dX1_goNext_142 ?_
          refine c_get1 hX hC rfl 3 (by decide) rfl tFld_X1_22 rfl dX1_goNext_143 ?_
          refine g_aload_n hX 0 rfl rfl dX1_goNext_146 ?_
          refine c_get1 hX hC rfl 2 (by decide) rfl tFld_X1_19 rfl dX1_goNext_147 ?_
          refine g_icmp_eq hX 161 (by decide) dX1_goNext_150 (fun b150 => ?_) (fun b150 => ?_)
          · replace h := if_p b150 h
            exact (J161 (fn_X1_goNext_L112 ε k174 fuel) ih k174 hk174) v1 v2  σ h
          · replace h := if_n b150 h
            refine g_aload_n hX 0 rfl rfl dX1_goNext_153 ?_
            refine c_get1 hX hC rfl 4 (by decide) rfl tFld_X1_25 rfl dX1_goNext_154 ?_
            refine g_iconst hX (v := nI 3) rfl dX1_goNext_157 ?_
            refine g_icmp_eq hX 174 (by decide) dX1_goNext_158 (fun b158 => ?_) (fun b158 => ?_)
            · replace h := if_p b158 h
              exact hk174 v1 v2  σ h
            · replace h := if_n b158 h
              exact (J161 (fn_X1_goNext_L112 ε k174 fuel) ih k174 hk174) v1 v2  σ h
  have J109 : ∀ (v1 : Int32) (v2 : Int32) (s0 : Int32) (σ : Sg) , fn_X1_goNext_L109 ε v1 v2 s0 σ = some (res, σ2) → GW κ 0 0 (C ε σ) 109 [(0, .ref (sAd ε (64))), (1, .int (v1)), (2, .int (v2))] [.int (s0), .ref (sAd ε (64))] := by
    intro v1 v2 s0 σ h
    refine c_put1 (ty := .int) hX hC rfl 4 (by decide) (cs_X1 ε _ _ _).2.2.2.1 rfl (by decide +kernel) rfl rfl tFld_X1_25 rfl dX1_goNext_109 ?_
    exact (J112 (fn_X1_goNext_L174 ε) J174 4000) v1 v2  (pI σ 64 4 s0) h
  have J73 : ∀ (v1 : Int32) (v2 : Int32) (σ : Sg) , fn_X1_goNext_L73 ε v1 v2 σ = some (res, σ2) → GW κ 0 0 (C ε σ) 73 [(0, .ref (sAd ε (64))), (1, .int (v1)), (2, .int (v2))] [] := by
    intro v1 v2 σ h
    refine g_aload_n hX 0 rfl rfl dX1_goNext_73 ?_
    refine g_aload_n hX 0 rfl rfl dX1_goNext_74 ?_
    refine c_get1 hX hC rfl 2 (by decide) rfl tFld_X1_19 rfl dX1_goNext_75 ?_
    refine c_put1 (ty := .int) hX hC rfl 3 (by decide) (cs_X1 ε _ _ _).2.2.1 rfl (by decide +kernel) rfl rfl tFld_X1_22 rfl dX1_goNext_78 ?_
    refine g_aload_n hX 0 rfl rfl dX1_goNext_81 ?_
    refine g_aload_n hX 0 rfl rfl dX1_goNext_82 ?_
    refine c_get1 hX hC rfl 2 (by decide) rfl tFld_X1_19 rfl dX1_goNext_83 ?_
    refine g_aload_n hX 0 rfl rfl dX1_goNext_86 ?_
    refine c_get1 hX hC rfl 1 (by decide) rfl tFld_X1_15 rfl dX1_goNext_87 ?_
    refine g_icmp_ge hX 108 (by decide) dX1_goNext_90 (fun b90 => ?_) (fun b90 => ?_)
    · replace h := if_p b90 h
      refine g_iconst hX (v := nI 0) rfl dX1_goNext_108 ?_
      exact J109 v1 v2 (nI 0)  (pI σ 64 3 (σ.1 64 2)) h
    · replace h := if_n b90 h
      refine g_aload_n hX 0 rfl rfl dX1_goNext_93 ?_
      refine c_get1 hX hC rfl 0 (by decide) rfl tFld_X1_9 rfl dX1_goNext_94 ?_
      refine g_aload_n hX 0 rfl rfl dX1_goNext_97 ?_
      refine c_get1 hX hC rfl 2 (by decide) rfl tFld_X1_19 rfl dX1_goNext_98 ?_
      obtain ⟨g2, h⟩ := gd_some h
      refine c_ald hX hC (ka_X1_1 rfl) g2 dX1_goNext_101 ?_
      obtain ⟨y102, e102, h⟩ := o1_some h
      refine s_call hX hzo [.int ((pI σ 64 3 (σ.1 64 2)).1 65 ((pI σ 64 3 (σ.1 64 2)).1 64 2).toNatClampNeg)] [.ref (sAd ε (64))] (ct_X1_sortOf _ _ _ _ hzo hzs _ ((pI σ 64 3 (σ.1 64 2)).1 65 ((pI σ 64 3 (σ.1 64 2)).1 64 2).toNatClampNeg) _ e102) kX1_sortOf tMet_X1_62 rfl rfl (Nat.le_of_ble_eq_true rfl) (Nat.le_of_ble_eq_true rfl) ⟨Nat.le_of_ble_eq_true rfl, Nat.le_of_ble_eq_true rfl⟩ rfl rfl (Nat.le_of_ble_eq_true rfl) dX1_goNext_102 ?_
      refine g_goto hX 109 (by decide) dX1_goNext_105 ?_
      exact J109 v1 v2 y102  (pI σ 64 3 (σ.1 64 2)) h
  have J35 : ∀ (k73 : Int32 → Int32 → Sg → Option (Unit × Sg)) (hk73 : ∀ (v1 : Int32) (v2 : Int32) (σ : Sg) , k73 v1 v2 σ = some (res, σ2) → GW κ 0 0 (C ε σ) 73 [(0, .ref (sAd ε (64))), (1, .int (v1)), (2, .int (v2))] []) (fuel : Nat), ∀ (v1 : Int32) (v2 : Int32) (σ : Sg) , fn_X1_goNext_L35 ε k73 fuel v1 v2 σ = some (res, σ2) → GW κ 0 0 (C ε σ) 35 [(0, .ref (sAd ε (64))), (1, .int (v1)), (2, .int (v2))] [] := by
    intro k73 hk73 fuel
    induction fuel with
    | zero => intro v1 v2 σ h; cases (show none = some (res, σ2) from h)
    | succ fuel ih =>
      intro v1 v2 σ h
      replace h : (if σ.1 64 1 ≤ σ.1 64 2 then (k73 v1 v2 σ) else (if ¬ (σ.1 64 2 < 0 ∨ 96 ≤ (σ.1 64 2).toNatClampNeg) then (if σ.1 65 (σ.1 64 2).toNatClampNeg = nI 32 then ((fn_X1_goNext_L35 ε k73 fuel) v1 v2 (pI σ 64 2 ((σ.1 64 2 + nI 1)))) else (k73 v1 v2 σ)) else none)) = some (res, σ2) := h
      refine g_aload_n hX 0 rfl rfl dX1_goNext_35 ?_
      refine c_get1 hX hC rfl 2 (by decide) rfl tFld_X1_19 rfl dX1_goNext_36 ?_
      refine g_aload_n hX 0 rfl rfl dX1_goNext_39 ?_
      refine c_get1 hX hC rfl 1 (by decide) rfl tFld_X1_15 rfl dX1_goNext_40 ?_
      refine g_icmp_ge hX 73 (by decide) dX1_goNext_43 (fun b43 => ?_) (fun b43 => ?_)
      · replace h := if_p b43 h
        exact hk73 v1 v2  σ h
      · replace h := if_n b43 h
        refine g_aload_n hX 0 rfl rfl dX1_goNext_46 ?_
        refine c_get1 hX hC rfl 0 (by decide) rfl tFld_X1_9 rfl dX1_goNext_47 ?_
        refine g_aload_n hX 0 rfl rfl dX1_goNext_50 ?_
        refine c_get1 hX hC rfl 2 (by decide) rfl tFld_X1_19 rfl dX1_goNext_51 ?_
        obtain ⟨g3, h⟩ := gd_some h
        refine c_ald hX hC (ka_X1_1 rfl) g3 dX1_goNext_54 ?_
        refine g_bipush hX (v := nI 32) (by decide) dX1_goNext_55 ?_
        refine g_icmp_ne hX 73 (by decide) dX1_goNext_57 (fun b57 => ?_) (fun b57 => ?_)
        · replace h := if_n b57 h
          exact hk73 v1 v2  σ h
        · replace h := if_p b57 h
          refine g_aload_n hX 0 rfl rfl dX1_goNext_60 ?_
          refine g_dup hX rfl dX1_goNext_61 ?_
          refine c_get1 hX hC rfl 2 (by decide) rfl tFld_X1_19 rfl dX1_goNext_62 ?_
          refine g_iconst hX (v := nI 1) rfl dX1_goNext_65 ?_
          refine g_iadd hX dX1_goNext_66 ?_
          refine c_put1 (ty := .int) hX hC rfl 2 (by decide) (cs_X1 ε _ _ _).2.1 rfl (by decide +kernel) rfl rfl tFld_X1_19 rfl dX1_goNext_67 ?_
          refine g_goto hX 35 (by decide) dX1_goNext_70 ?_
          exact ih v1 v2  (pI σ 64 2 ((σ.1 64 2 + nI 1))) h
  have J21 : ∀ (s0 : Int32) (σ : Sg) , fn_X1_goNext_L21 ε s0 σ = some (res, σ2) → GW κ 0 0 (C ε σ) 21 [(0, .ref (sAd ε (64)))] [.int (s0)] := by
    intro s0 σ h
    refine g_istore_n (lv2 := [(1, .int (s0)), (0, .ref (sAd ε (64)))]) hX 1 3 hN rfl (by decide) rfl dX1_goNext_21 ?_
    refine g_aload_n hX 1 rfl rfl dX1_goNext_22 ?_
    refine c_get1 hX hC rfl 3 (by decide) rfl tFld_X1_22 rfl dX1_goNext_23 ?_
    refine g_istore_n (lv2 := [(2, .int (σ.1 64 3)), (1, .int (s0)), (0, .ref (sAd ε (64)))]) hX 2 3 hN rfl (by decide) rfl dX1_goNext_26 ?_
    refine g_aload_n hX 2 rfl rfl dX1_goNext_27 ?_
    refine g_aload_n hX 2 rfl rfl dX1_goNext_28 ?_
    refine c_get1 hX hC rfl 3 (by decide) rfl tFld_X1_22 rfl dX1_goNext_29 ?_
    refine c_put1 (ty := .int) hX hC rfl 2 (by decide) (cs_X1 ε _ _ _).2.1 rfl (by decide +kernel) rfl rfl tFld_X1_19 rfl dX1_goNext_32 ?_
    refine g_lv [2, 1, 0] rfl ?_
    exact (J35 (fn_X1_goNext_L73 ε) J73 4000) s0 (σ.1 64 3)  (pI σ 64 2 (σ.1 64 3)) h
  have J16 : ∀ (σ : Sg) , fn_X1_goNext_L16 ε  σ = some (res, σ2) → GW κ 0 0 (C ε σ) 16 [(0, .ref (sAd ε (64)))] [] := by
    intro σ h
    refine g_iconst hX (v := nI 1) rfl dX1_goNext_16 ?_
    refine g_goto hX 21 (by decide) dX1_goNext_17 ?_
    exact J21 (nI 1)  σ h
  show GW κ 0 0 (C ε σ) 0 [(0, .ref (sAd ε (64)))] []
  refine g_aload_n hX 0 rfl rfl dX1_goNext_0 ?_
  refine c_get1 hX hC rfl 4 (by decide) rfl tFld_X1_25 rfl dX1_goNext_1 ?_
  refine g_iconst hX (v := nI 1) rfl dX1_goNext_4 ?_
  refine g_icmp_eq hX 16 (by decide) dX1_goNext_5 (fun b5 => ?_) (fun b5 => ?_)
  · replace h := if_p b5 h
    exact J16   σ h
  · replace h := if_n b5 h
    refine g_aload_n hX 0 rfl rfl dX1_goNext_8 ?_
    refine c_get1 hX hC rfl 4 (by decide) rfl tFld_X1_25 rfl dX1_goNext_9 ?_
    refine g_iconst hX (v := nI 2) rfl dX1_goNext_12 ?_
    refine g_icmp_ne hX 20 (by decide) dX1_goNext_13 (fun b13 => ?_) (fun b13 => ?_)
    · replace h := if_n b13 h
      refine g_iconst hX (v := nI 0) rfl dX1_goNext_20 ?_
      exact J21 (nI 0)  σ h
    · replace h := if_p b13 h
      exact J16   σ h
theorem kX1_isAt : mKV RX1 yX1_isAt cX1_isAt 2 (some .boolean) 1 := ⟨tIns_X1_isAt, tSel_X1_isAt, tIni_X1, tCod_X1_isAt, by decide +kernel⟩
set_option maxHeartbeats 4000000 in
set_option maxRecDepth 100000 in
theorem ct_X1_isAt (l : Launch) (D : va_G) (cy : Nat → ClassId) (Z : (Nat → Prop) → State → Heap → Prop) (hzo : zOK Z) {aStr aByt : Nat → Nat} (hzs : zSt Z aStr aByt) {q : Nat → Nat} {C : Ev → Sg → va_W} (hC : cLens cy q C) (ε : Ev) (z1 : Int32) (σ σ2 : Sg) (res : Int32) (h : fn_X1_isAt ε z1 σ = some (res, σ2)) : GD l D cy Z yX1_isAt (zW yX1_isAt cX1_isAt 2 (some .boolean)) { frames := 0, cells := 0, slots := 0, locals := 0 } [.ref (sAd ε (64)), .int (z1)] (C ε σ) (some (.int res)) (C ε σ2) 0 0 := by
  refine g_entry (cc := cX1_isAt) (maxL := 2) (by decide) rfl (Nat.le_of_ble_eq_true rfl) ?_
  intro κ hN hX hR
  have hX : GX κ cy Z cX1_isAt (Cond.code yX1_isAt cX1_isAt 2 (some .boolean) :: zT) RX1 { frames := 0, cells := 0, slots := 0, locals := 0 } := hX
  have J37 : ∀ (s0 : Int32) (σ : Sg) , fn_X1_isAt_L37 ε z1 s0 σ = some (res, σ2) → GW κ 0 0 (C ε σ) 37 [] [.int (s0)] := by
    intro s0 σ h
    obtain ⟨g1, h⟩ := gd_some h
    exact g_retbD hR g1 (oi_1 h) (congrArg (C ε) (oi_2 h)) dX1_isAt_37
  have J36 : ∀ (σ : Sg) , fn_X1_isAt_L36 ε z1  σ = some (res, σ2) → GW κ 0 0 (C ε σ) 36 [] [] := by
    intro σ h
    refine g_iconst hX (v := nI 0) rfl dX1_isAt_36 ?_
    exact J37 (nI 0)  σ h
  show GW κ 0 0 (C ε σ) 0 [(0, .ref (sAd ε (64))), (1, .int (z1))] []
  refine g_aload_n hX 0 rfl rfl dX1_isAt_0 ?_
  refine c_get1 hX hC rfl 4 (by decide) rfl tFld_X1_25 rfl dX1_isAt_1 ?_
  refine g_iconst hX (v := nI 3) rfl dX1_isAt_4 ?_
  refine g_icmp_ne hX 36 (by decide) dX1_isAt_5 (fun b5 => ?_) (fun b5 => ?_)
  · replace h := if_n b5 h
    refine g_lv [] rfl ?_
    exact J36   σ h
  · replace h := if_p b5 h
    refine g_aload_n hX 0 rfl rfl dX1_isAt_8 ?_
    refine c_get1 hX hC rfl 2 (by decide) rfl tFld_X1_19 rfl dX1_isAt_9 ?_
    refine g_aload_n hX 0 rfl rfl dX1_isAt_12 ?_
    refine c_get1 hX hC rfl 1 (by decide) rfl tFld_X1_15 rfl dX1_isAt_13 ?_
    refine g_icmp_ge hX 36 (by decide) dX1_isAt_16 (fun b16 => ?_) (fun b16 => ?_)
    · replace h := if_p b16 h
      refine g_lv [] rfl ?_
      exact J36   σ h
    · replace h := if_n b16 h
      refine g_aload_n hX 0 rfl rfl dX1_isAt_19 ?_
      refine c_get1 hX hC rfl 0 (by decide) rfl tFld_X1_9 rfl dX1_isAt_20 ?_
      refine g_aload_n hX 0 rfl rfl dX1_isAt_23 ?_
      refine c_get1 hX hC rfl 2 (by decide) rfl tFld_X1_19 rfl dX1_isAt_24 ?_
      obtain ⟨g2, h⟩ := gd_some h
      refine c_ald hX hC (ka_X1_1 rfl) g2 dX1_isAt_27 ?_
      refine g_iload_n hX 1 rfl rfl dX1_isAt_28 ?_
      refine g_icmp_ne hX 36 (by decide) dX1_isAt_29 (fun b29 => ?_) (fun b29 => ?_)
      · replace h := if_n b29 h
        refine g_lv [] rfl ?_
        exact J36   σ h
      · replace h := if_p b29 h
        refine g_iconst hX (v := nI 1) rfl dX1_isAt_32 ?_
        refine g_goto hX 37 (by decide) dX1_isAt_33 ?_
        refine g_lv [] rfl ?_
        exact J37 (nI 1)  σ h
theorem kX1_write : mKV RX1 yX1_write cX1_write 2 none 1 := ⟨tIns_X1_write, tSel_X1_write, tIni_X1, tCod_X1_write, by decide +kernel⟩
set_option maxHeartbeats 4000000 in
set_option maxRecDepth 100000 in
theorem ct_X1_write (l : Launch) (D : va_G) (cy : Nat → ClassId) (Z : (Nat → Prop) → State → Heap → Prop) (hzo : zOK Z) {aStr aByt : Nat → Nat} (hzs : zSt Z aStr aByt) {q : Nat → Nat} {C : Ev → Sg → va_W} (hC : cLens cy q C) (ε : Ev) (z1 : Int32) (σ σ2 : Sg) (res : Unit) (h : fn_X1_write ε z1 σ = some (res, σ2)) : GD l D cy Z yX1_write (zW yX1_write cX1_write 2 none) { frames := 0, cells := 0, slots := 0, locals := 0 } [.ref (sAd ε (64)), .int (z1)] (C ε σ) none (C ε σ2) 0 0 := by
  refine g_entry (cc := cX1_write) (maxL := 2) (by decide) rfl (Nat.le_of_ble_eq_true rfl) ?_
  intro κ hN hX hR
  have hX : GX κ cy Z cX1_write (Cond.code yX1_write cX1_write 2 none :: zT) RX1 { frames := 0, cells := 0, slots := 0, locals := 0 } := hX
  have J29 : ∀ (σ : Sg) , fn_X1_write_L29 ε z1  σ = some (res, σ2) → GW κ 0 0 (C ε σ) 29 [] [] := by
    intro σ h
    exact g_retv hR (congrArg (C ε) (oi_2 h)) dX1_write_29
  show GW κ 0 0 (C ε σ) 0 [(0, .ref (sAd ε (64))), (1, .int (z1))] []
  refine g_aload_n hX 0 rfl rfl dX1_write_0 ?_
  refine c_get1 hX hC rfl 7 (by decide) rfl tFld_X1_34 rfl dX1_write_1 ?_
  refine g_bipush hX (v := nI 96) (by decide) dX1_write_4 ?_
  refine g_icmp_ge hX 29 (by decide) dX1_write_6 (fun b6 => ?_) (fun b6 => ?_)
  · replace h := if_p b6 h
    refine g_lv [] rfl ?_
    exact J29   σ h
  · replace h := if_n b6 h
    refine g_aload_n hX 0 rfl rfl dX1_write_9 ?_
    refine c_get1 hX hC rfl 6 (by decide) rfl tFld_X1_31 rfl dX1_write_10 ?_
    refine g_aload_n hX 0 rfl rfl dX1_write_13 ?_
    refine c_get1 hX hC rfl 7 (by decide) rfl tFld_X1_34 rfl dX1_write_14 ?_
    refine g_iload_n hX 1 rfl rfl dX1_write_17 ?_
    obtain ⟨g1, h⟩ := gd_some h
    refine c_ast hX hC (ka_X1_2 rfl) g1 dX1_write_18 ?_
    refine g_aload_n hX 0 rfl rfl dX1_write_19 ?_
    refine g_dup hX rfl dX1_write_20 ?_
    refine c_get1 hX hC rfl 7 (by decide) rfl tFld_X1_34 rfl dX1_write_21 ?_
    refine g_iconst hX (v := nI 1) rfl dX1_write_24 ?_
    refine g_iadd hX dX1_write_25 ?_
    refine c_put1 (ty := .int) hX hC rfl 7 (by decide) (cs_X1 ε _ _ _).2.2.2.2.2.1 rfl (by decide +kernel) rfl rfl tFld_X1_34 rfl dX1_write_26 ?_
    refine g_lv [] rfl ?_
    exact J29   (pI (pI σ 66 (σ.1 64 7).toNatClampNeg z1) 64 7 (((pI σ 66 (σ.1 64 7).toNatClampNeg z1).1 64 7 + nI 1))) h
theorem kX1_passed : mKV RX1 yX1_passed cX1_passed 4 (some .int) 2 := ⟨tIns_X1_passed, tSel_X1_passed, tIni_X1, tCod_X1_passed, by decide +kernel⟩
set_option maxHeartbeats 4000000 in
set_option maxRecDepth 100000 in
theorem ct_X1_passed (l : Launch) (D : va_G) (cy : Nat → ClassId) (Z : (Nat → Prop) → State → Heap → Prop) (hzo : zOK Z) {aStr aByt : Nat → Nat} (hzs : zSt Z aStr aByt) {q : Nat → Nat} {C : Ev → Sg → va_W} (hC : cLens cy q C) (ε : Ev) (z1 : Int32) (z2 : Int32) (σ σ2 : Sg) (res : Int32) (h : fn_X1_passed ε z1 z2 σ = some (res, σ2)) : GD l D cy Z yX1_passed (zW yX1_passed cX1_passed 4 (some .int)) { frames := 2, cells := 0, slots := 0, locals := 42 } [.ref (sAd ε (64)), .int (z1), .int (z2)] (C ε σ) (some (.int res)) (C ε σ2) 0 0 := by
  refine g_entry (cc := cX1_passed) (maxL := 4) (by decide) rfl (Nat.le_of_ble_eq_true rfl) ?_
  intro κ hN hX hR
  have hX : GX κ cy Z cX1_passed (Cond.code yX1_passed cX1_passed 4 (some .int) :: zT) RX1 { frames := 2, cells := 0, slots := 0, locals := 42 } := hX
  have J34 : ∀ (v3 : Int32) (σ : Sg) , fn_X1_passed_L34 ε z1 z2 v3 σ = some (res, σ2) → GW κ 0 0 (C ε σ) 34 [(3, .int (v3))] [] := by
    intro v3 σ h
    refine g_iload_n hX 0 rfl rfl dX1_passed_34 ?_
    exact g_reti hR (oi_1 h) (congrArg (C ε) (oi_2 h)) dX1_passed_35
  have J25 : ∀ (s0 : Int32) (σ : Sg) , fn_X1_passed_L25 ε z1 z2 s0 σ = some (res, σ2) → GW κ 0 0 (C ε σ) 25 [(0, .ref (sAd ε (64)))] [.int (s0)] := by
    intro s0 σ h
    refine g_istore_n (lv2 := [(3, .int (s0)), (0, .ref (sAd ε (64)))]) hX 3 4 hN rfl (by decide) rfl dX1_passed_25 ?_
    refine g_iload_n hX 0 rfl rfl dX1_passed_26 ?_
    refine g_if_eq hX 34 (by decide) dX1_passed_27 (fun b27 => ?_) (fun b27 => ?_)
    · replace h := if_p b27 h
      refine g_lv [0] rfl ?_
      exact J34 s0  σ h
    · replace h := if_n b27 h
      refine g_aload_n hX 1 rfl rfl dX1_passed_30 ?_
      obtain ⟨y31, τ31, e31, h⟩ := ob_some h
      refine c_call1 hX hC hzo rfl [] [] (ct_X1_goNext _ _ _ _ hzo hzs hC ε  σ _ _ e31) kX1_goNext tMet_X1_40 rfl rfl (Nat.le_of_ble_eq_true rfl) (Nat.le_of_ble_eq_true rfl) ⟨Nat.le_of_ble_eq_true rfl, Nat.le_of_ble_eq_true rfl⟩ rfl rfl (Nat.le_of_ble_eq_true rfl) dX1_passed_31 ?_
      refine g_lv [0] rfl ?_
      exact J34 s0  τ31 h
  show GW κ 0 0 (C ε σ) 0 [(0, .ref (sAd ε (64))), (1, .int (z1)), (2, .int (z2))] []
  refine g_aload_n hX 0 rfl rfl dX1_passed_0 ?_
  refine g_iload_n hX 1 rfl rfl dX1_passed_1 ?_
  obtain ⟨y2, τ2, e2, h⟩ := ob_some h
  refine c_call1 hX hC hzo rfl [.int (z1)] [] (ct_X1_isAt _ _ _ _ hzo hzs hC ε z1 σ _ _ e2) kX1_isAt tMet_X1_85 rfl rfl (Nat.le_of_ble_eq_true rfl) (Nat.le_of_ble_eq_true rfl) ⟨Nat.le_of_ble_eq_true rfl, Nat.le_of_ble_eq_true rfl⟩ rfl rfl (Nat.le_of_ble_eq_true rfl) dX1_passed_2 ?_
  refine g_if_eq hX 12 (by decide) dX1_passed_5 (fun b5 => ?_) (fun b5 => ?_)
  · replace h := if_p b5 h
    refine g_aload_n hX 0 rfl rfl dX1_passed_12 ?_
    refine g_iload_n hX 2 rfl rfl dX1_passed_13 ?_
    obtain ⟨y14, τ14, e14, h⟩ := ob_some h
    refine c_call1 hX hC hzo rfl [.int (z2)] [] (ct_X1_isAt _ _ _ _ hzo hzs hC ε z2 τ2 _ _ e14) kX1_isAt tMet_X1_85 rfl rfl (Nat.le_of_ble_eq_true rfl) (Nat.le_of_ble_eq_true rfl) ⟨Nat.le_of_ble_eq_true rfl, Nat.le_of_ble_eq_true rfl⟩ rfl rfl (Nat.le_of_ble_eq_true rfl) dX1_passed_14 ?_
    refine g_if_eq hX 24 (by decide) dX1_passed_17 (fun b17 => ?_) (fun b17 => ?_)
    · replace h := if_p b17 h
      refine g_iconst hX (v := nI 0) rfl dX1_passed_24 ?_
      refine g_lv [0] rfl ?_
      exact J25 (nI 0)  τ14 h
    · replace h := if_n b17 h
      refine g_iload_n hX 2 rfl rfl dX1_passed_20 ?_
      refine g_goto hX 25 (by decide) dX1_passed_21 ?_
      refine g_lv [0] rfl ?_
      exact J25 z2  τ14 h
  · replace h := if_n b5 h
    refine g_iload_n hX 1 rfl rfl dX1_passed_8 ?_
    refine g_goto hX 25 (by decide) dX1_passed_9 ?_
    refine g_lv [0] rfl ?_
    exact J25 z1  τ2 h
theorem kX1_takePiece : mKV RX1 yX1_takePiece cX1_takePiece 2 (some .boolean) 1 := ⟨tIns_X1_takePiece, tSel_X1_takePiece, tIni_X1, tCod_X1_takePiece, by decide +kernel⟩
set_option maxHeartbeats 4000000 in
set_option maxRecDepth 100000 in
theorem ct_X1_takePiece (l : Launch) (D : va_G) (cy : Nat → ClassId) (Z : (Nat → Prop) → State → Heap → Prop) (hzo : zOK Z) {aStr aByt : Nat → Nat} (hzs : zSt Z aStr aByt) {q : Nat → Nat} {C : Ev → Sg → va_W} (hC : cLens cy q C) (ε : Ev) (z1 : Int32) (σ σ2 : Sg) (res : Int32) (h : fn_X1_takePiece ε z1 σ = some (res, σ2)) : GD l D cy Z yX1_takePiece (zW yX1_takePiece cX1_takePiece 2 (some .boolean)) { frames := 2, cells := 0, slots := 0, locals := 42 } [.ref (sAd ε (64)), .int (z1)] (C ε σ) (some (.int res)) (C ε σ2) 0 0 := by
  refine g_entry (cc := cX1_takePiece) (maxL := 2) (by decide) rfl (Nat.le_of_ble_eq_true rfl) ?_
  intro κ hN hX hR
  have hX : GX κ cy Z cX1_takePiece (Cond.code yX1_takePiece cX1_takePiece 2 (some .boolean) :: zT) RX1 { frames := 2, cells := 0, slots := 0, locals := 42 } := hX
  show GW κ 0 0 (C ε σ) 0 [(0, .ref (sAd ε (64))), (1, .int (z1))] []
  refine g_aload_n hX 0 rfl rfl dX1_takePiece_0 ?_
  refine g_iload_n hX 1 rfl rfl dX1_takePiece_1 ?_
  obtain ⟨y2, τ2, e2, h⟩ := ob_some h
  refine c_call1 hX hC hzo rfl [.int (z1)] [] (ct_X1_write _ _ _ _ hzo hzs hC ε z1 σ _ _ e2) kX1_write tMet_X1_96 rfl rfl (Nat.le_of_ble_eq_true rfl) (Nat.le_of_ble_eq_true rfl) ⟨Nat.le_of_ble_eq_true rfl, Nat.le_of_ble_eq_true rfl⟩ rfl rfl (Nat.le_of_ble_eq_true rfl) dX1_takePiece_2 ?_
  refine g_aload_n hX 0 rfl rfl dX1_takePiece_5 ?_
  refine g_dup hX rfl dX1_takePiece_6 ?_
  refine c_get1 hX hC rfl 8 (by decide) rfl tFld_X1_37 rfl dX1_takePiece_7 ?_
  refine g_iconst hX (v := nI 1) rfl dX1_takePiece_10 ?_
  refine g_iadd hX dX1_takePiece_11 ?_
  refine c_put1 (ty := .int) hX hC rfl 8 (by decide) (cs_X1 ε _ _ _).2.2.2.2.2.2 rfl (by decide +kernel) rfl rfl tFld_X1_37 rfl dX1_takePiece_12 ?_
  refine g_aload_n hX 0 rfl rfl dX1_takePiece_15 ?_
  obtain ⟨y16, τ16, e16, h⟩ := ob_some h
  refine c_call1 hX hC hzo rfl [] [] (ct_X1_goNext _ _ _ _ hzo hzs hC ε  (pI τ2 64 8 ((τ2.1 64 8 + nI 1))) _ _ e16) kX1_goNext tMet_X1_40 rfl rfl (Nat.le_of_ble_eq_true rfl) (Nat.le_of_ble_eq_true rfl) ⟨Nat.le_of_ble_eq_true rfl, Nat.le_of_ble_eq_true rfl⟩ rfl rfl (Nat.le_of_ble_eq_true rfl) dX1_takePiece_16 ?_
  refine g_iconst hX (v := nI 1) rfl dX1_takePiece_19 ?_
  exact g_retbD hR (by decide) (oi_1 h) (congrArg (C ε) (oi_2 h)) dX1_takePiece_20
theorem kX1_isNumber : mKV RX1 yX1_isNumber cX1_isNumber 3 (some .boolean) 0 := ⟨tIns_X1_isNumber, tSel_X1_isNumber, tIni_X1, tCod_X1_isNumber, by decide +kernel⟩
set_option maxHeartbeats 4000000 in
set_option maxRecDepth 100000 in
theorem ct_X1_isNumber (l : Launch) (D : va_G) (cy : Nat → ClassId) (Z : (Nat → Prop) → State → Heap → Prop) (hzo : zOK Z) {aStr aByt : Nat → Nat} (hzs : zSt Z aStr aByt) {q : Nat → Nat} {C : Ev → Sg → va_W} (hC : cLens cy q C) (ε : Ev) (σ σ2 : Sg) (res : Int32) (h : fn_X1_isNumber ε σ = some (res, σ2)) : GD l D cy Z yX1_isNumber (zW yX1_isNumber cX1_isNumber 3 (some .boolean)) { frames := 3, cells := 0, slots := 0, locals := 63 } [.ref (sAd ε (64))] (C ε σ) (some (.int res)) (C ε σ2) 0 0 := by
  refine g_entry (cc := cX1_isNumber) (maxL := 3) (by decide) rfl (Nat.le_of_ble_eq_true rfl) ?_
  intro κ hN hX hR
  have hX : GX κ cy Z cX1_isNumber (Cond.code yX1_isNumber cX1_isNumber 3 (some .boolean) :: zT) RX1 { frames := 3, cells := 0, slots := 0, locals := 63 } := hX
  have J51 : ∀ (v1 : Int32) (σ : Sg) , fn_X1_isNumber_L51 ε v1 σ = some (res, σ2) → GW κ 0 0 (C ε σ) 51 [(0, .ref (sAd ε (64))), (1, .int (v1))] [] := by
    intro v1 σ h
    refine g_aload_n hX 0 rfl rfl dX1_isNumber_51 ?_
    refine g_iload_n hX 1 rfl rfl dX1_isNumber_52 ?_
    obtain ⟨y53, τ53, e53, h⟩ := ob_some h
    refine c_call1 hX hC hzo rfl [.int (v1)] [] (ct_X1_takePiece _ _ _ _ hzo hzs hC ε v1 σ _ _ e53) kX1_takePiece tMet_X1_119 rfl rfl (Nat.le_of_ble_eq_true rfl) (Nat.le_of_ble_eq_true rfl) ⟨Nat.le_of_ble_eq_true rfl, Nat.le_of_ble_eq_true rfl⟩ rfl rfl (Nat.le_of_ble_eq_true rfl) dX1_isNumber_53 ?_
    obtain ⟨g1, h⟩ := gd_some h
    exact g_retbD hR g1 (oi_1 h) (congrArg (C ε) (oi_2 h)) dX1_isNumber_56
  have J22 : ∀ (k51 : Int32 → Sg → Option (Int32 × Sg)) (hk51 : ∀ (v1 : Int32) (σ : Sg) , k51 v1 σ = some (res, σ2) → GW κ 0 0 (C ε σ) 51 [(0, .ref (sAd ε (64))), (1, .int (v1))] []) (fuel : Nat), ∀ (v1 : Int32) (v2 : Int32) (σ : Sg) , fn_X1_isNumber_L22 ε k51 fuel v1 v2 σ = some (res, σ2) → GW κ 0 0 (C ε σ) 22 [(0, .ref (sAd ε (64))), (1, .int (v1)), (2, .int (v2))] [] := by
    intro k51 hk51 fuel
    induction fuel with
    | zero => intro v1 v2 σ h; cases (show none = some (res, σ2) from h)
    | succ fuel ih =>
      intro v1 v2 σ h
      replace h : (if σ.1 64 3 ≤ v2 then (k51 v1 σ) else (if ¬ (v2 < 0 ∨ 96 ≤ v2.toNatClampNeg) then ((fn_X1_isNumber_L22 ε k51 fuel) ((((nI 10 * v1) + σ.1 65 v2.toNatClampNeg) - nI 48)) ((v2 + nI 1)) σ) else none)) = some (res, σ2) := h
      refine g_iload_n hX 2 rfl rfl dX1_isNumber_22 ?_
      refine g_aload_n hX 0 rfl rfl dX1_isNumber_23 ?_
      refine c_get1 hX hC rfl 3 (by decide) rfl tFld_X1_22 rfl dX1_isNumber_24 ?_
      refine g_icmp_ge hX 51 (by decide) dX1_isNumber_27 (fun b27 => ?_) (fun b27 => ?_)
      · replace h := if_p b27 h
        refine g_lv [0, 1] rfl ?_
        exact hk51 v1  σ h
      · replace h := if_n b27 h
        refine g_bipush hX (v := nI 10) (by decide) dX1_isNumber_30 ?_
        refine g_iload_n hX 1 rfl rfl dX1_isNumber_32 ?_
        refine g_imul hX dX1_isNumber_33 ?_
        refine g_aload_n hX 0 rfl rfl dX1_isNumber_34 ?_
        refine c_get1 hX hC rfl 0 (by decide) rfl tFld_X1_9 rfl dX1_isNumber_35 ?_
        refine g_iload_n hX 2 rfl rfl dX1_isNumber_38 ?_
        obtain ⟨g2, h⟩ := gd_some h
        refine c_ald hX hC (ka_X1_1 rfl) g2 dX1_isNumber_39 ?_
        refine g_iadd hX dX1_isNumber_40 ?_
        refine g_bipush hX (v := nI 48) (by decide) dX1_isNumber_41 ?_
        refine g_isub hX dX1_isNumber_43 ?_
        refine g_istore_n (lv2 := [(1, .int ((((nI 10 * v1) + σ.1 65 v2.toNatClampNeg) - nI 48))), (0, .ref (sAd ε (64))), (2, .int (v2))]) hX 1 3 hN rfl (by decide) rfl dX1_isNumber_44 ?_
        refine g_iinc (v := (v2 + nI 1)) (lv2 := [(2, .int ((v2 + nI 1))), (1, .int ((((nI 10 * v1) + σ.1 65 v2.toNatClampNeg) - nI 48))), (0, .ref (sAd ε (64)))]) hX 2 2 3 hN rfl rfl (by decide) rfl dX1_isNumber_45 ?_
        refine g_goto hX 22 (by decide) dX1_isNumber_48 ?_
        refine g_lv [2, 1, 0] rfl ?_
        exact ih ((((nI 10 * v1) + σ.1 65 v2.toNatClampNeg) - nI 48)) ((v2 + nI 1))  σ h
  show GW κ 0 0 (C ε σ) 0 [(0, .ref (sAd ε (64)))] []
  refine g_aload_n hX 0 rfl rfl dX1_isNumber_0 ?_
  refine c_get1 hX hC rfl 3 (by decide) rfl tFld_X1_22 rfl dX1_isNumber_1 ?_
  refine g_aload_n hX 0 rfl rfl dX1_isNumber_4 ?_
  refine c_get1 hX hC rfl 2 (by decide) rfl tFld_X1_19 rfl dX1_isNumber_5 ?_
  refine g_isub hX dX1_isNumber_8 ?_
  refine g_iconst hX (v := nI 4) rfl dX1_isNumber_9 ?_
  refine g_icmp_le hX 15 (by decide) dX1_isNumber_10 (fun b10 => ?_) (fun b10 => ?_)
  · replace h := if_p b10 h
    refine g_iconst hX (v := nI 0) rfl dX1_isNumber_15 ?_
    refine g_istore_n (lv2 := [(1, .int (nI 0)), (0, .ref (sAd ε (64)))]) hX 1 3 hN rfl (by decide) rfl dX1_isNumber_16 ?_
    refine g_aload_n hX 1 rfl rfl dX1_isNumber_17 ?_
    refine c_get1 hX hC rfl 2 (by decide) rfl tFld_X1_19 rfl dX1_isNumber_18 ?_
    refine g_istore_n (lv2 := [(2, .int (σ.1 64 2)), (1, .int (nI 0)), (0, .ref (sAd ε (64)))]) hX 2 3 hN rfl (by decide) rfl dX1_isNumber_21 ?_
    refine g_lv [2, 1, 0] rfl ?_
    exact (J22 (fn_X1_isNumber_L51 ε) J51 4000) (nI 0) (σ.1 64 2)  σ h
  · replace h := if_n b10 h
    refine g_iconst hX (v := nI 0) rfl dX1_isNumber_13 ?_
    exact g_retbD hR (by decide) (oi_1 h) (congrArg (C ε) (oi_2 h)) dX1_isNumber_14
