def fn_X1_isWord_L68 (ε : Ev) (c1 : Nat)  (σ : Sg) : Option (Int32 × Sg) := some (nI 1, σ)
def fn_X1_isWord_L20 (ε : Ev) (c1 : Nat) (k68 : Sg → Option (Int32 × Sg)) : Nat → Int32 → Sg → Option (Int32 × Sg)
  | 0 => fun _ _ => none
  | fuel + 1 => fun (v2 : Int32) (σ : Sg) => (o1 (fn_J0_length_8abf5 c1 ) (fun y22 => (if y22 ≤ v2 then (k68  σ) else (if σ.1 64 1 ≤ (σ.1 64 2 + v2) then (k68  σ) else (o1 (fn_J0_charAt_5068e c1 v2) (fun y43 => (if ¬ ((σ.1 64 2 + v2) < 0 ∨ 96 ≤ ((σ.1 64 2 + v2)).toNatClampNeg) then (if y43 = σ.1 65 ((σ.1 64 2 + v2)).toNatClampNeg then ((fn_X1_isWord_L20 ε c1 k68 fuel) ((v2 + nI 1)) σ) else some (nI 0, σ)) else none)))))))
def fn_X1_isWord (ε : Ev) (c1 : Nat) (σ : Sg) : Option (Int32 × Sg) := (o1 (fn_J0_length_8abf5 c1 ) (fun y1 => (if y1 = (σ.1 64 3 - σ.1 64 2) then ((fn_X1_isWord_L20 ε c1 (fn_X1_isWord_L68 ε c1) 4000) (nI 0) σ) else some (nI 0, σ))))
def fn_X1_keyHere_L51 (ε : Ev)  (σ : Sg) : Option (Int32 × Sg) := some ((-1), σ)
def fn_X1_keyHere_L45 (ε : Ev) (slf : Int32 → Sg → Option (Int32 × Sg)) (k51 : Sg → Option (Int32 × Sg)) (v1 : Int32) (σ : Sg) : Option (Int32 × Sg) := (slf ((v1 + nI 1)) σ)
def fn_X1_keyHere_L37 (ε : Ev) (slf : Int32 → Sg → Option (Int32 × Sg)) (k51 : Sg → Option (Int32 × Sg)) (v1 : Int32) (s0 : Nat) (σ : Sg) : Option (Int32 × Sg) := (ob (fn_X1_isWord ε s0 σ) (fun y37 τ37 => (if y37 = 0 then ((fn_X1_keyHere_L45 ε slf k51) v1 τ37) else some (v1, τ37))))
def fn_X1_keyHere_L2 (ε : Ev) (k51 : Sg → Option (Int32 × Sg)) : Nat → Int32 → Sg → Option (Int32 × Sg)
  | 0 => fun _ _ => none
  | fuel + 1 => fun (v1 : Int32) (σ : Sg) => (if nI 3 ≤ v1 then (k51  σ) else (if σ.1 64 4 = nI 1 then (if v1 = 0 then ((fn_X1_keyHere_L37 ε (fn_X1_keyHere_L2 ε k51 fuel) k51) v1 0 σ) else (if v1 = nI 1 then ((fn_X1_keyHere_L37 ε (fn_X1_keyHere_L2 ε k51 fuel) k51) v1 1 σ) else ((fn_X1_keyHere_L37 ε (fn_X1_keyHere_L2 ε k51 fuel) k51) v1 2 σ))) else ((fn_X1_keyHere_L45 ε (fn_X1_keyHere_L2 ε k51 fuel) k51) v1 σ)))
def fn_X1_keyHere (ε : Ev) (σ : Sg) : Option (Int32 × Sg) := ((fn_X1_keyHere_L2 ε (fn_X1_keyHere_L51 ε) 4000) (nI 0) σ)
def fn_X1_isName_L81 (ε : Ev) (s0 : Int32) (σ : Sg) : Option (Int32 × Sg) := (if s0 = 0 ∨ s0 = 1 then some (s0, σ) else none)
def fn_X1_isName_L80 (ε : Ev)  (σ : Sg) : Option (Int32 × Sg) := ((fn_X1_isName_L81 ε) (nI 0) σ)
def fn_X1_isName_L59 (ε : Ev) (s0 : Int32) (σ : Sg) : Option (Int32 × Sg) := (if s0 < 0 then ((fn_X1_isName_L80 ε)  σ) else (ob (fn_X1_takePiece ε ((nI 10000 + s0)) σ) (fun y70 τ70 => (if y70 = 0 then ((fn_X1_isName_L80 ε)  τ70) else ((fn_X1_isName_L81 ε) (nI 1) τ70)))))
def fn_X1_isName_L27 (ε : Ev) (s0 : Nat) (σ : Sg) : Option (Int32 × Sg) := (if (σ.1 64 3 - σ.1 64 2) = nI 1 then (if ¬ (σ.1 64 2 < 0 ∨ 96 ≤ (σ.1 64 2).toNatClampNeg) then (o1 (fn_J0_indexOf_0f7a4 s0 ((Int32.toUInt32 (σ.1 65 (σ.1 64 2).toNatClampNeg) % 65536).toInt32)) (fun y52 => ((fn_X1_isName_L59 ε) y52 σ))) else none) else ((fn_X1_isName_L59 ε) ((-1)) σ))
def fn_X1_isName (ε : Ev) (σ : Sg) : Option (Int32 × Sg) := (if σ.1 64 5 = 0 then ((fn_X1_isName_L27 ε) 3 σ) else (if σ.1 64 5 = nI 1 then ((fn_X1_isName_L27 ε) 4 σ) else ((fn_X1_isName_L27 ε) 5 σ)))
def fn_X1_isTerm_L59 (ε : Ev) (p0 : Int32 → Int32 → Sg → Option (Int32 × Sg)) (z1 : Int32) (z2 : Int32) (v3 : Int32) (σ : Sg) : Option (Int32 × Sg) := (if v3 = 0 ∨ v3 = 1 then some (v3, σ) else none)
def fn_X1_isTerm_L10 (ε : Ev) (p0 : Int32 → Int32 → Sg → Option (Int32 × Sg)) (z1 : Int32) (z2 : Int32) (k59 : Int32 → Sg → Option (Int32 × Sg)) : Nat → Int32 → Int32 → Sg → Option (Int32 × Sg)
  | 0 => fun _ _ _ => none
  | fuel + 1 => fun (v3 : Int32) (v4 : Int32) (σ : Sg) => (if nI 96 ≤ v4 then (k59 v3 σ) else (if v3 = 0 then (k59 v3 σ) else (ob (fn_X1_passed ε (nI 42) (nI 47) σ) (fun y26 τ26 => (if y26 = 0 then (k59 v3 τ26) else (ob (p0 z1 z2 τ26) (fun y42 τ42 => (ob (fn_X1_write ε ((-(y26))) τ42) (fun y50 τ50 => ((fn_X1_isTerm_L10 ε p0 z1 z2 k59 fuel) y42 ((v4 + nI 1)) τ50))))))))))
def fn_X1_isTerm (ε : Ev) (p0 : Int32 → Int32 → Sg → Option (Int32 × Sg)) (z1 : Int32) (z2 : Int32) (σ : Sg) : Option (Int32 × Sg) := (ob (p0 z1 z2 σ) (fun y3 τ3 => ((fn_X1_isTerm_L10 ε p0 z1 z2 (fn_X1_isTerm_L59 ε p0 z1 z2) 4000) y3 (nI 0) τ3)))
def fn_X1_isSum_L59 (ε : Ev) (p0 : Int32 → Int32 → Sg → Option (Int32 × Sg)) (z1 : Int32) (z2 : Int32) (v3 : Int32) (σ : Sg) : Option (Int32 × Sg) := (if v3 = 0 ∨ v3 = 1 then some (v3, σ) else none)
def fn_X1_isSum_L10 (ε : Ev) (p0 : Int32 → Int32 → Sg → Option (Int32 × Sg)) (z1 : Int32) (z2 : Int32) (k59 : Int32 → Sg → Option (Int32 × Sg)) : Nat → Int32 → Int32 → Sg → Option (Int32 × Sg)
  | 0 => fun _ _ _ => none
  | fuel + 1 => fun (v3 : Int32) (v4 : Int32) (σ : Sg) => (if nI 96 ≤ v4 then (k59 v3 σ) else (if v3 = 0 then (k59 v3 σ) else (ob (fn_X1_passed ε (nI 43) (nI 45) σ) (fun y26 τ26 => (if y26 = 0 then (k59 v3 τ26) else (ob (fn_X1_isTerm ε p0 z1 z2 τ26) (fun y42 τ42 => (ob (fn_X1_write ε ((-(y26))) τ42) (fun y50 τ50 => ((fn_X1_isSum_L10 ε p0 z1 z2 k59 fuel) y42 ((v4 + nI 1)) τ50))))))))))
def fn_X1_isSum (ε : Ev) (p0 : Int32 → Int32 → Sg → Option (Int32 × Sg)) (z1 : Int32) (z2 : Int32) (σ : Sg) : Option (Int32 × Sg) := (ob (fn_X1_isTerm ε p0 z1 z2 σ) (fun y3 τ3 => ((fn_X1_isSum_L10 ε p0 z1 z2 (fn_X1_isSum_L59 ε p0 z1 z2) 4000) y3 (nI 0) τ3)))
def fn_X1_isTest_L33 (ε : Ev) (p0 : Int32 → Int32 → Sg → Option (Int32 × Sg)) (z1 : Int32) (z2 : Int32) (v3 : Int32) (σ : Sg) : Option (Int32 × Sg) := (if v3 = 0 then some (nI 1, σ) else (ob (fn_X1_isSum ε p0 z1 z2 σ) (fun y42 τ42 => (ob (fn_X1_write ε ((-(v3))) τ42) (fun y50 τ50 => (if y42 = 0 ∨ y42 = 1 then some (y42, τ50) else none))))))
def fn_X1_isTest (ε : Ev) (p0 : Int32 → Int32 → Sg → Option (Int32 × Sg)) (z1 : Int32) (z2 : Int32) (σ : Sg) : Option (Int32 × Sg) := (ob (fn_X1_isSum ε p0 z1 z2 σ) (fun y3 τ3 => (if y3 = 0 then some (nI 0, τ3) else (ob (fn_X1_passed ε (nI 60) (nI 62) τ3) (fun y16 τ16 => (if y16 = 0 then (ob (fn_X1_passed ε (nI 61) (nI 61) τ16) (fun y29 τ29 => ((fn_X1_isTest_L33 ε p0 z1 z2) y29 τ29))) else ((fn_X1_isTest_L33 ε p0 z1 z2) y16 τ16)))))))
def fn_X1_isAnd_L51 (ε : Ev) (p0 : Int32 → Int32 → Sg → Option (Int32 × Sg)) (z1 : Int32) (z2 : Int32) (v3 : Int32) (σ : Sg) : Option (Int32 × Sg) := (if v3 = 0 ∨ v3 = 1 then some (v3, σ) else none)
def fn_X1_isAnd_L10 (ε : Ev) (p0 : Int32 → Int32 → Sg → Option (Int32 × Sg)) (z1 : Int32) (z2 : Int32) (k51 : Int32 → Sg → Option (Int32 × Sg)) : Nat → Int32 → Int32 → Sg → Option (Int32 × Sg)
  | 0 => fun _ _ _ => none
  | fuel + 1 => fun (v3 : Int32) (v4 : Int32) (σ : Sg) => (if nI 96 ≤ v4 then (k51 v3 σ) else (if v3 = 0 then (k51 v3 σ) else (ob (fn_X1_passed ε (nI 38) (nI 38) σ) (fun y26 τ26 => (if y26 = 0 then (k51 v3 τ26) else (ob (fn_X1_isTest ε p0 z1 z2 τ26) (fun y35 τ35 => (ob (fn_X1_write ε ((-38)) τ35) (fun y42 τ42 => ((fn_X1_isAnd_L10 ε p0 z1 z2 k51 fuel) y35 ((v4 + nI 1)) τ42))))))))))
def fn_X1_isAnd (ε : Ev) (p0 : Int32 → Int32 → Sg → Option (Int32 × Sg)) (z1 : Int32) (z2 : Int32) (σ : Sg) : Option (Int32 × Sg) := (ob (fn_X1_isTest ε p0 z1 z2 σ) (fun y3 τ3 => ((fn_X1_isAnd_L10 ε p0 z1 z2 (fn_X1_isAnd_L51 ε p0 z1 z2) 4000) y3 (nI 0) τ3)))
def fn_X1_isOr_L51 (ε : Ev) (p0 : Int32 → Int32 → Sg → Option (Int32 × Sg)) (z1 : Int32) (z2 : Int32) (v3 : Int32) (σ : Sg) : Option (Int32 × Sg) := (if v3 = 0 ∨ v3 = 1 then some (v3, σ) else none)
def fn_X1_isOr_L10 (ε : Ev) (p0 : Int32 → Int32 → Sg → Option (Int32 × Sg)) (z1 : Int32) (z2 : Int32) (k51 : Int32 → Sg → Option (Int32 × Sg)) : Nat → Int32 → Int32 → Sg → Option (Int32 × Sg)
  | 0 => fun _ _ _ => none
  | fuel + 1 => fun (v3 : Int32) (v4 : Int32) (σ : Sg) => (if nI 96 ≤ v4 then (k51 v3 σ) else (if v3 = 0 then (k51 v3 σ) else (ob (fn_X1_passed ε (nI 124) (nI 124) σ) (fun y26 τ26 => (if y26 = 0 then (k51 v3 τ26) else (ob (fn_X1_isAnd ε p0 z1 z2 τ26) (fun y35 τ35 => (ob (fn_X1_write ε ((-124)) τ35) (fun y42 τ42 => ((fn_X1_isOr_L10 ε p0 z1 z2 k51 fuel) y35 ((v4 + nI 1)) τ42))))))))))
def fn_X1_isOr (ε : Ev) (p0 : Int32 → Int32 → Sg → Option (Int32 × Sg)) (z1 : Int32) (z2 : Int32) (σ : Sg) : Option (Int32 × Sg) := (ob (fn_X1_isAnd ε p0 z1 z2 σ) (fun y3 τ3 => ((fn_X1_isOr_L10 ε p0 z1 z2 (fn_X1_isOr_L51 ε p0 z1 z2) 4000) y3 (nI 0) τ3)))
def fn_X1_isPieceB_L103 (ε : Ev) (p0 : Int32 → Int32 → Sg → Option (Int32 × Sg)) (z1 : Int32) (z2 : Int32)  (σ : Sg) : Option (Int32 × Sg) := some (nI 0, σ)
def fn_X1_isPieceB_L77 (ε : Ev) (p0 : Int32 → Int32 → Sg → Option (Int32 × Sg)) (z1 : Int32) (z2 : Int32)  (σ : Sg) : Option (Int32 × Sg) := some (nI 0, σ)
def fn_X1_isPieceB_L62 (ε : Ev) (p0 : Int32 → Int32 → Sg → Option (Int32 × Sg)) (z1 : Int32) (z2 : Int32)  (σ : Sg) : Option (Int32 × Sg) := (ob (fn_X1_isAt ε (nI 40) σ) (fun y65 τ65 => (if y65 = 0 then ((fn_X1_isPieceB_L77 ε p0 z1 z2)  τ65) else (if z1 < nI 8 then (ob (fn_X1_goNext ε  τ65) (fun y80 τ80 => (ob (fn_X1_isOr ε p0 ((z1 + nI 1)) z2 τ80) (fun y88 τ88 => (if y88 = 0 then ((fn_X1_isPieceB_L103 ε p0 z1 z2)  τ88) else (ob (fn_X1_isAt ε (nI 41) τ88) (fun y97 τ97 => (if y97 = 0 then ((fn_X1_isPieceB_L103 ε p0 z1 z2)  τ97) else (ob (fn_X1_goNext ε  τ97) (fun y106 τ106 => some (nI 1, τ106))))))))))) else ((fn_X1_isPieceB_L77 ε p0 z1 z2)  τ65)))))
def fn_X1_isPieceB (ε : Ev) (p0 : Int32 → Int32 → Sg → Option (Int32 × Sg)) (z1 : Int32) (z2 : Int32) (σ : Sg) : Option (Int32 × Sg) := (if σ.1 64 4 = nI 2 then (ob (fn_X1_isNumber ε  σ) (fun y9 τ9 => (if y9 = 0 ∨ y9 = 1 then some (y9, τ9) else none))) else (if σ.1 64 4 = nI 1 then (ob (fn_X1_isName ε  σ) (fun y22 τ22 => (if y22 = 0 ∨ y22 = 1 then some (y22, τ22) else none))) else (ob (fn_X1_isAt ε (nI 33) σ) (fun y29 τ29 => (if y29 = 0 then ((fn_X1_isPieceB_L62 ε p0 z1 z2)  τ29) else (if nI 8 ≤ z2 then ((fn_X1_isPieceB_L62 ε p0 z1 z2)  τ29) else (ob (fn_X1_goNext ε  τ29) (fun y42 τ42 => (ob (p0 z1 ((z2 + nI 1)) τ42) (fun y50 τ50 => (ob (fn_X1_write ε ((-33)) τ50) (fun y57 τ57 => (if y50 = 0 ∨ y50 = 1 then some (y50, τ57) else none)))))))))))))
def fn_X1_isPiece (ε : Ev) : Nat → Int32 → Int32 → Sg → Option (Int32 × Sg)
  | 0 => fun _ _ _ => none
  | d + 1 => fn_X1_isPieceB ε (fn_X1_isPiece ε d)
def fn_X1_isText_L66 (ε : Ev) (s0 : Int32) (σ : Sg) : Option (Int32 × Sg) := (if s0 = 0 ∨ s0 = 1 then some (s0, σ) else none)
def fn_X1_isText_L65 (ε : Ev)  (σ : Sg) : Option (Int32 × Sg) := ((fn_X1_isText_L66 ε) (nI 0) σ)
def fn_X1_isText (ε : Ev) (σ : Sg) : Option (Int32 × Sg) := (ob (fn_X1_goNext ε  (pI (pI (pI (pI σ 64 3 (nI 0)) 64 4 (nI 0)) 64 7 (nI 0)) 64 8 (nI 0))) (fun y21 τ21 => (ob (fn_X1_keyHere ε  τ21) (fun y26 τ26 => (if 0 ≤ (pI τ26 64 5 y26).1 64 5 then (ob (fn_X1_goNext ε  (pI τ26 64 5 y26)) (fun y42 τ42 => (ob (fn_X1_isOr ε (fn_X1_isPiece ε 20) (nI 0) (nI 0) τ42) (fun y48 τ48 => (if y48 = 0 then ((fn_X1_isText_L65 ε)  τ48) else (if τ48.1 64 4 = 0 then ((fn_X1_isText_L66 ε) (nI 1) τ48) else ((fn_X1_isText_L65 ε)  τ48))))))) else some (nI 0, pI τ26 64 5 y26))))))
theorem kX1_isWord : mKV RX1 yX1_isWord cX1_isWord 3 (some .boolean) 1 := ⟨tIns_X1_isWord, tSel_X1_isWord, tIni_X1, tCod_X1_isWord, by decide +kernel⟩
set_option maxHeartbeats 4000000 in
set_option maxRecDepth 100000 in
theorem ct_X1_isWord (l : Launch) (D : va_G) (cy : Nat → ClassId) (Z : (Nat → Prop) → State → Heap → Prop) (hzo : zOK Z) {aStr aByt : Nat → Nat} (hzs : zSt Z aStr aByt) {q : Nat → Nat} {C : Ev → Sg → va_W} (hC : cLens cy q C) (ε : Ev) (c1 : Nat) (hc1 : c1 < 6) (σ σ2 : Sg) (res : Int32) (h : fn_X1_isWord ε c1 σ = some (res, σ2)) : GD l D cy Z yX1_isWord (zW yX1_isWord cX1_isWord 3 (some .boolean)) { frames := 4, cells := 0, slots := 0, locals := 85 } [.ref (sAd ε (64)), .ref (aStr (c1))] (C ε σ) (some (.int res)) (C ε σ2) 0 0 := by
  refine g_entry (cc := cX1_isWord) (maxL := 3) (by decide) rfl (Nat.le_of_ble_eq_true rfl) ?_
  intro κ hN hX hR
  have hX : GX κ cy Z cX1_isWord (Cond.code yX1_isWord cX1_isWord 3 (some .boolean) :: zT) RX1 { frames := 4, cells := 0, slots := 0, locals := 85 } := hX
  have hStr := zt_str hX hzs
  have J68 : ∀ (σ : Sg) , fn_X1_isWord_L68 ε c1  σ = some (res, σ2) → GW κ 0 0 (C ε σ) 68 [] [] := by
    intro σ h
    refine g_iconst hX (v := nI 1) rfl dX1_isWord_68 ?_
    exact g_retbD hR (by decide) (oi_1 h) (congrArg (C ε) (oi_2 h)) dX1_isWord_69
  have J20 : ∀ (k68 : Sg → Option (Int32 × Sg)) (hk68 : ∀ (σ : Sg) , k68  σ = some (res, σ2) → GW κ 0 0 (C ε σ) 68 [] []) (fuel : Nat), ∀ (v2 : Int32) (σ : Sg) , fn_X1_isWord_L20 ε c1 k68 fuel v2 σ = some (res, σ2) → GW κ 0 0 (C ε σ) 20 [(0, .ref (sAd ε (64))), (1, .ref (aStr (c1))), (2, .int (v2))] [] := by
    intro k68 hk68 fuel
    induction fuel with
    | zero => intro v2 σ h; cases (show none = some (res, σ2) from h)
    | succ fuel ih =>
      intro v2 σ h
      replace h : (o1 (fn_J0_length_8abf5 c1 ) (fun y22 => (if y22 ≤ v2 then (k68  σ) else (if σ.1 64 1 ≤ (σ.1 64 2 + v2) then (k68  σ) else (o1 (fn_J0_charAt_5068e c1 v2) (fun y43 => (if ¬ ((σ.1 64 2 + v2) < 0 ∨ 96 ≤ ((σ.1 64 2 + v2)).toNatClampNeg) then (if y43 = σ.1 65 ((σ.1 64 2 + v2)).toNatClampNeg then ((fn_X1_isWord_L20 ε c1 k68 fuel) ((v2 + nI 1)) σ) else some (nI 0, σ)) else none))))))) = some (res, σ2) := h
      refine g_iload_n hX 2 rfl rfl dX1_isWord_20 ?_
      refine g_aload_n hX 1 rfl rfl dX1_isWord_21 ?_
      obtain ⟨y22, e22, h⟩ := o1_some h
      refine s_callT hX hzo hStr hc1 [] [.int (v2)] (ct_J0_length_8abf5 _ _ _ _ hzo hzs _ c1 hc1  _ e22) kJ0_length_8abf5 tMet_X1_76 rfl rfl (Nat.le_of_ble_eq_true rfl) (Nat.le_of_ble_eq_true rfl) ⟨Nat.le_of_ble_eq_true rfl, Nat.le_of_ble_eq_true rfl⟩ rfl rfl (Nat.le_of_ble_eq_true rfl) dX1_isWord_22 ?_
      refine g_icmp_ge hX 68 (by decide) dX1_isWord_25 (fun b25 => ?_) (fun b25 => ?_)
      · replace h := if_p b25 h
        refine g_lv [] rfl ?_
        exact hk68   σ h
      · replace h := if_n b25 h
        refine g_aload_n hX 0 rfl rfl dX1_isWord_28 ?_
        refine c_get1 hX hC rfl 2 (by decide) rfl tFld_X1_19 rfl dX1_isWord_29 ?_
        refine g_iload_n hX 2 rfl rfl dX1_isWord_32 ?_
        refine g_iadd hX dX1_isWord_33 ?_
        refine g_aload_n hX 0 rfl rfl dX1_isWord_34 ?_
        refine c_get1 hX hC rfl 1 (by decide) rfl tFld_X1_15 rfl dX1_isWord_35 ?_
        refine g_icmp_ge hX 68 (by decide) dX1_isWord_38 (fun b38 => ?_) (fun b38 => ?_)
        · replace h := if_p b38 h
          refine g_lv [] rfl ?_
          exact hk68   σ h
        · replace h := if_n b38 h
          refine g_aload_n hX 1 rfl rfl dX1_isWord_41 ?_
          refine g_iload_n hX 2 rfl rfl dX1_isWord_42 ?_
          obtain ⟨y43, e43, h⟩ := o1_some h
          refine s_callT hX hzo hStr hc1 [.int (v2)] [] (ct_J0_charAt_5068e _ _ _ _ hzo hzs _ c1 hc1 v2 _ e43) kJ0_charAt_5068e tMet_X1_81 rfl rfl (Nat.le_of_ble_eq_true rfl) (Nat.le_of_ble_eq_true rfl) ⟨Nat.le_of_ble_eq_true rfl, Nat.le_of_ble_eq_true rfl⟩ rfl rfl (Nat.le_of_ble_eq_true rfl) dX1_isWord_43 ?_
          refine g_aload_n hX 0 rfl rfl dX1_isWord_46 ?_
          refine c_get1 hX hC rfl 0 (by decide) rfl tFld_X1_9 rfl dX1_isWord_47 ?_
          refine g_aload_n hX 0 rfl rfl dX1_isWord_50 ?_
          refine c_get1 hX hC rfl 2 (by decide) rfl tFld_X1_19 rfl dX1_isWord_51 ?_
          refine g_iload_n hX 2 rfl rfl dX1_isWord_54 ?_
          refine g_iadd hX dX1_isWord_55 ?_
          obtain ⟨g1, h⟩ := gd_some h
          refine c_ald hX hC (ka_X1_1 rfl) g1 dX1_isWord_56 ?_
          refine g_icmp_eq hX 62 (by decide) dX1_isWord_57 (fun b57 => ?_) (fun b57 => ?_)
          · replace h := if_p b57 h
            refine g_iinc (v := (v2 + nI 1)) (lv2 := [(2, .int ((v2 + nI 1))), (0, .ref (sAd ε (64))), (1, .ref (aStr (c1)))]) hX 2 2 3 hN rfl rfl (by decide) rfl dX1_isWord_62 ?_
            refine g_goto hX 20 (by decide) dX1_isWord_65 ?_
            refine g_lv [1, 2, 0] rfl ?_
            exact ih ((v2 + nI 1))  σ h
          · replace h := if_n b57 h
            refine g_iconst hX (v := nI 0) rfl dX1_isWord_60 ?_
            exact g_retbD hR (by decide) (oi_1 h) (congrArg (C ε) (oi_2 h)) dX1_isWord_61
  show GW κ 0 0 (C ε σ) 0 [(0, .ref (sAd ε (64))), (1, .ref (aStr (c1)))] []
  refine g_aload_n hX 1 rfl rfl dX1_isWord_0 ?_
  obtain ⟨y1, e1, h⟩ := o1_some h
  refine s_callT hX hzo hStr hc1 [] [] (ct_J0_length_8abf5 _ _ _ _ hzo hzs _ c1 hc1  _ e1) kJ0_length_8abf5 tMet_X1_76 rfl rfl (Nat.le_of_ble_eq_true rfl) (Nat.le_of_ble_eq_true rfl) ⟨Nat.le_of_ble_eq_true rfl, Nat.le_of_ble_eq_true rfl⟩ rfl rfl (Nat.le_of_ble_eq_true rfl) dX1_isWord_1 ?_
  refine g_aload_n hX 0 rfl rfl dX1_isWord_4 ?_
  refine c_get1 hX hC rfl 3 (by decide) rfl tFld_X1_22 rfl dX1_isWord_5 ?_
  refine g_aload_n hX 0 rfl rfl dX1_isWord_8 ?_
  refine c_get1 hX hC rfl 2 (by decide) rfl tFld_X1_19 rfl dX1_isWord_9 ?_
  refine g_isub hX dX1_isWord_12 ?_
  refine g_icmp_eq hX 18 (by decide) dX1_isWord_13 (fun b13 => ?_) (fun b13 => ?_)
  · replace h := if_p b13 h
    refine g_iconst hX (v := nI 0) rfl dX1_isWord_18 ?_
    refine g_istore_n (lv2 := [(2, .int (nI 0)), (0, .ref (sAd ε (64))), (1, .ref (aStr (c1)))]) hX 2 3 hN rfl (by decide) rfl dX1_isWord_19 ?_
    refine g_lv [1, 2, 0] rfl ?_
    exact (J20 (fn_X1_isWord_L68 ε c1) J68 4000) (nI 0)  σ h
  · replace h := if_n b13 h
    refine g_iconst hX (v := nI 0) rfl dX1_isWord_16 ?_
    exact g_retbD hR (by decide) (oi_1 h) (congrArg (C ε) (oi_2 h)) dX1_isWord_17
theorem kX1_keyHere : mKV RX1 yX1_keyHere cX1_keyHere 2 (some .int) 0 := ⟨tIns_X1_keyHere, tSel_X1_keyHere, tIni_X1, tCod_X1_keyHere, by decide +kernel⟩
set_option maxHeartbeats 4000000 in
set_option maxRecDepth 100000 in
theorem ct_X1_keyHere (l : Launch) (D : va_G) (cy : Nat → ClassId) (Z : (Nat → Prop) → State → Heap → Prop) (hzo : zOK Z) {aStr aByt : Nat → Nat} (hzs : zSt Z aStr aByt) {q : Nat → Nat} {C : Ev → Sg → va_W} (hC : cLens cy q C) (ε : Ev) (σ σ2 : Sg) (res : Int32) (h : fn_X1_keyHere ε σ = some (res, σ2)) : GD l D cy Z yX1_keyHere (zW yX1_keyHere cX1_keyHere 2 (some .int)) { frames := 5, cells := 0, slots := 0, locals := 107 } [.ref (sAd ε (64))] (C ε σ) (some (.int res)) (C ε σ2) 0 0 := by
  refine g_entry (cc := cX1_keyHere) (maxL := 2) (by decide) rfl (Nat.le_of_ble_eq_true rfl) ?_
  intro κ hN hX hR
  have hX : GX κ cy Z cX1_keyHere (Cond.code yX1_keyHere cX1_keyHere 2 (some .int) :: zT) RX1 { frames := 5, cells := 0, slots := 0, locals := 107 } := hX
  have hStr := zt_str hX hzs
  have J51 : ∀ (σ : Sg) , fn_X1_keyHere_L51 ε  σ = some (res, σ2) → GW κ 0 0 (C ε σ) 51 [] [] := by
    intro σ h
    refine g_iconst hX (v := -1) (by decide) dX1_keyHere_51 ?_
    exact g_reti hR (oi_1 h) (congrArg (C ε) (oi_2 h)) dX1_keyHere_52
  have J45 : ∀ (slf : Int32 → Sg → Option (Int32 × Sg)) (hslf : ∀ (v1 : Int32) (σ : Sg) , slf v1 σ = some (res, σ2) → GW κ 0 0 (C ε σ) 2 [(0, .ref (sAd ε (64))), (1, .int (v1))] []) (k51 : Sg → Option (Int32 × Sg)) (hk51 : ∀ (σ : Sg) , k51  σ = some (res, σ2) → GW κ 0 0 (C ε σ) 51 [] []), ∀ (v1 : Int32) (σ : Sg) , fn_X1_keyHere_L45 ε slf k51 v1 σ = some (res, σ2) → GW κ 0 0 (C ε σ) 45 [(0, .ref (sAd ε (64))), (1, .int (v1))] [] := by
    intro slf hslf k51 hk51 v1 σ h
    refine g_iinc (v := (v1 + nI 1)) (lv2 := [(1, .int ((v1 + nI 1))), (0, .ref (sAd ε (64)))]) hX 1 1 2 hN rfl rfl (by decide) rfl dX1_keyHere_45 ?_
    refine g_goto hX 2 (by decide) dX1_keyHere_48 ?_
    refine g_lv [1, 0] rfl ?_
    exact hslf ((v1 + nI 1))  σ h
  have J37 : ∀ (slf : Int32 → Sg → Option (Int32 × Sg)) (hslf : ∀ (v1 : Int32) (σ : Sg) , slf v1 σ = some (res, σ2) → GW κ 0 0 (C ε σ) 2 [(0, .ref (sAd ε (64))), (1, .int (v1))] []) (k51 : Sg → Option (Int32 × Sg)) (hk51 : ∀ (σ : Sg) , k51  σ = some (res, σ2) → GW κ 0 0 (C ε σ) 51 [] []), ∀ (v1 : Int32) (s0 : Nat) (hs0 : s0 < 6) (σ : Sg) , fn_X1_keyHere_L37 ε slf k51 v1 s0 σ = some (res, σ2) → GW κ 0 0 (C ε σ) 37 [(0, .ref (sAd ε (64))), (1, .int (v1))] [.ref (aStr (s0)), .ref (sAd ε (64))] := by
    intro slf hslf k51 hk51 v1 s0 hs0 σ h
    obtain ⟨y37, τ37, e37, h⟩ := ob_some h
    refine c_call1 hX hC hzo rfl [.ref (aStr (s0))] [] (ct_X1_isWord _ _ _ _ hzo hzs hC ε s0 hs0 σ _ _ e37) kX1_isWord tMet_X1_72 rfl rfl (Nat.le_of_ble_eq_true rfl) (Nat.le_of_ble_eq_true rfl) ⟨Nat.le_of_ble_eq_true rfl, Nat.le_of_ble_eq_true rfl⟩ rfl rfl (Nat.le_of_ble_eq_true rfl) dX1_keyHere_37 ?_
    refine g_if_eq hX 45 (by decide) dX1_keyHere_40 (fun b40 => ?_) (fun b40 => ?_)
    · replace h := if_p b40 h
      exact (J45 slf hslf k51 hk51) v1  τ37 h
    · replace h := if_n b40 h
      refine g_iload_n hX 1 rfl rfl dX1_keyHere_43 ?_
      exact g_reti hR (oi_1 h) (congrArg (C ε) (oi_2 h)) dX1_keyHere_44
  have J2 : ∀ (k51 : Sg → Option (Int32 × Sg)) (hk51 : ∀ (σ : Sg) , k51  σ = some (res, σ2) → GW κ 0 0 (C ε σ) 51 [] []) (fuel : Nat), ∀ (v1 : Int32) (σ : Sg) , fn_X1_keyHere_L2 ε k51 fuel v1 σ = some (res, σ2) → GW κ 0 0 (C ε σ) 2 [(0, .ref (sAd ε (64))), (1, .int (v1))] [] := by
    intro k51 hk51 fuel
    induction fuel with
    | zero => intro v1 σ h; cases (show none = some (res, σ2) from h)
    | succ fuel ih =>
      intro v1 σ h
      replace h : (if nI 3 ≤ v1 then (k51  σ) else (if σ.1 64 4 = nI 1 then (if v1 = 0 then ((fn_X1_keyHere_L37 ε (fn_X1_keyHere_L2 ε k51 fuel) k51) v1 0 σ) else (if v1 = nI 1 then ((fn_X1_keyHere_L37 ε (fn_X1_keyHere_L2 ε k51 fuel) k51) v1 1 σ) else ((fn_X1_keyHere_L37 ε (fn_X1_keyHere_L2 ε k51 fuel) k51) v1 2 σ))) else ((fn_X1_keyHere_L45 ε (fn_X1_keyHere_L2 ε k51 fuel) k51) v1 σ))) = some (res, σ2) := h
      refine g_iload_n hX 1 rfl rfl dX1_keyHere_2 ?_
      refine g_iconst hX (v := nI 3) rfl dX1_keyHere_3 ?_
      refine g_icmp_ge hX 51 (by decide) dX1_keyHere_4 (fun b4 => ?_) (fun b4 => ?_)
      · replace h := if_p b4 h
        refine g_lv [] rfl ?_
        exact hk51   σ h
      · replace h := if_n b4 h
        refine g_aload_n hX 0 rfl rfl dX1_keyHere_7 ?_
        refine c_get1 hX hC rfl 4 (by decide) rfl tFld_X1_25 rfl dX1_keyHere_8 ?_
        refine g_iconst hX (v := nI 1) rfl dX1_keyHere_11 ?_
        refine g_icmp_ne hX 45 (by decide) dX1_keyHere_12 (fun b12 => ?_) (fun b12 => ?_)
        · replace h := if_n b12 h
          exact (J45 (fn_X1_keyHere_L2 ε k51 fuel) ih k51 hk51) v1  σ h
        · replace h := if_p b12 h
          refine g_aload_n hX 0 rfl rfl dX1_keyHere_15 ?_
          refine g_iload_n hX 1 rfl rfl dX1_keyHere_16 ?_
          refine g_if_ne hX 25 (by decide) dX1_keyHere_17 (fun b17 => ?_) (fun b17 => ?_)
          · replace h := if_n b17 h
            refine g_iload_n hX 1 rfl rfl dX1_keyHere_25 ?_
            refine g_iconst hX (v := nI 1) rfl dX1_keyHere_26 ?_
            refine g_icmp_ne hX 35 (by decide) dX1_keyHere_27 (fun b27 => ?_) (fun b27 => ?_)
            · replace h := if_n b27 h
              refine g_str hX hStr 2 (by decide) dX1_keyHere_35 ?_
              exact (J37 (fn_X1_keyHere_L2 ε k51 fuel) ih k51 hk51) v1 2 (by decide) σ h
            · replace h := if_p b27 h
              refine g_str hX hStr 1 (by decide) dX1_keyHere_30 ?_
              refine g_goto hX 37 (by decide) dX1_keyHere_32 ?_
              exact (J37 (fn_X1_keyHere_L2 ε k51 fuel) ih k51 hk51) v1 1 (by decide) σ h
          · replace h := if_p b17 h
            refine g_str hX hStr 0 (by decide) dX1_keyHere_20 ?_
            refine g_goto hX 37 (by decide) dX1_keyHere_22 ?_
            exact (J37 (fn_X1_keyHere_L2 ε k51 fuel) ih k51 hk51) v1 0 (by decide) σ h
  show GW κ 0 0 (C ε σ) 0 [(0, .ref (sAd ε (64)))] []
  refine g_iconst hX (v := nI 0) rfl dX1_keyHere_0 ?_
  refine g_istore_n (lv2 := [(1, .int (nI 0)), (0, .ref (sAd ε (64)))]) hX 1 2 hN rfl (by decide) rfl dX1_keyHere_1 ?_
  refine g_lv [1, 0] rfl ?_
  exact (J2 (fn_X1_keyHere_L51 ε) J51 4000) (nI 0)  σ h
theorem kX1_isName : mKV RX1 yX1_isName cX1_isName 3 (some .boolean) 0 := ⟨tIns_X1_isName, tSel_X1_isName, tIni_X1, tCod_X1_isName, by decide +kernel⟩
set_option maxHeartbeats 4000000 in
set_option maxRecDepth 100000 in
theorem ct_X1_isName (l : Launch) (D : va_G) (cy : Nat → ClassId) (Z : (Nat → Prop) → State → Heap → Prop) (hzo : zOK Z) {aStr aByt : Nat → Nat} (hzs : zSt Z aStr aByt) {q : Nat → Nat} {C : Ev → Sg → va_W} (hC : cLens cy q C) (ε : Ev) (σ σ2 : Sg) (res : Int32) (h : fn_X1_isName ε σ = some (res, σ2)) : GD l D cy Z yX1_isName (zW yX1_isName cX1_isName 3 (some .boolean)) { frames := 4, cells := 0, slots := 0, locals := 91 } [.ref (sAd ε (64))] (C ε σ) (some (.int res)) (C ε σ2) 0 0 := by
  refine g_entry (cc := cX1_isName) (maxL := 3) (by decide) rfl (Nat.le_of_ble_eq_true rfl) ?_
  intro κ hN hX hR
  have hX : GX κ cy Z cX1_isName (Cond.code yX1_isName cX1_isName 3 (some .boolean) :: zT) RX1 { frames := 4, cells := 0, slots := 0, locals := 91 } := hX
  have hStr := zt_str hX hzs
  have J81 : ∀ (s0 : Int32) (σ : Sg) , fn_X1_isName_L81 ε s0 σ = some (res, σ2) → GW κ 0 0 (C ε σ) 81 [] [.int (s0)] := by
    intro s0 σ h
    obtain ⟨g1, h⟩ := gd_some h
    exact g_retbD hR g1 (oi_1 h) (congrArg (C ε) (oi_2 h)) dX1_isName_81
  have J80 : ∀ (σ : Sg) , fn_X1_isName_L80 ε  σ = some (res, σ2) → GW κ 0 0 (C ε σ) 80 [] [] := by
    intro σ h
    refine g_iconst hX (v := nI 0) rfl dX1_isName_80 ?_
    exact J81 (nI 0)  σ h
  have J59 : ∀ (s0 : Int32) (σ : Sg) , fn_X1_isName_L59 ε s0 σ = some (res, σ2) → GW κ 0 0 (C ε σ) 59 [(0, .ref (sAd ε (64)))] [.int (s0)] := by
    intro s0 σ h
    refine g_istore_n (lv2 := [(2, .int (s0)), (0, .ref (sAd ε (64)))]) hX 2 3 hN rfl (by decide) rfl dX1_isName_59 ?_
    refine g_iload_n hX 0 rfl rfl dX1_isName_60 ?_
    refine g_if_lt hX 80 (by decide) dX1_isName_61 (fun b61 => ?_) (fun b61 => ?_)
    · replace h := if_p b61 h
      refine g_lv [] rfl ?_
      exact J80   σ h
    · replace h := if_n b61 h
      refine g_aload_n hX 1 rfl rfl dX1_isName_64 ?_
      refine g_sipush hX (v := nI 10000) (by decide) dX1_isName_65 ?_
      refine g_iload_n hX 0 rfl rfl dX1_isName_68 ?_
      refine g_iadd hX dX1_isName_69 ?_
      obtain ⟨y70, τ70, e70, h⟩ := ob_some h
      refine c_call1 hX hC hzo rfl [.int ((nI 10000 + s0))] [] (ct_X1_takePiece _ _ _ _ hzo hzs hC ε ((nI 10000 + s0)) σ _ _ e70) kX1_takePiece tMet_X1_119 rfl rfl (Nat.le_of_ble_eq_true rfl) (Nat.le_of_ble_eq_true rfl) ⟨Nat.le_of_ble_eq_true rfl, Nat.le_of_ble_eq_true rfl⟩ rfl rfl (Nat.le_of_ble_eq_true rfl) dX1_isName_70 ?_
      refine g_if_eq hX 80 (by decide) dX1_isName_73 (fun b73 => ?_) (fun b73 => ?_)
      · replace h := if_p b73 h
        refine g_lv [] rfl ?_
        exact J80   τ70 h
      · replace h := if_n b73 h
        refine g_iconst hX (v := nI 1) rfl dX1_isName_76 ?_
        refine g_goto hX 81 (by decide) dX1_isName_77 ?_
        refine g_lv [] rfl ?_
        exact J81 (nI 1)  τ70 h
  have J27 : ∀ (s0 : Nat) (hs0 : s0 < 6) (σ : Sg) , fn_X1_isName_L27 ε s0 σ = some (res, σ2) → GW κ 0 0 (C ε σ) 27 [(0, .ref (sAd ε (64)))] [.ref (aStr (s0))] := by
    intro s0 hs0 σ h
    refine g_astore_n (lv2 := [(1, .ref (aStr (s0))), (0, .ref (sAd ε (64)))]) hX 1 3 hN rfl (by decide) rfl dX1_isName_27 ?_
    refine g_aload_n hX 1 rfl rfl dX1_isName_28 ?_
    refine c_get1 hX hC rfl 3 (by decide) rfl tFld_X1_22 rfl dX1_isName_29 ?_
    refine g_aload_n hX 1 rfl rfl dX1_isName_32 ?_
    refine c_get1 hX hC rfl 2 (by decide) rfl tFld_X1_19 rfl dX1_isName_33 ?_
    refine g_isub hX dX1_isName_36 ?_
    refine g_iconst hX (v := nI 1) rfl dX1_isName_37 ?_
    refine g_icmp_ne hX 58 (by decide) dX1_isName_38 (fun b38 => ?_) (fun b38 => ?_)
    · replace h := if_n b38 h
      refine g_iconst hX (v := -1) (by decide) dX1_isName_58 ?_
      refine g_lv [1] rfl ?_
      exact J59 ((-1))  σ h
    · replace h := if_p b38 h
      refine g_aload_n hX 0 rfl rfl dX1_isName_41 ?_
      refine g_aload_n hX 1 rfl rfl dX1_isName_42 ?_
      refine c_get1 hX hC rfl 0 (by decide) rfl tFld_X1_9 rfl dX1_isName_43 ?_
      refine g_aload_n hX 1 rfl rfl dX1_isName_46 ?_
      refine c_get1 hX hC rfl 2 (by decide) rfl tFld_X1_19 rfl dX1_isName_47 ?_
      obtain ⟨g2, h⟩ := gd_some h
      refine c_ald hX hC (ka_X1_1 rfl) g2 dX1_isName_50 ?_
      refine g_i2c hX dX1_isName_51 ?_
      obtain ⟨y52, e52, h⟩ := o1_some h
      refine s_callT hX hzo hStr hs0 [.int ((Int32.toUInt32 (σ.1 65 (σ.1 64 2).toNatClampNeg) % 65536).toInt32)] [] (ct_J0_indexOf_0f7a4 _ _ _ _ hzo hzs _ s0 hs0 ((Int32.toUInt32 (σ.1 65 (σ.1 64 2).toNatClampNeg) % 65536).toInt32) _ e52) kJ0_indexOf_0f7a4 tMet_X1_129 rfl rfl (Nat.le_of_ble_eq_true rfl) (Nat.le_of_ble_eq_true rfl) ⟨Nat.le_of_ble_eq_true rfl, Nat.le_of_ble_eq_true rfl⟩ rfl rfl (Nat.le_of_ble_eq_true rfl) dX1_isName_52 ?_
      refine g_goto hX 59 (by decide) dX1_isName_55 ?_
      refine g_lv [1] rfl ?_
      exact J59 y52  σ h
  show GW κ 0 0 (C ε σ) 0 [(0, .ref (sAd ε (64)))] []
  refine g_aload_n hX 0 rfl rfl dX1_isName_0 ?_
  refine c_get1 hX hC rfl 5 (by decide) rfl tFld_X1_28 rfl dX1_isName_1 ?_
  refine g_if_ne hX 12 (by decide) dX1_isName_4 (fun b4 => ?_) (fun b4 => ?_)
  · replace h := if_n b4 h
    refine g_aload_n hX 0 rfl rfl dX1_isName_12 ?_
    refine c_get1 hX hC rfl 5 (by decide) rfl tFld_X1_28 rfl dX1_isName_13 ?_
    refine g_iconst hX (v := nI 1) rfl dX1_isName_16 ?_
    refine g_icmp_ne hX 25 (by decide) dX1_isName_17 (fun b17 => ?_) (fun b17 => ?_)
    · replace h := if_n b17 h
      refine g_str hX hStr 5 (by decide) dX1_isName_25 ?_
      exact J27 5 (by decide) σ h
    · replace h := if_p b17 h
      refine g_str hX hStr 4 (by decide) dX1_isName_20 ?_
      refine g_goto hX 27 (by decide) dX1_isName_22 ?_
      exact J27 4 (by decide) σ h
  · replace h := if_p b4 h
    refine g_str hX hStr 3 (by decide) dX1_isName_7 ?_
    refine g_goto hX 27 (by decide) dX1_isName_9 ?_
    exact J27 3 (by decide) σ h
theorem kX1_isPiece : mKV RX1 yX1_isPiece cX1_isPiece 4 (some .boolean) 2 := ⟨tIns_X1_isPiece, tSel_X1_isPiece, tIni_X1, tCod_X1_isPiece, by decide +kernel⟩
theorem kX1_isTerm : mKV RX1 yX1_isTerm cX1_isTerm 6 (some .boolean) 2 := ⟨tIns_X1_isTerm, tSel_X1_isTerm, tIni_X1, tCod_X1_isTerm, by decide +kernel⟩
set_option maxHeartbeats 4000000 in
set_option maxRecDepth 100000 in
theorem ct_X1_isTerm (l : Launch) (D : va_G) (cy : Nat → ClassId) (Z : (Nat → Prop) → State → Heap → Prop) (hzo : zOK Z) {aStr aByt : Nat → Nat} (hzs : zSt Z aStr aByt) {q : Nat → Nat} {C : Ev → Sg → va_W} (hC : cLens cy q C) (ε : Ev) (p0 : Int32 → Int32 → Sg → Option (Int32 × Sg)) (F L : Nat) (hF : 8 ≤ F) (hL : 300 ≤ L) (hp0 : ∀ (l : Launch) (D : va_G) (z1 z2 : Int32) (σ σ2 : Sg) (res : Int32), p0 z1 z2 σ = some (res, σ2) → GD l D cy Z yX1_isPiece (zW yX1_isPiece cX1_isPiece 4 (some .boolean)) { frames := F, cells := 0, slots := 0, locals := L } [.ref (sAd ε (64)), .int (z1), .int (z2)] (C ε σ) (some (.int res)) (C ε σ2) 0 0) (z1 : Int32) (z2 : Int32) (σ σ2 : Sg) (res : Int32) (h : fn_X1_isTerm ε p0 z1 z2 σ = some (res, σ2)) : GD l D cy Z yX1_isTerm (zW yX1_isTerm cX1_isTerm 6 (some .boolean)) { frames := F + 1, cells := 0, slots := 0, locals := L + 30 } [.ref (sAd ε (64)), .int (z1), .int (z2)] (C ε σ) (some (.int res)) (C ε σ2) 0 0 := by
  refine g_entry (cc := cX1_isTerm) (maxL := 6) (by decide) rfl (Nat.le_of_ble_eq_true rfl) ?_
  intro κ hN hX hR
  have hX : GX κ cy Z cX1_isTerm (Cond.code yX1_isTerm cX1_isTerm 6 (some .boolean) :: zT) RX1 { frames := F + 1, cells := 0, slots := 0, locals := L + 30 } := hX
  have J59 : ∀ (v3 : Int32) (σ : Sg) , fn_X1_isTerm_L59 ε p0 z1 z2 v3 σ = some (res, σ2) → GW κ 0 0 (C ε σ) 59 [(3, .int (v3))] [] := by
    intro v3 σ h
    refine g_iload_n hX 0 rfl rfl dX1_isTerm_59 ?_
    obtain ⟨g1, h⟩ := gd_some h
    exact g_retbD hR g1 (oi_1 h) (congrArg (C ε) (oi_2 h)) dX1_isTerm_60
  have J10 : ∀ (k59 : Int32 → Sg → Option (Int32 × Sg)) (hk59 : ∀ (v3 : Int32) (σ : Sg) , k59 v3 σ = some (res, σ2) → GW κ 0 0 (C ε σ) 59 [(3, .int (v3))] []) (fuel : Nat), ∀ (v3 : Int32) (v4 : Int32) (σ : Sg) , fn_X1_isTerm_L10 ε p0 z1 z2 k59 fuel v3 v4 σ = some (res, σ2) → GW κ 0 0 (C ε σ) 10 [(0, .ref (sAd ε (64))), (1, .int (z1)), (2, .int (z2)), (3, .int (v3)), (4, .int (v4))] [] := by
    intro k59 hk59 fuel
    induction fuel with
    | zero => intro v3 v4 σ h; cases (show none = some (res, σ2) from h)
    | succ fuel ih =>
      intro v3 v4 σ h
      replace h : (if nI 96 ≤ v4 then (k59 v3 σ) else (if v3 = 0 then (k59 v3 σ) else (ob (fn_X1_passed ε (nI 42) (nI 47) σ) (fun y26 τ26 => (if y26 = 0 then (k59 v3 τ26) else (ob (p0 z1 z2 τ26) (fun y42 τ42 => (ob (fn_X1_write ε ((-(y26))) τ42) (fun y50 τ50 => ((fn_X1_isTerm_L10 ε p0 z1 z2 k59 fuel) y42 ((v4 + nI 1)) τ50)))))))))) = some (res, σ2) := h
      refine g_iload hX 4 rfl dX1_isTerm_10 ?_
      refine g_bipush hX (v := nI 96) (by decide) dX1_isTerm_12 ?_
      refine g_icmp_ge hX 59 (by decide) dX1_isTerm_14 (fun b14 => ?_) (fun b14 => ?_)
      · replace h := if_p b14 h
        refine g_lv [3] rfl ?_
        exact hk59 v3  σ h
      · replace h := if_n b14 h
        refine g_iload_n hX 3 rfl rfl dX1_isTerm_17 ?_
        refine g_if_eq hX 59 (by decide) dX1_isTerm_18 (fun b18 => ?_) (fun b18 => ?_)
        · replace h := if_p b18 h
          refine g_lv [3] rfl ?_
          exact hk59 v3  σ h
        · replace h := if_n b18 h
          refine g_aload_n hX 0 rfl rfl dX1_isTerm_21 ?_
          refine g_bipush hX (v := nI 42) (by decide) dX1_isTerm_22 ?_
          refine g_bipush hX (v := nI 47) (by decide) dX1_isTerm_24 ?_
          obtain ⟨y26, τ26, e26, h⟩ := ob_some h
          refine c_call1 hX hC hzo rfl [.int (nI 42), .int (nI 47)] [] (ct_X1_passed _ _ _ _ hzo hzs hC ε (nI 42) (nI 47) σ _ _ e26) kX1_passed tMet_X1_92 rfl rfl (by show 2 + 1 ≤ F + 1; omega) (by show 8 + (4 + 11) + (42) ≤ L + 30; omega) ⟨Nat.le_of_ble_eq_true rfl, Nat.le_of_ble_eq_true rfl⟩ rfl rfl (Nat.le_of_ble_eq_true rfl) dX1_isTerm_26 ?_
          refine g_istore (lv2 := [(5, .int (y26)), (0, .ref (sAd ε (64))), (1, .int (z1)), (2, .int (z2)), (3, .int (v3)), (4, .int (v4))]) hX 5 6 hN (by decide) rfl dX1_isTerm_29 ?_
          refine g_iload hX 0 rfl dX1_isTerm_31 ?_
          refine g_if_ne hX 39 (by decide) dX1_isTerm_33 (fun b33 => ?_) (fun b33 => ?_)
          · replace h := if_n b33 h
            refine g_aload_n hX 1 rfl rfl dX1_isTerm_39 ?_
            refine g_iload_n hX 2 rfl rfl dX1_isTerm_40 ?_
            refine g_iload_n hX 3 rfl rfl dX1_isTerm_41 ?_
            obtain ⟨y42, τ42, e42, h⟩ := ob_some h
            refine c_call1 hX hC hzo rfl [.int (z1), .int (z2)] [] (hp0 _ _ z1 z2 τ26 _ _ e42) kX1_isPiece tMet_X1_109 rfl rfl (by show F + 1 ≤ F + 1; omega) (by show 8 + (4 + 11) + (L) ≤ L + 30; omega) ⟨Nat.le_of_ble_eq_true rfl, Nat.le_of_ble_eq_true rfl⟩ rfl rfl (Nat.le_of_ble_eq_true rfl) dX1_isTerm_42 ?_
            refine g_istore_n (lv2 := [(3, .int (y42)), (5, .int (y26)), (0, .ref (sAd ε (64))), (1, .int (z1)), (2, .int (z2)), (4, .int (v4))]) hX 3 6 hN rfl (by decide) rfl dX1_isTerm_45 ?_
            refine g_aload_n hX 2 rfl rfl dX1_isTerm_46 ?_
            refine g_iload hX 1 rfl dX1_isTerm_47 ?_
            refine g_ineg hX dX1_isTerm_49 ?_
            obtain ⟨y50, τ50, e50, h⟩ := ob_some h
            refine c_call1 hX hC hzo rfl [.int ((-(y26)))] [] (ct_X1_write _ _ _ _ hzo hzs hC ε ((-(y26))) τ42 _ _ e50) kX1_write tMet_X1_96 rfl rfl (by show 0 + 1 ≤ F + 1; omega) (by show 8 + (2 + 11) + (0) ≤ L + 30; omega) ⟨Nat.le_of_ble_eq_true rfl, Nat.le_of_ble_eq_true rfl⟩ rfl rfl (Nat.le_of_ble_eq_true rfl) dX1_isTerm_50 ?_
            refine g_iinc (v := (v4 + nI 1)) (lv2 := [(4, .int ((v4 + nI 1))), (3, .int (y42)), (5, .int (y26)), (0, .ref (sAd ε (64))), (1, .int (z1)), (2, .int (z2))]) hX 5 4 6 hN rfl rfl (by decide) rfl dX1_isTerm_53 ?_
            refine g_goto hX 10 (by decide) dX1_isTerm_56 ?_
            refine g_lv [3, 4, 5, 1, 0] rfl ?_
            exact ih y42 ((v4 + nI 1))  τ50 h
          · replace h := if_p b33 h
            refine g_goto hX 59 (by decide) dX1_isTerm_36 ?_
            refine g_lv [4] rfl ?_
            exact hk59 v3  τ26 h
  show GW κ 0 0 (C ε σ) 0 [(0, .ref (sAd ε (64))), (1, .int (z1)), (2, .int (z2))] []
  refine g_aload_n hX 0 rfl rfl dX1_isTerm_0 ?_
  refine g_iload_n hX 1 rfl rfl dX1_isTerm_1 ?_
  refine g_iload_n hX 2 rfl rfl dX1_isTerm_2 ?_
  obtain ⟨y3, τ3, e3, h⟩ := ob_some h
  refine c_call1 hX hC hzo rfl [.int (z1), .int (z2)] [] (hp0 _ _ z1 z2 σ _ _ e3) kX1_isPiece tMet_X1_109 rfl rfl (by show F + 1 ≤ F + 1; omega) (by show 8 + (4 + 11) + (L) ≤ L + 30; omega) ⟨Nat.le_of_ble_eq_true rfl, Nat.le_of_ble_eq_true rfl⟩ rfl rfl (Nat.le_of_ble_eq_true rfl) dX1_isTerm_3 ?_
  refine g_istore_n (lv2 := [(3, .int (y3)), (0, .ref (sAd ε (64))), (1, .int (z1)), (2, .int (z2))]) hX 3 6 hN rfl (by decide) rfl dX1_isTerm_6 ?_
  refine g_iconst hX (v := nI 0) rfl dX1_isTerm_7 ?_
  refine g_istore (lv2 := [(4, .int (nI 0)), (3, .int (y3)), (0, .ref (sAd ε (64))), (1, .int (z1)), (2, .int (z2))]) hX 4 6 hN (by decide) rfl dX1_isTerm_8 ?_
  refine g_lv [2, 3, 4, 1, 0] rfl ?_
  exact (J10 (fn_X1_isTerm_L59 ε p0 z1 z2) J59 4000) y3 (nI 0)  τ3 h
theorem kX1_isSum : mKV RX1 yX1_isSum cX1_isSum 6 (some .boolean) 2 := ⟨tIns_X1_isSum, tSel_X1_isSum, tIni_X1, tCod_X1_isSum, by decide +kernel⟩
set_option maxHeartbeats 4000000 in
set_option maxRecDepth 100000 in
theorem ct_X1_isSum (l : Launch) (D : va_G) (cy : Nat → ClassId) (Z : (Nat → Prop) → State → Heap → Prop) (hzo : zOK Z) {aStr aByt : Nat → Nat} (hzs : zSt Z aStr aByt) {q : Nat → Nat} {C : Ev → Sg → va_W} (hC : cLens cy q C) (ε : Ev) (p0 : Int32 → Int32 → Sg → Option (Int32 × Sg)) (F L : Nat) (hF : 8 ≤ F) (hL : 300 ≤ L) (hp0 : ∀ (l : Launch) (D : va_G) (z1 z2 : Int32) (σ σ2 : Sg) (res : Int32), p0 z1 z2 σ = some (res, σ2) → GD l D cy Z yX1_isPiece (zW yX1_isPiece cX1_isPiece 4 (some .boolean)) { frames := F, cells := 0, slots := 0, locals := L } [.ref (sAd ε (64)), .int (z1), .int (z2)] (C ε σ) (some (.int res)) (C ε σ2) 0 0) (z1 : Int32) (z2 : Int32) (σ σ2 : Sg) (res : Int32) (h : fn_X1_isSum ε p0 z1 z2 σ = some (res, σ2)) : GD l D cy Z yX1_isSum (zW yX1_isSum cX1_isSum 6 (some .boolean)) { frames := F + 2, cells := 0, slots := 0, locals := L + 60 } [.ref (sAd ε (64)), .int (z1), .int (z2)] (C ε σ) (some (.int res)) (C ε σ2) 0 0 := by
  refine g_entry (cc := cX1_isSum) (maxL := 6) (by decide) rfl (Nat.le_of_ble_eq_true rfl) ?_
  intro κ hN hX hR
  have hX : GX κ cy Z cX1_isSum (Cond.code yX1_isSum cX1_isSum 6 (some .boolean) :: zT) RX1 { frames := F + 2, cells := 0, slots := 0, locals := L + 60 } := hX
  have J59 : ∀ (v3 : Int32) (σ : Sg) , fn_X1_isSum_L59 ε p0 z1 z2 v3 σ = some (res, σ2) → GW κ 0 0 (C ε σ) 59 [(3, .int (v3))] [] := by
    intro v3 σ h
    refine g_iload_n hX 0 rfl rfl dX1_isSum_59 ?_
    obtain ⟨g1, h⟩ := gd_some h
    exact g_retbD hR g1 (oi_1 h) (congrArg (C ε) (oi_2 h)) dX1_isSum_60
  have J10 : ∀ (k59 : Int32 → Sg → Option (Int32 × Sg)) (hk59 : ∀ (v3 : Int32) (σ : Sg) , k59 v3 σ = some (res, σ2) → GW κ 0 0 (C ε σ) 59 [(3, .int (v3))] []) (fuel : Nat), ∀ (v3 : Int32) (v4 : Int32) (σ : Sg) , fn_X1_isSum_L10 ε p0 z1 z2 k59 fuel v3 v4 σ = some (res, σ2) → GW κ 0 0 (C ε σ) 10 [(0, .ref (sAd ε (64))), (1, .int (z1)), (2, .int (z2)), (3, .int (v3)), (4, .int (v4))] [] := by
    intro k59 hk59 fuel
    induction fuel with
    | zero => intro v3 v4 σ h; cases (show none = some (res, σ2) from h)
    | succ fuel ih =>
      intro v3 v4 σ h
      replace h : (if nI 96 ≤ v4 then (k59 v3 σ) else (if v3 = 0 then (k59 v3 σ) else (ob (fn_X1_passed ε (nI 43) (nI 45) σ) (fun y26 τ26 => (if y26 = 0 then (k59 v3 τ26) else (ob (fn_X1_isTerm ε p0 z1 z2 τ26) (fun y42 τ42 => (ob (fn_X1_write ε ((-(y26))) τ42) (fun y50 τ50 => ((fn_X1_isSum_L10 ε p0 z1 z2 k59 fuel) y42 ((v4 + nI 1)) τ50)))))))))) = some (res, σ2) := h
      refine g_iload hX 4 rfl dX1_isSum_10 ?_
      refine g_bipush hX (v := nI 96) (by decide) dX1_isSum_12 ?_
      refine g_icmp_ge hX 59 (by decide) dX1_isSum_14 (fun b14 => ?_) (fun b14 => ?_)
      · replace h := if_p b14 h
        refine g_lv [3] rfl ?_
        exact hk59 v3  σ h
      · replace h := if_n b14 h
        refine g_iload_n hX 3 rfl rfl dX1_isSum_17 ?_
        refine g_if_eq hX 59 (by decide) dX1_isSum_18 (fun b18 => ?_) (fun b18 => ?_)
        · replace h := if_p b18 h
          refine g_lv [3] rfl ?_
          exact hk59 v3  σ h
        · replace h := if_n b18 h
          refine g_aload_n hX 0 rfl rfl dX1_isSum_21 ?_
          refine g_bipush hX (v := nI 43) (by decide) dX1_isSum_22 ?_
          refine g_bipush hX (v := nI 45) (by decide) dX1_isSum_24 ?_
          obtain ⟨y26, τ26, e26, h⟩ := ob_some h
          refine c_call1 hX hC hzo rfl [.int (nI 43), .int (nI 45)] [] (ct_X1_passed _ _ _ _ hzo hzs hC ε (nI 43) (nI 45) σ _ _ e26) kX1_passed tMet_X1_92 rfl rfl (by show 2 + 1 ≤ F + 2; omega) (by show 8 + (4 + 11) + (42) ≤ L + 60; omega) ⟨Nat.le_of_ble_eq_true rfl, Nat.le_of_ble_eq_true rfl⟩ rfl rfl (Nat.le_of_ble_eq_true rfl) dX1_isSum_26 ?_
          refine g_istore (lv2 := [(5, .int (y26)), (0, .ref (sAd ε (64))), (1, .int (z1)), (2, .int (z2)), (3, .int (v3)), (4, .int (v4))]) hX 5 6 hN (by decide) rfl dX1_isSum_29 ?_
          refine g_iload hX 0 rfl dX1_isSum_31 ?_
          refine g_if_ne hX 39 (by decide) dX1_isSum_33 (fun b33 => ?_) (fun b33 => ?_)
          · replace h := if_n b33 h
            refine g_aload_n hX 1 rfl rfl dX1_isSum_39 ?_
            refine g_iload_n hX 2 rfl rfl dX1_isSum_40 ?_
            refine g_iload_n hX 3 rfl rfl dX1_isSum_41 ?_
            obtain ⟨y42, τ42, e42, h⟩ := ob_some h
            refine c_call1 hX hC hzo rfl [.int (z1), .int (z2)] [] (ct_X1_isTerm _ _ _ _ hzo hzs hC ε p0 F L hF hL hp0 z1 z2 τ26 _ _ e42) kX1_isTerm tMet_X1_106 rfl rfl (by show F + 1 + 1 ≤ F + 2; omega) (by show 8 + (6 + 11) + (L + 30) ≤ L + 60; omega) ⟨Nat.le_of_ble_eq_true rfl, Nat.le_of_ble_eq_true rfl⟩ rfl rfl (Nat.le_of_ble_eq_true rfl) dX1_isSum_42 ?_
            refine g_istore_n (lv2 := [(3, .int (y42)), (5, .int (y26)), (0, .ref (sAd ε (64))), (1, .int (z1)), (2, .int (z2)), (4, .int (v4))]) hX 3 6 hN rfl (by decide) rfl dX1_isSum_45 ?_
            refine g_aload_n hX 2 rfl rfl dX1_isSum_46 ?_
            refine g_iload hX 1 rfl dX1_isSum_47 ?_
            refine g_ineg hX dX1_isSum_49 ?_
            obtain ⟨y50, τ50, e50, h⟩ := ob_some h
            refine c_call1 hX hC hzo rfl [.int ((-(y26)))] [] (ct_X1_write _ _ _ _ hzo hzs hC ε ((-(y26))) τ42 _ _ e50) kX1_write tMet_X1_96 rfl rfl (by show 0 + 1 ≤ F + 2; omega) (by show 8 + (2 + 11) + (0) ≤ L + 60; omega) ⟨Nat.le_of_ble_eq_true rfl, Nat.le_of_ble_eq_true rfl⟩ rfl rfl (Nat.le_of_ble_eq_true rfl) dX1_isSum_50 ?_
            refine g_iinc (v := (v4 + nI 1)) (lv2 := [(4, .int ((v4 + nI 1))), (3, .int (y42)), (5, .int (y26)), (0, .ref (sAd ε (64))), (1, .int (z1)), (2, .int (z2))]) hX 5 4 6 hN rfl rfl (by decide) rfl dX1_isSum_53 ?_
            refine g_goto hX 10 (by decide) dX1_isSum_56 ?_
            refine g_lv [3, 4, 5, 1, 0] rfl ?_
            exact ih y42 ((v4 + nI 1))  τ50 h
          · replace h := if_p b33 h
            refine g_goto hX 59 (by decide) dX1_isSum_36 ?_
            refine g_lv [4] rfl ?_
            exact hk59 v3  τ26 h
  show GW κ 0 0 (C ε σ) 0 [(0, .ref (sAd ε (64))), (1, .int (z1)), (2, .int (z2))] []
  refine g_aload_n hX 0 rfl rfl dX1_isSum_0 ?_
  refine g_iload_n hX 1 rfl rfl dX1_isSum_1 ?_
  refine g_iload_n hX 2 rfl rfl dX1_isSum_2 ?_
  obtain ⟨y3, τ3, e3, h⟩ := ob_some h
  refine c_call1 hX hC hzo rfl [.int (z1), .int (z2)] [] (ct_X1_isTerm _ _ _ _ hzo hzs hC ε p0 F L hF hL hp0 z1 z2 σ _ _ e3) kX1_isTerm tMet_X1_106 rfl rfl (by show F + 1 + 1 ≤ F + 2; omega) (by show 8 + (6 + 11) + (L + 30) ≤ L + 60; omega) ⟨Nat.le_of_ble_eq_true rfl, Nat.le_of_ble_eq_true rfl⟩ rfl rfl (Nat.le_of_ble_eq_true rfl) dX1_isSum_3 ?_
  refine g_istore_n (lv2 := [(3, .int (y3)), (0, .ref (sAd ε (64))), (1, .int (z1)), (2, .int (z2))]) hX 3 6 hN rfl (by decide) rfl dX1_isSum_6 ?_
  refine g_iconst hX (v := nI 0) rfl dX1_isSum_7 ?_
  refine g_istore (lv2 := [(4, .int (nI 0)), (3, .int (y3)), (0, .ref (sAd ε (64))), (1, .int (z1)), (2, .int (z2))]) hX 4 6 hN (by decide) rfl dX1_isSum_8 ?_
  refine g_lv [2, 3, 4, 1, 0] rfl ?_
  exact (J10 (fn_X1_isSum_L59 ε p0 z1 z2) J59 4000) y3 (nI 0)  τ3 h
theorem kX1_isTest : mKV RX1 yX1_isTest cX1_isTest 5 (some .boolean) 2 := ⟨tIns_X1_isTest, tSel_X1_isTest, tIni_X1, tCod_X1_isTest, by decide +kernel⟩
set_option maxHeartbeats 4000000 in
set_option maxRecDepth 100000 in
theorem ct_X1_isTest (l : Launch) (D : va_G) (cy : Nat → ClassId) (Z : (Nat → Prop) → State → Heap → Prop) (hzo : zOK Z) {aStr aByt : Nat → Nat} (hzs : zSt Z aStr aByt) {q : Nat → Nat} {C : Ev → Sg → va_W} (hC : cLens cy q C) (ε : Ev) (p0 : Int32 → Int32 → Sg → Option (Int32 × Sg)) (F L : Nat) (hF : 8 ≤ F) (hL : 300 ≤ L) (hp0 : ∀ (l : Launch) (D : va_G) (z1 z2 : Int32) (σ σ2 : Sg) (res : Int32), p0 z1 z2 σ = some (res, σ2) → GD l D cy Z yX1_isPiece (zW yX1_isPiece cX1_isPiece 4 (some .boolean)) { frames := F, cells := 0, slots := 0, locals := L } [.ref (sAd ε (64)), .int (z1), .int (z2)] (C ε σ) (some (.int res)) (C ε σ2) 0 0) (z1 : Int32) (z2 : Int32) (σ σ2 : Sg) (res : Int32) (h : fn_X1_isTest ε p0 z1 z2 σ = some (res, σ2)) : GD l D cy Z yX1_isTest (zW yX1_isTest cX1_isTest 5 (some .boolean)) { frames := F + 3, cells := 0, slots := 0, locals := L + 90 } [.ref (sAd ε (64)), .int (z1), .int (z2)] (C ε σ) (some (.int res)) (C ε σ2) 0 0 := by
  refine g_entry (cc := cX1_isTest) (maxL := 5) (by decide) rfl (Nat.le_of_ble_eq_true rfl) ?_
  intro κ hN hX hR
  have hX : GX κ cy Z cX1_isTest (Cond.code yX1_isTest cX1_isTest 5 (some .boolean) :: zT) RX1 { frames := F + 3, cells := 0, slots := 0, locals := L + 90 } := hX
  have J33 : ∀ (v3 : Int32) (σ : Sg) , fn_X1_isTest_L33 ε p0 z1 z2 v3 σ = some (res, σ2) → GW κ 0 0 (C ε σ) 33 [(0, .ref (sAd ε (64))), (1, .int (z1)), (2, .int (z2)), (3, .int (v3))] [] := by
    intro v3 σ h
    refine g_iload_n hX 3 rfl rfl dX1_isTest_33 ?_
    refine g_if_ne hX 39 (by decide) dX1_isTest_34 (fun b34 => ?_) (fun b34 => ?_)
    · replace h := if_n b34 h
      refine g_aload_n hX 0 rfl rfl dX1_isTest_39 ?_
      refine g_iload_n hX 1 rfl rfl dX1_isTest_40 ?_
      refine g_iload_n hX 2 rfl rfl dX1_isTest_41 ?_
      obtain ⟨y42, τ42, e42, h⟩ := ob_some h
      refine c_call1 hX hC hzo rfl [.int (z1), .int (z2)] [] (ct_X1_isSum _ _ _ _ hzo hzs hC ε p0 F L hF hL hp0 z1 z2 σ _ _ e42) kX1_isSum tMet_X1_103 rfl rfl (by show F + 2 + 1 ≤ F + 3; omega) (by show 8 + (6 + 11) + (L + 60) ≤ L + 90; omega) ⟨Nat.le_of_ble_eq_true rfl, Nat.le_of_ble_eq_true rfl⟩ rfl rfl (Nat.le_of_ble_eq_true rfl) dX1_isTest_42 ?_
      refine g_istore (lv2 := [(4, .int (y42)), (0, .ref (sAd ε (64))), (1, .int (z1)), (2, .int (z2)), (3, .int (v3))]) hX 4 5 hN (by decide) rfl dX1_isTest_45 ?_
      refine g_aload_n hX 1 rfl rfl dX1_isTest_47 ?_
      refine g_iload_n hX 4 rfl rfl dX1_isTest_48 ?_
      refine g_ineg hX dX1_isTest_49 ?_
      obtain ⟨y50, τ50, e50, h⟩ := ob_some h
      refine c_call1 hX hC hzo rfl [.int ((-(v3)))] [] (ct_X1_write _ _ _ _ hzo hzs hC ε ((-(v3))) τ42 _ _ e50) kX1_write tMet_X1_96 rfl rfl (by show 0 + 1 ≤ F + 3; omega) (by show 8 + (2 + 11) + (0) ≤ L + 90; omega) ⟨Nat.le_of_ble_eq_true rfl, Nat.le_of_ble_eq_true rfl⟩ rfl rfl (Nat.le_of_ble_eq_true rfl) dX1_isTest_50 ?_
      refine g_iload hX 0 rfl dX1_isTest_53 ?_
      obtain ⟨g1, h⟩ := gd_some h
      exact g_retbD hR g1 (oi_1 h) (congrArg (C ε) (oi_2 h)) dX1_isTest_55
    · replace h := if_p b34 h
      refine g_iconst hX (v := nI 1) rfl dX1_isTest_37 ?_
      exact g_retbD hR (by decide) (oi_1 h) (congrArg (C ε) (oi_2 h)) dX1_isTest_38
  show GW κ 0 0 (C ε σ) 0 [(0, .ref (sAd ε (64))), (1, .int (z1)), (2, .int (z2))] []
  refine g_aload_n hX 0 rfl rfl dX1_isTest_0 ?_
  refine g_iload_n hX 1 rfl rfl dX1_isTest_1 ?_
  refine g_iload_n hX 2 rfl rfl dX1_isTest_2 ?_
  obtain ⟨y3, τ3, e3, h⟩ := ob_some h
  refine c_call1 hX hC hzo rfl [.int (z1), .int (z2)] [] (ct_X1_isSum _ _ _ _ hzo hzs hC ε p0 F L hF hL hp0 z1 z2 σ _ _ e3) kX1_isSum tMet_X1_103 rfl rfl (by show F + 2 + 1 ≤ F + 3; omega) (by show 8 + (6 + 11) + (L + 60) ≤ L + 90; omega) ⟨Nat.le_of_ble_eq_true rfl, Nat.le_of_ble_eq_true rfl⟩ rfl rfl (Nat.le_of_ble_eq_true rfl) dX1_isTest_3 ?_
  refine g_if_ne hX 11 (by decide) dX1_isTest_6 (fun b6 => ?_) (fun b6 => ?_)
  · replace h := if_n b6 h
    refine g_aload_n hX 0 rfl rfl dX1_isTest_11 ?_
    refine g_bipush hX (v := nI 60) (by decide) dX1_isTest_12 ?_
    refine g_bipush hX (v := nI 62) (by decide) dX1_isTest_14 ?_
    obtain ⟨y16, τ16, e16, h⟩ := ob_some h
    refine c_call1 hX hC hzo rfl [.int (nI 60), .int (nI 62)] [] (ct_X1_passed _ _ _ _ hzo hzs hC ε (nI 60) (nI 62) τ3 _ _ e16) kX1_passed tMet_X1_92 rfl rfl (by show 2 + 1 ≤ F + 3; omega) (by show 8 + (4 + 11) + (42) ≤ L + 90; omega) ⟨Nat.le_of_ble_eq_true rfl, Nat.le_of_ble_eq_true rfl⟩ rfl rfl (Nat.le_of_ble_eq_true rfl) dX1_isTest_16 ?_
    refine g_istore_n (lv2 := [(3, .int (y16)), (0, .ref (sAd ε (64))), (1, .int (z1)), (2, .int (z2))]) hX 3 5 hN rfl (by decide) rfl dX1_isTest_19 ?_
    refine g_iload_n hX 0 rfl rfl dX1_isTest_20 ?_
    refine g_if_ne hX 33 (by decide) dX1_isTest_21 (fun b21 => ?_) (fun b21 => ?_)
    · replace h := if_n b21 h
      refine g_lv [1, 2, 3, 0] rfl ?_
      exact J33 y16  τ16 h
    · replace h := if_p b21 h
      refine g_aload_n hX 1 rfl rfl dX1_isTest_24 ?_
      refine g_bipush hX (v := nI 61) (by decide) dX1_isTest_25 ?_
      refine g_bipush hX (v := nI 61) (by decide) dX1_isTest_27 ?_
      obtain ⟨y29, τ29, e29, h⟩ := ob_some h
      refine c_call1 hX hC hzo rfl [.int (nI 61), .int (nI 61)] [] (ct_X1_passed _ _ _ _ hzo hzs hC ε (nI 61) (nI 61) τ16 _ _ e29) kX1_passed tMet_X1_92 rfl rfl (by show 2 + 1 ≤ F + 3; omega) (by show 8 + (4 + 11) + (42) ≤ L + 90; omega) ⟨Nat.le_of_ble_eq_true rfl, Nat.le_of_ble_eq_true rfl⟩ rfl rfl (Nat.le_of_ble_eq_true rfl) dX1_isTest_29 ?_
      refine g_istore_n (lv2 := [(3, .int (y29)), (0, .ref (sAd ε (64))), (1, .int (z1)), (2, .int (z2))]) hX 3 5 hN rfl (by decide) rfl dX1_isTest_32 ?_
      refine g_lv [1, 2, 3, 0] rfl ?_
      exact J33 y29  τ29 h
  · replace h := if_p b6 h
    refine g_iconst hX (v := nI 0) rfl dX1_isTest_9 ?_
    exact g_retbD hR (by decide) (oi_1 h) (congrArg (C ε) (oi_2 h)) dX1_isTest_10
theorem kX1_isAnd : mKV RX1 yX1_isAnd cX1_isAnd 5 (some .boolean) 2 := ⟨tIns_X1_isAnd, tSel_X1_isAnd, tIni_X1, tCod_X1_isAnd, by decide +kernel⟩
set_option maxHeartbeats 4000000 in
set_option maxRecDepth 100000 in
theorem ct_X1_isAnd (l : Launch) (D : va_G) (cy : Nat → ClassId) (Z : (Nat → Prop) → State → Heap → Prop) (hzo : zOK Z) {aStr aByt : Nat → Nat} (hzs : zSt Z aStr aByt) {q : Nat → Nat} {C : Ev → Sg → va_W} (hC : cLens cy q C) (ε : Ev) (p0 : Int32 → Int32 → Sg → Option (Int32 × Sg)) (F L : Nat) (hF : 8 ≤ F) (hL : 300 ≤ L) (hp0 : ∀ (l : Launch) (D : va_G) (z1 z2 : Int32) (σ σ2 : Sg) (res : Int32), p0 z1 z2 σ = some (res, σ2) → GD l D cy Z yX1_isPiece (zW yX1_isPiece cX1_isPiece 4 (some .boolean)) { frames := F, cells := 0, slots := 0, locals := L } [.ref (sAd ε (64)), .int (z1), .int (z2)] (C ε σ) (some (.int res)) (C ε σ2) 0 0) (z1 : Int32) (z2 : Int32) (σ σ2 : Sg) (res : Int32) (h : fn_X1_isAnd ε p0 z1 z2 σ = some (res, σ2)) : GD l D cy Z yX1_isAnd (zW yX1_isAnd cX1_isAnd 5 (some .boolean)) { frames := F + 4, cells := 0, slots := 0, locals := L + 120 } [.ref (sAd ε (64)), .int (z1), .int (z2)] (C ε σ) (some (.int res)) (C ε σ2) 0 0 := by
  refine g_entry (cc := cX1_isAnd) (maxL := 5) (by decide) rfl (Nat.le_of_ble_eq_true rfl) ?_
  intro κ hN hX hR
  have hX : GX κ cy Z cX1_isAnd (Cond.code yX1_isAnd cX1_isAnd 5 (some .boolean) :: zT) RX1 { frames := F + 4, cells := 0, slots := 0, locals := L + 120 } := hX
  have J51 : ∀ (v3 : Int32) (σ : Sg) , fn_X1_isAnd_L51 ε p0 z1 z2 v3 σ = some (res, σ2) → GW κ 0 0 (C ε σ) 51 [(3, .int (v3))] [] := by
    intro v3 σ h
    refine g_iload_n hX 0 rfl rfl dX1_isAnd_51 ?_
    obtain ⟨g1, h⟩ := gd_some h
    exact g_retbD hR g1 (oi_1 h) (congrArg (C ε) (oi_2 h)) dX1_isAnd_52
  have J10 : ∀ (k51 : Int32 → Sg → Option (Int32 × Sg)) (hk51 : ∀ (v3 : Int32) (σ : Sg) , k51 v3 σ = some (res, σ2) → GW κ 0 0 (C ε σ) 51 [(3, .int (v3))] []) (fuel : Nat), ∀ (v3 : Int32) (v4 : Int32) (σ : Sg) , fn_X1_isAnd_L10 ε p0 z1 z2 k51 fuel v3 v4 σ = some (res, σ2) → GW κ 0 0 (C ε σ) 10 [(0, .ref (sAd ε (64))), (1, .int (z1)), (2, .int (z2)), (3, .int (v3)), (4, .int (v4))] [] := by
    intro k51 hk51 fuel
    induction fuel with
    | zero => intro v3 v4 σ h; cases (show none = some (res, σ2) from h)
    | succ fuel ih =>
      intro v3 v4 σ h
      replace h : (if nI 96 ≤ v4 then (k51 v3 σ) else (if v3 = 0 then (k51 v3 σ) else (ob (fn_X1_passed ε (nI 38) (nI 38) σ) (fun y26 τ26 => (if y26 = 0 then (k51 v3 τ26) else (ob (fn_X1_isTest ε p0 z1 z2 τ26) (fun y35 τ35 => (ob (fn_X1_write ε ((-38)) τ35) (fun y42 τ42 => ((fn_X1_isAnd_L10 ε p0 z1 z2 k51 fuel) y35 ((v4 + nI 1)) τ42)))))))))) = some (res, σ2) := h
      refine g_iload hX 4 rfl dX1_isAnd_10 ?_
      refine g_bipush hX (v := nI 96) (by decide) dX1_isAnd_12 ?_
      refine g_icmp_ge hX 51 (by decide) dX1_isAnd_14 (fun b14 => ?_) (fun b14 => ?_)
      · replace h := if_p b14 h
        refine g_lv [3] rfl ?_
        exact hk51 v3  σ h
      · replace h := if_n b14 h
        refine g_iload_n hX 3 rfl rfl dX1_isAnd_17 ?_
        refine g_if_eq hX 51 (by decide) dX1_isAnd_18 (fun b18 => ?_) (fun b18 => ?_)
        · replace h := if_p b18 h
          refine g_lv [3] rfl ?_
          exact hk51 v3  σ h
        · replace h := if_n b18 h
          refine g_aload_n hX 0 rfl rfl dX1_isAnd_21 ?_
          refine g_bipush hX (v := nI 38) (by decide) dX1_isAnd_22 ?_
          refine g_bipush hX (v := nI 38) (by decide) dX1_isAnd_24 ?_
          obtain ⟨y26, τ26, e26, h⟩ := ob_some h
          refine c_call1 hX hC hzo rfl [.int (nI 38), .int (nI 38)] [] (ct_X1_passed _ _ _ _ hzo hzs hC ε (nI 38) (nI 38) σ _ _ e26) kX1_passed tMet_X1_92 rfl rfl (by show 2 + 1 ≤ F + 4; omega) (by show 8 + (4 + 11) + (42) ≤ L + 120; omega) ⟨Nat.le_of_ble_eq_true rfl, Nat.le_of_ble_eq_true rfl⟩ rfl rfl (Nat.le_of_ble_eq_true rfl) dX1_isAnd_26 ?_
          refine g_if_eq hX 51 (by decide) dX1_isAnd_29 (fun b29 => ?_) (fun b29 => ?_)
          · replace h := if_p b29 h
            refine g_lv [3] rfl ?_
            exact hk51 v3  τ26 h
          · replace h := if_n b29 h
            refine g_aload_n hX 0 rfl rfl dX1_isAnd_32 ?_
            refine g_iload_n hX 1 rfl rfl dX1_isAnd_33 ?_
            refine g_iload_n hX 2 rfl rfl dX1_isAnd_34 ?_
            obtain ⟨y35, τ35, e35, h⟩ := ob_some h
            refine c_call1 hX hC hzo rfl [.int (z1), .int (z2)] [] (ct_X1_isTest _ _ _ _ hzo hzs hC ε p0 F L hF hL hp0 z1 z2 τ26 _ _ e35) kX1_isTest tMet_X1_100 rfl rfl (by show F + 3 + 1 ≤ F + 4; omega) (by show 8 + (5 + 11) + (L + 90) ≤ L + 120; omega) ⟨Nat.le_of_ble_eq_true rfl, Nat.le_of_ble_eq_true rfl⟩ rfl rfl (Nat.le_of_ble_eq_true rfl) dX1_isAnd_35 ?_
            refine g_istore_n (lv2 := [(3, .int (y35)), (0, .ref (sAd ε (64))), (1, .int (z1)), (2, .int (z2)), (4, .int (v4))]) hX 3 5 hN rfl (by decide) rfl dX1_isAnd_38 ?_
            refine g_aload_n hX 1 rfl rfl dX1_isAnd_39 ?_
            refine g_bipush hX (v := -38) (by decide) dX1_isAnd_40 ?_
            obtain ⟨y42, τ42, e42, h⟩ := ob_some h
            refine c_call1 hX hC hzo rfl [.int ((-38))] [] (ct_X1_write _ _ _ _ hzo hzs hC ε ((-38)) τ35 _ _ e42) kX1_write tMet_X1_96 rfl rfl (by show 0 + 1 ≤ F + 4; omega) (by show 8 + (2 + 11) + (0) ≤ L + 120; omega) ⟨Nat.le_of_ble_eq_true rfl, Nat.le_of_ble_eq_true rfl⟩ rfl rfl (Nat.le_of_ble_eq_true rfl) dX1_isAnd_42 ?_
            refine g_iinc (v := (v4 + nI 1)) (lv2 := [(4, .int ((v4 + nI 1))), (3, .int (y35)), (0, .ref (sAd ε (64))), (1, .int (z1)), (2, .int (z2))]) hX 4 4 5 hN rfl rfl (by decide) rfl dX1_isAnd_45 ?_
            refine g_goto hX 10 (by decide) dX1_isAnd_48 ?_
            refine g_lv [2, 3, 4, 1, 0] rfl ?_
            exact ih y35 ((v4 + nI 1))  τ42 h
  show GW κ 0 0 (C ε σ) 0 [(0, .ref (sAd ε (64))), (1, .int (z1)), (2, .int (z2))] []
  refine g_aload_n hX 0 rfl rfl dX1_isAnd_0 ?_
  refine g_iload_n hX 1 rfl rfl dX1_isAnd_1 ?_
  refine g_iload_n hX 2 rfl rfl dX1_isAnd_2 ?_
  obtain ⟨y3, τ3, e3, h⟩ := ob_some h
  refine c_call1 hX hC hzo rfl [.int (z1), .int (z2)] [] (ct_X1_isTest _ _ _ _ hzo hzs hC ε p0 F L hF hL hp0 z1 z2 σ _ _ e3) kX1_isTest tMet_X1_100 rfl rfl (by show F + 3 + 1 ≤ F + 4; omega) (by show 8 + (5 + 11) + (L + 90) ≤ L + 120; omega) ⟨Nat.le_of_ble_eq_true rfl, Nat.le_of_ble_eq_true rfl⟩ rfl rfl (Nat.le_of_ble_eq_true rfl) dX1_isAnd_3 ?_
  refine g_istore_n (lv2 := [(3, .int (y3)), (0, .ref (sAd ε (64))), (1, .int (z1)), (2, .int (z2))]) hX 3 5 hN rfl (by decide) rfl dX1_isAnd_6 ?_
  refine g_iconst hX (v := nI 0) rfl dX1_isAnd_7 ?_
  refine g_istore (lv2 := [(4, .int (nI 0)), (3, .int (y3)), (0, .ref (sAd ε (64))), (1, .int (z1)), (2, .int (z2))]) hX 4 5 hN (by decide) rfl dX1_isAnd_8 ?_
  refine g_lv [2, 3, 4, 1, 0] rfl ?_
  exact (J10 (fn_X1_isAnd_L51 ε p0 z1 z2) J51 4000) y3 (nI 0)  τ3 h
theorem kX1_isOr : mKV RX1 yX1_isOr cX1_isOr 5 (some .boolean) 2 := ⟨tIns_X1_isOr, tSel_X1_isOr, tIni_X1, tCod_X1_isOr, by decide +kernel⟩
set_option maxHeartbeats 4000000 in
set_option maxRecDepth 100000 in
theorem ct_X1_isOr (l : Launch) (D : va_G) (cy : Nat → ClassId) (Z : (Nat → Prop) → State → Heap → Prop) (hzo : zOK Z) {aStr aByt : Nat → Nat} (hzs : zSt Z aStr aByt) {q : Nat → Nat} {C : Ev → Sg → va_W} (hC : cLens cy q C) (ε : Ev) (p0 : Int32 → Int32 → Sg → Option (Int32 × Sg)) (F L : Nat) (hF : 8 ≤ F) (hL : 300 ≤ L) (hp0 : ∀ (l : Launch) (D : va_G) (z1 z2 : Int32) (σ σ2 : Sg) (res : Int32), p0 z1 z2 σ = some (res, σ2) → GD l D cy Z yX1_isPiece (zW yX1_isPiece cX1_isPiece 4 (some .boolean)) { frames := F, cells := 0, slots := 0, locals := L } [.ref (sAd ε (64)), .int (z1), .int (z2)] (C ε σ) (some (.int res)) (C ε σ2) 0 0) (z1 : Int32) (z2 : Int32) (σ σ2 : Sg) (res : Int32) (h : fn_X1_isOr ε p0 z1 z2 σ = some (res, σ2)) : GD l D cy Z yX1_isOr (zW yX1_isOr cX1_isOr 5 (some .boolean)) { frames := F + 5, cells := 0, slots := 0, locals := L + 150 } [.ref (sAd ε (64)), .int (z1), .int (z2)] (C ε σ) (some (.int res)) (C ε σ2) 0 0 := by
  refine g_entry (cc := cX1_isOr) (maxL := 5) (by decide) rfl (Nat.le_of_ble_eq_true rfl) ?_
  intro κ hN hX hR
  have hX : GX κ cy Z cX1_isOr (Cond.code yX1_isOr cX1_isOr 5 (some .boolean) :: zT) RX1 { frames := F + 5, cells := 0, slots := 0, locals := L + 150 } := hX
  have J51 : ∀ (v3 : Int32) (σ : Sg) , fn_X1_isOr_L51 ε p0 z1 z2 v3 σ = some (res, σ2) → GW κ 0 0 (C ε σ) 51 [(3, .int (v3))] [] := by
    intro v3 σ h
    refine g_iload_n hX 0 rfl rfl dX1_isOr_51 ?_
    obtain ⟨g1, h⟩ := gd_some h
    exact g_retbD hR g1 (oi_1 h) (congrArg (C ε) (oi_2 h)) dX1_isOr_52
  have J10 : ∀ (k51 : Int32 → Sg → Option (Int32 × Sg)) (hk51 : ∀ (v3 : Int32) (σ : Sg) , k51 v3 σ = some (res, σ2) → GW κ 0 0 (C ε σ) 51 [(3, .int (v3))] []) (fuel : Nat), ∀ (v3 : Int32) (v4 : Int32) (σ : Sg) , fn_X1_isOr_L10 ε p0 z1 z2 k51 fuel v3 v4 σ = some (res, σ2) → GW κ 0 0 (C ε σ) 10 [(0, .ref (sAd ε (64))), (1, .int (z1)), (2, .int (z2)), (3, .int (v3)), (4, .int (v4))] [] := by
    intro k51 hk51 fuel
    induction fuel with
    | zero => intro v3 v4 σ h; cases (show none = some (res, σ2) from h)
    | succ fuel ih =>
      intro v3 v4 σ h
      replace h : (if nI 96 ≤ v4 then (k51 v3 σ) else (if v3 = 0 then (k51 v3 σ) else (ob (fn_X1_passed ε (nI 124) (nI 124) σ) (fun y26 τ26 => (if y26 = 0 then (k51 v3 τ26) else (ob (fn_X1_isAnd ε p0 z1 z2 τ26) (fun y35 τ35 => (ob (fn_X1_write ε ((-124)) τ35) (fun y42 τ42 => ((fn_X1_isOr_L10 ε p0 z1 z2 k51 fuel) y35 ((v4 + nI 1)) τ42)))))))))) = some (res, σ2) := h
      refine g_iload hX 4 rfl dX1_isOr_10 ?_
      refine g_bipush hX (v := nI 96) (by decide) dX1_isOr_12 ?_
      refine g_icmp_ge hX 51 (by decide) dX1_isOr_14 (fun b14 => ?_) (fun b14 => ?_)
      · replace h := if_p b14 h
        refine g_lv [3] rfl ?_
        exact hk51 v3  σ h
      · replace h := if_n b14 h
        refine g_iload_n hX 3 rfl rfl dX1_isOr_17 ?_
        refine g_if_eq hX 51 (by decide) dX1_isOr_18 (fun b18 => ?_) (fun b18 => ?_)
        · replace h := if_p b18 h
          refine g_lv [3] rfl ?_
          exact hk51 v3  σ h
        · replace h := if_n b18 h
          refine g_aload_n hX 0 rfl rfl dX1_isOr_21 ?_
          refine g_bipush hX (v := nI 124) (by decide) dX1_isOr_22 ?_
          refine g_bipush hX (v := nI 124) (by decide) dX1_isOr_24 ?_
          obtain ⟨y26, τ26, e26, h⟩ := ob_some h
          refine c_call1 hX hC hzo rfl [.int (nI 124), .int (nI 124)] [] (ct_X1_passed _ _ _ _ hzo hzs hC ε (nI 124) (nI 124) σ _ _ e26) kX1_passed tMet_X1_92 rfl rfl (by show 2 + 1 ≤ F + 5; omega) (by show 8 + (4 + 11) + (42) ≤ L + 150; omega) ⟨Nat.le_of_ble_eq_true rfl, Nat.le_of_ble_eq_true rfl⟩ rfl rfl (Nat.le_of_ble_eq_true rfl) dX1_isOr_26 ?_
          refine g_if_eq hX 51 (by decide) dX1_isOr_29 (fun b29 => ?_) (fun b29 => ?_)
          · replace h := if_p b29 h
            refine g_lv [3] rfl ?_
            exact hk51 v3  τ26 h
          · replace h := if_n b29 h
            refine g_aload_n hX 0 rfl rfl dX1_isOr_32 ?_
            refine g_iload_n hX 1 rfl rfl dX1_isOr_33 ?_
            refine g_iload_n hX 2 rfl rfl dX1_isOr_34 ?_
            obtain ⟨y35, τ35, e35, h⟩ := ob_some h
            refine c_call1 hX hC hzo rfl [.int (z1), .int (z2)] [] (ct_X1_isAnd _ _ _ _ hzo hzs hC ε p0 F L hF hL hp0 z1 z2 τ26 _ _ e35) kX1_isAnd tMet_X1_89 rfl rfl (by show F + 4 + 1 ≤ F + 5; omega) (by show 8 + (5 + 11) + (L + 120) ≤ L + 150; omega) ⟨Nat.le_of_ble_eq_true rfl, Nat.le_of_ble_eq_true rfl⟩ rfl rfl (Nat.le_of_ble_eq_true rfl) dX1_isOr_35 ?_
            refine g_istore_n (lv2 := [(3, .int (y35)), (0, .ref (sAd ε (64))), (1, .int (z1)), (2, .int (z2)), (4, .int (v4))]) hX 3 5 hN rfl (by decide) rfl dX1_isOr_38 ?_
            refine g_aload_n hX 1 rfl rfl dX1_isOr_39 ?_
            refine g_bipush hX (v := -124) (by decide) dX1_isOr_40 ?_
            obtain ⟨y42, τ42, e42, h⟩ := ob_some h
            refine c_call1 hX hC hzo rfl [.int ((-124))] [] (ct_X1_write _ _ _ _ hzo hzs hC ε ((-124)) τ35 _ _ e42) kX1_write tMet_X1_96 rfl rfl (by show 0 + 1 ≤ F + 5; omega) (by show 8 + (2 + 11) + (0) ≤ L + 150; omega) ⟨Nat.le_of_ble_eq_true rfl, Nat.le_of_ble_eq_true rfl⟩ rfl rfl (Nat.le_of_ble_eq_true rfl) dX1_isOr_42 ?_
            refine g_iinc (v := (v4 + nI 1)) (lv2 := [(4, .int ((v4 + nI 1))), (3, .int (y35)), (0, .ref (sAd ε (64))), (1, .int (z1)), (2, .int (z2))]) hX 4 4 5 hN rfl rfl (by decide) rfl dX1_isOr_45 ?_
            refine g_goto hX 10 (by decide) dX1_isOr_48 ?_
            refine g_lv [2, 3, 4, 1, 0] rfl ?_
            exact ih y35 ((v4 + nI 1))  τ42 h
  show GW κ 0 0 (C ε σ) 0 [(0, .ref (sAd ε (64))), (1, .int (z1)), (2, .int (z2))] []
  refine g_aload_n hX 0 rfl rfl dX1_isOr_0 ?_
  refine g_iload_n hX 1 rfl rfl dX1_isOr_1 ?_
  refine g_iload_n hX 2 rfl rfl dX1_isOr_2 ?_
  obtain ⟨y3, τ3, e3, h⟩ := ob_some h
  refine c_call1 hX hC hzo rfl [.int (z1), .int (z2)] [] (ct_X1_isAnd _ _ _ _ hzo hzs hC ε p0 F L hF hL hp0 z1 z2 σ _ _ e3) kX1_isAnd tMet_X1_89 rfl rfl (by show F + 4 + 1 ≤ F + 5; omega) (by show 8 + (5 + 11) + (L + 120) ≤ L + 150; omega) ⟨Nat.le_of_ble_eq_true rfl, Nat.le_of_ble_eq_true rfl⟩ rfl rfl (Nat.le_of_ble_eq_true rfl) dX1_isOr_3 ?_
  refine g_istore_n (lv2 := [(3, .int (y3)), (0, .ref (sAd ε (64))), (1, .int (z1)), (2, .int (z2))]) hX 3 5 hN rfl (by decide) rfl dX1_isOr_6 ?_
  refine g_iconst hX (v := nI 0) rfl dX1_isOr_7 ?_
  refine g_istore (lv2 := [(4, .int (nI 0)), (3, .int (y3)), (0, .ref (sAd ε (64))), (1, .int (z1)), (2, .int (z2))]) hX 4 5 hN (by decide) rfl dX1_isOr_8 ?_
  refine g_lv [2, 3, 4, 1, 0] rfl ?_
  exact (J10 (fn_X1_isOr_L51 ε p0 z1 z2) J51 4000) y3 (nI 0)  τ3 h
set_option maxHeartbeats 4000000 in
set_option maxRecDepth 100000 in
theorem ct_X1_isPieceB (l : Launch) (D : va_G) (cy : Nat → ClassId) (Z : (Nat → Prop) → State → Heap → Prop) (hzo : zOK Z) {aStr aByt : Nat → Nat} (hzs : zSt Z aStr aByt) {q : Nat → Nat} {C : Ev → Sg → va_W} (hC : cLens cy q C) (ε : Ev) (p0 : Int32 → Int32 → Sg → Option (Int32 × Sg)) (F L : Nat) (hF : 8 ≤ F) (hL : 300 ≤ L) (hp0 : ∀ (l : Launch) (D : va_G) (z1 z2 : Int32) (σ σ2 : Sg) (res : Int32), p0 z1 z2 σ = some (res, σ2) → GD l D cy Z yX1_isPiece (zW yX1_isPiece cX1_isPiece 4 (some .boolean)) { frames := F, cells := 0, slots := 0, locals := L } [.ref (sAd ε (64)), .int (z1), .int (z2)] (C ε σ) (some (.int res)) (C ε σ2) 0 0) (z1 : Int32) (z2 : Int32) (σ σ2 : Sg) (res : Int32) (h : fn_X1_isPieceB ε p0 z1 z2 σ = some (res, σ2)) : GD l D cy Z yX1_isPiece (zW yX1_isPiece cX1_isPiece 4 (some .boolean)) { frames := F + 6, cells := 0, slots := 0, locals := L + 180 } [.ref (sAd ε (64)), .int (z1), .int (z2)] (C ε σ) (some (.int res)) (C ε σ2) 0 0 := by
  refine g_entry (cc := cX1_isPiece) (maxL := 4) (by decide) rfl (Nat.le_of_ble_eq_true rfl) ?_
  intro κ hN hX hR
  have hX : GX κ cy Z cX1_isPiece (Cond.code yX1_isPiece cX1_isPiece 4 (some .boolean) :: zT) RX1 { frames := F + 6, cells := 0, slots := 0, locals := L + 180 } := hX
  have J103 : ∀ (σ : Sg) , fn_X1_isPieceB_L103 ε p0 z1 z2  σ = some (res, σ2) → GW κ 0 0 (C ε σ) 103 [] [] := by
    intro σ h
    refine g_iconst hX (v := nI 0) rfl dX1_isPiece_103 ?_
    exact g_retbD hR (by decide) (oi_1 h) (congrArg (C ε) (oi_2 h)) dX1_isPiece_104
  have J77 : ∀ (σ : Sg) , fn_X1_isPieceB_L77 ε p0 z1 z2  σ = some (res, σ2) → GW κ 0 0 (C ε σ) 77 [] [] := by
    intro σ h
    refine g_iconst hX (v := nI 0) rfl dX1_isPiece_77 ?_
    exact g_retbD hR (by decide) (oi_1 h) (congrArg (C ε) (oi_2 h)) dX1_isPiece_78
  have J62 : ∀ (σ : Sg) , fn_X1_isPieceB_L62 ε p0 z1 z2  σ = some (res, σ2) → GW κ 0 0 (C ε σ) 62 [(0, .ref (sAd ε (64))), (1, .int (z1)), (2, .int (z2))] [] := by
    intro σ h
    refine g_aload_n hX 0 rfl rfl dX1_isPiece_62 ?_
    refine g_bipush hX (v := nI 40) (by decide) dX1_isPiece_63 ?_
    obtain ⟨y65, τ65, e65, h⟩ := ob_some h
    refine c_call1 hX hC hzo rfl [.int (nI 40)] [] (ct_X1_isAt _ _ _ _ hzo hzs hC ε (nI 40) σ _ _ e65) kX1_isAt tMet_X1_85 rfl rfl (by show 0 + 1 ≤ F + 6; omega) (by show 8 + (2 + 11) + (0) ≤ L + 180; omega) ⟨Nat.le_of_ble_eq_true rfl, Nat.le_of_ble_eq_true rfl⟩ rfl rfl (Nat.le_of_ble_eq_true rfl) dX1_isPiece_65 ?_
    refine g_if_eq hX 77 (by decide) dX1_isPiece_68 (fun b68 => ?_) (fun b68 => ?_)
    · replace h := if_p b68 h
      refine g_lv [] rfl ?_
      exact J77   τ65 h
    · replace h := if_n b68 h
      refine g_iload_n hX 1 rfl rfl dX1_isPiece_71 ?_
      refine g_bipush hX (v := nI 8) (by decide) dX1_isPiece_72 ?_
      refine g_icmp_lt hX 79 (by decide) dX1_isPiece_74 (fun b74 => ?_) (fun b74 => ?_)
      · replace h := if_p b74 h
        refine g_aload_n hX 0 rfl rfl dX1_isPiece_79 ?_
        obtain ⟨y80, τ80, e80, h⟩ := ob_some h
        refine c_call1 hX hC hzo rfl [] [] (ct_X1_goNext _ _ _ _ hzo hzs hC ε  τ65 _ _ e80) kX1_goNext tMet_X1_40 rfl rfl (by show 1 + 1 ≤ F + 6; omega) (by show 8 + (3 + 11) + (20) ≤ L + 180; omega) ⟨Nat.le_of_ble_eq_true rfl, Nat.le_of_ble_eq_true rfl⟩ rfl rfl (Nat.le_of_ble_eq_true rfl) dX1_isPiece_80 ?_
        refine g_aload_n hX 0 rfl rfl dX1_isPiece_83 ?_
        refine g_iload_n hX 1 rfl rfl dX1_isPiece_84 ?_
        refine g_iconst hX (v := nI 1) rfl dX1_isPiece_85 ?_
        refine g_iadd hX dX1_isPiece_86 ?_
        refine g_iload_n hX 2 rfl rfl dX1_isPiece_87 ?_
        obtain ⟨y88, τ88, e88, h⟩ := ob_some h
        refine c_call1 hX hC hzo rfl [.int ((z1 + nI 1)), .int (z2)] [] (ct_X1_isOr _ _ _ _ hzo hzs hC ε p0 F L hF hL hp0 ((z1 + nI 1)) z2 τ80 _ _ e88) kX1_isOr tMet_X1_47 rfl rfl (by show F + 5 + 1 ≤ F + 6; omega) (by show 8 + (5 + 11) + (L + 150) ≤ L + 180; omega) ⟨Nat.le_of_ble_eq_true rfl, Nat.le_of_ble_eq_true rfl⟩ rfl rfl (Nat.le_of_ble_eq_true rfl) dX1_isPiece_88 ?_
        refine g_if_eq hX 103 (by decide) dX1_isPiece_91 (fun b91 => ?_) (fun b91 => ?_)
        · replace h := if_p b91 h
          refine g_lv [] rfl ?_
          exact J103   τ88 h
        · replace h := if_n b91 h
          refine g_aload_n hX 0 rfl rfl dX1_isPiece_94 ?_
          refine g_bipush hX (v := nI 41) (by decide) dX1_isPiece_95 ?_
          obtain ⟨y97, τ97, e97, h⟩ := ob_some h
          refine c_call1 hX hC hzo rfl [.int (nI 41)] [] (ct_X1_isAt _ _ _ _ hzo hzs hC ε (nI 41) τ88 _ _ e97) kX1_isAt tMet_X1_85 rfl rfl (by show 0 + 1 ≤ F + 6; omega) (by show 8 + (2 + 11) + (0) ≤ L + 180; omega) ⟨Nat.le_of_ble_eq_true rfl, Nat.le_of_ble_eq_true rfl⟩ rfl rfl (Nat.le_of_ble_eq_true rfl) dX1_isPiece_97 ?_
          refine g_if_ne hX 105 (by decide) dX1_isPiece_100 (fun b100 => ?_) (fun b100 => ?_)
          · replace h := if_n b100 h
            refine g_aload_n hX 0 rfl rfl dX1_isPiece_105 ?_
            obtain ⟨y106, τ106, e106, h⟩ := ob_some h
            refine c_call1 hX hC hzo rfl [] [] (ct_X1_goNext _ _ _ _ hzo hzs hC ε  τ97 _ _ e106) kX1_goNext tMet_X1_40 rfl rfl (by show 1 + 1 ≤ F + 6; omega) (by show 8 + (3 + 11) + (20) ≤ L + 180; omega) ⟨Nat.le_of_ble_eq_true rfl, Nat.le_of_ble_eq_true rfl⟩ rfl rfl (Nat.le_of_ble_eq_true rfl) dX1_isPiece_106 ?_
            refine g_iconst hX (v := nI 1) rfl dX1_isPiece_109 ?_
            exact g_retbD hR (by decide) (oi_1 h) (congrArg (C ε) (oi_2 h)) dX1_isPiece_110
          · replace h := if_p b100 h
            refine g_lv [] rfl ?_
            exact J103   τ97 h
      · replace h := if_n b74 h
        refine g_lv [] rfl ?_
        exact J77   τ65 h
  show GW κ 0 0 (C ε σ) 0 [(0, .ref (sAd ε (64))), (1, .int (z1)), (2, .int (z2))] []
  refine g_aload_n hX 0 rfl rfl dX1_isPiece_0 ?_
  refine c_get1 hX hC rfl 4 (by decide) rfl tFld_X1_25 rfl dX1_isPiece_1 ?_
  refine g_iconst hX (v := nI 2) rfl dX1_isPiece_4 ?_
  refine g_icmp_ne hX 13 (by decide) dX1_isPiece_5 (fun b5 => ?_) (fun b5 => ?_)
  · replace h := if_n b5 h
    refine g_aload_n hX 0 rfl rfl dX1_isPiece_13 ?_
    refine c_get1 hX hC rfl 4 (by decide) rfl tFld_X1_25 rfl dX1_isPiece_14 ?_
    refine g_iconst hX (v := nI 1) rfl dX1_isPiece_17 ?_
    refine g_icmp_ne hX 26 (by decide) dX1_isPiece_18 (fun b18 => ?_) (fun b18 => ?_)
    · replace h := if_n b18 h
      refine g_aload_n hX 0 rfl rfl dX1_isPiece_26 ?_
      refine g_bipush hX (v := nI 33) (by decide) dX1_isPiece_27 ?_
      obtain ⟨y29, τ29, e29, h⟩ := ob_some h
      refine c_call1 hX hC hzo rfl [.int (nI 33)] [] (ct_X1_isAt _ _ _ _ hzo hzs hC ε (nI 33) σ _ _ e29) kX1_isAt tMet_X1_85 rfl rfl (by show 0 + 1 ≤ F + 6; omega) (by show 8 + (2 + 11) + (0) ≤ L + 180; omega) ⟨Nat.le_of_ble_eq_true rfl, Nat.le_of_ble_eq_true rfl⟩ rfl rfl (Nat.le_of_ble_eq_true rfl) dX1_isPiece_29 ?_
      refine g_if_eq hX 62 (by decide) dX1_isPiece_32 (fun b32 => ?_) (fun b32 => ?_)
      · replace h := if_p b32 h
        exact J62   τ29 h
      · replace h := if_n b32 h
        refine g_iload_n hX 2 rfl rfl dX1_isPiece_35 ?_
        refine g_bipush hX (v := nI 8) (by decide) dX1_isPiece_36 ?_
        refine g_icmp_ge hX 62 (by decide) dX1_isPiece_38 (fun b38 => ?_) (fun b38 => ?_)
        · replace h := if_p b38 h
          exact J62   τ29 h
        · replace h := if_n b38 h
          refine g_aload_n hX 0 rfl rfl dX1_isPiece_41 ?_
          obtain ⟨y42, τ42, e42, h⟩ := ob_some h
          refine c_call1 hX hC hzo rfl [] [] (ct_X1_goNext _ _ _ _ hzo hzs hC ε  τ29 _ _ e42) kX1_goNext tMet_X1_40 rfl rfl (by show 1 + 1 ≤ F + 6; omega) (by show 8 + (3 + 11) + (20) ≤ L + 180; omega) ⟨Nat.le_of_ble_eq_true rfl, Nat.le_of_ble_eq_true rfl⟩ rfl rfl (Nat.le_of_ble_eq_true rfl) dX1_isPiece_42 ?_
          refine g_aload_n hX 0 rfl rfl dX1_isPiece_45 ?_
          refine g_iload_n hX 1 rfl rfl dX1_isPiece_46 ?_
          refine g_iload_n hX 2 rfl rfl dX1_isPiece_47 ?_
          refine g_iconst hX (v := nI 1) rfl dX1_isPiece_48 ?_
          refine g_iadd hX dX1_isPiece_49 ?_
          obtain ⟨y50, τ50, e50, h⟩ := ob_some h
          refine c_call1 hX hC hzo rfl [.int (z1), .int ((z2 + nI 1))] [] (hp0 _ _ z1 ((z2 + nI 1)) τ42 _ _ e50) kX1_isPiece tMet_X1_109 rfl rfl (by show F + 1 ≤ F + 6; omega) (by show 8 + (4 + 11) + (L) ≤ L + 180; omega) ⟨Nat.le_of_ble_eq_true rfl, Nat.le_of_ble_eq_true rfl⟩ rfl rfl (Nat.le_of_ble_eq_true rfl) dX1_isPiece_50 ?_
          refine g_istore_n (lv2 := [(3, .int (y50)), (0, .ref (sAd ε (64))), (1, .int (z1)), (2, .int (z2))]) hX 3 4 hN rfl (by decide) rfl dX1_isPiece_53 ?_
          refine g_aload_n hX 1 rfl rfl dX1_isPiece_54 ?_
          refine g_bipush hX (v := -33) (by decide) dX1_isPiece_55 ?_
          obtain ⟨y57, τ57, e57, h⟩ := ob_some h
          refine c_call1 hX hC hzo rfl [.int ((-33))] [] (ct_X1_write _ _ _ _ hzo hzs hC ε ((-33)) τ50 _ _ e57) kX1_write tMet_X1_96 rfl rfl (by show 0 + 1 ≤ F + 6; omega) (by show 8 + (2 + 11) + (0) ≤ L + 180; omega) ⟨Nat.le_of_ble_eq_true rfl, Nat.le_of_ble_eq_true rfl⟩ rfl rfl (Nat.le_of_ble_eq_true rfl) dX1_isPiece_57 ?_
          refine g_iload_n hX 0 rfl rfl dX1_isPiece_60 ?_
          obtain ⟨g1, h⟩ := gd_some h
          exact g_retbD hR g1 (oi_1 h) (congrArg (C ε) (oi_2 h)) dX1_isPiece_61
    · replace h := if_p b18 h
      refine g_aload_n hX 0 rfl rfl dX1_isPiece_21 ?_
      obtain ⟨y22, τ22, e22, h⟩ := ob_some h
      refine c_call1 hX hC hzo rfl [] [] (ct_X1_isName _ _ _ _ hzo hzs hC ε  σ _ _ e22) kX1_isName tMet_X1_116 rfl rfl (by show 4 + 1 ≤ F + 6; omega) (by show 8 + (3 + 11) + (91) ≤ L + 180; omega) ⟨Nat.le_of_ble_eq_true rfl, Nat.le_of_ble_eq_true rfl⟩ rfl rfl (Nat.le_of_ble_eq_true rfl) dX1_isPiece_22 ?_
      obtain ⟨g2, h⟩ := gd_some h
      exact g_retbD hR g2 (oi_1 h) (congrArg (C ε) (oi_2 h)) dX1_isPiece_25
  · replace h := if_p b5 h
    refine g_aload_n hX 0 rfl rfl dX1_isPiece_8 ?_
    obtain ⟨y9, τ9, e9, h⟩ := ob_some h
    refine c_call1 hX hC hzo rfl [] [] (ct_X1_isNumber _ _ _ _ hzo hzs hC ε  σ _ _ e9) kX1_isNumber tMet_X1_112 rfl rfl (by show 3 + 1 ≤ F + 6; omega) (by show 8 + (3 + 11) + (63) ≤ L + 180; omega) ⟨Nat.le_of_ble_eq_true rfl, Nat.le_of_ble_eq_true rfl⟩ rfl rfl (Nat.le_of_ble_eq_true rfl) dX1_isPiece_9 ?_
    obtain ⟨g3, h⟩ := gd_some h
    exact g_retbD hR g3 (oi_1 h) (congrArg (C ε) (oi_2 h)) dX1_isPiece_12
theorem ct_X1_isPiece (l : Launch) (D : va_G) (cy : Nat → ClassId) (Z : (Nat → Prop) → State → Heap → Prop) (hzo : zOK Z) {aStr aByt : Nat → Nat} (hzs : zSt Z aStr aByt) {q : Nat → Nat} {C : Ev → Sg → va_W} (hC : cLens cy q C) (ε : Ev) : ∀ (d : Nat) (z1 z2 : Int32) (σ σ2 : Sg) (res : Int32), fn_X1_isPiece ε d z1 z2 σ = some (res, σ2) → GD l D cy Z yX1_isPiece (zW yX1_isPiece cX1_isPiece 4 (some .boolean)) { frames := fD d, cells := 0, slots := 0, locals := lD d } [.ref (sAd ε (64)), .int (z1), .int (z2)] (C ε σ) (some (.int res)) (C ε σ2) 0 0
  | 0, _, _, _, _, _, h => by cases h
  | d + 1, z1, z2, σ, σ2, res, h => ct_X1_isPieceB l D cy Z hzo hzs hC ε (fn_X1_isPiece ε d) (fD d) (lD d) (fD_8 d) (lD_300 d) (fun l D z1 z2 σ σ2 res h => ct_X1_isPiece l D cy Z hzo hzs hC ε d z1 z2 σ σ2 res h) z1 z2 σ σ2 res h
theorem kX1_isText : mKV RX1 yX1_isText cX1_isText 1 (some .boolean) 0 := ⟨tIns_X1_isText, tSel_X1_isText, tIni_X1, tCod_X1_isText, by decide +kernel⟩
set_option maxHeartbeats 4000000 in
set_option maxRecDepth 100000 in
theorem ct_X1_isText (l : Launch) (D : va_G) (cy : Nat → ClassId) (Z : (Nat → Prop) → State → Heap → Prop) (hzo : zOK Z) {aStr aByt : Nat → Nat} (hzs : zSt Z aStr aByt) {q : Nat → Nat} {C : Ev → Sg → va_W} (hC : cLens cy q C) (ε : Ev) (σ σ2 : Sg) (res : Int32) (h : fn_X1_isText ε σ = some (res, σ2)) : GD l D cy Z yX1_isText (zW yX1_isText cX1_isText 1 (some .boolean)) { frames := 134, cells := 0, slots := 0, locals := 4074 } [.ref (sAd ε (64))] (C ε σ) (some (.int res)) (C ε σ2) 0 0 := by
  refine g_entry (cc := cX1_isText) (maxL := 1) (by decide) rfl (Nat.le_of_ble_eq_true rfl) ?_
  intro κ hN hX hR
  have hX : GX κ cy Z cX1_isText (Cond.code yX1_isText cX1_isText 1 (some .boolean) :: zT) RX1 { frames := 134, cells := 0, slots := 0, locals := 4074 } := hX
  have J66 : ∀ (s0 : Int32) (σ : Sg) , fn_X1_isText_L66 ε s0 σ = some (res, σ2) → GW κ 0 0 (C ε σ) 66 [] [.int (s0)] := by
    intro s0 σ h
    obtain ⟨g1, h⟩ := gd_some h
    exact g_retbD hR g1 (oi_1 h) (congrArg (C ε) (oi_2 h)) dX1_isText_66
  have J65 : ∀ (σ : Sg) , fn_X1_isText_L65 ε  σ = some (res, σ2) → GW κ 0 0 (C ε σ) 65 [] [] := by
    intro σ h
    refine g_iconst hX (v := nI 0) rfl dX1_isText_65 ?_
    exact J66 (nI 0)  σ h
  show GW κ 0 0 (C ε σ) 0 [(0, .ref (sAd ε (64)))] []
  refine g_aload_n hX 0 rfl rfl dX1_isText_0 ?_
  refine g_iconst hX (v := nI 0) rfl dX1_isText_1 ?_
  refine c_put1 (ty := .int) hX hC rfl 3 (by decide) (cs_X1 ε _ _ _).2.2.1 rfl (by decide +kernel) rfl rfl tFld_X1_22 rfl dX1_isText_2 ?_
  refine g_aload_n hX 0 rfl rfl dX1_isText_5 ?_
  refine g_iconst hX (v := nI 0) rfl dX1_isText_6 ?_
  refine c_put1 (ty := .int) hX hC rfl 4 (by decide) (cs_X1 ε _ _ _).2.2.2.1 rfl (by decide +kernel) rfl rfl tFld_X1_25 rfl dX1_isText_7 ?_
  refine g_aload_n hX 0 rfl rfl dX1_isText_10 ?_
  refine g_iconst hX (v := nI 0) rfl dX1_isText_11 ?_
  refine c_put1 (ty := .int) hX hC rfl 7 (by decide) (cs_X1 ε _ _ _).2.2.2.2.2.1 rfl (by decide +kernel) rfl rfl tFld_X1_34 rfl dX1_isText_12 ?_
  refine g_aload_n hX 0 rfl rfl dX1_isText_15 ?_
  refine g_iconst hX (v := nI 0) rfl dX1_isText_16 ?_
  refine c_put1 (ty := .int) hX hC rfl 8 (by decide) (cs_X1 ε _ _ _).2.2.2.2.2.2 rfl (by decide +kernel) rfl rfl tFld_X1_37 rfl dX1_isText_17 ?_
  refine g_aload_n hX 0 rfl rfl dX1_isText_20 ?_
  obtain ⟨y21, τ21, e21, h⟩ := ob_some h
  refine c_call1 hX hC hzo rfl [] [] (ct_X1_goNext _ _ _ _ hzo hzs hC ε  (pI (pI (pI (pI σ 64 3 (nI 0)) 64 4 (nI 0)) 64 7 (nI 0)) 64 8 (nI 0)) _ _ e21) kX1_goNext tMet_X1_40 rfl rfl (Nat.le_of_ble_eq_true rfl) (Nat.le_of_ble_eq_true rfl) ⟨Nat.le_of_ble_eq_true rfl, Nat.le_of_ble_eq_true rfl⟩ rfl rfl (Nat.le_of_ble_eq_true rfl) dX1_isText_21 ?_
  refine g_aload_n hX 0 rfl rfl dX1_isText_24 ?_
  refine g_aload_n hX 0 rfl rfl dX1_isText_25 ?_
  obtain ⟨y26, τ26, e26, h⟩ := ob_some h
  refine c_call1 hX hC hzo rfl [] [.ref (sAd ε (64))] (ct_X1_keyHere _ _ _ _ hzo hzs hC ε  τ21 _ _ e26) kX1_keyHere tMet_X1_43 rfl rfl (Nat.le_of_ble_eq_true rfl) (Nat.le_of_ble_eq_true rfl) ⟨Nat.le_of_ble_eq_true rfl, Nat.le_of_ble_eq_true rfl⟩ rfl rfl (Nat.le_of_ble_eq_true rfl) dX1_isText_26 ?_
  refine c_put1 (ty := .int) hX hC rfl 5 (by decide) (cs_X1 ε _ _ _).2.2.2.2.1 rfl (by decide +kernel) rfl rfl tFld_X1_28 rfl dX1_isText_29 ?_
  refine g_aload_n hX 0 rfl rfl dX1_isText_32 ?_
  refine c_get1 hX hC rfl 5 (by decide) rfl tFld_X1_28 rfl dX1_isText_33 ?_
  refine g_if_ge hX 41 (by decide) dX1_isText_36 (fun b36 => ?_) (fun b36 => ?_)
  · replace h := if_p b36 h
    refine g_aload_n hX 0 rfl rfl dX1_isText_41 ?_
    obtain ⟨y42, τ42, e42, h⟩ := ob_some h
    refine c_call1 hX hC hzo rfl [] [] (ct_X1_goNext _ _ _ _ hzo hzs hC ε  (pI τ26 64 5 y26) _ _ e42) kX1_goNext tMet_X1_40 rfl rfl (Nat.le_of_ble_eq_true rfl) (Nat.le_of_ble_eq_true rfl) ⟨Nat.le_of_ble_eq_true rfl, Nat.le_of_ble_eq_true rfl⟩ rfl rfl (Nat.le_of_ble_eq_true rfl) dX1_isText_42 ?_
    refine g_aload_n hX 0 rfl rfl dX1_isText_45 ?_
    refine g_iconst hX (v := nI 0) rfl dX1_isText_46 ?_
    refine g_iconst hX (v := nI 0) rfl dX1_isText_47 ?_
    obtain ⟨y48, τ48, e48, h⟩ := ob_some h
    refine c_call1 hX hC hzo rfl [.int (nI 0), .int (nI 0)] [] (ct_X1_isOr _ _ _ _ hzo hzs hC ε (fn_X1_isPiece ε 20) (fD 20) (lD 20) (fD_8 _) (lD_300 _) (fun l D => ct_X1_isPiece l D _ _ hzo hzs hC ε 20) (nI 0) (nI 0) τ42 _ _ e48) kX1_isOr tMet_X1_47 rfl rfl (Nat.le_of_ble_eq_true rfl) (Nat.le_of_ble_eq_true rfl) ⟨Nat.le_of_ble_eq_true rfl, Nat.le_of_ble_eq_true rfl⟩ rfl rfl (Nat.le_of_ble_eq_true rfl) dX1_isText_48 ?_
    refine g_if_eq hX 65 (by decide) dX1_isText_51 (fun b51 => ?_) (fun b51 => ?_)
    · replace h := if_p b51 h
      refine g_lv [] rfl ?_
      exact J65   τ48 h
    · replace h := if_n b51 h
      refine g_aload_n hX 0 rfl rfl dX1_isText_54 ?_
      refine c_get1 hX hC rfl 4 (by decide) rfl tFld_X1_25 rfl dX1_isText_55 ?_
      refine g_if_ne hX 65 (by decide) dX1_isText_58 (fun b58 => ?_) (fun b58 => ?_)
      · replace h := if_n b58 h
        refine g_lv [] rfl ?_
        exact J65   τ48 h
      · replace h := if_p b58 h
        refine g_iconst hX (v := nI 1) rfl dX1_isText_61 ?_
        refine g_goto hX 66 (by decide) dX1_isText_62 ?_
        refine g_lv [] rfl ?_
        exact J66 (nI 1)  τ48 h
  · replace h := if_n b36 h
    refine g_iconst hX (v := nI 0) rfl dX1_isText_39 ?_
    exact g_retbD hR (by decide) (oi_1 h) (congrArg (C ε) (oi_2 h)) dX1_isText_40
