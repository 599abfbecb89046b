def fn_J7_fill_53178_L20 (ε : Ev) (c0 : Nat) (n0 : Nat) (z1 : Int32)  (σ : Sg) : Option (Unit × Sg) := some ((), σ)
def fn_J7_fill_53178_L5 (ε : Ev) (c0 : Nat) (n0 : Nat) (z1 : Int32) (k20 : Sg → Option (Unit × Sg)) : Nat → Int32 → Sg → Option (Unit × Sg)
  | 0 => fun _ _ => none
  | fuel + 1 => fun (v2 : Int32) (σ : Sg) => (if nI (n0) ≤ v2 then (k20  σ) else (if ¬ (v2 < 0 ∨ n0 ≤ v2.toNatClampNeg) then ((fn_J7_fill_53178_L5 ε c0 n0 z1 k20 fuel) ((v2 + nI 1)) (pI σ c0 v2.toNatClampNeg z1)) else none))
def fn_J7_fill_53178 (ε : Ev) (c0 : Nat) (n0 : Nat) (z1 : Int32) (σ : Sg) : Option (Unit × Sg) := ((fn_J7_fill_53178_L5 ε c0 n0 z1 (fn_J7_fill_53178_L20 ε c0 n0 z1) 4000) (nI 0) σ)
def fn_X2_begin (ε : Ev) (c : Nat) (z1 : Int32) (z2 : Int32) (σ : Sg) : Option (Unit × Sg) := (ob (fn_J7_fill_53178 ε (c + 1) 24 (nI 0) (pI (pI σ c 1 z1) c 2 z2)) (fun y15 τ15 => some ((), τ15)))
def fn_X2_beLike (ε : Ev) (c : Nat) (c1 : Nat) (σ : Sg) : Option (Unit × Sg) := (if (¬ nI 0 < 0 ∧ ¬ nI 0 < 0 ∧ ¬ nI 24 < 0 ∧ (nI 0).toNatClampNeg + (nI 24).toNatClampNeg ≤ 24 ∧ (nI 0).toNatClampNeg + (nI 24).toNatClampNeg ≤ 24) then some ((), pA (pI (pI σ c 1 (σ.1 c1 1)) c 2 ((pI σ c 1 (σ.1 c1 1)).1 c1 2)) (c + 1) (va_cpy ((pI (pI σ c 1 (σ.1 c1 1)) c 2 ((pI σ c 1 (σ.1 c1 1)).1 c1 2)).1 (c1 + 1)) ((pI (pI σ c 1 (σ.1 c1 1)) c 2 ((pI σ c 1 (σ.1 c1 1)).1 c1 2)).1 (c + 1)) (nI 0).toNatClampNeg (nI 0).toNatClampNeg (nI 24).toNatClampNeg)) else none)
def fn_X2_hasPlace_L17 (ε : Ev) (c : Nat) (z1 : Int32) (s0 : Int32) (σ : Sg) : Option (Int32 × Sg) := (if s0 = 0 ∨ s0 = 1 then some (s0, σ) else none)
def fn_X2_hasPlace_L16 (ε : Ev) (c : Nat) (z1 : Int32)  (σ : Sg) : Option (Int32 × Sg) := ((fn_X2_hasPlace_L17 ε c z1) (nI 0) σ)
def fn_X2_hasPlace (ε : Ev) (c : Nat) (z1 : Int32) (σ : Sg) : Option (Int32 × Sg) := (if z1 < 0 then ((fn_X2_hasPlace_L16 ε c z1)  σ) else (if σ.1 c 2 ≤ z1 then ((fn_X2_hasPlace_L16 ε c z1)  σ) else ((fn_X2_hasPlace_L17 ε c z1) (nI 1) σ)))
def fn_X2_hasPlaces_L31 (ε : Ev) (c : Nat) (z1 : Int32) (z2 : Int32) (s0 : Int32) (σ : Sg) : Option (Int32 × Sg) := (if s0 = 0 ∨ s0 = 1 then some (s0, σ) else none)
def fn_X2_hasPlaces_L30 (ε : Ev) (c : Nat) (z1 : Int32) (z2 : Int32)  (σ : Sg) : Option (Int32 × Sg) := ((fn_X2_hasPlaces_L31 ε c z1 z2) (nI 0) σ)
def fn_X2_hasPlaces (ε : Ev) (c : Nat) (z1 : Int32) (z2 : Int32) (σ : Sg) : Option (Int32 × Sg) := (if z1 < 0 then ((fn_X2_hasPlaces_L30 ε c z1 z2)  σ) else (if σ.1 c 2 < z1 then ((fn_X2_hasPlaces_L30 ε c z1 z2)  σ) else (if z2 < 0 then ((fn_X2_hasPlaces_L30 ε c z1 z2)  σ) else (if (σ.1 c 2 - z1) < z2 then ((fn_X2_hasPlaces_L30 ε c z1 z2)  σ) else ((fn_X2_hasPlaces_L31 ε c z1 z2) (nI 1) σ)))))
def fn_X2_isNumber_L16 (ε : Ev) (c : Nat) (z1 : Int32) (s0 : Int32) (σ : Sg) : Option (Int32 × Sg) := (if s0 = 0 ∨ s0 = 1 then some (s0, σ) else none)
def fn_X2_isNumber (ε : Ev) (c : Nat) (z1 : Int32) (σ : Sg) : Option (Int32 × Sg) := (if ¬ (z1 < 0 ∨ 24 ≤ z1.toNatClampNeg) then (if σ.1 (c + 1) z1.toNatClampNeg = (-1000000005) then ((fn_X2_isNumber_L16 ε c z1) (nI 0) σ) else ((fn_X2_isNumber_L16 ε c z1) (nI 1) σ)) else none)
def fn_X5_joined_L200 (z0 : Int32) (z1 : Int32) (z2 : Int32) (s0 : Int32) : Option Int32 := some s0
def fn_X5_joined_L195 (z0 : Int32) (z1 : Int32) (z2 : Int32)  : Option Int32 := ((fn_X5_joined_L200 z0 z1 z2) (nI 1))
def fn_X5_joined_L187 (z0 : Int32) (z1 : Int32) (z2 : Int32)  : Option Int32 := (if z1 = 0 then (if z2 = 0 then ((fn_X5_joined_L200 z0 z1 z2) (nI 0)) else ((fn_X5_joined_L195 z0 z1 z2) )) else ((fn_X5_joined_L195 z0 z1 z2) ))
def fn_X5_joined_L186 (z0 : Int32) (z1 : Int32) (z2 : Int32) (s0 : Int32) : Option Int32 := some s0
def fn_X5_joined_L185 (z0 : Int32) (z1 : Int32) (z2 : Int32)  : Option Int32 := ((fn_X5_joined_L186 z0 z1 z2) (nI 0))
def fn_X5_joined_L172 (z0 : Int32) (z1 : Int32) (z2 : Int32) (s0 : Int32) : Option Int32 := some s0
def fn_X5_joined_L161 (z0 : Int32) (z1 : Int32) (z2 : Int32) (s0 : Int32) : Option Int32 := some s0
def fn_X5_joined_L150 (z0 : Int32) (z1 : Int32) (z2 : Int32) (s0 : Int32) : Option Int32 := some s0
def fn_X5_joined_L139 (z0 : Int32) (z1 : Int32) (z2 : Int32) (s0 : Int32) : Option Int32 := some s0
def fn_X5_joined (z0 : Int32) (z1 : Int32) (z2 : Int32) : Option Int32 := (if z0 = nI 38 then (if z1 = 0 then ((fn_X5_joined_L185 z0 z1 z2) ) else (if z2 = 0 then ((fn_X5_joined_L185 z0 z1 z2) ) else ((fn_X5_joined_L186 z0 z1 z2) (nI 1)))) else (if z0 = nI 39 then ((fn_X5_joined_L187 z0 z1 z2) ) else (if z0 = nI 40 then ((fn_X5_joined_L187 z0 z1 z2) ) else (if z0 = nI 41 then ((fn_X5_joined_L187 z0 z1 z2) ) else (if z0 = nI 42 then some ((z1 * z2)) else (if z0 = nI 43 then some ((z1 + z2)) else (if z0 = nI 44 then ((fn_X5_joined_L187 z0 z1 z2) ) else (if z0 = nI 45 then some ((z1 - z2)) else (if z0 = nI 46 then ((fn_X5_joined_L187 z0 z1 z2) ) else (if z0 = nI 47 then (if z2 = 0 then ((fn_X5_joined_L139 z0 z1 z2) (nI 0)) else (if ¬ z2 = 0 then ((fn_X5_joined_L139 z0 z1 z2) ((z1 / z2))) else none)) else (if z0 = nI 48 then ((fn_X5_joined_L187 z0 z1 z2) ) else (if z0 = nI 49 then ((fn_X5_joined_L187 z0 z1 z2) ) else (if z0 = nI 50 then ((fn_X5_joined_L187 z0 z1 z2) ) else (if z0 = nI 51 then ((fn_X5_joined_L187 z0 z1 z2) ) else (if z0 = nI 52 then ((fn_X5_joined_L187 z0 z1 z2) ) else (if z0 = nI 53 then ((fn_X5_joined_L187 z0 z1 z2) ) else (if z0 = nI 54 then ((fn_X5_joined_L187 z0 z1 z2) ) else (if z0 = nI 55 then ((fn_X5_joined_L187 z0 z1 z2) ) else (if z0 = nI 56 then ((fn_X5_joined_L187 z0 z1 z2) ) else (if z0 = nI 57 then ((fn_X5_joined_L187 z0 z1 z2) ) else (if z0 = nI 58 then ((fn_X5_joined_L187 z0 z1 z2) ) else (if z0 = nI 59 then ((fn_X5_joined_L187 z0 z1 z2) ) else (if z0 = nI 60 then (if z2 ≤ z1 then ((fn_X5_joined_L150 z0 z1 z2) (nI 0)) else ((fn_X5_joined_L150 z0 z1 z2) (nI 1))) else (if z0 = nI 61 then (if z1 = z2 then ((fn_X5_joined_L161 z0 z1 z2) (nI 1)) else ((fn_X5_joined_L161 z0 z1 z2) (nI 0))) else (if z0 = nI 62 then (if z1 ≤ z2 then ((fn_X5_joined_L172 z0 z1 z2) (nI 0)) else ((fn_X5_joined_L172 z0 z1 z2) (nI 1))) else ((fn_X5_joined_L187 z0 z1 z2) ))))))))))))))))))))))))))
def fn_X5_value_L200 (ε : Ev) (c : Nat) (z1 : Int32) (z2 : Int32) (z3 : Int32) (s0 : Int32) (σ : Sg) : Option (Int32 × Sg) := some (s0, σ)
def fn_X5_value_L185 (ε : Ev) (c : Nat) (z1 : Int32) (z2 : Int32) (z3 : Int32) (v4 : Int32) (σ : Sg) : Option (Int32 × Sg) := (if v4 < 0 then ((fn_X5_value_L200 ε c z1 z2 z3) (nI 0) σ) else (if ¬ (nI 0 < 0 ∨ sLn ε (c + 2) ≤ (nI 0).toNatClampNeg) then ((fn_X5_value_L200 ε c z1 z2 z3) (σ.1 (c + 2) (nI 0).toNatClampNeg) σ) else none))
def fn_X5_value_L179 (ε : Ev) (c : Nat) (z1 : Int32) (z2 : Int32) (z3 : Int32) (slf : Int32 → Int32 → Sg → Option (Int32 × Sg)) (k185 : Int32 → Sg → Option (Int32 × Sg)) (v4 : Int32) (v7 : Int32) (σ : Sg) : Option (Int32 × Sg) := (slf v4 ((v7 + nI 1)) σ)
def fn_X5_value_L136 (ε : Ev) (c : Nat) (z1 : Int32) (z2 : Int32) (z3 : Int32) (slf : Int32 → Int32 → Sg → Option (Int32 × Sg)) (k185 : Int32 → Sg → Option (Int32 × Sg)) (v4 : Int32) (v7 : Int32) (v8 : Int32) (σ : Sg) : Option (Int32 × Sg) := (if 0 ≤ v8 then ((fn_X5_value_L179 ε c z1 z2 z3 slf k185) v4 v7 σ) else (if v4 < nI 1 then ((fn_X5_value_L179 ε c z1 z2 z3 slf k185) v4 v7 σ) else (if ¬ ((v4 + (-1)) < 0 ∨ sLn ε (c + 2) ≤ ((v4 + (-1))).toNatClampNeg) then (if ¬ (((v4 + (-1)) + nI 1) < 0 ∨ sLn ε (c + 2) ≤ (((v4 + (-1)) + nI 1)).toNatClampNeg) then (o1 (fn_X5_joined ((-(v8))) (σ.1 (c + 2) ((v4 + (-1))).toNatClampNeg) (σ.1 (c + 2) (((v4 + (-1)) + nI 1)).toNatClampNeg)) (fun y175 => ((fn_X5_value_L179 ε c z1 z2 z3 slf k185) ((v4 + (-1))) v7 (pI σ (c + 2) ((v4 + (-1))).toNatClampNeg y175)))) else none) else none)))
def fn_X5_value_L132 (ε : Ev) (c : Nat) (z1 : Int32) (z2 : Int32) (z3 : Int32) (slf : Int32 → Int32 → Sg → Option (Int32 × Sg)) (k185 : Int32 → Sg → Option (Int32 × Sg)) (v4 : Int32) (v7 : Int32) (s0 : Int32) (s1 : Int32) (σ : Sg) : Option (Int32 × Sg) := (if ¬ (s1 < 0 ∨ sLn ε (c + 2) ≤ s1.toNatClampNeg) then ((fn_X5_value_L179 ε c z1 z2 z3 slf k185) v4 v7 (pI σ (c + 2) s1.toNatClampNeg s0)) else none)
def fn_X5_value_L99 (ε : Ev) (c : Nat) (z1 : Int32) (z2 : Int32) (z3 : Int32) (slf : Int32 → Int32 → Sg → Option (Int32 × Sg)) (k185 : Int32 → Sg → Option (Int32 × Sg)) (v4 : Int32) (v7 : Int32) (v8 : Int32) (σ : Sg) : Option (Int32 × Sg) := (if v8 = (-33) then (if v4 < 0 then ((fn_X5_value_L136 ε c z1 z2 z3 slf k185) v4 v7 v8 σ) else (if ¬ (v4 < 0 ∨ sLn ε (c + 2) ≤ v4.toNatClampNeg) then (if σ.1 (c + 2) v4.toNatClampNeg = 0 then ((fn_X5_value_L132 ε c z1 z2 z3 slf k185) v4 v7 (nI 1) v4 σ) else ((fn_X5_value_L132 ε c z1 z2 z3 slf k185) v4 v7 (nI 0) v4 σ)) else none)) else ((fn_X5_value_L136 ε c z1 z2 z3 slf k185) v4 v7 v8 σ))
def fn_X5_value_L95 (ε : Ev) (c : Nat) (z1 : Int32) (z2 : Int32) (z3 : Int32) (slf : Int32 → Int32 → Sg → Option (Int32 × Sg)) (k185 : Int32 → Sg → Option (Int32 × Sg)) (v4 : Int32) (v7 : Int32) (s0 : Int32) (s1 : Int32) (σ : Sg) : Option (Int32 × Sg) := (if ¬ (s1 < 0 ∨ sLn ε (c + 2) ≤ s1.toNatClampNeg) then ((fn_X5_value_L179 ε c z1 z2 z3 slf k185) v4 v7 (pI σ (c + 2) s1.toNatClampNeg s0)) else none)
def fn_X5_value_L17 (ε : Ev) (c : Nat) (z1 : Int32) (z2 : Int32) (z3 : Int32) (k185 : Int32 → Sg → Option (Int32 × Sg)) : Nat → Int32 → Int32 → Sg → Option (Int32 × Sg)
  | 0 => fun _ _ _ => none
  | fuel + 1 => fun (v4 : Int32) (v7 : Int32) (σ : Sg) => (if nI (sLn ε (c + 1)) ≤ v7 then (k185 v4 σ) else (if ¬ (v7 < 0 ∨ sLn ε (c + 1) ≤ v7.toNatClampNeg) then (if σ.1 (c + 1) v7.toNatClampNeg < 0 then ((fn_X5_value_L99 ε c z1 z2 z3 (fn_X5_value_L17 ε c z1 z2 z3 k185 fuel) k185) v4 v7 (σ.1 (c + 1) v7.toNatClampNeg) σ) else (if nI (sLn ε (c + 2)) ≤ (v4 + nI 1) then ((fn_X5_value_L99 ε c z1 z2 z3 (fn_X5_value_L17 ε c z1 z2 z3 k185 fuel) k185) v4 v7 (σ.1 (c + 1) v7.toNatClampNeg) σ) else (if nI 10000 ≤ σ.1 (c + 1) v7.toNatClampNeg then (if σ.1 (c + 1) v7.toNatClampNeg = nI 10000 then ((fn_X5_value_L95 ε c z1 z2 z3 (fn_X5_value_L17 ε c z1 z2 z3 k185 fuel) k185) ((v4 + nI 1)) v7 z1 ((v4 + nI 1)) σ) else (if σ.1 (c + 1) v7.toNatClampNeg = nI 10001 then ((fn_X5_value_L95 ε c z1 z2 z3 (fn_X5_value_L17 ε c z1 z2 z3 k185 fuel) k185) ((v4 + nI 1)) v7 z2 ((v4 + nI 1)) σ) else ((fn_X5_value_L95 ε c z1 z2 z3 (fn_X5_value_L17 ε c z1 z2 z3 k185 fuel) k185) ((v4 + nI 1)) v7 z3 ((v4 + nI 1)) σ))) else ((fn_X5_value_L95 ε c z1 z2 z3 (fn_X5_value_L17 ε c z1 z2 z3 k185 fuel) k185) ((v4 + nI 1)) v7 (σ.1 (c + 1) v7.toNatClampNeg) ((v4 + nI 1)) σ)))) else none))
def fn_X5_value (ε : Ev) (c : Nat) (z1 : Int32) (z2 : Int32) (z3 : Int32) (σ : Sg) : Option (Int32 × Sg) := ((fn_X5_value_L17 ε c z1 z2 z3 (fn_X5_value_L185 ε c z1 z2 z3) 4000) ((-1)) (nI 0) σ)
theorem kJ7_fill_53178 : mKS yJ7_fill_53178 cJ7_fill_53178 4 none 2 := ⟨tSta_J7_fill_53178, tIni_J7, tCod_J7_fill_53178, by decide +kernel⟩
set_option maxHeartbeats 4000000 in
set_option maxRecDepth 100000 in
theorem ct_J7_fill_53178 (l : Launch) (D : va_G) (cy : Nat → ClassId) (Z : (Nat → Prop) → State → Heap → Prop) (hzo : zOK Z) {aStr aByt : Nat → Nat} (hzs : zSt Z aStr aByt) {q : Nat → Nat} {C : Ev → Sg → va_W} (hC : cLens cy q C) (ε : Ev) (c0 : Nat) (n0 : Nat) (hc0 : isA ε c0 n0) (z1 : Int32) (σ σ2 : Sg) (res : Unit) (h : fn_J7_fill_53178 ε c0 n0 z1 σ = some (res, σ2)) : GD l D cy Z yJ7_fill_53178 (zW yJ7_fill_53178 cJ7_fill_53178 4 none) { frames := 0, cells := 0, slots := 0, locals := 0 } [.ref (sAd ε (c0)), .int (z1)] (C ε σ) none (C ε σ2) 0 0 := by
  refine g_entry (cc := cJ7_fill_53178) (maxL := 4) (by decide) rfl (Nat.le_of_ble_eq_true rfl) ?_
  intro κ hN hX hR
  have hX : GX κ cy Z cJ7_fill_53178 (Cond.code yJ7_fill_53178 cJ7_fill_53178 4 none :: zT) RJ7 { frames := 0, cells := 0, slots := 0, locals := 0 } := hX
  have J20 : ∀ (σ : Sg) , fn_J7_fill_53178_L20 ε c0 n0 z1  σ = some (res, σ2) → GW κ 0 0 (C ε σ) 20 [] [] := by
    intro σ h
    exact g_retv hR (congrArg (C ε) (oi_2 h)) dJ7_fill_53178_20
  have J5 : ∀ (k20 : Sg → Option (Unit × Sg)) (hk20 : ∀ (σ : Sg) , k20  σ = some (res, σ2) → GW κ 0 0 (C ε σ) 20 [] []) (fuel : Nat), ∀ (v2 : Int32) (σ : Sg) , fn_J7_fill_53178_L5 ε c0 n0 z1 k20 fuel v2 σ = some (res, σ2) → GW κ 0 0 (C ε σ) 5 [(0, .ref (sAd ε (c0))), (1, .int (z1)), (2, .int (v2)), (3, .int (nI (n0)))] [] := by
    intro k20 hk20 fuel
    induction fuel with
    | zero => intro v2 σ h; cases (show none = some (res, σ2) from h)
    | succ fuel ih =>
      intro v2 σ h
      replace h : (if nI (n0) ≤ v2 then (k20  σ) else (if ¬ (v2 < 0 ∨ n0 ≤ v2.toNatClampNeg) then ((fn_J7_fill_53178_L5 ε c0 n0 z1 k20 fuel) ((v2 + nI 1)) (pI σ c0 v2.toNatClampNeg z1)) else none)) = some (res, σ2) := h
      refine g_iload_n hX 2 rfl rfl dJ7_fill_53178_5 ?_
      refine g_iload_n hX 3 rfl rfl dJ7_fill_53178_6 ?_
      refine g_icmp_ge hX 20 (by decide) dJ7_fill_53178_7 (fun b7 => ?_) (fun b7 => ?_)
      · replace h := if_p b7 h
        refine g_lv [] rfl ?_
        exact hk20   σ h
      · replace h := if_n b7 h
        refine g_aload_n hX 0 rfl rfl dJ7_fill_53178_10 ?_
        refine g_iload_n hX 2 rfl rfl dJ7_fill_53178_11 ?_
        refine g_iload_n hX 1 rfl rfl dJ7_fill_53178_12 ?_
        obtain ⟨g1, h⟩ := gd_some h
        refine c_ast hX hC hc0 g1 dJ7_fill_53178_13 ?_
        refine g_iinc (v := (v2 + nI 1)) (lv2 := [(2, .int ((v2 + nI 1))), (0, .ref (sAd ε (c0))), (1, .int (z1)), (3, .int (nI (n0)))]) hX 2 2 4 hN rfl rfl (by decide) rfl dJ7_fill_53178_14 ?_
        refine g_goto hX 5 (by decide) dJ7_fill_53178_17 ?_
        refine g_lv [1, 2, 0, 3] rfl ?_
        exact ih ((v2 + nI 1))  (pI σ c0 v2.toNatClampNeg z1) h
  show GW κ 0 0 (C ε σ) 0 [(0, .ref (sAd ε (c0))), (1, .int (z1))] []
  refine g_iconst hX (v := nI 0) rfl dJ7_fill_53178_0 ?_
  refine g_istore_n (lv2 := [(2, .int (nI 0)), (0, .ref (sAd ε (c0))), (1, .int (z1))]) hX 2 4 hN rfl (by decide) rfl dJ7_fill_53178_1 ?_
  refine g_aload_n hX 1 rfl rfl dJ7_fill_53178_2 ?_
  refine c_len hX hC hc0 (v := nI (n0)) rfl dJ7_fill_53178_3 ?_
  refine g_istore_n (lv2 := [(3, .int (nI (n0))), (2, .int (nI 0)), (0, .ref (sAd ε (c0))), (1, .int (z1))]) hX 3 4 hN rfl (by decide) rfl dJ7_fill_53178_4 ?_
  refine g_lv [2, 3, 1, 0] rfl ?_
  exact (J5 (fn_J7_fill_53178_L20 ε c0 n0 z1) J20 4000) (nI 0)  σ h
theorem kX2_begin : mKV RX2 yX2_begin cX2_begin 3 none 2 := ⟨tIns_X2_begin, tSel_X2_begin, tIni_X2, tCod_X2_begin, by decide +kernel⟩
set_option maxHeartbeats 4000000 in
set_option maxRecDepth 100000 in
theorem ct_X2_begin (l : Launch) (D : va_G) (cy : Nat → ClassId) (Z : (Nat → Prop) → State → Heap → Prop) (hzo : zOK Z) {aStr aByt : Nat → Nat} (hzs : zSt Z aStr aByt) {q : Nat → Nat} {C : Ev → Sg → va_W} (hC : cLens cy q C) (ε : Ev) (c : Nat) (hc : isX2 c) (z1 : Int32) (z2 : Int32) (σ σ2 : Sg) (res : Unit) (h : fn_X2_begin ε c z1 z2 σ = some (res, σ2)) : GD l D cy Z yX2_begin (zW yX2_begin cX2_begin 3 none) { frames := 1, cells := 0, slots := 0, locals := 23 } [.ref (sAd ε (c)), .int (z1), .int (z2)] (C ε σ) none (C ε σ2) 0 0 := by
  refine g_entry (cc := cX2_begin) (maxL := 3) (by decide) rfl (Nat.le_of_ble_eq_true rfl) ?_
  intro κ hN hX hR
  have hX : GX κ cy Z cX2_begin (Cond.code yX2_begin cX2_begin 3 none :: zT) RX2 { frames := 1, cells := 0, slots := 0, locals := 23 } := hX
  show GW κ 0 0 (C ε σ) 0 [(0, .ref (sAd ε (c))), (1, .int (z1)), (2, .int (z2))] []
  refine g_aload_n hX 0 rfl rfl dX2_begin_0 ?_
  refine g_iload_n hX 1 rfl rfl dX2_begin_1 ?_
  refine c_put2 (ty := .int) hX hC hc 1 (by decide) (cs_X2 ε _ _ _).1 rfl (by decide +kernel) rfl rfl tFld_X2_15 rfl dX2_begin_2 ?_
  refine g_aload_n hX 0 rfl rfl dX2_begin_5 ?_
  refine g_iload_n hX 2 rfl rfl dX2_begin_6 ?_
  refine c_put2 (ty := .int) hX hC hc 2 (by decide) (cs_X2 ε _ _ _).2 rfl (by decide +kernel) rfl rfl tFld_X2_19 rfl dX2_begin_7 ?_
  refine g_aload_n hX 0 rfl rfl dX2_begin_10 ?_
  refine c_get2 hX hC hc 0 (by decide) rfl tFld_X2_9 rfl dX2_begin_11 ?_
  refine g_iconst hX (v := nI 0) rfl dX2_begin_14 ?_
  obtain ⟨y15, τ15, e15, h⟩ := ob_some h
  refine s_callM hX hzo [.ref (sAd ε (c + 1)), .int (nI 0)] [] (ct_J7_fill_53178 _ _ _ _ hzo hzs hC ε (c + 1) 24 (ka_X2_1 hc) (nI 0) (pI (pI σ c 1 z1) c 2 z2) _ _ e15) kJ7_fill_53178 tMet_X2_22 rfl rfl (Nat.le_of_ble_eq_true rfl) (Nat.le_of_ble_eq_true rfl) ⟨Nat.le_of_ble_eq_true rfl, Nat.le_of_ble_eq_true rfl⟩ rfl rfl (Nat.le_of_ble_eq_true rfl) dX2_begin_15 ?_
  exact g_retv hR (congrArg (C ε) (oi_2 h)) dX2_begin_18
theorem kX2_beLike : mKV RX2 yX2_beLike cX2_beLike 2 none 1 := ⟨tIns_X2_beLike, tSel_X2_beLike, tIni_X2, tCod_X2_beLike, by decide +kernel⟩
set_option maxHeartbeats 4000000 in
set_option maxRecDepth 100000 in
theorem ct_X2_beLike (l : Launch) (D : va_G) (cy : Nat → ClassId) (Z : (Nat → Prop) → State → Heap → Prop) (hzo : zOK Z) {aStr aByt : Nat → Nat} (hzs : zSt Z aStr aByt) {q : Nat → Nat} {C : Ev → Sg → va_W} (hC : cLens cy q C) (ε : Ev) (c : Nat) (hc : isX2 c) (c1 : Nat) (hc1 : isX2 c1) (σ σ2 : Sg) (res : Unit) (h : fn_X2_beLike ε c c1 σ = some (res, σ2)) : GD l D cy Z yX2_beLike (zW yX2_beLike cX2_beLike 2 none) { frames := 1, cells := 0, slots := 0, locals := 60 } [.ref (sAd ε (c)), .ref (sAd ε (c1))] (C ε σ) none (C ε σ2) 0 0 := by
  refine g_entry (cc := cX2_beLike) (maxL := 2) (by decide) rfl (Nat.le_of_ble_eq_true rfl) ?_
  intro κ hN hX hR
  have hX : GX κ cy Z cX2_beLike (Cond.code yX2_beLike cX2_beLike 2 none :: zT) RX2 { frames := 1, cells := 0, slots := 0, locals := 60 } := hX
  show GW κ 0 0 (C ε σ) 0 [(0, .ref (sAd ε (c))), (1, .ref (sAd ε (c1)))] []
  refine g_aload_n hX 0 rfl rfl dX2_beLike_0 ?_
  refine g_aload_n hX 1 rfl rfl dX2_beLike_1 ?_
  refine c_get2 hX hC hc1 1 (by decide) rfl tFld_X2_15 rfl dX2_beLike_2 ?_
  refine c_put2 (ty := .int) hX hC hc 1 (by decide) (cs_X2 ε _ _ _).1 rfl (by decide +kernel) rfl rfl tFld_X2_15 rfl dX2_beLike_5 ?_
  refine g_aload_n hX 0 rfl rfl dX2_beLike_8 ?_
  refine g_aload_n hX 1 rfl rfl dX2_beLike_9 ?_
  refine c_get2 hX hC hc1 2 (by decide) rfl tFld_X2_19 rfl dX2_beLike_10 ?_
  refine c_put2 (ty := .int) hX hC hc 2 (by decide) (cs_X2 ε _ _ _).2 rfl (by decide +kernel) rfl rfl tFld_X2_19 rfl dX2_beLike_13 ?_
  refine g_aload_n hX 1 rfl rfl dX2_beLike_16 ?_
  refine c_get2 hX hC hc1 0 (by decide) rfl tFld_X2_9 rfl dX2_beLike_17 ?_
  refine g_iconst hX (v := nI 0) rfl dX2_beLike_20 ?_
  refine g_aload_n hX 0 rfl rfl dX2_beLike_21 ?_
  refine c_get2 hX hC hc 0 (by decide) rfl tFld_X2_9 rfl dX2_beLike_22 ?_
  refine g_iconst hX (v := nI 0) rfl dX2_beLike_25 ?_
  refine g_bipush hX (v := nI 24) (by decide) dX2_beLike_26 ?_
  obtain ⟨g1, h⟩ := gd_some h
  refine c_copy hX hC tMet_X2_28 (ka_X2_1 hc1) (ka_X2_1 hc) g1 (Nat.le_of_ble_eq_true rfl) (Nat.le_of_ble_eq_true rfl) (Nat.le_of_ble_eq_true rfl) dX2_beLike_28 ?_
  exact g_retv hR (congrArg (C ε) (oi_2 h)) dX2_beLike_31
theorem kX2_hasPlace : mKV RX2 yX2_hasPlace cX2_hasPlace 2 (some .boolean) 1 := ⟨tIns_X2_hasPlace, tSel_X2_hasPlace, tIni_X2, tCod_X2_hasPlace, by decide +kernel⟩
set_option maxHeartbeats 4000000 in
set_option maxRecDepth 100000 in
theorem ct_X2_hasPlace (l : Launch) (D : va_G) (cy : Nat → ClassId) (Z : (Nat → Prop) → State → Heap → Prop) (hzo : zOK Z) {aStr aByt : Nat → Nat} (hzs : zSt Z aStr aByt) {q : Nat → Nat} {C : Ev → Sg → va_W} (hC : cLens cy q C) (ε : Ev) (c : Nat) (hc : isX2 c) (z1 : Int32) (σ σ2 : Sg) (res : Int32) (h : fn_X2_hasPlace ε c z1 σ = some (res, σ2)) : GD l D cy Z yX2_hasPlace (zW yX2_hasPlace cX2_hasPlace 2 (some .boolean)) { frames := 0, cells := 0, slots := 0, locals := 0 } [.ref (sAd ε (c)), .int (z1)] (C ε σ) (some (.int res)) (C ε σ2) 0 0 := by
  refine g_entry (cc := cX2_hasPlace) (maxL := 2) (by decide) rfl (Nat.le_of_ble_eq_true rfl) ?_
  intro κ hN hX hR
  have hX : GX κ cy Z cX2_hasPlace (Cond.code yX2_hasPlace cX2_hasPlace 2 (some .boolean) :: zT) RX2 { frames := 0, cells := 0, slots := 0, locals := 0 } := hX
  have J17 : ∀ (s0 : Int32) (σ : Sg) , fn_X2_hasPlace_L17 ε c z1 s0 σ = some (res, σ2) → GW κ 0 0 (C ε σ) 17 [] [.int (s0)] := by
    intro s0 σ h
    obtain ⟨g1, h⟩ := gd_some h
    exact g_retbD hR g1 (oi_1 h) (congrArg (C ε) (oi_2 h)) dX2_hasPlace_17
  have J16 : ∀ (σ : Sg) , fn_X2_hasPlace_L16 ε c z1  σ = some (res, σ2) → GW κ 0 0 (C ε σ) 16 [] [] := by
    intro σ h
    refine g_iconst hX (v := nI 0) rfl dX2_hasPlace_16 ?_
    exact J17 (nI 0)  σ h
  show GW κ 0 0 (C ε σ) 0 [(0, .ref (sAd ε (c))), (1, .int (z1))] []
  refine g_iload_n hX 1 rfl rfl dX2_hasPlace_0 ?_
  refine g_if_lt hX 16 (by decide) dX2_hasPlace_1 (fun b1 => ?_) (fun b1 => ?_)
  · replace h := if_p b1 h
    refine g_lv [] rfl ?_
    exact J16   σ h
  · replace h := if_n b1 h
    refine g_iload_n hX 1 rfl rfl dX2_hasPlace_4 ?_
    refine g_aload_n hX 0 rfl rfl dX2_hasPlace_5 ?_
    refine c_get2 hX hC hc 2 (by decide) rfl tFld_X2_19 rfl dX2_hasPlace_6 ?_
    refine g_icmp_ge hX 16 (by decide) dX2_hasPlace_9 (fun b9 => ?_) (fun b9 => ?_)
    · replace h := if_p b9 h
      refine g_lv [] rfl ?_
      exact J16   σ h
    · replace h := if_n b9 h
      refine g_iconst hX (v := nI 1) rfl dX2_hasPlace_12 ?_
      refine g_goto hX 17 (by decide) dX2_hasPlace_13 ?_
      refine g_lv [] rfl ?_
      exact J17 (nI 1)  σ h
theorem kX2_hasPlaces : mKV RX2 yX2_hasPlaces cX2_hasPlaces 3 (some .boolean) 2 := ⟨tIns_X2_hasPlaces, tSel_X2_hasPlaces, tIni_X2, tCod_X2_hasPlaces, by decide +kernel⟩
set_option maxHeartbeats 4000000 in
set_option maxRecDepth 100000 in
theorem ct_X2_hasPlaces (l : Launch) (D : va_G) (cy : Nat → ClassId) (Z : (Nat → Prop) → State → Heap → Prop) (hzo : zOK Z) {aStr aByt : Nat → Nat} (hzs : zSt Z aStr aByt) {q : Nat → Nat} {C : Ev → Sg → va_W} (hC : cLens cy q C) (ε : Ev) (c : Nat) (hc : isX2 c) (z1 : Int32) (z2 : Int32) (σ σ2 : Sg) (res : Int32) (h : fn_X2_hasPlaces ε c z1 z2 σ = some (res, σ2)) : GD l D cy Z yX2_hasPlaces (zW yX2_hasPlaces cX2_hasPlaces 3 (some .boolean)) { frames := 0, cells := 0, slots := 0, locals := 0 } [.ref (sAd ε (c)), .int (z1), .int (z2)] (C ε σ) (some (.int res)) (C ε σ2) 0 0 := by
  refine g_entry (cc := cX2_hasPlaces) (maxL := 3) (by decide) rfl (Nat.le_of_ble_eq_true rfl) ?_
  intro κ hN hX hR
  have hX : GX κ cy Z cX2_hasPlaces (Cond.code yX2_hasPlaces cX2_hasPlaces 3 (some .boolean) :: zT) RX2 { frames := 0, cells := 0, slots := 0, locals := 0 } := hX
  have J31 : ∀ (s0 : Int32) (σ : Sg) , fn_X2_hasPlaces_L31 ε c z1 z2 s0 σ = some (res, σ2) → GW κ 0 0 (C ε σ) 31 [] [.int (s0)] := by
    intro s0 σ h
    obtain ⟨g1, h⟩ := gd_some h
    exact g_retbD hR g1 (oi_1 h) (congrArg (C ε) (oi_2 h)) dX2_hasPlaces_31
  have J30 : ∀ (σ : Sg) , fn_X2_hasPlaces_L30 ε c z1 z2  σ = some (res, σ2) → GW κ 0 0 (C ε σ) 30 [] [] := by
    intro σ h
    refine g_iconst hX (v := nI 0) rfl dX2_hasPlaces_30 ?_
    exact J31 (nI 0)  σ h
  show GW κ 0 0 (C ε σ) 0 [(0, .ref (sAd ε (c))), (1, .int (z1)), (2, .int (z2))] []
  refine g_iload_n hX 1 rfl rfl dX2_hasPlaces_0 ?_
  refine g_if_lt hX 30 (by decide) dX2_hasPlaces_1 (fun b1 => ?_) (fun b1 => ?_)
  · replace h := if_p b1 h
    refine g_lv [] rfl ?_
    exact J30   σ h
  · replace h := if_n b1 h
    refine g_iload_n hX 1 rfl rfl dX2_hasPlaces_4 ?_
    refine g_aload_n hX 0 rfl rfl dX2_hasPlaces_5 ?_
    refine c_get2 hX hC hc 2 (by decide) rfl tFld_X2_19 rfl dX2_hasPlaces_6 ?_
    refine g_icmp_gt hX 30 (by decide) dX2_hasPlaces_9 (fun b9 => ?_) (fun b9 => ?_)
    · replace h := if_p b9 h
      refine g_lv [] rfl ?_
      exact J30   σ h
    · replace h := if_n b9 h
      refine g_iload_n hX 2 rfl rfl dX2_hasPlaces_12 ?_
      refine g_if_lt hX 30 (by decide) dX2_hasPlaces_13 (fun b13 => ?_) (fun b13 => ?_)
      · replace h := if_p b13 h
        refine g_lv [] rfl ?_
        exact J30   σ h
      · replace h := if_n b13 h
        refine g_iload_n hX 2 rfl rfl dX2_hasPlaces_16 ?_
        refine g_aload_n hX 0 rfl rfl dX2_hasPlaces_17 ?_
        refine c_get2 hX hC hc 2 (by decide) rfl tFld_X2_19 rfl dX2_hasPlaces_18 ?_
        refine g_iload_n hX 1 rfl rfl dX2_hasPlaces_21 ?_
        refine g_isub hX dX2_hasPlaces_22 ?_
        refine g_icmp_gt hX 30 (by decide) dX2_hasPlaces_23 (fun b23 => ?_) (fun b23 => ?_)
        · replace h := if_p b23 h
          refine g_lv [] rfl ?_
          exact J30   σ h
        · replace h := if_n b23 h
          refine g_iconst hX (v := nI 1) rfl dX2_hasPlaces_26 ?_
          refine g_goto hX 31 (by decide) dX2_hasPlaces_27 ?_
          refine g_lv [] rfl ?_
          exact J31 (nI 1)  σ h
theorem kX2_isNumber : mKV RX2 yX2_isNumber cX2_isNumber 2 (some .boolean) 1 := ⟨tIns_X2_isNumber, tSel_X2_isNumber, tIni_X2, tCod_X2_isNumber, by decide +kernel⟩
set_option maxHeartbeats 4000000 in
set_option maxRecDepth 100000 in
theorem ct_X2_isNumber (l : Launch) (D : va_G) (cy : Nat → ClassId) (Z : (Nat → Prop) → State → Heap → Prop) (hzo : zOK Z) {aStr aByt : Nat → Nat} (hzs : zSt Z aStr aByt) {q : Nat → Nat} {C : Ev → Sg → va_W} (hC : cLens cy q C) (ε : Ev) (c : Nat) (hc : isX2 c) (z1 : Int32) (σ σ2 : Sg) (res : Int32) (h : fn_X2_isNumber ε c z1 σ = some (res, σ2)) : GD l D cy Z yX2_isNumber (zW yX2_isNumber cX2_isNumber 2 (some .boolean)) { frames := 0, cells := 0, slots := 0, locals := 0 } [.ref (sAd ε (c)), .int (z1)] (C ε σ) (some (.int res)) (C ε σ2) 0 0 := by
  refine g_entry (cc := cX2_isNumber) (maxL := 2) (by decide) rfl (Nat.le_of_ble_eq_true rfl) ?_
  intro κ hN hX hR
  have hX : GX κ cy Z cX2_isNumber (Cond.code yX2_isNumber cX2_isNumber 2 (some .boolean) :: zT) RX2 { frames := 0, cells := 0, slots := 0, locals := 0 } := hX
  have J16 : ∀ (s0 : Int32) (σ : Sg) , fn_X2_isNumber_L16 ε c z1 s0 σ = some (res, σ2) → GW κ 0 0 (C ε σ) 16 [] [.int (s0)] := by
    intro s0 σ h
    obtain ⟨g1, h⟩ := gd_some h
    exact g_retbD hR g1 (oi_1 h) (congrArg (C ε) (oi_2 h)) dX2_isNumber_16
  show GW κ 0 0 (C ε σ) 0 [(0, .ref (sAd ε (c))), (1, .int (z1))] []
  refine g_aload_n hX 0 rfl rfl dX2_isNumber_0 ?_
  refine c_get2 hX hC hc 0 (by decide) rfl tFld_X2_9 rfl dX2_isNumber_1 ?_
  refine g_iload_n hX 1 rfl rfl dX2_isNumber_4 ?_
  obtain ⟨g2, h⟩ := gd_some h
  refine c_ald hX hC (ka_X2_1 hc) g2 dX2_isNumber_5 ?_
  refine g_ldc hX (v := -1000000005) (zu tCon_X2_34 rfl) dX2_isNumber_6 ?_
  refine g_icmp_eq hX 15 (by decide) dX2_isNumber_8 (fun b8 => ?_) (fun b8 => ?_)
  · replace h := if_p b8 h
    refine g_iconst hX (v := nI 0) rfl dX2_isNumber_15 ?_
    refine g_lv [] rfl ?_
    exact J16 (nI 0)  σ h
  · replace h := if_n b8 h
    refine g_iconst hX (v := nI 1) rfl dX2_isNumber_11 ?_
    refine g_goto hX 16 (by decide) dX2_isNumber_12 ?_
    refine g_lv [] rfl ?_
    exact J16 (nI 1)  σ h
theorem kX5_joined : mKS yX5_joined cX5_joined 3 (some .int) 3 := ⟨tSta_X5_joined, tIni_X5, tCod_X5_joined, by decide +kernel⟩
set_option maxHeartbeats 4000000 in
set_option maxRecDepth 100000 in
theorem ct_X5_joined (l : Launch) (D : va_G) (cy : Nat → ClassId) (Z : (Nat → Prop) → State → Heap → Prop) (hzo : zOK Z) {aStr aByt : Nat → Nat} (hzs : zSt Z aStr aByt) (w : va_W) (z0 : Int32) (z1 : Int32) (z2 : Int32) (res : Int32) (h : fn_X5_joined z0 z1 z2 = some res) : GD l D cy Z yX5_joined (zW yX5_joined cX5_joined 3 (some .int)) { frames := 0, cells := 0, slots := 0, locals := 0 } [.int (z0), .int (z1), .int (z2)] w (some (.int res)) w 0 0 := by
  refine g_entry (cc := cX5_joined) (maxL := 3) (by decide) rfl (Nat.le_of_ble_eq_true rfl) ?_
  intro κ hN hX hR
  have hX : GX κ cy Z cX5_joined (Cond.code yX5_joined cX5_joined 3 (some .int) :: zT) RX5 { frames := 0, cells := 0, slots := 0, locals := 0 } := hX
  have J200 : ∀ (s0 : Int32) , fn_X5_joined_L200 z0 z1 z2 s0 = some res → GW κ 0 0 w 200 [] [.int (s0)] := by
    intro s0 h
    exact g_reti hR (oi_0 h) rfl dX5_joined_200
  have J195 : fn_X5_joined_L195 z0 z1 z2  = some res → GW κ 0 0 w 195 [] [] := by
    intro h
    refine g_iconst hX (v := nI 1) rfl dX5_joined_195 ?_
    refine g_goto hX 200 (by decide) dX5_joined_196 ?_
    exact J200 (nI 1)  h
  have J187 : fn_X5_joined_L187 z0 z1 z2  = some res → GW κ 0 0 w 187 [(1, .int (z1)), (2, .int (z2))] [] := by
    intro h
    refine g_iload_n hX 0 rfl rfl dX5_joined_187 ?_
    refine g_if_ne hX 195 (by decide) dX5_joined_188 (fun b188 => ?_) (fun b188 => ?_)
    · replace h := if_n b188 h
      refine g_lv [] rfl ?_
      exact J195   h
    · replace h := if_p b188 h
      refine g_iload_n hX 1 rfl rfl dX5_joined_191 ?_
      refine g_if_eq hX 199 (by decide) dX5_joined_192 (fun b192 => ?_) (fun b192 => ?_)
      · replace h := if_p b192 h
        refine g_iconst hX (v := nI 0) rfl dX5_joined_199 ?_
        refine g_lv [] rfl ?_
        exact J200 (nI 0)  h
      · replace h := if_n b192 h
        refine g_lv [] rfl ?_
        exact J195   h
  have J186 : ∀ (s0 : Int32) , fn_X5_joined_L186 z0 z1 z2 s0 = some res → GW κ 0 0 w 186 [] [.int (s0)] := by
    intro s0 h
    exact g_reti hR (oi_0 h) rfl dX5_joined_186
  have J185 : fn_X5_joined_L185 z0 z1 z2  = some res → GW κ 0 0 w 185 [] [] := by
    intro h
    refine g_iconst hX (v := nI 0) rfl dX5_joined_185 ?_
    exact J186 (nI 0)  h
  have J172 : ∀ (s0 : Int32) , fn_X5_joined_L172 z0 z1 z2 s0 = some res → GW κ 0 0 w 172 [] [.int (s0)] := by
    intro s0 h
    exact g_reti hR (oi_0 h) rfl dX5_joined_172
  have J161 : ∀ (s0 : Int32) , fn_X5_joined_L161 z0 z1 z2 s0 = some res → GW κ 0 0 w 161 [] [.int (s0)] := by
    intro s0 h
    exact g_reti hR (oi_0 h) rfl dX5_joined_161
  have J150 : ∀ (s0 : Int32) , fn_X5_joined_L150 z0 z1 z2 s0 = some res → GW κ 0 0 w 150 [] [.int (s0)] := by
    intro s0 h
    exact g_reti hR (oi_0 h) rfl dX5_joined_150
  have J139 : ∀ (s0 : Int32) , fn_X5_joined_L139 z0 z1 z2 s0 = some res → GW κ 0 0 w 139 [] [.int (s0)] := by
    intro s0 h
    exact g_reti hR (oi_0 h) rfl dX5_joined_139
  show GW κ 0 0 w 0 [(0, .int (z0)), (1, .int (z1)), (2, .int (z2))] []
  refine g_iload_n hX 0 rfl rfl dX5_joined_0 ?_
  rcases sw_in (z0) 38 62 (by decide) with w1 | ⟨j1, w1a, w1b, w1⟩
  · replace h := if_n (sw_out w1 38 (by decide) (by decide) (by decide)) h
    replace h := if_n (sw_out w1 39 (by decide) (by decide) (by decide)) h
    replace h := if_n (sw_out w1 40 (by decide) (by decide) (by decide)) h
    replace h := if_n (sw_out w1 41 (by decide) (by decide) (by decide)) h
    replace h := if_n (sw_out w1 42 (by decide) (by decide) (by decide)) h
    replace h := if_n (sw_out w1 43 (by decide) (by decide) (by decide)) h
    replace h := if_n (sw_out w1 44 (by decide) (by decide) (by decide)) h
    replace h := if_n (sw_out w1 45 (by decide) (by decide) (by decide)) h
    replace h := if_n (sw_out w1 46 (by decide) (by decide) (by decide)) h
    replace h := if_n (sw_out w1 47 (by decide) (by decide) (by decide)) h
    replace h := if_n (sw_out w1 48 (by decide) (by decide) (by decide)) h
    replace h := if_n (sw_out w1 49 (by decide) (by decide) (by decide)) h
    replace h := if_n (sw_out w1 50 (by decide) (by decide) (by decide)) h
    replace h := if_n (sw_out w1 51 (by decide) (by decide) (by decide)) h
    replace h := if_n (sw_out w1 52 (by decide) (by decide) (by decide)) h
    replace h := if_n (sw_out w1 53 (by decide) (by decide) (by decide)) h
    replace h := if_n (sw_out w1 54 (by decide) (by decide) (by decide)) h
    replace h := if_n (sw_out w1 55 (by decide) (by decide) (by decide)) h
    replace h := if_n (sw_out w1 56 (by decide) (by decide) (by decide)) h
    replace h := if_n (sw_out w1 57 (by decide) (by decide) (by decide)) h
    replace h := if_n (sw_out w1 58 (by decide) (by decide) (by decide)) h
    replace h := if_n (sw_out w1 59 (by decide) (by decide) (by decide)) h
    replace h := if_n (sw_out w1 60 (by decide) (by decide) (by decide)) h
    replace h := if_n (sw_out w1 61 (by decide) (by decide) (by decide)) h
    replace h := if_n (sw_out w1 62 (by decide) (by decide) (by decide)) h
    refine g_tableOut hX 187 w1 (by decide) dX5_joined_1 ?_
    refine g_lv [1, 2] rfl ?_
    exact J187   h
  · have hj : j1 = 38 ∨ j1 = 39 ∨ j1 = 40 ∨ j1 = 41 ∨ j1 = 42 ∨ j1 = 43 ∨ j1 = 44 ∨ j1 = 45 ∨ j1 = 46 ∨ j1 = 47 ∨ j1 = 48 ∨ j1 = 49 ∨ j1 = 50 ∨ j1 = 51 ∨ j1 = 52 ∨ j1 = 53 ∨ j1 = 54 ∨ j1 = 55 ∨ j1 = 56 ∨ j1 = 57 ∨ j1 = 58 ∨ j1 = 59 ∨ j1 = 60 ∨ j1 = 61 ∨ j1 = 62 := by omega
    rcases hj with rfl | rfl | rfl | rfl | rfl | rfl | rfl | rfl | rfl | rfl | rfl | rfl | rfl | rfl | rfl | rfl | rfl | rfl | rfl | rfl | rfl | rfl | rfl | rfl | rfl
    · replace h := if_p w1 h
      refine g_top (y := .int (nI 38)) (congrArg Value.int w1) ?_
      refine g_tableIn hX 173 (by decide) (by decide) rfl (by decide) dX5_joined_1 ?_
      refine g_iload_n hX 1 rfl rfl dX5_joined_173 ?_
      refine g_if_eq hX 185 (by decide) dX5_joined_174 (fun b174 => ?_) (fun b174 => ?_)
      · replace h := if_p b174 h
        refine g_lv [] rfl ?_
        exact J185   h
      · replace h := if_n b174 h
        refine g_iload_n hX 2 rfl rfl dX5_joined_177 ?_
        refine g_if_eq hX 185 (by decide) dX5_joined_178 (fun b178 => ?_) (fun b178 => ?_)
        · replace h := if_p b178 h
          refine g_lv [] rfl ?_
          exact J185   h
        · replace h := if_n b178 h
          refine g_iconst hX (v := nI 1) rfl dX5_joined_181 ?_
          refine g_goto hX 186 (by decide) dX5_joined_182 ?_
          refine g_lv [] rfl ?_
          exact J186 (nI 1)  h
    · replace h := if_n (by rw [w1]; decide) h
      replace h := if_p w1 h
      refine g_top (y := .int (nI 39)) (congrArg Value.int w1) ?_
      refine g_tableIn hX 187 (by decide) (by decide) rfl (by decide) dX5_joined_1 ?_
      refine g_lv [1, 2] rfl ?_
      exact J187   h
    · replace h := if_n (by rw [w1]; decide) h
      replace h := if_n (by rw [w1]; decide) h
      replace h := if_p w1 h
      refine g_top (y := .int (nI 40)) (congrArg Value.int w1) ?_
      refine g_tableIn hX 187 (by decide) (by decide) rfl (by decide) dX5_joined_1 ?_
      refine g_lv [1, 2] rfl ?_
      exact J187   h
    · replace h := if_n (by rw [w1]; decide) h
      replace h := if_n (by rw [w1]; decide) h
      replace h := if_n (by rw [w1]; decide) h
      replace h := if_p w1 h
      refine g_top (y := .int (nI 41)) (congrArg Value.int w1) ?_
      refine g_tableIn hX 187 (by decide) (by decide) rfl (by decide) dX5_joined_1 ?_
      refine g_lv [1, 2] rfl ?_
      exact J187   h
    · replace h := if_n (by rw [w1]; decide) h
      replace h := if_n (by rw [w1]; decide) h
      replace h := if_n (by rw [w1]; decide) h
      replace h := if_n (by rw [w1]; decide) h
      replace h := if_p w1 h
      refine g_top (y := .int (nI 42)) (congrArg Value.int w1) ?_
      refine g_tableIn hX 124 (by decide) (by decide) rfl (by decide) dX5_joined_1 ?_
      refine g_iload_n hX 1 rfl rfl dX5_joined_124 ?_
      refine g_iload_n hX 2 rfl rfl dX5_joined_125 ?_
      refine g_imul hX dX5_joined_126 ?_
      exact g_reti hR (oi_0 h) rfl dX5_joined_127
    · replace h := if_n (by rw [w1]; decide) h
      replace h := if_n (by rw [w1]; decide) h
      replace h := if_n (by rw [w1]; decide) h
      replace h := if_n (by rw [w1]; decide) h
      replace h := if_n (by rw [w1]; decide) h
      replace h := if_p w1 h
      refine g_top (y := .int (nI 43)) (congrArg Value.int w1) ?_
      refine g_tableIn hX 116 (by decide) (by decide) rfl (by decide) dX5_joined_1 ?_
      refine g_iload_n hX 1 rfl rfl dX5_joined_116 ?_
      refine g_iload_n hX 2 rfl rfl dX5_joined_117 ?_
      refine g_iadd hX dX5_joined_118 ?_
      exact g_reti hR (oi_0 h) rfl dX5_joined_119
    · replace h := if_n (by rw [w1]; decide) h
      replace h := if_n (by rw [w1]; decide) h
      replace h := if_n (by rw [w1]; decide) h
      replace h := if_n (by rw [w1]; decide) h
      replace h := if_n (by rw [w1]; decide) h
      replace h := if_n (by rw [w1]; decide) h
      replace h := if_p w1 h
      refine g_top (y := .int (nI 44)) (congrArg Value.int w1) ?_
      refine g_tableIn hX 187 (by decide) (by decide) rfl (by decide) dX5_joined_1 ?_
      refine g_lv [1, 2] rfl ?_
      exact J187   h
    · replace h := if_n (by rw [w1]; decide) h
      replace h := if_n (by rw [w1]; decide) h
      replace h := if_n (by rw [w1]; decide) h
      replace h := if_n (by rw [w1]; decide) h
      replace h := if_n (by rw [w1]; decide) h
      replace h := if_n (by rw [w1]; decide) h
      replace h := if_n (by rw [w1]; decide) h
      replace h := if_p w1 h
      refine g_top (y := .int (nI 45)) (congrArg Value.int w1) ?_
      refine g_tableIn hX 120 (by decide) (by decide) rfl (by decide) dX5_joined_1 ?_
      refine g_iload_n hX 1 rfl rfl dX5_joined_120 ?_
      refine g_iload_n hX 2 rfl rfl dX5_joined_121 ?_
      refine g_isub hX dX5_joined_122 ?_
      exact g_reti hR (oi_0 h) rfl dX5_joined_123
    · replace h := if_n (by rw [w1]; decide) h
      replace h := if_n (by rw [w1]; decide) h
      replace h := if_n (by rw [w1]; decide) h
      replace h := if_n (by rw [w1]; decide) h
      replace h := if_n (by rw [w1]; decide) h
      replace h := if_n (by rw [w1]; decide) h
      replace h := if_n (by rw [w1]; decide) h
      replace h := if_n (by rw [w1]; decide) h
      replace h := if_p w1 h
      refine g_top (y := .int (nI 46)) (congrArg Value.int w1) ?_
      refine g_tableIn hX 187 (by decide) (by decide) rfl (by decide) dX5_joined_1 ?_
      refine g_lv [1, 2] rfl ?_
      exact J187   h
    · replace h := if_n (by rw [w1]; decide) h
      replace h := if_n (by rw [w1]; decide) h
      replace h := if_n (by rw [w1]; decide) h
      replace h := if_n (by rw [w1]; decide) h
      replace h := if_n (by rw [w1]; decide) h
      replace h := if_n (by rw [w1]; decide) h
      replace h := if_n (by rw [w1]; decide) h
      replace h := if_n (by rw [w1]; decide) h
      replace h := if_n (by rw [w1]; decide) h
      replace h := if_p w1 h
      refine g_top (y := .int (nI 47)) (congrArg Value.int w1) ?_
      refine g_tableIn hX 128 (by decide) (by decide) rfl (by decide) dX5_joined_1 ?_
      refine g_iload_n hX 2 rfl rfl dX5_joined_128 ?_
      refine g_if_ne hX 136 (by decide) dX5_joined_129 (fun b129 => ?_) (fun b129 => ?_)
      · replace h := if_n b129 h
        refine g_iload_n hX 1 rfl rfl dX5_joined_136 ?_
        refine g_iload_n hX 2 rfl rfl dX5_joined_137 ?_
        obtain ⟨g1, h⟩ := gd_some h
        refine g_idiv hX g1 dX5_joined_138 ?_
        refine g_lv [] rfl ?_
        exact J139 ((z1 / z2))  h
      · replace h := if_p b129 h
        refine g_iconst hX (v := nI 0) rfl dX5_joined_132 ?_
        refine g_goto hX 139 (by decide) dX5_joined_133 ?_
        refine g_lv [] rfl ?_
        exact J139 (nI 0)  h
    · replace h := if_n (by rw [w1]; decide) h
      replace h := if_n (by rw [w1]; decide) h
      replace h := if_n (by rw [w1]; decide) h
      replace h := if_n (by rw [w1]; decide) h
      replace h := if_n (by rw [w1]; decide) h
      replace h := if_n (by rw [w1]; decide) h
      replace h := if_n (by rw [w1]; decide) h
      replace h := if_n (by rw [w1]; decide) h
      replace h := if_n (by rw [w1]; decide) h
      replace h := if_n (by rw [w1]; decide) h
      replace h := if_p w1 h
      refine g_top (y := .int (nI 48)) (congrArg Value.int w1) ?_
      refine g_tableIn hX 187 (by decide) (by decide) rfl (by decide) dX5_joined_1 ?_
      refine g_lv [1, 2] rfl ?_
      exact J187   h
    · replace h := if_n (by rw [w1]; decide) h
      replace h := if_n (by rw [w1]; decide) h
      replace h := if_n (by rw [w1]; decide) h
      replace h := if_n (by rw [w1]; decide) h
      replace h := if_n (by rw [w1]; decide) h
      replace h := if_n (by rw [w1]; decide) h
      replace h := if_n (by rw [w1]; decide) h
      replace h := if_n (by rw [w1]; decide) h
      replace h := if_n (by rw [w1]; decide) h
      replace h := if_n (by rw [w1]; decide) h
      replace h := if_n (by rw [w1]; decide) h
      replace h := if_p w1 h
      refine g_top (y := .int (nI 49)) (congrArg Value.int w1) ?_
      refine g_tableIn hX 187 (by decide) (by decide) rfl (by decide) dX5_joined_1 ?_
      refine g_lv [1, 2] rfl ?_
      exact J187   h
    · replace h := if_n (by rw [w1]; decide) h
      replace h := if_n (by rw [w1]; decide) h
      replace h := if_n (by rw [w1]; decide) h
      replace h := if_n (by rw [w1]; decide) h
      replace h := if_n (by rw [w1]; decide) h
      replace h := if_n (by rw [w1]; decide) h
      replace h := if_n (by rw [w1]; decide) h
      replace h := if_n (by rw [w1]; decide) h
      replace h := if_n (by rw [w1]; decide) h
      replace h := if_n (by rw [w1]; decide) h
      replace h := if_n (by rw [w1]; decide) h
      replace h := if_n (by rw [w1]; decide) h
      replace h := if_p w1 h
      refine g_top (y := .int (nI 50)) (congrArg Value.int w1) ?_
      refine g_tableIn hX 187 (by decide) (by decide) rfl (by decide) dX5_joined_1 ?_
      refine g_lv [1, 2] rfl ?_
      exact J187   h
    · replace h := if_n (by rw [w1]; decide) h
      replace h := if_n (by rw [w1]; decide) h
      replace h := if_n (by rw [w1]; decide) h
      replace h := if_n (by rw [w1]; decide) h
      replace h := if_n (by rw [w1]; decide) h
      replace h := if_n (by rw [w1]; decide) h
      replace h := if_n (by rw [w1]; decide) h
      replace h := if_n (by rw [w1]; decide) h
      replace h := if_n (by rw [w1]; decide) h
      replace h := if_n (by rw [w1]; decide) h
      replace h := if_n (by rw [w1]; decide) h
      replace h := if_n (by rw [w1]; decide) h
      replace h := if_n (by rw [w1]; decide) h
      replace h := if_p w1 h
      refine g_top (y := .int (nI 51)) (congrArg Value.int w1) ?_
      refine g_tableIn hX 187 (by decide) (by decide) rfl (by decide) dX5_joined_1 ?_
      refine g_lv [1, 2] rfl ?_
      exact J187   h
    · replace h := if_n (by rw [w1]; decide) h
      replace h := if_n (by rw [w1]; decide) h
      replace h := if_n (by rw [w1]; decide) h
      replace h := if_n (by rw [w1]; decide) h
      replace h := if_n (by rw [w1]; decide) h
      replace h := if_n (by rw [w1]; decide) h
      replace h := if_n (by rw [w1]; decide) h
      replace h := if_n (by rw [w1]; decide) h
      replace h := if_n (by rw [w1]; decide) h
      replace h := if_n (by rw [w1]; decide) h
      replace h := if_n (by rw [w1]; decide) h
      replace h := if_n (by rw [w1]; decide) h
      replace h := if_n (by rw [w1]; decide) h
      replace h := if_n (by rw [w1]; decide) h
      replace h := if_p w1 h
      refine g_top (y := .int (nI 52)) (congrArg Value.int w1) ?_
      refine g_tableIn hX 187 (by decide) (by decide) rfl (by decide) dX5_joined_1 ?_
      refine g_lv [1, 2] rfl ?_
      exact J187   h
    · replace h := if_n (by rw [w1]; decide) h
      replace h := if_n (by rw [w1]; decide) h
      replace h := if_n (by rw [w1]; decide) h
      replace h := if_n (by rw [w1]; decide) h
      replace h := if_n (by rw [w1]; decide) h
      replace h := if_n (by rw [w1]; decide) h
      replace h := if_n (by rw [w1]; decide) h
      replace h := if_n (by rw [w1]; decide) h
      replace h := if_n (by rw [w1]; decide) h
      replace h := if_n (by rw [w1]; decide) h
      replace h := if_n (by rw [w1]; decide) h
      replace h := if_n (by rw [w1]; decide) h
      replace h := if_n (by rw [w1]; decide) h
      replace h := if_n (by rw [w1]; decide) h
      replace h := if_n (by rw [w1]; decide) h
      replace h := if_p w1 h
      refine g_top (y := .int (nI 53)) (congrArg Value.int w1) ?_
      refine g_tableIn hX 187 (by decide) (by decide) rfl (by decide) dX5_joined_1 ?_
      refine g_lv [1, 2] rfl ?_
      exact J187   h
    · replace h := if_n (by rw [w1]; decide) h
      replace h := if_n (by rw [w1]; decide) h
      replace h := if_n (by rw [w1]; decide) h
      replace h := if_n (by rw [w1]; decide) h
      replace h := if_n (by rw [w1]; decide) h
      replace h := if_n (by rw [w1]; decide) h
      replace h := if_n (by rw [w1]; decide) h
      replace h := if_n (by rw [w1]; decide) h
      replace h := if_n (by rw [w1]; decide) h
      replace h := if_n (by rw [w1]; decide) h
      replace h := if_n (by rw [w1]; decide) h
      replace h := if_n (by rw [w1]; decide) h
      replace h := if_n (by rw [w1]; decide) h
      replace h := if_n (by rw [w1]; decide) h
      replace h := if_n (by rw [w1]; decide) h
      replace h := if_n (by rw [w1]; decide) h
      replace h := if_p w1 h
      refine g_top (y := .int (nI 54)) (congrArg Value.int w1) ?_
      refine g_tableIn hX 187 (by decide) (by decide) rfl (by decide) dX5_joined_1 ?_
      refine g_lv [1, 2] rfl ?_
      exact J187   h
    · replace h := if_n (by rw [w1]; decide) h
      replace h := if_n (by rw [w1]; decide) h
      replace h := if_n (by rw [w1]; decide) h
      replace h := if_n (by rw [w1]; decide) h
      replace h := if_n (by rw [w1]; decide) h
      replace h := if_n (by rw [w1]; decide) h
      replace h := if_n (by rw [w1]; decide) h
      replace h := if_n (by rw [w1]; decide) h
      replace h := if_n (by rw [w1]; decide) h
      replace h := if_n (by rw [w1]; decide) h
      replace h := if_n (by rw [w1]; decide) h
      replace h := if_n (by rw [w1]; decide) h
      replace h := if_n (by rw [w1]; decide) h
      replace h := if_n (by rw [w1]; decide) h
      replace h := if_n (by rw [w1]; decide) h
      replace h := if_n (by rw [w1]; decide) h
      replace h := if_n (by rw [w1]; decide) h
      replace h := if_p w1 h
      refine g_top (y := .int (nI 55)) (congrArg Value.int w1) ?_
      refine g_tableIn hX 187 (by decide) (by decide) rfl (by decide) dX5_joined_1 ?_
      refine g_lv [1, 2] rfl ?_
      exact J187   h
    · replace h := if_n (by rw [w1]; decide) h
      replace h := if_n (by rw [w1]; decide) h
      replace h := if_n (by rw [w1]; decide) h
      replace h := if_n (by rw [w1]; decide) h
      replace h := if_n (by rw [w1]; decide) h
      replace h := if_n (by rw [w1]; decide) h
      replace h := if_n (by rw [w1]; decide) h
      replace h := if_n (by rw [w1]; decide) h
      replace h := if_n (by rw [w1]; decide) h
      replace h := if_n (by rw [w1]; decide) h
      replace h := if_n (by rw [w1]; decide) h
      replace h := if_n (by rw [w1]; decide) h
      replace h := if_n (by rw [w1]; decide) h
      replace h := if_n (by rw [w1]; decide) h
      replace h := if_n (by rw [w1]; decide) h
      replace h := if_n (by rw [w1]; decide) h
      replace h := if_n (by rw [w1]; decide) h
      replace h := if_n (by rw [w1]; decide) h
      replace h := if_p w1 h
      refine g_top (y := .int (nI 56)) (congrArg Value.int w1) ?_
      refine g_tableIn hX 187 (by decide) (by decide) rfl (by decide) dX5_joined_1 ?_
      refine g_lv [1, 2] rfl ?_
      exact J187   h
    · replace h := if_n (by rw [w1]; decide) h
      replace h := if_n (by rw [w1]; decide) h
      replace h := if_n (by rw [w1]; decide) h
      replace h := if_n (by rw [w1]; decide) h
      replace h := if_n (by rw [w1]; decide) h
      replace h := if_n (by rw [w1]; decide) h
      replace h := if_n (by rw [w1]; decide) h
      replace h := if_n (by rw [w1]; decide) h
      replace h := if_n (by rw [w1]; decide) h
      replace h := if_n (by rw [w1]; decide) h
      replace h := if_n (by rw [w1]; decide) h
      replace h := if_n (by rw [w1]; decide) h
      replace h := if_n (by rw [w1]; decide) h
      replace h := if_n (by rw [w1]; decide) h
      replace h := if_n (by rw [w1]; decide) h
      replace h := if_n (by rw [w1]; decide) h
      replace h := if_n (by rw [w1]; decide) h
      replace h := if_n (by rw [w1]; decide) h
      replace h := if_n (by rw [w1]; decide) h
      replace h := if_p w1 h
      refine g_top (y := .int (nI 57)) (congrArg Value.int w1) ?_
      refine g_tableIn hX 187 (by decide) (by decide) rfl (by decide) dX5_joined_1 ?_
      refine g_lv [1, 2] rfl ?_
      exact J187   h
    · replace h := if_n (by rw [w1]; decide) h
      replace h := if_n (by rw [w1]; decide) h
      replace h := if_n (by rw [w1]; decide) h
      replace h := if_n (by rw [w1]; decide) h
      replace h := if_n (by rw [w1]; decide) h
      replace h := if_n (by rw [w1]; decide) h
      replace h := if_n (by rw [w1]; decide) h
      replace h := if_n (by rw [w1]; decide) h
      replace h := if_n (by rw [w1]; decide) h
      replace h := if_n (by rw [w1]; decide) h
      replace h := if_n (by rw [w1]; decide) h
      replace h := if_n (by rw [w1]; decide) h
      replace h := if_n (by rw [w1]; decide) h
      replace h := if_n (by rw [w1]; decide) h
      replace h := if_n (by rw [w1]; decide) h
      replace h := if_n (by rw [w1]; decide) h
      replace h := if_n (by rw [w1]; decide) h
      replace h := if_n (by rw [w1]; decide) h
      replace h := if_n (by rw [w1]; decide) h
      replace h := if_n (by rw [w1]; decide) h
      replace h := if_p w1 h
      refine g_top (y := .int (nI 58)) (congrArg Value.int w1) ?_
      refine g_tableIn hX 187 (by decide) (by decide) rfl (by decide) dX5_joined_1 ?_
      refine g_lv [1, 2] rfl ?_
      exact J187   h
    · replace h := if_n (by rw [w1]; decide) h
      replace h := if_n (by rw [w1]; decide) h
      replace h := if_n (by rw [w1]; decide) h
      replace h := if_n (by rw [w1]; decide) h
      replace h := if_n (by rw [w1]; decide) h
      replace h := if_n (by rw [w1]; decide) h
      replace h := if_n (by rw [w1]; decide) h
      replace h := if_n (by rw [w1]; decide) h
      replace h := if_n (by rw [w1]; decide) h
      replace h := if_n (by rw [w1]; decide) h
      replace h := if_n (by rw [w1]; decide) h
      replace h := if_n (by rw [w1]; decide) h
      replace h := if_n (by rw [w1]; decide) h
      replace h := if_n (by rw [w1]; decide) h
      replace h := if_n (by rw [w1]; decide) h
      replace h := if_n (by rw [w1]; decide) h
      replace h := if_n (by rw [w1]; decide) h
      replace h := if_n (by rw [w1]; decide) h
      replace h := if_n (by rw [w1]; decide) h
      replace h := if_n (by rw [w1]; decide) h
      replace h := if_n (by rw [w1]; decide) h
      replace h := if_p w1 h
      refine g_top (y := .int (nI 59)) (congrArg Value.int w1) ?_
      refine g_tableIn hX 187 (by decide) (by decide) rfl (by decide) dX5_joined_1 ?_
      refine g_lv [1, 2] rfl ?_
      exact J187   h
    · replace h := if_n (by rw [w1]; decide) h
      replace h := if_n (by rw [w1]; decide) h
      replace h := if_n (by rw [w1]; decide) h
      replace h := if_n (by rw [w1]; decide) h
      replace h := if_n (by rw [w1]; decide) h
      replace h := if_n (by rw [w1]; decide) h
      replace h := if_n (by rw [w1]; decide) h
      replace h := if_n (by rw [w1]; decide) h
      replace h := if_n (by rw [w1]; decide) h
      replace h := if_n (by rw [w1]; decide) h
      replace h := if_n (by rw [w1]; decide) h
      replace h := if_n (by rw [w1]; decide) h
      replace h := if_n (by rw [w1]; decide) h
      replace h := if_n (by rw [w1]; decide) h
      replace h := if_n (by rw [w1]; decide) h
      replace h := if_n (by rw [w1]; decide) h
      replace h := if_n (by rw [w1]; decide) h
      replace h := if_n (by rw [w1]; decide) h
      replace h := if_n (by rw [w1]; decide) h
      replace h := if_n (by rw [w1]; decide) h
      replace h := if_n (by rw [w1]; decide) h
      replace h := if_n (by rw [w1]; decide) h
      replace h := if_p w1 h
      refine g_top (y := .int (nI 60)) (congrArg Value.int w1) ?_
      refine g_tableIn hX 140 (by decide) (by decide) rfl (by decide) dX5_joined_1 ?_
      refine g_iload_n hX 1 rfl rfl dX5_joined_140 ?_
      refine g_iload_n hX 2 rfl rfl dX5_joined_141 ?_
      refine g_icmp_ge hX 149 (by decide) dX5_joined_142 (fun b142 => ?_) (fun b142 => ?_)
      · replace h := if_p b142 h
        refine g_iconst hX (v := nI 0) rfl dX5_joined_149 ?_
        refine g_lv [] rfl ?_
        exact J150 (nI 0)  h
      · replace h := if_n b142 h
        refine g_iconst hX (v := nI 1) rfl dX5_joined_145 ?_
        refine g_goto hX 150 (by decide) dX5_joined_146 ?_
        refine g_lv [] rfl ?_
        exact J150 (nI 1)  h
    · replace h := if_n (by rw [w1]; decide) h
      replace h := if_n (by rw [w1]; decide) h
      replace h := if_n (by rw [w1]; decide) h
      replace h := if_n (by rw [w1]; decide) h
      replace h := if_n (by rw [w1]; decide) h
      replace h := if_n (by rw [w1]; decide) h
      replace h := if_n (by rw [w1]; decide) h
      replace h := if_n (by rw [w1]; decide) h
      replace h := if_n (by rw [w1]; decide) h
      replace h := if_n (by rw [w1]; decide) h
      replace h := if_n (by rw [w1]; decide) h
      replace h := if_n (by rw [w1]; decide) h
      replace h := if_n (by rw [w1]; decide) h
      replace h := if_n (by rw [w1]; decide) h
      replace h := if_n (by rw [w1]; decide) h
      replace h := if_n (by rw [w1]; decide) h
      replace h := if_n (by rw [w1]; decide) h
      replace h := if_n (by rw [w1]; decide) h
      replace h := if_n (by rw [w1]; decide) h
      replace h := if_n (by rw [w1]; decide) h
      replace h := if_n (by rw [w1]; decide) h
      replace h := if_n (by rw [w1]; decide) h
      replace h := if_n (by rw [w1]; decide) h
      replace h := if_p w1 h
      refine g_top (y := .int (nI 61)) (congrArg Value.int w1) ?_
      refine g_tableIn hX 151 (by decide) (by decide) rfl (by decide) dX5_joined_1 ?_
      refine g_iload_n hX 1 rfl rfl dX5_joined_151 ?_
      refine g_iload_n hX 2 rfl rfl dX5_joined_152 ?_
      refine g_icmp_ne hX 160 (by decide) dX5_joined_153 (fun b153 => ?_) (fun b153 => ?_)
      · replace h := if_n b153 h
        refine g_iconst hX (v := nI 0) rfl dX5_joined_160 ?_
        refine g_lv [] rfl ?_
        exact J161 (nI 0)  h
      · replace h := if_p b153 h
        refine g_iconst hX (v := nI 1) rfl dX5_joined_156 ?_
        refine g_goto hX 161 (by decide) dX5_joined_157 ?_
        refine g_lv [] rfl ?_
        exact J161 (nI 1)  h
    · replace h := if_n (by rw [w1]; decide) h
      replace h := if_n (by rw [w1]; decide) h
      replace h := if_n (by rw [w1]; decide) h
      replace h := if_n (by rw [w1]; decide) h
      replace h := if_n (by rw [w1]; decide) h
      replace h := if_n (by rw [w1]; decide) h
      replace h := if_n (by rw [w1]; decide) h
      replace h := if_n (by rw [w1]; decide) h
      replace h := if_n (by rw [w1]; decide) h
      replace h := if_n (by rw [w1]; decide) h
      replace h := if_n (by rw [w1]; decide) h
      replace h := if_n (by rw [w1]; decide) h
      replace h := if_n (by rw [w1]; decide) h
      replace h := if_n (by rw [w1]; decide) h
      replace h := if_n (by rw [w1]; decide) h
      replace h := if_n (by rw [w1]; decide) h
      replace h := if_n (by rw [w1]; decide) h
      replace h := if_n (by rw [w1]; decide) h
      replace h := if_n (by rw [w1]; decide) h
      replace h := if_n (by rw [w1]; decide) h
      replace h := if_n (by rw [w1]; decide) h
      replace h := if_n (by rw [w1]; decide) h
      replace h := if_n (by rw [w1]; decide) h
      replace h := if_n (by rw [w1]; decide) h
      replace h := if_p w1 h
      refine g_top (y := .int (nI 62)) (congrArg Value.int w1) ?_
      refine g_tableIn hX 162 (by decide) (by decide) rfl (by decide) dX5_joined_1 ?_
      refine g_iload_n hX 1 rfl rfl dX5_joined_162 ?_
      refine g_iload_n hX 2 rfl rfl dX5_joined_163 ?_
      refine g_icmp_le hX 171 (by decide) dX5_joined_164 (fun b164 => ?_) (fun b164 => ?_)
      · replace h := if_p b164 h
        refine g_iconst hX (v := nI 0) rfl dX5_joined_171 ?_
        refine g_lv [] rfl ?_
        exact J172 (nI 0)  h
      · replace h := if_n b164 h
        refine g_iconst hX (v := nI 1) rfl dX5_joined_167 ?_
        refine g_goto hX 172 (by decide) dX5_joined_168 ?_
        refine g_lv [] rfl ?_
        exact J172 (nI 1)  h
theorem kX5_value : mKV RX5 yX5_value cX5_value 9 (some .int) 3 := ⟨tIns_X5_value, tSel_X5_value, tIni_X5, tCod_X5_value, by decide +kernel⟩
set_option maxHeartbeats 4000000 in
set_option maxRecDepth 100000 in
theorem ct_X5_value (l : Launch) (D : va_G) (cy : Nat → ClassId) (Z : (Nat → Prop) → State → Heap → Prop) (hzo : zOK Z) {aStr aByt : Nat → Nat} (hzs : zSt Z aStr aByt) {q : Nat → Nat} {C : Ev → Sg → va_W} (hC : cLens cy q C) (ε : Ev) (c : Nat) (hc : isX5 ε c) (z1 : Int32) (z2 : Int32) (z3 : Int32) (σ σ2 : Sg) (res : Int32) (h : fn_X5_value ε c z1 z2 z3 σ = some (res, σ2)) : GD l D cy Z yX5_value (zW yX5_value cX5_value 9 (some .int)) { frames := 1, cells := 0, slots := 0, locals := 22 } [.ref (sAd ε (c)), .int (z1), .int (z2), .int (z3)] (C ε σ) (some (.int res)) (C ε σ2) 0 0 := by
  refine g_entry (cc := cX5_value) (maxL := 9) (by decide) rfl (Nat.le_of_ble_eq_true rfl) ?_
  intro κ hN hX hR
  have hX : GX κ cy Z cX5_value (Cond.code yX5_value cX5_value 9 (some .int) :: zT) RX5 { frames := 1, cells := 0, slots := 0, locals := 22 } := hX
  have J200 : ∀ (s0 : Int32) (σ : Sg) , fn_X5_value_L200 ε c z1 z2 z3 s0 σ = some (res, σ2) → GW κ 0 0 (C ε σ) 200 [] [.int (s0)] := by
    intro s0 σ h
    exact g_reti hR (oi_1 h) (congrArg (C ε) (oi_2 h)) dX5_value_200
  have J185 : ∀ (v4 : Int32) (σ : Sg) , fn_X5_value_L185 ε c z1 z2 z3 v4 σ = some (res, σ2) → GW κ 0 0 (C ε σ) 185 [(0, .ref (sAd ε (c))), (4, .int (v4))] [] := by
    intro v4 σ h
    refine g_iload hX 1 rfl dX5_value_185 ?_
    refine g_if_lt hX 199 (by decide) dX5_value_187 (fun b187 => ?_) (fun b187 => ?_)
    · replace h := if_p b187 h
      refine g_iconst hX (v := nI 0) rfl dX5_value_199 ?_
      refine g_lv [] rfl ?_
      exact J200 (nI 0)  σ h
    · replace h := if_n b187 h
      refine g_aload_n hX 0 rfl rfl dX5_value_190 ?_
      refine c_get5 hX hC hc 4 (by decide) rfl tFld_X5_31 rfl dX5_value_191 ?_
      refine g_iconst hX (v := nI 0) rfl dX5_value_194 ?_
      obtain ⟨g1, h⟩ := gd_some h
      refine c_ald hX hC (ka_X5_2 hc) g1 dX5_value_195 ?_
      refine g_goto hX 200 (by decide) dX5_value_196 ?_
      refine g_lv [] rfl ?_
      exact J200 (σ.1 (c + 2) (nI 0).toNatClampNeg)  σ h
  have J179 : ∀ (slf : Int32 → Int32 → Sg → Option (Int32 × Sg)) (hslf : ∀ (v4 : Int32) (v7 : Int32) (σ : Sg) , slf v4 v7 σ = some (res, σ2) → GW κ 0 0 (C ε σ) 17 [(0, .ref (sAd ε (c))), (1, .int (z1)), (2, .int (z2)), (3, .int (z3)), (4, .int (v4)), (5, .ref (sAd ε (c + 1))), (6, .int (nI (sLn ε (c + 1)))), (7, .int (v7))] []) (k185 : Int32 → Sg → Option (Int32 × Sg)) (hk185 : ∀ (v4 : Int32) (σ : Sg) , k185 v4 σ = some (res, σ2) → GW κ 0 0 (C ε σ) 185 [(0, .ref (sAd ε (c))), (4, .int (v4))] []), ∀ (v4 : Int32) (v7 : Int32) (σ : Sg) , fn_X5_value_L179 ε c z1 z2 z3 slf k185 v4 v7 σ = some (res, σ2) → GW κ 0 0 (C ε σ) 179 [(0, .ref (sAd ε (c))), (1, .int (z1)), (2, .int (z2)), (3, .int (z3)), (4, .int (v4)), (5, .ref (sAd ε (c + 1))), (6, .int (nI (sLn ε (c + 1)))), (7, .int (v7))] [] := by
    intro slf hslf k185 hk185 v4 v7 σ h
    refine g_iinc (v := (v7 + nI 1)) (lv2 := [(7, .int ((v7 + nI 1))), (0, .ref (sAd ε (c))), (1, .int (z1)), (2, .int (z2)), (3, .int (z3)), (4, .int (v4)), (5, .ref (sAd ε (c + 1))), (6, .int (nI (sLn ε (c + 1))))]) hX 7 7 9 hN rfl rfl (by decide) rfl dX5_value_179 ?_
    refine g_goto hX 17 (by decide) dX5_value_182 ?_
    refine g_lv [1, 2, 3, 4, 5, 6, 7, 0] rfl ?_
    exact hslf v4 ((v7 + nI 1))  σ h
  have J136 : ∀ (slf : Int32 → Int32 → Sg → Option (Int32 × Sg)) (hslf : ∀ (v4 : Int32) (v7 : Int32) (σ : Sg) , slf v4 v7 σ = some (res, σ2) → GW κ 0 0 (C ε σ) 17 [(0, .ref (sAd ε (c))), (1, .int (z1)), (2, .int (z2)), (3, .int (z3)), (4, .int (v4)), (5, .ref (sAd ε (c + 1))), (6, .int (nI (sLn ε (c + 1)))), (7, .int (v7))] []) (k185 : Int32 → Sg → Option (Int32 × Sg)) (hk185 : ∀ (v4 : Int32) (σ : Sg) , k185 v4 σ = some (res, σ2) → GW κ 0 0 (C ε σ) 185 [(0, .ref (sAd ε (c))), (4, .int (v4))] []), ∀ (v4 : Int32) (v7 : Int32) (v8 : Int32) (σ : Sg) , fn_X5_value_L136 ε c z1 z2 z3 slf k185 v4 v7 v8 σ = some (res, σ2) → GW κ 0 0 (C ε σ) 136 [(0, .ref (sAd ε (c))), (1, .int (z1)), (2, .int (z2)), (3, .int (z3)), (4, .int (v4)), (5, .ref (sAd ε (c + 1))), (6, .int (nI (sLn ε (c + 1)))), (7, .int (v7)), (8, .int (v8))] [] := by
    intro slf hslf k185 hk185 v4 v7 v8 σ h
    refine g_iload hX 8 rfl dX5_value_136 ?_
    refine g_if_ge hX 179 (by decide) dX5_value_138 (fun b138 => ?_) (fun b138 => ?_)
    · replace h := if_p b138 h
      refine g_lv [0, 1, 2, 3, 4, 5, 6, 7] rfl ?_
      exact (J179 slf hslf k185 hk185) v4 v7  σ h
    · replace h := if_n b138 h
      refine g_iload hX 4 rfl dX5_value_141 ?_
      refine g_iconst hX (v := nI 1) rfl dX5_value_143 ?_
      refine g_icmp_lt hX 179 (by decide) dX5_value_144 (fun b144 => ?_) (fun b144 => ?_)
      · replace h := if_p b144 h
        refine g_lv [0, 1, 2, 3, 4, 5, 6, 7] rfl ?_
        exact (J179 slf hslf k185 hk185) v4 v7  σ h
      · replace h := if_n b144 h
        refine g_iinc (v := (v4 + (-1))) (lv2 := [(4, .int ((v4 + (-1)))), (0, .ref (sAd ε (c))), (1, .int (z1)), (2, .int (z2)), (3, .int (z3)), (5, .ref (sAd ε (c + 1))), (6, .int (nI (sLn ε (c + 1)))), (7, .int (v7)), (8, .int (v8))]) hX 4 4 9 hN rfl (by rw [show Int32.ofInt (-1) = (-1 : Int32) from by decide]) (by decide) rfl dX5_value_147 ?_
        refine g_aload_n hX 1 rfl rfl dX5_value_150 ?_
        refine c_get5 hX hC hc 4 (by decide) rfl tFld_X5_31 rfl dX5_value_151 ?_
        refine g_iload hX 0 rfl dX5_value_154 ?_
        refine g_iload hX 8 rfl dX5_value_156 ?_
        refine g_ineg hX dX5_value_158 ?_
        refine g_aload_n hX 1 rfl rfl dX5_value_159 ?_
        refine c_get5 hX hC hc 4 (by decide) rfl tFld_X5_31 rfl dX5_value_160 ?_
        refine g_iload hX 0 rfl dX5_value_163 ?_
        obtain ⟨g2, h⟩ := gd_some h
        refine c_ald hX hC (ka_X5_2 hc) g2 dX5_value_165 ?_
        refine g_aload_n hX 1 rfl rfl dX5_value_166 ?_
        refine c_get5 hX hC hc 4 (by decide) rfl tFld_X5_31 rfl dX5_value_167 ?_
        refine g_iload hX 0 rfl dX5_value_170 ?_
        refine g_iconst hX (v := nI 1) rfl dX5_value_172 ?_
        refine g_iadd hX dX5_value_173 ?_
        obtain ⟨g3, h⟩ := gd_some h
        refine c_ald hX hC (ka_X5_2 hc) g3 dX5_value_174 ?_
        obtain ⟨y175, e175, h⟩ := o1_some h
        refine s_call hX hzo [.int ((-(v8))), .int (σ.1 (c + 2) ((v4 + (-1))).toNatClampNeg), .int (σ.1 (c + 2) (((v4 + (-1)) + nI 1)).toNatClampNeg)] [.int ((v4 + (-1))), .ref (sAd ε (c + 2))] (ct_X5_joined _ _ _ _ hzo hzs _ ((-(v8))) (σ.1 (c + 2) ((v4 + (-1))).toNatClampNeg) (σ.1 (c + 2) (((v4 + (-1)) + nI 1)).toNatClampNeg) _ e175) kX5_joined tMet_X5_34 rfl rfl (Nat.le_of_ble_eq_true rfl) (Nat.le_of_ble_eq_true rfl) ⟨Nat.le_of_ble_eq_true rfl, Nat.le_of_ble_eq_true rfl⟩ rfl rfl (Nat.le_of_ble_eq_true rfl) dX5_value_175 ?_
        refine c_ast hX hC (ka_X5_2 hc) g2 dX5_value_178 ?_
        refine g_lv [1, 2, 3, 4, 0, 5, 6, 7] rfl ?_
        exact (J179 slf hslf k185 hk185) ((v4 + (-1))) v7  (pI σ (c + 2) ((v4 + (-1))).toNatClampNeg y175) h
  have J132 : ∀ (slf : Int32 → Int32 → Sg → Option (Int32 × Sg)) (hslf : ∀ (v4 : Int32) (v7 : Int32) (σ : Sg) , slf v4 v7 σ = some (res, σ2) → GW κ 0 0 (C ε σ) 17 [(0, .ref (sAd ε (c))), (1, .int (z1)), (2, .int (z2)), (3, .int (z3)), (4, .int (v4)), (5, .ref (sAd ε (c + 1))), (6, .int (nI (sLn ε (c + 1)))), (7, .int (v7))] []) (k185 : Int32 → Sg → Option (Int32 × Sg)) (hk185 : ∀ (v4 : Int32) (σ : Sg) , k185 v4 σ = some (res, σ2) → GW κ 0 0 (C ε σ) 185 [(0, .ref (sAd ε (c))), (4, .int (v4))] []), ∀ (v4 : Int32) (v7 : Int32) (s0 : Int32) (s1 : Int32) (σ : Sg) , fn_X5_value_L132 ε c z1 z2 z3 slf k185 v4 v7 s0 s1 σ = some (res, σ2) → GW κ 0 0 (C ε σ) 132 [(0, .ref (sAd ε (c))), (1, .int (z1)), (2, .int (z2)), (3, .int (z3)), (4, .int (v4)), (5, .ref (sAd ε (c + 1))), (6, .int (nI (sLn ε (c + 1)))), (7, .int (v7))] [.int (s0), .int (s1), .ref (sAd ε (c + 2))] := by
    intro slf hslf k185 hk185 v4 v7 s0 s1 σ h
    obtain ⟨g4, h⟩ := gd_some h
    refine c_ast hX hC (ka_X5_2 hc) g4 dX5_value_132 ?_
    refine g_goto hX 179 (by decide) dX5_value_133 ?_
    exact (J179 slf hslf k185 hk185) v4 v7  (pI σ (c + 2) s1.toNatClampNeg s0) h
  have J99 : ∀ (slf : Int32 → Int32 → Sg → Option (Int32 × Sg)) (hslf : ∀ (v4 : Int32) (v7 : Int32) (σ : Sg) , slf v4 v7 σ = some (res, σ2) → GW κ 0 0 (C ε σ) 17 [(0, .ref (sAd ε (c))), (1, .int (z1)), (2, .int (z2)), (3, .int (z3)), (4, .int (v4)), (5, .ref (sAd ε (c + 1))), (6, .int (nI (sLn ε (c + 1)))), (7, .int (v7))] []) (k185 : Int32 → Sg → Option (Int32 × Sg)) (hk185 : ∀ (v4 : Int32) (σ : Sg) , k185 v4 σ = some (res, σ2) → GW κ 0 0 (C ε σ) 185 [(0, .ref (sAd ε (c))), (4, .int (v4))] []), ∀ (v4 : Int32) (v7 : Int32) (v8 : Int32) (σ : Sg) , fn_X5_value_L99 ε c z1 z2 z3 slf k185 v4 v7 v8 σ = some (res, σ2) → GW κ 0 0 (C ε σ) 99 [(0, .ref (sAd ε (c))), (1, .int (z1)), (2, .int (z2)), (3, .int (z3)), (4, .int (v4)), (5, .ref (sAd ε (c + 1))), (6, .int (nI (sLn ε (c + 1)))), (7, .int (v7)), (8, .int (v8))] [] := by
    intro slf hslf k185 hk185 v4 v7 v8 σ h
    refine g_iload hX 8 rfl dX5_value_99 ?_
    refine g_bipush hX (v := -33) (by decide) dX5_value_101 ?_
    refine g_icmp_ne hX 136 (by decide) dX5_value_103 (fun b103 => ?_) (fun b103 => ?_)
    · replace h := if_n b103 h
      exact (J136 slf hslf k185 hk185) v4 v7 v8  σ h
    · replace h := if_p b103 h
      refine g_iload hX 4 rfl dX5_value_106 ?_
      refine g_if_lt hX 136 (by decide) dX5_value_108 (fun b108 => ?_) (fun b108 => ?_)
      · replace h := if_p b108 h
        exact (J136 slf hslf k185 hk185) v4 v7 v8  σ h
      · replace h := if_n b108 h
        refine g_aload_n hX 0 rfl rfl dX5_value_111 ?_
        refine c_get5 hX hC hc 4 (by decide) rfl tFld_X5_31 rfl dX5_value_112 ?_
        refine g_iload hX 4 rfl dX5_value_115 ?_
        refine g_aload_n hX 0 rfl rfl dX5_value_117 ?_
        refine c_get5 hX hC hc 4 (by decide) rfl tFld_X5_31 rfl dX5_value_118 ?_
        refine g_iload hX 4 rfl dX5_value_121 ?_
        obtain ⟨g5, h⟩ := gd_some h
        refine c_ald hX hC (ka_X5_2 hc) g5 dX5_value_123 ?_
        refine g_if_ne hX 131 (by decide) dX5_value_124 (fun b124 => ?_) (fun b124 => ?_)
        · replace h := if_n b124 h
          refine g_iconst hX (v := nI 0) rfl dX5_value_131 ?_
          refine g_lv [0, 1, 2, 3, 4, 5, 6, 7] rfl ?_
          exact (J132 slf hslf k185 hk185) v4 v7 (nI 0) v4  σ h
        · replace h := if_p b124 h
          refine g_iconst hX (v := nI 1) rfl dX5_value_127 ?_
          refine g_goto hX 132 (by decide) dX5_value_128 ?_
          refine g_lv [0, 1, 2, 3, 4, 5, 6, 7] rfl ?_
          exact (J132 slf hslf k185 hk185) v4 v7 (nI 1) v4  σ h
  have J95 : ∀ (slf : Int32 → Int32 → Sg → Option (Int32 × Sg)) (hslf : ∀ (v4 : Int32) (v7 : Int32) (σ : Sg) , slf v4 v7 σ = some (res, σ2) → GW κ 0 0 (C ε σ) 17 [(0, .ref (sAd ε (c))), (1, .int (z1)), (2, .int (z2)), (3, .int (z3)), (4, .int (v4)), (5, .ref (sAd ε (c + 1))), (6, .int (nI (sLn ε (c + 1)))), (7, .int (v7))] []) (k185 : Int32 → Sg → Option (Int32 × Sg)) (hk185 : ∀ (v4 : Int32) (σ : Sg) , k185 v4 σ = some (res, σ2) → GW κ 0 0 (C ε σ) 185 [(0, .ref (sAd ε (c))), (4, .int (v4))] []), ∀ (v4 : Int32) (v7 : Int32) (s0 : Int32) (s1 : Int32) (σ : Sg) , fn_X5_value_L95 ε c z1 z2 z3 slf k185 v4 v7 s0 s1 σ = some (res, σ2) → GW κ 0 0 (C ε σ) 95 [(0, .ref (sAd ε (c))), (1, .int (z1)), (2, .int (z2)), (3, .int (z3)), (4, .int (v4)), (5, .ref (sAd ε (c + 1))), (6, .int (nI (sLn ε (c + 1)))), (7, .int (v7))] [.int (s0), .int (s1), .ref (sAd ε (c + 2))] := by
    intro slf hslf k185 hk185 v4 v7 s0 s1 σ h
    obtain ⟨g6, h⟩ := gd_some h
    refine c_ast hX hC (ka_X5_2 hc) g6 dX5_value_95 ?_
    refine g_goto hX 179 (by decide) dX5_value_96 ?_
    exact (J179 slf hslf k185 hk185) v4 v7  (pI σ (c + 2) s1.toNatClampNeg s0) h
  have J17 : ∀ (k185 : Int32 → Sg → Option (Int32 × Sg)) (hk185 : ∀ (v4 : Int32) (σ : Sg) , k185 v4 σ = some (res, σ2) → GW κ 0 0 (C ε σ) 185 [(0, .ref (sAd ε (c))), (4, .int (v4))] []) (fuel : Nat), ∀ (v4 : Int32) (v7 : Int32) (σ : Sg) , fn_X5_value_L17 ε c z1 z2 z3 k185 fuel v4 v7 σ = some (res, σ2) → GW κ 0 0 (C ε σ) 17 [(0, .ref (sAd ε (c))), (1, .int (z1)), (2, .int (z2)), (3, .int (z3)), (4, .int (v4)), (5, .ref (sAd ε (c + 1))), (6, .int (nI (sLn ε (c + 1)))), (7, .int (v7))] [] := by
    intro k185 hk185 fuel
    induction fuel with
    | zero => intro v4 v7 σ h; cases (show none = some (res, σ2) from h)
    | succ fuel ih =>
      intro v4 v7 σ h
      replace h : (if nI (sLn ε (c + 1)) ≤ v7 then (k185 v4 σ) else (if ¬ (v7 < 0 ∨ sLn ε (c + 1) ≤ v7.toNatClampNeg) then (if σ.1 (c + 1) v7.toNatClampNeg < 0 then ((fn_X5_value_L99 ε c z1 z2 z3 (fn_X5_value_L17 ε c z1 z2 z3 k185 fuel) k185) v4 v7 (σ.1 (c + 1) v7.toNatClampNeg) σ) else (if nI (sLn ε (c + 2)) ≤ (v4 + nI 1) then ((fn_X5_value_L99 ε c z1 z2 z3 (fn_X5_value_L17 ε c z1 z2 z3 k185 fuel) k185) v4 v7 (σ.1 (c + 1) v7.toNatClampNeg) σ) else (if nI 10000 ≤ σ.1 (c + 1) v7.toNatClampNeg then (if σ.1 (c + 1) v7.toNatClampNeg = nI 10000 then ((fn_X5_value_L95 ε c z1 z2 z3 (fn_X5_value_L17 ε c z1 z2 z3 k185 fuel) k185) ((v4 + nI 1)) v7 z1 ((v4 + nI 1)) σ) else (if σ.1 (c + 1) v7.toNatClampNeg = nI 10001 then ((fn_X5_value_L95 ε c z1 z2 z3 (fn_X5_value_L17 ε c z1 z2 z3 k185 fuel) k185) ((v4 + nI 1)) v7 z2 ((v4 + nI 1)) σ) else ((fn_X5_value_L95 ε c z1 z2 z3 (fn_X5_value_L17 ε c z1 z2 z3 k185 fuel) k185) ((v4 + nI 1)) v7 z3 ((v4 + nI 1)) σ))) else ((fn_X5_value_L95 ε c z1 z2 z3 (fn_X5_value_L17 ε c z1 z2 z3 k185 fuel) k185) ((v4 + nI 1)) v7 (σ.1 (c + 1) v7.toNatClampNeg) ((v4 + nI 1)) σ)))) else none)) = some (res, σ2) := h
      refine g_iload hX 7 rfl dX5_value_17 ?_
      refine g_iload hX 6 rfl dX5_value_19 ?_
      refine g_icmp_ge hX 185 (by decide) dX5_value_21 (fun b21 => ?_) (fun b21 => ?_)
      · replace h := if_p b21 h
        refine g_lv [0, 4] rfl ?_
        exact hk185 v4  σ h
      · replace h := if_n b21 h
        refine g_aload hX 5 rfl dX5_value_24 ?_
        refine g_iload hX 7 rfl dX5_value_26 ?_
        obtain ⟨g7, h⟩ := gd_some h
        refine c_ald hX hC (ka_X5_1 hc) g7 dX5_value_28 ?_
        refine g_istore (lv2 := [(8, .int (σ.1 (c + 1) v7.toNatClampNeg)), (0, .ref (sAd ε (c))), (1, .int (z1)), (2, .int (z2)), (3, .int (z3)), (4, .int (v4)), (5, .ref (sAd ε (c + 1))), (6, .int (nI (sLn ε (c + 1)))), (7, .int (v7))]) hX 8 9 hN (by decide) rfl dX5_value_29 ?_
        refine g_iload hX 0 rfl dX5_value_31 ?_
        refine g_if_lt hX 99 (by decide) dX5_value_33 (fun b33 => ?_) (fun b33 => ?_)
        · replace h := if_p b33 h
          refine g_lv [1, 2, 3, 4, 5, 6, 7, 8, 0] rfl ?_
          exact (J99 (fn_X5_value_L17 ε c z1 z2 z3 k185 fuel) ih k185 hk185) v4 v7 (σ.1 (c + 1) v7.toNatClampNeg)  σ h
        · replace h := if_n b33 h
          refine g_iload hX 5 rfl dX5_value_36 ?_
          refine g_iconst hX (v := nI 1) rfl dX5_value_38 ?_
          refine g_iadd hX dX5_value_39 ?_
          refine g_aload_n hX 1 rfl rfl dX5_value_40 ?_
          refine c_get5 hX hC hc 4 (by decide) rfl tFld_X5_31 rfl dX5_value_41 ?_
          refine c_len hX hC (ka_X5_2 hc) (v := nI (sLn ε (c + 2))) rfl dX5_value_44 ?_
          refine g_icmp_ge hX 99 (by decide) dX5_value_45 (fun b45 => ?_) (fun b45 => ?_)
          · replace h := if_p b45 h
            refine g_lv [1, 2, 3, 4, 5, 6, 7, 8, 0] rfl ?_
            exact (J99 (fn_X5_value_L17 ε c z1 z2 z3 k185 fuel) ih k185 hk185) v4 v7 (σ.1 (c + 1) v7.toNatClampNeg)  σ h
          · replace h := if_n b45 h
            refine g_iinc (v := (v4 + nI 1)) (lv2 := [(4, .int ((v4 + nI 1))), (8, .int (σ.1 (c + 1) v7.toNatClampNeg)), (0, .ref (sAd ε (c))), (1, .int (z1)), (2, .int (z2)), (3, .int (z3)), (5, .ref (sAd ε (c + 1))), (6, .int (nI (sLn ε (c + 1)))), (7, .int (v7))]) hX 5 4 9 hN rfl rfl (by decide) rfl dX5_value_48 ?_
            refine g_aload_n hX 2 rfl rfl dX5_value_51 ?_
            refine c_get5 hX hC hc 4 (by decide) rfl tFld_X5_31 rfl dX5_value_52 ?_
            refine g_iload hX 0 rfl dX5_value_55 ?_
            refine g_iload hX 1 rfl dX5_value_57 ?_
            refine g_sipush hX (v := nI 10000) (by decide) dX5_value_59 ?_
            refine g_icmp_ge hX 70 (by decide) dX5_value_62 (fun b62 => ?_) (fun b62 => ?_)
            · replace h := if_p b62 h
              refine g_iload hX 1 rfl dX5_value_70 ?_
              refine g_sipush hX (v := nI 10000) (by decide) dX5_value_72 ?_
              refine g_icmp_ne hX 82 (by decide) dX5_value_75 (fun b75 => ?_) (fun b75 => ?_)
              · replace h := if_n b75 h
                refine g_iload hX 1 rfl dX5_value_82 ?_
                refine g_sipush hX (v := nI 10001) (by decide) dX5_value_84 ?_
                refine g_icmp_ne hX 94 (by decide) dX5_value_87 (fun b87 => ?_) (fun b87 => ?_)
                · replace h := if_n b87 h
                  refine g_iload_n hX 5 rfl rfl dX5_value_94 ?_
                  refine g_lv [2, 3, 4, 5, 0, 6, 7, 8] rfl ?_
                  exact (J95 (fn_X5_value_L17 ε c z1 z2 z3 k185 fuel) ih k185 hk185) ((v4 + nI 1)) v7 z3 ((v4 + nI 1))  σ h
                · replace h := if_p b87 h
                  refine g_iload_n hX 4 rfl rfl dX5_value_90 ?_
                  refine g_goto hX 95 (by decide) dX5_value_91 ?_
                  refine g_lv [2, 3, 4, 5, 0, 6, 7, 8] rfl ?_
                  exact (J95 (fn_X5_value_L17 ε c z1 z2 z3 k185 fuel) ih k185 hk185) ((v4 + nI 1)) v7 z2 ((v4 + nI 1))  σ h
              · replace h := if_p b75 h
                refine g_iload_n hX 3 rfl rfl dX5_value_78 ?_
                refine g_goto hX 95 (by decide) dX5_value_79 ?_
                refine g_lv [2, 3, 4, 5, 0, 6, 7, 8] rfl ?_
                exact (J95 (fn_X5_value_L17 ε c z1 z2 z3 k185 fuel) ih k185 hk185) ((v4 + nI 1)) v7 z1 ((v4 + nI 1))  σ h
            · replace h := if_n b62 h
              refine g_iload hX 1 rfl dX5_value_65 ?_
              refine g_goto hX 95 (by decide) dX5_value_67 ?_
              refine g_lv [2, 3, 4, 5, 0, 6, 7, 8] rfl ?_
              exact (J95 (fn_X5_value_L17 ε c z1 z2 z3 k185 fuel) ih k185 hk185) ((v4 + nI 1)) v7 (σ.1 (c + 1) v7.toNatClampNeg) ((v4 + nI 1))  σ h
  show GW κ 0 0 (C ε σ) 0 [(0, .ref (sAd ε (c))), (1, .int (z1)), (2, .int (z2)), (3, .int (z3))] []
  refine g_iconst hX (v := -1) (by decide) dX5_value_0 ?_
  refine g_istore (lv2 := [(4, .int ((-1))), (0, .ref (sAd ε (c))), (1, .int (z1)), (2, .int (z2)), (3, .int (z3))]) hX 4 9 hN (by decide) rfl dX5_value_1 ?_
  refine g_aload_n hX 1 rfl rfl dX5_value_3 ?_
  refine c_get5 hX hC hc 3 (by decide) rfl tFld_X5_21 rfl dX5_value_4 ?_
  refine g_astore (lv2 := [(5, .ref (sAd ε (c + 1))), (4, .int ((-1))), (0, .ref (sAd ε (c))), (1, .int (z1)), (2, .int (z2)), (3, .int (z3))]) hX 5 9 hN (by decide) rfl dX5_value_7 ?_
  refine g_aload hX 0 rfl dX5_value_9 ?_
  refine c_len hX hC (ka_X5_1 hc) (v := nI (sLn ε (c + 1))) rfl dX5_value_11 ?_
  refine g_istore (lv2 := [(6, .int (nI (sLn ε (c + 1)))), (5, .ref (sAd ε (c + 1))), (4, .int ((-1))), (0, .ref (sAd ε (c))), (1, .int (z1)), (2, .int (z2)), (3, .int (z3))]) hX 6 9 hN (by decide) rfl dX5_value_12 ?_
  refine g_iconst hX (v := nI 0) rfl dX5_value_14 ?_
  refine g_istore (lv2 := [(7, .int (nI 0)), (6, .int (nI (sLn ε (c + 1)))), (5, .ref (sAd ε (c + 1))), (4, .int ((-1))), (0, .ref (sAd ε (c))), (1, .int (z1)), (2, .int (z2)), (3, .int (z3))]) hX 7 9 hN (by decide) rfl dX5_value_15 ?_
  refine g_lv [4, 5, 6, 7, 3, 2, 1, 0] rfl ?_
  exact (J17 (fn_X5_value_L185 ε c z1 z2 z3) J185 4000) ((-1)) (nI 0)  σ h
