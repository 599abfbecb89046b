def fn_J6_bitCount_0f7a4 (z0 : Int32) : Option Int32 := some (((((((((z0 - ((Int32.toUInt32 (z0) >>> (Int32.toUInt32 (nI 1) &&& Int32.toUInt32 31)).toInt32 &&& (1431655765))) &&& (858993459)) + ((Int32.toUInt32 ((z0 - ((Int32.toUInt32 (z0) >>> (Int32.toUInt32 (nI 1) &&& Int32.toUInt32 31)).toInt32 &&& (1431655765)))) >>> (Int32.toUInt32 (nI 2) &&& Int32.toUInt32 31)).toInt32 &&& (858993459))) + (Int32.toUInt32 ((((z0 - ((Int32.toUInt32 (z0) >>> (Int32.toUInt32 (nI 1) &&& Int32.toUInt32 31)).toInt32 &&& (1431655765))) &&& (858993459)) + ((Int32.toUInt32 ((z0 - ((Int32.toUInt32 (z0) >>> (Int32.toUInt32 (nI 1) &&& Int32.toUInt32 31)).toInt32 &&& (1431655765)))) >>> (Int32.toUInt32 (nI 2) &&& Int32.toUInt32 31)).toInt32 &&& (858993459)))) >>> (Int32.toUInt32 (nI 4) &&& Int32.toUInt32 31)).toInt32) &&& (252645135)) + (Int32.toUInt32 ((((((z0 - ((Int32.toUInt32 (z0) >>> (Int32.toUInt32 (nI 1) &&& Int32.toUInt32 31)).toInt32 &&& (1431655765))) &&& (858993459)) + ((Int32.toUInt32 ((z0 - ((Int32.toUInt32 (z0) >>> (Int32.toUInt32 (nI 1) &&& Int32.toUInt32 31)).toInt32 &&& (1431655765)))) >>> (Int32.toUInt32 (nI 2) &&& Int32.toUInt32 31)).toInt32 &&& (858993459))) + (Int32.toUInt32 ((((z0 - ((Int32.toUInt32 (z0) >>> (Int32.toUInt32 (nI 1) &&& Int32.toUInt32 31)).toInt32 &&& (1431655765))) &&& (858993459)) + ((Int32.toUInt32 ((z0 - ((Int32.toUInt32 (z0) >>> (Int32.toUInt32 (nI 1) &&& Int32.toUInt32 31)).toInt32 &&& (1431655765)))) >>> (Int32.toUInt32 (nI 2) &&& Int32.toUInt32 31)).toInt32 &&& (858993459)))) >>> (Int32.toUInt32 (nI 4) &&& Int32.toUInt32 31)).toInt32) &&& (252645135))) >>> (Int32.toUInt32 (nI 8) &&& Int32.toUInt32 31)).toInt32) + (Int32.toUInt32 (((((((z0 - ((Int32.toUInt32 (z0) >>> (Int32.toUInt32 (nI 1) &&& Int32.toUInt32 31)).toInt32 &&& (1431655765))) &&& (858993459)) + ((Int32.toUInt32 ((z0 - ((Int32.toUInt32 (z0) >>> (Int32.toUInt32 (nI 1) &&& Int32.toUInt32 31)).toInt32 &&& (1431655765)))) >>> (Int32.toUInt32 (nI 2) &&& Int32.toUInt32 31)).toInt32 &&& (858993459))) + (Int32.toUInt32 ((((z0 - ((Int32.toUInt32 (z0) >>> (Int32.toUInt32 (nI 1) &&& Int32.toUInt32 31)).toInt32 &&& (1431655765))) &&& (858993459)) + ((Int32.toUInt32 ((z0 - ((Int32.toUInt32 (z0) >>> (Int32.toUInt32 (nI 1) &&& Int32.toUInt32 31)).toInt32 &&& (1431655765)))) >>> (Int32.toUInt32 (nI 2) &&& Int32.toUInt32 31)).toInt32 &&& (858993459)))) >>> (Int32.toUInt32 (nI 4) &&& Int32.toUInt32 31)).toInt32) &&& (252645135)) + (Int32.toUInt32 ((((((z0 - ((Int32.toUInt32 (z0) >>> (Int32.toUInt32 (nI 1) &&& Int32.toUInt32 31)).toInt32 &&& (1431655765))) &&& (858993459)) + ((Int32.toUInt32 ((z0 - ((Int32.toUInt32 (z0) >>> (Int32.toUInt32 (nI 1) &&& Int32.toUInt32 31)).toInt32 &&& (1431655765)))) >>> (Int32.toUInt32 (nI 2) &&& Int32.toUInt32 31)).toInt32 &&& (858993459))) + (Int32.toUInt32 ((((z0 - ((Int32.toUInt32 (z0) >>> (Int32.toUInt32 (nI 1) &&& Int32.toUInt32 31)).toInt32 &&& (1431655765))) &&& (858993459)) + ((Int32.toUInt32 ((z0 - ((Int32.toUInt32 (z0) >>> (Int32.toUInt32 (nI 1) &&& Int32.toUInt32 31)).toInt32 &&& (1431655765)))) >>> (Int32.toUInt32 (nI 2) &&& Int32.toUInt32 31)).toInt32 &&& (858993459)))) >>> (Int32.toUInt32 (nI 4) &&& Int32.toUInt32 31)).toInt32) &&& (252645135))) >>> (Int32.toUInt32 (nI 8) &&& Int32.toUInt32 31)).toInt32)) >>> (Int32.toUInt32 (nI 16) &&& Int32.toUInt32 31)).toInt32) &&& nI 63))
def fn_X0_beLike (ε : Ev) (c : Nat) (c1 : Nat) (σ : Sg) : Option (Unit × Sg) := (if (pI (pI (pI (pI (pI (pI σ c 0 (σ.1 c1 0)) c 1 ((pI σ c 0 (σ.1 c1 0)).1 c1 1)) c 2 ((pI (pI σ c 0 (σ.1 c1 0)) c 1 ((pI σ c 0 (σ.1 c1 0)).1 c1 1)).1 c1 2)) c 3 ((pI (pI (pI σ c 0 (σ.1 c1 0)) c 1 ((pI σ c 0 (σ.1 c1 0)).1 c1 1)) c 2 ((pI (pI σ c 0 (σ.1 c1 0)) c 1 ((pI σ c 0 (σ.1 c1 0)).1 c1 1)).1 c1 2)).1 c1 3)) c 4 ((pI (pI (pI (pI σ c 0 (σ.1 c1 0)) c 1 ((pI σ c 0 (σ.1 c1 0)).1 c1 1)) c 2 ((pI (pI σ c 0 (σ.1 c1 0)) c 1 ((pI σ c 0 (σ.1 c1 0)).1 c1 1)).1 c1 2)) c 3 ((pI (pI (pI σ c 0 (σ.1 c1 0)) c 1 ((pI σ c 0 (σ.1 c1 0)).1 c1 1)) c 2 ((pI (pI σ c 0 (σ.1 c1 0)) c 1 ((pI σ c 0 (σ.1 c1 0)).1 c1 1)).1 c1 2)).1 c1 3)).1 c1 4)) c 5 ((pI (pI (pI (pI (pI σ c 0 (σ.1 c1 0)) c 1 ((pI σ c 0 (σ.1 c1 0)).1 c1 1)) c 2 ((pI (pI σ c 0 (σ.1 c1 0)) c 1 ((pI σ c 0 (σ.1 c1 0)).1 c1 1)).1 c1 2)) c 3 ((pI (pI (pI σ c 0 (σ.1 c1 0)) c 1 ((pI σ c 0 (σ.1 c1 0)).1 c1 1)) c 2 ((pI (pI σ c 0 (σ.1 c1 0)) c 1 ((pI σ c 0 (σ.1 c1 0)).1 c1 1)).1 c1 2)).1 c1 3)) c 4 ((pI (pI (pI (pI σ c 0 (σ.1 c1 0)) c 1 ((pI σ c 0 (σ.1 c1 0)).1 c1 1)) c 2 ((pI (pI σ c 0 (σ.1 c1 0)) c 1 ((pI σ c 0 (σ.1 c1 0)).1 c1 1)).1 c1 2)) c 3 ((pI (pI (pI σ c 0 (σ.1 c1 0)) c 1 ((pI σ c 0 (σ.1 c1 0)).1 c1 1)) c 2 ((pI (pI σ c 0 (σ.1 c1 0)) c 1 ((pI σ c 0 (σ.1 c1 0)).1 c1 1)).1 c1 2)).1 c1 3)).1 c1 4)).1 c1 5)).1 c1 6 = 0 ∨ (pI (pI (pI (pI (pI (pI σ c 0 (σ.1 c1 0)) c 1 ((pI σ c 0 (σ.1 c1 0)).1 c1 1)) c 2 ((pI (pI σ c 0 (σ.1 c1 0)) c 1 ((pI σ c 0 (σ.1 c1 0)).1 c1 1)).1 c1 2)) c 3 ((pI (pI (pI σ c 0 (σ.1 c1 0)) c 1 ((pI σ c 0 (σ.1 c1 0)).1 c1 1)) c 2 ((pI (pI σ c 0 (σ.1 c1 0)) c 1 ((pI σ c 0 (σ.1 c1 0)).1 c1 1)).1 c1 2)).1 c1 3)) c 4 ((pI (pI (pI (pI σ c 0 (σ.1 c1 0)) c 1 ((pI σ c 0 (σ.1 c1 0)).1 c1 1)) c 2 ((pI (pI σ c 0 (σ.1 c1 0)) c 1 ((pI σ c 0 (σ.1 c1 0)).1 c1 1)).1 c1 2)) c 3 ((pI (pI (pI σ c 0 (σ.1 c1 0)) c 1 ((pI σ c 0 (σ.1 c1 0)).1 c1 1)) c 2 ((pI (pI σ c 0 (σ.1 c1 0)) c 1 ((pI σ c 0 (σ.1 c1 0)).1 c1 1)).1 c1 2)).1 c1 3)).1 c1 4)) c 5 ((pI (pI (pI (pI (pI σ c 0 (σ.1 c1 0)) c 1 ((pI σ c 0 (σ.1 c1 0)).1 c1 1)) c 2 ((pI (pI σ c 0 (σ.1 c1 0)) c 1 ((pI σ c 0 (σ.1 c1 0)).1 c1 1)).1 c1 2)) c 3 ((pI (pI (pI σ c 0 (σ.1 c1 0)) c 1 ((pI σ c 0 (σ.1 c1 0)).1 c1 1)) c 2 ((pI (pI σ c 0 (σ.1 c1 0)) c 1 ((pI σ c 0 (σ.1 c1 0)).1 c1 1)).1 c1 2)).1 c1 3)) c 4 ((pI (pI (pI (pI σ c 0 (σ.1 c1 0)) c 1 ((pI σ c 0 (σ.1 c1 0)).1 c1 1)) c 2 ((pI (pI σ c 0 (σ.1 c1 0)) c 1 ((pI σ c 0 (σ.1 c1 0)).1 c1 1)).1 c1 2)) c 3 ((pI (pI (pI σ c 0 (σ.1 c1 0)) c 1 ((pI σ c 0 (σ.1 c1 0)).1 c1 1)) c 2 ((pI (pI σ c 0 (σ.1 c1 0)) c 1 ((pI σ c 0 (σ.1 c1 0)).1 c1 1)).1 c1 2)).1 c1 3)).1 c1 4)).1 c1 5)).1 c1 6 = 1 then some ((), pI (pI (pI (pI (pI (pI (pI σ c 0 (σ.1 c1 0)) c 1 ((pI σ c 0 (σ.1 c1 0)).1 c1 1)) c 2 ((pI (pI σ c 0 (σ.1 c1 0)) c 1 ((pI σ c 0 (σ.1 c1 0)).1 c1 1)).1 c1 2)) c 3 ((pI (pI (pI σ c 0 (σ.1 c1 0)) c 1 ((pI σ c 0 (σ.1 c1 0)).1 c1 1)) c 2 ((pI (pI σ c 0 (σ.1 c1 0)) c 1 ((pI σ c 0 (σ.1 c1 0)).1 c1 1)).1 c1 2)).1 c1 3)) c 4 ((pI (pI (pI (pI σ c 0 (σ.1 c1 0)) c 1 ((pI σ c 0 (σ.1 c1 0)).1 c1 1)) c 2 ((pI (pI σ c 0 (σ.1 c1 0)) c 1 ((pI σ c 0 (σ.1 c1 0)).1 c1 1)).1 c1 2)) c 3 ((pI (pI (pI σ c 0 (σ.1 c1 0)) c 1 ((pI σ c 0 (σ.1 c1 0)).1 c1 1)) c 2 ((pI (pI σ c 0 (σ.1 c1 0)) c 1 ((pI σ c 0 (σ.1 c1 0)).1 c1 1)).1 c1 2)).1 c1 3)).1 c1 4)) c 5 ((pI (pI (pI (pI (pI σ c 0 (σ.1 c1 0)) c 1 ((pI σ c 0 (σ.1 c1 0)).1 c1 1)) c 2 ((pI (pI σ c 0 (σ.1 c1 0)) c 1 ((pI σ c 0 (σ.1 c1 0)).1 c1 1)).1 c1 2)) c 3 ((pI (pI (pI σ c 0 (σ.1 c1 0)) c 1 ((pI σ c 0 (σ.1 c1 0)).1 c1 1)) c 2 ((pI (pI σ c 0 (σ.1 c1 0)) c 1 ((pI σ c 0 (σ.1 c1 0)).1 c1 1)).1 c1 2)).1 c1 3)) c 4 ((pI (pI (pI (pI σ c 0 (σ.1 c1 0)) c 1 ((pI σ c 0 (σ.1 c1 0)).1 c1 1)) c 2 ((pI (pI σ c 0 (σ.1 c1 0)) c 1 ((pI σ c 0 (σ.1 c1 0)).1 c1 1)).1 c1 2)) c 3 ((pI (pI (pI σ c 0 (σ.1 c1 0)) c 1 ((pI σ c 0 (σ.1 c1 0)).1 c1 1)) c 2 ((pI (pI σ c 0 (σ.1 c1 0)) c 1 ((pI σ c 0 (σ.1 c1 0)).1 c1 1)).1 c1 2)).1 c1 3)).1 c1 4)).1 c1 5)) c 6 ((pI (pI (pI (pI (pI (pI σ c 0 (σ.1 c1 0)) c 1 ((pI σ c 0 (σ.1 c1 0)).1 c1 1)) c 2 ((pI (pI σ c 0 (σ.1 c1 0)) c 1 ((pI σ c 0 (σ.1 c1 0)).1 c1 1)).1 c1 2)) c 3 ((pI (pI (pI σ c 0 (σ.1 c1 0)) c 1 ((pI σ c 0 (σ.1 c1 0)).1 c1 1)) c 2 ((pI (pI σ c 0 (σ.1 c1 0)) c 1 ((pI σ c 0 (σ.1 c1 0)).1 c1 1)).1 c1 2)).1 c1 3)) c 4 ((pI (pI (pI (pI σ c 0 (σ.1 c1 0)) c 1 ((pI σ c 0 (σ.1 c1 0)).1 c1 1)) c 2 ((pI (pI σ c 0 (σ.1 c1 0)) c 1 ((pI σ c 0 (σ.1 c1 0)).1 c1 1)).1 c1 2)) c 3 ((pI (pI (pI σ c 0 (σ.1 c1 0)) c 1 ((pI σ c 0 (σ.1 c1 0)).1 c1 1)) c 2 ((pI (pI σ c 0 (σ.1 c1 0)) c 1 ((pI σ c 0 (σ.1 c1 0)).1 c1 1)).1 c1 2)).1 c1 3)).1 c1 4)) c 5 ((pI (pI (pI (pI (pI σ c 0 (σ.1 c1 0)) c 1 ((pI σ c 0 (σ.1 c1 0)).1 c1 1)) c 2 ((pI (pI σ c 0 (σ.1 c1 0)) c 1 ((pI σ c 0 (σ.1 c1 0)).1 c1 1)).1 c1 2)) c 3 ((pI (pI (pI σ c 0 (σ.1 c1 0)) c 1 ((pI σ c 0 (σ.1 c1 0)).1 c1 1)) c 2 ((pI (pI σ c 0 (σ.1 c1 0)) c 1 ((pI σ c 0 (σ.1 c1 0)).1 c1 1)).1 c1 2)).1 c1 3)) c 4 ((pI (pI (pI (pI σ c 0 (σ.1 c1 0)) c 1 ((pI σ c 0 (σ.1 c1 0)).1 c1 1)) c 2 ((pI (pI σ c 0 (σ.1 c1 0)) c 1 ((pI σ c 0 (σ.1 c1 0)).1 c1 1)).1 c1 2)) c 3 ((pI (pI (pI σ c 0 (σ.1 c1 0)) c 1 ((pI σ c 0 (σ.1 c1 0)).1 c1 1)) c 2 ((pI (pI σ c 0 (σ.1 c1 0)) c 1 ((pI σ c 0 (σ.1 c1 0)).1 c1 1)).1 c1 2)).1 c1 3)).1 c1 4)).1 c1 5)).1 c1 6)) else none)
def fn_X0_fall (ε : Ev) (c : Nat) (σ : Sg) : Option (Unit × Sg) := some ((), pI (pI σ c 6 (nI 0)) c 5 (nI 0))
def fn_X0_rise (ε : Ev) (c : Nat) (σ : Sg) : Option (Unit × Sg) := some ((), pI (pI (pI σ c 6 (nI 1)) c 2 (nI 0)) c 4 (nI 0))
def fn_X0_part (ε : Ev) (c : Nat) (z1 : Int32) (σ : Sg) : Option (Int32 × Sg) := (if z1 = nI 0 then some (σ.1 c 0, σ) else (if z1 = nI 1 then some (σ.1 c 1, σ) else (if z1 = nI 2 then some (σ.1 c 2, σ) else (if z1 = nI 3 then some (σ.1 c 3, σ) else (if z1 = nI 4 then some (σ.1 c 4, σ) else some (σ.1 c 5, σ))))))
def fn_X0_becomes_L69 (ε : Ev) (c : Nat) (z1 : Int32) (z2 : Int32)  (σ : Sg) : Option (Unit × Sg) := some ((), σ)
def fn_X0_becomes (ε : Ev) (c : Nat) (z1 : Int32) (z2 : Int32) (σ : Sg) : Option (Unit × Sg) := (if z1 = nI 1 then ((fn_X0_becomes_L69 ε c z1 z2)  (pI σ c 1 z2)) else (if z1 = nI 2 then ((fn_X0_becomes_L69 ε c z1 z2)  (pI σ c 2 z2)) else (if z1 = nI 3 then ((fn_X0_becomes_L69 ε c z1 z2)  (pI σ c 3 z2)) else (if z1 = nI 4 then ((fn_X0_becomes_L69 ε c z1 z2)  (pI σ c 4 z2)) else ((fn_X0_becomes_L69 ε c z1 z2)  (pI σ c 5 z2))))))
def fn_X0_isOf_L36 (ε : Ev) (c : Nat) (z1 : Int32)  (σ : Sg) : Option (Int32 × Sg) := some (nI 0, σ)
def fn_X0_isOf_L7 (ε : Ev) (c : Nat) (z1 : Int32) (k36 : Sg → Option (Int32 × Sg)) : Nat → Int32 → Int32 → Sg → Option (Int32 × Sg)
  | 0 => fun _ _ _ => none
  | fuel + 1 => fun (v2 : Int32) (v3 : Int32) (σ : Sg) => (if nI 6 ≤ v3 then (k36  σ) else (if v2 < 0 then (k36  σ) else (if v2 = z1 then some (nI 1, σ) else (if ¬ (v2 < 0 ∨ 6 ≤ v2.toNatClampNeg) then ((fn_X0_isOf_L7 ε c z1 k36 fuel) (tabABOVE v2.toNatClampNeg) ((v3 + nI 1)) σ) else none))))
def fn_X0_isOf (ε : Ev) (c : Nat) (z1 : Int32) (σ : Sg) : Option (Int32 × Sg) := ((fn_X0_isOf_L7 ε c z1 (fn_X0_isOf_L36 ε c z1) 4000) (σ.1 c 0) (nI 0) σ)
def fn_X0_pushing (ε : Ev) (c : Nat) (z1 : Int32) (σ : Sg) : Option (Int32 × Sg) := (if σ.1 c 0 = nI 1 then some (((mxI (nI 0) ((mnI (nI 999) z1))) / nI 2), σ) else (if σ.1 c 0 = nI 2 then some (((mxI (nI 0) ((mnI (nI 999) z1))) + nI 4), σ) else (if σ.1 c 0 = nI 3 then some ((mxI (nI 0) ((((mxI (nI 0) ((mnI (nI 999) z1))) / nI 2) - nI 5))), σ) else (if σ.1 c 0 = nI 4 then some ((nI 2 * ((mxI (nI 0) ((mnI (nI 999) z1))) + nI 4)), σ) else (if σ.1 c 0 = nI 5 then some (nI 0, σ) else some ((mxI (nI 0) ((mnI (nI 999) z1))), σ))))))
def fn_X0_bearing_L56 (ε : Ev) (c : Nat) (v1 : Int32) (σ : Sg) : Option (Int32 × Sg) := some ((nI 2 * v1), σ)
def fn_X0_bearing_L52 (ε : Ev) (c : Nat) (v1 : Int32) (σ : Sg) : Option (Int32 × Sg) := some ((v1 + nI 5), σ)
def fn_X0_bearing (ε : Ev) (c : Nat) (σ : Sg) : Option (Int32 × Sg) := (if σ.1 c 0 = nI 1 then ((fn_X0_bearing_L52 ε c) ((σ.1 c 3 + (nI 10 * σ.1 c 5))) σ) else (if σ.1 c 0 = nI 2 then ((fn_X0_bearing_L56 ε c) ((σ.1 c 3 + (nI 10 * σ.1 c 5))) σ) else (if σ.1 c 0 = nI 3 then ((fn_X0_bearing_L52 ε c) ((σ.1 c 3 + (nI 10 * σ.1 c 5))) σ) else (if σ.1 c 0 = nI 4 then ((fn_X0_bearing_L56 ε c) ((σ.1 c 3 + (nI 10 * σ.1 c 5))) σ) else (if σ.1 c 0 = nI 5 then some (nI 999, σ) else some ((σ.1 c 3 + (nI 10 * σ.1 c 5)), σ))))))
def fn_X0_worth (ε : Ev) (c : Nat) (σ : Sg) : Option (Int32 × Sg) := (if σ.1 c 0 = nI 1 then some ((σ.1 c 3 + nI 7), σ) else (if σ.1 c 0 = nI 2 then some ((nI 99 - σ.1 c 3), σ) else (if σ.1 c 0 = nI 3 then some ((nI 2 * (σ.1 c 3 + nI 7)), σ) else (if σ.1 c 0 = nI 4 then some (((nI 99 - σ.1 c 3) - nI 5), σ) else (if σ.1 c 0 = nI 5 then some (nI 6, σ) else some (σ.1 c 3, σ))))))
theorem kJ6_bitCount_0f7a4 : mKS yJ6_bitCount_0f7a4 cJ6_bitCount_0f7a4 1 (some .int) 1 := ⟨tSta_J6_bitCount_0f7a4, tIni_J6, tCod_J6_bitCount_0f7a4, by decide +kernel⟩
set_option maxHeartbeats 4000000 in
set_option maxRecDepth 100000 in
theorem ct_J6_bitCount_0f7a4 (l : Launch) (D : va_G) (cy : Nat → ClassId) (Z : (Nat → Prop) → State → Heap → Prop) (hzo : zOK Z) {aStr aByt : Nat → Nat} (hzs : zSt Z aStr aByt) (w : va_W) (z0 : Int32) (res : Int32) (h : fn_J6_bitCount_0f7a4 z0 = some res) : GD l D cy Z yJ6_bitCount_0f7a4 (zW yJ6_bitCount_0f7a4 cJ6_bitCount_0f7a4 1 (some .int)) { frames := 0, cells := 0, slots := 0, locals := 0 } [.int (z0)] w (some (.int res)) w 0 0 := by
  refine g_entry (cc := cJ6_bitCount_0f7a4) (maxL := 1) (by decide) rfl (Nat.le_of_ble_eq_true rfl) ?_
  intro κ hN hX hR
  have hX : GX κ cy Z cJ6_bitCount_0f7a4 (Cond.code yJ6_bitCount_0f7a4 cJ6_bitCount_0f7a4 1 (some .int) :: zT) RJ6 { frames := 0, cells := 0, slots := 0, locals := 0 } := hX
  show GW κ 0 0 w 0 [(0, .int (z0))] []
  refine g_iload_n hX 0 rfl rfl dJ6_bitCount_0f7a4_0 ?_
  refine g_iload_n hX 0 rfl rfl dJ6_bitCount_0f7a4_1 ?_
  refine g_iconst hX (v := nI 1) rfl dJ6_bitCount_0f7a4_2 ?_
  refine g_iushr hX dJ6_bitCount_0f7a4_3 ?_
  refine g_ldcw hX (v := 1431655765) (zu tCon_J6_265 rfl) dJ6_bitCount_0f7a4_4 ?_
  refine g_iand hX dJ6_bitCount_0f7a4_7 ?_
  refine g_isub hX dJ6_bitCount_0f7a4_8 ?_
  refine g_istore_n (lv2 := [(0, .int ((z0 - ((Int32.toUInt32 (z0) >>> (Int32.toUInt32 (nI 1) &&& Int32.toUInt32 31)).toInt32 &&& (1431655765)))))]) hX 0 1 hN rfl (by decide) rfl dJ6_bitCount_0f7a4_9 ?_
  refine g_iload_n hX 0 rfl rfl dJ6_bitCount_0f7a4_10 ?_
  refine g_ldcw hX (v := 858993459) (zu tCon_J6_266 rfl) dJ6_bitCount_0f7a4_11 ?_
  refine g_iand hX dJ6_bitCount_0f7a4_14 ?_
  refine g_iload_n hX 0 rfl rfl dJ6_bitCount_0f7a4_15 ?_
  refine g_iconst hX (v := nI 2) rfl dJ6_bitCount_0f7a4_16 ?_
  refine g_iushr hX dJ6_bitCount_0f7a4_17 ?_
  refine g_ldcw hX (v := 858993459) (zu tCon_J6_266 rfl) dJ6_bitCount_0f7a4_18 ?_
  refine g_iand hX dJ6_bitCount_0f7a4_21 ?_
  refine g_iadd hX dJ6_bitCount_0f7a4_22 ?_
  refine g_istore_n (lv2 := [(0, .int ((((z0 - ((Int32.toUInt32 (z0) >>> (Int32.toUInt32 (nI 1) &&& Int32.toUInt32 31)).toInt32 &&& (1431655765))) &&& (858993459)) + ((Int32.toUInt32 ((z0 - ((Int32.toUInt32 (z0) >>> (Int32.toUInt32 (nI 1) &&& Int32.toUInt32 31)).toInt32 &&& (1431655765)))) >>> (Int32.toUInt32 (nI 2) &&& Int32.toUInt32 31)).toInt32 &&& (858993459)))))]) hX 0 1 hN rfl (by decide) rfl dJ6_bitCount_0f7a4_23 ?_
  refine g_iload_n hX 0 rfl rfl dJ6_bitCount_0f7a4_24 ?_
  refine g_iload_n hX 0 rfl rfl dJ6_bitCount_0f7a4_25 ?_
  refine g_iconst hX (v := nI 4) rfl dJ6_bitCount_0f7a4_26 ?_
  refine g_iushr hX dJ6_bitCount_0f7a4_27 ?_
  refine g_iadd hX dJ6_bitCount_0f7a4_28 ?_
  refine g_ldcw hX (v := 252645135) (zu tCon_J6_267 rfl) dJ6_bitCount_0f7a4_29 ?_
  refine g_iand hX dJ6_bitCount_0f7a4_32 ?_
  refine g_istore_n (lv2 := [(0, .int ((((((z0 - ((Int32.toUInt32 (z0) >>> (Int32.toUInt32 (nI 1) &&& Int32.toUInt32 31)).toInt32 &&& (1431655765))) &&& (858993459)) + ((Int32.toUInt32 ((z0 - ((Int32.toUInt32 (z0) >>> (Int32.toUInt32 (nI 1) &&& Int32.toUInt32 31)).toInt32 &&& (1431655765)))) >>> (Int32.toUInt32 (nI 2) &&& Int32.toUInt32 31)).toInt32 &&& (858993459))) + (Int32.toUInt32 ((((z0 - ((Int32.toUInt32 (z0) >>> (Int32.toUInt32 (nI 1) &&& Int32.toUInt32 31)).toInt32 &&& (1431655765))) &&& (858993459)) + ((Int32.toUInt32 ((z0 - ((Int32.toUInt32 (z0) >>> (Int32.toUInt32 (nI 1) &&& Int32.toUInt32 31)).toInt32 &&& (1431655765)))) >>> (Int32.toUInt32 (nI 2) &&& Int32.toUInt32 31)).toInt32 &&& (858993459)))) >>> (Int32.toUInt32 (nI 4) &&& Int32.toUInt32 31)).toInt32) &&& (252645135))))]) hX 0 1 hN rfl (by decide) rfl dJ6_bitCount_0f7a4_33 ?_
  refine g_iload_n hX 0 rfl rfl dJ6_bitCount_0f7a4_34 ?_
  refine g_iload_n hX 0 rfl rfl dJ6_bitCount_0f7a4_35 ?_
  refine g_bipush hX (v := nI 8) (by decide) dJ6_bitCount_0f7a4_36 ?_
  refine g_iushr hX dJ6_bitCount_0f7a4_38 ?_
  refine g_iadd hX dJ6_bitCount_0f7a4_39 ?_
  refine g_istore_n (lv2 := [(0, .int (((((((z0 - ((Int32.toUInt32 (z0) >>> (Int32.toUInt32 (nI 1) &&& Int32.toUInt32 31)).toInt32 &&& (1431655765))) &&& (858993459)) + ((Int32.toUInt32 ((z0 - ((Int32.toUInt32 (z0) >>> (Int32.toUInt32 (nI 1) &&& Int32.toUInt32 31)).toInt32 &&& (1431655765)))) >>> (Int32.toUInt32 (nI 2) &&& Int32.toUInt32 31)).toInt32 &&& (858993459))) + (Int32.toUInt32 ((((z0 - ((Int32.toUInt32 (z0) >>> (Int32.toUInt32 (nI 1) &&& Int32.toUInt32 31)).toInt32 &&& (1431655765))) &&& (858993459)) + ((Int32.toUInt32 ((z0 - ((Int32.toUInt32 (z0) >>> (Int32.toUInt32 (nI 1) &&& Int32.toUInt32 31)).toInt32 &&& (1431655765)))) >>> (Int32.toUInt32 (nI 2) &&& Int32.toUInt32 31)).toInt32 &&& (858993459)))) >>> (Int32.toUInt32 (nI 4) &&& Int32.toUInt32 31)).toInt32) &&& (252645135)) + (Int32.toUInt32 ((((((z0 - ((Int32.toUInt32 (z0) >>> (Int32.toUInt32 (nI 1) &&& Int32.toUInt32 31)).toInt32 &&& (1431655765))) &&& (858993459)) + ((Int32.toUInt32 ((z0 - ((Int32.toUInt32 (z0) >>> (Int32.toUInt32 (nI 1) &&& Int32.toUInt32 31)).toInt32 &&& (1431655765)))) >>> (Int32.toUInt32 (nI 2) &&& Int32.toUInt32 31)).toInt32 &&& (858993459))) + (Int32.toUInt32 ((((z0 - ((Int32.toUInt32 (z0) >>> (Int32.toUInt32 (nI 1) &&& Int32.toUInt32 31)).toInt32 &&& (1431655765))) &&& (858993459)) + ((Int32.toUInt32 ((z0 - ((Int32.toUInt32 (z0) >>> (Int32.toUInt32 (nI 1) &&& Int32.toUInt32 31)).toInt32 &&& (1431655765)))) >>> (Int32.toUInt32 (nI 2) &&& Int32.toUInt32 31)).toInt32 &&& (858993459)))) >>> (Int32.toUInt32 (nI 4) &&& Int32.toUInt32 31)).toInt32) &&& (252645135))) >>> (Int32.toUInt32 (nI 8) &&& Int32.toUInt32 31)).toInt32)))]) hX 0 1 hN rfl (by decide) rfl dJ6_bitCount_0f7a4_40 ?_
  refine g_iload_n hX 0 rfl rfl dJ6_bitCount_0f7a4_41 ?_
  refine g_iload_n hX 0 rfl rfl dJ6_bitCount_0f7a4_42 ?_
  refine g_bipush hX (v := nI 16) (by decide) dJ6_bitCount_0f7a4_43 ?_
  refine g_iushr hX dJ6_bitCount_0f7a4_45 ?_
  refine g_iadd hX dJ6_bitCount_0f7a4_46 ?_
  refine g_istore_n (lv2 := [(0, .int ((((((((z0 - ((Int32.toUInt32 (z0) >>> (Int32.toUInt32 (nI 1) &&& Int32.toUInt32 31)).toInt32 &&& (1431655765))) &&& (858993459)) + ((Int32.toUInt32 ((z0 - ((Int32.toUInt32 (z0) >>> (Int32.toUInt32 (nI 1) &&& Int32.toUInt32 31)).toInt32 &&& (1431655765)))) >>> (Int32.toUInt32 (nI 2) &&& Int32.toUInt32 31)).toInt32 &&& (858993459))) + (Int32.toUInt32 ((((z0 - ((Int32.toUInt32 (z0) >>> (Int32.toUInt32 (nI 1) &&& Int32.toUInt32 31)).toInt32 &&& (1431655765))) &&& (858993459)) + ((Int32.toUInt32 ((z0 - ((Int32.toUInt32 (z0) >>> (Int32.toUInt32 (nI 1) &&& Int32.toUInt32 31)).toInt32 &&& (1431655765)))) >>> (Int32.toUInt32 (nI 2) &&& Int32.toUInt32 31)).toInt32 &&& (858993459)))) >>> (Int32.toUInt32 (nI 4) &&& Int32.toUInt32 31)).toInt32) &&& (252645135)) + (Int32.toUInt32 ((((((z0 - ((Int32.toUInt32 (z0) >>> (Int32.toUInt32 (nI 1) &&& Int32.toUInt32 31)).toInt32 &&& (1431655765))) &&& (858993459)) + ((Int32.toUInt32 ((z0 - ((Int32.toUInt32 (z0) >>> (Int32.toUInt32 (nI 1) &&& Int32.toUInt32 31)).toInt32 &&& (1431655765)))) >>> (Int32.toUInt32 (nI 2) &&& Int32.toUInt32 31)).toInt32 &&& (858993459))) + (Int32.toUInt32 ((((z0 - ((Int32.toUInt32 (z0) >>> (Int32.toUInt32 (nI 1) &&& Int32.toUInt32 31)).toInt32 &&& (1431655765))) &&& (858993459)) + ((Int32.toUInt32 ((z0 - ((Int32.toUInt32 (z0) >>> (Int32.toUInt32 (nI 1) &&& Int32.toUInt32 31)).toInt32 &&& (1431655765)))) >>> (Int32.toUInt32 (nI 2) &&& Int32.toUInt32 31)).toInt32 &&& (858993459)))) >>> (Int32.toUInt32 (nI 4) &&& Int32.toUInt32 31)).toInt32) &&& (252645135))) >>> (Int32.toUInt32 (nI 8) &&& Int32.toUInt32 31)).toInt32) + (Int32.toUInt32 (((((((z0 - ((Int32.toUInt32 (z0) >>> (Int32.toUInt32 (nI 1) &&& Int32.toUInt32 31)).toInt32 &&& (1431655765))) &&& (858993459)) + ((Int32.toUInt32 ((z0 - ((Int32.toUInt32 (z0) >>> (Int32.toUInt32 (nI 1) &&& Int32.toUInt32 31)).toInt32 &&& (1431655765)))) >>> (Int32.toUInt32 (nI 2) &&& Int32.toUInt32 31)).toInt32 &&& (858993459))) + (Int32.toUInt32 ((((z0 - ((Int32.toUInt32 (z0) >>> (Int32.toUInt32 (nI 1) &&& Int32.toUInt32 31)).toInt32 &&& (1431655765))) &&& (858993459)) + ((Int32.toUInt32 ((z0 - ((Int32.toUInt32 (z0) >>> (Int32.toUInt32 (nI 1) &&& Int32.toUInt32 31)).toInt32 &&& (1431655765)))) >>> (Int32.toUInt32 (nI 2) &&& Int32.toUInt32 31)).toInt32 &&& (858993459)))) >>> (Int32.toUInt32 (nI 4) &&& Int32.toUInt32 31)).toInt32) &&& (252645135)) + (Int32.toUInt32 ((((((z0 - ((Int32.toUInt32 (z0) >>> (Int32.toUInt32 (nI 1) &&& Int32.toUInt32 31)).toInt32 &&& (1431655765))) &&& (858993459)) + ((Int32.toUInt32 ((z0 - ((Int32.toUInt32 (z0) >>> (Int32.toUInt32 (nI 1) &&& Int32.toUInt32 31)).toInt32 &&& (1431655765)))) >>> (Int32.toUInt32 (nI 2) &&& Int32.toUInt32 31)).toInt32 &&& (858993459))) + (Int32.toUInt32 ((((z0 - ((Int32.toUInt32 (z0) >>> (Int32.toUInt32 (nI 1) &&& Int32.toUInt32 31)).toInt32 &&& (1431655765))) &&& (858993459)) + ((Int32.toUInt32 ((z0 - ((Int32.toUInt32 (z0) >>> (Int32.toUInt32 (nI 1) &&& Int32.toUInt32 31)).toInt32 &&& (1431655765)))) >>> (Int32.toUInt32 (nI 2) &&& Int32.toUInt32 31)).toInt32 &&& (858993459)))) >>> (Int32.toUInt32 (nI 4) &&& Int32.toUInt32 31)).toInt32) &&& (252645135))) >>> (Int32.toUInt32 (nI 8) &&& Int32.toUInt32 31)).toInt32)) >>> (Int32.toUInt32 (nI 16) &&& Int32.toUInt32 31)).toInt32)))]) hX 0 1 hN rfl (by decide) rfl dJ6_bitCount_0f7a4_47 ?_
  refine g_iload_n hX 0 rfl rfl dJ6_bitCount_0f7a4_48 ?_
  refine g_bipush hX (v := nI 63) (by decide) dJ6_bitCount_0f7a4_49 ?_
  refine g_iand hX dJ6_bitCount_0f7a4_51 ?_
  exact g_reti hR (oi_0 h) rfl dJ6_bitCount_0f7a4_52
theorem kX0_beLike : mKV RX0 yX0_beLike cX0_beLike 2 none 1 := ⟨tIns_X0_beLike, tSel_X0_beLike, tIni_X0, tCod_X0_beLike, by decide +kernel⟩
set_option maxHeartbeats 4000000 in
set_option maxRecDepth 100000 in
theorem ct_X0_beLike (l : Launch) (D : va_G) (cy : Nat → ClassId) (Z : (Nat → Prop) → State → Heap → Prop) (hzo : zOK Z) {aStr aByt : Nat → Nat} (hzs : zSt Z aStr aByt) {q : Nat → Nat} {C : Ev → Sg → va_W} (hC : cLens cy q C) (ε : Ev) (c : Nat) (hc : isX0 c) (c1 : Nat) (hc1 : isX0 c1) (σ σ2 : Sg) (res : Unit) (h : fn_X0_beLike ε c c1 σ = some (res, σ2)) : GD l D cy Z yX0_beLike (zW yX0_beLike cX0_beLike 2 none) { frames := 0, cells := 0, slots := 0, locals := 0 } [.ref (sAd ε (c)), .ref (sAd ε (c1))] (C ε σ) none (C ε σ2) 0 0 := by
  refine g_entry (cc := cX0_beLike) (maxL := 2) (by decide) rfl (Nat.le_of_ble_eq_true rfl) ?_
  intro κ hN hX hR
  have hX : GX κ cy Z cX0_beLike (Cond.code yX0_beLike cX0_beLike 2 none :: zT) RX0 { frames := 0, cells := 0, slots := 0, locals := 0 } := hX
  show GW κ 0 0 (C ε σ) 0 [(0, .ref (sAd ε (c))), (1, .ref (sAd ε (c1)))] []
  refine g_aload_n hX 0 rfl rfl dX0_beLike_0 ?_
  refine g_aload_n hX 1 rfl rfl dX0_beLike_1 ?_
  refine c_get0 hX hC hc1 0 (by decide) rfl tFld_X0_9 rfl dX0_beLike_2 ?_
  refine c_put0 (ty := .int) hX hC hc 0 (by decide) (cs_X0 ε _ _ _).1 rfl (by decide +kernel) rfl rfl tFld_X0_9 rfl dX0_beLike_5 ?_
  refine g_aload_n hX 0 rfl rfl dX0_beLike_8 ?_
  refine g_aload_n hX 1 rfl rfl dX0_beLike_9 ?_
  refine c_get0 hX hC hc1 1 (by decide) rfl tFld_X0_15 rfl dX0_beLike_10 ?_
  refine c_put0 (ty := .int) hX hC hc 1 (by decide) (cs_X0 ε _ _ _).2.1 rfl (by decide +kernel) rfl rfl tFld_X0_15 rfl dX0_beLike_13 ?_
  refine g_aload_n hX 0 rfl rfl dX0_beLike_16 ?_
  refine g_aload_n hX 1 rfl rfl dX0_beLike_17 ?_
  refine c_get0 hX hC hc1 2 (by decide) rfl tFld_X0_18 rfl dX0_beLike_18 ?_
  refine c_put0 (ty := .int) hX hC hc 2 (by decide) (cs_X0 ε _ _ _).2.2.1 rfl (by decide +kernel) rfl rfl tFld_X0_18 rfl dX0_beLike_21 ?_
  refine g_aload_n hX 0 rfl rfl dX0_beLike_24 ?_
  refine g_aload_n hX 1 rfl rfl dX0_beLike_25 ?_
  refine c_get0 hX hC hc1 3 (by decide) rfl tFld_X0_21 rfl dX0_beLike_26 ?_
  refine c_put0 (ty := .int) hX hC hc 3 (by decide) (cs_X0 ε _ _ _).2.2.2.1 rfl (by decide +kernel) rfl rfl tFld_X0_21 rfl dX0_beLike_29 ?_
  refine g_aload_n hX 0 rfl rfl dX0_beLike_32 ?_
  refine g_aload_n hX 1 rfl rfl dX0_beLike_33 ?_
  refine c_get0 hX hC hc1 4 (by decide) rfl tFld_X0_24 rfl dX0_beLike_34 ?_
  refine c_put0 (ty := .int) hX hC hc 4 (by decide) (cs_X0 ε _ _ _).2.2.2.2.1 rfl (by decide +kernel) rfl rfl tFld_X0_24 rfl dX0_beLike_37 ?_
  refine g_aload_n hX 0 rfl rfl dX0_beLike_40 ?_
  refine g_aload_n hX 1 rfl rfl dX0_beLike_41 ?_
  refine c_get0 hX hC hc1 5 (by decide) rfl tFld_X0_27 rfl dX0_beLike_42 ?_
  refine c_put0 (ty := .int) hX hC hc 5 (by decide) (cs_X0 ε _ _ _).2.2.2.2.2.1 rfl (by decide +kernel) rfl rfl tFld_X0_27 rfl dX0_beLike_45 ?_
  refine g_aload_n hX 0 rfl rfl dX0_beLike_48 ?_
  refine g_aload_n hX 1 rfl rfl dX0_beLike_49 ?_
  refine c_get0 hX hC hc1 6 (by decide) rfl tFld_X0_30 rfl dX0_beLike_50 ?_
  obtain ⟨g1, h⟩ := gd_some h
  refine c_put0 (ty := .boolean) hX hC hc 6 (by decide) (cs_X0 ε _ _ _).2.2.2.2.2.2 rfl (by decide +kernel) (nar_b g1) (fit_b g1) tFld_X0_30 rfl dX0_beLike_53 ?_
  exact g_retv hR (congrArg (C ε) (oi_2 h)) dX0_beLike_56
theorem kX0_fall : mKV RX0 yX0_fall cX0_fall 1 none 0 := ⟨tIns_X0_fall, tSel_X0_fall, tIni_X0, tCod_X0_fall, by decide +kernel⟩
set_option maxHeartbeats 4000000 in
set_option maxRecDepth 100000 in
theorem ct_X0_fall (l : Launch) (D : va_G) (cy : Nat → ClassId) (Z : (Nat → Prop) → State → Heap → Prop) (hzo : zOK Z) {aStr aByt : Nat → Nat} (hzs : zSt Z aStr aByt) {q : Nat → Nat} {C : Ev → Sg → va_W} (hC : cLens cy q C) (ε : Ev) (c : Nat) (hc : isX0 c) (σ σ2 : Sg) (res : Unit) (h : fn_X0_fall ε c σ = some (res, σ2)) : GD l D cy Z yX0_fall (zW yX0_fall cX0_fall 1 none) { frames := 0, cells := 0, slots := 0, locals := 0 } [.ref (sAd ε (c))] (C ε σ) none (C ε σ2) 0 0 := by
  refine g_entry (cc := cX0_fall) (maxL := 1) (by decide) rfl (Nat.le_of_ble_eq_true rfl) ?_
  intro κ hN hX hR
  have hX : GX κ cy Z cX0_fall (Cond.code yX0_fall cX0_fall 1 none :: zT) RX0 { frames := 0, cells := 0, slots := 0, locals := 0 } := hX
  show GW κ 0 0 (C ε σ) 0 [(0, .ref (sAd ε (c)))] []
  refine g_aload_n hX 0 rfl rfl dX0_fall_0 ?_
  refine g_iconst hX (v := nI 0) rfl dX0_fall_1 ?_
  refine c_put0 (ty := .boolean) hX hC hc 6 (by decide) (cs_X0 ε _ _ _).2.2.2.2.2.2 rfl (by decide +kernel) rfl rfl tFld_X0_30 rfl dX0_fall_2 ?_
  refine g_aload_n hX 0 rfl rfl dX0_fall_5 ?_
  refine g_iconst hX (v := nI 0) rfl dX0_fall_6 ?_
  refine c_put0 (ty := .int) hX hC hc 5 (by decide) (cs_X0 ε _ _ _).2.2.2.2.2.1 rfl (by decide +kernel) rfl rfl tFld_X0_27 rfl dX0_fall_7 ?_
  exact g_retv hR (congrArg (C ε) (oi_2 h)) dX0_fall_10
theorem kX0_rise : mKV RX0 yX0_rise cX0_rise 1 none 0 := ⟨tIns_X0_rise, tSel_X0_rise, tIni_X0, tCod_X0_rise, by decide +kernel⟩
set_option maxHeartbeats 4000000 in
set_option maxRecDepth 100000 in
theorem ct_X0_rise (l : Launch) (D : va_G) (cy : Nat → ClassId) (Z : (Nat → Prop) → State → Heap → Prop) (hzo : zOK Z) {aStr aByt : Nat → Nat} (hzs : zSt Z aStr aByt) {q : Nat → Nat} {C : Ev → Sg → va_W} (hC : cLens cy q C) (ε : Ev) (c : Nat) (hc : isX0 c) (σ σ2 : Sg) (res : Unit) (h : fn_X0_rise ε c σ = some (res, σ2)) : GD l D cy Z yX0_rise (zW yX0_rise cX0_rise 1 none) { frames := 0, cells := 0, slots := 0, locals := 0 } [.ref (sAd ε (c))] (C ε σ) none (C ε σ2) 0 0 := by
  refine g_entry (cc := cX0_rise) (maxL := 1) (by decide) rfl (Nat.le_of_ble_eq_true rfl) ?_
  intro κ hN hX hR
  have hX : GX κ cy Z cX0_rise (Cond.code yX0_rise cX0_rise 1 none :: zT) RX0 { frames := 0, cells := 0, slots := 0, locals := 0 } := hX
  show GW κ 0 0 (C ε σ) 0 [(0, .ref (sAd ε (c)))] []
  refine g_aload_n hX 0 rfl rfl dX0_rise_0 ?_
  refine g_iconst hX (v := nI 1) rfl dX0_rise_1 ?_
  refine c_put0 (ty := .boolean) hX hC hc 6 (by decide) (cs_X0 ε _ _ _).2.2.2.2.2.2 rfl (by decide +kernel) rfl rfl tFld_X0_30 rfl dX0_rise_2 ?_
  refine g_aload_n hX 0 rfl rfl dX0_rise_5 ?_
  refine g_iconst hX (v := nI 0) rfl dX0_rise_6 ?_
  refine c_put0 (ty := .int) hX hC hc 2 (by decide) (cs_X0 ε _ _ _).2.2.1 rfl (by decide +kernel) rfl rfl tFld_X0_18 rfl dX0_rise_7 ?_
  refine g_aload_n hX 0 rfl rfl dX0_rise_10 ?_
  refine g_iconst hX (v := nI 0) rfl dX0_rise_11 ?_
  refine c_put0 (ty := .int) hX hC hc 4 (by decide) (cs_X0 ε _ _ _).2.2.2.2.1 rfl (by decide +kernel) rfl rfl tFld_X0_24 rfl dX0_rise_12 ?_
  exact g_retv hR (congrArg (C ε) (oi_2 h)) dX0_rise_15
theorem kX0_part : mKV RX0 yX0_part cX0_part 2 (some .int) 1 := ⟨tIns_X0_part, tSel_X0_part, tIni_X0, tCod_X0_part, by decide +kernel⟩
set_option maxHeartbeats 4000000 in
set_option maxRecDepth 100000 in
theorem ct_X0_part (l : Launch) (D : va_G) (cy : Nat → ClassId) (Z : (Nat → Prop) → State → Heap → Prop) (hzo : zOK Z) {aStr aByt : Nat → Nat} (hzs : zSt Z aStr aByt) {q : Nat → Nat} {C : Ev → Sg → va_W} (hC : cLens cy q C) (ε : Ev) (c : Nat) (hc : isX0 c) (z1 : Int32) (σ σ2 : Sg) (res : Int32) (h : fn_X0_part ε c z1 σ = some (res, σ2)) : GD l D cy Z yX0_part (zW yX0_part cX0_part 2 (some .int)) { frames := 0, cells := 0, slots := 0, locals := 0 } [.ref (sAd ε (c)), .int (z1)] (C ε σ) (some (.int res)) (C ε σ2) 0 0 := by
  refine g_entry (cc := cX0_part) (maxL := 2) (by decide) rfl (Nat.le_of_ble_eq_true rfl) ?_
  intro κ hN hX hR
  have hX : GX κ cy Z cX0_part (Cond.code yX0_part cX0_part 2 (some .int) :: zT) RX0 { frames := 0, cells := 0, slots := 0, locals := 0 } := hX
  show GW κ 0 0 (C ε σ) 0 [(0, .ref (sAd ε (c))), (1, .int (z1))] []
  refine g_iload_n hX 1 rfl rfl dX0_part_0 ?_
  rcases sw_in (z1) 0 4 (by decide) with w1 | ⟨j1, w1a, w1b, w1⟩
  · replace h := if_n (sw_out w1 0 (by decide) (by decide) (by decide)) h
    replace h := if_n (sw_out w1 1 (by decide) (by decide) (by decide)) h
    replace h := if_n (sw_out w1 2 (by decide) (by decide) (by decide)) h
    replace h := if_n (sw_out w1 3 (by decide) (by decide) (by decide)) h
    replace h := if_n (sw_out w1 4 (by decide) (by decide) (by decide)) h
    refine g_tableOut hX 61 w1 (by decide) dX0_part_1 ?_
    refine g_aload_n hX 0 rfl rfl dX0_part_61 ?_
    refine c_get0 hX hC hc 5 (by decide) rfl tFld_X0_27 rfl dX0_part_62 ?_
    exact g_reti hR (oi_1 h) (congrArg (C ε) (oi_2 h)) dX0_part_65
  · have hj : j1 = 0 ∨ j1 = 1 ∨ j1 = 2 ∨ j1 = 3 ∨ j1 = 4 := by omega
    rcases hj with rfl | rfl | rfl | rfl | rfl
    · replace h := if_p w1 h
      refine g_top (y := .int (nI 0)) (congrArg Value.int w1) ?_
      refine g_tableIn hX 36 (by decide) (by decide) rfl (by decide) dX0_part_1 ?_
      refine g_aload_n hX 0 rfl rfl dX0_part_36 ?_
      refine c_get0 hX hC hc 0 (by decide) rfl tFld_X0_9 rfl dX0_part_37 ?_
      exact g_reti hR (oi_1 h) (congrArg (C ε) (oi_2 h)) dX0_part_40
    · replace h := if_n (by rw [w1]; decide) h
      replace h := if_p w1 h
      refine g_top (y := .int (nI 1)) (congrArg Value.int w1) ?_
      refine g_tableIn hX 41 (by decide) (by decide) rfl (by decide) dX0_part_1 ?_
      refine g_aload_n hX 0 rfl rfl dX0_part_41 ?_
      refine c_get0 hX hC hc 1 (by decide) rfl tFld_X0_15 rfl dX0_part_42 ?_
      exact g_reti hR (oi_1 h) (congrArg (C ε) (oi_2 h)) dX0_part_45
    · replace h := if_n (by rw [w1]; decide) h
      replace h := if_n (by rw [w1]; decide) h
      replace h := if_p w1 h
      refine g_top (y := .int (nI 2)) (congrArg Value.int w1) ?_
      refine g_tableIn hX 46 (by decide) (by decide) rfl (by decide) dX0_part_1 ?_
      refine g_aload_n hX 0 rfl rfl dX0_part_46 ?_
      refine c_get0 hX hC hc 2 (by decide) rfl tFld_X0_18 rfl dX0_part_47 ?_
      exact g_reti hR (oi_1 h) (congrArg (C ε) (oi_2 h)) dX0_part_50
    · replace h := if_n (by rw [w1]; decide) h
      replace h := if_n (by rw [w1]; decide) h
      replace h := if_n (by rw [w1]; decide) h
      replace h := if_p w1 h
      refine g_top (y := .int (nI 3)) (congrArg Value.int w1) ?_
      refine g_tableIn hX 51 (by decide) (by decide) rfl (by decide) dX0_part_1 ?_
      refine g_aload_n hX 0 rfl rfl dX0_part_51 ?_
      refine c_get0 hX hC hc 3 (by decide) rfl tFld_X0_21 rfl dX0_part_52 ?_
      exact g_reti hR (oi_1 h) (congrArg (C ε) (oi_2 h)) dX0_part_55
    · replace h := if_n (by rw [w1]; decide) h
      replace h := if_n (by rw [w1]; decide) h
      replace h := if_n (by rw [w1]; decide) h
      replace h := if_n (by rw [w1]; decide) h
      replace h := if_p w1 h
      refine g_top (y := .int (nI 4)) (congrArg Value.int w1) ?_
      refine g_tableIn hX 56 (by decide) (by decide) rfl (by decide) dX0_part_1 ?_
      refine g_aload_n hX 0 rfl rfl dX0_part_56 ?_
      refine c_get0 hX hC hc 4 (by decide) rfl tFld_X0_24 rfl dX0_part_57 ?_
      exact g_reti hR (oi_1 h) (congrArg (C ε) (oi_2 h)) dX0_part_60
theorem kX0_becomes : mKV RX0 yX0_becomes cX0_becomes 3 none 2 := ⟨tIns_X0_becomes, tSel_X0_becomes, tIni_X0, tCod_X0_becomes, by decide +kernel⟩
set_option maxHeartbeats 4000000 in
set_option maxRecDepth 100000 in
theorem ct_X0_becomes (l : Launch) (D : va_G) (cy : Nat → ClassId) (Z : (Nat → Prop) → State → Heap → Prop) (hzo : zOK Z) {aStr aByt : Nat → Nat} (hzs : zSt Z aStr aByt) {q : Nat → Nat} {C : Ev → Sg → va_W} (hC : cLens cy q C) (ε : Ev) (c : Nat) (hc : isX0 c) (z1 : Int32) (z2 : Int32) (σ σ2 : Sg) (res : Unit) (h : fn_X0_becomes ε c z1 z2 σ = some (res, σ2)) : GD l D cy Z yX0_becomes (zW yX0_becomes cX0_becomes 3 none) { frames := 0, cells := 0, slots := 0, locals := 0 } [.ref (sAd ε (c)), .int (z1), .int (z2)] (C ε σ) none (C ε σ2) 0 0 := by
  refine g_entry (cc := cX0_becomes) (maxL := 3) (by decide) rfl (Nat.le_of_ble_eq_true rfl) ?_
  intro κ hN hX hR
  have hX : GX κ cy Z cX0_becomes (Cond.code yX0_becomes cX0_becomes 3 none :: zT) RX0 { frames := 0, cells := 0, slots := 0, locals := 0 } := hX
  have J69 : ∀ (σ : Sg) , fn_X0_becomes_L69 ε c z1 z2  σ = some (res, σ2) → GW κ 0 0 (C ε σ) 69 [] [] := by
    intro σ h
    exact g_retv hR (congrArg (C ε) (oi_2 h)) dX0_becomes_69
  show GW κ 0 0 (C ε σ) 0 [(0, .ref (sAd ε (c))), (1, .int (z1)), (2, .int (z2))] []
  refine g_iload_n hX 1 rfl rfl dX0_becomes_0 ?_
  rcases sw_in (z1) 1 4 (by decide) with w1 | ⟨j1, w1a, w1b, w1⟩
  · replace h := if_n (sw_out w1 1 (by decide) (by decide) (by decide)) h
    replace h := if_n (sw_out w1 2 (by decide) (by decide) (by decide)) h
    replace h := if_n (sw_out w1 3 (by decide) (by decide) (by decide)) h
    replace h := if_n (sw_out w1 4 (by decide) (by decide) (by decide)) h
    refine g_tableOut hX 64 w1 (by decide) dX0_becomes_1 ?_
    refine g_aload_n hX 0 rfl rfl dX0_becomes_64 ?_
    refine g_iload_n hX 2 rfl rfl dX0_becomes_65 ?_
    refine c_put0 (ty := .int) hX hC hc 5 (by decide) (cs_X0 ε _ _ _).2.2.2.2.2.1 rfl (by decide +kernel) rfl rfl tFld_X0_27 rfl dX0_becomes_66 ?_
    refine g_lv [] rfl ?_
    exact J69   (pI σ c 5 z2) h
  · have hj : j1 = 1 ∨ j1 = 2 ∨ j1 = 3 ∨ j1 = 4 := by omega
    rcases hj with rfl | rfl | rfl | rfl
    · replace h := if_p w1 h
      refine g_top (y := .int (nI 1)) (congrArg Value.int w1) ?_
      refine g_tableIn hX 32 (by decide) (by decide) rfl (by decide) dX0_becomes_1 ?_
      refine g_aload_n hX 0 rfl rfl dX0_becomes_32 ?_
      refine g_iload_n hX 2 rfl rfl dX0_becomes_33 ?_
      refine c_put0 (ty := .int) hX hC hc 1 (by decide) (cs_X0 ε _ _ _).2.1 rfl (by decide +kernel) rfl rfl tFld_X0_15 rfl dX0_becomes_34 ?_
      refine g_goto hX 69 (by decide) dX0_becomes_37 ?_
      refine g_lv [] rfl ?_
      exact J69   (pI σ c 1 z2) h
    · replace h := if_n (by rw [w1]; decide) h
      replace h := if_p w1 h
      refine g_top (y := .int (nI 2)) (congrArg Value.int w1) ?_
      refine g_tableIn hX 40 (by decide) (by decide) rfl (by decide) dX0_becomes_1 ?_
      refine g_aload_n hX 0 rfl rfl dX0_becomes_40 ?_
      refine g_iload_n hX 2 rfl rfl dX0_becomes_41 ?_
      refine c_put0 (ty := .int) hX hC hc 2 (by decide) (cs_X0 ε _ _ _).2.2.1 rfl (by decide +kernel) rfl rfl tFld_X0_18 rfl dX0_becomes_42 ?_
      refine g_goto hX 69 (by decide) dX0_becomes_45 ?_
      refine g_lv [] rfl ?_
      exact J69   (pI σ c 2 z2) h
    · replace h := if_n (by rw [w1]; decide) h
      replace h := if_n (by rw [w1]; decide) h
      replace h := if_p w1 h
      refine g_top (y := .int (nI 3)) (congrArg Value.int w1) ?_
      refine g_tableIn hX 48 (by decide) (by decide) rfl (by decide) dX0_becomes_1 ?_
      refine g_aload_n hX 0 rfl rfl dX0_becomes_48 ?_
      refine g_iload_n hX 2 rfl rfl dX0_becomes_49 ?_
      refine c_put0 (ty := .int) hX hC hc 3 (by decide) (cs_X0 ε _ _ _).2.2.2.1 rfl (by decide +kernel) rfl rfl tFld_X0_21 rfl dX0_becomes_50 ?_
      refine g_goto hX 69 (by decide) dX0_becomes_53 ?_
      refine g_lv [] rfl ?_
      exact J69   (pI σ c 3 z2) h
    · replace h := if_n (by rw [w1]; decide) h
      replace h := if_n (by rw [w1]; decide) h
      replace h := if_n (by rw [w1]; decide) h
      replace h := if_p w1 h
      refine g_top (y := .int (nI 4)) (congrArg Value.int w1) ?_
      refine g_tableIn hX 56 (by decide) (by decide) rfl (by decide) dX0_becomes_1 ?_
      refine g_aload_n hX 0 rfl rfl dX0_becomes_56 ?_
      refine g_iload_n hX 2 rfl rfl dX0_becomes_57 ?_
      refine c_put0 (ty := .int) hX hC hc 4 (by decide) (cs_X0 ε _ _ _).2.2.2.2.1 rfl (by decide +kernel) rfl rfl tFld_X0_24 rfl dX0_becomes_58 ?_
      refine g_goto hX 69 (by decide) dX0_becomes_61 ?_
      refine g_lv [] rfl ?_
      exact J69   (pI σ c 4 z2) h
theorem kX0_isOf : mKV RX0 yX0_isOf cX0_isOf 4 (some .boolean) 1 := ⟨tIns_X0_isOf, tSel_X0_isOf, tIni_X0, tCod_X0_isOf, by decide +kernel⟩
set_option maxHeartbeats 4000000 in
set_option maxRecDepth 100000 in
theorem ct_X0_isOf (l : Launch) (D : va_G) (cy : Nat → ClassId) (Z : (Nat → Prop) → State → Heap → Prop) (hzo : zOK Z) {aStr aByt : Nat → Nat} (hzs : zSt Z aStr aByt) {q : Nat → Nat} {C : Ev → Sg → va_W} (hC : cLens cy q C) (ε : Ev) (c : Nat) (hc : isX0 c) (z1 : Int32) (σ σ2 : Sg) (res : Int32) (h : fn_X0_isOf ε c z1 σ = some (res, σ2)) : GD l D cy Z yX0_isOf (zW yX0_isOf cX0_isOf 4 (some .boolean)) { frames := 0, cells := 0, slots := 0, locals := 0 } [.ref (sAd ε (c)), .int (z1)] (C ε σ) (some (.int res)) (C ε σ2) 0 0 := by
  refine g_entry (cc := cX0_isOf) (maxL := 4) (by decide) rfl (Nat.le_of_ble_eq_true rfl) ?_
  intro κ hN hX hR
  have hX : GX κ cy Z cX0_isOf (Cond.code yX0_isOf cX0_isOf 4 (some .boolean) :: zT) RX0 { frames := 0, cells := 0, slots := 0, locals := 0 } := hX
  obtain ⟨tABOVE, hABOVE⟩ := zt_ABOVE hX hzs
  have J36 : ∀ (σ : Sg) , fn_X0_isOf_L36 ε c z1  σ = some (res, σ2) → GW κ 0 0 (C ε σ) 36 [] [] := by
    intro σ h
    refine g_iconst hX (v := nI 0) rfl dX0_isOf_36 ?_
    exact g_retbD hR (by decide) (oi_1 h) (congrArg (C ε) (oi_2 h)) dX0_isOf_37
  have J7 : ∀ (k36 : Sg → Option (Int32 × Sg)) (hk36 : ∀ (σ : Sg) , k36  σ = some (res, σ2) → GW κ 0 0 (C ε σ) 36 [] []) (fuel : Nat), ∀ (v2 : Int32) (v3 : Int32) (σ : Sg) , fn_X0_isOf_L7 ε c z1 k36 fuel v2 v3 σ = some (res, σ2) → GW κ 0 0 (C ε σ) 7 [(1, .int (z1)), (2, .int (v2)), (3, .int (v3))] [] := by
    intro k36 hk36 fuel
    induction fuel with
    | zero => intro v2 v3 σ h; cases (show none = some (res, σ2) from h)
    | succ fuel ih =>
      intro v2 v3 σ h
      replace h : (if nI 6 ≤ v3 then (k36  σ) else (if v2 < 0 then (k36  σ) else (if v2 = z1 then some (nI 1, σ) else (if ¬ (v2 < 0 ∨ 6 ≤ v2.toNatClampNeg) then ((fn_X0_isOf_L7 ε c z1 k36 fuel) (tabABOVE v2.toNatClampNeg) ((v3 + nI 1)) σ) else none)))) = some (res, σ2) := h
      refine g_iload_n hX 2 rfl rfl dX0_isOf_7 ?_
      refine g_bipush hX (v := nI 6) (by decide) dX0_isOf_8 ?_
      refine g_icmp_ge hX 36 (by decide) dX0_isOf_10 (fun b10 => ?_) (fun b10 => ?_)
      · replace h := if_p b10 h
        refine g_lv [] rfl ?_
        exact hk36   σ h
      · replace h := if_n b10 h
        refine g_iload_n hX 1 rfl rfl dX0_isOf_13 ?_
        refine g_if_lt hX 36 (by decide) dX0_isOf_14 (fun b14 => ?_) (fun b14 => ?_)
        · replace h := if_p b14 h
          refine g_lv [] rfl ?_
          exact hk36   σ h
        · replace h := if_n b14 h
          refine g_iload_n hX 1 rfl rfl dX0_isOf_17 ?_
          refine g_iload_n hX 0 rfl rfl dX0_isOf_18 ?_
          refine g_icmp_ne hX 24 (by decide) dX0_isOf_19 (fun b19 => ?_) (fun b19 => ?_)
          · replace h := if_n b19 h
            refine g_tabN hX hABOVE (zn_X0_34 hX hzs) dX0_isOf_24 ?_
            refine g_iload_n hX 1 rfl rfl dX0_isOf_27 ?_
            obtain ⟨g1, h⟩ := gd_some h
            refine g_tabi hX hABOVE g1 dX0_isOf_28 ?_
            refine g_istore_n (lv2 := [(2, .int (tabABOVE v2.toNatClampNeg)), (1, .int (z1)), (3, .int (v3))]) hX 2 4 hN rfl (by decide) rfl dX0_isOf_29 ?_
            refine g_iinc (v := (v3 + nI 1)) (lv2 := [(3, .int ((v3 + nI 1))), (2, .int (tabABOVE v2.toNatClampNeg)), (1, .int (z1))]) hX 2 3 4 hN rfl rfl (by decide) rfl dX0_isOf_30 ?_
            refine g_goto hX 7 (by decide) dX0_isOf_33 ?_
            refine g_lv [2, 1, 0] rfl ?_
            exact ih (tabABOVE v2.toNatClampNeg) ((v3 + nI 1))  σ h
          · replace h := if_p b19 h
            refine g_iconst hX (v := nI 1) rfl dX0_isOf_22 ?_
            exact g_retbD hR (by decide) (oi_1 h) (congrArg (C ε) (oi_2 h)) dX0_isOf_23
  show GW κ 0 0 (C ε σ) 0 [(0, .ref (sAd ε (c))), (1, .int (z1))] []
  refine g_aload_n hX 0 rfl rfl dX0_isOf_0 ?_
  refine c_get0 hX hC hc 0 (by decide) rfl tFld_X0_9 rfl dX0_isOf_1 ?_
  refine g_istore_n (lv2 := [(2, .int (σ.1 c 0)), (0, .ref (sAd ε (c))), (1, .int (z1))]) hX 2 4 hN rfl (by decide) rfl dX0_isOf_4 ?_
  refine g_iconst hX (v := nI 0) rfl dX0_isOf_5 ?_
  refine g_istore_n (lv2 := [(3, .int (nI 0)), (2, .int (σ.1 c 0)), (0, .ref (sAd ε (c))), (1, .int (z1))]) hX 3 4 hN rfl (by decide) rfl dX0_isOf_6 ?_
  refine g_lv [3, 1, 0] rfl ?_
  exact (J7 (fn_X0_isOf_L36 ε c z1) J36 4000) (σ.1 c 0) (nI 0)  σ h
theorem kX0_pushing : mKV RX0 yX0_pushing cX0_pushing 3 (some .int) 1 := ⟨tIns_X0_pushing, tSel_X0_pushing, tIni_X0, tCod_X0_pushing, by decide +kernel⟩
set_option maxHeartbeats 4000000 in
set_option maxRecDepth 100000 in
theorem ct_X0_pushing (l : Launch) (D : va_G) (cy : Nat → ClassId) (Z : (Nat → Prop) → State → Heap → Prop) (hzo : zOK Z) {aStr aByt : Nat → Nat} (hzs : zSt Z aStr aByt) {q : Nat → Nat} {C : Ev → Sg → va_W} (hC : cLens cy q C) (ε : Ev) (c : Nat) (hc : isX0 c) (z1 : Int32) (σ σ2 : Sg) (res : Int32) (h : fn_X0_pushing ε c z1 σ = some (res, σ2)) : GD l D cy Z yX0_pushing (zW yX0_pushing cX0_pushing 3 (some .int)) { frames := 1, cells := 0, slots := 0, locals := 21 } [.ref (sAd ε (c)), .int (z1)] (C ε σ) (some (.int res)) (C ε σ2) 0 0 := by
  refine g_entry (cc := cX0_pushing) (maxL := 3) (by decide) rfl (Nat.le_of_ble_eq_true rfl) ?_
  intro κ hN hX hR
  have hX : GX κ cy Z cX0_pushing (Cond.code yX0_pushing cX0_pushing 3 (some .int) :: zT) RX0 { frames := 1, cells := 0, slots := 0, locals := 21 } := hX
  show GW κ 0 0 (C ε σ) 0 [(0, .ref (sAd ε (c))), (1, .int (z1))] []
  refine g_iconst hX (v := nI 0) rfl dX0_pushing_0 ?_
  refine g_sipush hX (v := nI 999) (by decide) dX0_pushing_1 ?_
  refine g_iload_n hX 1 rfl rfl dX0_pushing_4 ?_
  refine g_mmin hX tMet_X0_38 (Nat.le_of_ble_eq_true rfl) (Nat.le_of_ble_eq_true rfl) (Nat.le_of_ble_eq_true rfl) (Nat.le_of_ble_eq_true rfl) (Nat.le_of_ble_eq_true rfl) dX0_pushing_5 ?_
  refine g_mmax hX tMet_X0_44 (Nat.le_of_ble_eq_true rfl) (Nat.le_of_ble_eq_true rfl) (Nat.le_of_ble_eq_true rfl) (Nat.le_of_ble_eq_true rfl) (Nat.le_of_ble_eq_true rfl) dX0_pushing_8 ?_
  refine g_istore_n (lv2 := [(2, .int ((mxI (nI 0) ((mnI (nI 999) z1))))), (0, .ref (sAd ε (c))), (1, .int (z1))]) hX 2 3 hN rfl (by decide) rfl dX0_pushing_11 ?_
  refine g_aload_n hX 1 rfl rfl dX0_pushing_12 ?_
  refine c_get0 hX hC hc 0 (by decide) rfl tFld_X0_9 rfl dX0_pushing_13 ?_
  rcases sw_in (σ.1 c 0) 1 5 (by decide) with w16 | ⟨j16, w16a, w16b, w16⟩
  · replace h := if_n (sw_out w16 1 (by decide) (by decide) (by decide)) h
    replace h := if_n (sw_out w16 2 (by decide) (by decide) (by decide)) h
    replace h := if_n (sw_out w16 3 (by decide) (by decide) (by decide)) h
    replace h := if_n (sw_out w16 4 (by decide) (by decide) (by decide)) h
    replace h := if_n (sw_out w16 5 (by decide) (by decide) (by decide)) h
    refine g_tableOut hX 78 w16 (by decide) dX0_pushing_16 ?_
    refine g_iload_n hX 0 rfl rfl dX0_pushing_78 ?_
    exact g_reti hR (oi_1 h) (congrArg (C ε) (oi_2 h)) dX0_pushing_79
  · have hj : j16 = 1 ∨ j16 = 2 ∨ j16 = 3 ∨ j16 = 4 ∨ j16 = 5 := by omega
    rcases hj with rfl | rfl | rfl | rfl | rfl
    · replace h := if_p w16 h
      refine g_top (y := .int (nI 1)) (congrArg Value.int w16) ?_
      refine g_tableIn hX 52 (by decide) (by decide) rfl (by decide) dX0_pushing_16 ?_
      refine g_iload_n hX 0 rfl rfl dX0_pushing_52 ?_
      refine g_iconst hX (v := nI 2) rfl dX0_pushing_53 ?_
      refine g_idiv hX (by decide) dX0_pushing_54 ?_
      exact g_reti hR (oi_1 h) (congrArg (C ε) (oi_2 h)) dX0_pushing_55
    · replace h := if_n (by rw [w16]; decide) h
      replace h := if_p w16 h
      refine g_top (y := .int (nI 2)) (congrArg Value.int w16) ?_
      refine g_tableIn hX 66 (by decide) (by decide) rfl (by decide) dX0_pushing_16 ?_
      refine g_iload_n hX 0 rfl rfl dX0_pushing_66 ?_
      refine g_iconst hX (v := nI 4) rfl dX0_pushing_67 ?_
      refine g_iadd hX dX0_pushing_68 ?_
      exact g_reti hR (oi_1 h) (congrArg (C ε) (oi_2 h)) dX0_pushing_69
    · replace h := if_n (by rw [w16]; decide) h
      replace h := if_n (by rw [w16]; decide) h
      replace h := if_p w16 h
      refine g_top (y := .int (nI 3)) (congrArg Value.int w16) ?_
      refine g_tableIn hX 56 (by decide) (by decide) rfl (by decide) dX0_pushing_16 ?_
      refine g_iconst hX (v := nI 0) rfl dX0_pushing_56 ?_
      refine g_iload_n hX 0 rfl rfl dX0_pushing_57 ?_
      refine g_iconst hX (v := nI 2) rfl dX0_pushing_58 ?_
      refine g_idiv hX (by decide) dX0_pushing_59 ?_
      refine g_iconst hX (v := nI 5) rfl dX0_pushing_60 ?_
      refine g_isub hX dX0_pushing_61 ?_
      refine g_mmax hX tMet_X0_44 (Nat.le_of_ble_eq_true rfl) (Nat.le_of_ble_eq_true rfl) (Nat.le_of_ble_eq_true rfl) (Nat.le_of_ble_eq_true rfl) (Nat.le_of_ble_eq_true rfl) dX0_pushing_62 ?_
      exact g_reti hR (oi_1 h) (congrArg (C ε) (oi_2 h)) dX0_pushing_65
    · replace h := if_n (by rw [w16]; decide) h
      replace h := if_n (by rw [w16]; decide) h
      replace h := if_n (by rw [w16]; decide) h
      replace h := if_p w16 h
      refine g_top (y := .int (nI 4)) (congrArg Value.int w16) ?_
      refine g_tableIn hX 70 (by decide) (by decide) rfl (by decide) dX0_pushing_16 ?_
      refine g_iconst hX (v := nI 2) rfl dX0_pushing_70 ?_
      refine g_iload_n hX 0 rfl rfl dX0_pushing_71 ?_
      refine g_iconst hX (v := nI 4) rfl dX0_pushing_72 ?_
      refine g_iadd hX dX0_pushing_73 ?_
      refine g_imul hX dX0_pushing_74 ?_
      exact g_reti hR (oi_1 h) (congrArg (C ε) (oi_2 h)) dX0_pushing_75
    · replace h := if_n (by rw [w16]; decide) h
      replace h := if_n (by rw [w16]; decide) h
      replace h := if_n (by rw [w16]; decide) h
      replace h := if_n (by rw [w16]; decide) h
      replace h := if_p w16 h
      refine g_top (y := .int (nI 5)) (congrArg Value.int w16) ?_
      refine g_tableIn hX 76 (by decide) (by decide) rfl (by decide) dX0_pushing_16 ?_
      refine g_iconst hX (v := nI 0) rfl dX0_pushing_76 ?_
      exact g_reti hR (oi_1 h) (congrArg (C ε) (oi_2 h)) dX0_pushing_77
theorem kX0_bearing : mKV RX0 yX0_bearing cX0_bearing 2 (some .int) 0 := ⟨tIns_X0_bearing, tSel_X0_bearing, tIni_X0, tCod_X0_bearing, by decide +kernel⟩
set_option maxHeartbeats 4000000 in
set_option maxRecDepth 100000 in
theorem ct_X0_bearing (l : Launch) (D : va_G) (cy : Nat → ClassId) (Z : (Nat → Prop) → State → Heap → Prop) (hzo : zOK Z) {aStr aByt : Nat → Nat} (hzs : zSt Z aStr aByt) {q : Nat → Nat} {C : Ev → Sg → va_W} (hC : cLens cy q C) (ε : Ev) (c : Nat) (hc : isX0 c) (σ σ2 : Sg) (res : Int32) (h : fn_X0_bearing ε c σ = some (res, σ2)) : GD l D cy Z yX0_bearing (zW yX0_bearing cX0_bearing 2 (some .int)) { frames := 0, cells := 0, slots := 0, locals := 0 } [.ref (sAd ε (c))] (C ε σ) (some (.int res)) (C ε σ2) 0 0 := by
  refine g_entry (cc := cX0_bearing) (maxL := 2) (by decide) rfl (Nat.le_of_ble_eq_true rfl) ?_
  intro κ hN hX hR
  have hX : GX κ cy Z cX0_bearing (Cond.code yX0_bearing cX0_bearing 2 (some .int) :: zT) RX0 { frames := 0, cells := 0, slots := 0, locals := 0 } := hX
  have J56 : ∀ (v1 : Int32) (σ : Sg) , fn_X0_bearing_L56 ε c v1 σ = some (res, σ2) → GW κ 0 0 (C ε σ) 56 [(1, .int (v1))] [] := by
    intro v1 σ h
    refine g_iconst hX (v := nI 2) rfl dX0_bearing_56 ?_
    refine g_iload_n hX 0 rfl rfl dX0_bearing_57 ?_
    refine g_imul hX dX0_bearing_58 ?_
    exact g_reti hR (oi_1 h) (congrArg (C ε) (oi_2 h)) dX0_bearing_59
  have J52 : ∀ (v1 : Int32) (σ : Sg) , fn_X0_bearing_L52 ε c v1 σ = some (res, σ2) → GW κ 0 0 (C ε σ) 52 [(1, .int (v1))] [] := by
    intro v1 σ h
    refine g_iload_n hX 0 rfl rfl dX0_bearing_52 ?_
    refine g_iconst hX (v := nI 5) rfl dX0_bearing_53 ?_
    refine g_iadd hX dX0_bearing_54 ?_
    exact g_reti hR (oi_1 h) (congrArg (C ε) (oi_2 h)) dX0_bearing_55
  show GW κ 0 0 (C ε σ) 0 [(0, .ref (sAd ε (c)))] []
  refine g_aload_n hX 0 rfl rfl dX0_bearing_0 ?_
  refine c_get0 hX hC hc 3 (by decide) rfl tFld_X0_21 rfl dX0_bearing_1 ?_
  refine g_bipush hX (v := nI 10) (by decide) dX0_bearing_4 ?_
  refine g_aload_n hX 0 rfl rfl dX0_bearing_6 ?_
  refine c_get0 hX hC hc 5 (by decide) rfl tFld_X0_27 rfl dX0_bearing_7 ?_
  refine g_imul hX dX0_bearing_10 ?_
  refine g_iadd hX dX0_bearing_11 ?_
  refine g_istore_n (lv2 := [(1, .int ((σ.1 c 3 + (nI 10 * σ.1 c 5)))), (0, .ref (sAd ε (c)))]) hX 1 2 hN rfl (by decide) rfl dX0_bearing_12 ?_
  refine g_aload_n hX 1 rfl rfl dX0_bearing_13 ?_
  refine c_get0 hX hC hc 0 (by decide) rfl tFld_X0_9 rfl dX0_bearing_14 ?_
  rcases sw_in (σ.1 c 0) 1 5 (by decide) with w17 | ⟨j17, w17a, w17b, w17⟩
  · replace h := if_n (sw_out w17 1 (by decide) (by decide) (by decide)) h
    replace h := if_n (sw_out w17 2 (by decide) (by decide) (by decide)) h
    replace h := if_n (sw_out w17 3 (by decide) (by decide) (by decide)) h
    replace h := if_n (sw_out w17 4 (by decide) (by decide) (by decide)) h
    replace h := if_n (sw_out w17 5 (by decide) (by decide) (by decide)) h
    refine g_tableOut hX 64 w17 (by decide) dX0_bearing_17 ?_
    refine g_iload_n hX 0 rfl rfl dX0_bearing_64 ?_
    exact g_reti hR (oi_1 h) (congrArg (C ε) (oi_2 h)) dX0_bearing_65
  · have hj : j17 = 1 ∨ j17 = 2 ∨ j17 = 3 ∨ j17 = 4 ∨ j17 = 5 := by omega
    rcases hj with rfl | rfl | rfl | rfl | rfl
    · replace h := if_p w17 h
      refine g_top (y := .int (nI 1)) (congrArg Value.int w17) ?_
      refine g_tableIn hX 52 (by decide) (by decide) rfl (by decide) dX0_bearing_17 ?_
      refine g_lv [0] rfl ?_
      exact J52 ((σ.1 c 3 + (nI 10 * σ.1 c 5)))  σ h
    · replace h := if_n (by rw [w17]; decide) h
      replace h := if_p w17 h
      refine g_top (y := .int (nI 2)) (congrArg Value.int w17) ?_
      refine g_tableIn hX 56 (by decide) (by decide) rfl (by decide) dX0_bearing_17 ?_
      refine g_lv [0] rfl ?_
      exact J56 ((σ.1 c 3 + (nI 10 * σ.1 c 5)))  σ h
    · replace h := if_n (by rw [w17]; decide) h
      replace h := if_n (by rw [w17]; decide) h
      replace h := if_p w17 h
      refine g_top (y := .int (nI 3)) (congrArg Value.int w17) ?_
      refine g_tableIn hX 52 (by decide) (by decide) rfl (by decide) dX0_bearing_17 ?_
      refine g_lv [0] rfl ?_
      exact J52 ((σ.1 c 3 + (nI 10 * σ.1 c 5)))  σ h
    · replace h := if_n (by rw [w17]; decide) h
      replace h := if_n (by rw [w17]; decide) h
      replace h := if_n (by rw [w17]; decide) h
      replace h := if_p w17 h
      refine g_top (y := .int (nI 4)) (congrArg Value.int w17) ?_
      refine g_tableIn hX 56 (by decide) (by decide) rfl (by decide) dX0_bearing_17 ?_
      refine g_lv [0] rfl ?_
      exact J56 ((σ.1 c 3 + (nI 10 * σ.1 c 5)))  σ h
    · replace h := if_n (by rw [w17]; decide) h
      replace h := if_n (by rw [w17]; decide) h
      replace h := if_n (by rw [w17]; decide) h
      replace h := if_n (by rw [w17]; decide) h
      replace h := if_p w17 h
      refine g_top (y := .int (nI 5)) (congrArg Value.int w17) ?_
      refine g_tableIn hX 60 (by decide) (by decide) rfl (by decide) dX0_bearing_17 ?_
      refine g_sipush hX (v := nI 999) (by decide) dX0_bearing_60 ?_
      exact g_reti hR (oi_1 h) (congrArg (C ε) (oi_2 h)) dX0_bearing_63
theorem kX0_worth : mKV RX0 yX0_worth cX0_worth 1 (some .int) 0 := ⟨tIns_X0_worth, tSel_X0_worth, tIni_X0, tCod_X0_worth, by decide +kernel⟩
set_option maxHeartbeats 4000000 in
set_option maxRecDepth 100000 in
theorem ct_X0_worth (l : Launch) (D : va_G) (cy : Nat → ClassId) (Z : (Nat → Prop) → State → Heap → Prop) (hzo : zOK Z) {aStr aByt : Nat → Nat} (hzs : zSt Z aStr aByt) {q : Nat → Nat} {C : Ev → Sg → va_W} (hC : cLens cy q C) (ε : Ev) (c : Nat) (hc : isX0 c) (σ σ2 : Sg) (res : Int32) (h : fn_X0_worth ε c σ = some (res, σ2)) : GD l D cy Z yX0_worth (zW yX0_worth cX0_worth 1 (some .int)) { frames := 0, cells := 0, slots := 0, locals := 0 } [.ref (sAd ε (c))] (C ε σ) (some (.int res)) (C ε σ2) 0 0 := by
  refine g_entry (cc := cX0_worth) (maxL := 1) (by decide) rfl (Nat.le_of_ble_eq_true rfl) ?_
  intro κ hN hX hR
  have hX : GX κ cy Z cX0_worth (Cond.code yX0_worth cX0_worth 1 (some .int) :: zT) RX0 { frames := 0, cells := 0, slots := 0, locals := 0 } := hX
  show GW κ 0 0 (C ε σ) 0 [(0, .ref (sAd ε (c)))] []
  refine g_aload_n hX 0 rfl rfl dX0_worth_0 ?_
  refine c_get0 hX hC hc 0 (by decide) rfl tFld_X0_9 rfl dX0_worth_1 ?_
  rcases sw_in (σ.1 c 0) 1 5 (by decide) with w4 | ⟨j4, w4a, w4b, w4⟩
  · replace h := if_n (sw_out w4 1 (by decide) (by decide) (by decide)) h
    replace h := if_n (sw_out w4 2 (by decide) (by decide) (by decide)) h
    replace h := if_n (sw_out w4 3 (by decide) (by decide) (by decide)) h
    replace h := if_n (sw_out w4 4 (by decide) (by decide) (by decide)) h
    replace h := if_n (sw_out w4 5 (by decide) (by decide) (by decide)) h
    refine g_tableOut hX 79 w4 (by decide) dX0_worth_4 ?_
    refine g_aload_n hX 0 rfl rfl dX0_worth_79 ?_
    refine c_get0 hX hC hc 3 (by decide) rfl tFld_X0_21 rfl dX0_worth_80 ?_
    exact g_reti hR (oi_1 h) (congrArg (C ε) (oi_2 h)) dX0_worth_83
  · have hj : j4 = 1 ∨ j4 = 2 ∨ j4 = 3 ∨ j4 = 4 ∨ j4 = 5 := by omega
    rcases hj with rfl | rfl | rfl | rfl | rfl
    · replace h := if_p w4 h
      refine g_top (y := .int (nI 1)) (congrArg Value.int w4) ?_
      refine g_tableIn hX 40 (by decide) (by decide) rfl (by decide) dX0_worth_4 ?_
      refine g_aload_n hX 0 rfl rfl dX0_worth_40 ?_
      refine c_get0 hX hC hc 3 (by decide) rfl tFld_X0_21 rfl dX0_worth_41 ?_
      refine g_bipush hX (v := nI 7) (by decide) dX0_worth_44 ?_
      refine g_iadd hX dX0_worth_46 ?_
      exact g_reti hR (oi_1 h) (congrArg (C ε) (oi_2 h)) dX0_worth_47
    · replace h := if_n (by rw [w4]; decide) h
      replace h := if_p w4 h
      refine g_top (y := .int (nI 2)) (congrArg Value.int w4) ?_
      refine g_tableIn hX 58 (by decide) (by decide) rfl (by decide) dX0_worth_4 ?_
      refine g_bipush hX (v := nI 99) (by decide) dX0_worth_58 ?_
      refine g_aload_n hX 0 rfl rfl dX0_worth_60 ?_
      refine c_get0 hX hC hc 3 (by decide) rfl tFld_X0_21 rfl dX0_worth_61 ?_
      refine g_isub hX dX0_worth_64 ?_
      exact g_reti hR (oi_1 h) (congrArg (C ε) (oi_2 h)) dX0_worth_65
    · replace h := if_n (by rw [w4]; decide) h
      replace h := if_n (by rw [w4]; decide) h
      replace h := if_p w4 h
      refine g_top (y := .int (nI 3)) (congrArg Value.int w4) ?_
      refine g_tableIn hX 48 (by decide) (by decide) rfl (by decide) dX0_worth_4 ?_
      refine g_iconst hX (v := nI 2) rfl dX0_worth_48 ?_
      refine g_aload_n hX 0 rfl rfl dX0_worth_49 ?_
      refine c_get0 hX hC hc 3 (by decide) rfl tFld_X0_21 rfl dX0_worth_50 ?_
      refine g_bipush hX (v := nI 7) (by decide) dX0_worth_53 ?_
      refine g_iadd hX dX0_worth_55 ?_
      refine g_imul hX dX0_worth_56 ?_
      exact g_reti hR (oi_1 h) (congrArg (C ε) (oi_2 h)) dX0_worth_57
    · replace h := if_n (by rw [w4]; decide) h
      replace h := if_n (by rw [w4]; decide) h
      replace h := if_n (by rw [w4]; decide) h
      replace h := if_p w4 h
      refine g_top (y := .int (nI 4)) (congrArg Value.int w4) ?_
      refine g_tableIn hX 66 (by decide) (by decide) rfl (by decide) dX0_worth_4 ?_
      refine g_bipush hX (v := nI 99) (by decide) dX0_worth_66 ?_
      refine g_aload_n hX 0 rfl rfl dX0_worth_68 ?_
      refine c_get0 hX hC hc 3 (by decide) rfl tFld_X0_21 rfl dX0_worth_69 ?_
      refine g_isub hX dX0_worth_72 ?_
      refine g_iconst hX (v := nI 5) rfl dX0_worth_73 ?_
      refine g_isub hX dX0_worth_74 ?_
      exact g_reti hR (oi_1 h) (congrArg (C ε) (oi_2 h)) dX0_worth_75
    · replace h := if_n (by rw [w4]; decide) h
      replace h := if_n (by rw [w4]; decide) h
      replace h := if_n (by rw [w4]; decide) h
      replace h := if_n (by rw [w4]; decide) h
      replace h := if_p w4 h
      refine g_top (y := .int (nI 5)) (congrArg Value.int w4) ?_
      refine g_tableIn hX 76 (by decide) (by decide) rfl (by decide) dX0_worth_4 ?_
      refine g_bipush hX (v := nI 6) (by decide) dX0_worth_76 ?_
      exact g_reti hR (oi_1 h) (congrArg (C ε) (oi_2 h)) dX0_worth_78
