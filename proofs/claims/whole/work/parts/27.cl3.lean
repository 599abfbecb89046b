def fn_X4_beLike_L84 (ε : Ev) (c : Nat) (c1 : Nat)  (σ : Sg) : Option (Unit × Sg) := some ((), pI (pI (pI (pI (pI (pI σ c 6 (σ.1 c1 6)) c 7 ((pI σ c 6 (σ.1 c1 6)).1 c1 7)) c 8 ((pI (pI σ c 6 (σ.1 c1 6)) c 7 ((pI σ c 6 (σ.1 c1 6)).1 c1 7)).1 c1 8)) c 9 ((pI (pI (pI σ c 6 (σ.1 c1 6)) c 7 ((pI σ c 6 (σ.1 c1 6)).1 c1 7)) c 8 ((pI (pI σ c 6 (σ.1 c1 6)) c 7 ((pI σ c 6 (σ.1 c1 6)).1 c1 7)).1 c1 8)).1 c1 9)) c 10 ((pI (pI (pI (pI σ c 6 (σ.1 c1 6)) c 7 ((pI σ c 6 (σ.1 c1 6)).1 c1 7)) c 8 ((pI (pI σ c 6 (σ.1 c1 6)) c 7 ((pI σ c 6 (σ.1 c1 6)).1 c1 7)).1 c1 8)) c 9 ((pI (pI (pI σ c 6 (σ.1 c1 6)) c 7 ((pI σ c 6 (σ.1 c1 6)).1 c1 7)) c 8 ((pI (pI σ c 6 (σ.1 c1 6)) c 7 ((pI σ c 6 (σ.1 c1 6)).1 c1 7)).1 c1 8)).1 c1 9)).1 c1 10)) c 11 ((pI (pI (pI (pI (pI σ c 6 (σ.1 c1 6)) c 7 ((pI σ c 6 (σ.1 c1 6)).1 c1 7)) c 8 ((pI (pI σ c 6 (σ.1 c1 6)) c 7 ((pI σ c 6 (σ.1 c1 6)).1 c1 7)).1 c1 8)) c 9 ((pI (pI (pI σ c 6 (σ.1 c1 6)) c 7 ((pI σ c 6 (σ.1 c1 6)).1 c1 7)) c 8 ((pI (pI σ c 6 (σ.1 c1 6)) c 7 ((pI σ c 6 (σ.1 c1 6)).1 c1 7)).1 c1 8)).1 c1 9)) c 10 ((pI (pI (pI (pI σ c 6 (σ.1 c1 6)) c 7 ((pI σ c 6 (σ.1 c1 6)).1 c1 7)) c 8 ((pI (pI σ c 6 (σ.1 c1 6)) c 7 ((pI σ c 6 (σ.1 c1 6)).1 c1 7)).1 c1 8)) c 9 ((pI (pI (pI σ c 6 (σ.1 c1 6)) c 7 ((pI σ c 6 (σ.1 c1 6)).1 c1 7)) c 8 ((pI (pI σ c 6 (σ.1 c1 6)) c 7 ((pI σ c 6 (σ.1 c1 6)).1 c1 7)).1 c1 8)).1 c1 9)).1 c1 10)).1 c1 11))
def fn_X4_beLike_L61 (ε : Ev) (c : Nat) (c1 : Nat) (k84 : Sg → Option (Unit × Sg)) : Nat → Int32 → Sg → Option (Unit × Sg)
  | 0 => fun _ _ => none
  | fuel + 1 => fun (v2 : Int32) (σ : Sg) => (if nI 3 ≤ v2 then (k84  σ) else (if ¬ (v2 < 0 ∨ 3 ≤ v2.toNatClampNeg) then (if (∀ x ∈ (σ.2 (c1 + 3) v2.toNatClampNeg), isX5 ε x) then ((fn_X4_beLike_L61 ε c c1 k84 fuel) ((v2 + nI 1)) (pT σ (c + 3) v2.toNatClampNeg (σ.2 (c1 + 3) v2.toNatClampNeg))) else none) else none))
def fn_X4_beLike_L59 (ε : Ev) (c : Nat) (c1 : Nat)  (σ : Sg) : Option (Unit × Sg) := ((fn_X4_beLike_L61 ε c c1 (fn_X4_beLike_L84 ε c c1) 4000) (nI 0) σ)
def fn_X4_beLike_L33 (ε : Ev) (c : Nat) (c1 : Nat) (k59 : Sg → Option (Unit × Sg)) : Nat → Int32 → Sg → Option (Unit × Sg)
  | 0 => fun _ _ => none
  | fuel + 1 => fun (v2 : Int32) (σ : Sg) => (if σ.1 c1 7 ≤ v2 then (k59  σ) else (if ¬ (v2 < 0 ∨ 14 ≤ v2.toNatClampNeg) then (if (∀ x ∈ (σ.2 (c1 + 2) v2.toNatClampNeg), isX5 ε x) then ((fn_X4_beLike_L33 ε c c1 k59 fuel) ((v2 + nI 1)) (pT σ (c + 2) v2.toNatClampNeg (σ.2 (c1 + 2) v2.toNatClampNeg))) else none) else none))
def fn_X4_beLike_L31 (ε : Ev) (c : Nat) (c1 : Nat)  (σ : Sg) : Option (Unit × Sg) := ((fn_X4_beLike_L33 ε c c1 (fn_X4_beLike_L59 ε c c1) 4000) (nI 0) σ)
def fn_X4_beLike_L2 (ε : Ev) (c : Nat) (c1 : Nat) (k31 : Sg → Option (Unit × Sg)) : Nat → Int32 → Sg → Option (Unit × Sg)
  | 0 => fun _ _ => none
  | fuel + 1 => fun (v2 : Int32) (σ : Sg) => (if σ.1 c1 6 ≤ v2 then (k31  σ) else (if ¬ (v2 < 0 ∨ 9 ≤ v2.toNatClampNeg) then (ob (fn_X0_beLike ε (c + 7 + v2.toNatClampNeg) (c1 + 7 + v2.toNatClampNeg) σ) (fun y22 τ22 => ((fn_X4_beLike_L2 ε c c1 k31 fuel) ((v2 + nI 1)) τ22))) else none))
def fn_X4_beLike (ε : Ev) (c : Nat) (c1 : Nat) (σ : Sg) : Option (Unit × Sg) := ((fn_X4_beLike_L2 ε c c1 (fn_X4_beLike_L31 ε c c1) 4000) (nI 0) σ)
def fn_X4_build (ε : Ev) (c : Nat) (z1 : Int32) (z2 : Int32) (z3 : Int32) (z4 : Int32) (σ : Sg) : Option (Unit × Sg) := (if σ.1 c 6 < nI 9 then (if ¬ (σ.1 c 6 < 0 ∨ 9 ≤ (σ.1 c 6).toNatClampNeg) then (ob (fn_X0_rise ε (c + 7 + (σ.1 c 6).toNatClampNeg) σ) (fun y23 τ23 => some ((), pI (pI (pI (pI (pI (pI τ23 (c + 7 + (σ.1 c 6).toNatClampNeg) 0 z1) (c + 7 + (σ.1 c 6).toNatClampNeg) 1 z2) (c + 7 + (σ.1 c 6).toNatClampNeg) 2 z3) (c + 7 + (σ.1 c 6).toNatClampNeg) 3 z4) (c + 7 + (σ.1 c 6).toNatClampNeg) 5 (nI 0)) c 6 (((pI (pI (pI (pI (pI τ23 (c + 7 + (σ.1 c 6).toNatClampNeg) 0 z1) (c + 7 + (σ.1 c 6).toNatClampNeg) 1 z2) (c + 7 + (σ.1 c 6).toNatClampNeg) 2 z3) (c + 7 + (σ.1 c 6).toNatClampNeg) 3 z4) (c + 7 + (σ.1 c 6).toNatClampNeg) 5 (nI 0)).1 c 6 + nI 1))))) else none) else some ((), σ))
def fn_X4_draw (ε : Ev) (c : Nat) (σ : Sg) : Option (Int32 × Sg) := some ((Int32.toUInt32 ((pI σ c 11 (((σ.1 c 11 * (1103515245)) + nI 12345))).1 c 11) >>> (Int32.toUInt32 (nI 8) &&& Int32.toUInt32 31)).toInt32, pI σ c 11 (((σ.1 c 11 * (1103515245)) + nI 12345)))
def fn_X4_buildByLot (ε : Ev) (c : Nat) (σ : Sg) : Option (Unit × Sg) := (ob (fn_X4_draw ε c σ) (fun y1 τ1 => (ob (fn_X4_draw ε c τ1) (fun y10 τ10 => (ob (fn_X4_draw ε c τ10) (fun y19 τ19 => (ob (fn_X4_draw ε c τ19) (fun y30 τ30 => (ob (fn_X4_build ε c ((y1 - y1 / nI 6 * nI 6)) ((nI 1 + (y10 - y10 / nI 60 * nI 60))) (((y19 - y19 / nI 41 * nI 41) - nI 20)) ((y30 - y30 / nI 60 * nI 60)) τ30) (fun y44 τ44 => some ((), τ44)))))))))))
def fn_X4_addText_L24 (ε : Ev) (c : Nat) (c1 : Nat)  (σ : Sg) : Option (Unit × Sg) := some ((), σ)
def fn_X4_addText (ε : Ev) (c : Nat) (c1 : Nat) (σ : Sg) : Option (Unit × Sg) := (if nI 14 ≤ σ.1 c 7 then ((fn_X4_addText_L24 ε c c1)  σ) else (if σ.1 c1 1 < 0 then ((fn_X4_addText_L24 ε c c1)  σ) else (if σ.1 c1 1 < nI 3 then (if ¬ (σ.1 c 7 < 0 ∨ 14 ≤ (σ.1 c 7).toNatClampNeg) then (if ¬ ((pT σ (c + 2) (σ.1 c 7).toNatClampNeg (some c1)).1 c1 1 < 0 ∨ 3 ≤ ((pT σ (c + 2) (σ.1 c 7).toNatClampNeg (some c1)).1 c1 1).toNatClampNeg) then some ((), pI (pT (pT σ (c + 2) (σ.1 c 7).toNatClampNeg (some c1)) (c + 3) ((pT σ (c + 2) (σ.1 c 7).toNatClampNeg (some c1)).1 c1 1).toNatClampNeg (some c1)) c 7 (((pT (pT σ (c + 2) (σ.1 c 7).toNatClampNeg (some c1)) (c + 3) ((pT σ (c + 2) (σ.1 c 7).toNatClampNeg (some c1)).1 c1 1).toNatClampNeg (some c1)).1 c 7 + nI 1))) else none) else none) else ((fn_X4_addText_L24 ε c c1)  σ))))
def fn_X4_takeWalls_L91 (ε : Ev) (c : Nat) (c1 : Nat) (v2 : Int32) (σ : Sg) : Option (Int32 × Sg) := some (v2, σ)
def fn_X4_takeWalls_L85 (ε : Ev) (c : Nat) (c1 : Nat) (slf : Int32 → Int32 → Sg → Option (Int32 × Sg)) (k91 : Int32 → Sg → Option (Int32 × Sg)) (v2 : Int32) (v3 : Int32) (σ : Sg) : Option (Int32 × Sg) := (slf v2 ((v3 + nI 1)) σ)
def fn_X4_takeWalls_L72 (ε : Ev) (c : Nat) (c1 : Nat) (slf : Int32 → Int32 → Sg → Option (Int32 × Sg)) (k91 : Int32 → Sg → Option (Int32 × Sg)) (v3 : Int32) (v4 : Int32) (s0 : Int32) (s1 : Int32) (σ : Sg) : Option (Int32 × Sg) := (if ¬ (v3 < 0 ∨ 9 ≤ v3.toNatClampNeg) then ((fn_X4_takeWalls_L85 ε c c1 slf k91) ((s1 + s0)) v3 (pI σ (c + 7 + v3.toNatClampNeg) 3 v4)) else none)
def fn_X4_takeWalls_L4 (ε : Ev) (c : Nat) (c1 : Nat) (k91 : Int32 → Sg → Option (Int32 × Sg)) : Nat → Int32 → Int32 → Sg → Option (Int32 × Sg)
  | 0 => fun _ _ _ => none
  | fuel + 1 => fun (v2 : Int32) (v3 : Int32) (σ : Sg) => (if σ.1 c 6 ≤ v3 then (k91 v2 σ) else (if σ.1 c1 2 ≤ v3 then (k91 v2 σ) else (ob (fn_X2_isNumber ε c1 v3 σ) (fun y22 τ22 => (if y22 = 0 then ((fn_X4_takeWalls_L85 ε c c1 (fn_X4_takeWalls_L4 ε c c1 k91 fuel) k91) v2 v3 τ22) else (if ¬ (nI 3 < 0 ∨ 6 ≤ (nI 3).toNatClampNeg) then (if ¬ (v3 < 0 ∨ 24 ≤ v3.toNatClampNeg) then (if ¬ (v3 < 0 ∨ 9 ≤ v3.toNatClampNeg) then (if (mxI (tabLEAST (nI 3).toNatClampNeg) ((mnI (tabMOST (nI 3).toNatClampNeg) (τ22.1 (c1 + 1) v3.toNatClampNeg)))) = τ22.1 (c + 7 + v3.toNatClampNeg) 3 then ((fn_X4_takeWalls_L72 ε c c1 (fn_X4_takeWalls_L4 ε c c1 k91 fuel) k91) v3 ((mxI (tabLEAST (nI 3).toNatClampNeg) ((mnI (tabMOST (nI 3).toNatClampNeg) (τ22.1 (c1 + 1) v3.toNatClampNeg))))) (nI 0) v2 τ22) else ((fn_X4_takeWalls_L72 ε c c1 (fn_X4_takeWalls_L4 ε c c1 k91 fuel) k91) v3 ((mxI (tabLEAST (nI 3).toNatClampNeg) ((mnI (tabMOST (nI 3).toNatClampNeg) (τ22.1 (c1 + 1) v3.toNatClampNeg))))) (nI 1) v2 τ22)) else none) else none) else none))))))
def fn_X4_takeWalls (ε : Ev) (c : Nat) (c1 : Nat) (σ : Sg) : Option (Int32 × Sg) := ((fn_X4_takeWalls_L4 ε c c1 (fn_X4_takeWalls_L91 ε c c1) 4000) (nI 0) (nI 0) σ)
def fn_X4_differsFrom_L64 (ε : Ev) (c : Nat) (c1 : Nat) (v2 : Int32) (σ : Sg) : Option (Int32 × Sg) := some (v2, σ)
def fn_X4_differsFrom_L58 (ε : Ev) (c : Nat) (c1 : Nat) (slf : Int32 → Int32 → Sg → Option (Int32 × Sg)) (k64 : Int32 → Sg → Option (Int32 × Sg)) (v2 : Int32) (v3 : Int32) (σ : Sg) : Option (Int32 × Sg) := (slf v2 ((v3 + nI 1)) σ)
def fn_X4_differsFrom_L41 (ε : Ev) (c : Nat) (c1 : Nat) (slf : Int32 → Int32 → Sg → Option (Int32 × Sg)) (k64 : Int32 → Sg → Option (Int32 × Sg)) (v2 : Int32) (v3 : Int32) (s0 : Int32) (σ : Sg) : Option (Int32 × Sg) := (if ¬ (v3 < 0 ∨ 24 ≤ v3.toNatClampNeg) then ((fn_X4_differsFrom_L58 ε c c1 slf k64) ((v2 + (abI ((s0 - σ.1 (c1 + 1) v3.toNatClampNeg))))) v3 σ) else none)
def fn_X4_differsFrom_L4 (ε : Ev) (c : Nat) (c1 : Nat) (k64 : Int32 → Sg → Option (Int32 × Sg)) : Nat → Int32 → Int32 → Sg → Option (Int32 × Sg)
  | 0 => fun _ _ _ => none
  | fuel + 1 => fun (v2 : Int32) (v3 : Int32) (σ : Sg) => (if σ.1 c1 2 ≤ v3 then (k64 v2 σ) else (ob (fn_X2_isNumber ε c1 v3 σ) (fun y14 τ14 => (if y14 = 0 then ((fn_X4_differsFrom_L58 ε c c1 (fn_X4_differsFrom_L4 ε c c1 k64 fuel) k64) v2 v3 τ14) else (if τ14.1 c 6 ≤ v3 then ((fn_X4_differsFrom_L41 ε c c1 (fn_X4_differsFrom_L4 ε c c1 k64 fuel) k64) v2 v3 (nI 0) τ14) else (if ¬ (v3 < 0 ∨ 9 ≤ v3.toNatClampNeg) then ((fn_X4_differsFrom_L41 ε c c1 (fn_X4_differsFrom_L4 ε c c1 k64 fuel) k64) v2 v3 (τ14.1 (c + 7 + v3.toNatClampNeg) 4) τ14) else none))))))
def fn_X4_differsFrom (ε : Ev) (c : Nat) (c1 : Nat) (σ : Sg) : Option (Int32 × Sg) := ((fn_X4_differsFrom_L4 ε c c1 (fn_X4_differsFrom_L64 ε c c1) 4000) (nI 0) (nI 0) σ)
def fn_X4_pushOf_L45 (ε : Ev) (c : Nat) (c1 : Nat) (s0 : Int32) (σ : Sg) : Option (Int32 × Sg) := (ob (fn_X0_pushing ε c1 s0 σ) (fun y45 τ45 => some (y45, τ45)))
def fn_X4_pushOf (ε : Ev) (c : Nat) (c1 : Nat) (σ : Sg) : Option (Int32 × Sg) := (if ¬ (nI 0 < 0 ∨ 3 ≤ (nI 0).toNatClampNeg) then (oq (σ.2 (c + 3) (nI 0).toNatClampNeg) ((fn_X4_pushOf_L45 ε c c1) (((σ.1 c1 1 * (abI (σ.1 c1 2))) / nI 10)) σ) (fun x17 => (if isX5 ε x17 then (ob (fn_X5_value ε x17 (σ.1 c1 1) ((abI (σ.1 c1 2))) (σ.1 c1 4) σ) (fun y42 τ42 => ((fn_X4_pushOf_L45 ε c c1) y42 τ42))) else none))) else none)
def fn_X4_workOutThrusts_L147 (ε : Ev) (c : Nat)  (σ : Sg) : Option (Unit × Sg) := some ((), σ)
def fn_X4_workOutThrusts_L141 (ε : Ev) (c : Nat) (slf : Int32 → Int32 → Sg → Option (Unit × Sg)) (k147 : Sg → Option (Unit × Sg)) (v1 : Int32) (v2 : Int32) (σ : Sg) : Option (Unit × Sg) := (slf v1 ((v2 + nI 1)) σ)
def fn_X4_workOutThrusts_L139 (ε : Ev) (c : Nat) (slf : Int32 → Int32 → Sg → Option (Unit × Sg)) (k147 : Sg → Option (Unit × Sg)) (v2 : Int32) (σ : Sg) : Option (Unit × Sg) := ((fn_X4_workOutThrusts_L141 ε c slf k147) v2 v2 σ)
def fn_X4_workOutThrusts_L137 (ε : Ev) (c : Nat) (slf : Int32 → Int32 → Sg → Option (Unit × Sg)) (k147 : Sg → Option (Unit × Sg)) (v2 : Int32) (s0 : Int32) (s1 : Int32) (s2 : Int32) (σ : Sg) : Option (Unit × Sg) := (if ¬ (s2 < 0 ∨ 9 ≤ s2.toNatClampNeg) then ((fn_X4_workOutThrusts_L139 ε c slf k147) v2 (pI σ (c + 4) s2.toNatClampNeg ((s1 - s0)))) else none)
def fn_X4_workOutThrusts_L102 (ε : Ev) (c : Nat) (slf : Int32 → Int32 → Sg → Option (Unit × Sg)) (k147 : Sg → Option (Unit × Sg)) (v1 : Int32) (v2 : Int32) (s0 : Int32) (s1 : Int32) (s2 : Int32) (σ : Sg) : Option (Unit × Sg) := (if ¬ (s2 < 0 ∨ 9 ≤ s2.toNatClampNeg) then (if ¬ (v1 < 0 ∨ 9 ≤ v1.toNatClampNeg) then (if ¬ (v2 < 0 ∨ 9 ≤ v2.toNatClampNeg) then (if 0 ≤ (pI σ (c + 4) s2.toNatClampNeg ((s1 + s0))).1 (c + 7 + v2.toNatClampNeg) 2 then ((fn_X4_workOutThrusts_L137 ε c slf k147) v2 (nI 0) ((pI σ (c + 4) s2.toNatClampNeg ((s1 + s0))).1 (c + 4) v1.toNatClampNeg) v1 (pI σ (c + 4) s2.toNatClampNeg ((s1 + s0)))) else (ob (fn_X4_pushOf ε c (c + 7 + v2.toNatClampNeg) (pI σ (c + 4) s2.toNatClampNeg ((s1 + s0)))) (fun y130 τ130 => ((fn_X4_workOutThrusts_L137 ε c slf k147) v2 y130 ((pI σ (c + 4) s2.toNatClampNeg ((s1 + s0))).1 (c + 4) v1.toNatClampNeg) v1 τ130)))) else none) else none) else none)
def fn_X4_workOutThrusts_L4 (ε : Ev) (c : Nat) (k147 : Sg → Option (Unit × Sg)) : Nat → Int32 → Int32 → Sg → Option (Unit × Sg)
  | 0 => fun _ _ _ => none
  | fuel + 1 => fun (v1 : Int32) (v2 : Int32) (σ : Sg) => (if σ.1 c 6 ≤ v2 then (k147  σ) else (if ¬ (v2 < 0 ∨ 9 ≤ v2.toNatClampNeg) then (if (pI (pI (pI σ (c + 4) v2.toNatClampNeg (nI 0)) (c + 5) v2.toNatClampNeg v1) (c + 6) v2.toNatClampNeg ((-1))).1 (c + 7 + v2.toNatClampNeg) 6 = 0 then ((fn_X4_workOutThrusts_L141 ε c (fn_X4_workOutThrusts_L4 ε c k147 fuel) k147) v1 v2 (pI (pI (pI σ (c + 4) v2.toNatClampNeg (nI 0)) (c + 5) v2.toNatClampNeg v1) (c + 6) v2.toNatClampNeg ((-1)))) else (if v1 < 0 then ((fn_X4_workOutThrusts_L139 ε c (fn_X4_workOutThrusts_L4 ε c k147 fuel) k147) v2 (pI (pI (pI (pI σ (c + 4) v2.toNatClampNeg (nI 0)) (c + 5) v2.toNatClampNeg v1) (c + 6) v2.toNatClampNeg ((-1))) (c + 4) v2.toNatClampNeg ((pI (pI (pI σ (c + 4) v2.toNatClampNeg (nI 0)) (c + 5) v2.toNatClampNeg v1) (c + 6) v2.toNatClampNeg ((-1))).1 c 8))) else (if ¬ (v1 < 0 ∨ 9 ≤ v1.toNatClampNeg) then (if (pI (pI (pI (pI (pI σ (c + 4) v2.toNatClampNeg (nI 0)) (c + 5) v2.toNatClampNeg v1) (c + 6) v2.toNatClampNeg ((-1))) (c + 4) v2.toNatClampNeg ((pI (pI (pI σ (c + 4) v2.toNatClampNeg (nI 0)) (c + 5) v2.toNatClampNeg v1) (c + 6) v2.toNatClampNeg ((-1))).1 c 8)) (c + 6) v1.toNatClampNeg v2).1 (c + 7 + v1.toNatClampNeg) 2 ≤ 0 then ((fn_X4_workOutThrusts_L102 ε c (fn_X4_workOutThrusts_L4 ε c k147 fuel) k147) v1 v2 (nI 0) ((pI (pI (pI (pI (pI σ (c + 4) v2.toNatClampNeg (nI 0)) (c + 5) v2.toNatClampNeg v1) (c + 6) v2.toNatClampNeg ((-1))) (c + 4) v2.toNatClampNeg ((pI (pI (pI σ (c + 4) v2.toNatClampNeg (nI 0)) (c + 5) v2.toNatClampNeg v1) (c + 6) v2.toNatClampNeg ((-1))).1 c 8)) (c + 6) v1.toNatClampNeg v2).1 (c + 4) v2.toNatClampNeg) v2 (pI (pI (pI (pI (pI σ (c + 4) v2.toNatClampNeg (nI 0)) (c + 5) v2.toNatClampNeg v1) (c + 6) v2.toNatClampNeg ((-1))) (c + 4) v2.toNatClampNeg ((pI (pI (pI σ (c + 4) v2.toNatClampNeg (nI 0)) (c + 5) v2.toNatClampNeg v1) (c + 6) v2.toNatClampNeg ((-1))).1 c 8)) (c + 6) v1.toNatClampNeg v2)) else (ob (fn_X4_pushOf ε c (c + 7 + v1.toNatClampNeg) (pI (pI (pI (pI (pI σ (c + 4) v2.toNatClampNeg (nI 0)) (c + 5) v2.toNatClampNeg v1) (c + 6) v2.toNatClampNeg ((-1))) (c + 4) v2.toNatClampNeg ((pI (pI (pI σ (c + 4) v2.toNatClampNeg (nI 0)) (c + 5) v2.toNatClampNeg v1) (c + 6) v2.toNatClampNeg ((-1))).1 c 8)) (c + 6) v1.toNatClampNeg v2)) (fun y95 τ95 => ((fn_X4_workOutThrusts_L102 ε c (fn_X4_workOutThrusts_L4 ε c k147 fuel) k147) v1 v2 y95 ((pI (pI (pI (pI (pI σ (c + 4) v2.toNatClampNeg (nI 0)) (c + 5) v2.toNatClampNeg v1) (c + 6) v2.toNatClampNeg ((-1))) (c + 4) v2.toNatClampNeg ((pI (pI (pI σ (c + 4) v2.toNatClampNeg (nI 0)) (c + 5) v2.toNatClampNeg v1) (c + 6) v2.toNatClampNeg ((-1))).1 c 8)) (c + 6) v1.toNatClampNeg v2).1 (c + 4) v2.toNatClampNeg) v2 τ95)))) else none))) else none))
def fn_X4_workOutThrusts (ε : Ev) (c : Nat) (σ : Sg) : Option (Unit × Sg) := ((fn_X4_workOutThrusts_L4 ε c (fn_X4_workOutThrusts_L147 ε c) 4000) ((-1)) (nI 0) σ)
def fn_X4_tooMuch_L35 (ε : Ev) (c : Nat) (z1 : Int32) (s0 : Int32) (σ : Sg) : Option (Int32 × Sg) := some (s0, σ)
def fn_X4_tooMuch (ε : Ev) (c : Nat) (z1 : Int32) (σ : Sg) : Option (Int32 × Sg) := (if ¬ (z1 < 0 ∨ 9 ≤ z1.toNatClampNeg) then (if σ.1 (c + 7 + z1.toNatClampNeg) 6 = 0 then ((fn_X4_tooMuch_L35 ε c z1) (nI 0) σ) else (ob (fn_X0_bearing ε (c + 7 + z1.toNatClampNeg) σ) (fun y27 τ27 => ((fn_X4_tooMuch_L35 ε c z1) (((abI (σ.1 (c + 4) z1.toNatClampNeg)) - y27)) τ27)))) else none)
def fn_X4_notHolding_L36 (ε : Ev) (c : Nat) (v1 : Int32) (σ : Sg) : Option (Int32 × Sg) := some (v1, σ)
def fn_X4_notHolding_L30 (ε : Ev) (c : Nat) (slf : Int32 → Int32 → Sg → Option (Int32 × Sg)) (k36 : Int32 → Sg → Option (Int32 × Sg)) (v1 : Int32) (v2 : Int32) (σ : Sg) : Option (Int32 × Sg) := (slf v1 ((v2 + nI 1)) σ)
def fn_X4_notHolding_L8 (ε : Ev) (c : Nat) (k36 : Int32 → Sg → Option (Int32 × Sg)) : Nat → Int32 → Int32 → Sg → Option (Int32 × Sg)
  | 0 => fun _ _ _ => none
  | fuel + 1 => fun (v1 : Int32) (v2 : Int32) (σ : Sg) => (if σ.1 c 6 ≤ v2 then (k36 v1 σ) else (ob (fn_X4_tooMuch ε c v2 σ) (fun y18 τ18 => (if y18 ≤ 0 then ((fn_X4_notHolding_L30 ε c (fn_X4_notHolding_L8 ε c k36 fuel) k36) v1 v2 τ18) else ((fn_X4_notHolding_L30 ε c (fn_X4_notHolding_L8 ε c k36 fuel) k36) ((v1 ||| (nI 1 <<< (v2 &&& 31)))) v2 τ18)))))
def fn_X4_notHolding (ε : Ev) (c : Nat) (σ : Sg) : Option (Int32 × Sg) := (ob (fn_X4_workOutThrusts ε c σ) (fun y1 τ1 => ((fn_X4_notHolding_L8 ε c (fn_X4_notHolding_L36 ε c) 4000) (nI 0) (nI 0) τ1)))
def fn_X4_crackAndMove_L103 (ε : Ev) (c : Nat) (v1 : Int32) (σ : Sg) : Option (Int32 × Sg) := (if v1 = 0 ∨ v1 = 1 then some (v1, σ) else none)
def fn_X4_crackAndMove_L97 (ε : Ev) (c : Nat) (slf : Int32 → Int32 → Sg → Option (Int32 × Sg)) (k103 : Int32 → Sg → Option (Int32 × Sg)) (v1 : Int32) (v2 : Int32) (σ : Sg) : Option (Int32 × Sg) := (slf v1 ((v2 + nI 1)) σ)
def fn_X4_crackAndMove_L69 (ε : Ev) (c : Nat) (slf : Int32 → Int32 → Sg → Option (Int32 × Sg)) (k103 : Int32 → Sg → Option (Int32 × Sg)) (v2 : Int32) (v4 : Nat) (s0 : Int32) (s1 : Int32) (σ : Sg) : Option (Int32 × Sg) := (if ¬ (nI 2 < 0 ∨ 6 ≤ (nI 2).toNatClampNeg) then ((fn_X4_crackAndMove_L97 ε c slf k103) (nI 1) v2 (pI σ v4 2 ((mxI (tabLEAST (nI 2).toNatClampNeg) ((mnI (tabMOST (nI 2).toNatClampNeg) ((s1 + s0)))))))) else none)
def fn_X4_crackAndMove_L4 (ε : Ev) (c : Nat) (k103 : Int32 → Sg → Option (Int32 × Sg)) : Nat → Int32 → Int32 → Sg → Option (Int32 × Sg)
  | 0 => fun _ _ _ => none
  | fuel + 1 => fun (v1 : Int32) (v2 : Int32) (σ : Sg) => (if σ.1 c 6 ≤ v2 then (k103 v1 σ) else (ob (fn_X4_tooMuch ε c v2 σ) (fun y14 τ14 => (if y14 ≤ 0 then ((fn_X4_crackAndMove_L97 ε c (fn_X4_crackAndMove_L4 ε c k103 fuel) k103) v1 v2 τ14) else (if ¬ (v2 < 0 ∨ 9 ≤ v2.toNatClampNeg) then (if ¬ (nI 4 < 0 ∨ 6 ≤ (nI 4).toNatClampNeg) then (if (pI τ14 (c + 7 + v2.toNatClampNeg) 4 ((mnI (tabMOST (nI 4).toNatClampNeg) ((τ14.1 (c + 7 + v2.toNatClampNeg) 4 + y14))))).1 (c + 4) v2.toNatClampNeg ≤ 0 then ((fn_X4_crackAndMove_L69 ε c (fn_X4_crackAndMove_L4 ε c k103 fuel) k103) v2 (c + 7 + v2.toNatClampNeg) ((-1)) ((pI τ14 (c + 7 + v2.toNatClampNeg) 4 ((mnI (tabMOST (nI 4).toNatClampNeg) ((τ14.1 (c + 7 + v2.toNatClampNeg) 4 + y14))))).1 (c + 7 + v2.toNatClampNeg) 2) (pI τ14 (c + 7 + v2.toNatClampNeg) 4 ((mnI (tabMOST (nI 4).toNatClampNeg) ((τ14.1 (c + 7 + v2.toNatClampNeg) 4 + y14)))))) else ((fn_X4_crackAndMove_L69 ε c (fn_X4_crackAndMove_L4 ε c k103 fuel) k103) v2 (c + 7 + v2.toNatClampNeg) (nI 1) ((pI τ14 (c + 7 + v2.toNatClampNeg) 4 ((mnI (tabMOST (nI 4).toNatClampNeg) ((τ14.1 (c + 7 + v2.toNatClampNeg) 4 + y14))))).1 (c + 7 + v2.toNatClampNeg) 2) (pI τ14 (c + 7 + v2.toNatClampNeg) 4 ((mnI (tabMOST (nI 4).toNatClampNeg) ((τ14.1 (c + 7 + v2.toNatClampNeg) 4 + y14))))))) else none) else none)))))
def fn_X4_crackAndMove (ε : Ev) (c : Nat) (σ : Sg) : Option (Int32 × Sg) := ((fn_X4_crackAndMove_L4 ε c (fn_X4_crackAndMove_L103 ε c) 4000) (nI 0) (nI 0) σ)
def fn_X4_fallByCracks_L55 (ε : Ev) (c : Nat) (v1 : Int32) (σ : Sg) : Option (Int32 × Sg) := (if v1 = 0 ∨ v1 = 1 then some (v1, σ) else none)
def fn_X4_fallByCracks_L49 (ε : Ev) (c : Nat) (slf : Int32 → Int32 → Sg → Option (Int32 × Sg)) (k55 : Int32 → Sg → Option (Int32 × Sg)) (v1 : Int32) (v2 : Int32) (σ : Sg) : Option (Int32 × Sg) := (slf v1 ((v2 + nI 1)) σ)
def fn_X4_fallByCracks_L4 (ε : Ev) (c : Nat) (k55 : Int32 → Sg → Option (Int32 × Sg)) : Nat → Int32 → Int32 → Sg → Option (Int32 × Sg)
  | 0 => fun _ _ _ => none
  | fuel + 1 => fun (v1 : Int32) (v2 : Int32) (σ : Sg) => (if σ.1 c 6 ≤ v2 then (k55 v1 σ) else (if ¬ (v2 < 0 ∨ 9 ≤ v2.toNatClampNeg) then (if σ.1 (c + 7 + v2.toNatClampNeg) 6 = 0 then ((fn_X4_fallByCracks_L49 ε c (fn_X4_fallByCracks_L4 ε c k55 fuel) k55) v1 v2 σ) else (if σ.1 (c + 7 + v2.toNatClampNeg) 4 < nI 100 then ((fn_X4_fallByCracks_L49 ε c (fn_X4_fallByCracks_L4 ε c k55 fuel) k55) v1 v2 σ) else (ob (fn_X0_fall ε (c + 7 + v2.toNatClampNeg) σ) (fun y44 τ44 => ((fn_X4_fallByCracks_L49 ε c (fn_X4_fallByCracks_L4 ε c k55 fuel) k55) (nI 1) v2 τ44))))) else none))
def fn_X4_fallByCracks (ε : Ev) (c : Nat) (σ : Sg) : Option (Int32 × Sg) := ((fn_X4_fallByCracks_L4 ε c (fn_X4_fallByCracks_L55 ε c) 4000) (nI 0) (nI 0) σ)
def fn_X4_hasLostItsRest_L69 (ε : Ev) (c : Nat) (z1 : Int32) (s0 : Int32) (σ : Sg) : Option (Int32 × Sg) := (if s0 = 0 ∨ s0 = 1 then some (s0, σ) else none)
def fn_X4_hasLostItsRest_L68 (ε : Ev) (c : Nat) (z1 : Int32)  (σ : Sg) : Option (Int32 × Sg) := ((fn_X4_hasLostItsRest_L69 ε c z1) (nI 0) σ)
def fn_X4_hasLostItsRest_L47 (ε : Ev) (c : Nat) (z1 : Int32) (s0 : Int32) (σ : Sg) : Option (Int32 × Sg) := (if s0 < 0 then ((fn_X4_hasLostItsRest_L68 ε c z1)  σ) else (if ¬ (s0 < 0 ∨ 9 ≤ s0.toNatClampNeg) then (if σ.1 (c + 7 + s0.toNatClampNeg) 6 = 0 then ((fn_X4_hasLostItsRest_L69 ε c z1) (nI 1) σ) else ((fn_X4_hasLostItsRest_L68 ε c z1)  σ)) else none))
def fn_X4_hasLostItsRest (ε : Ev) (c : Nat) (z1 : Int32) (σ : Sg) : Option (Int32 × Sg) := (if ¬ (z1 < 0 ∨ 9 ≤ z1.toNatClampNeg) then (if σ.1 (c + 7 + z1.toNatClampNeg) 2 < nI 20 then (if (-20) < σ.1 (c + 7 + z1.toNatClampNeg) 2 then ((fn_X4_hasLostItsRest_L47 ε c z1) ((-1)) σ) else ((fn_X4_hasLostItsRest_L47 ε c z1) (σ.1 (c + 5) z1.toNatClampNeg) σ)) else ((fn_X4_hasLostItsRest_L47 ε c z1) (σ.1 (c + 6) z1.toNatClampNeg) σ)) else none)
def fn_X4_fallByNeighbours_L69 (ε : Ev) (c : Nat)  (σ : Sg) : Option (Unit × Sg) := some ((), σ)
def fn_X4_fallByNeighbours_L63 (ε : Ev) (c : Nat) (slf : Int32 → Int32 → Sg → Option (Unit × Sg)) (k69 : Sg → Option (Unit × Sg)) (v1 : Int32) (v2 : Int32) (σ : Sg) : Option (Unit × Sg) := (slf v1 ((v2 + nI 1)) σ)
def fn_X4_fallByNeighbours_L57 (ε : Ev) (c : Nat) (slf : Int32 → Int32 → Int32 → Sg → Option (Unit × Sg)) (k63 : Int32 → Int32 → Sg → Option (Unit × Sg)) (v1 : Int32) (v2 : Int32) (v3 : Int32) (σ : Sg) : Option (Unit × Sg) := (slf v1 v2 ((v3 + nI 1)) σ)
def fn_X4_fallByNeighbours_L18 (ε : Ev) (c : Nat) (k63 : Int32 → Int32 → Sg → Option (Unit × Sg)) : Nat → Int32 → Int32 → Int32 → Sg → Option (Unit × Sg)
  | 0 => fun _ _ _ _ => none
  | fuel + 1 => fun (v1 : Int32) (v2 : Int32) (v3 : Int32) (σ : Sg) => (if σ.1 c 6 ≤ v3 then (k63 v1 v2 σ) else (if ¬ (v3 < 0 ∨ 9 ≤ v3.toNatClampNeg) then (if σ.1 (c + 7 + v3.toNatClampNeg) 6 = 0 then ((fn_X4_fallByNeighbours_L57 ε c (fn_X4_fallByNeighbours_L18 ε c k63 fuel) k63) v1 v2 v3 σ) else (ob (fn_X4_hasLostItsRest ε c v3 σ) (fun y40 τ40 => (if y40 = 0 then ((fn_X4_fallByNeighbours_L57 ε c (fn_X4_fallByNeighbours_L18 ε c k63 fuel) k63) v1 v2 v3 τ40) else (ob (fn_X0_fall ε (c + 7 + v3.toNatClampNeg) τ40) (fun y52 τ52 => ((fn_X4_fallByNeighbours_L57 ε c (fn_X4_fallByNeighbours_L18 ε c k63 fuel) k63) (nI 1) v2 v3 τ52))))))) else none))
def fn_X4_fallByNeighbours_L4 (ε : Ev) (c : Nat) (k69 : Sg → Option (Unit × Sg)) : Nat → Int32 → Int32 → Sg → Option (Unit × Sg)
  | 0 => fun _ _ _ => none
  | fuel + 1 => fun (v1 : Int32) (v2 : Int32) (σ : Sg) => (if nI 9 ≤ v2 then (k69  σ) else (if v1 = 0 then (k69  σ) else ((fn_X4_fallByNeighbours_L18 ε c (fn_X4_fallByNeighbours_L63 ε c (fn_X4_fallByNeighbours_L4 ε c k69 fuel) k69) 4000) (nI 0) v2 (nI 0) σ)))
def fn_X4_fallByNeighbours (ε : Ev) (c : Nat) (σ : Sg) : Option (Unit × Sg) := ((fn_X4_fallByNeighbours_L4 ε c (fn_X4_fallByNeighbours_L69 ε c) 4000) (nI 1) (nI 0) σ)
def fn_X4_props_L30 (ε : Ev) (c : Nat) (v1 : Int32) (σ : Sg) : Option (Int32 × Sg) := some (v1, σ)
def fn_X4_props_L4 (ε : Ev) (c : Nat) (k30 : Int32 → Sg → Option (Int32 × Sg)) : Nat → Int32 → Int32 → Sg → Option (Int32 × Sg)
  | 0 => fun _ _ _ => none
  | fuel + 1 => fun (v1 : Int32) (v2 : Int32) (σ : Sg) => (if σ.1 c 6 ≤ v2 then (k30 v1 σ) else (if ¬ (v2 < 0 ∨ 9 ≤ v2.toNatClampNeg) then ((fn_X4_props_L4 ε c k30 fuel) ((v1 + σ.1 (c + 7 + v2.toNatClampNeg) 5)) ((v2 + nI 1)) σ) else none))
def fn_X4_props (ε : Ev) (c : Nat) (σ : Sg) : Option (Int32 × Sg) := ((fn_X4_props_L4 ε c (fn_X4_props_L30 ε c) 4000) (nI 0) (nI 0) σ)
def fn_X4_goOneDay_L58 (ε : Ev) (c : Nat) (s0 : Int32) (σ : Sg) : Option (Int32 × Sg) := (if s0 = 0 ∨ s0 = 1 then some (s0, σ) else none)
def fn_X4_goOneDay_L53 (ε : Ev) (c : Nat)  (σ : Sg) : Option (Int32 × Sg) := ((fn_X4_goOneDay_L58 ε c) (nI 1) σ)
def fn_X4_goOneDay_L22 (ε : Ev) (c : Nat) (v1 : Int32) (v2 : Int32) (σ : Sg) : Option (Int32 × Sg) := (ob (fn_X4_props ε c σ) (fun y28 τ28 => (if v1 = 0 then (if v2 = 0 then ((fn_X4_goOneDay_L58 ε c) (nI 0) (pI (pI τ28 c 9 ((σ.1 c 9 + y28))) c 10 (((pI τ28 c 9 ((σ.1 c 9 + y28))).1 c 10 + nI 1)))) else ((fn_X4_goOneDay_L53 ε c)  (pI (pI τ28 c 9 ((σ.1 c 9 + y28))) c 10 (((pI τ28 c 9 ((σ.1 c 9 + y28))).1 c 10 + nI 1))))) else ((fn_X4_goOneDay_L53 ε c)  (pI (pI τ28 c 9 ((σ.1 c 9 + y28))) c 10 (((pI τ28 c 9 ((σ.1 c 9 + y28))).1 c 10 + nI 1)))))))
def fn_X4_goOneDay (ε : Ev) (c : Nat) (σ : Sg) : Option (Int32 × Sg) := (ob (fn_X4_workOutThrusts ε c σ) (fun y1 τ1 => (ob (fn_X4_crackAndMove ε c τ1) (fun y5 τ5 => (ob (fn_X4_fallByCracks ε c τ5) (fun y10 τ10 => (if y10 = 0 then ((fn_X4_goOneDay_L22 ε c) y5 y10 τ10) else (ob (fn_X4_fallByNeighbours ε c τ10) (fun y19 τ19 => ((fn_X4_goOneDay_L22 ε c) y5 y10 τ19))))))))))
def fn_X4_goOn_L50 (ε : Ev) (c : Nat) (z1 : Int32)  (σ : Sg) : Option (Unit × Sg) := some ((), σ)
def fn_X4_goOn_L2 (ε : Ev) (c : Nat) (z1 : Int32) (k50 : Sg → Option (Unit × Sg)) : Nat → Int32 → Sg → Option (Unit × Sg)
  | 0 => fun _ _ => none
  | fuel + 1 => fun (v2 : Int32) (σ : Sg) => (if z1 < v2 then (k50  σ) else (ob (fn_X4_goOneDay ε c σ) (fun y8 τ8 => (if y8 = 0 then (ob (fn_X4_props ε c τ8) (fun y23 τ23 => some ((), pI (pI τ23 c 9 ((τ8.1 c 9 + ((z1 - v2) * y23)))) c 10 (((pI τ23 c 9 ((τ8.1 c 9 + ((z1 - v2) * y23)))).1 c 10 + (z1 - v2)))))) else ((fn_X4_goOn_L2 ε c z1 k50 fuel) ((v2 + nI 1)) τ8)))))
def fn_X4_goOn (ε : Ev) (c : Nat) (z1 : Int32) (σ : Sg) : Option (Unit × Sg) := ((fn_X4_goOn_L2 ε c z1 (fn_X4_goOn_L50 ε c z1) 4000) (nI 1) σ)
def fn_X4_standing_L36 (ε : Ev) (c : Nat) (v1 : Int32) (σ : Sg) : Option (Int32 × Sg) := some (v1, σ)
def fn_X4_standing_L30 (ε : Ev) (c : Nat) (slf : Int32 → Int32 → Sg → Option (Int32 × Sg)) (k36 : Int32 → Sg → Option (Int32 × Sg)) (v1 : Int32) (v2 : Int32) (σ : Sg) : Option (Int32 × Sg) := (slf v1 ((v2 + nI 1)) σ)
def fn_X4_standing_L4 (ε : Ev) (c : Nat) (k36 : Int32 → Sg → Option (Int32 × Sg)) : Nat → Int32 → Int32 → Sg → Option (Int32 × Sg)
  | 0 => fun _ _ _ => none
  | fuel + 1 => fun (v1 : Int32) (v2 : Int32) (σ : Sg) => (if σ.1 c 6 ≤ v2 then (k36 v1 σ) else (if ¬ (v2 < 0 ∨ 9 ≤ v2.toNatClampNeg) then (if σ.1 (c + 7 + v2.toNatClampNeg) 6 = 0 then ((fn_X4_standing_L30 ε c (fn_X4_standing_L4 ε c k36 fuel) k36) v1 v2 σ) else ((fn_X4_standing_L30 ε c (fn_X4_standing_L4 ε c k36 fuel) k36) ((v1 ||| (nI 1 <<< (v2 &&& 31)))) v2 σ)) else none))
def fn_X4_standing (ε : Ev) (c : Nat) (σ : Sg) : Option (Int32 × Sg) := ((fn_X4_standing_L4 ε c (fn_X4_standing_L36 ε c) 4000) (nI 0) (nI 0) σ)
def fn_X4_howManyStand (ε : Ev) (c : Nat) (σ : Sg) : Option (Int32 × Sg) := (ob (fn_X4_standing ε c σ) (fun y1 τ1 => (o1 (fn_J6_bitCount_0f7a4 y1) (fun y4 => some (y4, τ1)))))
def fn_X4_firstFall_L41 (ε : Ev) (c : Nat) (z1 : Int32)  (σ : Sg) : Option (Int32 × Sg) := some (nI 0, σ)
def fn_X4_firstFall_L7 (ε : Ev) (c : Nat) (z1 : Int32) (k41 : Sg → Option (Int32 × Sg)) : Nat → Int32 → Int32 → Sg → Option (Int32 × Sg)
  | 0 => fun _ _ _ => none
  | fuel + 1 => fun (v2 : Int32) (v3 : Int32) (σ : Sg) => (if z1 < v3 then (k41  σ) else (ob (fn_X4_goOneDay ε c σ) (fun y13 τ13 => (ob (fn_X4_howManyStand ε c τ13) (fun y19 τ19 => (if v2 ≤ y19 then (if y13 = 0 then some (nI 0, τ19) else ((fn_X4_firstFall_L7 ε c z1 k41 fuel) v2 ((v3 + nI 1)) τ19)) else some (v3, τ19)))))))
def fn_X4_firstFall (ε : Ev) (c : Nat) (z1 : Int32) (σ : Sg) : Option (Int32 × Sg) := (ob (fn_X4_howManyStand ε c σ) (fun y1 τ1 => ((fn_X4_firstFall_L7 ε c z1 (fn_X4_firstFall_L41 ε c z1) 4000) y1 (nI 1) τ1)))
def fn_X4_crackedSince_L53 (ε : Ev) (c : Nat) (c1 : Nat) (v2 : Int32) (σ : Sg) : Option (Int32 × Sg) := some (v2, σ)
def fn_X4_crackedSince_L47 (ε : Ev) (c : Nat) (c1 : Nat) (slf : Int32 → Int32 → Sg → Option (Int32 × Sg)) (k53 : Int32 → Sg → Option (Int32 × Sg)) (v2 : Int32) (v3 : Int32) (σ : Sg) : Option (Int32 × Sg) := (slf v2 ((v3 + nI 1)) σ)
def fn_X4_crackedSince_L4 (ε : Ev) (c : Nat) (c1 : Nat) (k53 : Int32 → Sg → Option (Int32 × Sg)) : Nat → Int32 → Int32 → Sg → Option (Int32 × Sg)
  | 0 => fun _ _ _ => none
  | fuel + 1 => fun (v2 : Int32) (v3 : Int32) (σ : Sg) => (if σ.1 c 6 ≤ v3 then (k53 v2 σ) else (if σ.1 c1 6 ≤ v3 then (k53 v2 σ) else (if ¬ (v3 < 0 ∨ 9 ≤ v3.toNatClampNeg) then (if σ.1 (c + 7 + v3.toNatClampNeg) 4 ≤ σ.1 (c1 + 7 + v3.toNatClampNeg) 4 then ((fn_X4_crackedSince_L47 ε c c1 (fn_X4_crackedSince_L4 ε c c1 k53 fuel) k53) v2 v3 σ) else ((fn_X4_crackedSince_L47 ε c c1 (fn_X4_crackedSince_L4 ε c c1 k53 fuel) k53) ((v2 ||| (nI 1 <<< (v3 &&& 31)))) v3 σ)) else none)))
def fn_X4_crackedSince (ε : Ev) (c : Nat) (c1 : Nat) (σ : Sg) : Option (Int32 × Sg) := ((fn_X4_crackedSince_L4 ε c c1 (fn_X4_crackedSince_L53 ε c c1) 4000) (nI 0) (nI 0) σ)
def fn_X4_cracks_L30 (ε : Ev) (c : Nat) (v1 : Int32) (σ : Sg) : Option (Int32 × Sg) := some (v1, σ)
def fn_X4_cracks_L4 (ε : Ev) (c : Nat) (k30 : Int32 → Sg → Option (Int32 × Sg)) : Nat → Int32 → Int32 → Sg → Option (Int32 × Sg)
  | 0 => fun _ _ _ => none
  | fuel + 1 => fun (v1 : Int32) (v2 : Int32) (σ : Sg) => (if σ.1 c 6 ≤ v2 then (k30 v1 σ) else (if ¬ (v2 < 0 ∨ 9 ≤ v2.toNatClampNeg) then ((fn_X4_cracks_L4 ε c k30 fuel) ((v1 + σ.1 (c + 7 + v2.toNatClampNeg) 4)) ((v2 + nI 1)) σ) else none))
def fn_X4_cracks (ε : Ev) (c : Nat) (σ : Sg) : Option (Int32 × Sg) := ((fn_X4_cracks_L4 ε c (fn_X4_cracks_L30 ε c) 4000) (nI 0) (nI 0) σ)
theorem kX4_beLike : mKV RX4 yX4_beLike cX4_beLike 3 none 1 := ⟨tIns_X4_beLike, tSel_X4_beLike, tIni_X4, tCod_X4_beLike, by decide +kernel⟩
set_option maxHeartbeats 4000000 in
set_option maxRecDepth 100000 in
theorem ct_X4_beLike (l : Launch) (D : va_G) (cy : Nat → ClassId) (Z : (Nat → Prop) → State → Heap → Prop) (hzo : zOK Z) {aStr aByt : Nat → Nat} (hzs : zSt Z aStr aByt) {q : Nat → Nat} {C : Ev → Sg → va_W} (hC : cLens cy q C) (ε : Ev) (c : Nat) (hc : isX4 c) (c1 : Nat) (hc1 : isX4 c1) (σ σ2 : Sg) (res : Unit) (h : fn_X4_beLike ε c c1 σ = some (res, σ2)) : GD l D cy Z yX4_beLike (zW yX4_beLike cX4_beLike 3 none) { frames := 1, cells := 0, slots := 0, locals := 21 } [.ref (sAd ε (c)), .ref (sAd ε (c1))] (C ε σ) none (C ε σ2) 0 0 := by
  refine g_entry (cc := cX4_beLike) (maxL := 3) (by decide) rfl (Nat.le_of_ble_eq_true rfl) ?_
  intro κ hN hX hR
  have hX : GX κ cy Z cX4_beLike (Cond.code yX4_beLike cX4_beLike 3 none :: zT) RX4 { frames := 1, cells := 0, slots := 0, locals := 21 } := hX
  have J84 : ∀ (σ : Sg) , fn_X4_beLike_L84 ε c c1  σ = some (res, σ2) → GW κ 0 0 (C ε σ) 84 [(0, .ref (sAd ε (c))), (1, .ref (sAd ε (c1)))] [] := by
    intro σ h
    refine g_aload_n hX 0 rfl rfl dX4_beLike_84 ?_
    refine g_aload_n hX 1 rfl rfl dX4_beLike_85 ?_
    refine c_get4 hX hC hc1 6 (by decide) rfl tFld_X4_36 rfl dX4_beLike_86 ?_
    refine c_put4 (ty := .int) hX hC hc 6 (by decide) (cs_X4 ε _ _ _).1 rfl (by decide +kernel) rfl rfl tFld_X4_36 rfl dX4_beLike_89 ?_
    refine g_aload_n hX 0 rfl rfl dX4_beLike_92 ?_
    refine g_aload_n hX 1 rfl rfl dX4_beLike_93 ?_
    refine c_get4 hX hC hc1 7 (by decide) rfl tFld_X4_40 rfl dX4_beLike_94 ?_
    refine c_put4 (ty := .int) hX hC hc 7 (by decide) (cs_X4 ε _ _ _).2.1 rfl (by decide +kernel) rfl rfl tFld_X4_40 rfl dX4_beLike_97 ?_
    refine g_aload_n hX 0 rfl rfl dX4_beLike_100 ?_
    refine g_aload_n hX 1 rfl rfl dX4_beLike_101 ?_
    refine c_get4 hX hC hc1 8 (by decide) rfl tFld_X4_43 rfl dX4_beLike_102 ?_
    refine c_put4 (ty := .int) hX hC hc 8 (by decide) (cs_X4 ε _ _ _).2.2.1 rfl (by decide +kernel) rfl rfl tFld_X4_43 rfl dX4_beLike_105 ?_
    refine g_aload_n hX 0 rfl rfl dX4_beLike_108 ?_
    refine g_aload_n hX 1 rfl rfl dX4_beLike_109 ?_
    refine c_get4 hX hC hc1 9 (by decide) rfl tFld_X4_46 rfl dX4_beLike_110 ?_
    refine c_put4 (ty := .int) hX hC hc 9 (by decide) (cs_X4 ε _ _ _).2.2.2.1 rfl (by decide +kernel) rfl rfl tFld_X4_46 rfl dX4_beLike_113 ?_
    refine g_aload_n hX 0 rfl rfl dX4_beLike_116 ?_
    refine g_aload_n hX 1 rfl rfl dX4_beLike_117 ?_
    refine c_get4 hX hC hc1 10 (by decide) rfl tFld_X4_49 rfl dX4_beLike_118 ?_
    refine c_put4 (ty := .int) hX hC hc 10 (by decide) (cs_X4 ε _ _ _).2.2.2.2.1 rfl (by decide +kernel) rfl rfl tFld_X4_49 rfl dX4_beLike_121 ?_
    refine g_aload_n hX 0 rfl rfl dX4_beLike_124 ?_
    refine g_aload_n hX 1 rfl rfl dX4_beLike_125 ?_
    refine c_get4 hX hC hc1 11 (by decide) rfl tFld_X4_52 rfl dX4_beLike_126 ?_
    refine c_put4 (ty := .int) hX hC hc 11 (by decide) (cs_X4 ε _ _ _).2.2.2.2.2 rfl (by decide +kernel) rfl rfl tFld_X4_52 rfl dX4_beLike_129 ?_
    exact g_retv hR (congrArg (C ε) (oi_2 h)) dX4_beLike_132
  have J61 : ∀ (k84 : Sg → Option (Unit × Sg)) (hk84 : ∀ (σ : Sg) , k84  σ = some (res, σ2) → GW κ 0 0 (C ε σ) 84 [(0, .ref (sAd ε (c))), (1, .ref (sAd ε (c1)))] []) (fuel : Nat), ∀ (v2 : Int32) (σ : Sg) , fn_X4_beLike_L61 ε c c1 k84 fuel v2 σ = some (res, σ2) → GW κ 0 0 (C ε σ) 61 [(0, .ref (sAd ε (c))), (1, .ref (sAd ε (c1))), (2, .int (v2))] [] := by
    intro k84 hk84 fuel
    induction fuel with
    | zero => intro v2 σ h; cases (show none = some (res, σ2) from h)
    | succ fuel ih =>
      intro v2 σ h
      replace h : (if nI 3 ≤ v2 then (k84  σ) else (if ¬ (v2 < 0 ∨ 3 ≤ v2.toNatClampNeg) then (if (∀ x ∈ (σ.2 (c1 + 3) v2.toNatClampNeg), isX5 ε x) then ((fn_X4_beLike_L61 ε c c1 k84 fuel) ((v2 + nI 1)) (pT σ (c + 3) v2.toNatClampNeg (σ.2 (c1 + 3) v2.toNatClampNeg))) else none) else none)) = some (res, σ2) := h
      refine g_iload_n hX 2 rfl rfl dX4_beLike_61 ?_
      refine g_iconst hX (v := nI 3) rfl dX4_beLike_62 ?_
      refine g_icmp_ge hX 84 (by decide) dX4_beLike_63 (fun b63 => ?_) (fun b63 => ?_)
      · replace h := if_p b63 h
        refine g_lv [0, 1] rfl ?_
        exact hk84   σ h
      · replace h := if_n b63 h
        refine g_aload_n hX 0 rfl rfl dX4_beLike_66 ?_
        refine c_get4 hX hC hc 2 (by decide) rfl tFld_X4_23 rfl dX4_beLike_67 ?_
        refine g_iload_n hX 2 rfl rfl dX4_beLike_70 ?_
        refine g_aload_n hX 1 rfl rfl dX4_beLike_71 ?_
        refine c_get4 hX hC hc1 2 (by decide) rfl tFld_X4_23 rfl dX4_beLike_72 ?_
        refine g_iload_n hX 2 rfl rfl dX4_beLike_75 ?_
        obtain ⟨g1, h⟩ := gd_some h
        refine c_aald hX hC (kq_X4_3 hc1) rfl g1 (v := va_rf (Option.map (sAd ε) (σ.2 (c1 + 3) v2.toNatClampNeg))) rfl dX4_beLike_76 ?_
        obtain ⟨g2, h⟩ := gd_some h
        refine c_aastQ hX hC (kq_X4_3 hc) (kp_X4_3 hc) g1 g2 dX4_beLike_77 ?_
        refine g_iinc (v := (v2 + nI 1)) (lv2 := [(2, .int ((v2 + nI 1))), (0, .ref (sAd ε (c))), (1, .ref (sAd ε (c1)))]) hX 2 2 3 hN rfl rfl (by decide) rfl dX4_beLike_78 ?_
        refine g_goto hX 61 (by decide) dX4_beLike_81 ?_
        refine g_lv [1, 2, 0] rfl ?_
        exact ih ((v2 + nI 1))  (pT σ (c + 3) v2.toNatClampNeg (σ.2 (c1 + 3) v2.toNatClampNeg)) h
  have J59 : ∀ (σ : Sg) , fn_X4_beLike_L59 ε c c1  σ = some (res, σ2) → GW κ 0 0 (C ε σ) 59 [(0, .ref (sAd ε (c))), (1, .ref (sAd ε (c1)))] [] := by
    intro σ h
    refine g_iconst hX (v := nI 0) rfl dX4_beLike_59 ?_
    refine g_istore_n (lv2 := [(2, .int (nI 0)), (0, .ref (sAd ε (c))), (1, .ref (sAd ε (c1)))]) hX 2 3 hN rfl (by decide) rfl dX4_beLike_60 ?_
    refine g_lv [1, 2, 0] rfl ?_
    exact (J61 (fn_X4_beLike_L84 ε c c1) J84 4000) (nI 0)  σ h
  have J33 : ∀ (k59 : Sg → Option (Unit × Sg)) (hk59 : ∀ (σ : Sg) , k59  σ = some (res, σ2) → GW κ 0 0 (C ε σ) 59 [(0, .ref (sAd ε (c))), (1, .ref (sAd ε (c1)))] []) (fuel : Nat), ∀ (v2 : Int32) (σ : Sg) , fn_X4_beLike_L33 ε c c1 k59 fuel v2 σ = some (res, σ2) → GW κ 0 0 (C ε σ) 33 [(0, .ref (sAd ε (c))), (1, .ref (sAd ε (c1))), (2, .int (v2))] [] := by
    intro k59 hk59 fuel
    induction fuel with
    | zero => intro v2 σ h; cases (show none = some (res, σ2) from h)
    | succ fuel ih =>
      intro v2 σ h
      replace h : (if σ.1 c1 7 ≤ v2 then (k59  σ) else (if ¬ (v2 < 0 ∨ 14 ≤ v2.toNatClampNeg) then (if (∀ x ∈ (σ.2 (c1 + 2) v2.toNatClampNeg), isX5 ε x) then ((fn_X4_beLike_L33 ε c c1 k59 fuel) ((v2 + nI 1)) (pT σ (c + 2) v2.toNatClampNeg (σ.2 (c1 + 2) v2.toNatClampNeg))) else none) else none)) = some (res, σ2) := h
      refine g_iload_n hX 2 rfl rfl dX4_beLike_33 ?_
      refine g_aload_n hX 1 rfl rfl dX4_beLike_34 ?_
      refine c_get4 hX hC hc1 7 (by decide) rfl tFld_X4_40 rfl dX4_beLike_35 ?_
      refine g_icmp_ge hX 59 (by decide) dX4_beLike_38 (fun b38 => ?_) (fun b38 => ?_)
      · replace h := if_p b38 h
        refine g_lv [0, 1] rfl ?_
        exact hk59   σ h
      · replace h := if_n b38 h
        refine g_aload_n hX 0 rfl rfl dX4_beLike_41 ?_
        refine c_get4 hX hC hc 1 (by decide) rfl tFld_X4_19 rfl dX4_beLike_42 ?_
        refine g_iload_n hX 2 rfl rfl dX4_beLike_45 ?_
        refine g_aload_n hX 1 rfl rfl dX4_beLike_46 ?_
        refine c_get4 hX hC hc1 1 (by decide) rfl tFld_X4_19 rfl dX4_beLike_47 ?_
        refine g_iload_n hX 2 rfl rfl dX4_beLike_50 ?_
        obtain ⟨g3, h⟩ := gd_some h
        refine c_aald hX hC (kq_X4_2 hc1) rfl g3 (v := va_rf (Option.map (sAd ε) (σ.2 (c1 + 2) v2.toNatClampNeg))) rfl dX4_beLike_51 ?_
        obtain ⟨g4, h⟩ := gd_some h
        refine c_aastQ hX hC (kq_X4_2 hc) (kp_X4_2 hc) g3 g4 dX4_beLike_52 ?_
        refine g_iinc (v := (v2 + nI 1)) (lv2 := [(2, .int ((v2 + nI 1))), (0, .ref (sAd ε (c))), (1, .ref (sAd ε (c1)))]) hX 2 2 3 hN rfl rfl (by decide) rfl dX4_beLike_53 ?_
        refine g_goto hX 33 (by decide) dX4_beLike_56 ?_
        refine g_lv [1, 2, 0] rfl ?_
        exact ih ((v2 + nI 1))  (pT σ (c + 2) v2.toNatClampNeg (σ.2 (c1 + 2) v2.toNatClampNeg)) h
  have J31 : ∀ (σ : Sg) , fn_X4_beLike_L31 ε c c1  σ = some (res, σ2) → GW κ 0 0 (C ε σ) 31 [(0, .ref (sAd ε (c))), (1, .ref (sAd ε (c1)))] [] := by
    intro σ h
    refine g_iconst hX (v := nI 0) rfl dX4_beLike_31 ?_
    refine g_istore_n (lv2 := [(2, .int (nI 0)), (0, .ref (sAd ε (c))), (1, .ref (sAd ε (c1)))]) hX 2 3 hN rfl (by decide) rfl dX4_beLike_32 ?_
    refine g_lv [1, 2, 0] rfl ?_
    exact (J33 (fn_X4_beLike_L59 ε c c1) J59 4000) (nI 0)  σ h
  have J2 : ∀ (k31 : Sg → Option (Unit × Sg)) (hk31 : ∀ (σ : Sg) , k31  σ = some (res, σ2) → GW κ 0 0 (C ε σ) 31 [(0, .ref (sAd ε (c))), (1, .ref (sAd ε (c1)))] []) (fuel : Nat), ∀ (v2 : Int32) (σ : Sg) , fn_X4_beLike_L2 ε c c1 k31 fuel v2 σ = some (res, σ2) → GW κ 0 0 (C ε σ) 2 [(0, .ref (sAd ε (c))), (1, .ref (sAd ε (c1))), (2, .int (v2))] [] := by
    intro k31 hk31 fuel
    induction fuel with
    | zero => intro v2 σ h; cases (show none = some (res, σ2) from h)
    | succ fuel ih =>
      intro v2 σ h
      replace h : (if σ.1 c1 6 ≤ v2 then (k31  σ) else (if ¬ (v2 < 0 ∨ 9 ≤ v2.toNatClampNeg) then (ob (fn_X0_beLike ε (c + 7 + v2.toNatClampNeg) (c1 + 7 + v2.toNatClampNeg) σ) (fun y22 τ22 => ((fn_X4_beLike_L2 ε c c1 k31 fuel) ((v2 + nI 1)) τ22))) else none)) = some (res, σ2) := h
      refine g_iload_n hX 2 rfl rfl dX4_beLike_2 ?_
      refine g_aload_n hX 1 rfl rfl dX4_beLike_3 ?_
      refine c_get4 hX hC hc1 6 (by decide) rfl tFld_X4_36 rfl dX4_beLike_4 ?_
      refine g_icmp_ge hX 31 (by decide) dX4_beLike_7 (fun b7 => ?_) (fun b7 => ?_)
      · replace h := if_p b7 h
        refine g_lv [0, 1] rfl ?_
        exact hk31   σ h
      · replace h := if_n b7 h
        refine g_aload_n hX 0 rfl rfl dX4_beLike_10 ?_
        refine c_get4 hX hC hc 0 (by decide) rfl tFld_X4_11 rfl dX4_beLike_11 ?_
        refine g_iload_n hX 2 rfl rfl dX4_beLike_14 ?_
        obtain ⟨g5, h⟩ := gd_some h
        refine c_aald hX hC (kq_X4_1 hc) rfl g5 (v := .ref (sAd ε (c + 7 + v2.toNatClampNeg))) rfl dX4_beLike_15 ?_
        refine g_aload_n hX 1 rfl rfl dX4_beLike_16 ?_
        refine c_get4 hX hC hc1 0 (by decide) rfl tFld_X4_11 rfl dX4_beLike_17 ?_
        refine g_iload_n hX 2 rfl rfl dX4_beLike_20 ?_
        refine c_aald hX hC (kq_X4_1 hc1) rfl g5 (v := .ref (sAd ε (c1 + 7 + v2.toNatClampNeg))) rfl dX4_beLike_21 ?_
        obtain ⟨y22, τ22, e22, h⟩ := ob_some h
        refine c_call0 hX hC hzo (kh_X4 hc (vin_lt g5)) [.ref (sAd ε (c1 + 7 + v2.toNatClampNeg))] [] (ct_X0_beLike _ _ _ _ hzo hzs hC ε (c + 7 + v2.toNatClampNeg) (kh_X4 hc (vin_lt g5)) (c1 + 7 + v2.toNatClampNeg) (kh_X4 hc1 (vin_lt g5)) σ _ _ e22) kX0_beLike tMet_X4_56 rfl rfl (Nat.le_of_ble_eq_true rfl) (Nat.le_of_ble_eq_true rfl) ⟨Nat.le_of_ble_eq_true rfl, Nat.le_of_ble_eq_true rfl⟩ rfl rfl (Nat.le_of_ble_eq_true rfl) dX4_beLike_22 ?_
        refine g_iinc (v := (v2 + nI 1)) (lv2 := [(2, .int ((v2 + nI 1))), (0, .ref (sAd ε (c))), (1, .ref (sAd ε (c1)))]) hX 2 2 3 hN rfl rfl (by decide) rfl dX4_beLike_25 ?_
        refine g_goto hX 2 (by decide) dX4_beLike_28 ?_
        refine g_lv [1, 2, 0] rfl ?_
        exact ih ((v2 + nI 1))  τ22 h
  show GW κ 0 0 (C ε σ) 0 [(0, .ref (sAd ε (c))), (1, .ref (sAd ε (c1)))] []
  refine g_iconst hX (v := nI 0) rfl dX4_beLike_0 ?_
  refine g_istore_n (lv2 := [(2, .int (nI 0)), (0, .ref (sAd ε (c))), (1, .ref (sAd ε (c1)))]) hX 2 3 hN rfl (by decide) rfl dX4_beLike_1 ?_
  refine g_lv [1, 2, 0] rfl ?_
  exact (J2 (fn_X4_beLike_L31 ε c c1) J31 4000) (nI 0)  σ h
theorem kX4_build : mKV RX4 yX4_build cX4_build 6 none 4 := ⟨tIns_X4_build, tSel_X4_build, tIni_X4, tCod_X4_build, by decide +kernel⟩
set_option maxHeartbeats 4000000 in
set_option maxRecDepth 100000 in
theorem ct_X4_build (l : Launch) (D : va_G) (cy : Nat → ClassId) (Z : (Nat → Prop) → State → Heap → Prop) (hzo : zOK Z) {aStr aByt : Nat → Nat} (hzs : zSt Z aStr aByt) {q : Nat → Nat} {C : Ev → Sg → va_W} (hC : cLens cy q C) (ε : Ev) (c : Nat) (hc : isX4 c) (z1 : Int32) (z2 : Int32) (z3 : Int32) (z4 : Int32) (σ σ2 : Sg) (res : Unit) (h : fn_X4_build ε c z1 z2 z3 z4 σ = some (res, σ2)) : GD l D cy Z yX4_build (zW yX4_build cX4_build 6 none) { frames := 1, cells := 0, slots := 0, locals := 20 } [.ref (sAd ε (c)), .int (z1), .int (z2), .int (z3), .int (z4)] (C ε σ) none (C ε σ2) 0 0 := by
  refine g_entry (cc := cX4_build) (maxL := 6) (by decide) rfl (Nat.le_of_ble_eq_true rfl) ?_
  intro κ hN hX hR
  have hX : GX κ cy Z cX4_build (Cond.code yX4_build cX4_build 6 none :: zT) RX4 { frames := 1, cells := 0, slots := 0, locals := 20 } := hX
  show GW κ 0 0 (C ε σ) 0 [(0, .ref (sAd ε (c))), (1, .int (z1)), (2, .int (z2)), (3, .int (z3)), (4, .int (z4))] []
  refine g_aload_n hX 0 rfl rfl dX4_build_0 ?_
  refine c_get4 hX hC hc 6 (by decide) rfl tFld_X4_36 rfl dX4_build_1 ?_
  refine g_bipush hX (v := nI 9) (by decide) dX4_build_4 ?_
  refine g_icmp_lt hX 10 (by decide) dX4_build_6 (fun b6 => ?_) (fun b6 => ?_)
  · replace h := if_p b6 h
    refine g_aload_n hX 0 rfl rfl dX4_build_10 ?_
    refine c_get4 hX hC hc 0 (by decide) rfl tFld_X4_11 rfl dX4_build_11 ?_
    refine g_aload_n hX 0 rfl rfl dX4_build_14 ?_
    refine c_get4 hX hC hc 6 (by decide) rfl tFld_X4_36 rfl dX4_build_15 ?_
    obtain ⟨g1, h⟩ := gd_some h
    refine c_aald hX hC (kq_X4_1 hc) rfl g1 (v := .ref (sAd ε (c + 7 + (σ.1 c 6).toNatClampNeg))) rfl dX4_build_18 ?_
    refine g_astore (lv2 := [(5, .ref (sAd ε (c + 7 + (σ.1 c 6).toNatClampNeg))), (0, .ref (sAd ε (c))), (1, .int (z1)), (2, .int (z2)), (3, .int (z3)), (4, .int (z4))]) hX 5 6 hN (by decide) rfl dX4_build_19 ?_
    refine g_aload hX 0 rfl dX4_build_21 ?_
    obtain ⟨y23, τ23, e23, h⟩ := ob_some h
    refine c_call0 hX hC hzo (kh_X4 hc (vin_lt g1)) [] [] (ct_X0_rise _ _ _ _ hzo hzs hC ε (c + 7 + (σ.1 c 6).toNatClampNeg) (kh_X4 hc (vin_lt g1)) σ _ _ e23) kX0_rise tMet_X4_60 rfl rfl (Nat.le_of_ble_eq_true rfl) (Nat.le_of_ble_eq_true rfl) ⟨Nat.le_of_ble_eq_true rfl, Nat.le_of_ble_eq_true rfl⟩ rfl rfl (Nat.le_of_ble_eq_true rfl) dX4_build_23 ?_
    refine g_aload hX 0 rfl dX4_build_26 ?_
    refine g_iload_n hX 2 rfl rfl dX4_build_28 ?_
    refine c_put0 (ty := .int) hX hC (kh_X4 hc (vin_lt g1)) 0 (by decide) (cs_X0 ε _ _ _).1 rfl (by decide +kernel) rfl rfl tFld_X4_63 rfl dX4_build_29 ?_
    refine g_aload hX 0 rfl dX4_build_32 ?_
    refine g_iload_n hX 3 rfl rfl dX4_build_34 ?_
    refine c_put0 (ty := .int) hX hC (kh_X4 hc (vin_lt g1)) 1 (by decide) (cs_X0 ε _ _ _).2.1 rfl (by decide +kernel) rfl rfl tFld_X4_66 rfl dX4_build_35 ?_
    refine g_aload hX 0 rfl dX4_build_38 ?_
    refine g_iload_n hX 4 rfl rfl dX4_build_40 ?_
    refine c_put0 (ty := .int) hX hC (kh_X4 hc (vin_lt g1)) 2 (by decide) (cs_X0 ε _ _ _).2.2.1 rfl (by decide +kernel) rfl rfl tFld_X4_69 rfl dX4_build_41 ?_
    refine g_aload hX 0 rfl dX4_build_44 ?_
    refine g_iload hX 5 rfl dX4_build_46 ?_
    refine c_put0 (ty := .int) hX hC (kh_X4 hc (vin_lt g1)) 3 (by decide) (cs_X0 ε _ _ _).2.2.2.1 rfl (by decide +kernel) rfl rfl tFld_X4_72 rfl dX4_build_48 ?_
    refine g_aload hX 0 rfl dX4_build_51 ?_
    refine g_iconst hX (v := nI 0) rfl dX4_build_53 ?_
    refine c_put0 (ty := .int) hX hC (kh_X4 hc (vin_lt g1)) 5 (by decide) (cs_X0 ε _ _ _).2.2.2.2.2.1 rfl (by decide +kernel) rfl rfl tFld_X4_75 rfl dX4_build_54 ?_
    refine g_aload_n hX 1 rfl rfl dX4_build_57 ?_
    refine g_dup hX rfl dX4_build_58 ?_
    refine c_get4 hX hC hc 6 (by decide) rfl tFld_X4_36 rfl dX4_build_59 ?_
    refine g_iconst hX (v := nI 1) rfl dX4_build_62 ?_
    refine g_iadd hX dX4_build_63 ?_
    refine c_put4 (ty := .int) hX hC hc 6 (by decide) (cs_X4 ε _ _ _).1 rfl (by decide +kernel) rfl rfl tFld_X4_36 rfl dX4_build_64 ?_
    exact g_retv hR (congrArg (C ε) (oi_2 h)) dX4_build_67
  · replace h := if_n b6 h
    exact g_retv hR (congrArg (C ε) (oi_2 h)) dX4_build_9
theorem kX4_draw : mKV RX4 yX4_draw cX4_draw 1 (some .int) 0 := ⟨tIns_X4_draw, tSel_X4_draw, tIni_X4, tCod_X4_draw, by decide +kernel⟩
set_option maxHeartbeats 4000000 in
set_option maxRecDepth 100000 in
theorem ct_X4_draw (l : Launch) (D : va_G) (cy : Nat → ClassId) (Z : (Nat → Prop) → State → Heap → Prop) (hzo : zOK Z) {aStr aByt : Nat → Nat} (hzs : zSt Z aStr aByt) {q : Nat → Nat} {C : Ev → Sg → va_W} (hC : cLens cy q C) (ε : Ev) (c : Nat) (hc : isX4 c) (σ σ2 : Sg) (res : Int32) (h : fn_X4_draw ε c σ = some (res, σ2)) : GD l D cy Z yX4_draw (zW yX4_draw cX4_draw 1 (some .int)) { frames := 0, cells := 0, slots := 0, locals := 0 } [.ref (sAd ε (c))] (C ε σ) (some (.int res)) (C ε σ2) 0 0 := by
  refine g_entry (cc := cX4_draw) (maxL := 1) (by decide) rfl (Nat.le_of_ble_eq_true rfl) ?_
  intro κ hN hX hR
  have hX : GX κ cy Z cX4_draw (Cond.code yX4_draw cX4_draw 1 (some .int) :: zT) RX4 { frames := 0, cells := 0, slots := 0, locals := 0 } := hX
  show GW κ 0 0 (C ε σ) 0 [(0, .ref (sAd ε (c)))] []
  refine g_aload_n hX 0 rfl rfl dX4_draw_0 ?_
  refine g_aload_n hX 0 rfl rfl dX4_draw_1 ?_
  refine c_get4 hX hC hc 11 (by decide) rfl tFld_X4_52 rfl dX4_draw_2 ?_
  refine g_ldc hX (v := 1103515245) (zu tCon_X4_86 rfl) dX4_draw_5 ?_
  refine g_imul hX dX4_draw_7 ?_
  refine g_sipush hX (v := nI 12345) (by decide) dX4_draw_8 ?_
  refine g_iadd hX dX4_draw_11 ?_
  refine c_put4 (ty := .int) hX hC hc 11 (by decide) (cs_X4 ε _ _ _).2.2.2.2.2 rfl (by decide +kernel) rfl rfl tFld_X4_52 rfl dX4_draw_12 ?_
  refine g_aload_n hX 0 rfl rfl dX4_draw_15 ?_
  refine c_get4 hX hC hc 11 (by decide) rfl tFld_X4_52 rfl dX4_draw_16 ?_
  refine g_bipush hX (v := nI 8) (by decide) dX4_draw_19 ?_
  refine g_iushr hX dX4_draw_21 ?_
  exact g_reti hR (oi_1 h) (congrArg (C ε) (oi_2 h)) dX4_draw_22
theorem kX4_buildByLot : mKV RX4 yX4_buildByLot cX4_buildByLot 5 none 0 := ⟨tIns_X4_buildByLot, tSel_X4_buildByLot, tIni_X4, tCod_X4_buildByLot, by decide +kernel⟩
set_option maxHeartbeats 4000000 in
set_option maxRecDepth 100000 in
theorem ct_X4_buildByLot (l : Launch) (D : va_G) (cy : Nat → ClassId) (Z : (Nat → Prop) → State → Heap → Prop) (hzo : zOK Z) {aStr aByt : Nat → Nat} (hzs : zSt Z aStr aByt) {q : Nat → Nat} {C : Ev → Sg → va_W} (hC : cLens cy q C) (ε : Ev) (c : Nat) (hc : isX4 c) (σ σ2 : Sg) (res : Unit) (h : fn_X4_buildByLot ε c σ = some (res, σ2)) : GD l D cy Z yX4_buildByLot (zW yX4_buildByLot cX4_buildByLot 5 none) { frames := 2, cells := 0, slots := 0, locals := 45 } [.ref (sAd ε (c))] (C ε σ) none (C ε σ2) 0 0 := by
  refine g_entry (cc := cX4_buildByLot) (maxL := 5) (by decide) rfl (Nat.le_of_ble_eq_true rfl) ?_
  intro κ hN hX hR
  have hX : GX κ cy Z cX4_buildByLot (Cond.code yX4_buildByLot cX4_buildByLot 5 none :: zT) RX4 { frames := 2, cells := 0, slots := 0, locals := 45 } := hX
  show GW κ 0 0 (C ε σ) 0 [(0, .ref (sAd ε (c)))] []
  refine g_aload_n hX 0 rfl rfl dX4_buildByLot_0 ?_
  obtain ⟨y1, τ1, e1, h⟩ := ob_some h
  refine c_call4 hX hC hzo hc [] [] (ct_X4_draw _ _ _ _ hzo hzs hC ε c hc σ _ _ e1) kX4_draw tMet_X4_78 rfl rfl (Nat.le_of_ble_eq_true rfl) (Nat.le_of_ble_eq_true rfl) ⟨Nat.le_of_ble_eq_true rfl, Nat.le_of_ble_eq_true rfl⟩ rfl rfl (Nat.le_of_ble_eq_true rfl) dX4_buildByLot_1 ?_
  refine g_bipush hX (v := nI 6) (by decide) dX4_buildByLot_4 ?_
  refine g_irem hX (by decide) dX4_buildByLot_6 ?_
  refine g_istore_n (lv2 := [(1, .int ((y1 - y1 / nI 6 * nI 6))), (0, .ref (sAd ε (c)))]) hX 1 5 hN rfl (by decide) rfl dX4_buildByLot_7 ?_
  refine g_iconst hX (v := nI 1) rfl dX4_buildByLot_8 ?_
  refine g_aload_n hX 1 rfl rfl dX4_buildByLot_9 ?_
  obtain ⟨y10, τ10, e10, h⟩ := ob_some h
  refine c_call4 hX hC hzo hc [] [.int (nI 1)] (ct_X4_draw _ _ _ _ hzo hzs hC ε c hc τ1 _ _ e10) kX4_draw tMet_X4_78 rfl rfl (Nat.le_of_ble_eq_true rfl) (Nat.le_of_ble_eq_true rfl) ⟨Nat.le_of_ble_eq_true rfl, Nat.le_of_ble_eq_true rfl⟩ rfl rfl (Nat.le_of_ble_eq_true rfl) dX4_buildByLot_10 ?_
  refine g_bipush hX (v := nI 60) (by decide) dX4_buildByLot_13 ?_
  refine g_irem hX (by decide) dX4_buildByLot_15 ?_
  refine g_iadd hX dX4_buildByLot_16 ?_
  refine g_istore_n (lv2 := [(2, .int ((nI 1 + (y10 - y10 / nI 60 * nI 60)))), (1, .int ((y1 - y1 / nI 6 * nI 6))), (0, .ref (sAd ε (c)))]) hX 2 5 hN rfl (by decide) rfl dX4_buildByLot_17 ?_
  refine g_aload_n hX 2 rfl rfl dX4_buildByLot_18 ?_
  obtain ⟨y19, τ19, e19, h⟩ := ob_some h
  refine c_call4 hX hC hzo hc [] [] (ct_X4_draw _ _ _ _ hzo hzs hC ε c hc τ10 _ _ e19) kX4_draw tMet_X4_78 rfl rfl (Nat.le_of_ble_eq_true rfl) (Nat.le_of_ble_eq_true rfl) ⟨Nat.le_of_ble_eq_true rfl, Nat.le_of_ble_eq_true rfl⟩ rfl rfl (Nat.le_of_ble_eq_true rfl) dX4_buildByLot_19 ?_
  refine g_bipush hX (v := nI 41) (by decide) dX4_buildByLot_22 ?_
  refine g_irem hX (by decide) dX4_buildByLot_24 ?_
  refine g_bipush hX (v := nI 20) (by decide) dX4_buildByLot_25 ?_
  refine g_isub hX dX4_buildByLot_27 ?_
  refine g_istore_n (lv2 := [(3, .int (((y19 - y19 / nI 41 * nI 41) - nI 20))), (2, .int ((nI 1 + (y10 - y10 / nI 60 * nI 60)))), (1, .int ((y1 - y1 / nI 6 * nI 6))), (0, .ref (sAd ε (c)))]) hX 3 5 hN rfl (by decide) rfl dX4_buildByLot_28 ?_
  refine g_aload_n hX 3 rfl rfl dX4_buildByLot_29 ?_
  obtain ⟨y30, τ30, e30, h⟩ := ob_some h
  refine c_call4 hX hC hzo hc [] [] (ct_X4_draw _ _ _ _ hzo hzs hC ε c hc τ19 _ _ e30) kX4_draw tMet_X4_78 rfl rfl (Nat.le_of_ble_eq_true rfl) (Nat.le_of_ble_eq_true rfl) ⟨Nat.le_of_ble_eq_true rfl, Nat.le_of_ble_eq_true rfl⟩ rfl rfl (Nat.le_of_ble_eq_true rfl) dX4_buildByLot_30 ?_
  refine g_bipush hX (v := nI 60) (by decide) dX4_buildByLot_33 ?_
  refine g_irem hX (by decide) dX4_buildByLot_35 ?_
  refine g_istore (lv2 := [(4, .int ((y30 - y30 / nI 60 * nI 60))), (3, .int (((y19 - y19 / nI 41 * nI 41) - nI 20))), (2, .int ((nI 1 + (y10 - y10 / nI 60 * nI 60)))), (1, .int ((y1 - y1 / nI 6 * nI 6))), (0, .ref (sAd ε (c)))]) hX 4 5 hN (by decide) rfl dX4_buildByLot_36 ?_
  refine g_aload_n hX 4 rfl rfl dX4_buildByLot_38 ?_
  refine g_iload_n hX 3 rfl rfl dX4_buildByLot_39 ?_
  refine g_iload_n hX 2 rfl rfl dX4_buildByLot_40 ?_
  refine g_iload_n hX 1 rfl rfl dX4_buildByLot_41 ?_
  refine g_iload hX 0 rfl dX4_buildByLot_42 ?_
  obtain ⟨y44, τ44, e44, h⟩ := ob_some h
  refine c_call4 hX hC hzo hc [.int ((y1 - y1 / nI 6 * nI 6)), .int ((nI 1 + (y10 - y10 / nI 60 * nI 60))), .int (((y19 - y19 / nI 41 * nI 41) - nI 20)), .int ((y30 - y30 / nI 60 * nI 60))] [] (ct_X4_build _ _ _ _ hzo hzs hC ε c hc ((y1 - y1 / nI 6 * nI 6)) ((nI 1 + (y10 - y10 / nI 60 * nI 60))) (((y19 - y19 / nI 41 * nI 41) - nI 20)) ((y30 - y30 / nI 60 * nI 60)) τ30 _ _ e44) kX4_build tMet_X4_82 rfl rfl (Nat.le_of_ble_eq_true rfl) (Nat.le_of_ble_eq_true rfl) ⟨Nat.le_of_ble_eq_true rfl, Nat.le_of_ble_eq_true rfl⟩ rfl rfl (Nat.le_of_ble_eq_true rfl) dX4_buildByLot_44 ?_
  exact g_retv hR (congrArg (C ε) (oi_2 h)) dX4_buildByLot_47
theorem kX4_addText : mKV RX4 yX4_addText cX4_addText 2 none 1 := ⟨tIns_X4_addText, tSel_X4_addText, tIni_X4, tCod_X4_addText, by decide +kernel⟩
set_option maxHeartbeats 4000000 in
set_option maxRecDepth 100000 in
theorem ct_X4_addText (l : Launch) (D : va_G) (cy : Nat → ClassId) (Z : (Nat → Prop) → State → Heap → Prop) (hzo : zOK Z) {aStr aByt : Nat → Nat} (hzs : zSt Z aStr aByt) {q : Nat → Nat} {C : Ev → Sg → va_W} (hC : cLens cy q C) (ε : Ev) (c : Nat) (hc : isX4 c) (c1 : Nat) (hc1 : isX5 ε c1) (σ σ2 : Sg) (res : Unit) (h : fn_X4_addText ε c c1 σ = some (res, σ2)) : GD l D cy Z yX4_addText (zW yX4_addText cX4_addText 2 none) { frames := 0, cells := 0, slots := 0, locals := 0 } [.ref (sAd ε (c)), .ref (sAd ε (c1))] (C ε σ) none (C ε σ2) 0 0 := by
  refine g_entry (cc := cX4_addText) (maxL := 2) (by decide) rfl (Nat.le_of_ble_eq_true rfl) ?_
  intro κ hN hX hR
  have hX : GX κ cy Z cX4_addText (Cond.code yX4_addText cX4_addText 2 none :: zT) RX4 { frames := 0, cells := 0, slots := 0, locals := 0 } := hX
  have J24 : ∀ (σ : Sg) , fn_X4_addText_L24 ε c c1  σ = some (res, σ2) → GW κ 0 0 (C ε σ) 24 [] [] := by
    intro σ h
    exact g_retv hR (congrArg (C ε) (oi_2 h)) dX4_addText_24
  show GW κ 0 0 (C ε σ) 0 [(0, .ref (sAd ε (c))), (1, .ref (sAd ε (c1)))] []
  refine g_aload_n hX 0 rfl rfl dX4_addText_0 ?_
  refine c_get4 hX hC hc 7 (by decide) rfl tFld_X4_40 rfl dX4_addText_1 ?_
  refine g_bipush hX (v := nI 14) (by decide) dX4_addText_4 ?_
  refine g_icmp_ge hX 24 (by decide) dX4_addText_6 (fun b6 => ?_) (fun b6 => ?_)
  · replace h := if_p b6 h
    refine g_lv [] rfl ?_
    exact J24   σ h
  · replace h := if_n b6 h
    refine g_aload_n hX 1 rfl rfl dX4_addText_9 ?_
    refine c_get5 hX hC hc1 1 (by decide) rfl tFld_X4_87 rfl dX4_addText_10 ?_
    refine g_if_lt hX 24 (by decide) dX4_addText_13 (fun b13 => ?_) (fun b13 => ?_)
    · replace h := if_p b13 h
      refine g_lv [] rfl ?_
      exact J24   σ h
    · replace h := if_n b13 h
      refine g_aload_n hX 1 rfl rfl dX4_addText_16 ?_
      refine c_get5 hX hC hc1 1 (by decide) rfl tFld_X4_87 rfl dX4_addText_17 ?_
      refine g_iconst hX (v := nI 3) rfl dX4_addText_20 ?_
      refine g_icmp_lt hX 25 (by decide) dX4_addText_21 (fun b21 => ?_) (fun b21 => ?_)
      · replace h := if_p b21 h
        refine g_aload_n hX 0 rfl rfl dX4_addText_25 ?_
        refine c_get4 hX hC hc 1 (by decide) rfl tFld_X4_19 rfl dX4_addText_26 ?_
        refine g_aload_n hX 0 rfl rfl dX4_addText_29 ?_
        refine c_get4 hX hC hc 7 (by decide) rfl tFld_X4_40 rfl dX4_addText_30 ?_
        refine g_aload_n hX 1 rfl rfl dX4_addText_33 ?_
        obtain ⟨g1, h⟩ := gd_some h
        refine c_aastQ (o := some c1) hX hC (kq_X4_2 hc) (kp_X4_2 hc) g1 (fun _ hx => by cases hx; exact hc1) dX4_addText_34 ?_
        refine g_aload_n hX 0 rfl rfl dX4_addText_35 ?_
        refine c_get4 hX hC hc 2 (by decide) rfl tFld_X4_23 rfl dX4_addText_36 ?_
        refine g_aload_n hX 1 rfl rfl dX4_addText_39 ?_
        refine c_get5 hX hC hc1 1 (by decide) rfl tFld_X4_87 rfl dX4_addText_40 ?_
        refine g_aload_n hX 1 rfl rfl dX4_addText_43 ?_
        obtain ⟨g2, h⟩ := gd_some h
        refine c_aastQ (o := some c1) hX hC (kq_X4_3 hc) (kp_X4_3 hc) g2 (fun _ hx => by cases hx; exact hc1) dX4_addText_44 ?_
        refine g_aload_n hX 0 rfl rfl dX4_addText_45 ?_
        refine g_dup hX rfl dX4_addText_46 ?_
        refine c_get4 hX hC hc 7 (by decide) rfl tFld_X4_40 rfl dX4_addText_47 ?_
        refine g_iconst hX (v := nI 1) rfl dX4_addText_50 ?_
        refine g_iadd hX dX4_addText_51 ?_
        refine c_put4 (ty := .int) hX hC hc 7 (by decide) (cs_X4 ε _ _ _).2.1 rfl (by decide +kernel) rfl rfl tFld_X4_40 rfl dX4_addText_52 ?_
        exact g_retv hR (congrArg (C ε) (oi_2 h)) dX4_addText_55
      · replace h := if_n b21 h
        refine g_lv [] rfl ?_
        exact J24   σ h
theorem kX4_takeWalls : mKV RX4 yX4_takeWalls cX4_takeWalls 5 (some .int) 1 := ⟨tIns_X4_takeWalls, tSel_X4_takeWalls, tIni_X4, tCod_X4_takeWalls, by decide +kernel⟩
set_option maxHeartbeats 4000000 in
set_option maxRecDepth 100000 in
theorem ct_X4_takeWalls (l : Launch) (D : va_G) (cy : Nat → ClassId) (Z : (Nat → Prop) → State → Heap → Prop) (hzo : zOK Z) {aStr aByt : Nat → Nat} (hzs : zSt Z aStr aByt) {q : Nat → Nat} {C : Ev → Sg → va_W} (hC : cLens cy q C) (ε : Ev) (c : Nat) (hc : isX4 c) (c1 : Nat) (hc1 : isX2 c1) (σ σ2 : Sg) (res : Int32) (h : fn_X4_takeWalls ε c c1 σ = some (res, σ2)) : GD l D cy Z yX4_takeWalls (zW yX4_takeWalls cX4_takeWalls 5 (some .int)) { frames := 1, cells := 0, slots := 0, locals := 21 } [.ref (sAd ε (c)), .ref (sAd ε (c1))] (C ε σ) (some (.int res)) (C ε σ2) 0 0 := by
  refine g_entry (cc := cX4_takeWalls) (maxL := 5) (by decide) rfl (Nat.le_of_ble_eq_true rfl) ?_
  intro κ hN hX hR
  have hX : GX κ cy Z cX4_takeWalls (Cond.code yX4_takeWalls cX4_takeWalls 5 (some .int) :: zT) RX4 { frames := 1, cells := 0, slots := 0, locals := 21 } := hX
  obtain ⟨tLEAST, hLEAST⟩ := zt_LEAST hX hzs
  obtain ⟨tMOST, hMOST⟩ := zt_MOST hX hzs
  have J91 : ∀ (v2 : Int32) (σ : Sg) , fn_X4_takeWalls_L91 ε c c1 v2 σ = some (res, σ2) → GW κ 0 0 (C ε σ) 91 [(2, .int (v2))] [] := by
    intro v2 σ h
    refine g_iload_n hX 0 rfl rfl dX4_takeWalls_91 ?_
    exact g_reti hR (oi_1 h) (congrArg (C ε) (oi_2 h)) dX4_takeWalls_92
  have J85 : ∀ (slf : Int32 → Int32 → Sg → Option (Int32 × Sg)) (hslf : ∀ (v2 : Int32) (v3 : Int32) (σ : Sg) , slf v2 v3 σ = some (res, σ2) → GW κ 0 0 (C ε σ) 4 [(0, .ref (sAd ε (c))), (1, .ref (sAd ε (c1))), (2, .int (v2)), (3, .int (v3))] []) (k91 : Int32 → Sg → Option (Int32 × Sg)) (hk91 : ∀ (v2 : Int32) (σ : Sg) , k91 v2 σ = some (res, σ2) → GW κ 0 0 (C ε σ) 91 [(2, .int (v2))] []), ∀ (v2 : Int32) (v3 : Int32) (σ : Sg) , fn_X4_takeWalls_L85 ε c c1 slf k91 v2 v3 σ = some (res, σ2) → GW κ 0 0 (C ε σ) 85 [(0, .ref (sAd ε (c))), (1, .ref (sAd ε (c1))), (2, .int (v2)), (3, .int (v3))] [] := by
    intro slf hslf k91 hk91 v2 v3 σ h
    refine g_iinc (v := (v3 + nI 1)) (lv2 := [(3, .int ((v3 + nI 1))), (0, .ref (sAd ε (c))), (1, .ref (sAd ε (c1))), (2, .int (v2))]) hX 3 3 5 hN rfl rfl (by decide) rfl dX4_takeWalls_85 ?_
    refine g_goto hX 4 (by decide) dX4_takeWalls_88 ?_
    refine g_lv [1, 2, 3, 0] rfl ?_
    exact hslf v2 ((v3 + nI 1))  σ h
  have J72 : ∀ (slf : Int32 → Int32 → Sg → Option (Int32 × Sg)) (hslf : ∀ (v2 : Int32) (v3 : Int32) (σ : Sg) , slf v2 v3 σ = some (res, σ2) → GW κ 0 0 (C ε σ) 4 [(0, .ref (sAd ε (c))), (1, .ref (sAd ε (c1))), (2, .int (v2)), (3, .int (v3))] []) (k91 : Int32 → Sg → Option (Int32 × Sg)) (hk91 : ∀ (v2 : Int32) (σ : Sg) , k91 v2 σ = some (res, σ2) → GW κ 0 0 (C ε σ) 91 [(2, .int (v2))] []), ∀ (v3 : Int32) (v4 : Int32) (s0 : Int32) (s1 : Int32) (σ : Sg) , fn_X4_takeWalls_L72 ε c c1 slf k91 v3 v4 s0 s1 σ = some (res, σ2) → GW κ 0 0 (C ε σ) 72 [(0, .ref (sAd ε (c))), (1, .ref (sAd ε (c1))), (3, .int (v3)), (4, .int (v4))] [.int (s0), .int (s1)] := by
    intro slf hslf k91 hk91 v3 v4 s0 s1 σ h
    refine g_iadd hX dX4_takeWalls_72 ?_
    refine g_istore_n (lv2 := [(2, .int ((s1 + s0))), (0, .ref (sAd ε (c))), (1, .ref (sAd ε (c1))), (3, .int (v3)), (4, .int (v4))]) hX 2 5 hN rfl (by decide) rfl dX4_takeWalls_73 ?_
    refine g_aload_n hX 1 rfl rfl dX4_takeWalls_74 ?_
    refine c_get4 hX hC hc 0 (by decide) rfl tFld_X4_11 rfl dX4_takeWalls_75 ?_
    refine g_iload_n hX 3 rfl rfl dX4_takeWalls_78 ?_
    obtain ⟨g1, h⟩ := gd_some h
    refine c_aald hX hC (kq_X4_1 hc) rfl g1 (v := .ref (sAd ε (c + 7 + v3.toNatClampNeg))) rfl dX4_takeWalls_79 ?_
    refine g_iload hX 4 rfl dX4_takeWalls_80 ?_
    refine c_put0 (ty := .int) hX hC (kh_X4 hc (vin_lt g1)) 3 (by decide) (cs_X0 ε _ _ _).2.2.2.1 rfl (by decide +kernel) rfl rfl tFld_X4_72 rfl dX4_takeWalls_82 ?_
    refine g_lv [1, 2, 0, 3] rfl ?_
    exact (J85 slf hslf k91 hk91) ((s1 + s0)) v3  (pI σ (c + 7 + v3.toNatClampNeg) 3 v4) h
  have J4 : ∀ (k91 : Int32 → Sg → Option (Int32 × Sg)) (hk91 : ∀ (v2 : Int32) (σ : Sg) , k91 v2 σ = some (res, σ2) → GW κ 0 0 (C ε σ) 91 [(2, .int (v2))] []) (fuel : Nat), ∀ (v2 : Int32) (v3 : Int32) (σ : Sg) , fn_X4_takeWalls_L4 ε c c1 k91 fuel v2 v3 σ = some (res, σ2) → GW κ 0 0 (C ε σ) 4 [(0, .ref (sAd ε (c))), (1, .ref (sAd ε (c1))), (2, .int (v2)), (3, .int (v3))] [] := by
    intro k91 hk91 fuel
    induction fuel with
    | zero => intro v2 v3 σ h; cases (show none = some (res, σ2) from h)
    | succ fuel ih =>
      intro v2 v3 σ h
      replace h : (if σ.1 c 6 ≤ v3 then (k91 v2 σ) else (if σ.1 c1 2 ≤ v3 then (k91 v2 σ) else (ob (fn_X2_isNumber ε c1 v3 σ) (fun y22 τ22 => (if y22 = 0 then ((fn_X4_takeWalls_L85 ε c c1 (fn_X4_takeWalls_L4 ε c c1 k91 fuel) k91) v2 v3 τ22) else (if ¬ (nI 3 < 0 ∨ 6 ≤ (nI 3).toNatClampNeg) then (if ¬ (v3 < 0 ∨ 24 ≤ v3.toNatClampNeg) then (if ¬ (v3 < 0 ∨ 9 ≤ v3.toNatClampNeg) then (if (mxI (tabLEAST (nI 3).toNatClampNeg) ((mnI (tabMOST (nI 3).toNatClampNeg) (τ22.1 (c1 + 1) v3.toNatClampNeg)))) = τ22.1 (c + 7 + v3.toNatClampNeg) 3 then ((fn_X4_takeWalls_L72 ε c c1 (fn_X4_takeWalls_L4 ε c c1 k91 fuel) k91) v3 ((mxI (tabLEAST (nI 3).toNatClampNeg) ((mnI (tabMOST (nI 3).toNatClampNeg) (τ22.1 (c1 + 1) v3.toNatClampNeg))))) (nI 0) v2 τ22) else ((fn_X4_takeWalls_L72 ε c c1 (fn_X4_takeWalls_L4 ε c c1 k91 fuel) k91) v3 ((mxI (tabLEAST (nI 3).toNatClampNeg) ((mnI (tabMOST (nI 3).toNatClampNeg) (τ22.1 (c1 + 1) v3.toNatClampNeg))))) (nI 1) v2 τ22)) else none) else none) else none)))))) = some (res, σ2) := h
      refine g_iload_n hX 3 rfl rfl dX4_takeWalls_4 ?_
      refine g_aload_n hX 0 rfl rfl dX4_takeWalls_5 ?_
      refine c_get4 hX hC hc 6 (by decide) rfl tFld_X4_36 rfl dX4_takeWalls_6 ?_
      refine g_icmp_ge hX 91 (by decide) dX4_takeWalls_9 (fun b9 => ?_) (fun b9 => ?_)
      · replace h := if_p b9 h
        refine g_lv [2] rfl ?_
        exact hk91 v2  σ h
      · replace h := if_n b9 h
        refine g_iload_n hX 3 rfl rfl dX4_takeWalls_12 ?_
        refine g_aload_n hX 1 rfl rfl dX4_takeWalls_13 ?_
        refine c_get2 hX hC hc1 2 (by decide) rfl tFld_X4_90 rfl dX4_takeWalls_14 ?_
        refine g_icmp_ge hX 91 (by decide) dX4_takeWalls_17 (fun b17 => ?_) (fun b17 => ?_)
        · replace h := if_p b17 h
          refine g_lv [2] rfl ?_
          exact hk91 v2  σ h
        · replace h := if_n b17 h
          refine g_aload_n hX 1 rfl rfl dX4_takeWalls_20 ?_
          refine g_iload_n hX 3 rfl rfl dX4_takeWalls_21 ?_
          obtain ⟨y22, τ22, e22, h⟩ := ob_some h
          refine c_call2 hX hC hzo hc1 [.int (v3)] [] (ct_X2_isNumber _ _ _ _ hzo hzs hC ε c1 hc1 v3 σ _ _ e22) kX2_isNumber tMet_X4_93 rfl rfl (Nat.le_of_ble_eq_true rfl) (Nat.le_of_ble_eq_true rfl) ⟨Nat.le_of_ble_eq_true rfl, Nat.le_of_ble_eq_true rfl⟩ rfl rfl (Nat.le_of_ble_eq_true rfl) dX4_takeWalls_22 ?_
          refine g_if_eq hX 85 (by decide) dX4_takeWalls_25 (fun b25 => ?_) (fun b25 => ?_)
          · replace h := if_p b25 h
            exact (J85 (fn_X4_takeWalls_L4 ε c c1 k91 fuel) ih k91 hk91) v2 v3  τ22 h
          · replace h := if_n b25 h
            refine g_tabN hX hLEAST (zn_X4_97 hX hzs) dX4_takeWalls_28 ?_
            refine g_iconst hX (v := nI 3) rfl dX4_takeWalls_31 ?_
            obtain ⟨g2, h⟩ := gd_some h
            refine g_tabi hX hLEAST g2 dX4_takeWalls_32 ?_
            refine g_tabN hX hMOST (zn_X4_100 hX hzs) dX4_takeWalls_33 ?_
            refine g_iconst hX (v := nI 3) rfl dX4_takeWalls_36 ?_
            refine g_tabi hX hMOST g2 dX4_takeWalls_37 ?_
            refine g_aload_n hX 1 rfl rfl dX4_takeWalls_38 ?_
            refine c_get2 hX hC hc1 0 (by decide) rfl tFld_X4_103 rfl dX4_takeWalls_39 ?_
            refine g_iload_n hX 3 rfl rfl dX4_takeWalls_42 ?_
            obtain ⟨g3, h⟩ := gd_some h
            refine c_ald hX hC (ka_X2_1 hc1) g3 dX4_takeWalls_43 ?_
            refine g_mmin hX tMet_X4_106 (Nat.le_of_ble_eq_true rfl) (Nat.le_of_ble_eq_true rfl) (Nat.le_of_ble_eq_true rfl) (Nat.le_of_ble_eq_true rfl) (Nat.le_of_ble_eq_true rfl) dX4_takeWalls_44 ?_
            refine g_mmax hX tMet_X4_112 (Nat.le_of_ble_eq_true rfl) (Nat.le_of_ble_eq_true rfl) (Nat.le_of_ble_eq_true rfl) (Nat.le_of_ble_eq_true rfl) (Nat.le_of_ble_eq_true rfl) dX4_takeWalls_47 ?_
            refine g_istore (lv2 := [(4, .int ((mxI (tabLEAST (nI 3).toNatClampNeg) ((mnI (tabMOST (nI 3).toNatClampNeg) (τ22.1 (c1 + 1) v3.toNatClampNeg)))))), (0, .ref (sAd ε (c))), (1, .ref (sAd ε (c1))), (2, .int (v2)), (3, .int (v3))]) hX 4 5 hN (by decide) rfl dX4_takeWalls_50 ?_
            refine g_iload_n hX 3 rfl rfl dX4_takeWalls_52 ?_
            refine g_iload hX 0 rfl dX4_takeWalls_53 ?_
            refine g_aload_n hX 1 rfl rfl dX4_takeWalls_55 ?_
            refine c_get4 hX hC hc 0 (by decide) rfl tFld_X4_11 rfl dX4_takeWalls_56 ?_
            refine g_iload_n hX 4 rfl rfl dX4_takeWalls_59 ?_
            obtain ⟨g4, h⟩ := gd_some h
            refine c_aald hX hC (kq_X4_1 hc) rfl g4 (v := .ref (sAd ε (c + 7 + v3.toNatClampNeg))) rfl dX4_takeWalls_60 ?_
            refine c_get0 hX hC (kh_X4 hc (vin_lt g4)) 3 (by decide) rfl tFld_X4_72 rfl dX4_takeWalls_61 ?_
            refine g_icmp_ne hX 71 (by decide) dX4_takeWalls_64 (fun b64 => ?_) (fun b64 => ?_)
            · replace h := if_n b64 h
              refine g_iconst hX (v := nI 1) rfl dX4_takeWalls_71 ?_
              refine g_lv [1, 2, 4, 0] rfl ?_
              exact (J72 (fn_X4_takeWalls_L4 ε c c1 k91 fuel) ih k91 hk91) v3 ((mxI (tabLEAST (nI 3).toNatClampNeg) ((mnI (tabMOST (nI 3).toNatClampNeg) (τ22.1 (c1 + 1) v3.toNatClampNeg))))) (nI 1) v2  τ22 h
            · replace h := if_p b64 h
              refine g_iconst hX (v := nI 0) rfl dX4_takeWalls_67 ?_
              refine g_goto hX 72 (by decide) dX4_takeWalls_68 ?_
              refine g_lv [1, 2, 4, 0] rfl ?_
              exact (J72 (fn_X4_takeWalls_L4 ε c c1 k91 fuel) ih k91 hk91) v3 ((mxI (tabLEAST (nI 3).toNatClampNeg) ((mnI (tabMOST (nI 3).toNatClampNeg) (τ22.1 (c1 + 1) v3.toNatClampNeg))))) (nI 0) v2  τ22 h
  show GW κ 0 0 (C ε σ) 0 [(0, .ref (sAd ε (c))), (1, .ref (sAd ε (c1)))] []
  refine g_iconst hX (v := nI 0) rfl dX4_takeWalls_0 ?_
  refine g_istore_n (lv2 := [(2, .int (nI 0)), (0, .ref (sAd ε (c))), (1, .ref (sAd ε (c1)))]) hX 2 5 hN rfl (by decide) rfl dX4_takeWalls_1 ?_
  refine g_iconst hX (v := nI 0) rfl dX4_takeWalls_2 ?_
  refine g_istore_n (lv2 := [(3, .int (nI 0)), (2, .int (nI 0)), (0, .ref (sAd ε (c))), (1, .ref (sAd ε (c1)))]) hX 3 5 hN rfl (by decide) rfl dX4_takeWalls_3 ?_
  refine g_lv [2, 3, 1, 0] rfl ?_
  exact (J4 (fn_X4_takeWalls_L91 ε c c1) J91 4000) (nI 0) (nI 0)  σ h
theorem kX4_differsFrom : mKV RX4 yX4_differsFrom cX4_differsFrom 5 (some .int) 1 := ⟨tIns_X4_differsFrom, tSel_X4_differsFrom, tIni_X4, tCod_X4_differsFrom, by decide +kernel⟩
set_option maxHeartbeats 4000000 in
set_option maxRecDepth 100000 in
theorem ct_X4_differsFrom (l : Launch) (D : va_G) (cy : Nat → ClassId) (Z : (Nat → Prop) → State → Heap → Prop) (hzo : zOK Z) {aStr aByt : Nat → Nat} (hzs : zSt Z aStr aByt) {q : Nat → Nat} {C : Ev → Sg → va_W} (hC : cLens cy q C) (ε : Ev) (c : Nat) (hc : isX4 c) (c1 : Nat) (hc1 : isX2 c1) (σ σ2 : Sg) (res : Int32) (h : fn_X4_differsFrom ε c c1 σ = some (res, σ2)) : GD l D cy Z yX4_differsFrom (zW yX4_differsFrom cX4_differsFrom 5 (some .int)) { frames := 1, cells := 0, slots := 0, locals := 21 } [.ref (sAd ε (c)), .ref (sAd ε (c1))] (C ε σ) (some (.int res)) (C ε σ2) 0 0 := by
  refine g_entry (cc := cX4_differsFrom) (maxL := 5) (by decide) rfl (Nat.le_of_ble_eq_true rfl) ?_
  intro κ hN hX hR
  have hX : GX κ cy Z cX4_differsFrom (Cond.code yX4_differsFrom cX4_differsFrom 5 (some .int) :: zT) RX4 { frames := 1, cells := 0, slots := 0, locals := 21 } := hX
  have J64 : ∀ (v2 : Int32) (σ : Sg) , fn_X4_differsFrom_L64 ε c c1 v2 σ = some (res, σ2) → GW κ 0 0 (C ε σ) 64 [(2, .int (v2))] [] := by
    intro v2 σ h
    refine g_iload_n hX 0 rfl rfl dX4_differsFrom_64 ?_
    exact g_reti hR (oi_1 h) (congrArg (C ε) (oi_2 h)) dX4_differsFrom_65
  have J58 : ∀ (slf : Int32 → Int32 → Sg → Option (Int32 × Sg)) (hslf : ∀ (v2 : Int32) (v3 : Int32) (σ : Sg) , slf v2 v3 σ = some (res, σ2) → GW κ 0 0 (C ε σ) 4 [(0, .ref (sAd ε (c))), (1, .ref (sAd ε (c1))), (2, .int (v2)), (3, .int (v3))] []) (k64 : Int32 → Sg → Option (Int32 × Sg)) (hk64 : ∀ (v2 : Int32) (σ : Sg) , k64 v2 σ = some (res, σ2) → GW κ 0 0 (C ε σ) 64 [(2, .int (v2))] []), ∀ (v2 : Int32) (v3 : Int32) (σ : Sg) , fn_X4_differsFrom_L58 ε c c1 slf k64 v2 v3 σ = some (res, σ2) → GW κ 0 0 (C ε σ) 58 [(0, .ref (sAd ε (c))), (1, .ref (sAd ε (c1))), (2, .int (v2)), (3, .int (v3))] [] := by
    intro slf hslf k64 hk64 v2 v3 σ h
    refine g_iinc (v := (v3 + nI 1)) (lv2 := [(3, .int ((v3 + nI 1))), (0, .ref (sAd ε (c))), (1, .ref (sAd ε (c1))), (2, .int (v2))]) hX 3 3 5 hN rfl rfl (by decide) rfl dX4_differsFrom_58 ?_
    refine g_goto hX 4 (by decide) dX4_differsFrom_61 ?_
    refine g_lv [1, 2, 3, 0] rfl ?_
    exact hslf v2 ((v3 + nI 1))  σ h
  have J41 : ∀ (slf : Int32 → Int32 → Sg → Option (Int32 × Sg)) (hslf : ∀ (v2 : Int32) (v3 : Int32) (σ : Sg) , slf v2 v3 σ = some (res, σ2) → GW κ 0 0 (C ε σ) 4 [(0, .ref (sAd ε (c))), (1, .ref (sAd ε (c1))), (2, .int (v2)), (3, .int (v3))] []) (k64 : Int32 → Sg → Option (Int32 × Sg)) (hk64 : ∀ (v2 : Int32) (σ : Sg) , k64 v2 σ = some (res, σ2) → GW κ 0 0 (C ε σ) 64 [(2, .int (v2))] []), ∀ (v2 : Int32) (v3 : Int32) (s0 : Int32) (σ : Sg) , fn_X4_differsFrom_L41 ε c c1 slf k64 v2 v3 s0 σ = some (res, σ2) → GW κ 0 0 (C ε σ) 41 [(0, .ref (sAd ε (c))), (1, .ref (sAd ε (c1))), (2, .int (v2)), (3, .int (v3))] [.int (s0)] := by
    intro slf hslf k64 hk64 v2 v3 s0 σ h
    refine g_istore (lv2 := [(4, .int (s0)), (0, .ref (sAd ε (c))), (1, .ref (sAd ε (c1))), (2, .int (v2)), (3, .int (v3))]) hX 4 5 hN (by decide) rfl dX4_differsFrom_41 ?_
    refine g_iload_n hX 3 rfl rfl dX4_differsFrom_43 ?_
    refine g_iload hX 0 rfl dX4_differsFrom_44 ?_
    refine g_aload_n hX 2 rfl rfl dX4_differsFrom_46 ?_
    refine c_get2 hX hC hc1 0 (by decide) rfl tFld_X4_103 rfl dX4_differsFrom_47 ?_
    refine g_iload_n hX 4 rfl rfl dX4_differsFrom_50 ?_
    obtain ⟨g1, h⟩ := gd_some h
    refine c_ald hX hC (ka_X2_1 hc1) g1 dX4_differsFrom_51 ?_
    refine g_isub hX dX4_differsFrom_52 ?_
    refine g_mabs hX tMet_X4_118 (Nat.le_of_ble_eq_true rfl) (Nat.le_of_ble_eq_true rfl) (Nat.le_of_ble_eq_true rfl) (Nat.le_of_ble_eq_true rfl) (Nat.le_of_ble_eq_true rfl) dX4_differsFrom_53 ?_
    refine g_iadd hX dX4_differsFrom_56 ?_
    refine g_istore_n (lv2 := [(2, .int ((v2 + (abI ((s0 - σ.1 (c1 + 1) v3.toNatClampNeg)))))), (4, .int (s0)), (0, .ref (sAd ε (c))), (1, .ref (sAd ε (c1))), (3, .int (v3))]) hX 2 5 hN rfl (by decide) rfl dX4_differsFrom_57 ?_
    refine g_lv [2, 3, 0, 4] rfl ?_
    exact (J58 slf hslf k64 hk64) ((v2 + (abI ((s0 - σ.1 (c1 + 1) v3.toNatClampNeg))))) v3  σ h
  have J4 : ∀ (k64 : Int32 → Sg → Option (Int32 × Sg)) (hk64 : ∀ (v2 : Int32) (σ : Sg) , k64 v2 σ = some (res, σ2) → GW κ 0 0 (C ε σ) 64 [(2, .int (v2))] []) (fuel : Nat), ∀ (v2 : Int32) (v3 : Int32) (σ : Sg) , fn_X4_differsFrom_L4 ε c c1 k64 fuel v2 v3 σ = some (res, σ2) → GW κ 0 0 (C ε σ) 4 [(0, .ref (sAd ε (c))), (1, .ref (sAd ε (c1))), (2, .int (v2)), (3, .int (v3))] [] := by
    intro k64 hk64 fuel
    induction fuel with
    | zero => intro v2 v3 σ h; cases (show none = some (res, σ2) from h)
    | succ fuel ih =>
      intro v2 v3 σ h
      replace h : (if σ.1 c1 2 ≤ v3 then (k64 v2 σ) else (ob (fn_X2_isNumber ε c1 v3 σ) (fun y14 τ14 => (if y14 = 0 then ((fn_X4_differsFrom_L58 ε c c1 (fn_X4_differsFrom_L4 ε c c1 k64 fuel) k64) v2 v3 τ14) else (if τ14.1 c 6 ≤ v3 then ((fn_X4_differsFrom_L41 ε c c1 (fn_X4_differsFrom_L4 ε c c1 k64 fuel) k64) v2 v3 (nI 0) τ14) else (if ¬ (v3 < 0 ∨ 9 ≤ v3.toNatClampNeg) then ((fn_X4_differsFrom_L41 ε c c1 (fn_X4_differsFrom_L4 ε c c1 k64 fuel) k64) v2 v3 (τ14.1 (c + 7 + v3.toNatClampNeg) 4) τ14) else none)))))) = some (res, σ2) := h
      refine g_iload_n hX 3 rfl rfl dX4_differsFrom_4 ?_
      refine g_aload_n hX 1 rfl rfl dX4_differsFrom_5 ?_
      refine c_get2 hX hC hc1 2 (by decide) rfl tFld_X4_90 rfl dX4_differsFrom_6 ?_
      refine g_icmp_ge hX 64 (by decide) dX4_differsFrom_9 (fun b9 => ?_) (fun b9 => ?_)
      · replace h := if_p b9 h
        refine g_lv [2] rfl ?_
        exact hk64 v2  σ h
      · replace h := if_n b9 h
        refine g_aload_n hX 1 rfl rfl dX4_differsFrom_12 ?_
        refine g_iload_n hX 3 rfl rfl dX4_differsFrom_13 ?_
        obtain ⟨y14, τ14, e14, h⟩ := ob_some h
        refine c_call2 hX hC hzo hc1 [.int (v3)] [] (ct_X2_isNumber _ _ _ _ hzo hzs hC ε c1 hc1 v3 σ _ _ e14) kX2_isNumber tMet_X4_93 rfl rfl (Nat.le_of_ble_eq_true rfl) (Nat.le_of_ble_eq_true rfl) ⟨Nat.le_of_ble_eq_true rfl, Nat.le_of_ble_eq_true rfl⟩ rfl rfl (Nat.le_of_ble_eq_true rfl) dX4_differsFrom_14 ?_
        refine g_if_eq hX 58 (by decide) dX4_differsFrom_17 (fun b17 => ?_) (fun b17 => ?_)
        · replace h := if_p b17 h
          exact (J58 (fn_X4_differsFrom_L4 ε c c1 k64 fuel) ih k64 hk64) v2 v3  τ14 h
        · replace h := if_n b17 h
          refine g_iload_n hX 3 rfl rfl dX4_differsFrom_20 ?_
          refine g_aload_n hX 0 rfl rfl dX4_differsFrom_21 ?_
          refine c_get4 hX hC hc 6 (by decide) rfl tFld_X4_36 rfl dX4_differsFrom_22 ?_
          refine g_icmp_ge hX 40 (by decide) dX4_differsFrom_25 (fun b25 => ?_) (fun b25 => ?_)
          · replace h := if_p b25 h
            refine g_iconst hX (v := nI 0) rfl dX4_differsFrom_40 ?_
            exact (J41 (fn_X4_differsFrom_L4 ε c c1 k64 fuel) ih k64 hk64) v2 v3 (nI 0)  τ14 h
          · replace h := if_n b25 h
            refine g_aload_n hX 0 rfl rfl dX4_differsFrom_28 ?_
            refine c_get4 hX hC hc 0 (by decide) rfl tFld_X4_11 rfl dX4_differsFrom_29 ?_
            refine g_iload_n hX 3 rfl rfl dX4_differsFrom_32 ?_
            obtain ⟨g2, h⟩ := gd_some h
            refine c_aald hX hC (kq_X4_1 hc) rfl g2 (v := .ref (sAd ε (c + 7 + v3.toNatClampNeg))) rfl dX4_differsFrom_33 ?_
            refine c_get0 hX hC (kh_X4 hc (vin_lt g2)) 4 (by decide) rfl tFld_X4_115 rfl dX4_differsFrom_34 ?_
            refine g_goto hX 41 (by decide) dX4_differsFrom_37 ?_
            exact (J41 (fn_X4_differsFrom_L4 ε c c1 k64 fuel) ih k64 hk64) v2 v3 (τ14.1 (c + 7 + v3.toNatClampNeg) 4)  τ14 h
  show GW κ 0 0 (C ε σ) 0 [(0, .ref (sAd ε (c))), (1, .ref (sAd ε (c1)))] []
  refine g_iconst hX (v := nI 0) rfl dX4_differsFrom_0 ?_
  refine g_istore_n (lv2 := [(2, .int (nI 0)), (0, .ref (sAd ε (c))), (1, .ref (sAd ε (c1)))]) hX 2 5 hN rfl (by decide) rfl dX4_differsFrom_1 ?_
  refine g_iconst hX (v := nI 0) rfl dX4_differsFrom_2 ?_
  refine g_istore_n (lv2 := [(3, .int (nI 0)), (2, .int (nI 0)), (0, .ref (sAd ε (c))), (1, .ref (sAd ε (c1)))]) hX 3 5 hN rfl (by decide) rfl dX4_differsFrom_3 ?_
  refine g_lv [2, 3, 1, 0] rfl ?_
  exact (J4 (fn_X4_differsFrom_L64 ε c c1) J64 4000) (nI 0) (nI 0)  σ h
theorem kX4_pushOf : mKV RX4 yX4_pushOf cX4_pushOf 4 (some .int) 1 := ⟨tIns_X4_pushOf, tSel_X4_pushOf, tIni_X4, tCod_X4_pushOf, by decide +kernel⟩
set_option maxHeartbeats 4000000 in
set_option maxRecDepth 100000 in
theorem ct_X4_pushOf (l : Launch) (D : va_G) (cy : Nat → ClassId) (Z : (Nat → Prop) → State → Heap → Prop) (hzo : zOK Z) {aStr aByt : Nat → Nat} (hzs : zSt Z aStr aByt) {q : Nat → Nat} {C : Ev → Sg → va_W} (hC : cLens cy q C) (ε : Ev) (c : Nat) (hc : isX4 c) (c1 : Nat) (hc1 : isX0 c1) (σ σ2 : Sg) (res : Int32) (h : fn_X4_pushOf ε c c1 σ = some (res, σ2)) : GD l D cy Z yX4_pushOf (zW yX4_pushOf cX4_pushOf 4 (some .int)) { frames := 2, cells := 0, slots := 0, locals := 50 } [.ref (sAd ε (c)), .ref (sAd ε (c1))] (C ε σ) (some (.int res)) (C ε σ2) 0 0 := by
  refine g_entry (cc := cX4_pushOf) (maxL := 4) (by decide) rfl (Nat.le_of_ble_eq_true rfl) ?_
  intro κ hN hX hR
  have hX : GX κ cy Z cX4_pushOf (Cond.code yX4_pushOf cX4_pushOf 4 (some .int) :: zT) RX4 { frames := 2, cells := 0, slots := 0, locals := 50 } := hX
  have J45 : ∀ (s0 : Int32) (σ : Sg) , fn_X4_pushOf_L45 ε c c1 s0 σ = some (res, σ2) → GW κ 0 0 (C ε σ) 45 [] [.int (s0), .ref (sAd ε (c1))] := by
    intro s0 σ h
    obtain ⟨y45, τ45, e45, h⟩ := ob_some h
    refine c_call0 hX hC hzo hc1 [.int (s0)] [] (ct_X0_pushing _ _ _ _ hzo hzs hC ε c1 hc1 s0 σ _ _ e45) kX0_pushing tMet_X4_126 rfl rfl (Nat.le_of_ble_eq_true rfl) (Nat.le_of_ble_eq_true rfl) ⟨Nat.le_of_ble_eq_true rfl, Nat.le_of_ble_eq_true rfl⟩ rfl rfl (Nat.le_of_ble_eq_true rfl) dX4_pushOf_45 ?_
    exact g_reti hR (oi_1 h) (congrArg (C ε) (oi_2 h)) dX4_pushOf_48
  show GW κ 0 0 (C ε σ) 0 [(0, .ref (sAd ε (c))), (1, .ref (sAd ε (c1)))] []
  refine g_aload_n hX 0 rfl rfl dX4_pushOf_0 ?_
  refine c_get4 hX hC hc 2 (by decide) rfl tFld_X4_23 rfl dX4_pushOf_1 ?_
  refine g_iconst hX (v := nI 0) rfl dX4_pushOf_4 ?_
  obtain ⟨g1, h⟩ := gd_some h
  refine c_aald hX hC (kq_X4_3 hc) rfl g1 (v := va_rf (Option.map (sAd ε) (σ.2 (c + 3) (nI 0).toNatClampNeg))) rfl dX4_pushOf_5 ?_
  refine g_astore_nQ (lv2 := [(2, va_rf (Option.map (sAd ε) (σ.2 (c + 3) (nI 0).toNatClampNeg))), (0, .ref (sAd ε (c))), (1, .ref (sAd ε (c1)))]) hX 2 4 hN rfl (by decide) rfl dX4_pushOf_6 ?_
  refine g_aload_n hX 2 rfl rfl dX4_pushOf_7 ?_
  refine c_get0 hX hC hc1 2 (by decide) rfl tFld_X4_69 rfl dX4_pushOf_8 ?_
  refine g_mabs hX tMet_X4_118 (Nat.le_of_ble_eq_true rfl) (Nat.le_of_ble_eq_true rfl) (Nat.le_of_ble_eq_true rfl) (Nat.le_of_ble_eq_true rfl) (Nat.le_of_ble_eq_true rfl) dX4_pushOf_11 ?_
  refine g_istore_n (lv2 := [(3, .int ((abI (σ.1 c1 2)))), (2, va_rf (Option.map (sAd ε) (σ.2 (c + 3) (nI 0).toNatClampNeg))), (0, .ref (sAd ε (c))), (1, .ref (sAd ε (c1)))]) hX 3 4 hN rfl (by decide) (by simp only [List.filter, va_rfc]; rfl) dX4_pushOf_14 ?_
  refine g_aload_n hX 3 rfl rfl dX4_pushOf_15 ?_
  refine g_aload_nQ hX 1 rfl rfl dX4_pushOf_16 ?_
  rcases oq_some h with ⟨hq, h⟩ | ⟨x17, hq, h⟩
  · refine g_re (lv2 := [(3, .int ((abI (σ.1 c1 2)))), (2, .null), (0, .ref (sAd ε (c))), (1, .ref (sAd ε (c1)))]) (st2 := [.null, .ref (sAd ε (c1))]) (by rw [hq]; rfl) (by rw [hq]; rfl) ?_
    refine g_ifnonnullN hX dX4_pushOf_17 ?_
    refine g_aload_n hX 3 rfl rfl dX4_pushOf_20 ?_
    refine c_get0 hX hC hc1 1 (by decide) rfl tFld_X4_66 rfl dX4_pushOf_21 ?_
    refine g_iload_n hX 0 rfl rfl dX4_pushOf_24 ?_
    refine g_imul hX dX4_pushOf_25 ?_
    refine g_bipush hX (v := nI 10) (by decide) dX4_pushOf_26 ?_
    refine g_idiv hX (by decide) dX4_pushOf_28 ?_
    refine g_goto hX 45 (by decide) dX4_pushOf_29 ?_
    refine g_lv [] rfl ?_
    exact J45 (((σ.1 c1 1 * (abI (σ.1 c1 2))) / nI 10))  σ h
  · refine g_re (lv2 := [(3, .int ((abI (σ.1 c1 2)))), (2, .ref (sAd ε (x17))), (0, .ref (sAd ε (c))), (1, .ref (sAd ε (c1)))]) (st2 := [.ref (sAd ε (x17)), .ref (sAd ε (c1))]) (by rw [hq]; rfl) (by rw [hq]; rfl) ?_
    obtain ⟨g2, h⟩ := gd_some h
    refine g_ifnonnull hX 32 (by decide) dX4_pushOf_17 ?_
    refine g_aload_n hX 1 rfl rfl dX4_pushOf_32 ?_
    refine g_aload_n hX 3 rfl rfl dX4_pushOf_33 ?_
    refine c_get0 hX hC hc1 1 (by decide) rfl tFld_X4_66 rfl dX4_pushOf_34 ?_
    refine g_iload_n hX 0 rfl rfl dX4_pushOf_37 ?_
    refine g_aload_n hX 3 rfl rfl dX4_pushOf_38 ?_
    refine c_get0 hX hC hc1 4 (by decide) rfl tFld_X4_115 rfl dX4_pushOf_39 ?_
    obtain ⟨y42, τ42, e42, h⟩ := ob_some h
    refine c_call5 hX hC hzo g2 [.int (σ.1 c1 1), .int ((abI (σ.1 c1 2))), .int (σ.1 c1 4)] [.ref (sAd ε (c1))] (ct_X5_value _ _ _ _ hzo hzs hC ε x17 g2 (σ.1 c1 1) ((abI (σ.1 c1 2))) (σ.1 c1 4) σ _ _ e42) kX5_value tMet_X4_122 rfl rfl (Nat.le_of_ble_eq_true rfl) (Nat.le_of_ble_eq_true rfl) ⟨Nat.le_of_ble_eq_true rfl, Nat.le_of_ble_eq_true rfl⟩ rfl rfl (Nat.le_of_ble_eq_true rfl) dX4_pushOf_42 ?_
    refine g_lv [] rfl ?_
    exact J45 y42  τ42 h
theorem kX4_workOutThrusts : mKV RX4 yX4_workOutThrusts cX4_workOutThrusts 3 none 0 := ⟨tIns_X4_workOutThrusts, tSel_X4_workOutThrusts, tIni_X4, tCod_X4_workOutThrusts, by decide +kernel⟩
set_option maxHeartbeats 4000000 in
set_option maxRecDepth 100000 in
theorem ct_X4_workOutThrusts (l : Launch) (D : va_G) (cy : Nat → ClassId) (Z : (Nat → Prop) → State → Heap → Prop) (hzo : zOK Z) {aStr aByt : Nat → Nat} (hzs : zSt Z aStr aByt) {q : Nat → Nat} {C : Ev → Sg → va_W} (hC : cLens cy q C) (ε : Ev) (c : Nat) (hc : isX4 c) (σ σ2 : Sg) (res : Unit) (h : fn_X4_workOutThrusts ε c σ = some (res, σ2)) : GD l D cy Z yX4_workOutThrusts (zW yX4_workOutThrusts cX4_workOutThrusts 3 none) { frames := 3, cells := 0, slots := 0, locals := 73 } [.ref (sAd ε (c))] (C ε σ) none (C ε σ2) 0 0 := by
  refine g_entry (cc := cX4_workOutThrusts) (maxL := 3) (by decide) rfl (Nat.le_of_ble_eq_true rfl) ?_
  intro κ hN hX hR
  have hX : GX κ cy Z cX4_workOutThrusts (Cond.code yX4_workOutThrusts cX4_workOutThrusts 3 none :: zT) RX4 { frames := 3, cells := 0, slots := 0, locals := 73 } := hX
  have J147 : ∀ (σ : Sg) , fn_X4_workOutThrusts_L147 ε c  σ = some (res, σ2) → GW κ 0 0 (C ε σ) 147 [] [] := by
    intro σ h
    exact g_retv hR (congrArg (C ε) (oi_2 h)) dX4_workOutThrusts_147
  have J141 : ∀ (slf : Int32 → Int32 → Sg → Option (Unit × Sg)) (hslf : ∀ (v1 : Int32) (v2 : Int32) (σ : Sg) , slf v1 v2 σ = some (res, σ2) → GW κ 0 0 (C ε σ) 4 [(0, .ref (sAd ε (c))), (1, .int (v1)), (2, .int (v2))] []) (k147 : Sg → Option (Unit × Sg)) (hk147 : ∀ (σ : Sg) , k147  σ = some (res, σ2) → GW κ 0 0 (C ε σ) 147 [] []), ∀ (v1 : Int32) (v2 : Int32) (σ : Sg) , fn_X4_workOutThrusts_L141 ε c slf k147 v1 v2 σ = some (res, σ2) → GW κ 0 0 (C ε σ) 141 [(0, .ref (sAd ε (c))), (1, .int (v1)), (2, .int (v2))] [] := by
    intro slf hslf k147 hk147 v1 v2 σ h
    refine g_iinc (v := (v2 + nI 1)) (lv2 := [(2, .int ((v2 + nI 1))), (0, .ref (sAd ε (c))), (1, .int (v1))]) hX 2 2 3 hN rfl rfl (by decide) rfl dX4_workOutThrusts_141 ?_
    refine g_goto hX 4 (by decide) dX4_workOutThrusts_144 ?_
    refine g_lv [1, 2, 0] rfl ?_
    exact hslf v1 ((v2 + nI 1))  σ h
  have J139 : ∀ (slf : Int32 → Int32 → Sg → Option (Unit × Sg)) (hslf : ∀ (v1 : Int32) (v2 : Int32) (σ : Sg) , slf v1 v2 σ = some (res, σ2) → GW κ 0 0 (C ε σ) 4 [(0, .ref (sAd ε (c))), (1, .int (v1)), (2, .int (v2))] []) (k147 : Sg → Option (Unit × Sg)) (hk147 : ∀ (σ : Sg) , k147  σ = some (res, σ2) → GW κ 0 0 (C ε σ) 147 [] []), ∀ (v2 : Int32) (σ : Sg) , fn_X4_workOutThrusts_L139 ε c slf k147 v2 σ = some (res, σ2) → GW κ 0 0 (C ε σ) 139 [(0, .ref (sAd ε (c))), (2, .int (v2))] [] := by
    intro slf hslf k147 hk147 v2 σ h
    refine g_iload_n hX 1 rfl rfl dX4_workOutThrusts_139 ?_
    refine g_istore_n (lv2 := [(1, .int (v2)), (0, .ref (sAd ε (c))), (2, .int (v2))]) hX 1 3 hN rfl (by decide) rfl dX4_workOutThrusts_140 ?_
    refine g_lv [1, 0, 2] rfl ?_
    exact (J141 slf hslf k147 hk147) v2 v2  σ h
  have J137 : ∀ (slf : Int32 → Int32 → Sg → Option (Unit × Sg)) (hslf : ∀ (v1 : Int32) (v2 : Int32) (σ : Sg) , slf v1 v2 σ = some (res, σ2) → GW κ 0 0 (C ε σ) 4 [(0, .ref (sAd ε (c))), (1, .int (v1)), (2, .int (v2))] []) (k147 : Sg → Option (Unit × Sg)) (hk147 : ∀ (σ : Sg) , k147  σ = some (res, σ2) → GW κ 0 0 (C ε σ) 147 [] []), ∀ (v2 : Int32) (s0 : Int32) (s1 : Int32) (s2 : Int32) (σ : Sg) , fn_X4_workOutThrusts_L137 ε c slf k147 v2 s0 s1 s2 σ = some (res, σ2) → GW κ 0 0 (C ε σ) 137 [(0, .ref (sAd ε (c))), (2, .int (v2))] [.int (s0), .int (s1), .int (s2), .ref (sAd ε (c + 4))] := by
    intro slf hslf k147 hk147 v2 s0 s1 s2 σ h
    refine g_isub hX dX4_workOutThrusts_137 ?_
    obtain ⟨g1, h⟩ := gd_some h
    refine c_ast hX hC (ka_X4_4 hc) g1 dX4_workOutThrusts_138 ?_
    exact (J139 slf hslf k147 hk147) v2  (pI σ (c + 4) s2.toNatClampNeg ((s1 - s0))) h
  have J102 : ∀ (slf : Int32 → Int32 → Sg → Option (Unit × Sg)) (hslf : ∀ (v1 : Int32) (v2 : Int32) (σ : Sg) , slf v1 v2 σ = some (res, σ2) → GW κ 0 0 (C ε σ) 4 [(0, .ref (sAd ε (c))), (1, .int (v1)), (2, .int (v2))] []) (k147 : Sg → Option (Unit × Sg)) (hk147 : ∀ (σ : Sg) , k147  σ = some (res, σ2) → GW κ 0 0 (C ε σ) 147 [] []), ∀ (v1 : Int32) (v2 : Int32) (s0 : Int32) (s1 : Int32) (s2 : Int32) (σ : Sg) , fn_X4_workOutThrusts_L102 ε c slf k147 v1 v2 s0 s1 s2 σ = some (res, σ2) → GW κ 0 0 (C ε σ) 102 [(0, .ref (sAd ε (c))), (1, .int (v1)), (2, .int (v2))] [.int (s0), .int (s1), .int (s2), .ref (sAd ε (c + 4))] := by
    intro slf hslf k147 hk147 v1 v2 s0 s1 s2 σ h
    refine g_iadd hX dX4_workOutThrusts_102 ?_
    obtain ⟨g2, h⟩ := gd_some h
    refine c_ast hX hC (ka_X4_4 hc) g2 dX4_workOutThrusts_103 ?_
    refine g_aload_n hX 0 rfl rfl dX4_workOutThrusts_104 ?_
    refine c_get4 hX hC hc 3 (by decide) rfl tFld_X4_26 rfl dX4_workOutThrusts_105 ?_
    refine g_iload_n hX 1 rfl rfl dX4_workOutThrusts_108 ?_
    refine g_dup2 hX rfl rfl dX4_workOutThrusts_109 ?_
    obtain ⟨g3, h⟩ := gd_some h
    refine c_ald hX hC (ka_X4_4 hc) g3 dX4_workOutThrusts_110 ?_
    refine g_aload_n hX 0 rfl rfl dX4_workOutThrusts_111 ?_
    refine c_get4 hX hC hc 0 (by decide) rfl tFld_X4_11 rfl dX4_workOutThrusts_112 ?_
    refine g_iload_n hX 2 rfl rfl dX4_workOutThrusts_115 ?_
    obtain ⟨g4, h⟩ := gd_some h
    refine c_aald hX hC (kq_X4_1 hc) rfl g4 (v := .ref (sAd ε (c + 7 + v2.toNatClampNeg))) rfl dX4_workOutThrusts_116 ?_
    refine c_get0 hX hC (kh_X4 hc (vin_lt g4)) 2 (by decide) rfl tFld_X4_69 rfl dX4_workOutThrusts_117 ?_
    refine g_if_ge hX 136 (by decide) dX4_workOutThrusts_120 (fun b120 => ?_) (fun b120 => ?_)
    · replace h := if_p b120 h
      refine g_iconst hX (v := nI 0) rfl dX4_workOutThrusts_136 ?_
      refine g_lv [0, 2] rfl ?_
      exact (J137 slf hslf k147 hk147) v2 (nI 0) ((pI σ (c + 4) s2.toNatClampNeg ((s1 + s0))).1 (c + 4) v1.toNatClampNeg) v1  (pI σ (c + 4) s2.toNatClampNeg ((s1 + s0))) h
    · replace h := if_n b120 h
      refine g_aload_n hX 0 rfl rfl dX4_workOutThrusts_123 ?_
      refine g_aload_n hX 0 rfl rfl dX4_workOutThrusts_124 ?_
      refine c_get4 hX hC hc 0 (by decide) rfl tFld_X4_11 rfl dX4_workOutThrusts_125 ?_
      refine g_iload_n hX 2 rfl rfl dX4_workOutThrusts_128 ?_
      refine c_aald hX hC (kq_X4_1 hc) rfl g4 (v := .ref (sAd ε (c + 7 + v2.toNatClampNeg))) rfl dX4_workOutThrusts_129 ?_
      obtain ⟨y130, τ130, e130, h⟩ := ob_some h
      refine c_call4 hX hC hzo hc [.ref (sAd ε (c + 7 + v2.toNatClampNeg))] [.int ((pI σ (c + 4) s2.toNatClampNeg ((s1 + s0))).1 (c + 4) v1.toNatClampNeg), .int (v1), .ref (sAd ε (c + 4))] (ct_X4_pushOf _ _ _ _ hzo hzs hC ε c hc (c + 7 + v2.toNatClampNeg) (kh_X4 hc (vin_lt g4)) (pI σ (c + 4) s2.toNatClampNeg ((s1 + s0))) _ _ e130) kX4_pushOf tMet_X4_133 rfl rfl (Nat.le_of_ble_eq_true rfl) (Nat.le_of_ble_eq_true rfl) ⟨Nat.le_of_ble_eq_true rfl, Nat.le_of_ble_eq_true rfl⟩ rfl rfl (Nat.le_of_ble_eq_true rfl) dX4_workOutThrusts_130 ?_
      refine g_goto hX 137 (by decide) dX4_workOutThrusts_133 ?_
      refine g_lv [0, 2] rfl ?_
      exact (J137 slf hslf k147 hk147) v2 y130 ((pI σ (c + 4) s2.toNatClampNeg ((s1 + s0))).1 (c + 4) v1.toNatClampNeg) v1  τ130 h
  have J4 : ∀ (k147 : Sg → Option (Unit × Sg)) (hk147 : ∀ (σ : Sg) , k147  σ = some (res, σ2) → GW κ 0 0 (C ε σ) 147 [] []) (fuel : Nat), ∀ (v1 : Int32) (v2 : Int32) (σ : Sg) , fn_X4_workOutThrusts_L4 ε c k147 fuel v1 v2 σ = some (res, σ2) → GW κ 0 0 (C ε σ) 4 [(0, .ref (sAd ε (c))), (1, .int (v1)), (2, .int (v2))] [] := by
    intro k147 hk147 fuel
    induction fuel with
    | zero => intro v1 v2 σ h; cases (show none = some (res, σ2) from h)
    | succ fuel ih =>
      intro v1 v2 σ h
      replace h : (if σ.1 c 6 ≤ v2 then (k147  σ) else (if ¬ (v2 < 0 ∨ 9 ≤ v2.toNatClampNeg) then (if (pI (pI (pI σ (c + 4) v2.toNatClampNeg (nI 0)) (c + 5) v2.toNatClampNeg v1) (c + 6) v2.toNatClampNeg ((-1))).1 (c + 7 + v2.toNatClampNeg) 6 = 0 then ((fn_X4_workOutThrusts_L141 ε c (fn_X4_workOutThrusts_L4 ε c k147 fuel) k147) v1 v2 (pI (pI (pI σ (c + 4) v2.toNatClampNeg (nI 0)) (c + 5) v2.toNatClampNeg v1) (c + 6) v2.toNatClampNeg ((-1)))) else (if v1 < 0 then ((fn_X4_workOutThrusts_L139 ε c (fn_X4_workOutThrusts_L4 ε c k147 fuel) k147) v2 (pI (pI (pI (pI σ (c + 4) v2.toNatClampNeg (nI 0)) (c + 5) v2.toNatClampNeg v1) (c + 6) v2.toNatClampNeg ((-1))) (c + 4) v2.toNatClampNeg ((pI (pI (pI σ (c + 4) v2.toNatClampNeg (nI 0)) (c + 5) v2.toNatClampNeg v1) (c + 6) v2.toNatClampNeg ((-1))).1 c 8))) else (if ¬ (v1 < 0 ∨ 9 ≤ v1.toNatClampNeg) then (if (pI (pI (pI (pI (pI σ (c + 4) v2.toNatClampNeg (nI 0)) (c + 5) v2.toNatClampNeg v1) (c + 6) v2.toNatClampNeg ((-1))) (c + 4) v2.toNatClampNeg ((pI (pI (pI σ (c + 4) v2.toNatClampNeg (nI 0)) (c + 5) v2.toNatClampNeg v1) (c + 6) v2.toNatClampNeg ((-1))).1 c 8)) (c + 6) v1.toNatClampNeg v2).1 (c + 7 + v1.toNatClampNeg) 2 ≤ 0 then ((fn_X4_workOutThrusts_L102 ε c (fn_X4_workOutThrusts_L4 ε c k147 fuel) k147) v1 v2 (nI 0) ((pI (pI (pI (pI (pI σ (c + 4) v2.toNatClampNeg (nI 0)) (c + 5) v2.toNatClampNeg v1) (c + 6) v2.toNatClampNeg ((-1))) (c + 4) v2.toNatClampNeg ((pI (pI (pI σ (c + 4) v2.toNatClampNeg (nI 0)) (c + 5) v2.toNatClampNeg v1) (c + 6) v2.toNatClampNeg ((-1))).1 c 8)) (c + 6) v1.toNatClampNeg v2).1 (c + 4) v2.toNatClampNeg) v2 (pI (pI (pI (pI (pI σ (c + 4) v2.toNatClampNeg (nI 0)) (c + 5) v2.toNatClampNeg v1) (c + 6) v2.toNatClampNeg ((-1))) (c + 4) v2.toNatClampNeg ((pI (pI (pI σ (c + 4) v2.toNatClampNeg (nI 0)) (c + 5) v2.toNatClampNeg v1) (c + 6) v2.toNatClampNeg ((-1))).1 c 8)) (c + 6) v1.toNatClampNeg v2)) else (ob (fn_X4_pushOf ε c (c + 7 + v1.toNatClampNeg) (pI (pI (pI (pI (pI σ (c + 4) v2.toNatClampNeg (nI 0)) (c + 5) v2.toNatClampNeg v1) (c + 6) v2.toNatClampNeg ((-1))) (c + 4) v2.toNatClampNeg ((pI (pI (pI σ (c + 4) v2.toNatClampNeg (nI 0)) (c + 5) v2.toNatClampNeg v1) (c + 6) v2.toNatClampNeg ((-1))).1 c 8)) (c + 6) v1.toNatClampNeg v2)) (fun y95 τ95 => ((fn_X4_workOutThrusts_L102 ε c (fn_X4_workOutThrusts_L4 ε c k147 fuel) k147) v1 v2 y95 ((pI (pI (pI (pI (pI σ (c + 4) v2.toNatClampNeg (nI 0)) (c + 5) v2.toNatClampNeg v1) (c + 6) v2.toNatClampNeg ((-1))) (c + 4) v2.toNatClampNeg ((pI (pI (pI σ (c + 4) v2.toNatClampNeg (nI 0)) (c + 5) v2.toNatClampNeg v1) (c + 6) v2.toNatClampNeg ((-1))).1 c 8)) (c + 6) v1.toNatClampNeg v2).1 (c + 4) v2.toNatClampNeg) v2 τ95)))) else none))) else none)) = some (res, σ2) := h
      refine g_iload_n hX 2 rfl rfl dX4_workOutThrusts_4 ?_
      refine g_aload_n hX 0 rfl rfl dX4_workOutThrusts_5 ?_
      refine c_get4 hX hC hc 6 (by decide) rfl tFld_X4_36 rfl dX4_workOutThrusts_6 ?_
      refine g_icmp_ge hX 147 (by decide) dX4_workOutThrusts_9 (fun b9 => ?_) (fun b9 => ?_)
      · replace h := if_p b9 h
        refine g_lv [] rfl ?_
        exact hk147   σ h
      · replace h := if_n b9 h
        refine g_aload_n hX 0 rfl rfl dX4_workOutThrusts_12 ?_
        refine c_get4 hX hC hc 3 (by decide) rfl tFld_X4_26 rfl dX4_workOutThrusts_13 ?_
        refine g_iload_n hX 2 rfl rfl dX4_workOutThrusts_16 ?_
        refine g_iconst hX (v := nI 0) rfl dX4_workOutThrusts_17 ?_
        obtain ⟨g5, h⟩ := gd_some h
        refine c_ast hX hC (ka_X4_4 hc) g5 dX4_workOutThrusts_18 ?_
        refine g_aload_n hX 0 rfl rfl dX4_workOutThrusts_19 ?_
        refine c_get4 hX hC hc 4 (by decide) rfl tFld_X4_30 rfl dX4_workOutThrusts_20 ?_
        refine g_iload_n hX 2 rfl rfl dX4_workOutThrusts_23 ?_
        refine g_iload_n hX 1 rfl rfl dX4_workOutThrusts_24 ?_
        refine c_ast hX hC (ka_X4_5 hc) g5 dX4_workOutThrusts_25 ?_
        refine g_aload_n hX 0 rfl rfl dX4_workOutThrusts_26 ?_
        refine c_get4 hX hC hc 5 (by decide) rfl tFld_X4_33 rfl dX4_workOutThrusts_27 ?_
        refine g_iload_n hX 2 rfl rfl dX4_workOutThrusts_30 ?_
        refine g_iconst hX (v := -1) (by decide) dX4_workOutThrusts_31 ?_
        refine c_ast hX hC (ka_X4_6 hc) g5 dX4_workOutThrusts_32 ?_
        refine g_aload_n hX 0 rfl rfl dX4_workOutThrusts_33 ?_
        refine c_get4 hX hC hc 0 (by decide) rfl tFld_X4_11 rfl dX4_workOutThrusts_34 ?_
        refine g_iload_n hX 2 rfl rfl dX4_workOutThrusts_37 ?_
        refine c_aald hX hC (kq_X4_1 hc) rfl g5 (v := .ref (sAd ε (c + 7 + v2.toNatClampNeg))) rfl dX4_workOutThrusts_38 ?_
        refine c_get0 hX hC (kh_X4 hc (vin_lt g5)) 6 (by decide) rfl tFld_X4_129 rfl dX4_workOutThrusts_39 ?_
        refine g_if_ne hX 48 (by decide) dX4_workOutThrusts_42 (fun b42 => ?_) (fun b42 => ?_)
        · replace h := if_n b42 h
          refine g_aload_n hX 0 rfl rfl dX4_workOutThrusts_48 ?_
          refine c_get4 hX hC hc 3 (by decide) rfl tFld_X4_26 rfl dX4_workOutThrusts_49 ?_
          refine g_iload_n hX 2 rfl rfl dX4_workOutThrusts_52 ?_
          refine g_aload_n hX 0 rfl rfl dX4_workOutThrusts_53 ?_
          refine c_get4 hX hC hc 8 (by decide) rfl tFld_X4_43 rfl dX4_workOutThrusts_54 ?_
          refine c_ast hX hC (ka_X4_4 hc) g5 dX4_workOutThrusts_57 ?_
          refine g_iload_n hX 1 rfl rfl dX4_workOutThrusts_58 ?_
          refine g_if_lt hX 139 (by decide) dX4_workOutThrusts_59 (fun b59 => ?_) (fun b59 => ?_)
          · replace h := if_p b59 h
            refine g_lv [0, 2] rfl ?_
            exact (J139 (fn_X4_workOutThrusts_L4 ε c k147 fuel) ih k147 hk147) v2  (pI (pI (pI (pI σ (c + 4) v2.toNatClampNeg (nI 0)) (c + 5) v2.toNatClampNeg v1) (c + 6) v2.toNatClampNeg ((-1))) (c + 4) v2.toNatClampNeg ((pI (pI (pI σ (c + 4) v2.toNatClampNeg (nI 0)) (c + 5) v2.toNatClampNeg v1) (c + 6) v2.toNatClampNeg ((-1))).1 c 8)) h
          · replace h := if_n b59 h
            refine g_aload_n hX 0 rfl rfl dX4_workOutThrusts_62 ?_
            refine c_get4 hX hC hc 5 (by decide) rfl tFld_X4_33 rfl dX4_workOutThrusts_63 ?_
            refine g_iload_n hX 1 rfl rfl dX4_workOutThrusts_66 ?_
            refine g_iload_n hX 2 rfl rfl dX4_workOutThrusts_67 ?_
            obtain ⟨g6, h⟩ := gd_some h
            refine c_ast hX hC (ka_X4_6 hc) g6 dX4_workOutThrusts_68 ?_
            refine g_aload_n hX 0 rfl rfl dX4_workOutThrusts_69 ?_
            refine c_get4 hX hC hc 3 (by decide) rfl tFld_X4_26 rfl dX4_workOutThrusts_70 ?_
            refine g_iload_n hX 2 rfl rfl dX4_workOutThrusts_73 ?_
            refine g_dup2 hX rfl rfl dX4_workOutThrusts_74 ?_
            refine c_ald hX hC (ka_X4_4 hc) g5 dX4_workOutThrusts_75 ?_
            refine g_aload_n hX 0 rfl rfl dX4_workOutThrusts_76 ?_
            refine c_get4 hX hC hc 0 (by decide) rfl tFld_X4_11 rfl dX4_workOutThrusts_77 ?_
            refine g_iload_n hX 1 rfl rfl dX4_workOutThrusts_80 ?_
            refine c_aald hX hC (kq_X4_1 hc) rfl g6 (v := .ref (sAd ε (c + 7 + v1.toNatClampNeg))) rfl dX4_workOutThrusts_81 ?_
            refine c_get0 hX hC (kh_X4 hc (vin_lt g6)) 2 (by decide) rfl tFld_X4_69 rfl dX4_workOutThrusts_82 ?_
            refine g_if_le hX 101 (by decide) dX4_workOutThrusts_85 (fun b85 => ?_) (fun b85 => ?_)
            · replace h := if_p b85 h
              refine g_iconst hX (v := nI 0) rfl dX4_workOutThrusts_101 ?_
              exact (J102 (fn_X4_workOutThrusts_L4 ε c k147 fuel) ih k147 hk147) v1 v2 (nI 0) ((pI (pI (pI (pI (pI σ (c + 4) v2.toNatClampNeg (nI 0)) (c + 5) v2.toNatClampNeg v1) (c + 6) v2.toNatClampNeg ((-1))) (c + 4) v2.toNatClampNeg ((pI (pI (pI σ (c + 4) v2.toNatClampNeg (nI 0)) (c + 5) v2.toNatClampNeg v1) (c + 6) v2.toNatClampNeg ((-1))).1 c 8)) (c + 6) v1.toNatClampNeg v2).1 (c + 4) v2.toNatClampNeg) v2  (pI (pI (pI (pI (pI σ (c + 4) v2.toNatClampNeg (nI 0)) (c + 5) v2.toNatClampNeg v1) (c + 6) v2.toNatClampNeg ((-1))) (c + 4) v2.toNatClampNeg ((pI (pI (pI σ (c + 4) v2.toNatClampNeg (nI 0)) (c + 5) v2.toNatClampNeg v1) (c + 6) v2.toNatClampNeg ((-1))).1 c 8)) (c + 6) v1.toNatClampNeg v2) h
            · replace h := if_n b85 h
              refine g_aload_n hX 0 rfl rfl dX4_workOutThrusts_88 ?_
              refine g_aload_n hX 0 rfl rfl dX4_workOutThrusts_89 ?_
              refine c_get4 hX hC hc 0 (by decide) rfl tFld_X4_11 rfl dX4_workOutThrusts_90 ?_
              refine g_iload_n hX 1 rfl rfl dX4_workOutThrusts_93 ?_
              refine c_aald hX hC (kq_X4_1 hc) rfl g6 (v := .ref (sAd ε (c + 7 + v1.toNatClampNeg))) rfl dX4_workOutThrusts_94 ?_
              obtain ⟨y95, τ95, e95, h⟩ := ob_some h
              refine c_call4 hX hC hzo hc [.ref (sAd ε (c + 7 + v1.toNatClampNeg))] [.int ((pI (pI (pI (pI (pI σ (c + 4) v2.toNatClampNeg (nI 0)) (c + 5) v2.toNatClampNeg v1) (c + 6) v2.toNatClampNeg ((-1))) (c + 4) v2.toNatClampNeg ((pI (pI (pI σ (c + 4) v2.toNatClampNeg (nI 0)) (c + 5) v2.toNatClampNeg v1) (c + 6) v2.toNatClampNeg ((-1))).1 c 8)) (c + 6) v1.toNatClampNeg v2).1 (c + 4) v2.toNatClampNeg), .int (v2), .ref (sAd ε (c + 4))] (ct_X4_pushOf _ _ _ _ hzo hzs hC ε c hc (c + 7 + v1.toNatClampNeg) (kh_X4 hc (vin_lt g6)) (pI (pI (pI (pI (pI σ (c + 4) v2.toNatClampNeg (nI 0)) (c + 5) v2.toNatClampNeg v1) (c + 6) v2.toNatClampNeg ((-1))) (c + 4) v2.toNatClampNeg ((pI (pI (pI σ (c + 4) v2.toNatClampNeg (nI 0)) (c + 5) v2.toNatClampNeg v1) (c + 6) v2.toNatClampNeg ((-1))).1 c 8)) (c + 6) v1.toNatClampNeg v2) _ _ e95) kX4_pushOf tMet_X4_133 rfl rfl (Nat.le_of_ble_eq_true rfl) (Nat.le_of_ble_eq_true rfl) ⟨Nat.le_of_ble_eq_true rfl, Nat.le_of_ble_eq_true rfl⟩ rfl rfl (Nat.le_of_ble_eq_true rfl) dX4_workOutThrusts_95 ?_
              refine g_goto hX 102 (by decide) dX4_workOutThrusts_98 ?_
              exact (J102 (fn_X4_workOutThrusts_L4 ε c k147 fuel) ih k147 hk147) v1 v2 y95 ((pI (pI (pI (pI (pI σ (c + 4) v2.toNatClampNeg (nI 0)) (c + 5) v2.toNatClampNeg v1) (c + 6) v2.toNatClampNeg ((-1))) (c + 4) v2.toNatClampNeg ((pI (pI (pI σ (c + 4) v2.toNatClampNeg (nI 0)) (c + 5) v2.toNatClampNeg v1) (c + 6) v2.toNatClampNeg ((-1))).1 c 8)) (c + 6) v1.toNatClampNeg v2).1 (c + 4) v2.toNatClampNeg) v2  τ95 h
        · replace h := if_p b42 h
          refine g_goto hX 141 (by decide) dX4_workOutThrusts_45 ?_
          exact (J141 (fn_X4_workOutThrusts_L4 ε c k147 fuel) ih k147 hk147) v1 v2  (pI (pI (pI σ (c + 4) v2.toNatClampNeg (nI 0)) (c + 5) v2.toNatClampNeg v1) (c + 6) v2.toNatClampNeg ((-1))) h
  show GW κ 0 0 (C ε σ) 0 [(0, .ref (sAd ε (c)))] []
  refine g_iconst hX (v := -1) (by decide) dX4_workOutThrusts_0 ?_
  refine g_istore_n (lv2 := [(1, .int ((-1))), (0, .ref (sAd ε (c)))]) hX 1 3 hN rfl (by decide) rfl dX4_workOutThrusts_1 ?_
  refine g_iconst hX (v := nI 0) rfl dX4_workOutThrusts_2 ?_
  refine g_istore_n (lv2 := [(2, .int (nI 0)), (1, .int ((-1))), (0, .ref (sAd ε (c)))]) hX 2 3 hN rfl (by decide) rfl dX4_workOutThrusts_3 ?_
  refine g_lv [2, 1, 0] rfl ?_
  exact (J4 (fn_X4_workOutThrusts_L147 ε c) J147 4000) ((-1)) (nI 0)  σ h
theorem kX4_tooMuch : mKV RX4 yX4_tooMuch cX4_tooMuch 2 (some .int) 1 := ⟨tIns_X4_tooMuch, tSel_X4_tooMuch, tIni_X4, tCod_X4_tooMuch, by decide +kernel⟩
set_option maxHeartbeats 4000000 in
set_option maxRecDepth 100000 in
theorem ct_X4_tooMuch (l : Launch) (D : va_G) (cy : Nat → ClassId) (Z : (Nat → Prop) → State → Heap → Prop) (hzo : zOK Z) {aStr aByt : Nat → Nat} (hzs : zSt Z aStr aByt) {q : Nat → Nat} {C : Ev → Sg → va_W} (hC : cLens cy q C) (ε : Ev) (c : Nat) (hc : isX4 c) (z1 : Int32) (σ σ2 : Sg) (res : Int32) (h : fn_X4_tooMuch ε c z1 σ = some (res, σ2)) : GD l D cy Z yX4_tooMuch (zW yX4_tooMuch cX4_tooMuch 2 (some .int)) { frames := 1, cells := 0, slots := 0, locals := 21 } [.ref (sAd ε (c)), .int (z1)] (C ε σ) (some (.int res)) (C ε σ2) 0 0 := by
  refine g_entry (cc := cX4_tooMuch) (maxL := 2) (by decide) rfl (Nat.le_of_ble_eq_true rfl) ?_
  intro κ hN hX hR
  have hX : GX κ cy Z cX4_tooMuch (Cond.code yX4_tooMuch cX4_tooMuch 2 (some .int) :: zT) RX4 { frames := 1, cells := 0, slots := 0, locals := 21 } := hX
  have J35 : ∀ (s0 : Int32) (σ : Sg) , fn_X4_tooMuch_L35 ε c z1 s0 σ = some (res, σ2) → GW κ 0 0 (C ε σ) 35 [] [.int (s0)] := by
    intro s0 σ h
    exact g_reti hR (oi_1 h) (congrArg (C ε) (oi_2 h)) dX4_tooMuch_35
  show GW κ 0 0 (C ε σ) 0 [(0, .ref (sAd ε (c))), (1, .int (z1))] []
  refine g_aload_n hX 0 rfl rfl dX4_tooMuch_0 ?_
  refine c_get4 hX hC hc 0 (by decide) rfl tFld_X4_11 rfl dX4_tooMuch_1 ?_
  refine g_iload_n hX 1 rfl rfl dX4_tooMuch_4 ?_
  obtain ⟨g1, h⟩ := gd_some h
  refine c_aald hX hC (kq_X4_1 hc) rfl g1 (v := .ref (sAd ε (c + 7 + z1.toNatClampNeg))) rfl dX4_tooMuch_5 ?_
  refine c_get0 hX hC (kh_X4 hc (vin_lt g1)) 6 (by decide) rfl tFld_X4_129 rfl dX4_tooMuch_6 ?_
  refine g_if_eq hX 34 (by decide) dX4_tooMuch_9 (fun b9 => ?_) (fun b9 => ?_)
  · replace h := if_p b9 h
    refine g_iconst hX (v := nI 0) rfl dX4_tooMuch_34 ?_
    refine g_lv [] rfl ?_
    exact J35 (nI 0)  σ h
  · replace h := if_n b9 h
    refine g_aload_n hX 0 rfl rfl dX4_tooMuch_12 ?_
    refine c_get4 hX hC hc 3 (by decide) rfl tFld_X4_26 rfl dX4_tooMuch_13 ?_
    refine g_iload_n hX 1 rfl rfl dX4_tooMuch_16 ?_
    refine c_ald hX hC (ka_X4_4 hc) g1 dX4_tooMuch_17 ?_
    refine g_mabs hX tMet_X4_118 (Nat.le_of_ble_eq_true rfl) (Nat.le_of_ble_eq_true rfl) (Nat.le_of_ble_eq_true rfl) (Nat.le_of_ble_eq_true rfl) (Nat.le_of_ble_eq_true rfl) dX4_tooMuch_18 ?_
    refine g_aload_n hX 0 rfl rfl dX4_tooMuch_21 ?_
    refine c_get4 hX hC hc 0 (by decide) rfl tFld_X4_11 rfl dX4_tooMuch_22 ?_
    refine g_iload_n hX 1 rfl rfl dX4_tooMuch_25 ?_
    refine c_aald hX hC (kq_X4_1 hc) rfl g1 (v := .ref (sAd ε (c + 7 + z1.toNatClampNeg))) rfl dX4_tooMuch_26 ?_
    obtain ⟨y27, τ27, e27, h⟩ := ob_some h
    refine c_call0 hX hC hzo (kh_X4 hc (vin_lt g1)) [] [.int ((abI (σ.1 (c + 4) z1.toNatClampNeg)))] (ct_X0_bearing _ _ _ _ hzo hzs hC ε (c + 7 + z1.toNatClampNeg) (kh_X4 hc (vin_lt g1)) σ _ _ e27) kX0_bearing tMet_X4_137 rfl rfl (Nat.le_of_ble_eq_true rfl) (Nat.le_of_ble_eq_true rfl) ⟨Nat.le_of_ble_eq_true rfl, Nat.le_of_ble_eq_true rfl⟩ rfl rfl (Nat.le_of_ble_eq_true rfl) dX4_tooMuch_27 ?_
    refine g_isub hX dX4_tooMuch_30 ?_
    refine g_goto hX 35 (by decide) dX4_tooMuch_31 ?_
    refine g_lv [] rfl ?_
    exact J35 (((abI (σ.1 (c + 4) z1.toNatClampNeg)) - y27))  τ27 h
theorem kX4_notHolding : mKV RX4 yX4_notHolding cX4_notHolding 3 (some .int) 0 := ⟨tIns_X4_notHolding, tSel_X4_notHolding, tIni_X4, tCod_X4_notHolding, by decide +kernel⟩
set_option maxHeartbeats 4000000 in
set_option maxRecDepth 100000 in
theorem ct_X4_notHolding (l : Launch) (D : va_G) (cy : Nat → ClassId) (Z : (Nat → Prop) → State → Heap → Prop) (hzo : zOK Z) {aStr aByt : Nat → Nat} (hzs : zSt Z aStr aByt) {q : Nat → Nat} {C : Ev → Sg → va_W} (hC : cLens cy q C) (ε : Ev) (c : Nat) (hc : isX4 c) (σ σ2 : Sg) (res : Int32) (h : fn_X4_notHolding ε c σ = some (res, σ2)) : GD l D cy Z yX4_notHolding (zW yX4_notHolding cX4_notHolding 3 (some .int)) { frames := 4, cells := 0, slots := 0, locals := 95 } [.ref (sAd ε (c))] (C ε σ) (some (.int res)) (C ε σ2) 0 0 := by
  refine g_entry (cc := cX4_notHolding) (maxL := 3) (by decide) rfl (Nat.le_of_ble_eq_true rfl) ?_
  intro κ hN hX hR
  have hX : GX κ cy Z cX4_notHolding (Cond.code yX4_notHolding cX4_notHolding 3 (some .int) :: zT) RX4 { frames := 4, cells := 0, slots := 0, locals := 95 } := hX
  have J36 : ∀ (v1 : Int32) (σ : Sg) , fn_X4_notHolding_L36 ε c v1 σ = some (res, σ2) → GW κ 0 0 (C ε σ) 36 [(1, .int (v1))] [] := by
    intro v1 σ h
    refine g_iload_n hX 0 rfl rfl dX4_notHolding_36 ?_
    exact g_reti hR (oi_1 h) (congrArg (C ε) (oi_2 h)) dX4_notHolding_37
  have J30 : ∀ (slf : Int32 → Int32 → Sg → Option (Int32 × Sg)) (hslf : ∀ (v1 : Int32) (v2 : Int32) (σ : Sg) , slf v1 v2 σ = some (res, σ2) → GW κ 0 0 (C ε σ) 8 [(0, .ref (sAd ε (c))), (1, .int (v1)), (2, .int (v2))] []) (k36 : Int32 → Sg → Option (Int32 × Sg)) (hk36 : ∀ (v1 : Int32) (σ : Sg) , k36 v1 σ = some (res, σ2) → GW κ 0 0 (C ε σ) 36 [(1, .int (v1))] []), ∀ (v1 : Int32) (v2 : Int32) (σ : Sg) , fn_X4_notHolding_L30 ε c slf k36 v1 v2 σ = some (res, σ2) → GW κ 0 0 (C ε σ) 30 [(0, .ref (sAd ε (c))), (1, .int (v1)), (2, .int (v2))] [] := by
    intro slf hslf k36 hk36 v1 v2 σ h
    refine g_iinc (v := (v2 + nI 1)) (lv2 := [(2, .int ((v2 + nI 1))), (0, .ref (sAd ε (c))), (1, .int (v1))]) hX 2 2 3 hN rfl rfl (by decide) rfl dX4_notHolding_30 ?_
    refine g_goto hX 8 (by decide) dX4_notHolding_33 ?_
    refine g_lv [1, 2, 0] rfl ?_
    exact hslf v1 ((v2 + nI 1))  σ h
  have J8 : ∀ (k36 : Int32 → Sg → Option (Int32 × Sg)) (hk36 : ∀ (v1 : Int32) (σ : Sg) , k36 v1 σ = some (res, σ2) → GW κ 0 0 (C ε σ) 36 [(1, .int (v1))] []) (fuel : Nat), ∀ (v1 : Int32) (v2 : Int32) (σ : Sg) , fn_X4_notHolding_L8 ε c k36 fuel v1 v2 σ = some (res, σ2) → GW κ 0 0 (C ε σ) 8 [(0, .ref (sAd ε (c))), (1, .int (v1)), (2, .int (v2))] [] := by
    intro k36 hk36 fuel
    induction fuel with
    | zero => intro v1 v2 σ h; cases (show none = some (res, σ2) from h)
    | succ fuel ih =>
      intro v1 v2 σ h
      replace h : (if σ.1 c 6 ≤ v2 then (k36 v1 σ) else (ob (fn_X4_tooMuch ε c v2 σ) (fun y18 τ18 => (if y18 ≤ 0 then ((fn_X4_notHolding_L30 ε c (fn_X4_notHolding_L8 ε c k36 fuel) k36) v1 v2 τ18) else ((fn_X4_notHolding_L30 ε c (fn_X4_notHolding_L8 ε c k36 fuel) k36) ((v1 ||| (nI 1 <<< (v2 &&& 31)))) v2 τ18))))) = some (res, σ2) := h
      refine g_iload_n hX 2 rfl rfl dX4_notHolding_8 ?_
      refine g_aload_n hX 0 rfl rfl dX4_notHolding_9 ?_
      refine c_get4 hX hC hc 6 (by decide) rfl tFld_X4_36 rfl dX4_notHolding_10 ?_
      refine g_icmp_ge hX 36 (by decide) dX4_notHolding_13 (fun b13 => ?_) (fun b13 => ?_)
      · replace h := if_p b13 h
        refine g_lv [1] rfl ?_
        exact hk36 v1  σ h
      · replace h := if_n b13 h
        refine g_aload_n hX 0 rfl rfl dX4_notHolding_16 ?_
        refine g_iload_n hX 2 rfl rfl dX4_notHolding_17 ?_
        obtain ⟨y18, τ18, e18, h⟩ := ob_some h
        refine c_call4 hX hC hzo hc [.int (v2)] [] (ct_X4_tooMuch _ _ _ _ hzo hzs hC ε c hc v2 σ _ _ e18) kX4_tooMuch tMet_X4_143 rfl rfl (Nat.le_of_ble_eq_true rfl) (Nat.le_of_ble_eq_true rfl) ⟨Nat.le_of_ble_eq_true rfl, Nat.le_of_ble_eq_true rfl⟩ rfl rfl (Nat.le_of_ble_eq_true rfl) dX4_notHolding_18 ?_
        refine g_if_le hX 30 (by decide) dX4_notHolding_21 (fun b21 => ?_) (fun b21 => ?_)
        · replace h := if_p b21 h
          exact (J30 (fn_X4_notHolding_L8 ε c k36 fuel) ih k36 hk36) v1 v2  τ18 h
        · replace h := if_n b21 h
          refine g_iload_n hX 1 rfl rfl dX4_notHolding_24 ?_
          refine g_iconst hX (v := nI 1) rfl dX4_notHolding_25 ?_
          refine g_iload_n hX 2 rfl rfl dX4_notHolding_26 ?_
          refine g_ishl hX dX4_notHolding_27 ?_
          refine g_ior hX dX4_notHolding_28 ?_
          refine g_istore_n (lv2 := [(1, .int ((v1 ||| (nI 1 <<< (v2 &&& 31))))), (0, .ref (sAd ε (c))), (2, .int (v2))]) hX 1 3 hN rfl (by decide) rfl dX4_notHolding_29 ?_
          refine g_lv [1, 0, 2] rfl ?_
          exact (J30 (fn_X4_notHolding_L8 ε c k36 fuel) ih k36 hk36) ((v1 ||| (nI 1 <<< (v2 &&& 31)))) v2  τ18 h
  show GW κ 0 0 (C ε σ) 0 [(0, .ref (sAd ε (c)))] []
  refine g_aload_n hX 0 rfl rfl dX4_notHolding_0 ?_
  obtain ⟨y1, τ1, e1, h⟩ := ob_some h
  refine c_call4 hX hC hzo hc [] [] (ct_X4_workOutThrusts _ _ _ _ hzo hzs hC ε c hc σ _ _ e1) kX4_workOutThrusts tMet_X4_140 rfl rfl (Nat.le_of_ble_eq_true rfl) (Nat.le_of_ble_eq_true rfl) ⟨Nat.le_of_ble_eq_true rfl, Nat.le_of_ble_eq_true rfl⟩ rfl rfl (Nat.le_of_ble_eq_true rfl) dX4_notHolding_1 ?_
  refine g_iconst hX (v := nI 0) rfl dX4_notHolding_4 ?_
  refine g_istore_n (lv2 := [(1, .int (nI 0)), (0, .ref (sAd ε (c)))]) hX 1 3 hN rfl (by decide) rfl dX4_notHolding_5 ?_
  refine g_iconst hX (v := nI 0) rfl dX4_notHolding_6 ?_
  refine g_istore_n (lv2 := [(2, .int (nI 0)), (1, .int (nI 0)), (0, .ref (sAd ε (c)))]) hX 2 3 hN rfl (by decide) rfl dX4_notHolding_7 ?_
  refine g_lv [2, 1, 0] rfl ?_
  exact (J8 (fn_X4_notHolding_L36 ε c) J36 4000) (nI 0) (nI 0)  τ1 h
theorem kX4_crackAndMove : mKV RX4 yX4_crackAndMove cX4_crackAndMove 6 (some .boolean) 0 := ⟨tIns_X4_crackAndMove, tSel_X4_crackAndMove, tIni_X4, tCod_X4_crackAndMove, by decide +kernel⟩
set_option maxHeartbeats 4000000 in
set_option maxRecDepth 100000 in
theorem ct_X4_crackAndMove (l : Launch) (D : va_G) (cy : Nat → ClassId) (Z : (Nat → Prop) → State → Heap → Prop) (hzo : zOK Z) {aStr aByt : Nat → Nat} (hzs : zSt Z aStr aByt) {q : Nat → Nat} {C : Ev → Sg → va_W} (hC : cLens cy q C) (ε : Ev) (c : Nat) (hc : isX4 c) (σ σ2 : Sg) (res : Int32) (h : fn_X4_crackAndMove ε c σ = some (res, σ2)) : GD l D cy Z yX4_crackAndMove (zW yX4_crackAndMove cX4_crackAndMove 6 (some .boolean)) { frames := 2, cells := 0, slots := 0, locals := 42 } [.ref (sAd ε (c))] (C ε σ) (some (.int res)) (C ε σ2) 0 0 := by
  refine g_entry (cc := cX4_crackAndMove) (maxL := 6) (by decide) rfl (Nat.le_of_ble_eq_true rfl) ?_
  intro κ hN hX hR
  have hX : GX κ cy Z cX4_crackAndMove (Cond.code yX4_crackAndMove cX4_crackAndMove 6 (some .boolean) :: zT) RX4 { frames := 2, cells := 0, slots := 0, locals := 42 } := hX
  obtain ⟨tLEAST, hLEAST⟩ := zt_LEAST hX hzs
  obtain ⟨tMOST, hMOST⟩ := zt_MOST hX hzs
  have J103 : ∀ (v1 : Int32) (σ : Sg) , fn_X4_crackAndMove_L103 ε c v1 σ = some (res, σ2) → GW κ 0 0 (C ε σ) 103 [(1, .int (v1))] [] := by
    intro v1 σ h
    refine g_iload_n hX 0 rfl rfl dX4_crackAndMove_103 ?_
    obtain ⟨g1, h⟩ := gd_some h
    exact g_retbD hR g1 (oi_1 h) (congrArg (C ε) (oi_2 h)) dX4_crackAndMove_104
  have J97 : ∀ (slf : Int32 → Int32 → Sg → Option (Int32 × Sg)) (hslf : ∀ (v1 : Int32) (v2 : Int32) (σ : Sg) , slf v1 v2 σ = some (res, σ2) → GW κ 0 0 (C ε σ) 4 [(0, .ref (sAd ε (c))), (1, .int (v1)), (2, .int (v2))] []) (k103 : Int32 → Sg → Option (Int32 × Sg)) (hk103 : ∀ (v1 : Int32) (σ : Sg) , k103 v1 σ = some (res, σ2) → GW κ 0 0 (C ε σ) 103 [(1, .int (v1))] []), ∀ (v1 : Int32) (v2 : Int32) (σ : Sg) , fn_X4_crackAndMove_L97 ε c slf k103 v1 v2 σ = some (res, σ2) → GW κ 0 0 (C ε σ) 97 [(0, .ref (sAd ε (c))), (1, .int (v1)), (2, .int (v2))] [] := by
    intro slf hslf k103 hk103 v1 v2 σ h
    refine g_iinc (v := (v2 + nI 1)) (lv2 := [(2, .int ((v2 + nI 1))), (0, .ref (sAd ε (c))), (1, .int (v1))]) hX 2 2 6 hN rfl rfl (by decide) rfl dX4_crackAndMove_97 ?_
    refine g_goto hX 4 (by decide) dX4_crackAndMove_100 ?_
    refine g_lv [1, 2, 0] rfl ?_
    exact hslf v1 ((v2 + nI 1))  σ h
  have J69 : ∀ (slf : Int32 → Int32 → Sg → Option (Int32 × Sg)) (hslf : ∀ (v1 : Int32) (v2 : Int32) (σ : Sg) , slf v1 v2 σ = some (res, σ2) → GW κ 0 0 (C ε σ) 4 [(0, .ref (sAd ε (c))), (1, .int (v1)), (2, .int (v2))] []) (k103 : Int32 → Sg → Option (Int32 × Sg)) (hk103 : ∀ (v1 : Int32) (σ : Sg) , k103 v1 σ = some (res, σ2) → GW κ 0 0 (C ε σ) 103 [(1, .int (v1))] []), ∀ (v2 : Int32) (v4 : Nat) (s0 : Int32) (s1 : Int32) (hv4 : isX0 v4) (σ : Sg) , fn_X4_crackAndMove_L69 ε c slf k103 v2 v4 s0 s1 σ = some (res, σ2) → GW κ 0 0 (C ε σ) 69 [(0, .ref (sAd ε (c))), (2, .int (v2)), (4, .ref (sAd ε (v4)))] [.int (s0), .int (s1)] := by
    intro slf hslf k103 hk103 v2 v4 s0 s1 hv4 σ h
    refine g_iadd hX dX4_crackAndMove_69 ?_
    refine g_istore (lv2 := [(5, .int ((s1 + s0))), (0, .ref (sAd ε (c))), (2, .int (v2)), (4, .ref (sAd ε (v4)))]) hX 5 6 hN (by decide) rfl dX4_crackAndMove_70 ?_
    refine g_aload hX 3 rfl dX4_crackAndMove_72 ?_
    refine g_tabN hX hLEAST (zn_X4_97 hX hzs) dX4_crackAndMove_74 ?_
    refine g_iconst hX (v := nI 2) rfl dX4_crackAndMove_77 ?_
    obtain ⟨g2, h⟩ := gd_some h
    refine g_tabi hX hLEAST g2 dX4_crackAndMove_78 ?_
    refine g_tabN hX hMOST (zn_X4_100 hX hzs) dX4_crackAndMove_79 ?_
    refine g_iconst hX (v := nI 2) rfl dX4_crackAndMove_82 ?_
    refine g_tabi hX hMOST g2 dX4_crackAndMove_83 ?_
    refine g_iload hX 0 rfl dX4_crackAndMove_84 ?_
    refine g_mmin hX tMet_X4_106 (Nat.le_of_ble_eq_true rfl) (Nat.le_of_ble_eq_true rfl) (Nat.le_of_ble_eq_true rfl) (Nat.le_of_ble_eq_true rfl) (Nat.le_of_ble_eq_true rfl) dX4_crackAndMove_86 ?_
    refine g_mmax hX tMet_X4_112 (Nat.le_of_ble_eq_true rfl) (Nat.le_of_ble_eq_true rfl) (Nat.le_of_ble_eq_true rfl) (Nat.le_of_ble_eq_true rfl) (Nat.le_of_ble_eq_true rfl) dX4_crackAndMove_89 ?_
    refine c_put0 (ty := .int) hX hC hv4 2 (by decide) (cs_X0 ε _ _ _).2.2.1 rfl (by decide +kernel) rfl rfl tFld_X4_69 rfl dX4_crackAndMove_92 ?_
    refine g_iconst hX (v := nI 1) rfl dX4_crackAndMove_95 ?_
    refine g_istore_n (lv2 := [(1, .int (nI 1)), (5, .int ((s1 + s0))), (0, .ref (sAd ε (c))), (2, .int (v2)), (4, .ref (sAd ε (v4)))]) hX 1 6 hN rfl (by decide) rfl dX4_crackAndMove_96 ?_
    refine g_lv [2, 0, 3] rfl ?_
    exact (J97 slf hslf k103 hk103) (nI 1) v2  (pI σ v4 2 ((mxI (tabLEAST (nI 2).toNatClampNeg) ((mnI (tabMOST (nI 2).toNatClampNeg) ((s1 + s0))))))) h
  have J4 : ∀ (k103 : Int32 → Sg → Option (Int32 × Sg)) (hk103 : ∀ (v1 : Int32) (σ : Sg) , k103 v1 σ = some (res, σ2) → GW κ 0 0 (C ε σ) 103 [(1, .int (v1))] []) (fuel : Nat), ∀ (v1 : Int32) (v2 : Int32) (σ : Sg) , fn_X4_crackAndMove_L4 ε c k103 fuel v1 v2 σ = some (res, σ2) → GW κ 0 0 (C ε σ) 4 [(0, .ref (sAd ε (c))), (1, .int (v1)), (2, .int (v2))] [] := by
    intro k103 hk103 fuel
    induction fuel with
    | zero => intro v1 v2 σ h; cases (show none = some (res, σ2) from h)
    | succ fuel ih =>
      intro v1 v2 σ h
      replace h : (if σ.1 c 6 ≤ v2 then (k103 v1 σ) else (ob (fn_X4_tooMuch ε c v2 σ) (fun y14 τ14 => (if y14 ≤ 0 then ((fn_X4_crackAndMove_L97 ε c (fn_X4_crackAndMove_L4 ε c k103 fuel) k103) v1 v2 τ14) else (if ¬ (v2 < 0 ∨ 9 ≤ v2.toNatClampNeg) then (if ¬ (nI 4 < 0 ∨ 6 ≤ (nI 4).toNatClampNeg) then (if (pI τ14 (c + 7 + v2.toNatClampNeg) 4 ((mnI (tabMOST (nI 4).toNatClampNeg) ((τ14.1 (c + 7 + v2.toNatClampNeg) 4 + y14))))).1 (c + 4) v2.toNatClampNeg ≤ 0 then ((fn_X4_crackAndMove_L69 ε c (fn_X4_crackAndMove_L4 ε c k103 fuel) k103) v2 (c + 7 + v2.toNatClampNeg) ((-1)) ((pI τ14 (c + 7 + v2.toNatClampNeg) 4 ((mnI (tabMOST (nI 4).toNatClampNeg) ((τ14.1 (c + 7 + v2.toNatClampNeg) 4 + y14))))).1 (c + 7 + v2.toNatClampNeg) 2) (pI τ14 (c + 7 + v2.toNatClampNeg) 4 ((mnI (tabMOST (nI 4).toNatClampNeg) ((τ14.1 (c + 7 + v2.toNatClampNeg) 4 + y14)))))) else ((fn_X4_crackAndMove_L69 ε c (fn_X4_crackAndMove_L4 ε c k103 fuel) k103) v2 (c + 7 + v2.toNatClampNeg) (nI 1) ((pI τ14 (c + 7 + v2.toNatClampNeg) 4 ((mnI (tabMOST (nI 4).toNatClampNeg) ((τ14.1 (c + 7 + v2.toNatClampNeg) 4 + y14))))).1 (c + 7 + v2.toNatClampNeg) 2) (pI τ14 (c + 7 + v2.toNatClampNeg) 4 ((mnI (tabMOST (nI 4).toNatClampNeg) ((τ14.1 (c + 7 + v2.toNatClampNeg) 4 + y14))))))) else none) else none))))) = some (res, σ2) := h
      refine g_iload_n hX 2 rfl rfl dX4_crackAndMove_4 ?_
      refine g_aload_n hX 0 rfl rfl dX4_crackAndMove_5 ?_
      refine c_get4 hX hC hc 6 (by decide) rfl tFld_X4_36 rfl dX4_crackAndMove_6 ?_
      refine g_icmp_ge hX 103 (by decide) dX4_crackAndMove_9 (fun b9 => ?_) (fun b9 => ?_)
      · replace h := if_p b9 h
        refine g_lv [1] rfl ?_
        exact hk103 v1  σ h
      · replace h := if_n b9 h
        refine g_aload_n hX 0 rfl rfl dX4_crackAndMove_12 ?_
        refine g_iload_n hX 2 rfl rfl dX4_crackAndMove_13 ?_
        obtain ⟨y14, τ14, e14, h⟩ := ob_some h
        refine c_call4 hX hC hzo hc [.int (v2)] [] (ct_X4_tooMuch _ _ _ _ hzo hzs hC ε c hc v2 σ _ _ e14) kX4_tooMuch tMet_X4_143 rfl rfl (Nat.le_of_ble_eq_true rfl) (Nat.le_of_ble_eq_true rfl) ⟨Nat.le_of_ble_eq_true rfl, Nat.le_of_ble_eq_true rfl⟩ rfl rfl (Nat.le_of_ble_eq_true rfl) dX4_crackAndMove_14 ?_
        refine g_istore_n (lv2 := [(3, .int (y14)), (0, .ref (sAd ε (c))), (1, .int (v1)), (2, .int (v2))]) hX 3 6 hN rfl (by decide) rfl dX4_crackAndMove_17 ?_
        refine g_iload_n hX 0 rfl rfl dX4_crackAndMove_18 ?_
        refine g_if_le hX 97 (by decide) dX4_crackAndMove_19 (fun b19 => ?_) (fun b19 => ?_)
        · replace h := if_p b19 h
          refine g_lv [1, 2, 3] rfl ?_
          exact (J97 (fn_X4_crackAndMove_L4 ε c k103 fuel) ih k103 hk103) v1 v2  τ14 h
        · replace h := if_n b19 h
          refine g_aload_n hX 1 rfl rfl dX4_crackAndMove_22 ?_
          refine c_get4 hX hC hc 0 (by decide) rfl tFld_X4_11 rfl dX4_crackAndMove_23 ?_
          refine g_iload_n hX 3 rfl rfl dX4_crackAndMove_26 ?_
          obtain ⟨g3, h⟩ := gd_some h
          refine c_aald hX hC (kq_X4_1 hc) rfl g3 (v := .ref (sAd ε (c + 7 + v2.toNatClampNeg))) rfl dX4_crackAndMove_27 ?_
          refine g_astore (lv2 := [(4, .ref (sAd ε (c + 7 + v2.toNatClampNeg))), (3, .int (y14)), (0, .ref (sAd ε (c))), (1, .int (v1)), (2, .int (v2))]) hX 4 6 hN (by decide) rfl dX4_crackAndMove_28 ?_
          refine g_aload hX 0 rfl dX4_crackAndMove_30 ?_
          refine g_tabN hX hMOST (zn_X4_100 hX hzs) dX4_crackAndMove_32 ?_
          refine g_iconst hX (v := nI 4) rfl dX4_crackAndMove_35 ?_
          obtain ⟨g4, h⟩ := gd_some h
          refine g_tabi hX hMOST g4 dX4_crackAndMove_36 ?_
          refine g_aload hX 0 rfl dX4_crackAndMove_37 ?_
          refine c_get0 hX hC (kh_X4 hc (vin_lt g3)) 4 (by decide) rfl tFld_X4_115 rfl dX4_crackAndMove_39 ?_
          refine g_iload_n hX 1 rfl rfl dX4_crackAndMove_42 ?_
          refine g_iadd hX dX4_crackAndMove_43 ?_
          refine g_mmin hX tMet_X4_106 (Nat.le_of_ble_eq_true rfl) (Nat.le_of_ble_eq_true rfl) (Nat.le_of_ble_eq_true rfl) (Nat.le_of_ble_eq_true rfl) (Nat.le_of_ble_eq_true rfl) dX4_crackAndMove_44 ?_
          refine c_put0 (ty := .int) hX hC (kh_X4 hc (vin_lt g3)) 4 (by decide) (cs_X0 ε _ _ _).2.2.2.2.1 rfl (by decide +kernel) rfl rfl tFld_X4_115 rfl dX4_crackAndMove_47 ?_
          refine g_aload hX 0 rfl dX4_crackAndMove_50 ?_
          refine c_get0 hX hC (kh_X4 hc (vin_lt g3)) 2 (by decide) rfl tFld_X4_69 rfl dX4_crackAndMove_52 ?_
          refine g_aload_n hX 2 rfl rfl dX4_crackAndMove_55 ?_
          refine c_get4 hX hC hc 3 (by decide) rfl tFld_X4_26 rfl dX4_crackAndMove_56 ?_
          refine g_iload_n hX 4 rfl rfl dX4_crackAndMove_59 ?_
          refine c_ald hX hC (ka_X4_4 hc) g3 dX4_crackAndMove_60 ?_
          refine g_if_le hX 68 (by decide) dX4_crackAndMove_61 (fun b61 => ?_) (fun b61 => ?_)
          · replace h := if_p b61 h
            refine g_iconst hX (v := -1) (by decide) dX4_crackAndMove_68 ?_
            refine g_lv [2, 4, 0] rfl ?_
            exact (J69 (fn_X4_crackAndMove_L4 ε c k103 fuel) ih k103 hk103) v2 (c + 7 + v2.toNatClampNeg) ((-1)) ((pI τ14 (c + 7 + v2.toNatClampNeg) 4 ((mnI (tabMOST (nI 4).toNatClampNeg) ((τ14.1 (c + 7 + v2.toNatClampNeg) 4 + y14))))).1 (c + 7 + v2.toNatClampNeg) 2) (kh_X4 hc (vin_lt g3)) (pI τ14 (c + 7 + v2.toNatClampNeg) 4 ((mnI (tabMOST (nI 4).toNatClampNeg) ((τ14.1 (c + 7 + v2.toNatClampNeg) 4 + y14))))) h
          · replace h := if_n b61 h
            refine g_iconst hX (v := nI 1) rfl dX4_crackAndMove_64 ?_
            refine g_goto hX 69 (by decide) dX4_crackAndMove_65 ?_
            refine g_lv [2, 4, 0] rfl ?_
            exact (J69 (fn_X4_crackAndMove_L4 ε c k103 fuel) ih k103 hk103) v2 (c + 7 + v2.toNatClampNeg) (nI 1) ((pI τ14 (c + 7 + v2.toNatClampNeg) 4 ((mnI (tabMOST (nI 4).toNatClampNeg) ((τ14.1 (c + 7 + v2.toNatClampNeg) 4 + y14))))).1 (c + 7 + v2.toNatClampNeg) 2) (kh_X4 hc (vin_lt g3)) (pI τ14 (c + 7 + v2.toNatClampNeg) 4 ((mnI (tabMOST (nI 4).toNatClampNeg) ((τ14.1 (c + 7 + v2.toNatClampNeg) 4 + y14))))) h
  show GW κ 0 0 (C ε σ) 0 [(0, .ref (sAd ε (c)))] []
  refine g_iconst hX (v := nI 0) rfl dX4_crackAndMove_0 ?_
  refine g_istore_n (lv2 := [(1, .int (nI 0)), (0, .ref (sAd ε (c)))]) hX 1 6 hN rfl (by decide) rfl dX4_crackAndMove_1 ?_
  refine g_iconst hX (v := nI 0) rfl dX4_crackAndMove_2 ?_
  refine g_istore_n (lv2 := [(2, .int (nI 0)), (1, .int (nI 0)), (0, .ref (sAd ε (c)))]) hX 2 6 hN rfl (by decide) rfl dX4_crackAndMove_3 ?_
  refine g_lv [2, 1, 0] rfl ?_
  exact (J4 (fn_X4_crackAndMove_L103 ε c) J103 4000) (nI 0) (nI 0)  σ h
theorem kX4_fallByCracks : mKV RX4 yX4_fallByCracks cX4_fallByCracks 3 (some .boolean) 0 := ⟨tIns_X4_fallByCracks, tSel_X4_fallByCracks, tIni_X4, tCod_X4_fallByCracks, by decide +kernel⟩
set_option maxHeartbeats 4000000 in
set_option maxRecDepth 100000 in
theorem ct_X4_fallByCracks (l : Launch) (D : va_G) (cy : Nat → ClassId) (Z : (Nat → Prop) → State → Heap → Prop) (hzo : zOK Z) {aStr aByt : Nat → Nat} (hzs : zSt Z aStr aByt) {q : Nat → Nat} {C : Ev → Sg → va_W} (hC : cLens cy q C) (ε : Ev) (c : Nat) (hc : isX4 c) (σ σ2 : Sg) (res : Int32) (h : fn_X4_fallByCracks ε c σ = some (res, σ2)) : GD l D cy Z yX4_fallByCracks (zW yX4_fallByCracks cX4_fallByCracks 3 (some .boolean)) { frames := 1, cells := 0, slots := 0, locals := 20 } [.ref (sAd ε (c))] (C ε σ) (some (.int res)) (C ε σ2) 0 0 := by
  refine g_entry (cc := cX4_fallByCracks) (maxL := 3) (by decide) rfl (Nat.le_of_ble_eq_true rfl) ?_
  intro κ hN hX hR
  have hX : GX κ cy Z cX4_fallByCracks (Cond.code yX4_fallByCracks cX4_fallByCracks 3 (some .boolean) :: zT) RX4 { frames := 1, cells := 0, slots := 0, locals := 20 } := hX
  have J55 : ∀ (v1 : Int32) (σ : Sg) , fn_X4_fallByCracks_L55 ε c v1 σ = some (res, σ2) → GW κ 0 0 (C ε σ) 55 [(1, .int (v1))] [] := by
    intro v1 σ h
    refine g_iload_n hX 0 rfl rfl dX4_fallByCracks_55 ?_
    obtain ⟨g1, h⟩ := gd_some h
    exact g_retbD hR g1 (oi_1 h) (congrArg (C ε) (oi_2 h)) dX4_fallByCracks_56
  have J49 : ∀ (slf : Int32 → Int32 → Sg → Option (Int32 × Sg)) (hslf : ∀ (v1 : Int32) (v2 : Int32) (σ : Sg) , slf v1 v2 σ = some (res, σ2) → GW κ 0 0 (C ε σ) 4 [(0, .ref (sAd ε (c))), (1, .int (v1)), (2, .int (v2))] []) (k55 : Int32 → Sg → Option (Int32 × Sg)) (hk55 : ∀ (v1 : Int32) (σ : Sg) , k55 v1 σ = some (res, σ2) → GW κ 0 0 (C ε σ) 55 [(1, .int (v1))] []), ∀ (v1 : Int32) (v2 : Int32) (σ : Sg) , fn_X4_fallByCracks_L49 ε c slf k55 v1 v2 σ = some (res, σ2) → GW κ 0 0 (C ε σ) 49 [(0, .ref (sAd ε (c))), (1, .int (v1)), (2, .int (v2))] [] := by
    intro slf hslf k55 hk55 v1 v2 σ h
    refine g_iinc (v := (v2 + nI 1)) (lv2 := [(2, .int ((v2 + nI 1))), (0, .ref (sAd ε (c))), (1, .int (v1))]) hX 2 2 3 hN rfl rfl (by decide) rfl dX4_fallByCracks_49 ?_
    refine g_goto hX 4 (by decide) dX4_fallByCracks_52 ?_
    refine g_lv [1, 2, 0] rfl ?_
    exact hslf v1 ((v2 + nI 1))  σ h
  have J4 : ∀ (k55 : Int32 → Sg → Option (Int32 × Sg)) (hk55 : ∀ (v1 : Int32) (σ : Sg) , k55 v1 σ = some (res, σ2) → GW κ 0 0 (C ε σ) 55 [(1, .int (v1))] []) (fuel : Nat), ∀ (v1 : Int32) (v2 : Int32) (σ : Sg) , fn_X4_fallByCracks_L4 ε c k55 fuel v1 v2 σ = some (res, σ2) → GW κ 0 0 (C ε σ) 4 [(0, .ref (sAd ε (c))), (1, .int (v1)), (2, .int (v2))] [] := by
    intro k55 hk55 fuel
    induction fuel with
    | zero => intro v1 v2 σ h; cases (show none = some (res, σ2) from h)
    | succ fuel ih =>
      intro v1 v2 σ h
      replace h : (if σ.1 c 6 ≤ v2 then (k55 v1 σ) else (if ¬ (v2 < 0 ∨ 9 ≤ v2.toNatClampNeg) then (if σ.1 (c + 7 + v2.toNatClampNeg) 6 = 0 then ((fn_X4_fallByCracks_L49 ε c (fn_X4_fallByCracks_L4 ε c k55 fuel) k55) v1 v2 σ) else (if σ.1 (c + 7 + v2.toNatClampNeg) 4 < nI 100 then ((fn_X4_fallByCracks_L49 ε c (fn_X4_fallByCracks_L4 ε c k55 fuel) k55) v1 v2 σ) else (ob (fn_X0_fall ε (c + 7 + v2.toNatClampNeg) σ) (fun y44 τ44 => ((fn_X4_fallByCracks_L49 ε c (fn_X4_fallByCracks_L4 ε c k55 fuel) k55) (nI 1) v2 τ44))))) else none)) = some (res, σ2) := h
      refine g_iload_n hX 2 rfl rfl dX4_fallByCracks_4 ?_
      refine g_aload_n hX 0 rfl rfl dX4_fallByCracks_5 ?_
      refine c_get4 hX hC hc 6 (by decide) rfl tFld_X4_36 rfl dX4_fallByCracks_6 ?_
      refine g_icmp_ge hX 55 (by decide) dX4_fallByCracks_9 (fun b9 => ?_) (fun b9 => ?_)
      · replace h := if_p b9 h
        refine g_lv [1] rfl ?_
        exact hk55 v1  σ h
      · replace h := if_n b9 h
        refine g_aload_n hX 0 rfl rfl dX4_fallByCracks_12 ?_
        refine c_get4 hX hC hc 0 (by decide) rfl tFld_X4_11 rfl dX4_fallByCracks_13 ?_
        refine g_iload_n hX 2 rfl rfl dX4_fallByCracks_16 ?_
        obtain ⟨g2, h⟩ := gd_some h
        refine c_aald hX hC (kq_X4_1 hc) rfl g2 (v := .ref (sAd ε (c + 7 + v2.toNatClampNeg))) rfl dX4_fallByCracks_17 ?_
        refine c_get0 hX hC (kh_X4 hc (vin_lt g2)) 6 (by decide) rfl tFld_X4_129 rfl dX4_fallByCracks_18 ?_
        refine g_if_eq hX 49 (by decide) dX4_fallByCracks_21 (fun b21 => ?_) (fun b21 => ?_)
        · replace h := if_p b21 h
          exact (J49 (fn_X4_fallByCracks_L4 ε c k55 fuel) ih k55 hk55) v1 v2  σ h
        · replace h := if_n b21 h
          refine g_aload_n hX 0 rfl rfl dX4_fallByCracks_24 ?_
          refine c_get4 hX hC hc 0 (by decide) rfl tFld_X4_11 rfl dX4_fallByCracks_25 ?_
          refine g_iload_n hX 2 rfl rfl dX4_fallByCracks_28 ?_
          refine c_aald hX hC (kq_X4_1 hc) rfl g2 (v := .ref (sAd ε (c + 7 + v2.toNatClampNeg))) rfl dX4_fallByCracks_29 ?_
          refine c_get0 hX hC (kh_X4 hc (vin_lt g2)) 4 (by decide) rfl tFld_X4_115 rfl dX4_fallByCracks_30 ?_
          refine g_bipush hX (v := nI 100) (by decide) dX4_fallByCracks_33 ?_
          refine g_icmp_lt hX 49 (by decide) dX4_fallByCracks_35 (fun b35 => ?_) (fun b35 => ?_)
          · replace h := if_p b35 h
            exact (J49 (fn_X4_fallByCracks_L4 ε c k55 fuel) ih k55 hk55) v1 v2  σ h
          · replace h := if_n b35 h
            refine g_aload_n hX 0 rfl rfl dX4_fallByCracks_38 ?_
            refine c_get4 hX hC hc 0 (by decide) rfl tFld_X4_11 rfl dX4_fallByCracks_39 ?_
            refine g_iload_n hX 2 rfl rfl dX4_fallByCracks_42 ?_
            refine c_aald hX hC (kq_X4_1 hc) rfl g2 (v := .ref (sAd ε (c + 7 + v2.toNatClampNeg))) rfl dX4_fallByCracks_43 ?_
            obtain ⟨y44, τ44, e44, h⟩ := ob_some h
            refine c_call0 hX hC hzo (kh_X4 hc (vin_lt g2)) [] [] (ct_X0_fall _ _ _ _ hzo hzs hC ε (c + 7 + v2.toNatClampNeg) (kh_X4 hc (vin_lt g2)) σ _ _ e44) kX0_fall tMet_X4_159 rfl rfl (Nat.le_of_ble_eq_true rfl) (Nat.le_of_ble_eq_true rfl) ⟨Nat.le_of_ble_eq_true rfl, Nat.le_of_ble_eq_true rfl⟩ rfl rfl (Nat.le_of_ble_eq_true rfl) dX4_fallByCracks_44 ?_
            refine g_iconst hX (v := nI 1) rfl dX4_fallByCracks_47 ?_
            refine g_istore_n (lv2 := [(1, .int (nI 1)), (0, .ref (sAd ε (c))), (2, .int (v2))]) hX 1 3 hN rfl (by decide) rfl dX4_fallByCracks_48 ?_
            refine g_lv [1, 0, 2] rfl ?_
            exact (J49 (fn_X4_fallByCracks_L4 ε c k55 fuel) ih k55 hk55) (nI 1) v2  τ44 h
  show GW κ 0 0 (C ε σ) 0 [(0, .ref (sAd ε (c)))] []
  refine g_iconst hX (v := nI 0) rfl dX4_fallByCracks_0 ?_
  refine g_istore_n (lv2 := [(1, .int (nI 0)), (0, .ref (sAd ε (c)))]) hX 1 3 hN rfl (by decide) rfl dX4_fallByCracks_1 ?_
  refine g_iconst hX (v := nI 0) rfl dX4_fallByCracks_2 ?_
  refine g_istore_n (lv2 := [(2, .int (nI 0)), (1, .int (nI 0)), (0, .ref (sAd ε (c)))]) hX 2 3 hN rfl (by decide) rfl dX4_fallByCracks_3 ?_
  refine g_lv [2, 1, 0] rfl ?_
  exact (J4 (fn_X4_fallByCracks_L55 ε c) J55 4000) (nI 0) (nI 0)  σ h
theorem kX4_hasLostItsRest : mKV RX4 yX4_hasLostItsRest cX4_hasLostItsRest 3 (some .boolean) 1 := ⟨tIns_X4_hasLostItsRest, tSel_X4_hasLostItsRest, tIni_X4, tCod_X4_hasLostItsRest, by decide +kernel⟩
set_option maxHeartbeats 4000000 in
set_option maxRecDepth 100000 in
theorem ct_X4_hasLostItsRest (l : Launch) (D : va_G) (cy : Nat → ClassId) (Z : (Nat → Prop) → State → Heap → Prop) (hzo : zOK Z) {aStr aByt : Nat → Nat} (hzs : zSt Z aStr aByt) {q : Nat → Nat} {C : Ev → Sg → va_W} (hC : cLens cy q C) (ε : Ev) (c : Nat) (hc : isX4 c) (z1 : Int32) (σ σ2 : Sg) (res : Int32) (h : fn_X4_hasLostItsRest ε c z1 σ = some (res, σ2)) : GD l D cy Z yX4_hasLostItsRest (zW yX4_hasLostItsRest cX4_hasLostItsRest 3 (some .boolean)) { frames := 0, cells := 0, slots := 0, locals := 0 } [.ref (sAd ε (c)), .int (z1)] (C ε σ) (some (.int res)) (C ε σ2) 0 0 := by
  refine g_entry (cc := cX4_hasLostItsRest) (maxL := 3) (by decide) rfl (Nat.le_of_ble_eq_true rfl) ?_
  intro κ hN hX hR
  have hX : GX κ cy Z cX4_hasLostItsRest (Cond.code yX4_hasLostItsRest cX4_hasLostItsRest 3 (some .boolean) :: zT) RX4 { frames := 0, cells := 0, slots := 0, locals := 0 } := hX
  have J69 : ∀ (s0 : Int32) (σ : Sg) , fn_X4_hasLostItsRest_L69 ε c z1 s0 σ = some (res, σ2) → GW κ 0 0 (C ε σ) 69 [] [.int (s0)] := by
    intro s0 σ h
    obtain ⟨g1, h⟩ := gd_some h
    exact g_retbD hR g1 (oi_1 h) (congrArg (C ε) (oi_2 h)) dX4_hasLostItsRest_69
  have J68 : ∀ (σ : Sg) , fn_X4_hasLostItsRest_L68 ε c z1  σ = some (res, σ2) → GW κ 0 0 (C ε σ) 68 [] [] := by
    intro σ h
    refine g_iconst hX (v := nI 0) rfl dX4_hasLostItsRest_68 ?_
    exact J69 (nI 0)  σ h
  have J47 : ∀ (s0 : Int32) (σ : Sg) , fn_X4_hasLostItsRest_L47 ε c z1 s0 σ = some (res, σ2) → GW κ 0 0 (C ε σ) 47 [(0, .ref (sAd ε (c)))] [.int (s0)] := by
    intro s0 σ h
    refine g_istore_n (lv2 := [(2, .int (s0)), (0, .ref (sAd ε (c)))]) hX 2 3 hN rfl (by decide) rfl dX4_hasLostItsRest_47 ?_
    refine g_iload_n hX 0 rfl rfl dX4_hasLostItsRest_48 ?_
    refine g_if_lt hX 68 (by decide) dX4_hasLostItsRest_49 (fun b49 => ?_) (fun b49 => ?_)
    · replace h := if_p b49 h
      refine g_lv [] rfl ?_
      exact J68   σ h
    · replace h := if_n b49 h
      refine g_aload_n hX 1 rfl rfl dX4_hasLostItsRest_52 ?_
      refine c_get4 hX hC hc 0 (by decide) rfl tFld_X4_11 rfl dX4_hasLostItsRest_53 ?_
      refine g_iload_n hX 0 rfl rfl dX4_hasLostItsRest_56 ?_
      obtain ⟨g2, h⟩ := gd_some h
      refine c_aald hX hC (kq_X4_1 hc) rfl g2 (v := .ref (sAd ε (c + 7 + s0.toNatClampNeg))) rfl dX4_hasLostItsRest_57 ?_
      refine c_get0 hX hC (kh_X4 hc (vin_lt g2)) 6 (by decide) rfl tFld_X4_129 rfl dX4_hasLostItsRest_58 ?_
      refine g_if_ne hX 68 (by decide) dX4_hasLostItsRest_61 (fun b61 => ?_) (fun b61 => ?_)
      · replace h := if_n b61 h
        refine g_lv [] rfl ?_
        exact J68   σ h
      · replace h := if_p b61 h
        refine g_iconst hX (v := nI 1) rfl dX4_hasLostItsRest_64 ?_
        refine g_goto hX 69 (by decide) dX4_hasLostItsRest_65 ?_
        refine g_lv [] rfl ?_
        exact J69 (nI 1)  σ h
  show GW κ 0 0 (C ε σ) 0 [(0, .ref (sAd ε (c))), (1, .int (z1))] []
  refine g_aload_n hX 0 rfl rfl dX4_hasLostItsRest_0 ?_
  refine c_get4 hX hC hc 0 (by decide) rfl tFld_X4_11 rfl dX4_hasLostItsRest_1 ?_
  refine g_iload_n hX 1 rfl rfl dX4_hasLostItsRest_4 ?_
  obtain ⟨g3, h⟩ := gd_some h
  refine c_aald hX hC (kq_X4_1 hc) rfl g3 (v := .ref (sAd ε (c + 7 + z1.toNatClampNeg))) rfl dX4_hasLostItsRest_5 ?_
  refine c_get0 hX hC (kh_X4 hc (vin_lt g3)) 2 (by decide) rfl tFld_X4_69 rfl dX4_hasLostItsRest_6 ?_
  refine g_bipush hX (v := nI 20) (by decide) dX4_hasLostItsRest_9 ?_
  refine g_icmp_lt hX 23 (by decide) dX4_hasLostItsRest_11 (fun b11 => ?_) (fun b11 => ?_)
  · replace h := if_p b11 h
    refine g_aload_n hX 0 rfl rfl dX4_hasLostItsRest_23 ?_
    refine c_get4 hX hC hc 0 (by decide) rfl tFld_X4_11 rfl dX4_hasLostItsRest_24 ?_
    refine g_iload_n hX 1 rfl rfl dX4_hasLostItsRest_27 ?_
    refine c_aald hX hC (kq_X4_1 hc) rfl g3 (v := .ref (sAd ε (c + 7 + z1.toNatClampNeg))) rfl dX4_hasLostItsRest_28 ?_
    refine c_get0 hX hC (kh_X4 hc (vin_lt g3)) 2 (by decide) rfl tFld_X4_69 rfl dX4_hasLostItsRest_29 ?_
    refine g_bipush hX (v := -20) (by decide) dX4_hasLostItsRest_32 ?_
    refine g_icmp_gt hX 46 (by decide) dX4_hasLostItsRest_34 (fun b34 => ?_) (fun b34 => ?_)
    · replace h := if_p b34 h
      refine g_iconst hX (v := -1) (by decide) dX4_hasLostItsRest_46 ?_
      refine g_lv [0] rfl ?_
      exact J47 ((-1))  σ h
    · replace h := if_n b34 h
      refine g_aload_n hX 0 rfl rfl dX4_hasLostItsRest_37 ?_
      refine c_get4 hX hC hc 4 (by decide) rfl tFld_X4_30 rfl dX4_hasLostItsRest_38 ?_
      refine g_iload_n hX 1 rfl rfl dX4_hasLostItsRest_41 ?_
      refine c_ald hX hC (ka_X4_5 hc) g3 dX4_hasLostItsRest_42 ?_
      refine g_goto hX 47 (by decide) dX4_hasLostItsRest_43 ?_
      refine g_lv [0] rfl ?_
      exact J47 (σ.1 (c + 5) z1.toNatClampNeg)  σ h
  · replace h := if_n b11 h
    refine g_aload_n hX 0 rfl rfl dX4_hasLostItsRest_14 ?_
    refine c_get4 hX hC hc 5 (by decide) rfl tFld_X4_33 rfl dX4_hasLostItsRest_15 ?_
    refine g_iload_n hX 1 rfl rfl dX4_hasLostItsRest_18 ?_
    refine c_ald hX hC (ka_X4_6 hc) g3 dX4_hasLostItsRest_19 ?_
    refine g_goto hX 47 (by decide) dX4_hasLostItsRest_20 ?_
    refine g_lv [0] rfl ?_
    exact J47 (σ.1 (c + 6) z1.toNatClampNeg)  σ h
theorem kX4_fallByNeighbours : mKV RX4 yX4_fallByNeighbours cX4_fallByNeighbours 4 none 0 := ⟨tIns_X4_fallByNeighbours, tSel_X4_fallByNeighbours, tIni_X4, tCod_X4_fallByNeighbours, by decide +kernel⟩
set_option maxHeartbeats 4000000 in
set_option maxRecDepth 100000 in
theorem ct_X4_fallByNeighbours (l : Launch) (D : va_G) (cy : Nat → ClassId) (Z : (Nat → Prop) → State → Heap → Prop) (hzo : zOK Z) {aStr aByt : Nat → Nat} (hzs : zSt Z aStr aByt) {q : Nat → Nat} {C : Ev → Sg → va_W} (hC : cLens cy q C) (ε : Ev) (c : Nat) (hc : isX4 c) (σ σ2 : Sg) (res : Unit) (h : fn_X4_fallByNeighbours ε c σ = some (res, σ2)) : GD l D cy Z yX4_fallByNeighbours (zW yX4_fallByNeighbours cX4_fallByNeighbours 4 none) { frames := 1, cells := 0, slots := 0, locals := 22 } [.ref (sAd ε (c))] (C ε σ) none (C ε σ2) 0 0 := by
  refine g_entry (cc := cX4_fallByNeighbours) (maxL := 4) (by decide) rfl (Nat.le_of_ble_eq_true rfl) ?_
  intro κ hN hX hR
  have hX : GX κ cy Z cX4_fallByNeighbours (Cond.code yX4_fallByNeighbours cX4_fallByNeighbours 4 none :: zT) RX4 { frames := 1, cells := 0, slots := 0, locals := 22 } := hX
  have J69 : ∀ (σ : Sg) , fn_X4_fallByNeighbours_L69 ε c  σ = some (res, σ2) → GW κ 0 0 (C ε σ) 69 [] [] := by
    intro σ h
    exact g_retv hR (congrArg (C ε) (oi_2 h)) dX4_fallByNeighbours_69
  have J63 : ∀ (slf : Int32 → Int32 → Sg → Option (Unit × Sg)) (hslf : ∀ (v1 : Int32) (v2 : Int32) (σ : Sg) , slf v1 v2 σ = some (res, σ2) → GW κ 0 0 (C ε σ) 4 [(0, .ref (sAd ε (c))), (1, .int (v1)), (2, .int (v2))] []) (k69 : Sg → Option (Unit × Sg)) (hk69 : ∀ (σ : Sg) , k69  σ = some (res, σ2) → GW κ 0 0 (C ε σ) 69 [] []), ∀ (v1 : Int32) (v2 : Int32) (σ : Sg) , fn_X4_fallByNeighbours_L63 ε c slf k69 v1 v2 σ = some (res, σ2) → GW κ 0 0 (C ε σ) 63 [(0, .ref (sAd ε (c))), (1, .int (v1)), (2, .int (v2))] [] := by
    intro slf hslf k69 hk69 v1 v2 σ h
    refine g_iinc (v := (v2 + nI 1)) (lv2 := [(2, .int ((v2 + nI 1))), (0, .ref (sAd ε (c))), (1, .int (v1))]) hX 2 2 4 hN rfl rfl (by decide) rfl dX4_fallByNeighbours_63 ?_
    refine g_goto hX 4 (by decide) dX4_fallByNeighbours_66 ?_
    refine g_lv [1, 2, 0] rfl ?_
    exact hslf v1 ((v2 + nI 1))  σ h
  have J57 : ∀ (slf : Int32 → Int32 → Int32 → Sg → Option (Unit × Sg)) (hslf : ∀ (v1 : Int32) (v2 : Int32) (v3 : Int32) (σ : Sg) , slf v1 v2 v3 σ = some (res, σ2) → GW κ 0 0 (C ε σ) 18 [(0, .ref (sAd ε (c))), (1, .int (v1)), (2, .int (v2)), (3, .int (v3))] []) (k63 : Int32 → Int32 → Sg → Option (Unit × Sg)) (hk63 : ∀ (v1 : Int32) (v2 : Int32) (σ : Sg) , k63 v1 v2 σ = some (res, σ2) → GW κ 0 0 (C ε σ) 63 [(0, .ref (sAd ε (c))), (1, .int (v1)), (2, .int (v2))] []), ∀ (v1 : Int32) (v2 : Int32) (v3 : Int32) (σ : Sg) , fn_X4_fallByNeighbours_L57 ε c slf k63 v1 v2 v3 σ = some (res, σ2) → GW κ 0 0 (C ε σ) 57 [(0, .ref (sAd ε (c))), (1, .int (v1)), (2, .int (v2)), (3, .int (v3))] [] := by
    intro slf hslf k63 hk63 v1 v2 v3 σ h
    refine g_iinc (v := (v3 + nI 1)) (lv2 := [(3, .int ((v3 + nI 1))), (0, .ref (sAd ε (c))), (1, .int (v1)), (2, .int (v2))]) hX 3 3 4 hN rfl rfl (by decide) rfl dX4_fallByNeighbours_57 ?_
    refine g_goto hX 18 (by decide) dX4_fallByNeighbours_60 ?_
    refine g_lv [1, 2, 3, 0] rfl ?_
    exact hslf v1 v2 ((v3 + nI 1))  σ h
  have J18 : ∀ (k63 : Int32 → Int32 → Sg → Option (Unit × Sg)) (hk63 : ∀ (v1 : Int32) (v2 : Int32) (σ : Sg) , k63 v1 v2 σ = some (res, σ2) → GW κ 0 0 (C ε σ) 63 [(0, .ref (sAd ε (c))), (1, .int (v1)), (2, .int (v2))] []) (fuel : Nat), ∀ (v1 : Int32) (v2 : Int32) (v3 : Int32) (σ : Sg) , fn_X4_fallByNeighbours_L18 ε c k63 fuel v1 v2 v3 σ = some (res, σ2) → GW κ 0 0 (C ε σ) 18 [(0, .ref (sAd ε (c))), (1, .int (v1)), (2, .int (v2)), (3, .int (v3))] [] := by
    intro k63 hk63 fuel
    induction fuel with
    | zero => intro v1 v2 v3 σ h; cases (show none = some (res, σ2) from h)
    | succ fuel ih =>
      intro v1 v2 v3 σ h
      replace h : (if σ.1 c 6 ≤ v3 then (k63 v1 v2 σ) else (if ¬ (v3 < 0 ∨ 9 ≤ v3.toNatClampNeg) then (if σ.1 (c + 7 + v3.toNatClampNeg) 6 = 0 then ((fn_X4_fallByNeighbours_L57 ε c (fn_X4_fallByNeighbours_L18 ε c k63 fuel) k63) v1 v2 v3 σ) else (ob (fn_X4_hasLostItsRest ε c v3 σ) (fun y40 τ40 => (if y40 = 0 then ((fn_X4_fallByNeighbours_L57 ε c (fn_X4_fallByNeighbours_L18 ε c k63 fuel) k63) v1 v2 v3 τ40) else (ob (fn_X0_fall ε (c + 7 + v3.toNatClampNeg) τ40) (fun y52 τ52 => ((fn_X4_fallByNeighbours_L57 ε c (fn_X4_fallByNeighbours_L18 ε c k63 fuel) k63) (nI 1) v2 v3 τ52))))))) else none)) = some (res, σ2) := h
      refine g_iload_n hX 3 rfl rfl dX4_fallByNeighbours_18 ?_
      refine g_aload_n hX 0 rfl rfl dX4_fallByNeighbours_19 ?_
      refine c_get4 hX hC hc 6 (by decide) rfl tFld_X4_36 rfl dX4_fallByNeighbours_20 ?_
      refine g_icmp_ge hX 63 (by decide) dX4_fallByNeighbours_23 (fun b23 => ?_) (fun b23 => ?_)
      · replace h := if_p b23 h
        refine g_lv [0, 1, 2] rfl ?_
        exact hk63 v1 v2  σ h
      · replace h := if_n b23 h
        refine g_aload_n hX 0 rfl rfl dX4_fallByNeighbours_26 ?_
        refine c_get4 hX hC hc 0 (by decide) rfl tFld_X4_11 rfl dX4_fallByNeighbours_27 ?_
        refine g_iload_n hX 3 rfl rfl dX4_fallByNeighbours_30 ?_
        obtain ⟨g1, h⟩ := gd_some h
        refine c_aald hX hC (kq_X4_1 hc) rfl g1 (v := .ref (sAd ε (c + 7 + v3.toNatClampNeg))) rfl dX4_fallByNeighbours_31 ?_
        refine c_get0 hX hC (kh_X4 hc (vin_lt g1)) 6 (by decide) rfl tFld_X4_129 rfl dX4_fallByNeighbours_32 ?_
        refine g_if_eq hX 57 (by decide) dX4_fallByNeighbours_35 (fun b35 => ?_) (fun b35 => ?_)
        · replace h := if_p b35 h
          exact (J57 (fn_X4_fallByNeighbours_L18 ε c k63 fuel) ih k63 hk63) v1 v2 v3  σ h
        · replace h := if_n b35 h
          refine g_aload_n hX 0 rfl rfl dX4_fallByNeighbours_38 ?_
          refine g_iload_n hX 3 rfl rfl dX4_fallByNeighbours_39 ?_
          obtain ⟨y40, τ40, e40, h⟩ := ob_some h
          refine c_call4 hX hC hzo hc [.int (v3)] [] (ct_X4_hasLostItsRest _ _ _ _ hzo hzs hC ε c hc v3 σ _ _ e40) kX4_hasLostItsRest tMet_X4_162 rfl rfl (Nat.le_of_ble_eq_true rfl) (Nat.le_of_ble_eq_true rfl) ⟨Nat.le_of_ble_eq_true rfl, Nat.le_of_ble_eq_true rfl⟩ rfl rfl (Nat.le_of_ble_eq_true rfl) dX4_fallByNeighbours_40 ?_
          refine g_if_eq hX 57 (by decide) dX4_fallByNeighbours_43 (fun b43 => ?_) (fun b43 => ?_)
          · replace h := if_p b43 h
            exact (J57 (fn_X4_fallByNeighbours_L18 ε c k63 fuel) ih k63 hk63) v1 v2 v3  τ40 h
          · replace h := if_n b43 h
            refine g_aload_n hX 0 rfl rfl dX4_fallByNeighbours_46 ?_
            refine c_get4 hX hC hc 0 (by decide) rfl tFld_X4_11 rfl dX4_fallByNeighbours_47 ?_
            refine g_iload_n hX 3 rfl rfl dX4_fallByNeighbours_50 ?_
            refine c_aald hX hC (kq_X4_1 hc) rfl g1 (v := .ref (sAd ε (c + 7 + v3.toNatClampNeg))) rfl dX4_fallByNeighbours_51 ?_
            obtain ⟨y52, τ52, e52, h⟩ := ob_some h
            refine c_call0 hX hC hzo (kh_X4 hc (vin_lt g1)) [] [] (ct_X0_fall _ _ _ _ hzo hzs hC ε (c + 7 + v3.toNatClampNeg) (kh_X4 hc (vin_lt g1)) τ40 _ _ e52) kX0_fall tMet_X4_159 rfl rfl (Nat.le_of_ble_eq_true rfl) (Nat.le_of_ble_eq_true rfl) ⟨Nat.le_of_ble_eq_true rfl, Nat.le_of_ble_eq_true rfl⟩ rfl rfl (Nat.le_of_ble_eq_true rfl) dX4_fallByNeighbours_52 ?_
            refine g_iconst hX (v := nI 1) rfl dX4_fallByNeighbours_55 ?_
            refine g_istore_n (lv2 := [(1, .int (nI 1)), (0, .ref (sAd ε (c))), (2, .int (v2)), (3, .int (v3))]) hX 1 4 hN rfl (by decide) rfl dX4_fallByNeighbours_56 ?_
            refine g_lv [1, 0, 2, 3] rfl ?_
            exact (J57 (fn_X4_fallByNeighbours_L18 ε c k63 fuel) ih k63 hk63) (nI 1) v2 v3  τ52 h
  have J4 : ∀ (k69 : Sg → Option (Unit × Sg)) (hk69 : ∀ (σ : Sg) , k69  σ = some (res, σ2) → GW κ 0 0 (C ε σ) 69 [] []) (fuel : Nat), ∀ (v1 : Int32) (v2 : Int32) (σ : Sg) , fn_X4_fallByNeighbours_L4 ε c k69 fuel v1 v2 σ = some (res, σ2) → GW κ 0 0 (C ε σ) 4 [(0, .ref (sAd ε (c))), (1, .int (v1)), (2, .int (v2))] [] := by
    intro k69 hk69 fuel
    induction fuel with
    | zero => intro v1 v2 σ h; cases (show none = some (res, σ2) from h)
    | succ fuel ih =>
      intro v1 v2 σ h
      replace h : (if nI 9 ≤ v2 then (k69  σ) else (if v1 = 0 then (k69  σ) else ((fn_X4_fallByNeighbours_L18 ε c (fn_X4_fallByNeighbours_L63 ε c (fn_X4_fallByNeighbours_L4 ε c k69 fuel) k69) 4000) (nI 0) v2 (nI 0) σ))) = some (res, σ2) := h
      refine g_iload_n hX 2 rfl rfl dX4_fallByNeighbours_4 ?_
      refine g_bipush hX (v := nI 9) (by decide) dX4_fallByNeighbours_5 ?_
      refine g_icmp_ge hX 69 (by decide) dX4_fallByNeighbours_7 (fun b7 => ?_) (fun b7 => ?_)
      · replace h := if_p b7 h
        refine g_lv [] rfl ?_
        exact hk69   σ h
      · replace h := if_n b7 h
        refine g_iload_n hX 1 rfl rfl dX4_fallByNeighbours_10 ?_
        refine g_if_eq hX 69 (by decide) dX4_fallByNeighbours_11 (fun b11 => ?_) (fun b11 => ?_)
        · replace h := if_p b11 h
          refine g_lv [] rfl ?_
          exact hk69   σ h
        · replace h := if_n b11 h
          refine g_iconst hX (v := nI 0) rfl dX4_fallByNeighbours_14 ?_
          refine g_istore_n (lv2 := [(1, .int (nI 0)), (0, .ref (sAd ε (c))), (2, .int (v2))]) hX 1 4 hN rfl (by decide) rfl dX4_fallByNeighbours_15 ?_
          refine g_iconst hX (v := nI 0) rfl dX4_fallByNeighbours_16 ?_
          refine g_istore_n (lv2 := [(3, .int (nI 0)), (1, .int (nI 0)), (0, .ref (sAd ε (c))), (2, .int (v2))]) hX 3 4 hN rfl (by decide) rfl dX4_fallByNeighbours_17 ?_
          refine g_lv [2, 1, 3, 0] rfl ?_
          exact (J18 (fn_X4_fallByNeighbours_L63 ε c (fn_X4_fallByNeighbours_L4 ε c k69 fuel) k69) (J63 (fn_X4_fallByNeighbours_L4 ε c k69 fuel) ih k69 hk69) 4000) (nI 0) v2 (nI 0)  σ h
  show GW κ 0 0 (C ε σ) 0 [(0, .ref (sAd ε (c)))] []
  refine g_iconst hX (v := nI 1) rfl dX4_fallByNeighbours_0 ?_
  refine g_istore_n (lv2 := [(1, .int (nI 1)), (0, .ref (sAd ε (c)))]) hX 1 4 hN rfl (by decide) rfl dX4_fallByNeighbours_1 ?_
  refine g_iconst hX (v := nI 0) rfl dX4_fallByNeighbours_2 ?_
  refine g_istore_n (lv2 := [(2, .int (nI 0)), (1, .int (nI 1)), (0, .ref (sAd ε (c)))]) hX 2 4 hN rfl (by decide) rfl dX4_fallByNeighbours_3 ?_
  refine g_lv [2, 1, 0] rfl ?_
  exact (J4 (fn_X4_fallByNeighbours_L69 ε c) J69 4000) (nI 1) (nI 0)  σ h
theorem kX4_props : mKV RX4 yX4_props cX4_props 3 (some .int) 0 := ⟨tIns_X4_props, tSel_X4_props, tIni_X4, tCod_X4_props, by decide +kernel⟩
set_option maxHeartbeats 4000000 in
set_option maxRecDepth 100000 in
theorem ct_X4_props (l : Launch) (D : va_G) (cy : Nat → ClassId) (Z : (Nat → Prop) → State → Heap → Prop) (hzo : zOK Z) {aStr aByt : Nat → Nat} (hzs : zSt Z aStr aByt) {q : Nat → Nat} {C : Ev → Sg → va_W} (hC : cLens cy q C) (ε : Ev) (c : Nat) (hc : isX4 c) (σ σ2 : Sg) (res : Int32) (h : fn_X4_props ε c σ = some (res, σ2)) : GD l D cy Z yX4_props (zW yX4_props cX4_props 3 (some .int)) { frames := 0, cells := 0, slots := 0, locals := 0 } [.ref (sAd ε (c))] (C ε σ) (some (.int res)) (C ε σ2) 0 0 := by
  refine g_entry (cc := cX4_props) (maxL := 3) (by decide) rfl (Nat.le_of_ble_eq_true rfl) ?_
  intro κ hN hX hR
  have hX : GX κ cy Z cX4_props (Cond.code yX4_props cX4_props 3 (some .int) :: zT) RX4 { frames := 0, cells := 0, slots := 0, locals := 0 } := hX
  have J30 : ∀ (v1 : Int32) (σ : Sg) , fn_X4_props_L30 ε c v1 σ = some (res, σ2) → GW κ 0 0 (C ε σ) 30 [(1, .int (v1))] [] := by
    intro v1 σ h
    refine g_iload_n hX 0 rfl rfl dX4_props_30 ?_
    exact g_reti hR (oi_1 h) (congrArg (C ε) (oi_2 h)) dX4_props_31
  have J4 : ∀ (k30 : Int32 → Sg → Option (Int32 × Sg)) (hk30 : ∀ (v1 : Int32) (σ : Sg) , k30 v1 σ = some (res, σ2) → GW κ 0 0 (C ε σ) 30 [(1, .int (v1))] []) (fuel : Nat), ∀ (v1 : Int32) (v2 : Int32) (σ : Sg) , fn_X4_props_L4 ε c k30 fuel v1 v2 σ = some (res, σ2) → GW κ 0 0 (C ε σ) 4 [(0, .ref (sAd ε (c))), (1, .int (v1)), (2, .int (v2))] [] := by
    intro k30 hk30 fuel
    induction fuel with
    | zero => intro v1 v2 σ h; cases (show none = some (res, σ2) from h)
    | succ fuel ih =>
      intro v1 v2 σ h
      replace h : (if σ.1 c 6 ≤ v2 then (k30 v1 σ) else (if ¬ (v2 < 0 ∨ 9 ≤ v2.toNatClampNeg) then ((fn_X4_props_L4 ε c k30 fuel) ((v1 + σ.1 (c + 7 + v2.toNatClampNeg) 5)) ((v2 + nI 1)) σ) else none)) = some (res, σ2) := h
      refine g_iload_n hX 2 rfl rfl dX4_props_4 ?_
      refine g_aload_n hX 0 rfl rfl dX4_props_5 ?_
      refine c_get4 hX hC hc 6 (by decide) rfl tFld_X4_36 rfl dX4_props_6 ?_
      refine g_icmp_ge hX 30 (by decide) dX4_props_9 (fun b9 => ?_) (fun b9 => ?_)
      · replace h := if_p b9 h
        refine g_lv [1] rfl ?_
        exact hk30 v1  σ h
      · replace h := if_n b9 h
        refine g_iload_n hX 1 rfl rfl dX4_props_12 ?_
        refine g_aload_n hX 0 rfl rfl dX4_props_13 ?_
        refine c_get4 hX hC hc 0 (by decide) rfl tFld_X4_11 rfl dX4_props_14 ?_
        refine g_iload_n hX 2 rfl rfl dX4_props_17 ?_
        obtain ⟨g1, h⟩ := gd_some h
        refine c_aald hX hC (kq_X4_1 hc) rfl g1 (v := .ref (sAd ε (c + 7 + v2.toNatClampNeg))) rfl dX4_props_18 ?_
        refine c_get0 hX hC (kh_X4 hc (vin_lt g1)) 5 (by decide) rfl tFld_X4_75 rfl dX4_props_19 ?_
        refine g_iadd hX dX4_props_22 ?_
        refine g_istore_n (lv2 := [(1, .int ((v1 + σ.1 (c + 7 + v2.toNatClampNeg) 5))), (0, .ref (sAd ε (c))), (2, .int (v2))]) hX 1 3 hN rfl (by decide) rfl dX4_props_23 ?_
        refine g_iinc (v := (v2 + nI 1)) (lv2 := [(2, .int ((v2 + nI 1))), (1, .int ((v1 + σ.1 (c + 7 + v2.toNatClampNeg) 5))), (0, .ref (sAd ε (c)))]) hX 2 2 3 hN rfl rfl (by decide) rfl dX4_props_24 ?_
        refine g_goto hX 4 (by decide) dX4_props_27 ?_
        refine g_lv [2, 1, 0] rfl ?_
        exact ih ((v1 + σ.1 (c + 7 + v2.toNatClampNeg) 5)) ((v2 + nI 1))  σ h
  show GW κ 0 0 (C ε σ) 0 [(0, .ref (sAd ε (c)))] []
  refine g_iconst hX (v := nI 0) rfl dX4_props_0 ?_
  refine g_istore_n (lv2 := [(1, .int (nI 0)), (0, .ref (sAd ε (c)))]) hX 1 3 hN rfl (by decide) rfl dX4_props_1 ?_
  refine g_iconst hX (v := nI 0) rfl dX4_props_2 ?_
  refine g_istore_n (lv2 := [(2, .int (nI 0)), (1, .int (nI 0)), (0, .ref (sAd ε (c)))]) hX 2 3 hN rfl (by decide) rfl dX4_props_3 ?_
  refine g_lv [2, 1, 0] rfl ?_
  exact (J4 (fn_X4_props_L30 ε c) J30 4000) (nI 0) (nI 0)  σ h
theorem kX4_goOneDay : mKV RX4 yX4_goOneDay cX4_goOneDay 3 (some .boolean) 0 := ⟨tIns_X4_goOneDay, tSel_X4_goOneDay, tIni_X4, tCod_X4_goOneDay, by decide +kernel⟩
set_option maxHeartbeats 4000000 in
set_option maxRecDepth 100000 in
theorem ct_X4_goOneDay (l : Launch) (D : va_G) (cy : Nat → ClassId) (Z : (Nat → Prop) → State → Heap → Prop) (hzo : zOK Z) {aStr aByt : Nat → Nat} (hzs : zSt Z aStr aByt) {q : Nat → Nat} {C : Ev → Sg → va_W} (hC : cLens cy q C) (ε : Ev) (c : Nat) (hc : isX4 c) (σ σ2 : Sg) (res : Int32) (h : fn_X4_goOneDay ε c σ = some (res, σ2)) : GD l D cy Z yX4_goOneDay (zW yX4_goOneDay cX4_goOneDay 3 (some .boolean)) { frames := 4, cells := 0, slots := 0, locals := 95 } [.ref (sAd ε (c))] (C ε σ) (some (.int res)) (C ε σ2) 0 0 := by
  refine g_entry (cc := cX4_goOneDay) (maxL := 3) (by decide) rfl (Nat.le_of_ble_eq_true rfl) ?_
  intro κ hN hX hR
  have hX : GX κ cy Z cX4_goOneDay (Cond.code yX4_goOneDay cX4_goOneDay 3 (some .boolean) :: zT) RX4 { frames := 4, cells := 0, slots := 0, locals := 95 } := hX
  have J58 : ∀ (s0 : Int32) (σ : Sg) , fn_X4_goOneDay_L58 ε c s0 σ = some (res, σ2) → GW κ 0 0 (C ε σ) 58 [] [.int (s0)] := by
    intro s0 σ h
    obtain ⟨g1, h⟩ := gd_some h
    exact g_retbD hR g1 (oi_1 h) (congrArg (C ε) (oi_2 h)) dX4_goOneDay_58
  have J53 : ∀ (σ : Sg) , fn_X4_goOneDay_L53 ε c  σ = some (res, σ2) → GW κ 0 0 (C ε σ) 53 [] [] := by
    intro σ h
    refine g_iconst hX (v := nI 1) rfl dX4_goOneDay_53 ?_
    refine g_goto hX 58 (by decide) dX4_goOneDay_54 ?_
    exact J58 (nI 1)  σ h
  have J22 : ∀ (v1 : Int32) (v2 : Int32) (σ : Sg) , fn_X4_goOneDay_L22 ε c v1 v2 σ = some (res, σ2) → GW κ 0 0 (C ε σ) 22 [(0, .ref (sAd ε (c))), (1, .int (v1)), (2, .int (v2))] [] := by
    intro v1 v2 σ h
    refine g_aload_n hX 0 rfl rfl dX4_goOneDay_22 ?_
    refine g_dup hX rfl dX4_goOneDay_23 ?_
    refine c_get4 hX hC hc 9 (by decide) rfl tFld_X4_46 rfl dX4_goOneDay_24 ?_
    refine g_aload_n hX 0 rfl rfl dX4_goOneDay_27 ?_
    obtain ⟨y28, τ28, e28, h⟩ := ob_some h
    refine c_call4 hX hC hzo hc [] [.int (σ.1 c 9), .ref (sAd ε (c))] (ct_X4_props _ _ _ _ hzo hzs hC ε c hc σ _ _ e28) kX4_props tMet_X4_156 rfl rfl (Nat.le_of_ble_eq_true rfl) (Nat.le_of_ble_eq_true rfl) ⟨Nat.le_of_ble_eq_true rfl, Nat.le_of_ble_eq_true rfl⟩ rfl rfl (Nat.le_of_ble_eq_true rfl) dX4_goOneDay_28 ?_
    refine g_iadd hX dX4_goOneDay_31 ?_
    refine c_put4 (ty := .int) hX hC hc 9 (by decide) (cs_X4 ε _ _ _).2.2.2.1 rfl (by decide +kernel) rfl rfl tFld_X4_46 rfl dX4_goOneDay_32 ?_
    refine g_aload_n hX 0 rfl rfl dX4_goOneDay_35 ?_
    refine g_dup hX rfl dX4_goOneDay_36 ?_
    refine c_get4 hX hC hc 10 (by decide) rfl tFld_X4_49 rfl dX4_goOneDay_37 ?_
    refine g_iconst hX (v := nI 1) rfl dX4_goOneDay_40 ?_
    refine g_iadd hX dX4_goOneDay_41 ?_
    refine c_put4 (ty := .int) hX hC hc 10 (by decide) (cs_X4 ε _ _ _).2.2.2.2.1 rfl (by decide +kernel) rfl rfl tFld_X4_49 rfl dX4_goOneDay_42 ?_
    refine g_iload_n hX 1 rfl rfl dX4_goOneDay_45 ?_
    refine g_if_ne hX 53 (by decide) dX4_goOneDay_46 (fun b46 => ?_) (fun b46 => ?_)
    · replace h := if_n b46 h
      refine g_lv [] rfl ?_
      exact J53   (pI (pI τ28 c 9 ((σ.1 c 9 + y28))) c 10 (((pI τ28 c 9 ((σ.1 c 9 + y28))).1 c 10 + nI 1))) h
    · replace h := if_p b46 h
      refine g_iload_n hX 2 rfl rfl dX4_goOneDay_49 ?_
      refine g_if_eq hX 57 (by decide) dX4_goOneDay_50 (fun b50 => ?_) (fun b50 => ?_)
      · replace h := if_p b50 h
        refine g_iconst hX (v := nI 0) rfl dX4_goOneDay_57 ?_
        refine g_lv [] rfl ?_
        exact J58 (nI 0)  (pI (pI τ28 c 9 ((σ.1 c 9 + y28))) c 10 (((pI τ28 c 9 ((σ.1 c 9 + y28))).1 c 10 + nI 1))) h
      · replace h := if_n b50 h
        refine g_lv [] rfl ?_
        exact J53   (pI (pI τ28 c 9 ((σ.1 c 9 + y28))) c 10 (((pI τ28 c 9 ((σ.1 c 9 + y28))).1 c 10 + nI 1))) h
  show GW κ 0 0 (C ε σ) 0 [(0, .ref (sAd ε (c)))] []
  refine g_aload_n hX 0 rfl rfl dX4_goOneDay_0 ?_
  obtain ⟨y1, τ1, e1, h⟩ := ob_some h
  refine c_call4 hX hC hzo hc [] [] (ct_X4_workOutThrusts _ _ _ _ hzo hzs hC ε c hc σ _ _ e1) kX4_workOutThrusts tMet_X4_140 rfl rfl (Nat.le_of_ble_eq_true rfl) (Nat.le_of_ble_eq_true rfl) ⟨Nat.le_of_ble_eq_true rfl, Nat.le_of_ble_eq_true rfl⟩ rfl rfl (Nat.le_of_ble_eq_true rfl) dX4_goOneDay_1 ?_
  refine g_aload_n hX 0 rfl rfl dX4_goOneDay_4 ?_
  obtain ⟨y5, τ5, e5, h⟩ := ob_some h
  refine c_call4 hX hC hzo hc [] [] (ct_X4_crackAndMove _ _ _ _ hzo hzs hC ε c hc τ1 _ _ e5) kX4_crackAndMove tMet_X4_146 rfl rfl (Nat.le_of_ble_eq_true rfl) (Nat.le_of_ble_eq_true rfl) ⟨Nat.le_of_ble_eq_true rfl, Nat.le_of_ble_eq_true rfl⟩ rfl rfl (Nat.le_of_ble_eq_true rfl) dX4_goOneDay_5 ?_
  refine g_istore_n (lv2 := [(1, .int (y5)), (0, .ref (sAd ε (c)))]) hX 1 3 hN rfl (by decide) rfl dX4_goOneDay_8 ?_
  refine g_aload_n hX 1 rfl rfl dX4_goOneDay_9 ?_
  obtain ⟨y10, τ10, e10, h⟩ := ob_some h
  refine c_call4 hX hC hzo hc [] [] (ct_X4_fallByCracks _ _ _ _ hzo hzs hC ε c hc τ5 _ _ e10) kX4_fallByCracks tMet_X4_150 rfl rfl (Nat.le_of_ble_eq_true rfl) (Nat.le_of_ble_eq_true rfl) ⟨Nat.le_of_ble_eq_true rfl, Nat.le_of_ble_eq_true rfl⟩ rfl rfl (Nat.le_of_ble_eq_true rfl) dX4_goOneDay_10 ?_
  refine g_istore_n (lv2 := [(2, .int (y10)), (1, .int (y5)), (0, .ref (sAd ε (c)))]) hX 2 3 hN rfl (by decide) rfl dX4_goOneDay_13 ?_
  refine g_iload_n hX 0 rfl rfl dX4_goOneDay_14 ?_
  refine g_if_eq hX 22 (by decide) dX4_goOneDay_15 (fun b15 => ?_) (fun b15 => ?_)
  · replace h := if_p b15 h
    refine g_lv [2, 1, 0] rfl ?_
    exact J22 y5 y10  τ10 h
  · replace h := if_n b15 h
    refine g_aload_n hX 2 rfl rfl dX4_goOneDay_18 ?_
    obtain ⟨y19, τ19, e19, h⟩ := ob_some h
    refine c_call4 hX hC hzo hc [] [] (ct_X4_fallByNeighbours _ _ _ _ hzo hzs hC ε c hc τ10 _ _ e19) kX4_fallByNeighbours tMet_X4_153 rfl rfl (Nat.le_of_ble_eq_true rfl) (Nat.le_of_ble_eq_true rfl) ⟨Nat.le_of_ble_eq_true rfl, Nat.le_of_ble_eq_true rfl⟩ rfl rfl (Nat.le_of_ble_eq_true rfl) dX4_goOneDay_19 ?_
    refine g_lv [2, 1, 0] rfl ?_
    exact J22 y5 y10  τ19 h
theorem kX4_goOn : mKV RX4 yX4_goOn cX4_goOn 3 none 1 := ⟨tIns_X4_goOn, tSel_X4_goOn, tIni_X4, tCod_X4_goOn, by decide +kernel⟩
set_option maxHeartbeats 4000000 in
set_option maxRecDepth 100000 in
theorem ct_X4_goOn (l : Launch) (D : va_G) (cy : Nat → ClassId) (Z : (Nat → Prop) → State → Heap → Prop) (hzo : zOK Z) {aStr aByt : Nat → Nat} (hzs : zSt Z aStr aByt) {q : Nat → Nat} {C : Ev → Sg → va_W} (hC : cLens cy q C) (ε : Ev) (c : Nat) (hc : isX4 c) (z1 : Int32) (σ σ2 : Sg) (res : Unit) (h : fn_X4_goOn ε c z1 σ = some (res, σ2)) : GD l D cy Z yX4_goOn (zW yX4_goOn cX4_goOn 3 none) { frames := 5, cells := 0, slots := 0, locals := 117 } [.ref (sAd ε (c)), .int (z1)] (C ε σ) none (C ε σ2) 0 0 := by
  refine g_entry (cc := cX4_goOn) (maxL := 3) (by decide) rfl (Nat.le_of_ble_eq_true rfl) ?_
  intro κ hN hX hR
  have hX : GX κ cy Z cX4_goOn (Cond.code yX4_goOn cX4_goOn 3 none :: zT) RX4 { frames := 5, cells := 0, slots := 0, locals := 117 } := hX
  have J50 : ∀ (σ : Sg) , fn_X4_goOn_L50 ε c z1  σ = some (res, σ2) → GW κ 0 0 (C ε σ) 50 [] [] := by
    intro σ h
    exact g_retv hR (congrArg (C ε) (oi_2 h)) dX4_goOn_50
  have J2 : ∀ (k50 : Sg → Option (Unit × Sg)) (hk50 : ∀ (σ : Sg) , k50  σ = some (res, σ2) → GW κ 0 0 (C ε σ) 50 [] []) (fuel : Nat), ∀ (v2 : Int32) (σ : Sg) , fn_X4_goOn_L2 ε c z1 k50 fuel v2 σ = some (res, σ2) → GW κ 0 0 (C ε σ) 2 [(0, .ref (sAd ε (c))), (1, .int (z1)), (2, .int (v2))] [] := by
    intro k50 hk50 fuel
    induction fuel with
    | zero => intro v2 σ h; cases (show none = some (res, σ2) from h)
    | succ fuel ih =>
      intro v2 σ h
      replace h : (if z1 < v2 then (k50  σ) else (ob (fn_X4_goOneDay ε c σ) (fun y8 τ8 => (if y8 = 0 then (ob (fn_X4_props ε c τ8) (fun y23 τ23 => some ((), pI (pI τ23 c 9 ((τ8.1 c 9 + ((z1 - v2) * y23)))) c 10 (((pI τ23 c 9 ((τ8.1 c 9 + ((z1 - v2) * y23)))).1 c 10 + (z1 - v2)))))) else ((fn_X4_goOn_L2 ε c z1 k50 fuel) ((v2 + nI 1)) τ8))))) = some (res, σ2) := h
      refine g_iload_n hX 2 rfl rfl dX4_goOn_2 ?_
      refine g_iload_n hX 1 rfl rfl dX4_goOn_3 ?_
      refine g_icmp_gt hX 50 (by decide) dX4_goOn_4 (fun b4 => ?_) (fun b4 => ?_)
      · replace h := if_p b4 h
        refine g_lv [] rfl ?_
        exact hk50   σ h
      · replace h := if_n b4 h
        refine g_aload_n hX 0 rfl rfl dX4_goOn_7 ?_
        obtain ⟨y8, τ8, e8, h⟩ := ob_some h
        refine c_call4 hX hC hzo hc [] [] (ct_X4_goOneDay _ _ _ _ hzo hzs hC ε c hc σ _ _ e8) kX4_goOneDay tMet_X4_165 rfl rfl (Nat.le_of_ble_eq_true rfl) (Nat.le_of_ble_eq_true rfl) ⟨Nat.le_of_ble_eq_true rfl, Nat.le_of_ble_eq_true rfl⟩ rfl rfl (Nat.le_of_ble_eq_true rfl) dX4_goOn_8 ?_
        refine g_if_ne hX 44 (by decide) dX4_goOn_11 (fun b11 => ?_) (fun b11 => ?_)
        · replace h := if_n b11 h
          refine g_iinc (v := (v2 + nI 1)) (lv2 := [(2, .int ((v2 + nI 1))), (0, .ref (sAd ε (c))), (1, .int (z1))]) hX 2 2 3 hN rfl rfl (by decide) rfl dX4_goOn_44 ?_
          refine g_goto hX 2 (by decide) dX4_goOn_47 ?_
          refine g_lv [1, 2, 0] rfl ?_
          exact ih ((v2 + nI 1))  τ8 h
        · replace h := if_p b11 h
          refine g_aload_n hX 0 rfl rfl dX4_goOn_14 ?_
          refine g_dup hX rfl dX4_goOn_15 ?_
          refine c_get4 hX hC hc 9 (by decide) rfl tFld_X4_46 rfl dX4_goOn_16 ?_
          refine g_iload_n hX 1 rfl rfl dX4_goOn_19 ?_
          refine g_iload_n hX 2 rfl rfl dX4_goOn_20 ?_
          refine g_isub hX dX4_goOn_21 ?_
          refine g_aload_n hX 0 rfl rfl dX4_goOn_22 ?_
          obtain ⟨y23, τ23, e23, h⟩ := ob_some h
          refine c_call4 hX hC hzo hc [] [.int ((z1 - v2)), .int (τ8.1 c 9), .ref (sAd ε (c))] (ct_X4_props _ _ _ _ hzo hzs hC ε c hc τ8 _ _ e23) kX4_props tMet_X4_156 rfl rfl (Nat.le_of_ble_eq_true rfl) (Nat.le_of_ble_eq_true rfl) ⟨Nat.le_of_ble_eq_true rfl, Nat.le_of_ble_eq_true rfl⟩ rfl rfl (Nat.le_of_ble_eq_true rfl) dX4_goOn_23 ?_
          refine g_imul hX dX4_goOn_26 ?_
          refine g_iadd hX dX4_goOn_27 ?_
          refine c_put4 (ty := .int) hX hC hc 9 (by decide) (cs_X4 ε _ _ _).2.2.2.1 rfl (by decide +kernel) rfl rfl tFld_X4_46 rfl dX4_goOn_28 ?_
          refine g_aload_n hX 0 rfl rfl dX4_goOn_31 ?_
          refine g_dup hX rfl dX4_goOn_32 ?_
          refine c_get4 hX hC hc 10 (by decide) rfl tFld_X4_49 rfl dX4_goOn_33 ?_
          refine g_iload_n hX 1 rfl rfl dX4_goOn_36 ?_
          refine g_iload_n hX 2 rfl rfl dX4_goOn_37 ?_
          refine g_isub hX dX4_goOn_38 ?_
          refine g_iadd hX dX4_goOn_39 ?_
          refine c_put4 (ty := .int) hX hC hc 10 (by decide) (cs_X4 ε _ _ _).2.2.2.2.1 rfl (by decide +kernel) rfl rfl tFld_X4_49 rfl dX4_goOn_40 ?_
          exact g_retv hR (congrArg (C ε) (oi_2 h)) dX4_goOn_43
  show GW κ 0 0 (C ε σ) 0 [(0, .ref (sAd ε (c))), (1, .int (z1))] []
  refine g_iconst hX (v := nI 1) rfl dX4_goOn_0 ?_
  refine g_istore_n (lv2 := [(2, .int (nI 1)), (0, .ref (sAd ε (c))), (1, .int (z1))]) hX 2 3 hN rfl (by decide) rfl dX4_goOn_1 ?_
  refine g_lv [1, 2, 0] rfl ?_
  exact (J2 (fn_X4_goOn_L50 ε c z1) J50 4000) (nI 1)  σ h
theorem kX4_standing : mKV RX4 yX4_standing cX4_standing 3 (some .int) 0 := ⟨tIns_X4_standing, tSel_X4_standing, tIni_X4, tCod_X4_standing, by decide +kernel⟩
set_option maxHeartbeats 4000000 in
set_option maxRecDepth 100000 in
theorem ct_X4_standing (l : Launch) (D : va_G) (cy : Nat → ClassId) (Z : (Nat → Prop) → State → Heap → Prop) (hzo : zOK Z) {aStr aByt : Nat → Nat} (hzs : zSt Z aStr aByt) {q : Nat → Nat} {C : Ev → Sg → va_W} (hC : cLens cy q C) (ε : Ev) (c : Nat) (hc : isX4 c) (σ σ2 : Sg) (res : Int32) (h : fn_X4_standing ε c σ = some (res, σ2)) : GD l D cy Z yX4_standing (zW yX4_standing cX4_standing 3 (some .int)) { frames := 0, cells := 0, slots := 0, locals := 0 } [.ref (sAd ε (c))] (C ε σ) (some (.int res)) (C ε σ2) 0 0 := by
  refine g_entry (cc := cX4_standing) (maxL := 3) (by decide) rfl (Nat.le_of_ble_eq_true rfl) ?_
  intro κ hN hX hR
  have hX : GX κ cy Z cX4_standing (Cond.code yX4_standing cX4_standing 3 (some .int) :: zT) RX4 { frames := 0, cells := 0, slots := 0, locals := 0 } := hX
  have J36 : ∀ (v1 : Int32) (σ : Sg) , fn_X4_standing_L36 ε c v1 σ = some (res, σ2) → GW κ 0 0 (C ε σ) 36 [(1, .int (v1))] [] := by
    intro v1 σ h
    refine g_iload_n hX 0 rfl rfl dX4_standing_36 ?_
    exact g_reti hR (oi_1 h) (congrArg (C ε) (oi_2 h)) dX4_standing_37
  have J30 : ∀ (slf : Int32 → Int32 → Sg → Option (Int32 × Sg)) (hslf : ∀ (v1 : Int32) (v2 : Int32) (σ : Sg) , slf v1 v2 σ = some (res, σ2) → GW κ 0 0 (C ε σ) 4 [(0, .ref (sAd ε (c))), (1, .int (v1)), (2, .int (v2))] []) (k36 : Int32 → Sg → Option (Int32 × Sg)) (hk36 : ∀ (v1 : Int32) (σ : Sg) , k36 v1 σ = some (res, σ2) → GW κ 0 0 (C ε σ) 36 [(1, .int (v1))] []), ∀ (v1 : Int32) (v2 : Int32) (σ : Sg) , fn_X4_standing_L30 ε c slf k36 v1 v2 σ = some (res, σ2) → GW κ 0 0 (C ε σ) 30 [(0, .ref (sAd ε (c))), (1, .int (v1)), (2, .int (v2))] [] := by
    intro slf hslf k36 hk36 v1 v2 σ h
    refine g_iinc (v := (v2 + nI 1)) (lv2 := [(2, .int ((v2 + nI 1))), (0, .ref (sAd ε (c))), (1, .int (v1))]) hX 2 2 3 hN rfl rfl (by decide) rfl dX4_standing_30 ?_
    refine g_goto hX 4 (by decide) dX4_standing_33 ?_
    refine g_lv [1, 2, 0] rfl ?_
    exact hslf v1 ((v2 + nI 1))  σ h
  have J4 : ∀ (k36 : Int32 → Sg → Option (Int32 × Sg)) (hk36 : ∀ (v1 : Int32) (σ : Sg) , k36 v1 σ = some (res, σ2) → GW κ 0 0 (C ε σ) 36 [(1, .int (v1))] []) (fuel : Nat), ∀ (v1 : Int32) (v2 : Int32) (σ : Sg) , fn_X4_standing_L4 ε c k36 fuel v1 v2 σ = some (res, σ2) → GW κ 0 0 (C ε σ) 4 [(0, .ref (sAd ε (c))), (1, .int (v1)), (2, .int (v2))] [] := by
    intro k36 hk36 fuel
    induction fuel with
    | zero => intro v1 v2 σ h; cases (show none = some (res, σ2) from h)
    | succ fuel ih =>
      intro v1 v2 σ h
      replace h : (if σ.1 c 6 ≤ v2 then (k36 v1 σ) else (if ¬ (v2 < 0 ∨ 9 ≤ v2.toNatClampNeg) then (if σ.1 (c + 7 + v2.toNatClampNeg) 6 = 0 then ((fn_X4_standing_L30 ε c (fn_X4_standing_L4 ε c k36 fuel) k36) v1 v2 σ) else ((fn_X4_standing_L30 ε c (fn_X4_standing_L4 ε c k36 fuel) k36) ((v1 ||| (nI 1 <<< (v2 &&& 31)))) v2 σ)) else none)) = some (res, σ2) := h
      refine g_iload_n hX 2 rfl rfl dX4_standing_4 ?_
      refine g_aload_n hX 0 rfl rfl dX4_standing_5 ?_
      refine c_get4 hX hC hc 6 (by decide) rfl tFld_X4_36 rfl dX4_standing_6 ?_
      refine g_icmp_ge hX 36 (by decide) dX4_standing_9 (fun b9 => ?_) (fun b9 => ?_)
      · replace h := if_p b9 h
        refine g_lv [1] rfl ?_
        exact hk36 v1  σ h
      · replace h := if_n b9 h
        refine g_aload_n hX 0 rfl rfl dX4_standing_12 ?_
        refine c_get4 hX hC hc 0 (by decide) rfl tFld_X4_11 rfl dX4_standing_13 ?_
        refine g_iload_n hX 2 rfl rfl dX4_standing_16 ?_
        obtain ⟨g1, h⟩ := gd_some h
        refine c_aald hX hC (kq_X4_1 hc) rfl g1 (v := .ref (sAd ε (c + 7 + v2.toNatClampNeg))) rfl dX4_standing_17 ?_
        refine c_get0 hX hC (kh_X4 hc (vin_lt g1)) 6 (by decide) rfl tFld_X4_129 rfl dX4_standing_18 ?_
        refine g_if_eq hX 30 (by decide) dX4_standing_21 (fun b21 => ?_) (fun b21 => ?_)
        · replace h := if_p b21 h
          exact (J30 (fn_X4_standing_L4 ε c k36 fuel) ih k36 hk36) v1 v2  σ h
        · replace h := if_n b21 h
          refine g_iload_n hX 1 rfl rfl dX4_standing_24 ?_
          refine g_iconst hX (v := nI 1) rfl dX4_standing_25 ?_
          refine g_iload_n hX 2 rfl rfl dX4_standing_26 ?_
          refine g_ishl hX dX4_standing_27 ?_
          refine g_ior hX dX4_standing_28 ?_
          refine g_istore_n (lv2 := [(1, .int ((v1 ||| (nI 1 <<< (v2 &&& 31))))), (0, .ref (sAd ε (c))), (2, .int (v2))]) hX 1 3 hN rfl (by decide) rfl dX4_standing_29 ?_
          refine g_lv [1, 0, 2] rfl ?_
          exact (J30 (fn_X4_standing_L4 ε c k36 fuel) ih k36 hk36) ((v1 ||| (nI 1 <<< (v2 &&& 31)))) v2  σ h
  show GW κ 0 0 (C ε σ) 0 [(0, .ref (sAd ε (c)))] []
  refine g_iconst hX (v := nI 0) rfl dX4_standing_0 ?_
  refine g_istore_n (lv2 := [(1, .int (nI 0)), (0, .ref (sAd ε (c)))]) hX 1 3 hN rfl (by decide) rfl dX4_standing_1 ?_
  refine g_iconst hX (v := nI 0) rfl dX4_standing_2 ?_
  refine g_istore_n (lv2 := [(2, .int (nI 0)), (1, .int (nI 0)), (0, .ref (sAd ε (c)))]) hX 2 3 hN rfl (by decide) rfl dX4_standing_3 ?_
  refine g_lv [2, 1, 0] rfl ?_
  exact (J4 (fn_X4_standing_L36 ε c) J36 4000) (nI 0) (nI 0)  σ h
theorem kX4_howManyStand : mKV RX4 yX4_howManyStand cX4_howManyStand 1 (some .int) 0 := ⟨tIns_X4_howManyStand, tSel_X4_howManyStand, tIni_X4, tCod_X4_howManyStand, by decide +kernel⟩
set_option maxHeartbeats 4000000 in
set_option maxRecDepth 100000 in
theorem ct_X4_howManyStand (l : Launch) (D : va_G) (cy : Nat → ClassId) (Z : (Nat → Prop) → State → Heap → Prop) (hzo : zOK Z) {aStr aByt : Nat → Nat} (hzs : zSt Z aStr aByt) {q : Nat → Nat} {C : Ev → Sg → va_W} (hC : cLens cy q C) (ε : Ev) (c : Nat) (hc : isX4 c) (σ σ2 : Sg) (res : Int32) (h : fn_X4_howManyStand ε c σ = some (res, σ2)) : GD l D cy Z yX4_howManyStand (zW yX4_howManyStand cX4_howManyStand 1 (some .int)) { frames := 1, cells := 0, slots := 0, locals := 22 } [.ref (sAd ε (c))] (C ε σ) (some (.int res)) (C ε σ2) 0 0 := by
  refine g_entry (cc := cX4_howManyStand) (maxL := 1) (by decide) rfl (Nat.le_of_ble_eq_true rfl) ?_
  intro κ hN hX hR
  have hX : GX κ cy Z cX4_howManyStand (Cond.code yX4_howManyStand cX4_howManyStand 1 (some .int) :: zT) RX4 { frames := 1, cells := 0, slots := 0, locals := 22 } := hX
  show GW κ 0 0 (C ε σ) 0 [(0, .ref (sAd ε (c)))] []
  refine g_aload_n hX 0 rfl rfl dX4_howManyStand_0 ?_
  obtain ⟨y1, τ1, e1, h⟩ := ob_some h
  refine c_call4 hX hC hzo hc [] [] (ct_X4_standing _ _ _ _ hzo hzs hC ε c hc σ _ _ e1) kX4_standing tMet_X4_171 rfl rfl (Nat.le_of_ble_eq_true rfl) (Nat.le_of_ble_eq_true rfl) ⟨Nat.le_of_ble_eq_true rfl, Nat.le_of_ble_eq_true rfl⟩ rfl rfl (Nat.le_of_ble_eq_true rfl) dX4_howManyStand_1 ?_
  obtain ⟨y4, e4, h⟩ := o1_some h
  refine s_call hX hzo [.int (y1)] [] (ct_J6_bitCount_0f7a4 _ _ _ _ hzo hzs _ y1 _ e4) kJ6_bitCount_0f7a4 tMet_X4_174 rfl rfl (Nat.le_of_ble_eq_true rfl) (Nat.le_of_ble_eq_true rfl) ⟨Nat.le_of_ble_eq_true rfl, Nat.le_of_ble_eq_true rfl⟩ rfl rfl (Nat.le_of_ble_eq_true rfl) dX4_howManyStand_4 ?_
  exact g_reti hR (oi_1 h) (congrArg (C ε) (oi_2 h)) dX4_howManyStand_7
theorem kX4_firstFall : mKV RX4 yX4_firstFall cX4_firstFall 5 (some .int) 1 := ⟨tIns_X4_firstFall, tSel_X4_firstFall, tIni_X4, tCod_X4_firstFall, by decide +kernel⟩
set_option maxHeartbeats 4000000 in
set_option maxRecDepth 100000 in
theorem ct_X4_firstFall (l : Launch) (D : va_G) (cy : Nat → ClassId) (Z : (Nat → Prop) → State → Heap → Prop) (hzo : zOK Z) {aStr aByt : Nat → Nat} (hzs : zSt Z aStr aByt) {q : Nat → Nat} {C : Ev → Sg → va_W} (hC : cLens cy q C) (ε : Ev) (c : Nat) (hc : isX4 c) (z1 : Int32) (σ σ2 : Sg) (res : Int32) (h : fn_X4_firstFall ε c z1 σ = some (res, σ2)) : GD l D cy Z yX4_firstFall (zW yX4_firstFall cX4_firstFall 5 (some .int)) { frames := 5, cells := 0, slots := 0, locals := 117 } [.ref (sAd ε (c)), .int (z1)] (C ε σ) (some (.int res)) (C ε σ2) 0 0 := by
  refine g_entry (cc := cX4_firstFall) (maxL := 5) (by decide) rfl (Nat.le_of_ble_eq_true rfl) ?_
  intro κ hN hX hR
  have hX : GX κ cy Z cX4_firstFall (Cond.code yX4_firstFall cX4_firstFall 5 (some .int) :: zT) RX4 { frames := 5, cells := 0, slots := 0, locals := 117 } := hX
  have J41 : ∀ (σ : Sg) , fn_X4_firstFall_L41 ε c z1  σ = some (res, σ2) → GW κ 0 0 (C ε σ) 41 [] [] := by
    intro σ h
    refine g_iconst hX (v := nI 0) rfl dX4_firstFall_41 ?_
    exact g_reti hR (oi_1 h) (congrArg (C ε) (oi_2 h)) dX4_firstFall_42
  have J7 : ∀ (k41 : Sg → Option (Int32 × Sg)) (hk41 : ∀ (σ : Sg) , k41  σ = some (res, σ2) → GW κ 0 0 (C ε σ) 41 [] []) (fuel : Nat), ∀ (v2 : Int32) (v3 : Int32) (σ : Sg) , fn_X4_firstFall_L7 ε c z1 k41 fuel v2 v3 σ = some (res, σ2) → GW κ 0 0 (C ε σ) 7 [(0, .ref (sAd ε (c))), (1, .int (z1)), (2, .int (v2)), (3, .int (v3))] [] := by
    intro k41 hk41 fuel
    induction fuel with
    | zero => intro v2 v3 σ h; cases (show none = some (res, σ2) from h)
    | succ fuel ih =>
      intro v2 v3 σ h
      replace h : (if z1 < v3 then (k41  σ) else (ob (fn_X4_goOneDay ε c σ) (fun y13 τ13 => (ob (fn_X4_howManyStand ε c τ13) (fun y19 τ19 => (if v2 ≤ y19 then (if y13 = 0 then some (nI 0, τ19) else ((fn_X4_firstFall_L7 ε c z1 k41 fuel) v2 ((v3 + nI 1)) τ19)) else some (v3, τ19))))))) = some (res, σ2) := h
      refine g_iload_n hX 3 rfl rfl dX4_firstFall_7 ?_
      refine g_iload_n hX 1 rfl rfl dX4_firstFall_8 ?_
      refine g_icmp_gt hX 41 (by decide) dX4_firstFall_9 (fun b9 => ?_) (fun b9 => ?_)
      · replace h := if_p b9 h
        refine g_lv [] rfl ?_
        exact hk41   σ h
      · replace h := if_n b9 h
        refine g_aload_n hX 0 rfl rfl dX4_firstFall_12 ?_
        obtain ⟨y13, τ13, e13, h⟩ := ob_some h
        refine c_call4 hX hC hzo hc [] [] (ct_X4_goOneDay _ _ _ _ hzo hzs hC ε c hc σ _ _ e13) kX4_goOneDay tMet_X4_165 rfl rfl (Nat.le_of_ble_eq_true rfl) (Nat.le_of_ble_eq_true rfl) ⟨Nat.le_of_ble_eq_true rfl, Nat.le_of_ble_eq_true rfl⟩ rfl rfl (Nat.le_of_ble_eq_true rfl) dX4_firstFall_13 ?_
        refine g_istore (lv2 := [(4, .int (y13)), (0, .ref (sAd ε (c))), (1, .int (z1)), (2, .int (v2)), (3, .int (v3))]) hX 4 5 hN (by decide) rfl dX4_firstFall_16 ?_
        refine g_aload_n hX 1 rfl rfl dX4_firstFall_18 ?_
        obtain ⟨y19, τ19, e19, h⟩ := ob_some h
        refine c_call4 hX hC hzo hc [] [] (ct_X4_howManyStand _ _ _ _ hzo hzs hC ε c hc τ13 _ _ e19) kX4_howManyStand tMet_X4_168 rfl rfl (Nat.le_of_ble_eq_true rfl) (Nat.le_of_ble_eq_true rfl) ⟨Nat.le_of_ble_eq_true rfl, Nat.le_of_ble_eq_true rfl⟩ rfl rfl (Nat.le_of_ble_eq_true rfl) dX4_firstFall_19 ?_
        refine g_iload_n hX 3 rfl rfl dX4_firstFall_22 ?_
        refine g_icmp_ge hX 28 (by decide) dX4_firstFall_23 (fun b23 => ?_) (fun b23 => ?_)
        · replace h := if_p b23 h
          refine g_iload hX 0 rfl dX4_firstFall_28 ?_
          refine g_if_ne hX 35 (by decide) dX4_firstFall_30 (fun b30 => ?_) (fun b30 => ?_)
          · replace h := if_n b30 h
            refine g_iinc (v := (v3 + nI 1)) (lv2 := [(3, .int ((v3 + nI 1))), (4, .int (y13)), (0, .ref (sAd ε (c))), (1, .int (z1)), (2, .int (v2))]) hX 4 3 5 hN rfl rfl (by decide) rfl dX4_firstFall_35 ?_
            refine g_goto hX 7 (by decide) dX4_firstFall_38 ?_
            refine g_lv [2, 3, 4, 0] rfl ?_
            exact ih v2 ((v3 + nI 1))  τ19 h
          · replace h := if_p b30 h
            refine g_iconst hX (v := nI 0) rfl dX4_firstFall_33 ?_
            exact g_reti hR (oi_1 h) (congrArg (C ε) (oi_2 h)) dX4_firstFall_34
        · replace h := if_n b23 h
          refine g_iload_n hX 4 rfl rfl dX4_firstFall_26 ?_
          exact g_reti hR (oi_1 h) (congrArg (C ε) (oi_2 h)) dX4_firstFall_27
  show GW κ 0 0 (C ε σ) 0 [(0, .ref (sAd ε (c))), (1, .int (z1))] []
  refine g_aload_n hX 0 rfl rfl dX4_firstFall_0 ?_
  obtain ⟨y1, τ1, e1, h⟩ := ob_some h
  refine c_call4 hX hC hzo hc [] [] (ct_X4_howManyStand _ _ _ _ hzo hzs hC ε c hc σ _ _ e1) kX4_howManyStand tMet_X4_168 rfl rfl (Nat.le_of_ble_eq_true rfl) (Nat.le_of_ble_eq_true rfl) ⟨Nat.le_of_ble_eq_true rfl, Nat.le_of_ble_eq_true rfl⟩ rfl rfl (Nat.le_of_ble_eq_true rfl) dX4_firstFall_1 ?_
  refine g_istore_n (lv2 := [(2, .int (y1)), (0, .ref (sAd ε (c))), (1, .int (z1))]) hX 2 5 hN rfl (by decide) rfl dX4_firstFall_4 ?_
  refine g_iconst hX (v := nI 1) rfl dX4_firstFall_5 ?_
  refine g_istore_n (lv2 := [(3, .int (nI 1)), (2, .int (y1)), (0, .ref (sAd ε (c))), (1, .int (z1))]) hX 3 5 hN rfl (by decide) rfl dX4_firstFall_6 ?_
  refine g_lv [2, 3, 1, 0] rfl ?_
  exact (J7 (fn_X4_firstFall_L41 ε c z1) J41 4000) y1 (nI 1)  τ1 h
theorem kX4_crackedSince : mKV RX4 yX4_crackedSince cX4_crackedSince 4 (some .int) 1 := ⟨tIns_X4_crackedSince, tSel_X4_crackedSince, tIni_X4, tCod_X4_crackedSince, by decide +kernel⟩
set_option maxHeartbeats 4000000 in
set_option maxRecDepth 100000 in
theorem ct_X4_crackedSince (l : Launch) (D : va_G) (cy : Nat → ClassId) (Z : (Nat → Prop) → State → Heap → Prop) (hzo : zOK Z) {aStr aByt : Nat → Nat} (hzs : zSt Z aStr aByt) {q : Nat → Nat} {C : Ev → Sg → va_W} (hC : cLens cy q C) (ε : Ev) (c : Nat) (hc : isX4 c) (c1 : Nat) (hc1 : isX4 c1) (σ σ2 : Sg) (res : Int32) (h : fn_X4_crackedSince ε c c1 σ = some (res, σ2)) : GD l D cy Z yX4_crackedSince (zW yX4_crackedSince cX4_crackedSince 4 (some .int)) { frames := 0, cells := 0, slots := 0, locals := 0 } [.ref (sAd ε (c)), .ref (sAd ε (c1))] (C ε σ) (some (.int res)) (C ε σ2) 0 0 := by
  refine g_entry (cc := cX4_crackedSince) (maxL := 4) (by decide) rfl (Nat.le_of_ble_eq_true rfl) ?_
  intro κ hN hX hR
  have hX : GX κ cy Z cX4_crackedSince (Cond.code yX4_crackedSince cX4_crackedSince 4 (some .int) :: zT) RX4 { frames := 0, cells := 0, slots := 0, locals := 0 } := hX
  have J53 : ∀ (v2 : Int32) (σ : Sg) , fn_X4_crackedSince_L53 ε c c1 v2 σ = some (res, σ2) → GW κ 0 0 (C ε σ) 53 [(2, .int (v2))] [] := by
    intro v2 σ h
    refine g_iload_n hX 0 rfl rfl dX4_crackedSince_53 ?_
    exact g_reti hR (oi_1 h) (congrArg (C ε) (oi_2 h)) dX4_crackedSince_54
  have J47 : ∀ (slf : Int32 → Int32 → Sg → Option (Int32 × Sg)) (hslf : ∀ (v2 : Int32) (v3 : Int32) (σ : Sg) , slf v2 v3 σ = some (res, σ2) → GW κ 0 0 (C ε σ) 4 [(0, .ref (sAd ε (c))), (1, .ref (sAd ε (c1))), (2, .int (v2)), (3, .int (v3))] []) (k53 : Int32 → Sg → Option (Int32 × Sg)) (hk53 : ∀ (v2 : Int32) (σ : Sg) , k53 v2 σ = some (res, σ2) → GW κ 0 0 (C ε σ) 53 [(2, .int (v2))] []), ∀ (v2 : Int32) (v3 : Int32) (σ : Sg) , fn_X4_crackedSince_L47 ε c c1 slf k53 v2 v3 σ = some (res, σ2) → GW κ 0 0 (C ε σ) 47 [(0, .ref (sAd ε (c))), (1, .ref (sAd ε (c1))), (2, .int (v2)), (3, .int (v3))] [] := by
    intro slf hslf k53 hk53 v2 v3 σ h
    refine g_iinc (v := (v3 + nI 1)) (lv2 := [(3, .int ((v3 + nI 1))), (0, .ref (sAd ε (c))), (1, .ref (sAd ε (c1))), (2, .int (v2))]) hX 3 3 4 hN rfl rfl (by decide) rfl dX4_crackedSince_47 ?_
    refine g_goto hX 4 (by decide) dX4_crackedSince_50 ?_
    refine g_lv [1, 2, 3, 0] rfl ?_
    exact hslf v2 ((v3 + nI 1))  σ h
  have J4 : ∀ (k53 : Int32 → Sg → Option (Int32 × Sg)) (hk53 : ∀ (v2 : Int32) (σ : Sg) , k53 v2 σ = some (res, σ2) → GW κ 0 0 (C ε σ) 53 [(2, .int (v2))] []) (fuel : Nat), ∀ (v2 : Int32) (v3 : Int32) (σ : Sg) , fn_X4_crackedSince_L4 ε c c1 k53 fuel v2 v3 σ = some (res, σ2) → GW κ 0 0 (C ε σ) 4 [(0, .ref (sAd ε (c))), (1, .ref (sAd ε (c1))), (2, .int (v2)), (3, .int (v3))] [] := by
    intro k53 hk53 fuel
    induction fuel with
    | zero => intro v2 v3 σ h; cases (show none = some (res, σ2) from h)
    | succ fuel ih =>
      intro v2 v3 σ h
      replace h : (if σ.1 c 6 ≤ v3 then (k53 v2 σ) else (if σ.1 c1 6 ≤ v3 then (k53 v2 σ) else (if ¬ (v3 < 0 ∨ 9 ≤ v3.toNatClampNeg) then (if σ.1 (c + 7 + v3.toNatClampNeg) 4 ≤ σ.1 (c1 + 7 + v3.toNatClampNeg) 4 then ((fn_X4_crackedSince_L47 ε c c1 (fn_X4_crackedSince_L4 ε c c1 k53 fuel) k53) v2 v3 σ) else ((fn_X4_crackedSince_L47 ε c c1 (fn_X4_crackedSince_L4 ε c c1 k53 fuel) k53) ((v2 ||| (nI 1 <<< (v3 &&& 31)))) v3 σ)) else none))) = some (res, σ2) := h
      refine g_iload_n hX 3 rfl rfl dX4_crackedSince_4 ?_
      refine g_aload_n hX 0 rfl rfl dX4_crackedSince_5 ?_
      refine c_get4 hX hC hc 6 (by decide) rfl tFld_X4_36 rfl dX4_crackedSince_6 ?_
      refine g_icmp_ge hX 53 (by decide) dX4_crackedSince_9 (fun b9 => ?_) (fun b9 => ?_)
      · replace h := if_p b9 h
        refine g_lv [2] rfl ?_
        exact hk53 v2  σ h
      · replace h := if_n b9 h
        refine g_iload_n hX 3 rfl rfl dX4_crackedSince_12 ?_
        refine g_aload_n hX 1 rfl rfl dX4_crackedSince_13 ?_
        refine c_get4 hX hC hc1 6 (by decide) rfl tFld_X4_36 rfl dX4_crackedSince_14 ?_
        refine g_icmp_ge hX 53 (by decide) dX4_crackedSince_17 (fun b17 => ?_) (fun b17 => ?_)
        · replace h := if_p b17 h
          refine g_lv [2] rfl ?_
          exact hk53 v2  σ h
        · replace h := if_n b17 h
          refine g_aload_n hX 0 rfl rfl dX4_crackedSince_20 ?_
          refine c_get4 hX hC hc 0 (by decide) rfl tFld_X4_11 rfl dX4_crackedSince_21 ?_
          refine g_iload_n hX 3 rfl rfl dX4_crackedSince_24 ?_
          obtain ⟨g1, h⟩ := gd_some h
          refine c_aald hX hC (kq_X4_1 hc) rfl g1 (v := .ref (sAd ε (c + 7 + v3.toNatClampNeg))) rfl dX4_crackedSince_25 ?_
          refine c_get0 hX hC (kh_X4 hc (vin_lt g1)) 4 (by decide) rfl tFld_X4_115 rfl dX4_crackedSince_26 ?_
          refine g_aload_n hX 1 rfl rfl dX4_crackedSince_29 ?_
          refine c_get4 hX hC hc1 0 (by decide) rfl tFld_X4_11 rfl dX4_crackedSince_30 ?_
          refine g_iload_n hX 3 rfl rfl dX4_crackedSince_33 ?_
          refine c_aald hX hC (kq_X4_1 hc1) rfl g1 (v := .ref (sAd ε (c1 + 7 + v3.toNatClampNeg))) rfl dX4_crackedSince_34 ?_
          refine c_get0 hX hC (kh_X4 hc1 (vin_lt g1)) 4 (by decide) rfl tFld_X4_115 rfl dX4_crackedSince_35 ?_
          refine g_icmp_le hX 47 (by decide) dX4_crackedSince_38 (fun b38 => ?_) (fun b38 => ?_)
          · replace h := if_p b38 h
            exact (J47 (fn_X4_crackedSince_L4 ε c c1 k53 fuel) ih k53 hk53) v2 v3  σ h
          · replace h := if_n b38 h
            refine g_iload_n hX 2 rfl rfl dX4_crackedSince_41 ?_
            refine g_iconst hX (v := nI 1) rfl dX4_crackedSince_42 ?_
            refine g_iload_n hX 3 rfl rfl dX4_crackedSince_43 ?_
            refine g_ishl hX dX4_crackedSince_44 ?_
            refine g_ior hX dX4_crackedSince_45 ?_
            refine g_istore_n (lv2 := [(2, .int ((v2 ||| (nI 1 <<< (v3 &&& 31))))), (0, .ref (sAd ε (c))), (1, .ref (sAd ε (c1))), (3, .int (v3))]) hX 2 4 hN rfl (by decide) rfl dX4_crackedSince_46 ?_
            refine g_lv [1, 2, 0, 3] rfl ?_
            exact (J47 (fn_X4_crackedSince_L4 ε c c1 k53 fuel) ih k53 hk53) ((v2 ||| (nI 1 <<< (v3 &&& 31)))) v3  σ h
  show GW κ 0 0 (C ε σ) 0 [(0, .ref (sAd ε (c))), (1, .ref (sAd ε (c1)))] []
  refine g_iconst hX (v := nI 0) rfl dX4_crackedSince_0 ?_
  refine g_istore_n (lv2 := [(2, .int (nI 0)), (0, .ref (sAd ε (c))), (1, .ref (sAd ε (c1)))]) hX 2 4 hN rfl (by decide) rfl dX4_crackedSince_1 ?_
  refine g_iconst hX (v := nI 0) rfl dX4_crackedSince_2 ?_
  refine g_istore_n (lv2 := [(3, .int (nI 0)), (2, .int (nI 0)), (0, .ref (sAd ε (c))), (1, .ref (sAd ε (c1)))]) hX 3 4 hN rfl (by decide) rfl dX4_crackedSince_3 ?_
  refine g_lv [2, 3, 1, 0] rfl ?_
  exact (J4 (fn_X4_crackedSince_L53 ε c c1) J53 4000) (nI 0) (nI 0)  σ h
theorem kX4_cracks : mKV RX4 yX4_cracks cX4_cracks 3 (some .int) 0 := ⟨tIns_X4_cracks, tSel_X4_cracks, tIni_X4, tCod_X4_cracks, by decide +kernel⟩
set_option maxHeartbeats 4000000 in
set_option maxRecDepth 100000 in
theorem ct_X4_cracks (l : Launch) (D : va_G) (cy : Nat → ClassId) (Z : (Nat → Prop) → State → Heap → Prop) (hzo : zOK Z) {aStr aByt : Nat → Nat} (hzs : zSt Z aStr aByt) {q : Nat → Nat} {C : Ev → Sg → va_W} (hC : cLens cy q C) (ε : Ev) (c : Nat) (hc : isX4 c) (σ σ2 : Sg) (res : Int32) (h : fn_X4_cracks ε c σ = some (res, σ2)) : GD l D cy Z yX4_cracks (zW yX4_cracks cX4_cracks 3 (some .int)) { frames := 0, cells := 0, slots := 0, locals := 0 } [.ref (sAd ε (c))] (C ε σ) (some (.int res)) (C ε σ2) 0 0 := by
  refine g_entry (cc := cX4_cracks) (maxL := 3) (by decide) rfl (Nat.le_of_ble_eq_true rfl) ?_
  intro κ hN hX hR
  have hX : GX κ cy Z cX4_cracks (Cond.code yX4_cracks cX4_cracks 3 (some .int) :: zT) RX4 { frames := 0, cells := 0, slots := 0, locals := 0 } := hX
  have J30 : ∀ (v1 : Int32) (σ : Sg) , fn_X4_cracks_L30 ε c v1 σ = some (res, σ2) → GW κ 0 0 (C ε σ) 30 [(1, .int (v1))] [] := by
    intro v1 σ h
    refine g_iload_n hX 0 rfl rfl dX4_cracks_30 ?_
    exact g_reti hR (oi_1 h) (congrArg (C ε) (oi_2 h)) dX4_cracks_31
  have J4 : ∀ (k30 : Int32 → Sg → Option (Int32 × Sg)) (hk30 : ∀ (v1 : Int32) (σ : Sg) , k30 v1 σ = some (res, σ2) → GW κ 0 0 (C ε σ) 30 [(1, .int (v1))] []) (fuel : Nat), ∀ (v1 : Int32) (v2 : Int32) (σ : Sg) , fn_X4_cracks_L4 ε c k30 fuel v1 v2 σ = some (res, σ2) → GW κ 0 0 (C ε σ) 4 [(0, .ref (sAd ε (c))), (1, .int (v1)), (2, .int (v2))] [] := by
    intro k30 hk30 fuel
    induction fuel with
    | zero => intro v1 v2 σ h; cases (show none = some (res, σ2) from h)
    | succ fuel ih =>
      intro v1 v2 σ h
      replace h : (if σ.1 c 6 ≤ v2 then (k30 v1 σ) else (if ¬ (v2 < 0 ∨ 9 ≤ v2.toNatClampNeg) then ((fn_X4_cracks_L4 ε c k30 fuel) ((v1 + σ.1 (c + 7 + v2.toNatClampNeg) 4)) ((v2 + nI 1)) σ) else none)) = some (res, σ2) := h
      refine g_iload_n hX 2 rfl rfl dX4_cracks_4 ?_
      refine g_aload_n hX 0 rfl rfl dX4_cracks_5 ?_
      refine c_get4 hX hC hc 6 (by decide) rfl tFld_X4_36 rfl dX4_cracks_6 ?_
      refine g_icmp_ge hX 30 (by decide) dX4_cracks_9 (fun b9 => ?_) (fun b9 => ?_)
      · replace h := if_p b9 h
        refine g_lv [1] rfl ?_
        exact hk30 v1  σ h
      · replace h := if_n b9 h
        refine g_iload_n hX 1 rfl rfl dX4_cracks_12 ?_
        refine g_aload_n hX 0 rfl rfl dX4_cracks_13 ?_
        refine c_get4 hX hC hc 0 (by decide) rfl tFld_X4_11 rfl dX4_cracks_14 ?_
        refine g_iload_n hX 2 rfl rfl dX4_cracks_17 ?_
        obtain ⟨g1, h⟩ := gd_some h
        refine c_aald hX hC (kq_X4_1 hc) rfl g1 (v := .ref (sAd ε (c + 7 + v2.toNatClampNeg))) rfl dX4_cracks_18 ?_
        refine c_get0 hX hC (kh_X4 hc (vin_lt g1)) 4 (by decide) rfl tFld_X4_115 rfl dX4_cracks_19 ?_
        refine g_iadd hX dX4_cracks_22 ?_
        refine g_istore_n (lv2 := [(1, .int ((v1 + σ.1 (c + 7 + v2.toNatClampNeg) 4))), (0, .ref (sAd ε (c))), (2, .int (v2))]) hX 1 3 hN rfl (by decide) rfl dX4_cracks_23 ?_
        refine g_iinc (v := (v2 + nI 1)) (lv2 := [(2, .int ((v2 + nI 1))), (1, .int ((v1 + σ.1 (c + 7 + v2.toNatClampNeg) 4))), (0, .ref (sAd ε (c)))]) hX 2 2 3 hN rfl rfl (by decide) rfl dX4_cracks_24 ?_
        refine g_goto hX 4 (by decide) dX4_cracks_27 ?_
        refine g_lv [2, 1, 0] rfl ?_
        exact ih ((v1 + σ.1 (c + 7 + v2.toNatClampNeg) 4)) ((v2 + nI 1))  σ h
  show GW κ 0 0 (C ε σ) 0 [(0, .ref (sAd ε (c)))] []
  refine g_iconst hX (v := nI 0) rfl dX4_cracks_0 ?_
  refine g_istore_n (lv2 := [(1, .int (nI 0)), (0, .ref (sAd ε (c)))]) hX 1 3 hN rfl (by decide) rfl dX4_cracks_1 ?_
  refine g_iconst hX (v := nI 0) rfl dX4_cracks_2 ?_
  refine g_istore_n (lv2 := [(2, .int (nI 0)), (1, .int (nI 0)), (0, .ref (sAd ε (c)))]) hX 2 3 hN rfl (by decide) rfl dX4_cracks_3 ?_
  refine g_lv [2, 1, 0] rfl ?_
  exact (J4 (fn_X4_cracks_L30 ε c) J30 4000) (nI 0) (nI 0)  σ h
