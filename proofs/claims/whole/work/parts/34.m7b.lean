noncomputable def fn_X7_feed_L91 (z1 : Int32) (z2 : Int32) (z3 : Int32)  (μ : Mg) : Option (Int32 × Mg) := some (μ.1 16, μ)
noncomputable def fn_X7_feed_L47 (z1 : Int32) (z2 : Int32) (z3 : Int32) (slf : Int32 → Mg → Option (Int32 × Mg)) (k91 : Mg → Option (Int32 × Mg)) (v4 : Int32) (s0 : Int32) (μ : Mg) : Option (Int32 × Mg) := (if ¬ (μ.1 16 < 0 ∨ 96 ≤ (μ.1 16).toNatClampNeg) then (slf ((v4 + nI 1)) ((upd μ.1 16 ((μ.1 16 + nI 1)), μ.2.1, mU μ.2.2 15 (upd (μ.2.2 15) (μ.1 16).toNatClampNeg (((s0 >>> ((nI 24 - (nI 8 * (v4 - v4 / nI 4 * nI 4))) &&& 31)) &&& nI 255)))))) else none)
noncomputable def fn_X7_feed_L18 (z1 : Int32) (z2 : Int32) (z3 : Int32) (k91 : Mg → Option (Int32 × Mg)) : Nat → Int32 → Mg → Option (Int32 × Mg)
  | 0 => fun _ _ => none
  | fuel + 1 => fun (v4 : Int32) (μ : Mg) => (if nI 12 ≤ v4 then (k91  μ) else (if nI 4 ≤ v4 then (if nI 8 ≤ v4 then ((fn_X7_feed_L47 z1 z2 z3 (fn_X7_feed_L18 z1 z2 z3 k91 fuel) k91) v4 z3 μ) else ((fn_X7_feed_L47 z1 z2 z3 (fn_X7_feed_L18 z1 z2 z3 k91 fuel) k91) v4 z2 μ)) else ((fn_X7_feed_L47 z1 z2 z3 (fn_X7_feed_L18 z1 z2 z3 k91 fuel) k91) v4 z1 μ)))
noncomputable def fn_X7_feed (z1 : Int32) (z2 : Int32) (z3 : Int32) (μ : Mg) : Option (Int32 × Mg) := (if (μ.1 16 + nI 12) ≤ nI 96 then ((fn_X7_feed_L18 z1 z2 z3 (fn_X7_feed_L91 z1 z2 z3) 4000) (nI 0) μ) else some ((-1000000003), μ))
noncomputable def fn_X7_trim (z1 : Int32) (μ : Mg) : Option (Int32 × Mg) := (if (bI (inB z1 ((0)) (μ.1 16))) = 0 then some ((-1000000001), μ) else some (z1, (upd μ.1 16 z1, μ.2.1, μ.2.2)))
noncomputable def fn_X7_textTold_L18 (z1 : Int32) (z2 : Int32)  (μ : Mg) : Option (Int32 × Mg) := some ((-1000000001), μ)
noncomputable def fn_X7_textTold (z1 : Int32) (z2 : Int32) (μ : Mg) : Option (Int32 × Mg) := (ob (fn_X7_isText z1 μ) (fun y2 τ2 => (if y2 = 0 then ((fn_X7_textTold_L18 z1 z2)  τ2) else (if (bI (inB z2 ((0)) ((1)))) = 0 then ((fn_X7_textTold_L18 z1 z2)  τ2) else (ob (fn_X7_textAt z1 τ2) (fun y27 τ27 => (if ¬ ((y27 + z2) < 0 ∨ 3069 ≤ ((y27 + z2)).toNatClampNeg) then some (τ27.2.1 ((y27 + z2)).toNatClampNeg, τ27) else none)))))))
noncomputable def fn_X7_why_L25 (z1 : Int32) (s0 : Int32) (μ : Mg) : Option (Int32 × Mg) := some (s0, μ)
noncomputable def fn_X7_why (z1 : Int32) (μ : Mg) : Option (Int32 × Mg) := (if (bI (inB z1 ((0)) ((2)))) = 0 then ((fn_X7_why_L25 z1) ((-1000000001)) μ) else (ob (fn_X7_counts z1 μ) (fun y14 τ14 => (o1 (fn_X7_orNone y14) (fun y17 => ((fn_X7_why_L25 z1) y17 τ14))))))
noncomputable def fn_X7_sheet_L95 (z1 : Int32) (z2 : Int32) (z3 : Int32)  (μ : Mg) : Option (Int32 × Mg) := (if ¬ (z1 < 0 ∨ 4 ≤ z1.toNatClampNeg) then some (μ.2.2 5 z1.toNatClampNeg, μ) else none)
noncomputable def fn_X7_sheet_L69 (z1 : Int32) (z2 : Int32) (z3 : Int32) (k95 : Mg → Option (Int32 × Mg)) : Nat → Int32 → Mg → Option (Int32 × Mg)
  | 0 => fun _ _ => none
  | fuel + 1 => fun (v4 : Int32) (μ : Mg) => (if nI 24 ≤ v4 then (k95  μ) else (if ¬ (((nI 24 * z1) + v4) < 0 ∨ 96 ≤ (((nI 24 * z1) + v4)).toNatClampNeg) then ((fn_X7_sheet_L69 z1 z2 z3 k95 fuel) ((v4 + nI 1)) ((μ.1, μ.2.1, mU μ.2.2 6 (upd (μ.2.2 6) (((nI 24 * z1) + v4)).toNatClampNeg (nI 0))))) else none))
noncomputable def fn_X7_sheet_L65 (z1 : Int32) (z2 : Int32) (z3 : Int32) (s0 : Int32) (μ : Mg) : Option (Int32 × Mg) := (if ¬ (z1 < 0 ∨ 4 ≤ z1.toNatClampNeg) then ((fn_X7_sheet_L69 z1 z2 z3 (fn_X7_sheet_L95 z1 z2 z3) 4000) (nI 0) ((μ.1, μ.2.1, mU μ.2.2 5 (upd (μ.2.2 5) z1.toNatClampNeg s0)))) else none)
noncomputable def fn_X7_sheet_L44 (z1 : Int32) (z2 : Int32) (z3 : Int32)  (μ : Mg) : Option (Int32 × Mg) := (if ¬ (z1 < 0 ∨ 4 ≤ z1.toNatClampNeg) then (if 0 ≤ z2 then ((fn_X7_sheet_L65 z1 z2 z3) z3 ((μ.1, μ.2.1, mU μ.2.2 4 (upd (μ.2.2 4) z1.toNatClampNeg z2)))) else ((fn_X7_sheet_L65 z1 z2 z3) (nI 0) ((μ.1, μ.2.1, mU μ.2.2 4 (upd (μ.2.2 4) z1.toNatClampNeg z2))))) else none)
noncomputable def fn_X7_sheet_L32 (z1 : Int32) (z2 : Int32) (z3 : Int32)  (μ : Mg) : Option (Int32 × Mg) := (if z2 < 0 then ((fn_X7_sheet_L44 z1 z2 z3)  μ) else (if 0 ≤ z3 then ((fn_X7_sheet_L44 z1 z2 z3)  μ) else some ((-1000000014), μ)))
noncomputable def fn_X7_sheet_L29 (z1 : Int32) (z2 : Int32) (z3 : Int32)  (μ : Mg) : Option (Int32 × Mg) := some ((-1000000001), μ)
noncomputable def fn_X7_sheet (z1 : Int32) (z2 : Int32) (z3 : Int32) (μ : Mg) : Option (Int32 × Mg) := (o1 (fn_X7_isSheet z1) (fun y1 => (if y1 = 0 then ((fn_X7_sheet_L29 z1 z2 z3)  μ) else (if (bI (inB z2 ((-1)) ((1)))) = 0 then ((fn_X7_sheet_L29 z1 z2 z3)  μ) else (if z2 < 0 then ((fn_X7_sheet_L32 z1 z2 z3)  μ) else (if z3 ≤ nI 24 then ((fn_X7_sheet_L32 z1 z2 z3)  μ) else ((fn_X7_sheet_L29 z1 z2 z3)  μ)))))))
noncomputable def fn_X7_mark_L126 (z1 : Int32) (z2 : Int32) (z3 : Int32) (s0 : Int32) (μ : Mg) : Option (Int32 × Mg) := (if ¬ (((nI 24 * z1) + z2) < 0 ∨ 96 ≤ (((nI 24 * z1) + z2)).toNatClampNeg) then some (nI 1, (μ.1, μ.2.1, mU μ.2.2 6 (upd (μ.2.2 6) (((nI 24 * z1) + z2)).toNatClampNeg s0))) else none)
noncomputable def fn_X7_mark_L96 (z1 : Int32) (z2 : Int32) (z3 : Int32)  (μ : Mg) : Option (Int32 × Mg) := (if ¬ (z1 < 0 ∨ 4 ≤ z1.toNatClampNeg) then (if μ.2.2 4 z1.toNatClampNeg = 0 then ((fn_X7_mark_L126 z1 z2 z3) (((z3 <<< (nI 16 &&& 31)) >>> (nI 16 &&& 31))) μ) else ((fn_X7_mark_L126 z1 z2 z3) z3 μ)) else none)
noncomputable def fn_X7_mark_L63 (z1 : Int32) (z2 : Int32) (z3 : Int32)  (μ : Mg) : Option (Int32 × Mg) := (if ¬ (z1 < 0 ∨ 4 ≤ z1.toNatClampNeg) then (if μ.2.2 4 z1.toNatClampNeg = nI 1 then (if z3 = (-1000000005) then ((fn_X7_mark_L96 z1 z2 z3)  μ) else (if (bI (inB z3 ((-99999)) ((99999)))) = 0 then some ((-1000000001), μ) else ((fn_X7_mark_L96 z1 z2 z3)  μ))) else ((fn_X7_mark_L96 z1 z2 z3)  μ)) else none)
noncomputable def fn_X7_mark (z1 : Int32) (z2 : Int32) (z3 : Int32) (μ : Mg) : Option (Int32 × Mg) := (o1 (fn_X7_isSheet z1) (fun y1 => (if y1 = 0 then some ((-1000000001), μ) else (if ¬ (z1 < 0 ∨ 4 ≤ z1.toNatClampNeg) then (if 0 ≤ μ.2.2 4 z1.toNatClampNeg then (if (bI (inB z2 ((0)) ((μ.2.2 5 z1.toNatClampNeg - nI 1)))) = 0 then some ((-1000000013), μ) else (if μ.2.2 4 z1.toNatClampNeg = 0 then (if z3 = (-1000000005) then some ((-1000000012), μ) else ((fn_X7_mark_L63 z1 z2 z3)  μ)) else ((fn_X7_mark_L63 z1 z2 z3)  μ))) else some ((-1000000011), μ)) else none))))
noncomputable def fn_X7_pour_L128 (z1 : Int32) (v2 : Int32) (μ : Mg) : Option (Int32 × Mg) := some (v2, μ)
noncomputable def fn_X7_pour_L120 (z1 : Int32) (slf : Int32 → Int32 → Mg → Option (Int32 × Mg)) (k128 : Int32 → Mg → Option (Int32 × Mg)) (v3 : Int32) (s0 : Int32) (s1 : Int32) (μ : Mg) : Option (Int32 × Mg) := (slf ((s1 + s0)) ((v3 + nI 1)) μ)
noncomputable def fn_X7_pour_L92 (z1 : Int32) (slf : Int32 → Int32 → Mg → Option (Int32 × Mg)) (k128 : Int32 → Mg → Option (Int32 × Mg)) (v2 : Int32) (v3 : Int32) (s0 : Int32) (μ : Mg) : Option (Int32 × Mg) := (ob (fn_X7_becomes (((nI 6 + (nI 7 * v3)) + nI 3)) s0 μ) (fun y109 τ109 => (if s0 = y109 then ((fn_X7_pour_L120 z1 slf k128) v3 (nI 0) v2 τ109) else ((fn_X7_pour_L120 z1 slf k128) v3 (nI 1) v2 τ109))))
noncomputable def fn_X7_pour_L27 (z1 : Int32) (k128 : Int32 → Mg → Option (Int32 × Mg)) : Nat → Int32 → Int32 → Mg → Option (Int32 × Mg)
  | 0 => fun _ _ _ => none
  | fuel + 1 => fun (v2 : Int32) (v3 : Int32) (μ : Mg) => (if ¬ (z1 < 0 ∨ 4 ≤ z1.toNatClampNeg) then (if μ.2.2 5 z1.toNatClampNeg ≤ v3 then (k128 v2 μ) else (if ¬ (nI 0 < 0 ∨ 3069 ≤ (nI 0).toNatClampNeg) then (if μ.2.1 (nI 0).toNatClampNeg ≤ v3 then (k128 v2 μ) else (if ¬ (((nI 24 * z1) + v3) < 0 ∨ 96 ≤ (((nI 24 * z1) + v3)).toNatClampNeg) then (if μ.2.2 6 (((nI 24 * z1) + v3)).toNatClampNeg = (-1000000005) then (if ¬ (((nI 6 + (nI 7 * v3)) + nI 3) < 0 ∨ 3069 ≤ (((nI 6 + (nI 7 * v3)) + nI 3)).toNatClampNeg) then ((fn_X7_pour_L92 z1 (fn_X7_pour_L27 z1 k128 fuel) k128) v2 v3 (μ.2.1 (((nI 6 + (nI 7 * v3)) + nI 3)).toNatClampNeg) μ) else none) else (o1 (fn_X7_held (μ.2.2 6 (((nI 24 * z1) + v3)).toNatClampNeg) (nI 0) (nI 99)) (fun y89 => ((fn_X7_pour_L92 z1 (fn_X7_pour_L27 z1 k128 fuel) k128) v2 v3 y89 μ)))) else none)) else none)) else none)
noncomputable def fn_X7_pour (z1 : Int32) (μ : Mg) : Option (Int32 × Mg) := (o1 (fn_X7_isSheet z1) (fun y1 => (if y1 = 0 then some ((-1000000001), μ) else (if ¬ (z1 < 0 ∨ 4 ≤ z1.toNatClampNeg) then (if 0 ≤ μ.2.2 4 z1.toNatClampNeg then ((fn_X7_pour_L27 z1 (fn_X7_pour_L128 z1) 4000) (nI 0) (nI 0) μ) else some ((-1000000011), μ)) else none))))
noncomputable def fn_X7_reads_L81 (z1 : Int32)  (μ : Mg) : Option (Int32 × Mg) := some ((-1000000005), μ)
noncomputable def fn_X7_reads_L75 (z1 : Int32) (slf : Int32 → Mg → Option (Int32 × Mg)) (k81 : Mg → Option (Int32 × Mg)) (v2 : Int32) (μ : Mg) : Option (Int32 × Mg) := (slf ((v2 + nI 1)) μ)
noncomputable def fn_X7_reads_L73 (z1 : Int32) (slf : Int32 → Mg → Option (Int32 × Mg)) (k81 : Mg → Option (Int32 × Mg)) (v2 : Int32) (μ : Mg) : Option (Int32 × Mg) := some (v2, μ)
noncomputable def fn_X7_reads_L25 (z1 : Int32) (k81 : Mg → Option (Int32 × Mg)) : Nat → Int32 → Mg → Option (Int32 × Mg)
  | 0 => fun _ _ => none
  | fuel + 1 => fun (v2 : Int32) (μ : Mg) => (if ¬ (z1 < 0 ∨ 4 ≤ z1.toNatClampNeg) then (if μ.2.2 5 z1.toNatClampNeg ≤ v2 then (k81  μ) else (if ¬ (((nI 24 * z1) + v2) < 0 ∨ 96 ≤ (((nI 24 * z1) + v2)).toNatClampNeg) then (if μ.2.2 6 (((nI 24 * z1) + v2)).toNatClampNeg = (-1000000005) then ((fn_X7_reads_L75 z1 (fn_X7_reads_L25 z1 k81 fuel) k81) v2 μ) else (if ¬ (nI 0 < 0 ∨ 3069 ≤ (nI 0).toNatClampNeg) then (if μ.2.1 (nI 0).toNatClampNeg ≤ v2 then ((fn_X7_reads_L73 z1 (fn_X7_reads_L25 z1 k81 fuel) k81) v2 μ) else (ob (fn_X7_of v2 (nI 2) μ) (fun y67 τ67 => (if μ.2.2 6 (((nI 24 * z1) + v2)).toNatClampNeg = y67 then ((fn_X7_reads_L75 z1 (fn_X7_reads_L25 z1 k81 fuel) k81) v2 τ67) else ((fn_X7_reads_L73 z1 (fn_X7_reads_L25 z1 k81 fuel) k81) v2 τ67))))) else none)) else none)) else none)
noncomputable def fn_X7_reads (z1 : Int32) (μ : Mg) : Option (Int32 × Mg) := (o1 (fn_X7_isSheet z1) (fun y1 => (if y1 = 0 then some ((-1000000001), μ) else (if ¬ (z1 < 0 ∨ 4 ≤ z1.toNatClampNeg) then (if 0 ≤ μ.2.2 4 z1.toNatClampNeg then ((fn_X7_reads_L25 z1 (fn_X7_reads_L81 z1) 4000) (nI 0) μ) else some ((-1000000011), μ)) else none))))
noncomputable def fn_X7_began_L213 (z1 : Int32) (z2 : Int32) (z3 : Int32) (s0 : Int32) (μ : Mg) : Option (Int32 × Mg) := some (s0, μ)
noncomputable def fn_X7_began_L192 (z1 : Int32) (z2 : Int32) (z3 : Int32) (v4 : Int32) (v5 : Int32) (μ : Mg) : Option (Int32 × Mg) := (if 0 ≤ v4 then (if z3 = 0 then ((fn_X7_began_L213 z1 z2 z3) v4 μ) else ((fn_X7_began_L213 z1 z2 z3) v5 μ)) else ((fn_X7_began_L213 z1 z2 z3) ((-1000000005)) μ))
noncomputable def fn_X7_began_L186 (z1 : Int32) (z2 : Int32) (z3 : Int32) (slf : Int32 → Int32 → Int32 → Mg → Option (Int32 × Mg)) (k192 : Int32 → Int32 → Mg → Option (Int32 × Mg)) (v4 : Int32) (v5 : Int32) (v6 : Int32) (μ : Mg) : Option (Int32 × Mg) := (slf v4 v5 ((v6 + nI 1)) μ)
noncomputable def fn_X7_began_L178 (z1 : Int32) (z2 : Int32) (z3 : Int32) (slf : Int32 → Int32 → Int32 → Mg → Option (Int32 × Mg)) (k192 : Int32 → Int32 → Mg → Option (Int32 × Mg)) (v6 : Int32) (v7 : Int32) (μ : Mg) : Option (Int32 × Mg) := ((fn_X7_began_L186 z1 z2 z3 slf k192) v6 v7 v6 μ)
noncomputable def fn_X7_began_L162 (z1 : Int32) (z2 : Int32) (z3 : Int32) (slf : Int32 → Int32 → Int32 → Mg → Option (Int32 × Mg)) (k192 : Int32 → Int32 → Mg → Option (Int32 × Mg)) (v4 : Int32) (v5 : Int32) (v6 : Int32) (v7 : Int32) (μ : Mg) : Option (Int32 × Mg) := (ob (fn_X7_laysBack  μ) (fun y163 τ163 => (if v4 < 0 then ((fn_X7_began_L178 z1 z2 z3 slf k192) v6 v7 τ163) else (if v5 ≤ v7 then ((fn_X7_began_L186 z1 z2 z3 slf k192) v4 v5 v6 τ163) else ((fn_X7_began_L178 z1 z2 z3 slf k192) v6 v7 τ163)))))
noncomputable def fn_X7_began_L153 (z1 : Int32) (z2 : Int32) (z3 : Int32) (slf : Int32 → Int32 → Int32 → Int32 → Int32 → Mg → Option (Int32 × Mg)) (k162 : Int32 → Int32 → Int32 → Int32 → Mg → Option (Int32 × Mg)) (v4 : Int32) (v5 : Int32) (v6 : Int32) (v8 : Int32) (s0 : Int32) (s1 : Int32) (μ : Mg) : Option (Int32 × Mg) := (slf v4 v5 v6 ((s1 + s0)) ((v8 + nI 1)) μ)
noncomputable def fn_X7_began_L150 (z1 : Int32) (z2 : Int32) (z3 : Int32) (slf : Int32 → Int32 → Int32 → Int32 → Int32 → Mg → Option (Int32 × Mg)) (k162 : Int32 → Int32 → Int32 → Int32 → Mg → Option (Int32 × Mg)) (v4 : Int32) (v5 : Int32) (v6 : Int32) (v8 : Int32) (s0 : Int32) (s1 : Int32) (s2 : Int32) (μ : Mg) : Option (Int32 × Mg) := (o1 (fn_X7_off s1 s0) (fun y150 => ((fn_X7_began_L153 z1 z2 z3 slf k162) v4 v5 v6 v8 y150 s2 μ)))
noncomputable def fn_X7_began_L88 (z1 : Int32) (z2 : Int32) (z3 : Int32) (k162 : Int32 → Int32 → Int32 → Int32 → Mg → Option (Int32 × Mg)) : Nat → Int32 → Int32 → Int32 → Int32 → Int32 → Mg → Option (Int32 × Mg)
  | 0 => fun _ _ _ _ _ _ => none
  | fuel + 1 => fun (v4 : Int32) (v5 : Int32) (v6 : Int32) (v7 : Int32) (v8 : Int32) (μ : Mg) => (if ¬ (z1 < 0 ∨ 4 ≤ z1.toNatClampNeg) then (if μ.2.2 5 z1.toNatClampNeg ≤ v8 then (k162 v4 v5 v6 v7 μ) else (if ¬ (((nI 24 * z1) + v8) < 0 ∨ 96 ≤ (((nI 24 * z1) + v8)).toNatClampNeg) then (if μ.2.2 6 (((nI 24 * z1) + v8)).toNatClampNeg = (-1000000005) then ((fn_X7_began_L153 z1 z2 z3 (fn_X7_began_L88 z1 z2 z3 k162 fuel) k162) v4 v5 v6 v8 (nI 0) v7 μ) else (if ¬ (nI 0 < 0 ∨ 3069 ≤ (nI 0).toNatClampNeg) then (if μ.2.1 (nI 0).toNatClampNeg ≤ v8 then ((fn_X7_began_L150 z1 z2 z3 (fn_X7_began_L88 z1 z2 z3 k162 fuel) k162) v4 v5 v6 v8 (nI 0) (μ.2.2 6 (((nI 24 * z1) + v8)).toNatClampNeg) v7 μ) else (ob (fn_X7_of v8 (nI 4) μ) (fun y143 τ143 => ((fn_X7_began_L150 z1 z2 z3 (fn_X7_began_L88 z1 z2 z3 k162 fuel) k162) v4 v5 v6 v8 y143 (μ.2.2 6 (((nI 24 * z1) + v8)).toNatClampNeg) v7 τ143)))) else none)) else none)) else none)
noncomputable def fn_X7_began_L58 (z1 : Int32) (z2 : Int32) (z3 : Int32) (k192 : Int32 → Int32 → Mg → Option (Int32 × Mg)) : Nat → Int32 → Int32 → Int32 → Mg → Option (Int32 × Mg)
  | 0 => fun _ _ _ _ => none
  | fuel + 1 => fun (v4 : Int32) (v5 : Int32) (v6 : Int32) (μ : Mg) => (if ¬ (nI 0 < 0 ∨ 3069 ≤ (nI 0).toNatClampNeg) then (if μ.2.1 (nI 0).toNatClampNeg ≤ v6 then (k192 v4 v5 μ) else (ob (fn_X7_sets v6 (nI 3) (nI 0) μ) (fun y74 τ74 => (ob (fn_X7_goesOnMany z2 τ74) (fun y79 τ79 => ((fn_X7_began_L88 z1 z2 z3 (fn_X7_began_L162 z1 z2 z3 (fn_X7_began_L58 z1 z2 z3 k192 fuel) k192) 4000) v4 v5 v6 (nI 0) (nI 0) τ79)))))) else none)
noncomputable def fn_X7_began_L29 (z1 : Int32) (z2 : Int32) (z3 : Int32)  (μ : Mg) : Option (Int32 × Mg) := some ((-1000000001), μ)
noncomputable def fn_X7_began (z1 : Int32) (z2 : Int32) (z3 : Int32) (μ : Mg) : Option (Int32 × Mg) := (o1 (fn_X7_isSheet z1) (fun y1 => (if y1 = 0 then ((fn_X7_began_L29 z1 z2 z3)  μ) else (if (bI (inB z2 ((0)) ((60)))) = 0 then ((fn_X7_began_L29 z1 z2 z3)  μ) else (if (bI (inB z3 ((0)) ((1)))) = 0 then ((fn_X7_began_L29 z1 z2 z3)  μ) else (if ¬ (z1 < 0 ∨ 4 ≤ z1.toNatClampNeg) then (if 0 ≤ μ.2.2 4 z1.toNatClampNeg then (ob (fn_X7_laysBy  μ) (fun y46 τ46 => ((fn_X7_began_L58 z1 z2 z3 (fn_X7_began_L192 z1 z2 z3) 4000) ((-1)) (nI 0) (nI 0) τ46))) else some ((-1000000011), μ)) else none))))))
noncomputable def fn_X7_copy_L185 (z1 : Int32) (z2 : Int32) (z3 : Int32) (z4 : Int32) (z5 : Int32)  (μ : Mg) : Option (Int32 × Mg) := some (z5, μ)
noncomputable def fn_X7_copy_L150 (z1 : Int32) (z2 : Int32) (z3 : Int32) (z4 : Int32) (z5 : Int32) (k185 : Mg → Option (Int32 × Mg)) : Nat → Int32 → Mg → Option (Int32 × Mg)
  | 0 => fun _ _ => none
  | fuel + 1 => fun (v6 : Int32) (μ : Mg) => (if z5 ≤ v6 then (k185  μ) else (if ¬ (v6 < 0 ∨ 24 ≤ v6.toNatClampNeg) then (if ¬ ((((nI 24 * z3) + z4) + v6) < 0 ∨ 96 ≤ ((((nI 24 * z3) + z4) + v6)).toNatClampNeg) then ((fn_X7_copy_L150 z1 z2 z3 z4 z5 k185 fuel) ((v6 + nI 1)) ((μ.1, μ.2.1, mU μ.2.2 6 (upd (μ.2.2 6) ((((nI 24 * z3) + z4) + v6)).toNatClampNeg (μ.2.2 29 v6.toNatClampNeg))))) else none) else none))
noncomputable def fn_X7_copy_L147 (z1 : Int32) (z2 : Int32) (z3 : Int32) (z4 : Int32) (z5 : Int32)  (μ : Mg) : Option (Int32 × Mg) := ((fn_X7_copy_L150 z1 z2 z3 z4 z5 (fn_X7_copy_L185 z1 z2 z3 z4 z5) 4000) (nI 0) μ)
noncomputable def fn_X7_copy_L113 (z1 : Int32) (z2 : Int32) (z3 : Int32) (z4 : Int32) (z5 : Int32) (k147 : Mg → Option (Int32 × Mg)) : Nat → Int32 → Mg → Option (Int32 × Mg)
  | 0 => fun _ _ => none
  | fuel + 1 => fun (v6 : Int32) (μ : Mg) => (if z5 ≤ v6 then (k147  μ) else (if ¬ ((((nI 24 * z1) + z2) + v6) < 0 ∨ 96 ≤ ((((nI 24 * z1) + z2) + v6)).toNatClampNeg) then (if ¬ (v6 < 0 ∨ 24 ≤ v6.toNatClampNeg) then ((fn_X7_copy_L113 z1 z2 z3 z4 z5 k147 fuel) ((v6 + nI 1)) ((μ.1, μ.2.1, mU μ.2.2 29 (upd (μ.2.2 29) v6.toNatClampNeg (μ.2.2 6 ((((nI 24 * z1) + z2) + v6)).toNatClampNeg))))) else none) else none))
noncomputable def fn_X7_copy_L106 (z1 : Int32) (z2 : Int32) (z3 : Int32) (z4 : Int32) (z5 : Int32)  (μ : Mg) : Option (Int32 × Mg) := some ((-1000000013), μ)
noncomputable def fn_X7_copy_L35 (z1 : Int32) (z2 : Int32) (z3 : Int32) (z4 : Int32) (z5 : Int32)  (μ : Mg) : Option (Int32 × Mg) := some ((-1000000011), μ)
noncomputable def fn_X7_copy_L14 (z1 : Int32) (z2 : Int32) (z3 : Int32) (z4 : Int32) (z5 : Int32)  (μ : Mg) : Option (Int32 × Mg) := some ((-1000000001), μ)
noncomputable def fn_X7_copy (z1 : Int32) (z2 : Int32) (z3 : Int32) (z4 : Int32) (z5 : Int32) (μ : Mg) : Option (Int32 × Mg) := (o1 (fn_X7_isSheet z1) (fun y1 => (if y1 = 0 then ((fn_X7_copy_L14 z1 z2 z3 z4 z5)  μ) else (o1 (fn_X7_isSheet z3) (fun y8 => (if y8 = 0 then ((fn_X7_copy_L14 z1 z2 z3 z4 z5)  μ) else (if ¬ (z1 < 0 ∨ 4 ≤ z1.toNatClampNeg) then (if μ.2.2 4 z1.toNatClampNeg < 0 then ((fn_X7_copy_L35 z1 z2 z3 z4 z5)  μ) else (if ¬ (z3 < 0 ∨ 4 ≤ z3.toNatClampNeg) then (if 0 ≤ μ.2.2 4 z3.toNatClampNeg then (if μ.2.2 4 z1.toNatClampNeg = μ.2.2 4 z3.toNatClampNeg then (if z2 < 0 then ((fn_X7_copy_L106 z1 z2 z3 z4 z5)  μ) else (if z4 < 0 then ((fn_X7_copy_L106 z1 z2 z3 z4 z5)  μ) else (if z5 < 0 then ((fn_X7_copy_L106 z1 z2 z3 z4 z5)  μ) else (if 0 < (lg_cmp (Int32.toInt64 (z2) + Int32.toInt64 (z5)) (Int32.toInt64 (μ.2.2 5 z1.toNatClampNeg))) then ((fn_X7_copy_L106 z1 z2 z3 z4 z5)  μ) else (if (lg_cmp (Int32.toInt64 (z4) + Int32.toInt64 (z5)) (Int32.toInt64 (μ.2.2 5 z3.toNatClampNeg))) ≤ 0 then ((fn_X7_copy_L113 z1 z2 z3 z4 z5 (fn_X7_copy_L147 z1 z2 z3 z4 z5) 4000) (nI 0) μ) else ((fn_X7_copy_L106 z1 z2 z3 z4 z5)  μ)))))) else some ((-1000000012), μ)) else ((fn_X7_copy_L35 z1 z2 z3 z4 z5)  μ)) else none)) else none)))))))
noncomputable def fn_X7_lay_L187 (z1 : Int32) (z2 : Int32) (z3 : Int32) (v5 : Int32) (μ : Mg) : Option (Int32 × Mg) := some (v5, μ)
noncomputable def fn_X7_lay_L150 (z1 : Int32) (z2 : Int32) (z3 : Int32) (k187 : Int32 → Mg → Option (Int32 × Mg)) : Nat → Int32 → Int32 → Mg → Option (Int32 × Mg)
  | 0 => fun _ _ _ => none
  | fuel + 1 => fun (v5 : Int32) (v6 : Int32) (μ : Mg) => (if nI 24 ≤ v6 then (k187 v5 μ) else (if ¬ (((nI 24 * z3) + v6) < 0 ∨ 96 ≤ (((nI 24 * z3) + v6)).toNatClampNeg) then (if ¬ (((nI 24 * z1) + v6) < 0 ∨ 120 ≤ (((nI 24 * z1) + v6)).toNatClampNeg) then ((fn_X7_lay_L150 z1 z2 z3 k187 fuel) v5 ((v6 + nI 1)) ((μ.1, μ.2.1, mU μ.2.2 11 (upd (μ.2.2 11) (((nI 24 * z1) + v6)).toNatClampNeg (μ.2.2 6 (((nI 24 * z3) + v6)).toNatClampNeg))))) else none) else none))
noncomputable def fn_X7_lay_L129 (z1 : Int32) (z2 : Int32) (z3 : Int32) (v5 : Int32) (s0 : Int32) (μ : Mg) : Option (Int32 × Mg) := (if ¬ (z1 < 0 ∨ 5 ≤ z1.toNatClampNeg) then (if z2 = nI 2 then (if ¬ (z3 < 0 ∨ 4 ≤ z3.toNatClampNeg) then ((fn_X7_lay_L150 z1 z2 z3 (fn_X7_lay_L187 z1 z2 z3) 4000) v5 (nI 0) ((μ.1, μ.2.1, mU (mU μ.2.2 9 (upd (μ.2.2 9) z1.toNatClampNeg s0)) 10 (upd ((mU μ.2.2 9 (upd (μ.2.2 9) z1.toNatClampNeg s0)) 10) z1.toNatClampNeg ((mU μ.2.2 9 (upd (μ.2.2 9) z1.toNatClampNeg s0)) 5 z3.toNatClampNeg))))) else none) else ((fn_X7_lay_L187 z1 z2 z3) v5 ((μ.1, μ.2.1, mU μ.2.2 9 (upd (μ.2.2 9) z1.toNatClampNeg s0))))) else none)
noncomputable def fn_X7_lay_L109 (z1 : Int32) (z2 : Int32) (z3 : Int32) (v5 : Int32) (s0 : Int32) (μ : Mg) : Option (Int32 × Mg) := (if ¬ (z1 < 0 ∨ 5 ≤ z1.toNatClampNeg) then (if z2 = nI 1 then (ob (fn_X7_worth z3 ((μ.1, μ.2.1, mU μ.2.2 8 (upd (μ.2.2 8) z1.toNatClampNeg s0)))) (fun y122 τ122 => ((fn_X7_lay_L129 z1 z2 z3) v5 y122 τ122))) else ((fn_X7_lay_L129 z1 z2 z3) v5 (nI 0) ((μ.1, μ.2.1, mU μ.2.2 8 (upd (μ.2.2 8) z1.toNatClampNeg s0))))) else none)
noncomputable def fn_X7_lay_L74 (z1 : Int32) (z2 : Int32) (z3 : Int32)  (μ : Mg) : Option (Int32 × Mg) := (if ¬ (z1 < 0 ∨ 5 ≤ z1.toNatClampNeg) then (if z2 = nI 1 then (ob (fn_X7_of z3 (nI 0) ((μ.1, μ.2.1, mU μ.2.2 7 (upd (μ.2.2 7) z1.toNatClampNeg z2)))) (fun y102 τ102 => ((fn_X7_lay_L109 z1 z2 z3) (μ.2.2 7 z1.toNatClampNeg) y102 τ102))) else ((fn_X7_lay_L109 z1 z2 z3) (μ.2.2 7 z1.toNatClampNeg) z3 ((μ.1, μ.2.1, mU μ.2.2 7 (upd (μ.2.2 7) z1.toNatClampNeg z2))))) else none)
noncomputable def fn_X7_lay_L53 (z1 : Int32) (z2 : Int32) (z3 : Int32)  (μ : Mg) : Option (Int32 × Mg) := some ((-1000000001), μ)
noncomputable def fn_X7_lay_L39 (z1 : Int32) (z2 : Int32) (z3 : Int32) (s0 : Int32) (μ : Mg) : Option (Int32 × Mg) := (o1 (fn_X7_isSlot z1) (fun y42 => (if y42 = 0 then ((fn_X7_lay_L53 z1 z2 z3)  μ) else (if s0 = 0 then ((fn_X7_lay_L53 z1 z2 z3)  μ) else (if z2 = nI 2 then (if ¬ (z3 < 0 ∨ 4 ≤ z3.toNatClampNeg) then (if 0 ≤ μ.2.2 4 z3.toNatClampNeg then ((fn_X7_lay_L74 z1 z2 z3)  μ) else some ((-1000000011), μ)) else none) else ((fn_X7_lay_L74 z1 z2 z3)  μ))))))
noncomputable def fn_X7_lay_L38 (z1 : Int32) (z2 : Int32) (z3 : Int32)  (μ : Mg) : Option (Int32 × Mg) := ((fn_X7_lay_L39 z1 z2 z3) (nI 0) μ)
noncomputable def fn_X7_lay_L34 (z1 : Int32) (z2 : Int32) (z3 : Int32)  (μ : Mg) : Option (Int32 × Mg) := ((fn_X7_lay_L39 z1 z2 z3) (nI 1) μ)
noncomputable def fn_X7_lay_L22 (z1 : Int32) (z2 : Int32) (z3 : Int32)  (μ : Mg) : Option (Int32 × Mg) := (if z2 = nI 2 then (o1 (fn_X7_isSheet z3) (fun y28 => (if y28 = 0 then ((fn_X7_lay_L38 z1 z2 z3)  μ) else ((fn_X7_lay_L34 z1 z2 z3)  μ)))) else ((fn_X7_lay_L38 z1 z2 z3)  μ))
noncomputable def fn_X7_lay (z1 : Int32) (z2 : Int32) (z3 : Int32) (μ : Mg) : Option (Int32 × Mg) := (if z2 = 0 then ((fn_X7_lay_L34 z1 z2 z3)  μ) else (if z2 = nI 3 then ((fn_X7_lay_L34 z1 z2 z3)  μ) else (if z2 = nI 1 then (ob (fn_X7_isHouse z3 μ) (fun y16 τ16 => (if y16 = 0 then ((fn_X7_lay_L22 z1 z2 z3)  τ16) else ((fn_X7_lay_L34 z1 z2 z3)  τ16)))) else ((fn_X7_lay_L22 z1 z2 z3)  μ))))
noncomputable def fn_X7_ask_L69 (z1 : Int32) (z2 : Int32) (s0 : Int32) (μ : Mg) : Option (Int32 × Mg) := some (s0, μ)
noncomputable def fn_X7_ask_L67 (z1 : Int32) (z2 : Int32)  (μ : Mg) : Option (Int32 × Mg) := ((fn_X7_ask_L69 z1 z2) ((-1000000012)) μ)
noncomputable def fn_X7_ask_L19 (z1 : Int32) (z2 : Int32)  (μ : Mg) : Option (Int32 × Mg) := some ((-1000000001), μ)
noncomputable def fn_X7_ask (z1 : Int32) (z2 : Int32) (μ : Mg) : Option (Int32 × Mg) := (o1 (fn_X7_isSlot z1) (fun y1 => (if y1 = 0 then ((fn_X7_ask_L19 z1 z2)  μ) else (if (bI (inB z2 ((0)) ((5)))) = 0 then ((fn_X7_ask_L19 z1 z2)  μ) else (if ¬ (z1 < 0 ∨ 5 ≤ z1.toNatClampNeg) then (if μ.2.2 7 z1.toNatClampNeg = 0 then some ((-1000000011), μ) else (if μ.2.2 7 z1.toNatClampNeg = nI 1 then (o1 (fn_X7_isOf (μ.2.2 8 z1.toNatClampNeg) z2) (fun y52 => (if y52 = 0 then ((fn_X7_ask_L67 z1 z2)  μ) else ((fn_X7_ask_L69 z1 z2) (μ.2.2 9 z1.toNatClampNeg) μ)))) else ((fn_X7_ask_L67 z1 z2)  μ))) else none)))))
noncomputable def fn_X7_item_L84 (z1 : Int32) (z2 : Int32) (s0 : Int32) (μ : Mg) : Option (Int32 × Mg) := some (s0, μ)
noncomputable def fn_X7_item_L37 (z1 : Int32) (z2 : Int32) (s0 : Int32) (μ : Mg) : Option (Int32 × Mg) := some (s0, μ)
noncomputable def fn_X7_item (z1 : Int32) (z2 : Int32) (μ : Mg) : Option (Int32 × Mg) := (o1 (fn_X7_isSlot z1) (fun y1 => (if y1 = 0 then some ((-1000000001), μ) else (if ¬ (z1 < 0 ∨ 5 ≤ z1.toNatClampNeg) then (if μ.2.2 7 z1.toNatClampNeg = nI 2 then (if (bI (inB z2 ((0)) ((μ.2.2 10 z1.toNatClampNeg - nI 1)))) = 0 then some ((-1000000013), μ) else (if ¬ (((nI 24 * z1) + z2) < 0 ∨ 120 ≤ (((nI 24 * z1) + z2)).toNatClampNeg) then (if μ.2.2 11 (((nI 24 * z1) + z2)).toNatClampNeg = (-1000000005) then ((fn_X7_item_L84 z1 z2) ((-1000000012)) μ) else ((fn_X7_item_L84 z1 z2) (μ.2.2 11 (((nI 24 * z1) + z2)).toNatClampNeg) μ)) else none)) else (if μ.2.2 7 z1.toNatClampNeg = 0 then ((fn_X7_item_L37 z1 z2) ((-1000000011)) μ) else ((fn_X7_item_L37 z1 z2) ((-1000000012)) μ))) else none))))
noncomputable def fn_X7_rest_L55 (z1 : Int32) (z2 : Int32) (s0 : Int32) (μ : Mg) : Option (Int32 × Mg) := some (s0, μ)
noncomputable def fn_X7_rest_L37 (z1 : Int32) (z2 : Int32) (s0 : Int32) (μ : Mg) : Option (Int32 × Mg) := some (s0, μ)
noncomputable def fn_X7_rest (z1 : Int32) (z2 : Int32) (μ : Mg) : Option (Int32 × Mg) := (o1 (fn_X7_isSlot z1) (fun y1 => (if y1 = 0 then some ((-1000000001), μ) else (if ¬ (z1 < 0 ∨ 5 ≤ z1.toNatClampNeg) then (if μ.2.2 7 z1.toNatClampNeg = nI 3 then (if z2 = 0 then ((fn_X7_rest_L55 z1 z2) ((-1000000002)) μ) else (if ¬ z2 = 0 then ((fn_X7_rest_L55 z1 z2) ((μ.2.2 8 z1.toNatClampNeg - μ.2.2 8 z1.toNatClampNeg / z2 * z2)) μ) else none)) else (if μ.2.2 7 z1.toNatClampNeg = 0 then ((fn_X7_rest_L37 z1 z2) ((-1000000011)) μ) else ((fn_X7_rest_L37 z1 z2) ((-1000000012)) μ))) else none))))
noncomputable def fn_X7_tell (z1 : Int32) (μ : Mg) : Option (Int32 × Mg) := (if μ.1 31 = nI 60 then some ((-1000000003), μ) else (if ¬ (μ.1 31 < 0 ∨ 60 ≤ (μ.1 31).toNatClampNeg) then some ((upd μ.1 31 ((μ.1 31 + nI 1))) 31, (upd μ.1 31 ((μ.1 31 + nI 1)), μ.2.1, mU μ.2.2 30 (upd (μ.2.2 30) (μ.1 31).toNatClampNeg z1))) else none))
noncomputable def fn_X7_setAside_0_1_L21   (μ : Mg) : Option (Unit × Mg) := some ((), μ)
noncomputable def fn_X7_setAside_0_1_L2  (k21 : Mg → Option (Unit × Mg)) : Nat → Int32 → Mg → Option (Unit × Mg)
  | 0 => fun _ _ => none
  | fuel + 1 => fun (v3 : Int32) (μ : Mg) => (if nI 2869 ≤ v3 then (k21  μ) else (if ¬ (v3 < 0 ∨ 3069 ≤ v3.toNatClampNeg) then ((fn_X7_setAside_0_1_L2  k21 fuel) ((v3 + nI 1)) ((μ.1, μ.2.1, mU μ.2.2 1 (upd (μ.2.2 1) v3.toNatClampNeg (μ.2.1 v3.toNatClampNeg))))) else none))
noncomputable def fn_X7_setAside_0_1  (μ : Mg) : Option (Unit × Mg) := ((fn_X7_setAside_0_1_L2  (fn_X7_setAside_0_1_L21 ) 4000) (nI 0) μ)
noncomputable def fn_X7_setAside_1_0_L21   (μ : Mg) : Option (Unit × Mg) := some ((), μ)
noncomputable def fn_X7_setAside_1_0_L2  (k21 : Mg → Option (Unit × Mg)) : Nat → Int32 → Mg → Option (Unit × Mg)
  | 0 => fun _ _ => none
  | fuel + 1 => fun (v3 : Int32) (μ : Mg) => (if nI 2869 ≤ v3 then (k21  μ) else (if ¬ (v3 < 0 ∨ 3069 ≤ v3.toNatClampNeg) then ((fn_X7_setAside_1_0_L2  k21 fuel) ((v3 + nI 1)) ((μ.1, upd μ.2.1 v3.toNatClampNeg (μ.2.2 1 v3.toNatClampNeg), μ.2.2))) else none))
noncomputable def fn_X7_setAside_1_0  (μ : Mg) : Option (Unit × Mg) := ((fn_X7_setAside_1_0_L2  (fn_X7_setAside_1_0_L21 ) 4000) (nI 0) μ)
noncomputable def fn_X7_setAside_0_2_L21   (μ : Mg) : Option (Unit × Mg) := some ((), μ)
noncomputable def fn_X7_setAside_0_2_L2  (k21 : Mg → Option (Unit × Mg)) : Nat → Int32 → Mg → Option (Unit × Mg)
  | 0 => fun _ _ => none
  | fuel + 1 => fun (v3 : Int32) (μ : Mg) => (if nI 2869 ≤ v3 then (k21  μ) else (if ¬ (v3 < 0 ∨ 3069 ≤ v3.toNatClampNeg) then ((fn_X7_setAside_0_2_L2  k21 fuel) ((v3 + nI 1)) ((μ.1, μ.2.1, mU μ.2.2 2 (upd (μ.2.2 2) v3.toNatClampNeg (μ.2.1 v3.toNatClampNeg))))) else none))
noncomputable def fn_X7_setAside_0_2  (μ : Mg) : Option (Unit × Mg) := ((fn_X7_setAside_0_2_L2  (fn_X7_setAside_0_2_L21 ) 4000) (nI 0) μ)
noncomputable def fn_X7_setAside_2_0_L21   (μ : Mg) : Option (Unit × Mg) := some ((), μ)
noncomputable def fn_X7_setAside_2_0_L2  (k21 : Mg → Option (Unit × Mg)) : Nat → Int32 → Mg → Option (Unit × Mg)
  | 0 => fun _ _ => none
  | fuel + 1 => fun (v3 : Int32) (μ : Mg) => (if nI 2869 ≤ v3 then (k21  μ) else (if ¬ (v3 < 0 ∨ 3069 ≤ v3.toNatClampNeg) then ((fn_X7_setAside_2_0_L2  k21 fuel) ((v3 + nI 1)) ((μ.1, upd μ.2.1 v3.toNatClampNeg (μ.2.2 2 v3.toNatClampNeg), μ.2.2))) else none))
noncomputable def fn_X7_setAside_2_0  (μ : Mg) : Option (Unit × Mg) := ((fn_X7_setAside_2_0_L2  (fn_X7_setAside_2_0_L21 ) 4000) (nI 0) μ)
noncomputable def fn_X7_check_L191 (z1 : Int32) (s0 : Int32) (μ : Mg) : Option (Int32 × Mg) := some (s0, μ)
noncomputable def fn_X7_check_L187 (z1 : Int32) (v4 : Int32) (μ : Mg) : Option (Int32 × Mg) := ((fn_X7_check_L191 z1) ((nI 1 + v4)) μ)
noncomputable def fn_X7_check_L171 (z1 : Int32) (v2 : Int32) (v3 : Int32) (v4 : Int32) (μ : Mg) : Option (Int32 × Mg) := (if v4 = v2 then (if v4 = v3 then ((fn_X7_check_L191 z1) (nI 0) μ) else ((fn_X7_check_L187 z1) v4 μ)) else ((fn_X7_check_L187 z1) v4 μ))
noncomputable def fn_X7_check_L136 (z1 : Int32) (k171 : Int32 → Int32 → Int32 → Mg → Option (Int32 × Mg)) : Nat → Int32 → Int32 → Int32 → Mg → Option (Int32 × Mg)
  | 0 => fun _ _ _ _ => none
  | fuel + 1 => fun (v2 : Int32) (v3 : Int32) (v4 : Int32) (μ : Mg) => (if v2 ≤ v4 then (k171 v2 v3 v4 μ) else (if v3 ≤ v4 then (k171 v2 v3 v4 μ) else (if ¬ (v4 < 0 ∨ 60 ≤ v4.toNatClampNeg) then (if μ.2.2 30 v4.toNatClampNeg = μ.2.2 32 v4.toNatClampNeg then ((fn_X7_check_L136 z1 k171 fuel) v2 v3 ((v4 + nI 1)) μ) else (k171 v2 v3 v4 μ)) else none)))
noncomputable def fn_X7_check_L121 (z1 : Int32) (v2 : Int32) (v3 : Int32) (μ : Mg) : Option (Int32 × Mg) := (ob (fn_X7_setAside_2_0  μ) (fun y130 τ130 => ((fn_X7_check_L136 z1 (fn_X7_check_L171 z1) 4000) v2 v3 (nI 0) τ130)))
noncomputable def fn_X7_check_L64 (z1 : Int32) (k121 : Int32 → Int32 → Mg → Option (Int32 × Mg)) : Nat → Int32 → Int32 → Int32 → Mg → Option (Int32 × Mg)
  | 0 => fun _ _ _ _ => none
  | fuel + 1 => fun (v2 : Int32) (v3 : Int32) (v4 : Int32) (μ : Mg) => (if z1 ≤ v4 then (k121 v2 v3 μ) else (if ¬ (nI 2 < 0 ∨ 3069 ≤ (nI 2).toNatClampNeg) then (if nI 9999 ≤ μ.2.1 (nI 2).toNatClampNeg then (k121 v2 v3 μ) else (ob (fn_X7_goesOn  μ) (fun y83 τ83 => (ob (fn_X7_allStanding  τ83) (fun y92 τ92 => (o1 (fn_X7_manyIn y92) (fun y95 => (if ¬ (v3 < 0 ∨ 60 ≤ v3.toNatClampNeg) then (ob (fn_X7_allOf (nI 4) ((τ92.1, τ92.2.1, mU τ92.2.2 32 (upd (τ92.2.2 32) v3.toNatClampNeg y95)))) (fun y108 τ108 => (if ¬ ((v3 + nI 1) < 0 ∨ 60 ≤ ((v3 + nI 1)).toNatClampNeg) then ((fn_X7_check_L64 z1 k121 fuel) v2 ((v3 + nI 2)) ((v4 + nI 1)) ((τ108.1, τ108.2.1, mU τ108.2.2 32 (upd (τ108.2.2 32) ((v3 + nI 1)).toNatClampNeg y108)))) else none))) else none)))))))) else none))
noncomputable def fn_X7_check (z1 : Int32) (μ : Mg) : Option (Int32 × Mg) := (if (bI (inB z1 ((1)) ((30)))) = 0 then some ((-1000000001), (upd μ.1 31 (nI 0), μ.2.1, μ.2.2)) else (if (upd μ.1 31 (nI 0)) 3 = 0 then some ((-1000000002), (upd μ.1 31 (nI 0), μ.2.1, μ.2.2)) else (ob (fn_X7_setAside_0_2  ((upd μ.1 31 (nI 0), μ.2.1, μ.2.2))) (fun y44 τ44 => (ob (fn_X7_setAside_1_0  τ44) (fun y56 τ56 => ((fn_X7_check_L64 z1 (fn_X7_check_L121 z1) 4000) (μ.1 31) (nI 0) (nI 0) τ56)))))))
noncomputable def fn_X7_keep  (μ : Mg) : Option (Int32 × Mg) := (ob (fn_X7_setAside_0_1  ((upd μ.1 3 (nI 1), μ.2.1, μ.2.2))) (fun y14 τ14 => (if ¬ (nI 0 < 0 ∨ 3069 ≤ (nI 0).toNatClampNeg) then some (τ14.2.1 (nI 0).toNatClampNeg, τ14) else none)))
noncomputable def fn_X7_back  (μ : Mg) : Option (Int32 × Mg) := (if μ.1 3 = 0 then some ((-1000000002), μ) else (ob (fn_X7_setAside_1_0  μ) (fun y19 τ19 => (if ¬ (nI 0 < 0 ∨ 3069 ≤ (nI 0).toNatClampNeg) then some (τ19.2.1 (nI 0).toNatClampNeg, τ19) else none))))
noncomputable def fn_X7_count (z1 : Int32) (μ : Mg) : Option (Int32 × Mg) := (if z1 = nI 0 then (if ¬ (nI 0 < 0 ∨ 3069 ≤ (nI 0).toNatClampNeg) then some (μ.2.1 (nI 0).toNatClampNeg, μ) else none) else (if z1 = nI 1 then (ob (fn_X7_allStanding  μ) (fun y56 τ56 => (o1 (fn_X7_manyIn y56) (fun y59 => some (y59, τ56))))) else (if z1 = nI 2 then (if ¬ (nI 2 < 0 ∨ 3069 ≤ (nI 2).toNatClampNeg) then some (μ.2.1 (nI 2).toNatClampNeg, μ) else none) else (if z1 = nI 3 then (if ¬ (nI 4 < 0 ∨ 3069 ≤ (nI 4).toNatClampNeg) then some (μ.2.1 (nI 4).toNatClampNeg, μ) else none) else (if z1 = nI 4 then (if ¬ (nI 1 < 0 ∨ 3069 ≤ (nI 1).toNatClampNeg) then some (μ.2.1 (nI 1).toNatClampNeg, μ) else none) else (if z1 = nI 5 then some (μ.1 31, μ) else (if z1 = nI 6 then some (μ.1 16, μ) else (if z1 = nI 7 then (if ¬ (nI 5 < 0 ∨ 3069 ≤ (nI 5).toNatClampNeg) then some (μ.2.1 (nI 5).toNatClampNeg, μ) else none) else some ((-1000000001), μ)))))))))
theorem kX7_feed : mKV RX7 yX7_feed cX7_feed 6 (some .int) 3 := ⟨tIns_X7_feed, tSel_X7_feed, tIni_X7, tCod_X7_feed, by decide +kernel⟩
set_option maxHeartbeats 4000000 in
set_option maxRecDepth 100000 in
theorem ct_X7_feed (l : Launch) (D : va_G) (cy : Nat → ClassId) (Z : (Nat → Prop) → State → Heap → Prop) (hzo : zOK Z) {h0 : Nat} {a q : Nat → Nat} {C : (Nat → Int32) → (Nat → Int32) → (Nat → Nat → Int32) → (Nat → Nat → Int32) → va_W} (hC : mLens (cy 0) h0 a q C) (z1 : Int32) (z2 : Int32) (z3 : Int32) (μ μ2 : Mg) (x : Nat → Nat → Int32) (res : Int32) (h : fn_X7_feed z1 z2 z3 μ = some (res, μ2)) : GM l D cy Z yX7_feed (zW yX7_feed cX7_feed 6 (some .int)) { frames := 0, cells := 0, slots := 0, locals := 0 } [.ref h0, .int (z1), .int (z2), .int (z3)] (C μ.1 μ.2.1 μ.2.2 x) (fun rs w2 => rs = some (.int res) ∧ ∃ x2, w2 = C μ2.1 μ2.2.1 μ2.2.2 x2) 0 0 := by
  refine g_entry (cc := cX7_feed) (maxL := 6) (by decide) rfl (Nat.le_of_ble_eq_true rfl) ?_
  intro κ hN hX hR
  have hX : GX κ cy Z cX7_feed (Cond.code yX7_feed cX7_feed 6 (some .int) :: zT) RX7 { frames := 0, cells := 0, slots := 0, locals := 0 } := hX
  have J91 : ∀ (μ : Mg) (x : Nat → Nat → Int32) , fn_X7_feed_L91 z1 z2 z3  μ = some (res, μ2) → GW κ 0 0 (C μ.1 μ.2.1 μ.2.2 x) 91 [(0, .ref h0)] [] := by
    intro μ x h
    refine g_aload_n hX 0 rfl rfl dX7_feed_91 ?_
    refine m_getI hX hC 16 (by decide) rfl tFld_X7_200 dX7_feed_92 ?_
    exact g_retiP hR ⟨by rw [oi_1 h], x, by rw [← oi_2 h]⟩ dX7_feed_95
  have J47 : ∀ (slf : Int32 → Mg → Option (Int32 × Mg)) (hslf : ∀ (v4 : Int32) (μ : Mg) (x : Nat → Nat → Int32) , slf v4 μ = some (res, μ2) → GW κ 0 0 (C μ.1 μ.2.1 μ.2.2 x) 18 [(0, .ref h0), (1, .int (z1)), (2, .int (z2)), (3, .int (z3)), (4, .int (v4))] []) (k91 : Mg → Option (Int32 × Mg)) (hk91 : ∀ (μ : Mg) (x : Nat → Nat → Int32) , k91  μ = some (res, μ2) → GW κ 0 0 (C μ.1 μ.2.1 μ.2.2 x) 91 [(0, .ref h0)] []), ∀ (v4 : Int32) (s0 : Int32) (μ : Mg) (x : Nat → Nat → Int32) , fn_X7_feed_L47 z1 z2 z3 slf k91 v4 s0 μ = some (res, μ2) → GW κ 0 0 (C μ.1 μ.2.1 μ.2.2 x) 47 [(0, .ref h0), (1, .int (z1)), (2, .int (z2)), (3, .int (z3)), (4, .int (v4))] [.int (s0)] := by
    intro slf hslf k91 hk91 v4 s0 μ x h
    refine g_istore (lv2 := [(5, .int (s0)), (0, .ref h0), (1, .int (z1)), (2, .int (z2)), (3, .int (z3)), (4, .int (v4))]) hX 5 6 hN (by decide) rfl dX7_feed_47 ?_
    refine g_aload_n hX 1 rfl rfl dX7_feed_49 ?_
    refine m_getA hX hC 15 (by decide) rfl tFld_X7_52 dX7_feed_50 ?_
    refine g_aload_n hX 1 rfl rfl dX7_feed_53 ?_
    refine m_getI hX hC 16 (by decide) rfl tFld_X7_200 dX7_feed_54 ?_
    refine g_iload hX 0 rfl dX7_feed_57 ?_
    refine g_bipush hX (v := nI 24) (by decide) dX7_feed_59 ?_
    refine g_bipush hX (v := nI 8) (by decide) dX7_feed_61 ?_
    refine g_iload hX 5 rfl dX7_feed_63 ?_
    refine g_iconst hX (v := nI 4) rfl dX7_feed_65 ?_
    refine g_irem hX (by decide) dX7_feed_66 ?_
    refine g_imul hX dX7_feed_67 ?_
    refine g_isub hX dX7_feed_68 ?_
    refine g_ishr hX dX7_feed_69 ?_
    refine g_sipush hX (v := nI 255) (by decide) dX7_feed_70 ?_
    refine g_iand hX dX7_feed_73 ?_
    obtain ⟨g1, h⟩ := gd_some h
    refine m_ast hX hC 15 rfl g1 dX7_feed_74 ?_
    refine g_aload_n hX 1 rfl rfl dX7_feed_75 ?_
    refine g_dup hX rfl dX7_feed_76 ?_
    refine m_getI hX hC 16 (by decide) rfl tFld_X7_200 dX7_feed_77 ?_
    refine g_iconst hX (v := nI 1) rfl dX7_feed_80 ?_
    refine g_iadd hX dX7_feed_81 ?_
    refine m_putI (ty := .int) hX hC 16 (by decide) rfl rfl (by decide +kernel) rfl rfl tFld_X7_200 dX7_feed_82 ?_
    refine g_iinc (v := (v4 + nI 1)) (lv2 := [(4, .int ((v4 + nI 1))), (5, .int (s0)), (0, .ref h0), (1, .int (z1)), (2, .int (z2)), (3, .int (z3))]) hX 5 4 6 hN rfl rfl (by decide) rfl dX7_feed_85 ?_
    refine g_goto hX 18 (by decide) dX7_feed_88 ?_
    refine g_lv [2, 3, 4, 5, 0] rfl ?_
    exact hslf ((v4 + nI 1)) ((upd μ.1 16 ((μ.1 16 + nI 1)), μ.2.1, mU μ.2.2 15 (upd (μ.2.2 15) (μ.1 16).toNatClampNeg (((s0 >>> ((nI 24 - (nI 8 * (v4 - v4 / nI 4 * nI 4))) &&& 31)) &&& nI 255))))) x h
  have J18 : ∀ (k91 : Mg → Option (Int32 × Mg)) (hk91 : ∀ (μ : Mg) (x : Nat → Nat → Int32) , k91  μ = some (res, μ2) → GW κ 0 0 (C μ.1 μ.2.1 μ.2.2 x) 91 [(0, .ref h0)] []) (fuel : Nat), ∀ (v4 : Int32) (μ : Mg) (x : Nat → Nat → Int32) , fn_X7_feed_L18 z1 z2 z3 k91 fuel v4 μ = some (res, μ2) → GW κ 0 0 (C μ.1 μ.2.1 μ.2.2 x) 18 [(0, .ref h0), (1, .int (z1)), (2, .int (z2)), (3, .int (z3)), (4, .int (v4))] [] := by
    intro k91 hk91 fuel
    induction fuel with
    | zero => intro v4 μ x h; cases (show none = some (res, μ2) from h)
    | succ fuel ih =>
      intro v4 μ x h
      replace h : (if nI 12 ≤ v4 then (k91  μ) else (if nI 4 ≤ v4 then (if nI 8 ≤ v4 then ((fn_X7_feed_L47 z1 z2 z3 (fn_X7_feed_L18 z1 z2 z3 k91 fuel) k91) v4 z3 μ) else ((fn_X7_feed_L47 z1 z2 z3 (fn_X7_feed_L18 z1 z2 z3 k91 fuel) k91) v4 z2 μ)) else ((fn_X7_feed_L47 z1 z2 z3 (fn_X7_feed_L18 z1 z2 z3 k91 fuel) k91) v4 z1 μ))) = some (res, μ2) := h
      refine g_iload hX 4 rfl dX7_feed_18 ?_
      refine g_bipush hX (v := nI 12) (by decide) dX7_feed_20 ?_
      refine g_icmp_ge hX 91 (by decide) dX7_feed_22 (fun b22 => ?_) (fun b22 => ?_)
      · replace h := if_p b22 h
        refine g_lv [0] rfl ?_
        exact hk91  μ x h
      · replace h := if_n b22 h
        refine g_iload hX 4 rfl dX7_feed_25 ?_
        refine g_iconst hX (v := nI 4) rfl dX7_feed_27 ?_
        refine g_icmp_ge hX 35 (by decide) dX7_feed_28 (fun b28 => ?_) (fun b28 => ?_)
        · replace h := if_p b28 h
          refine g_iload hX 4 rfl dX7_feed_35 ?_
          refine g_bipush hX (v := nI 8) (by decide) dX7_feed_37 ?_
          refine g_icmp_ge hX 46 (by decide) dX7_feed_39 (fun b39 => ?_) (fun b39 => ?_)
          · replace h := if_p b39 h
            refine g_iload_n hX 3 rfl rfl dX7_feed_46 ?_
            exact (J47 (fn_X7_feed_L18 z1 z2 z3 k91 fuel) ih k91 hk91) v4 z3 μ x h
          · replace h := if_n b39 h
            refine g_iload_n hX 2 rfl rfl dX7_feed_42 ?_
            refine g_goto hX 47 (by decide) dX7_feed_43 ?_
            exact (J47 (fn_X7_feed_L18 z1 z2 z3 k91 fuel) ih k91 hk91) v4 z2 μ x h
        · replace h := if_n b28 h
          refine g_iload_n hX 1 rfl rfl dX7_feed_31 ?_
          refine g_goto hX 47 (by decide) dX7_feed_32 ?_
          exact (J47 (fn_X7_feed_L18 z1 z2 z3 k91 fuel) ih k91 hk91) v4 z1 μ x h
  show GW κ 0 0 (C μ.1 μ.2.1 μ.2.2 x) 0 [(0, .ref h0), (1, .int (z1)), (2, .int (z2)), (3, .int (z3))] []
  refine g_aload_n hX 0 rfl rfl dX7_feed_0 ?_
  refine m_getI hX hC 16 (by decide) rfl tFld_X7_200 dX7_feed_1 ?_
  refine g_bipush hX (v := nI 12) (by decide) dX7_feed_4 ?_
  refine g_iadd hX dX7_feed_6 ?_
  refine g_bipush hX (v := nI 96) (by decide) dX7_feed_7 ?_
  refine g_icmp_le hX 15 (by decide) dX7_feed_9 (fun b9 => ?_) (fun b9 => ?_)
  · replace h := if_p b9 h
    refine g_iconst hX (v := nI 0) rfl dX7_feed_15 ?_
    refine g_istore (lv2 := [(4, .int (nI 0)), (0, .ref h0), (1, .int (z1)), (2, .int (z2)), (3, .int (z3))]) hX 4 6 hN (by decide) rfl dX7_feed_16 ?_
    refine g_lv [1, 2, 3, 4, 0] rfl ?_
    exact (J18 (fn_X7_feed_L91 z1 z2 z3) J91 4000) (nI 0) μ x h
  · replace h := if_n b9 h
    refine g_ldc hX (v := -1000000003) (zu tCon_X7_101 rfl) dX7_feed_12 ?_
    exact g_retiP hR ⟨by rw [oi_1 h], x, by rw [← oi_2 h]⟩ dX7_feed_14
theorem kX7_trim : mKV RX7 yX7_trim cX7_trim 2 (some .int) 1 := ⟨tIns_X7_trim, tSel_X7_trim, tIni_X7, tCod_X7_trim, by decide +kernel⟩
set_option maxHeartbeats 4000000 in
set_option maxRecDepth 100000 in
theorem ct_X7_trim (l : Launch) (D : va_G) (cy : Nat → ClassId) (Z : (Nat → Prop) → State → Heap → Prop) (hzo : zOK Z) {h0 : Nat} {a q : Nat → Nat} {C : (Nat → Int32) → (Nat → Int32) → (Nat → Nat → Int32) → (Nat → Nat → Int32) → va_W} (hC : mLens (cy 0) h0 a q C) (z1 : Int32) (μ μ2 : Mg) (x : Nat → Nat → Int32) (res : Int32) (h : fn_X7_trim z1 μ = some (res, μ2)) : GM l D cy Z yX7_trim (zW yX7_trim cX7_trim 2 (some .int)) { frames := 1, cells := 0, slots := 0, locals := 25 } [.ref h0, .int (z1)] (C μ.1 μ.2.1 μ.2.2 x) (fun rs w2 => rs = some (.int res) ∧ ∃ x2, w2 = C μ2.1 μ2.2.1 μ2.2.2 x2) 0 0 := by
  refine g_entry (cc := cX7_trim) (maxL := 2) (by decide) rfl (Nat.le_of_ble_eq_true rfl) ?_
  intro κ hN hX hR
  have hX : GX κ cy Z cX7_trim (Cond.code yX7_trim cX7_trim 2 (some .int) :: zT) RX7 { frames := 1, cells := 0, slots := 0, locals := 25 } := hX
  show GW κ 0 0 (C μ.1 μ.2.1 μ.2.2 x) 0 [(0, .ref h0), (1, .int (z1))] []
  refine g_iload_n hX 1 rfl rfl dX7_trim_0 ?_
  refine g_i2l hX dX7_trim_1 ?_
  refine g_lconst hX (v := Int32.toInt64 (0)) (by decide) dX7_trim_2 ?_
  refine g_aload_n hX 0 rfl rfl dX7_trim_3 ?_
  refine m_getI hX hC 16 (by decide) rfl tFld_X7_200 dX7_trim_4 ?_
  refine g_i2l hX dX7_trim_7 ?_
  refine s_call hX hzo [.long (Int32.toInt64 (z1)), .long (Int32.toInt64 ((0))), .long (Int32.toInt64 (μ.1 16))] [] (c_isIn _ _ _ _ _ (z1) ((0)) (μ.1 16)) kX7_isIn tMet_X7_71 rfl rfl (Nat.le_of_ble_eq_true rfl) (Nat.le_of_ble_eq_true rfl) ⟨Nat.le_of_ble_eq_true rfl, Nat.le_of_ble_eq_true rfl⟩ rfl rfl (Nat.le_of_ble_eq_true rfl) dX7_trim_8 ?_
  refine g_if_ne hX 17 (by decide) dX7_trim_11 (fun b11 => ?_) (fun b11 => ?_)
  · replace h := if_n b11 h
    refine g_aload_n hX 0 rfl rfl dX7_trim_17 ?_
    refine g_iload_n hX 1 rfl rfl dX7_trim_18 ?_
    refine m_putI (ty := .int) hX hC 16 (by decide) rfl rfl (by decide +kernel) rfl rfl tFld_X7_200 dX7_trim_19 ?_
    refine g_iload_n hX 1 rfl rfl dX7_trim_22 ?_
    exact g_retiP hR ⟨by rw [oi_1 h], x, by rw [← oi_2 h]⟩ dX7_trim_23
  · replace h := if_p b11 h
    refine g_ldc hX (v := -1000000001) (zu tCon_X7_100 rfl) dX7_trim_14 ?_
    exact g_retiP hR ⟨by rw [oi_1 h], x, by rw [← oi_2 h]⟩ dX7_trim_16
theorem kX7_textTold : mKV RX7 yX7_textTold cX7_textTold 3 (some .int) 2 := ⟨tIns_X7_textTold, tSel_X7_textTold, tIni_X7, tCod_X7_textTold, by decide +kernel⟩
set_option maxHeartbeats 4000000 in
set_option maxRecDepth 100000 in
theorem ct_X7_textTold (l : Launch) (D : va_G) (cy : Nat → ClassId) (Z : (Nat → Prop) → State → Heap → Prop) (hzo : zOK Z) {h0 : Nat} {a q : Nat → Nat} {C : (Nat → Int32) → (Nat → Int32) → (Nat → Nat → Int32) → (Nat → Nat → Int32) → va_W} (hC : mLens (cy 0) h0 a q C) (z1 : Int32) (z2 : Int32) (μ μ2 : Mg) (x : Nat → Nat → Int32) (res : Int32) (h : fn_X7_textTold z1 z2 μ = some (res, μ2)) : GM l D cy Z yX7_textTold (zW yX7_textTold cX7_textTold 3 (some .int)) { frames := 2, cells := 0, slots := 0, locals := 46 } [.ref h0, .int (z1), .int (z2)] (C μ.1 μ.2.1 μ.2.2 x) (fun rs w2 => rs = some (.int res) ∧ ∃ x2, w2 = C μ2.1 μ2.2.1 μ2.2.2 x2) 0 0 := by
  refine g_entry (cc := cX7_textTold) (maxL := 3) (by decide) rfl (Nat.le_of_ble_eq_true rfl) ?_
  intro κ hN hX hR
  have hX : GX κ cy Z cX7_textTold (Cond.code yX7_textTold cX7_textTold 3 (some .int) :: zT) RX7 { frames := 2, cells := 0, slots := 0, locals := 46 } := hX
  have J18 : ∀ (μ : Mg) (x : Nat → Nat → Int32) , fn_X7_textTold_L18 z1 z2  μ = some (res, μ2) → GW κ 0 0 (C μ.1 μ.2.1 μ.2.2 x) 18 [] [] := by
    intro μ x h
    refine g_ldc hX (v := -1000000001) (zu tCon_X7_100 rfl) dX7_textTold_18 ?_
    exact g_retiP hR ⟨by rw [oi_1 h], x, by rw [← oi_2 h]⟩ dX7_textTold_20
  show GW κ 0 0 (C μ.1 μ.2.1 μ.2.2 x) 0 [(0, .ref h0), (1, .int (z1)), (2, .int (z2))] []
  refine g_aload_n hX 0 rfl rfl dX7_textTold_0 ?_
  refine g_iload_n hX 1 rfl rfl dX7_textTold_1 ?_
  obtain ⟨y2, τ2, e2, h⟩ := ob_some h
  refine m_call hX hzo hC [.int (z1)] [] (ct_X7_isText _ _ _ _ hzo hC z1 μ _ x _ e2) kX7_isText tMet_X7_292 rfl rfl (Nat.le_of_ble_eq_true rfl) (Nat.le_of_ble_eq_true rfl) ⟨Nat.le_of_ble_eq_true rfl, Nat.le_of_ble_eq_true rfl⟩ rfl (Nat.le_of_ble_eq_true rfl) dX7_textTold_2 ?_
  rintro _ _ ⟨rfl, x2, rfl⟩
  show GW κ 0 0 (C τ2.1 τ2.2.1 τ2.2.2 x2) 5 [(0, .ref h0), (1, .int (z1)), (2, .int (z2))] [.int (y2)]
  refine g_if_eq hX 18 (by decide) dX7_textTold_5 (fun b5 => ?_) (fun b5 => ?_)
  · replace h := if_p b5 h
    refine g_lv [] rfl ?_
    exact J18  τ2 x2 h
  · replace h := if_n b5 h
    refine g_iload_n hX 2 rfl rfl dX7_textTold_8 ?_
    refine g_i2l hX dX7_textTold_9 ?_
    refine g_lconst hX (v := Int32.toInt64 (0)) (by decide) dX7_textTold_10 ?_
    refine g_lconst hX (v := Int32.toInt64 (1)) (by decide) dX7_textTold_11 ?_
    refine s_call hX hzo [.long (Int32.toInt64 (z2)), .long (Int32.toInt64 ((0))), .long (Int32.toInt64 ((1)))] [] (c_isIn _ _ _ _ _ (z2) ((0)) ((1))) kX7_isIn tMet_X7_71 rfl rfl (Nat.le_of_ble_eq_true rfl) (Nat.le_of_ble_eq_true rfl) ⟨Nat.le_of_ble_eq_true rfl, Nat.le_of_ble_eq_true rfl⟩ rfl rfl (Nat.le_of_ble_eq_true rfl) dX7_textTold_12 ?_
    refine g_if_ne hX 21 (by decide) dX7_textTold_15 (fun b15 => ?_) (fun b15 => ?_)
    · replace h := if_n b15 h
      refine g_aload_n hX 0 rfl rfl dX7_textTold_21 ?_
      refine m_getA hX hC 0 (by decide) rfl tFld_X7_7 dX7_textTold_22 ?_
      refine g_aload_n hX 0 rfl rfl dX7_textTold_25 ?_
      refine g_iload_n hX 1 rfl rfl dX7_textTold_26 ?_
      obtain ⟨y27, τ27, e27, h⟩ := ob_some h
      refine m_call hX hzo hC [.int (z1)] [.ref (a 0)] (ct_X7_textAt _ _ _ _ hzo hC z1 τ2 _ x2 _ e27) kX7_textAt tMet_X7_283 rfl rfl (Nat.le_of_ble_eq_true rfl) (Nat.le_of_ble_eq_true rfl) ⟨Nat.le_of_ble_eq_true rfl, Nat.le_of_ble_eq_true rfl⟩ rfl (Nat.le_of_ble_eq_true rfl) dX7_textTold_27 ?_
      rintro _ _ ⟨rfl, x27, rfl⟩
      show GW κ 0 0 (C τ27.1 τ27.2.1 τ27.2.2 x27) 30 [(0, .ref h0), (1, .int (z1)), (2, .int (z2))] [.int (y27), .ref (a 0)]
      refine g_iload_n hX 2 rfl rfl dX7_textTold_30 ?_
      refine g_iadd hX dX7_textTold_31 ?_
      obtain ⟨g1, h⟩ := gd_some h
      refine m0_ald hX hC g1 dX7_textTold_32 ?_
      exact g_retiP hR ⟨by rw [oi_1 h], x27, by rw [← oi_2 h]⟩ dX7_textTold_33
    · replace h := if_p b15 h
      refine g_lv [] rfl ?_
      exact J18  τ2 x2 h
theorem kX7_why : mKV RX7 yX7_why cX7_why 2 (some .int) 1 := ⟨tIns_X7_why, tSel_X7_why, tIni_X7, tCod_X7_why, by decide +kernel⟩
set_option maxHeartbeats 4000000 in
set_option maxRecDepth 100000 in
theorem ct_X7_why (l : Launch) (D : va_G) (cy : Nat → ClassId) (Z : (Nat → Prop) → State → Heap → Prop) (hzo : zOK Z) {h0 : Nat} {a q : Nat → Nat} {C : (Nat → Int32) → (Nat → Int32) → (Nat → Nat → Int32) → (Nat → Nat → Int32) → va_W} (hC : mLens (cy 0) h0 a q C) (z1 : Int32) (μ μ2 : Mg) (x : Nat → Nat → Int32) (res : Int32) (h : fn_X7_why z1 μ = some (res, μ2)) : GM l D cy Z yX7_why (zW yX7_why cX7_why 2 (some .int)) { frames := 2, cells := 0, slots := 0, locals := 44 } [.ref h0, .int (z1)] (C μ.1 μ.2.1 μ.2.2 x) (fun rs w2 => rs = some (.int res) ∧ ∃ x2, w2 = C μ2.1 μ2.2.1 μ2.2.2 x2) 0 0 := by
  refine g_entry (cc := cX7_why) (maxL := 2) (by decide) rfl (Nat.le_of_ble_eq_true rfl) ?_
  intro κ hN hX hR
  have hX : GX κ cy Z cX7_why (Cond.code yX7_why cX7_why 2 (some .int) :: zT) RX7 { frames := 2, cells := 0, slots := 0, locals := 44 } := hX
  have J25 : ∀ (s0 : Int32) (μ : Mg) (x : Nat → Nat → Int32) , fn_X7_why_L25 z1 s0 μ = some (res, μ2) → GW κ 0 0 (C μ.1 μ.2.1 μ.2.2 x) 25 [] [.int (s0)] := by
    intro s0 μ x h
    exact g_retiP hR ⟨by rw [oi_1 h], x, by rw [← oi_2 h]⟩ dX7_why_25
  show GW κ 0 0 (C μ.1 μ.2.1 μ.2.2 x) 0 [(0, .ref h0), (1, .int (z1))] []
  refine g_iload_n hX 1 rfl rfl dX7_why_0 ?_
  refine g_i2l hX dX7_why_1 ?_
  refine g_lconst hX (v := Int32.toInt64 (0)) (by decide) dX7_why_2 ?_
  refine g_ldc2 hX (v := Int32.toInt64 (2)) (zu tCoL_X7_295 rfl) dX7_why_3 ?_
  refine s_call hX hzo [.long (Int32.toInt64 (z1)), .long (Int32.toInt64 ((0))), .long (Int32.toInt64 ((2)))] [] (c_isIn _ _ _ _ _ (z1) ((0)) ((2))) kX7_isIn tMet_X7_71 rfl rfl (Nat.le_of_ble_eq_true rfl) (Nat.le_of_ble_eq_true rfl) ⟨Nat.le_of_ble_eq_true rfl, Nat.le_of_ble_eq_true rfl⟩ rfl rfl (Nat.le_of_ble_eq_true rfl) dX7_why_6 ?_
  refine g_if_eq hX 23 (by decide) dX7_why_9 (fun b9 => ?_) (fun b9 => ?_)
  · replace h := if_p b9 h
    refine g_ldc hX (v := -1000000001) (zu tCon_X7_100 rfl) dX7_why_23 ?_
    refine g_lv [] rfl ?_
    exact J25 ((-1000000001)) μ x h
  · replace h := if_n b9 h
    refine g_aload_n hX 0 rfl rfl dX7_why_12 ?_
    refine g_iload_n hX 1 rfl rfl dX7_why_13 ?_
    obtain ⟨y14, τ14, e14, h⟩ := ob_some h
    refine m_call hX hzo hC [.int (z1)] [] (ct_X7_counts _ _ _ _ hzo hC z1 μ _ x _ e14) kX7_counts tMet_X7_109 rfl rfl (Nat.le_of_ble_eq_true rfl) (Nat.le_of_ble_eq_true rfl) ⟨Nat.le_of_ble_eq_true rfl, Nat.le_of_ble_eq_true rfl⟩ rfl (Nat.le_of_ble_eq_true rfl) dX7_why_14 ?_
    rintro _ _ ⟨rfl, x14, rfl⟩
    show GW κ 0 0 (C τ14.1 τ14.2.1 τ14.2.2 x14) 17 [(0, .ref h0), (1, .int (z1))] [.int (y14)]
    obtain ⟨y17, e17, h⟩ := o1_some h
    refine s_call hX hzo [.int (y14)] [] (ct_X7_orNone _ _ _ _ hzo _ y14 _ e17) kX7_orNone tMet_X7_190 rfl rfl (Nat.le_of_ble_eq_true rfl) (Nat.le_of_ble_eq_true rfl) ⟨Nat.le_of_ble_eq_true rfl, Nat.le_of_ble_eq_true rfl⟩ rfl rfl (Nat.le_of_ble_eq_true rfl) dX7_why_17 ?_
    refine g_goto hX 25 (by decide) dX7_why_20 ?_
    refine g_lv [] rfl ?_
    exact J25 y17 τ14 x14 h
theorem kX7_sheet : mKV RX7 yX7_sheet cX7_sheet 5 (some .int) 3 := ⟨tIns_X7_sheet, tSel_X7_sheet, tIni_X7, tCod_X7_sheet, by decide +kernel⟩
set_option maxHeartbeats 4000000 in
set_option maxRecDepth 100000 in
theorem ct_X7_sheet (l : Launch) (D : va_G) (cy : Nat → ClassId) (Z : (Nat → Prop) → State → Heap → Prop) (hzo : zOK Z) {h0 : Nat} {a q : Nat → Nat} {C : (Nat → Int32) → (Nat → Int32) → (Nat → Nat → Int32) → (Nat → Nat → Int32) → va_W} (hC : mLens (cy 0) h0 a q C) (z1 : Int32) (z2 : Int32) (z3 : Int32) (μ μ2 : Mg) (x : Nat → Nat → Int32) (res : Int32) (h : fn_X7_sheet z1 z2 z3 μ = some (res, μ2)) : GM l D cy Z yX7_sheet (zW yX7_sheet cX7_sheet 5 (some .int)) { frames := 2, cells := 0, slots := 0, locals := 45 } [.ref h0, .int (z1), .int (z2), .int (z3)] (C μ.1 μ.2.1 μ.2.2 x) (fun rs w2 => rs = some (.int res) ∧ ∃ x2, w2 = C μ2.1 μ2.2.1 μ2.2.2 x2) 0 0 := by
  refine g_entry (cc := cX7_sheet) (maxL := 5) (by decide) rfl (Nat.le_of_ble_eq_true rfl) ?_
  intro κ hN hX hR
  have hX : GX κ cy Z cX7_sheet (Cond.code yX7_sheet cX7_sheet 5 (some .int) :: zT) RX7 { frames := 2, cells := 0, slots := 0, locals := 45 } := hX
  have J95 : ∀ (μ : Mg) (x : Nat → Nat → Int32) , fn_X7_sheet_L95 z1 z2 z3  μ = some (res, μ2) → GW κ 0 0 (C μ.1 μ.2.1 μ.2.2 x) 95 [(0, .ref h0), (1, .int (z1))] [] := by
    intro μ x h
    refine g_aload_n hX 0 rfl rfl dX7_sheet_95 ?_
    refine m_getA hX hC 5 (by decide) rfl tFld_X7_22 dX7_sheet_96 ?_
    refine g_iload_n hX 1 rfl rfl dX7_sheet_99 ?_
    obtain ⟨g1, h⟩ := gd_some h
    refine m_ald hX hC 5 rfl g1 dX7_sheet_100 ?_
    exact g_retiP hR ⟨by rw [oi_1 h], x, by rw [← oi_2 h]⟩ dX7_sheet_101
  have J69 : ∀ (k95 : Mg → Option (Int32 × Mg)) (hk95 : ∀ (μ : Mg) (x : Nat → Nat → Int32) , k95  μ = some (res, μ2) → GW κ 0 0 (C μ.1 μ.2.1 μ.2.2 x) 95 [(0, .ref h0), (1, .int (z1))] []) (fuel : Nat), ∀ (v4 : Int32) (μ : Mg) (x : Nat → Nat → Int32) , fn_X7_sheet_L69 z1 z2 z3 k95 fuel v4 μ = some (res, μ2) → GW κ 0 0 (C μ.1 μ.2.1 μ.2.2 x) 69 [(0, .ref h0), (1, .int (z1)), (4, .int (v4))] [] := by
    intro k95 hk95 fuel
    induction fuel with
    | zero => intro v4 μ x h; cases (show none = some (res, μ2) from h)
    | succ fuel ih =>
      intro v4 μ x h
      replace h : (if nI 24 ≤ v4 then (k95  μ) else (if ¬ (((nI 24 * z1) + v4) < 0 ∨ 96 ≤ (((nI 24 * z1) + v4)).toNatClampNeg) then ((fn_X7_sheet_L69 z1 z2 z3 k95 fuel) ((v4 + nI 1)) ((μ.1, μ.2.1, mU μ.2.2 6 (upd (μ.2.2 6) (((nI 24 * z1) + v4)).toNatClampNeg (nI 0))))) else none)) = some (res, μ2) := h
      refine g_iload hX 2 rfl dX7_sheet_69 ?_
      refine g_bipush hX (v := nI 24) (by decide) dX7_sheet_71 ?_
      refine g_icmp_ge hX 95 (by decide) dX7_sheet_73 (fun b73 => ?_) (fun b73 => ?_)
      · replace h := if_p b73 h
        refine g_lv [0, 1] rfl ?_
        exact hk95  μ x h
      · replace h := if_n b73 h
        refine g_aload_n hX 0 rfl rfl dX7_sheet_76 ?_
        refine m_getA hX hC 6 (by decide) rfl tFld_X7_25 dX7_sheet_77 ?_
        refine g_bipush hX (v := nI 24) (by decide) dX7_sheet_80 ?_
        refine g_iload_n hX 1 rfl rfl dX7_sheet_82 ?_
        refine g_imul hX dX7_sheet_83 ?_
        refine g_iload hX 2 rfl dX7_sheet_84 ?_
        refine g_iadd hX dX7_sheet_86 ?_
        refine g_iconst hX (v := nI 0) rfl dX7_sheet_87 ?_
        obtain ⟨g2, h⟩ := gd_some h
        refine m_ast hX hC 6 rfl g2 dX7_sheet_88 ?_
        refine g_iinc (v := (v4 + nI 1)) (lv2 := [(4, .int ((v4 + nI 1))), (0, .ref h0), (1, .int (z1))]) hX 2 4 5 hN rfl rfl (by decide) rfl dX7_sheet_89 ?_
        refine g_goto hX 69 (by decide) dX7_sheet_92 ?_
        refine g_lv [1, 2, 0] rfl ?_
        exact ih ((v4 + nI 1)) ((μ.1, μ.2.1, mU μ.2.2 6 (upd (μ.2.2 6) (((nI 24 * z1) + v4)).toNatClampNeg (nI 0)))) x h
  have J65 : ∀ (s0 : Int32) (μ : Mg) (x : Nat → Nat → Int32) , fn_X7_sheet_L65 z1 z2 z3 s0 μ = some (res, μ2) → GW κ 0 0 (C μ.1 μ.2.1 μ.2.2 x) 65 [(0, .ref h0), (1, .int (z1))] [.int (s0), .int (z1), .ref (a 5)] := by
    intro s0 μ x h
    obtain ⟨g3, h⟩ := gd_some h
    refine m_ast hX hC 5 rfl g3 dX7_sheet_65 ?_
    refine g_iconst hX (v := nI 0) rfl dX7_sheet_66 ?_
    refine g_istore (lv2 := [(4, .int (nI 0)), (0, .ref h0), (1, .int (z1))]) hX 4 5 hN (by decide) rfl dX7_sheet_67 ?_
    refine g_lv [1, 2, 0] rfl ?_
    exact (J69 (fn_X7_sheet_L95 z1 z2 z3) J95 4000) (nI 0) ((μ.1, μ.2.1, mU μ.2.2 5 (upd (μ.2.2 5) z1.toNatClampNeg s0))) x h
  have J44 : ∀ (μ : Mg) (x : Nat → Nat → Int32) , fn_X7_sheet_L44 z1 z2 z3  μ = some (res, μ2) → GW κ 0 0 (C μ.1 μ.2.1 μ.2.2 x) 44 [(0, .ref h0), (1, .int (z1)), (2, .int (z2)), (3, .int (z3))] [] := by
    intro μ x h
    refine g_aload_n hX 0 rfl rfl dX7_sheet_44 ?_
    refine m_getA hX hC 4 (by decide) rfl tFld_X7_19 dX7_sheet_45 ?_
    refine g_iload_n hX 1 rfl rfl dX7_sheet_48 ?_
    refine g_iload_n hX 2 rfl rfl dX7_sheet_49 ?_
    obtain ⟨g4, h⟩ := gd_some h
    refine m_ast hX hC 4 rfl g4 dX7_sheet_50 ?_
    refine g_aload_n hX 0 rfl rfl dX7_sheet_51 ?_
    refine m_getA hX hC 5 (by decide) rfl tFld_X7_22 dX7_sheet_52 ?_
    refine g_iload_n hX 1 rfl rfl dX7_sheet_55 ?_
    refine g_iload_n hX 2 rfl rfl dX7_sheet_56 ?_
    refine g_if_ge hX 64 (by decide) dX7_sheet_57 (fun b57 => ?_) (fun b57 => ?_)
    · replace h := if_p b57 h
      refine g_iload_n hX 3 rfl rfl dX7_sheet_64 ?_
      refine g_lv [0, 1] rfl ?_
      exact J65 z3 ((μ.1, μ.2.1, mU μ.2.2 4 (upd (μ.2.2 4) z1.toNatClampNeg z2))) x h
    · replace h := if_n b57 h
      refine g_iconst hX (v := nI 0) rfl dX7_sheet_60 ?_
      refine g_goto hX 65 (by decide) dX7_sheet_61 ?_
      refine g_lv [0, 1] rfl ?_
      exact J65 (nI 0) ((μ.1, μ.2.1, mU μ.2.2 4 (upd (μ.2.2 4) z1.toNatClampNeg z2))) x h
  have J32 : ∀ (μ : Mg) (x : Nat → Nat → Int32) , fn_X7_sheet_L32 z1 z2 z3  μ = some (res, μ2) → GW κ 0 0 (C μ.1 μ.2.1 μ.2.2 x) 32 [(0, .ref h0), (1, .int (z1)), (2, .int (z2)), (3, .int (z3))] [] := by
    intro μ x h
    refine g_iload_n hX 2 rfl rfl dX7_sheet_32 ?_
    refine g_if_lt hX 44 (by decide) dX7_sheet_33 (fun b33 => ?_) (fun b33 => ?_)
    · replace h := if_p b33 h
      exact J44  μ x h
    · replace h := if_n b33 h
      refine g_iload_n hX 3 rfl rfl dX7_sheet_36 ?_
      refine g_if_ge hX 44 (by decide) dX7_sheet_37 (fun b37 => ?_) (fun b37 => ?_)
      · replace h := if_p b37 h
        exact J44  μ x h
      · replace h := if_n b37 h
        refine g_ldcw hX (v := -1000000014) (zu tCon_X7_307 rfl) dX7_sheet_40 ?_
        exact g_retiP hR ⟨by rw [oi_1 h], x, by rw [← oi_2 h]⟩ dX7_sheet_43
  have J29 : ∀ (μ : Mg) (x : Nat → Nat → Int32) , fn_X7_sheet_L29 z1 z2 z3  μ = some (res, μ2) → GW κ 0 0 (C μ.1 μ.2.1 μ.2.2 x) 29 [] [] := by
    intro μ x h
    refine g_ldc hX (v := -1000000001) (zu tCon_X7_100 rfl) dX7_sheet_29 ?_
    exact g_retiP hR ⟨by rw [oi_1 h], x, by rw [← oi_2 h]⟩ dX7_sheet_31
  show GW κ 0 0 (C μ.1 μ.2.1 μ.2.2 x) 0 [(0, .ref h0), (1, .int (z1)), (2, .int (z2)), (3, .int (z3))] []
  refine g_iload_n hX 1 rfl rfl dX7_sheet_0 ?_
  obtain ⟨y1, e1, h⟩ := o1_some h
  refine s_call hX hzo [.int (z1)] [] (ct_X7_isSheet _ _ _ _ hzo _ z1 _ e1) kX7_isSheet tMet_X7_302 rfl rfl (Nat.le_of_ble_eq_true rfl) (Nat.le_of_ble_eq_true rfl) ⟨Nat.le_of_ble_eq_true rfl, Nat.le_of_ble_eq_true rfl⟩ rfl rfl (Nat.le_of_ble_eq_true rfl) dX7_sheet_1 ?_
  refine g_if_eq hX 29 (by decide) dX7_sheet_4 (fun b4 => ?_) (fun b4 => ?_)
  · replace h := if_p b4 h
    refine g_lv [] rfl ?_
    exact J29  μ x h
  · replace h := if_n b4 h
    refine g_iload_n hX 2 rfl rfl dX7_sheet_7 ?_
    refine g_i2l hX dX7_sheet_8 ?_
    refine g_ldc2 hX (v := Int32.toInt64 (-1)) (zu tCoL_X7_305 rfl) dX7_sheet_9 ?_
    refine g_lconst hX (v := Int32.toInt64 (1)) (by decide) dX7_sheet_12 ?_
    refine s_call hX hzo [.long (Int32.toInt64 (z2)), .long (Int32.toInt64 ((-1))), .long (Int32.toInt64 ((1)))] [] (c_isIn _ _ _ _ _ (z2) ((-1)) ((1))) kX7_isIn tMet_X7_71 rfl rfl (Nat.le_of_ble_eq_true rfl) (Nat.le_of_ble_eq_true rfl) ⟨Nat.le_of_ble_eq_true rfl, Nat.le_of_ble_eq_true rfl⟩ rfl rfl (Nat.le_of_ble_eq_true rfl) dX7_sheet_13 ?_
    refine g_if_eq hX 29 (by decide) dX7_sheet_16 (fun b16 => ?_) (fun b16 => ?_)
    · replace h := if_p b16 h
      refine g_lv [] rfl ?_
      exact J29  μ x h
    · replace h := if_n b16 h
      refine g_iload_n hX 2 rfl rfl dX7_sheet_19 ?_
      refine g_if_lt hX 32 (by decide) dX7_sheet_20 (fun b20 => ?_) (fun b20 => ?_)
      · replace h := if_p b20 h
        exact J32  μ x h
      · replace h := if_n b20 h
        refine g_iload_n hX 3 rfl rfl dX7_sheet_23 ?_
        refine g_bipush hX (v := nI 24) (by decide) dX7_sheet_24 ?_
        refine g_icmp_le hX 32 (by decide) dX7_sheet_26 (fun b26 => ?_) (fun b26 => ?_)
        · replace h := if_p b26 h
          exact J32  μ x h
        · replace h := if_n b26 h
          refine g_lv [] rfl ?_
          exact J29  μ x h
theorem kX7_mark : mKV RX7 yX7_mark cX7_mark 4 (some .int) 3 := ⟨tIns_X7_mark, tSel_X7_mark, tIni_X7, tCod_X7_mark, by decide +kernel⟩
set_option maxHeartbeats 4000000 in
set_option maxRecDepth 100000 in
theorem ct_X7_mark (l : Launch) (D : va_G) (cy : Nat → ClassId) (Z : (Nat → Prop) → State → Heap → Prop) (hzo : zOK Z) {h0 : Nat} {a q : Nat → Nat} {C : (Nat → Int32) → (Nat → Int32) → (Nat → Nat → Int32) → (Nat → Nat → Int32) → va_W} (hC : mLens (cy 0) h0 a q C) (z1 : Int32) (z2 : Int32) (z3 : Int32) (μ μ2 : Mg) (x : Nat → Nat → Int32) (res : Int32) (h : fn_X7_mark z1 z2 z3 μ = some (res, μ2)) : GM l D cy Z yX7_mark (zW yX7_mark cX7_mark 4 (some .int)) { frames := 2, cells := 0, slots := 0, locals := 45 } [.ref h0, .int (z1), .int (z2), .int (z3)] (C μ.1 μ.2.1 μ.2.2 x) (fun rs w2 => rs = some (.int res) ∧ ∃ x2, w2 = C μ2.1 μ2.2.1 μ2.2.2 x2) 0 0 := by
  refine g_entry (cc := cX7_mark) (maxL := 4) (by decide) rfl (Nat.le_of_ble_eq_true rfl) ?_
  intro κ hN hX hR
  have hX : GX κ cy Z cX7_mark (Cond.code yX7_mark cX7_mark 4 (some .int) :: zT) RX7 { frames := 2, cells := 0, slots := 0, locals := 45 } := hX
  have J126 : ∀ (s0 : Int32) (μ : Mg) (x : Nat → Nat → Int32) , fn_X7_mark_L126 z1 z2 z3 s0 μ = some (res, μ2) → GW κ 0 0 (C μ.1 μ.2.1 μ.2.2 x) 126 [] [.int (s0), .int (((nI 24 * z1) + z2)), .ref (a 6)] := by
    intro s0 μ x h
    obtain ⟨g1, h⟩ := gd_some h
    refine m_ast hX hC 6 rfl g1 dX7_mark_126 ?_
    refine g_iconst hX (v := nI 1) rfl dX7_mark_127 ?_
    exact g_retiP hR ⟨by rw [oi_1 h], x, by rw [← oi_2 h]⟩ dX7_mark_128
  have J96 : ∀ (μ : Mg) (x : Nat → Nat → Int32) , fn_X7_mark_L96 z1 z2 z3  μ = some (res, μ2) → GW κ 0 0 (C μ.1 μ.2.1 μ.2.2 x) 96 [(0, .ref h0), (1, .int (z1)), (2, .int (z2)), (3, .int (z3))] [] := by
    intro μ x h
    refine g_aload_n hX 0 rfl rfl dX7_mark_96 ?_
    refine m_getA hX hC 6 (by decide) rfl tFld_X7_25 dX7_mark_97 ?_
    refine g_bipush hX (v := nI 24) (by decide) dX7_mark_100 ?_
    refine g_iload_n hX 1 rfl rfl dX7_mark_102 ?_
    refine g_imul hX dX7_mark_103 ?_
    refine g_iload_n hX 2 rfl rfl dX7_mark_104 ?_
    refine g_iadd hX dX7_mark_105 ?_
    refine g_aload_n hX 0 rfl rfl dX7_mark_106 ?_
    refine m_getA hX hC 4 (by decide) rfl tFld_X7_19 dX7_mark_107 ?_
    refine g_iload_n hX 1 rfl rfl dX7_mark_110 ?_
    obtain ⟨g2, h⟩ := gd_some h
    refine m_ald hX hC 4 rfl g2 dX7_mark_111 ?_
    refine g_if_ne hX 125 (by decide) dX7_mark_112 (fun b112 => ?_) (fun b112 => ?_)
    · replace h := if_n b112 h
      refine g_iload_n hX 3 rfl rfl dX7_mark_125 ?_
      refine g_lv [] rfl ?_
      exact J126 z3 μ x h
    · replace h := if_p b112 h
      refine g_iload_n hX 3 rfl rfl dX7_mark_115 ?_
      refine g_bipush hX (v := nI 16) (by decide) dX7_mark_116 ?_
      refine g_ishl hX dX7_mark_118 ?_
      refine g_bipush hX (v := nI 16) (by decide) dX7_mark_119 ?_
      refine g_ishr hX dX7_mark_121 ?_
      refine g_goto hX 126 (by decide) dX7_mark_122 ?_
      refine g_lv [] rfl ?_
      exact J126 (((z3 <<< (nI 16 &&& 31)) >>> (nI 16 &&& 31))) μ x h
  have J63 : ∀ (μ : Mg) (x : Nat → Nat → Int32) , fn_X7_mark_L63 z1 z2 z3  μ = some (res, μ2) → GW κ 0 0 (C μ.1 μ.2.1 μ.2.2 x) 63 [(0, .ref h0), (1, .int (z1)), (2, .int (z2)), (3, .int (z3))] [] := by
    intro μ x h
    refine g_aload_n hX 0 rfl rfl dX7_mark_63 ?_
    refine m_getA hX hC 4 (by decide) rfl tFld_X7_19 dX7_mark_64 ?_
    refine g_iload_n hX 1 rfl rfl dX7_mark_67 ?_
    obtain ⟨g3, h⟩ := gd_some h
    refine m_ald hX hC 4 rfl g3 dX7_mark_68 ?_
    refine g_iconst hX (v := nI 1) rfl dX7_mark_69 ?_
    refine g_icmp_ne hX 96 (by decide) dX7_mark_70 (fun b70 => ?_) (fun b70 => ?_)
    · replace h := if_n b70 h
      exact J96  μ x h
    · replace h := if_p b70 h
      refine g_iload_n hX 3 rfl rfl dX7_mark_73 ?_
      refine g_ldc hX (v := -1000000005) (zu tCon_X7_70 rfl) dX7_mark_74 ?_
      refine g_icmp_eq hX 96 (by decide) dX7_mark_76 (fun b76 => ?_) (fun b76 => ?_)
      · replace h := if_p b76 h
        exact J96  μ x h
      · replace h := if_n b76 h
        refine g_iload_n hX 3 rfl rfl dX7_mark_79 ?_
        refine g_i2l hX dX7_mark_80 ?_
        refine g_ldc2 hX (v := Int32.toInt64 (-99999)) (zu tCoL_X7_310 rfl) dX7_mark_81 ?_
        refine g_ldc2 hX (v := Int32.toInt64 (99999)) (zu tCoL_X7_312 rfl) dX7_mark_84 ?_
        refine s_call hX hzo [.long (Int32.toInt64 (z3)), .long (Int32.toInt64 ((-99999))), .long (Int32.toInt64 ((99999)))] [] (c_isIn _ _ _ _ _ (z3) ((-99999)) ((99999))) kX7_isIn tMet_X7_71 rfl rfl (Nat.le_of_ble_eq_true rfl) (Nat.le_of_ble_eq_true rfl) ⟨Nat.le_of_ble_eq_true rfl, Nat.le_of_ble_eq_true rfl⟩ rfl rfl (Nat.le_of_ble_eq_true rfl) dX7_mark_87 ?_
        refine g_if_ne hX 96 (by decide) dX7_mark_90 (fun b90 => ?_) (fun b90 => ?_)
        · replace h := if_n b90 h
          exact J96  μ x h
        · replace h := if_p b90 h
          refine g_ldc hX (v := -1000000001) (zu tCon_X7_100 rfl) dX7_mark_93 ?_
          exact g_retiP hR ⟨by rw [oi_1 h], x, by rw [← oi_2 h]⟩ dX7_mark_95
  show GW κ 0 0 (C μ.1 μ.2.1 μ.2.2 x) 0 [(0, .ref h0), (1, .int (z1)), (2, .int (z2)), (3, .int (z3))] []
  refine g_iload_n hX 1 rfl rfl dX7_mark_0 ?_
  obtain ⟨y1, e1, h⟩ := o1_some h
  refine s_call hX hzo [.int (z1)] [] (ct_X7_isSheet _ _ _ _ hzo _ z1 _ e1) kX7_isSheet tMet_X7_302 rfl rfl (Nat.le_of_ble_eq_true rfl) (Nat.le_of_ble_eq_true rfl) ⟨Nat.le_of_ble_eq_true rfl, Nat.le_of_ble_eq_true rfl⟩ rfl rfl (Nat.le_of_ble_eq_true rfl) dX7_mark_1 ?_
  refine g_if_ne hX 10 (by decide) dX7_mark_4 (fun b4 => ?_) (fun b4 => ?_)
  · replace h := if_n b4 h
    refine g_aload_n hX 0 rfl rfl dX7_mark_10 ?_
    refine m_getA hX hC 4 (by decide) rfl tFld_X7_19 dX7_mark_11 ?_
    refine g_iload_n hX 1 rfl rfl dX7_mark_14 ?_
    obtain ⟨g4, h⟩ := gd_some h
    refine m_ald hX hC 4 rfl g4 dX7_mark_15 ?_
    refine g_if_ge hX 23 (by decide) dX7_mark_16 (fun b16 => ?_) (fun b16 => ?_)
    · replace h := if_p b16 h
      refine g_iload_n hX 2 rfl rfl dX7_mark_23 ?_
      refine g_i2l hX dX7_mark_24 ?_
      refine g_lconst hX (v := Int32.toInt64 (0)) (by decide) dX7_mark_25 ?_
      refine g_aload_n hX 0 rfl rfl dX7_mark_26 ?_
      refine m_getA hX hC 5 (by decide) rfl tFld_X7_22 dX7_mark_27 ?_
      refine g_iload_n hX 1 rfl rfl dX7_mark_30 ?_
      refine m_ald hX hC 5 rfl g4 dX7_mark_31 ?_
      refine g_iconst hX (v := nI 1) rfl dX7_mark_32 ?_
      refine g_isub hX dX7_mark_33 ?_
      refine g_i2l hX dX7_mark_34 ?_
      refine s_call hX hzo [.long (Int32.toInt64 (z2)), .long (Int32.toInt64 ((0))), .long (Int32.toInt64 ((μ.2.2 5 z1.toNatClampNeg - nI 1)))] [] (c_isIn _ _ _ _ _ (z2) ((0)) ((μ.2.2 5 z1.toNatClampNeg - nI 1))) kX7_isIn tMet_X7_71 rfl rfl (Nat.le_of_ble_eq_true rfl) (Nat.le_of_ble_eq_true rfl) ⟨Nat.le_of_ble_eq_true rfl, Nat.le_of_ble_eq_true rfl⟩ rfl rfl (Nat.le_of_ble_eq_true rfl) dX7_mark_35 ?_
      refine g_if_ne hX 45 (by decide) dX7_mark_38 (fun b38 => ?_) (fun b38 => ?_)
      · replace h := if_n b38 h
        refine g_aload_n hX 0 rfl rfl dX7_mark_45 ?_
        refine m_getA hX hC 4 (by decide) rfl tFld_X7_19 dX7_mark_46 ?_
        refine g_iload_n hX 1 rfl rfl dX7_mark_49 ?_
        refine m_ald hX hC 4 rfl g4 dX7_mark_50 ?_
        refine g_if_ne hX 63 (by decide) dX7_mark_51 (fun b51 => ?_) (fun b51 => ?_)
        · replace h := if_n b51 h
          exact J63  μ x h
        · replace h := if_p b51 h
          refine g_iload_n hX 3 rfl rfl dX7_mark_54 ?_
          refine g_ldc hX (v := -1000000005) (zu tCon_X7_70 rfl) dX7_mark_55 ?_
          refine g_icmp_ne hX 63 (by decide) dX7_mark_57 (fun b57 => ?_) (fun b57 => ?_)
          · replace h := if_n b57 h
            exact J63  μ x h
          · replace h := if_p b57 h
            refine g_ldc hX (v := -1000000012) (zu tCon_X7_148 rfl) dX7_mark_60 ?_
            exact g_retiP hR ⟨by rw [oi_1 h], x, by rw [← oi_2 h]⟩ dX7_mark_62
      · replace h := if_p b38 h
        refine g_ldcw hX (v := -1000000013) (zu tCon_X7_309 rfl) dX7_mark_41 ?_
        exact g_retiP hR ⟨by rw [oi_1 h], x, by rw [← oi_2 h]⟩ dX7_mark_44
    · replace h := if_n b16 h
      refine g_ldcw hX (v := -1000000011) (zu tCon_X7_308 rfl) dX7_mark_19 ?_
      exact g_retiP hR ⟨by rw [oi_1 h], x, by rw [← oi_2 h]⟩ dX7_mark_22
  · replace h := if_p b4 h
    refine g_ldc hX (v := -1000000001) (zu tCon_X7_100 rfl) dX7_mark_7 ?_
    exact g_retiP hR ⟨by rw [oi_1 h], x, by rw [← oi_2 h]⟩ dX7_mark_9
theorem kX7_pour : mKV RX7 yX7_pour cX7_pour 6 (some .int) 1 := ⟨tIns_X7_pour, tSel_X7_pour, tIni_X7, tCod_X7_pour, by decide +kernel⟩
set_option maxHeartbeats 4000000 in
set_option maxRecDepth 100000 in
theorem ct_X7_pour (l : Launch) (D : va_G) (cy : Nat → ClassId) (Z : (Nat → Prop) → State → Heap → Prop) (hzo : zOK Z) {h0 : Nat} {a q : Nat → Nat} {C : (Nat → Int32) → (Nat → Int32) → (Nat → Nat → Int32) → (Nat → Nat → Int32) → va_W} (hC : mLens (cy 0) h0 a q C) (z1 : Int32) (μ μ2 : Mg) (x : Nat → Nat → Int32) (res : Int32) (h : fn_X7_pour z1 μ = some (res, μ2)) : GM l D cy Z yX7_pour (zW yX7_pour cX7_pour 6 (some .int)) { frames := 2, cells := 0, slots := 0, locals := 45 } [.ref h0, .int (z1)] (C μ.1 μ.2.1 μ.2.2 x) (fun rs w2 => rs = some (.int res) ∧ ∃ x2, w2 = C μ2.1 μ2.2.1 μ2.2.2 x2) 0 0 := by
  refine g_entry (cc := cX7_pour) (maxL := 6) (by decide) rfl (Nat.le_of_ble_eq_true rfl) ?_
  intro κ hN hX hR
  have hX : GX κ cy Z cX7_pour (Cond.code yX7_pour cX7_pour 6 (some .int) :: zT) RX7 { frames := 2, cells := 0, slots := 0, locals := 45 } := hX
  have J128 : ∀ (v2 : Int32) (μ : Mg) (x : Nat → Nat → Int32) , fn_X7_pour_L128 z1 v2 μ = some (res, μ2) → GW κ 0 0 (C μ.1 μ.2.1 μ.2.2 x) 128 [(2, .int (v2))] [] := by
    intro v2 μ x h
    refine g_iload_n hX 0 rfl rfl dX7_pour_128 ?_
    exact g_retiP hR ⟨by rw [oi_1 h], x, by rw [← oi_2 h]⟩ dX7_pour_129
  have J120 : ∀ (slf : Int32 → Int32 → Mg → Option (Int32 × Mg)) (hslf : ∀ (v2 : Int32) (v3 : Int32) (μ : Mg) (x : Nat → Nat → Int32) , slf v2 v3 μ = some (res, μ2) → GW κ 0 0 (C μ.1 μ.2.1 μ.2.2 x) 27 [(0, .ref h0), (1, .int (z1)), (2, .int (v2)), (3, .int (v3))] []) (k128 : Int32 → Mg → Option (Int32 × Mg)) (hk128 : ∀ (v2 : Int32) (μ : Mg) (x : Nat → Nat → Int32) , k128 v2 μ = some (res, μ2) → GW κ 0 0 (C μ.1 μ.2.1 μ.2.2 x) 128 [(2, .int (v2))] []), ∀ (v3 : Int32) (s0 : Int32) (s1 : Int32) (μ : Mg) (x : Nat → Nat → Int32) , fn_X7_pour_L120 z1 slf k128 v3 s0 s1 μ = some (res, μ2) → GW κ 0 0 (C μ.1 μ.2.1 μ.2.2 x) 120 [(0, .ref h0), (1, .int (z1)), (3, .int (v3))] [.int (s0), .int (s1)] := by
    intro slf hslf k128 hk128 v3 s0 s1 μ x h
    refine g_iadd hX dX7_pour_120 ?_
    refine g_istore_n (lv2 := [(2, .int ((s1 + s0))), (0, .ref h0), (1, .int (z1)), (3, .int (v3))]) hX 2 6 hN rfl (by decide) rfl dX7_pour_121 ?_
    refine g_iinc (v := (v3 + nI 1)) (lv2 := [(3, .int ((v3 + nI 1))), (2, .int ((s1 + s0))), (0, .ref h0), (1, .int (z1))]) hX 3 3 6 hN rfl rfl (by decide) rfl dX7_pour_122 ?_
    refine g_goto hX 27 (by decide) dX7_pour_125 ?_
    refine g_lv [2, 3, 1, 0] rfl ?_
    exact hslf ((s1 + s0)) ((v3 + nI 1)) μ x h
  have J92 : ∀ (slf : Int32 → Int32 → Mg → Option (Int32 × Mg)) (hslf : ∀ (v2 : Int32) (v3 : Int32) (μ : Mg) (x : Nat → Nat → Int32) , slf v2 v3 μ = some (res, μ2) → GW κ 0 0 (C μ.1 μ.2.1 μ.2.2 x) 27 [(0, .ref h0), (1, .int (z1)), (2, .int (v2)), (3, .int (v3))] []) (k128 : Int32 → Mg → Option (Int32 × Mg)) (hk128 : ∀ (v2 : Int32) (μ : Mg) (x : Nat → Nat → Int32) , k128 v2 μ = some (res, μ2) → GW κ 0 0 (C μ.1 μ.2.1 μ.2.2 x) 128 [(2, .int (v2))] []), ∀ (v2 : Int32) (v3 : Int32) (s0 : Int32) (μ : Mg) (x : Nat → Nat → Int32) , fn_X7_pour_L92 z1 slf k128 v2 v3 s0 μ = some (res, μ2) → GW κ 0 0 (C μ.1 μ.2.1 μ.2.2 x) 92 [(0, .ref h0), (1, .int (z1)), (2, .int (v2)), (3, .int (v3))] [.int (s0)] := by
    intro slf hslf k128 hk128 v2 v3 s0 μ x h
    refine g_istore (lv2 := [(5, .int (s0)), (0, .ref h0), (1, .int (z1)), (2, .int (v2)), (3, .int (v3))]) hX 5 6 hN (by decide) rfl dX7_pour_92 ?_
    refine g_iload_n hX 3 rfl rfl dX7_pour_94 ?_
    refine g_iload hX 0 rfl dX7_pour_95 ?_
    refine g_aload_n hX 1 rfl rfl dX7_pour_97 ?_
    refine g_bipush hX (v := nI 6) (by decide) dX7_pour_98 ?_
    refine g_bipush hX (v := nI 7) (by decide) dX7_pour_100 ?_
    refine g_iload_n hX 4 rfl rfl dX7_pour_102 ?_
    refine g_imul hX dX7_pour_103 ?_
    refine g_iadd hX dX7_pour_104 ?_
    refine g_iconst hX (v := nI 3) rfl dX7_pour_105 ?_
    refine g_iadd hX dX7_pour_106 ?_
    refine g_iload hX 0 rfl dX7_pour_107 ?_
    obtain ⟨y109, τ109, e109, h⟩ := ob_some h
    refine m_call hX hzo hC [.int (((nI 6 + (nI 7 * v3)) + nI 3)), .int (s0)] [.int (s0), .int (v2)] (ct_X7_becomes _ _ _ _ hzo hC (((nI 6 + (nI 7 * v3)) + nI 3)) s0 μ _ x _ e109) kX7_becomes tMet_X7_149 rfl rfl (Nat.le_of_ble_eq_true rfl) (Nat.le_of_ble_eq_true rfl) ⟨Nat.le_of_ble_eq_true rfl, Nat.le_of_ble_eq_true rfl⟩ rfl (Nat.le_of_ble_eq_true rfl) dX7_pour_109 ?_
    rintro _ _ ⟨rfl, x109, rfl⟩
    show GW κ 0 0 (C τ109.1 τ109.2.1 τ109.2.2 x109) 112 [(5, .int (s0)), (0, .ref h0), (1, .int (z1)), (2, .int (v2)), (3, .int (v3))] [.int (y109), .int (s0), .int (v2)]
    refine g_icmp_ne hX 119 (by decide) dX7_pour_112 (fun b112 => ?_) (fun b112 => ?_)
    · replace h := if_n b112 h
      refine g_iconst hX (v := nI 1) rfl dX7_pour_119 ?_
      refine g_lv [1, 2, 4] rfl ?_
      exact (J120 slf hslf k128 hk128) v3 (nI 1) v2 τ109 x109 h
    · replace h := if_p b112 h
      refine g_iconst hX (v := nI 0) rfl dX7_pour_115 ?_
      refine g_goto hX 120 (by decide) dX7_pour_116 ?_
      refine g_lv [1, 2, 4] rfl ?_
      exact (J120 slf hslf k128 hk128) v3 (nI 0) v2 τ109 x109 h
  have J27 : ∀ (k128 : Int32 → Mg → Option (Int32 × Mg)) (hk128 : ∀ (v2 : Int32) (μ : Mg) (x : Nat → Nat → Int32) , k128 v2 μ = some (res, μ2) → GW κ 0 0 (C μ.1 μ.2.1 μ.2.2 x) 128 [(2, .int (v2))] []) (fuel : Nat), ∀ (v2 : Int32) (v3 : Int32) (μ : Mg) (x : Nat → Nat → Int32) , fn_X7_pour_L27 z1 k128 fuel v2 v3 μ = some (res, μ2) → GW κ 0 0 (C μ.1 μ.2.1 μ.2.2 x) 27 [(0, .ref h0), (1, .int (z1)), (2, .int (v2)), (3, .int (v3))] [] := by
    intro k128 hk128 fuel
    induction fuel with
    | zero => intro v2 v3 μ x h; cases (show none = some (res, μ2) from h)
    | succ fuel ih =>
      intro v2 v3 μ x h
      replace h : (if ¬ (z1 < 0 ∨ 4 ≤ z1.toNatClampNeg) then (if μ.2.2 5 z1.toNatClampNeg ≤ v3 then (k128 v2 μ) else (if ¬ (nI 0 < 0 ∨ 3069 ≤ (nI 0).toNatClampNeg) then (if μ.2.1 (nI 0).toNatClampNeg ≤ v3 then (k128 v2 μ) else (if ¬ (((nI 24 * z1) + v3) < 0 ∨ 96 ≤ (((nI 24 * z1) + v3)).toNatClampNeg) then (if μ.2.2 6 (((nI 24 * z1) + v3)).toNatClampNeg = (-1000000005) then (if ¬ (((nI 6 + (nI 7 * v3)) + nI 3) < 0 ∨ 3069 ≤ (((nI 6 + (nI 7 * v3)) + nI 3)).toNatClampNeg) then ((fn_X7_pour_L92 z1 (fn_X7_pour_L27 z1 k128 fuel) k128) v2 v3 (μ.2.1 (((nI 6 + (nI 7 * v3)) + nI 3)).toNatClampNeg) μ) else none) else (o1 (fn_X7_held (μ.2.2 6 (((nI 24 * z1) + v3)).toNatClampNeg) (nI 0) (nI 99)) (fun y89 => ((fn_X7_pour_L92 z1 (fn_X7_pour_L27 z1 k128 fuel) k128) v2 v3 y89 μ)))) else none)) else none)) else none) = some (res, μ2) := h
      refine g_iload_n hX 3 rfl rfl dX7_pour_27 ?_
      refine g_aload_n hX 0 rfl rfl dX7_pour_28 ?_
      refine m_getA hX hC 5 (by decide) rfl tFld_X7_22 dX7_pour_29 ?_
      refine g_iload_n hX 1 rfl rfl dX7_pour_32 ?_
      obtain ⟨g1, h⟩ := gd_some h
      refine m_ald hX hC 5 rfl g1 dX7_pour_33 ?_
      refine g_icmp_ge hX 128 (by decide) dX7_pour_34 (fun b34 => ?_) (fun b34 => ?_)
      · replace h := if_p b34 h
        refine g_lv [2] rfl ?_
        exact hk128 v2 μ x h
      · replace h := if_n b34 h
        refine g_iload_n hX 3 rfl rfl dX7_pour_37 ?_
        refine g_aload_n hX 0 rfl rfl dX7_pour_38 ?_
        refine m_getA hX hC 0 (by decide) rfl tFld_X7_7 dX7_pour_39 ?_
        refine g_iconst hX (v := nI 0) rfl dX7_pour_42 ?_
        obtain ⟨g2, h⟩ := gd_some h
        refine m0_ald hX hC g2 dX7_pour_43 ?_
        refine g_icmp_ge hX 128 (by decide) dX7_pour_44 (fun b44 => ?_) (fun b44 => ?_)
        · replace h := if_p b44 h
          refine g_lv [2] rfl ?_
          exact hk128 v2 μ x h
        · replace h := if_n b44 h
          refine g_aload_n hX 0 rfl rfl dX7_pour_47 ?_
          refine m_getA hX hC 6 (by decide) rfl tFld_X7_25 dX7_pour_48 ?_
          refine g_bipush hX (v := nI 24) (by decide) dX7_pour_51 ?_
          refine g_iload_n hX 1 rfl rfl dX7_pour_53 ?_
          refine g_imul hX dX7_pour_54 ?_
          refine g_iload_n hX 3 rfl rfl dX7_pour_55 ?_
          refine g_iadd hX dX7_pour_56 ?_
          obtain ⟨g3, h⟩ := gd_some h
          refine m_ald hX hC 6 rfl g3 dX7_pour_57 ?_
          refine g_istore (lv2 := [(4, .int (μ.2.2 6 (((nI 24 * z1) + v3)).toNatClampNeg)), (0, .ref h0), (1, .int (z1)), (2, .int (v2)), (3, .int (v3))]) hX 4 6 hN (by decide) rfl dX7_pour_58 ?_
          refine g_iload hX 0 rfl dX7_pour_60 ?_
          refine g_ldc hX (v := -1000000005) (zu tCon_X7_70 rfl) dX7_pour_62 ?_
          refine g_icmp_ne hX 84 (by decide) dX7_pour_64 (fun b64 => ?_) (fun b64 => ?_)
          · replace h := if_n b64 h
            refine g_iload hX 0 rfl dX7_pour_84 ?_
            refine g_iconst hX (v := nI 0) rfl dX7_pour_86 ?_
            refine g_bipush hX (v := nI 99) (by decide) dX7_pour_87 ?_
            obtain ⟨y89, e89, h⟩ := o1_some h
            refine s_call hX hzo [.int (μ.2.2 6 (((nI 24 * z1) + v3)).toNatClampNeg), .int (nI 0), .int (nI 99)] [] (ct_X7_held _ _ _ _ hzo _ (μ.2.2 6 (((nI 24 * z1) + v3)).toNatClampNeg) (nI 0) (nI 99) _ e89) kX7_held tMet_X7_116 rfl rfl (Nat.le_of_ble_eq_true rfl) (Nat.le_of_ble_eq_true rfl) ⟨Nat.le_of_ble_eq_true rfl, Nat.le_of_ble_eq_true rfl⟩ rfl rfl (Nat.le_of_ble_eq_true rfl) dX7_pour_89 ?_
            refine g_lv [1, 2, 3, 4] rfl ?_
            exact (J92 (fn_X7_pour_L27 z1 k128 fuel) ih k128 hk128) v2 v3 y89 μ x h
          · replace h := if_p b64 h
            refine g_aload_n hX 1 rfl rfl dX7_pour_67 ?_
            refine m_getA hX hC 0 (by decide) rfl tFld_X7_7 dX7_pour_68 ?_
            refine g_bipush hX (v := nI 6) (by decide) dX7_pour_71 ?_
            refine g_bipush hX (v := nI 7) (by decide) dX7_pour_73 ?_
            refine g_iload_n hX 4 rfl rfl dX7_pour_75 ?_
            refine g_imul hX dX7_pour_76 ?_
            refine g_iadd hX dX7_pour_77 ?_
            refine g_iconst hX (v := nI 3) rfl dX7_pour_78 ?_
            refine g_iadd hX dX7_pour_79 ?_
            obtain ⟨g4, h⟩ := gd_some h
            refine m0_ald hX hC g4 dX7_pour_80 ?_
            refine g_goto hX 92 (by decide) dX7_pour_81 ?_
            refine g_lv [1, 2, 3, 4] rfl ?_
            exact (J92 (fn_X7_pour_L27 z1 k128 fuel) ih k128 hk128) v2 v3 (μ.2.1 (((nI 6 + (nI 7 * v3)) + nI 3)).toNatClampNeg) μ x h
  show GW κ 0 0 (C μ.1 μ.2.1 μ.2.2 x) 0 [(0, .ref h0), (1, .int (z1))] []
  refine g_iload_n hX 1 rfl rfl dX7_pour_0 ?_
  obtain ⟨y1, e1, h⟩ := o1_some h
  refine s_call hX hzo [.int (z1)] [] (ct_X7_isSheet _ _ _ _ hzo _ z1 _ e1) kX7_isSheet tMet_X7_302 rfl rfl (Nat.le_of_ble_eq_true rfl) (Nat.le_of_ble_eq_true rfl) ⟨Nat.le_of_ble_eq_true rfl, Nat.le_of_ble_eq_true rfl⟩ rfl rfl (Nat.le_of_ble_eq_true rfl) dX7_pour_1 ?_
  refine g_if_ne hX 10 (by decide) dX7_pour_4 (fun b4 => ?_) (fun b4 => ?_)
  · replace h := if_n b4 h
    refine g_aload_n hX 0 rfl rfl dX7_pour_10 ?_
    refine m_getA hX hC 4 (by decide) rfl tFld_X7_19 dX7_pour_11 ?_
    refine g_iload_n hX 1 rfl rfl dX7_pour_14 ?_
    obtain ⟨g5, h⟩ := gd_some h
    refine m_ald hX hC 4 rfl g5 dX7_pour_15 ?_
    refine g_if_ge hX 23 (by decide) dX7_pour_16 (fun b16 => ?_) (fun b16 => ?_)
    · replace h := if_p b16 h
      refine g_iconst hX (v := nI 0) rfl dX7_pour_23 ?_
      refine g_istore_n (lv2 := [(2, .int (nI 0)), (0, .ref h0), (1, .int (z1))]) hX 2 6 hN rfl (by decide) rfl dX7_pour_24 ?_
      refine g_iconst hX (v := nI 0) rfl dX7_pour_25 ?_
      refine g_istore_n (lv2 := [(3, .int (nI 0)), (2, .int (nI 0)), (0, .ref h0), (1, .int (z1))]) hX 3 6 hN rfl (by decide) rfl dX7_pour_26 ?_
      refine g_lv [2, 3, 1, 0] rfl ?_
      exact (J27 (fn_X7_pour_L128 z1) J128 4000) (nI 0) (nI 0) μ x h
    · replace h := if_n b16 h
      refine g_ldcw hX (v := -1000000011) (zu tCon_X7_308 rfl) dX7_pour_19 ?_
      exact g_retiP hR ⟨by rw [oi_1 h], x, by rw [← oi_2 h]⟩ dX7_pour_22
  · replace h := if_p b4 h
    refine g_ldc hX (v := -1000000001) (zu tCon_X7_100 rfl) dX7_pour_7 ?_
    exact g_retiP hR ⟨by rw [oi_1 h], x, by rw [← oi_2 h]⟩ dX7_pour_9
theorem kX7_reads : mKV RX7 yX7_reads cX7_reads 4 (some .int) 1 := ⟨tIns_X7_reads, tSel_X7_reads, tIni_X7, tCod_X7_reads, by decide +kernel⟩
set_option maxHeartbeats 4000000 in
set_option maxRecDepth 100000 in
theorem ct_X7_reads (l : Launch) (D : va_G) (cy : Nat → ClassId) (Z : (Nat → Prop) → State → Heap → Prop) (hzo : zOK Z) {h0 : Nat} {a q : Nat → Nat} {C : (Nat → Int32) → (Nat → Int32) → (Nat → Nat → Int32) → (Nat → Nat → Int32) → va_W} (hC : mLens (cy 0) h0 a q C) (z1 : Int32) (μ μ2 : Mg) (x : Nat → Nat → Int32) (res : Int32) (h : fn_X7_reads z1 μ = some (res, μ2)) : GM l D cy Z yX7_reads (zW yX7_reads cX7_reads 4 (some .int)) { frames := 2, cells := 0, slots := 0, locals := 45 } [.ref h0, .int (z1)] (C μ.1 μ.2.1 μ.2.2 x) (fun rs w2 => rs = some (.int res) ∧ ∃ x2, w2 = C μ2.1 μ2.2.1 μ2.2.2 x2) 0 0 := by
  refine g_entry (cc := cX7_reads) (maxL := 4) (by decide) rfl (Nat.le_of_ble_eq_true rfl) ?_
  intro κ hN hX hR
  have hX : GX κ cy Z cX7_reads (Cond.code yX7_reads cX7_reads 4 (some .int) :: zT) RX7 { frames := 2, cells := 0, slots := 0, locals := 45 } := hX
  have J81 : ∀ (μ : Mg) (x : Nat → Nat → Int32) , fn_X7_reads_L81 z1  μ = some (res, μ2) → GW κ 0 0 (C μ.1 μ.2.1 μ.2.2 x) 81 [] [] := by
    intro μ x h
    refine g_ldc hX (v := -1000000005) (zu tCon_X7_70 rfl) dX7_reads_81 ?_
    exact g_retiP hR ⟨by rw [oi_1 h], x, by rw [← oi_2 h]⟩ dX7_reads_83
  have J75 : ∀ (slf : Int32 → Mg → Option (Int32 × Mg)) (hslf : ∀ (v2 : Int32) (μ : Mg) (x : Nat → Nat → Int32) , slf v2 μ = some (res, μ2) → GW κ 0 0 (C μ.1 μ.2.1 μ.2.2 x) 25 [(0, .ref h0), (1, .int (z1)), (2, .int (v2))] []) (k81 : Mg → Option (Int32 × Mg)) (hk81 : ∀ (μ : Mg) (x : Nat → Nat → Int32) , k81  μ = some (res, μ2) → GW κ 0 0 (C μ.1 μ.2.1 μ.2.2 x) 81 [] []), ∀ (v2 : Int32) (μ : Mg) (x : Nat → Nat → Int32) , fn_X7_reads_L75 z1 slf k81 v2 μ = some (res, μ2) → GW κ 0 0 (C μ.1 μ.2.1 μ.2.2 x) 75 [(0, .ref h0), (1, .int (z1)), (2, .int (v2))] [] := by
    intro slf hslf k81 hk81 v2 μ x h
    refine g_iinc (v := (v2 + nI 1)) (lv2 := [(2, .int ((v2 + nI 1))), (0, .ref h0), (1, .int (z1))]) hX 2 2 4 hN rfl rfl (by decide) rfl dX7_reads_75 ?_
    refine g_goto hX 25 (by decide) dX7_reads_78 ?_
    refine g_lv [1, 2, 0] rfl ?_
    exact hslf ((v2 + nI 1)) μ x h
  have J73 : ∀ (slf : Int32 → Mg → Option (Int32 × Mg)) (hslf : ∀ (v2 : Int32) (μ : Mg) (x : Nat → Nat → Int32) , slf v2 μ = some (res, μ2) → GW κ 0 0 (C μ.1 μ.2.1 μ.2.2 x) 25 [(0, .ref h0), (1, .int (z1)), (2, .int (v2))] []) (k81 : Mg → Option (Int32 × Mg)) (hk81 : ∀ (μ : Mg) (x : Nat → Nat → Int32) , k81  μ = some (res, μ2) → GW κ 0 0 (C μ.1 μ.2.1 μ.2.2 x) 81 [] []), ∀ (v2 : Int32) (μ : Mg) (x : Nat → Nat → Int32) , fn_X7_reads_L73 z1 slf k81 v2 μ = some (res, μ2) → GW κ 0 0 (C μ.1 μ.2.1 μ.2.2 x) 73 [(2, .int (v2))] [] := by
    intro slf hslf k81 hk81 v2 μ x h
    refine g_iload_n hX 0 rfl rfl dX7_reads_73 ?_
    exact g_retiP hR ⟨by rw [oi_1 h], x, by rw [← oi_2 h]⟩ dX7_reads_74
  have J25 : ∀ (k81 : Mg → Option (Int32 × Mg)) (hk81 : ∀ (μ : Mg) (x : Nat → Nat → Int32) , k81  μ = some (res, μ2) → GW κ 0 0 (C μ.1 μ.2.1 μ.2.2 x) 81 [] []) (fuel : Nat), ∀ (v2 : Int32) (μ : Mg) (x : Nat → Nat → Int32) , fn_X7_reads_L25 z1 k81 fuel v2 μ = some (res, μ2) → GW κ 0 0 (C μ.1 μ.2.1 μ.2.2 x) 25 [(0, .ref h0), (1, .int (z1)), (2, .int (v2))] [] := by
    intro k81 hk81 fuel
    induction fuel with
    | zero => intro v2 μ x h; cases (show none = some (res, μ2) from h)
    | succ fuel ih =>
      intro v2 μ x h
      replace h : (if ¬ (z1 < 0 ∨ 4 ≤ z1.toNatClampNeg) then (if μ.2.2 5 z1.toNatClampNeg ≤ v2 then (k81  μ) else (if ¬ (((nI 24 * z1) + v2) < 0 ∨ 96 ≤ (((nI 24 * z1) + v2)).toNatClampNeg) then (if μ.2.2 6 (((nI 24 * z1) + v2)).toNatClampNeg = (-1000000005) then ((fn_X7_reads_L75 z1 (fn_X7_reads_L25 z1 k81 fuel) k81) v2 μ) else (if ¬ (nI 0 < 0 ∨ 3069 ≤ (nI 0).toNatClampNeg) then (if μ.2.1 (nI 0).toNatClampNeg ≤ v2 then ((fn_X7_reads_L73 z1 (fn_X7_reads_L25 z1 k81 fuel) k81) v2 μ) else (ob (fn_X7_of v2 (nI 2) μ) (fun y67 τ67 => (if μ.2.2 6 (((nI 24 * z1) + v2)).toNatClampNeg = y67 then ((fn_X7_reads_L75 z1 (fn_X7_reads_L25 z1 k81 fuel) k81) v2 τ67) else ((fn_X7_reads_L73 z1 (fn_X7_reads_L25 z1 k81 fuel) k81) v2 τ67))))) else none)) else none)) else none) = some (res, μ2) := h
      refine g_iload_n hX 2 rfl rfl dX7_reads_25 ?_
      refine g_aload_n hX 0 rfl rfl dX7_reads_26 ?_
      refine m_getA hX hC 5 (by decide) rfl tFld_X7_22 dX7_reads_27 ?_
      refine g_iload_n hX 1 rfl rfl dX7_reads_30 ?_
      obtain ⟨g1, h⟩ := gd_some h
      refine m_ald hX hC 5 rfl g1 dX7_reads_31 ?_
      refine g_icmp_ge hX 81 (by decide) dX7_reads_32 (fun b32 => ?_) (fun b32 => ?_)
      · replace h := if_p b32 h
        refine g_lv [] rfl ?_
        exact hk81  μ x h
      · replace h := if_n b32 h
        refine g_aload_n hX 0 rfl rfl dX7_reads_35 ?_
        refine m_getA hX hC 6 (by decide) rfl tFld_X7_25 dX7_reads_36 ?_
        refine g_bipush hX (v := nI 24) (by decide) dX7_reads_39 ?_
        refine g_iload_n hX 1 rfl rfl dX7_reads_41 ?_
        refine g_imul hX dX7_reads_42 ?_
        refine g_iload_n hX 2 rfl rfl dX7_reads_43 ?_
        refine g_iadd hX dX7_reads_44 ?_
        obtain ⟨g2, h⟩ := gd_some h
        refine m_ald hX hC 6 rfl g2 dX7_reads_45 ?_
        refine g_istore_n (lv2 := [(3, .int (μ.2.2 6 (((nI 24 * z1) + v2)).toNatClampNeg)), (0, .ref h0), (1, .int (z1)), (2, .int (v2))]) hX 3 4 hN rfl (by decide) rfl dX7_reads_46 ?_
        refine g_iload_n hX 0 rfl rfl dX7_reads_47 ?_
        refine g_ldc hX (v := -1000000005) (zu tCon_X7_70 rfl) dX7_reads_48 ?_
        refine g_icmp_eq hX 75 (by decide) dX7_reads_50 (fun b50 => ?_) (fun b50 => ?_)
        · replace h := if_p b50 h
          refine g_lv [1, 2, 3] rfl ?_
          exact (J75 (fn_X7_reads_L25 z1 k81 fuel) ih k81 hk81) v2 μ x h
        · replace h := if_n b50 h
          refine g_iload_n hX 3 rfl rfl dX7_reads_53 ?_
          refine g_aload_n hX 1 rfl rfl dX7_reads_54 ?_
          refine m_getA hX hC 0 (by decide) rfl tFld_X7_7 dX7_reads_55 ?_
          refine g_iconst hX (v := nI 0) rfl dX7_reads_58 ?_
          obtain ⟨g3, h⟩ := gd_some h
          refine m0_ald hX hC g3 dX7_reads_59 ?_
          refine g_icmp_ge hX 73 (by decide) dX7_reads_60 (fun b60 => ?_) (fun b60 => ?_)
          · replace h := if_p b60 h
            refine g_lv [3] rfl ?_
            exact (J73 (fn_X7_reads_L25 z1 k81 fuel) ih k81 hk81) v2 μ x h
          · replace h := if_n b60 h
            refine g_iload_n hX 0 rfl rfl dX7_reads_63 ?_
            refine g_aload_n hX 1 rfl rfl dX7_reads_64 ?_
            refine g_iload_n hX 3 rfl rfl dX7_reads_65 ?_
            refine g_iconst hX (v := nI 2) rfl dX7_reads_66 ?_
            obtain ⟨y67, τ67, e67, h⟩ := ob_some h
            refine m_call hX hzo hC [.int (v2), .int (nI 2)] [.int (μ.2.2 6 (((nI 24 * z1) + v2)).toNatClampNeg)] (ct_X7_of _ _ _ _ hzo hC v2 (nI 2) μ _ x _ e67) kX7_of tMet_X7_75 rfl rfl (Nat.le_of_ble_eq_true rfl) (Nat.le_of_ble_eq_true rfl) ⟨Nat.le_of_ble_eq_true rfl, Nat.le_of_ble_eq_true rfl⟩ rfl (Nat.le_of_ble_eq_true rfl) dX7_reads_67 ?_
            rintro _ _ ⟨rfl, x67, rfl⟩
            show GW κ 0 0 (C τ67.1 τ67.2.1 τ67.2.2 x67) 70 [(3, .int (μ.2.2 6 (((nI 24 * z1) + v2)).toNatClampNeg)), (0, .ref h0), (1, .int (z1)), (2, .int (v2))] [.int (y67), .int (μ.2.2 6 (((nI 24 * z1) + v2)).toNatClampNeg)]
            refine g_icmp_eq hX 75 (by decide) dX7_reads_70 (fun b70 => ?_) (fun b70 => ?_)
            · replace h := if_p b70 h
              refine g_lv [1, 2, 3] rfl ?_
              exact (J75 (fn_X7_reads_L25 z1 k81 fuel) ih k81 hk81) v2 τ67 x67 h
            · replace h := if_n b70 h
              refine g_lv [3] rfl ?_
              exact (J73 (fn_X7_reads_L25 z1 k81 fuel) ih k81 hk81) v2 τ67 x67 h
  show GW κ 0 0 (C μ.1 μ.2.1 μ.2.2 x) 0 [(0, .ref h0), (1, .int (z1))] []
  refine g_iload_n hX 1 rfl rfl dX7_reads_0 ?_
  obtain ⟨y1, e1, h⟩ := o1_some h
  refine s_call hX hzo [.int (z1)] [] (ct_X7_isSheet _ _ _ _ hzo _ z1 _ e1) kX7_isSheet tMet_X7_302 rfl rfl (Nat.le_of_ble_eq_true rfl) (Nat.le_of_ble_eq_true rfl) ⟨Nat.le_of_ble_eq_true rfl, Nat.le_of_ble_eq_true rfl⟩ rfl rfl (Nat.le_of_ble_eq_true rfl) dX7_reads_1 ?_
  refine g_if_ne hX 10 (by decide) dX7_reads_4 (fun b4 => ?_) (fun b4 => ?_)
  · replace h := if_n b4 h
    refine g_aload_n hX 0 rfl rfl dX7_reads_10 ?_
    refine m_getA hX hC 4 (by decide) rfl tFld_X7_19 dX7_reads_11 ?_
    refine g_iload_n hX 1 rfl rfl dX7_reads_14 ?_
    obtain ⟨g4, h⟩ := gd_some h
    refine m_ald hX hC 4 rfl g4 dX7_reads_15 ?_
    refine g_if_ge hX 23 (by decide) dX7_reads_16 (fun b16 => ?_) (fun b16 => ?_)
    · replace h := if_p b16 h
      refine g_iconst hX (v := nI 0) rfl dX7_reads_23 ?_
      refine g_istore_n (lv2 := [(2, .int (nI 0)), (0, .ref h0), (1, .int (z1))]) hX 2 4 hN rfl (by decide) rfl dX7_reads_24 ?_
      refine g_lv [1, 2, 0] rfl ?_
      exact (J25 (fn_X7_reads_L81 z1) J81 4000) (nI 0) μ x h
    · replace h := if_n b16 h
      refine g_ldcw hX (v := -1000000011) (zu tCon_X7_308 rfl) dX7_reads_19 ?_
      exact g_retiP hR ⟨by rw [oi_1 h], x, by rw [← oi_2 h]⟩ dX7_reads_22
  · replace h := if_p b4 h
    refine g_ldc hX (v := -1000000001) (zu tCon_X7_100 rfl) dX7_reads_7 ?_
    exact g_retiP hR ⟨by rw [oi_1 h], x, by rw [← oi_2 h]⟩ dX7_reads_9
theorem kX7_began : mKV RX7 yX7_began cX7_began 10 (some .int) 3 := ⟨tIns_X7_began, tSel_X7_began, tIni_X7, tCod_X7_began, by decide +kernel⟩
set_option maxHeartbeats 4000000 in
set_option maxRecDepth 100000 in
theorem ct_X7_began (l : Launch) (D : va_G) (cy : Nat → ClassId) (Z : (Nat → Prop) → State → Heap → Prop) (hzo : zOK Z) {h0 : Nat} {a q : Nat → Nat} {C : (Nat → Int32) → (Nat → Int32) → (Nat → Nat → Int32) → (Nat → Nat → Int32) → va_W} (hC : mLens (cy 0) h0 a q C) (z1 : Int32) (z2 : Int32) (z3 : Int32) (μ μ2 : Mg) (x : Nat → Nat → Int32) (res : Int32) (h : fn_X7_began z1 z2 z3 μ = some (res, μ2)) : GM l D cy Z yX7_began (zW yX7_began cX7_began 10 (some .int)) { frames := 6, cells := 0, slots := 0, locals := 142 } [.ref h0, .int (z1), .int (z2), .int (z3)] (C μ.1 μ.2.1 μ.2.2 x) (fun rs w2 => rs = some (.int res) ∧ ∃ x2, w2 = C μ2.1 μ2.2.1 μ2.2.2 x2) 0 0 := by
  refine g_entry (cc := cX7_began) (maxL := 10) (by decide) rfl (Nat.le_of_ble_eq_true rfl) ?_
  intro κ hN hX hR
  have hX : GX κ cy Z cX7_began (Cond.code yX7_began cX7_began 10 (some .int) :: zT) RX7 { frames := 6, cells := 0, slots := 0, locals := 142 } := hX
  have J213 : ∀ (s0 : Int32) (μ : Mg) (x : Nat → Nat → Int32) , fn_X7_began_L213 z1 z2 z3 s0 μ = some (res, μ2) → GW κ 0 0 (C μ.1 μ.2.1 μ.2.2 x) 213 [] [.int (s0)] := by
    intro s0 μ x h
    exact g_retiP hR ⟨by rw [oi_1 h], x, by rw [← oi_2 h]⟩ dX7_began_213
  have J192 : ∀ (v4 : Int32) (v5 : Int32) (μ : Mg) (x : Nat → Nat → Int32) , fn_X7_began_L192 z1 z2 z3 v4 v5 μ = some (res, μ2) → GW κ 0 0 (C μ.1 μ.2.1 μ.2.2 x) 192 [(3, .int (z3)), (4, .int (v4)), (5, .int (v5))] [] := by
    intro v4 v5 μ x h
    refine g_iload hX 1 rfl dX7_began_192 ?_
    refine g_if_ge hX 202 (by decide) dX7_began_194 (fun b194 => ?_) (fun b194 => ?_)
    · replace h := if_p b194 h
      refine g_iload_n hX 0 rfl rfl dX7_began_202 ?_
      refine g_if_ne hX 211 (by decide) dX7_began_203 (fun b203 => ?_) (fun b203 => ?_)
      · replace h := if_n b203 h
        refine g_iload hX 2 rfl dX7_began_211 ?_
        refine g_lv [] rfl ?_
        exact J213 v5 μ x h
      · replace h := if_p b203 h
        refine g_iload hX 1 rfl dX7_began_206 ?_
        refine g_goto hX 213 (by decide) dX7_began_208 ?_
        refine g_lv [] rfl ?_
        exact J213 v4 μ x h
    · replace h := if_n b194 h
      refine g_ldc hX (v := -1000000005) (zu tCon_X7_70 rfl) dX7_began_197 ?_
      refine g_goto hX 213 (by decide) dX7_began_199 ?_
      refine g_lv [] rfl ?_
      exact J213 ((-1000000005)) μ x h
  have J186 : ∀ (slf : Int32 → Int32 → Int32 → Mg → Option (Int32 × Mg)) (hslf : ∀ (v4 : Int32) (v5 : Int32) (v6 : Int32) (μ : Mg) (x : Nat → Nat → Int32) , slf v4 v5 v6 μ = some (res, μ2) → GW κ 0 0 (C μ.1 μ.2.1 μ.2.2 x) 58 [(0, .ref h0), (1, .int (z1)), (2, .int (z2)), (3, .int (z3)), (4, .int (v4)), (5, .int (v5)), (6, .int (v6))] []) (k192 : Int32 → Int32 → Mg → Option (Int32 × Mg)) (hk192 : ∀ (v4 : Int32) (v5 : Int32) (μ : Mg) (x : Nat → Nat → Int32) , k192 v4 v5 μ = some (res, μ2) → GW κ 0 0 (C μ.1 μ.2.1 μ.2.2 x) 192 [(3, .int (z3)), (4, .int (v4)), (5, .int (v5))] []), ∀ (v4 : Int32) (v5 : Int32) (v6 : Int32) (μ : Mg) (x : Nat → Nat → Int32) , fn_X7_began_L186 z1 z2 z3 slf k192 v4 v5 v6 μ = some (res, μ2) → GW κ 0 0 (C μ.1 μ.2.1 μ.2.2 x) 186 [(0, .ref h0), (1, .int (z1)), (2, .int (z2)), (3, .int (z3)), (4, .int (v4)), (5, .int (v5)), (6, .int (v6))] [] := by
    intro slf hslf k192 hk192 v4 v5 v6 μ x h
    refine g_iinc (v := (v6 + nI 1)) (lv2 := [(6, .int ((v6 + nI 1))), (0, .ref h0), (1, .int (z1)), (2, .int (z2)), (3, .int (z3)), (4, .int (v4)), (5, .int (v5))]) hX 6 6 10 hN rfl rfl (by decide) rfl dX7_began_186 ?_
    refine g_goto hX 58 (by decide) dX7_began_189 ?_
    refine g_lv [1, 2, 3, 4, 5, 6, 0] rfl ?_
    exact hslf v4 v5 ((v6 + nI 1)) μ x h
  have J178 : ∀ (slf : Int32 → Int32 → Int32 → Mg → Option (Int32 × Mg)) (hslf : ∀ (v4 : Int32) (v5 : Int32) (v6 : Int32) (μ : Mg) (x : Nat → Nat → Int32) , slf v4 v5 v6 μ = some (res, μ2) → GW κ 0 0 (C μ.1 μ.2.1 μ.2.2 x) 58 [(0, .ref h0), (1, .int (z1)), (2, .int (z2)), (3, .int (z3)), (4, .int (v4)), (5, .int (v5)), (6, .int (v6))] []) (k192 : Int32 → Int32 → Mg → Option (Int32 × Mg)) (hk192 : ∀ (v4 : Int32) (v5 : Int32) (μ : Mg) (x : Nat → Nat → Int32) , k192 v4 v5 μ = some (res, μ2) → GW κ 0 0 (C μ.1 μ.2.1 μ.2.2 x) 192 [(3, .int (z3)), (4, .int (v4)), (5, .int (v5))] []), ∀ (v6 : Int32) (v7 : Int32) (μ : Mg) (x : Nat → Nat → Int32) , fn_X7_began_L178 z1 z2 z3 slf k192 v6 v7 μ = some (res, μ2) → GW κ 0 0 (C μ.1 μ.2.1 μ.2.2 x) 178 [(0, .ref h0), (1, .int (z1)), (2, .int (z2)), (3, .int (z3)), (6, .int (v6)), (7, .int (v7))] [] := by
    intro slf hslf k192 hk192 v6 v7 μ x h
    refine g_iload hX 4 rfl dX7_began_178 ?_
    refine g_istore (lv2 := [(4, .int (v6)), (0, .ref h0), (1, .int (z1)), (2, .int (z2)), (3, .int (z3)), (6, .int (v6)), (7, .int (v7))]) hX 4 10 hN (by decide) rfl dX7_began_180 ?_
    refine g_iload hX 6 rfl dX7_began_182 ?_
    refine g_istore (lv2 := [(5, .int (v7)), (4, .int (v6)), (0, .ref h0), (1, .int (z1)), (2, .int (z2)), (3, .int (z3)), (6, .int (v6)), (7, .int (v7))]) hX 5 10 hN (by decide) rfl dX7_began_184 ?_
    refine g_lv [2, 3, 4, 5, 1, 0, 6] rfl ?_
    exact (J186 slf hslf k192 hk192) v6 v7 v6 μ x h
  have J162 : ∀ (slf : Int32 → Int32 → Int32 → Mg → Option (Int32 × Mg)) (hslf : ∀ (v4 : Int32) (v5 : Int32) (v6 : Int32) (μ : Mg) (x : Nat → Nat → Int32) , slf v4 v5 v6 μ = some (res, μ2) → GW κ 0 0 (C μ.1 μ.2.1 μ.2.2 x) 58 [(0, .ref h0), (1, .int (z1)), (2, .int (z2)), (3, .int (z3)), (4, .int (v4)), (5, .int (v5)), (6, .int (v6))] []) (k192 : Int32 → Int32 → Mg → Option (Int32 × Mg)) (hk192 : ∀ (v4 : Int32) (v5 : Int32) (μ : Mg) (x : Nat → Nat → Int32) , k192 v4 v5 μ = some (res, μ2) → GW κ 0 0 (C μ.1 μ.2.1 μ.2.2 x) 192 [(3, .int (z3)), (4, .int (v4)), (5, .int (v5))] []), ∀ (v4 : Int32) (v5 : Int32) (v6 : Int32) (v7 : Int32) (μ : Mg) (x : Nat → Nat → Int32) , fn_X7_began_L162 z1 z2 z3 slf k192 v4 v5 v6 v7 μ = some (res, μ2) → GW κ 0 0 (C μ.1 μ.2.1 μ.2.2 x) 162 [(0, .ref h0), (1, .int (z1)), (2, .int (z2)), (3, .int (z3)), (4, .int (v4)), (5, .int (v5)), (6, .int (v6)), (7, .int (v7))] [] := by
    intro slf hslf k192 hk192 v4 v5 v6 v7 μ x h
    refine g_aload_n hX 0 rfl rfl dX7_began_162 ?_
    obtain ⟨y163, τ163, e163, h⟩ := ob_some h
    refine m_call hX hzo hC [] [] (ct_X7_laysBack _ _ _ _ hzo hC  μ _ x _ e163) kX7_laysBack tMet_X7_187 rfl rfl (Nat.le_of_ble_eq_true rfl) (Nat.le_of_ble_eq_true rfl) ⟨Nat.le_of_ble_eq_true rfl, Nat.le_of_ble_eq_true rfl⟩ rfl (Nat.le_of_ble_eq_true rfl) dX7_began_163 ?_
    rintro _ _ ⟨rfl, x163, rfl⟩
    show GW κ 0 0 (C τ163.1 τ163.2.1 τ163.2.2 x163) 166 [(0, .ref h0), (1, .int (z1)), (2, .int (z2)), (3, .int (z3)), (4, .int (v4)), (5, .int (v5)), (6, .int (v6)), (7, .int (v7))] []
    refine g_iload hX 4 rfl dX7_began_166 ?_
    refine g_if_lt hX 178 (by decide) dX7_began_168 (fun b168 => ?_) (fun b168 => ?_)
    · replace h := if_p b168 h
      refine g_lv [0, 1, 2, 3, 6, 7] rfl ?_
      exact (J178 slf hslf k192 hk192) v6 v7 τ163 x163 h
    · replace h := if_n b168 h
      refine g_iload hX 7 rfl dX7_began_171 ?_
      refine g_iload hX 5 rfl dX7_began_173 ?_
      refine g_icmp_ge hX 186 (by decide) dX7_began_175 (fun b175 => ?_) (fun b175 => ?_)
      · replace h := if_p b175 h
        refine g_lv [0, 1, 2, 3, 4, 5, 6] rfl ?_
        exact (J186 slf hslf k192 hk192) v4 v5 v6 τ163 x163 h
      · replace h := if_n b175 h
        refine g_lv [0, 1, 2, 3, 6, 7] rfl ?_
        exact (J178 slf hslf k192 hk192) v6 v7 τ163 x163 h
  have J153 : ∀ (slf : Int32 → Int32 → Int32 → Int32 → Int32 → Mg → Option (Int32 × Mg)) (hslf : ∀ (v4 : Int32) (v5 : Int32) (v6 : Int32) (v7 : Int32) (v8 : Int32) (μ : Mg) (x : Nat → Nat → Int32) , slf v4 v5 v6 v7 v8 μ = some (res, μ2) → GW κ 0 0 (C μ.1 μ.2.1 μ.2.2 x) 88 [(0, .ref h0), (1, .int (z1)), (2, .int (z2)), (3, .int (z3)), (4, .int (v4)), (5, .int (v5)), (6, .int (v6)), (7, .int (v7)), (8, .int (v8))] []) (k162 : Int32 → Int32 → Int32 → Int32 → Mg → Option (Int32 × Mg)) (hk162 : ∀ (v4 : Int32) (v5 : Int32) (v6 : Int32) (v7 : Int32) (μ : Mg) (x : Nat → Nat → Int32) , k162 v4 v5 v6 v7 μ = some (res, μ2) → GW κ 0 0 (C μ.1 μ.2.1 μ.2.2 x) 162 [(0, .ref h0), (1, .int (z1)), (2, .int (z2)), (3, .int (z3)), (4, .int (v4)), (5, .int (v5)), (6, .int (v6)), (7, .int (v7))] []), ∀ (v4 : Int32) (v5 : Int32) (v6 : Int32) (v8 : Int32) (s0 : Int32) (s1 : Int32) (μ : Mg) (x : Nat → Nat → Int32) , fn_X7_began_L153 z1 z2 z3 slf k162 v4 v5 v6 v8 s0 s1 μ = some (res, μ2) → GW κ 0 0 (C μ.1 μ.2.1 μ.2.2 x) 153 [(0, .ref h0), (1, .int (z1)), (2, .int (z2)), (3, .int (z3)), (4, .int (v4)), (5, .int (v5)), (6, .int (v6)), (8, .int (v8))] [.int (s0), .int (s1)] := by
    intro slf hslf k162 hk162 v4 v5 v6 v8 s0 s1 μ x h
    refine g_iadd hX dX7_began_153 ?_
    refine g_istore (lv2 := [(7, .int ((s1 + s0))), (0, .ref h0), (1, .int (z1)), (2, .int (z2)), (3, .int (z3)), (4, .int (v4)), (5, .int (v5)), (6, .int (v6)), (8, .int (v8))]) hX 7 10 hN (by decide) rfl dX7_began_154 ?_
    refine g_iinc (v := (v8 + nI 1)) (lv2 := [(8, .int ((v8 + nI 1))), (7, .int ((s1 + s0))), (0, .ref h0), (1, .int (z1)), (2, .int (z2)), (3, .int (z3)), (4, .int (v4)), (5, .int (v5)), (6, .int (v6))]) hX 8 8 10 hN rfl rfl (by decide) rfl dX7_began_156 ?_
    refine g_goto hX 88 (by decide) dX7_began_159 ?_
    refine g_lv [2, 3, 4, 5, 6, 7, 8, 1, 0] rfl ?_
    exact hslf v4 v5 v6 ((s1 + s0)) ((v8 + nI 1)) μ x h
  have J150 : ∀ (slf : Int32 → Int32 → Int32 → Int32 → Int32 → Mg → Option (Int32 × Mg)) (hslf : ∀ (v4 : Int32) (v5 : Int32) (v6 : Int32) (v7 : Int32) (v8 : Int32) (μ : Mg) (x : Nat → Nat → Int32) , slf v4 v5 v6 v7 v8 μ = some (res, μ2) → GW κ 0 0 (C μ.1 μ.2.1 μ.2.2 x) 88 [(0, .ref h0), (1, .int (z1)), (2, .int (z2)), (3, .int (z3)), (4, .int (v4)), (5, .int (v5)), (6, .int (v6)), (7, .int (v7)), (8, .int (v8))] []) (k162 : Int32 → Int32 → Int32 → Int32 → Mg → Option (Int32 × Mg)) (hk162 : ∀ (v4 : Int32) (v5 : Int32) (v6 : Int32) (v7 : Int32) (μ : Mg) (x : Nat → Nat → Int32) , k162 v4 v5 v6 v7 μ = some (res, μ2) → GW κ 0 0 (C μ.1 μ.2.1 μ.2.2 x) 162 [(0, .ref h0), (1, .int (z1)), (2, .int (z2)), (3, .int (z3)), (4, .int (v4)), (5, .int (v5)), (6, .int (v6)), (7, .int (v7))] []), ∀ (v4 : Int32) (v5 : Int32) (v6 : Int32) (v8 : Int32) (s0 : Int32) (s1 : Int32) (s2 : Int32) (μ : Mg) (x : Nat → Nat → Int32) , fn_X7_began_L150 z1 z2 z3 slf k162 v4 v5 v6 v8 s0 s1 s2 μ = some (res, μ2) → GW κ 0 0 (C μ.1 μ.2.1 μ.2.2 x) 150 [(0, .ref h0), (1, .int (z1)), (2, .int (z2)), (3, .int (z3)), (4, .int (v4)), (5, .int (v5)), (6, .int (v6)), (8, .int (v8))] [.int (s0), .int (s1), .int (s2)] := by
    intro slf hslf k162 hk162 v4 v5 v6 v8 s0 s1 s2 μ x h
    obtain ⟨y150, e150, h⟩ := o1_some h
    refine s_call hX hzo [.int (s1), .int (s0)] [.int (s2)] (ct_X7_off _ _ _ _ hzo _ s1 s0 _ e150) kX7_off tMet_X7_106 rfl rfl (Nat.le_of_ble_eq_true rfl) (Nat.le_of_ble_eq_true rfl) ⟨Nat.le_of_ble_eq_true rfl, Nat.le_of_ble_eq_true rfl⟩ rfl rfl (Nat.le_of_ble_eq_true rfl) dX7_began_150 ?_
    exact (J153 slf hslf k162 hk162) v4 v5 v6 v8 y150 s2 μ x h
  have J88 : ∀ (k162 : Int32 → Int32 → Int32 → Int32 → Mg → Option (Int32 × Mg)) (hk162 : ∀ (v4 : Int32) (v5 : Int32) (v6 : Int32) (v7 : Int32) (μ : Mg) (x : Nat → Nat → Int32) , k162 v4 v5 v6 v7 μ = some (res, μ2) → GW κ 0 0 (C μ.1 μ.2.1 μ.2.2 x) 162 [(0, .ref h0), (1, .int (z1)), (2, .int (z2)), (3, .int (z3)), (4, .int (v4)), (5, .int (v5)), (6, .int (v6)), (7, .int (v7))] []) (fuel : Nat), ∀ (v4 : Int32) (v5 : Int32) (v6 : Int32) (v7 : Int32) (v8 : Int32) (μ : Mg) (x : Nat → Nat → Int32) , fn_X7_began_L88 z1 z2 z3 k162 fuel v4 v5 v6 v7 v8 μ = some (res, μ2) → GW κ 0 0 (C μ.1 μ.2.1 μ.2.2 x) 88 [(0, .ref h0), (1, .int (z1)), (2, .int (z2)), (3, .int (z3)), (4, .int (v4)), (5, .int (v5)), (6, .int (v6)), (7, .int (v7)), (8, .int (v8))] [] := by
    intro k162 hk162 fuel
    induction fuel with
    | zero => intro v4 v5 v6 v7 v8 μ x h; cases (show none = some (res, μ2) from h)
    | succ fuel ih =>
      intro v4 v5 v6 v7 v8 μ x h
      replace h : (if ¬ (z1 < 0 ∨ 4 ≤ z1.toNatClampNeg) then (if μ.2.2 5 z1.toNatClampNeg ≤ v8 then (k162 v4 v5 v6 v7 μ) else (if ¬ (((nI 24 * z1) + v8) < 0 ∨ 96 ≤ (((nI 24 * z1) + v8)).toNatClampNeg) then (if μ.2.2 6 (((nI 24 * z1) + v8)).toNatClampNeg = (-1000000005) then ((fn_X7_began_L153 z1 z2 z3 (fn_X7_began_L88 z1 z2 z3 k162 fuel) k162) v4 v5 v6 v8 (nI 0) v7 μ) else (if ¬ (nI 0 < 0 ∨ 3069 ≤ (nI 0).toNatClampNeg) then (if μ.2.1 (nI 0).toNatClampNeg ≤ v8 then ((fn_X7_began_L150 z1 z2 z3 (fn_X7_began_L88 z1 z2 z3 k162 fuel) k162) v4 v5 v6 v8 (nI 0) (μ.2.2 6 (((nI 24 * z1) + v8)).toNatClampNeg) v7 μ) else (ob (fn_X7_of v8 (nI 4) μ) (fun y143 τ143 => ((fn_X7_began_L150 z1 z2 z3 (fn_X7_began_L88 z1 z2 z3 k162 fuel) k162) v4 v5 v6 v8 y143 (μ.2.2 6 (((nI 24 * z1) + v8)).toNatClampNeg) v7 τ143)))) else none)) else none)) else none) = some (res, μ2) := h
      refine g_iload hX 8 rfl dX7_began_88 ?_
      refine g_aload_n hX 0 rfl rfl dX7_began_90 ?_
      refine m_getA hX hC 5 (by decide) rfl tFld_X7_22 dX7_began_91 ?_
      refine g_iload_n hX 1 rfl rfl dX7_began_94 ?_
      obtain ⟨g1, h⟩ := gd_some h
      refine m_ald hX hC 5 rfl g1 dX7_began_95 ?_
      refine g_icmp_ge hX 162 (by decide) dX7_began_96 (fun b96 => ?_) (fun b96 => ?_)
      · replace h := if_p b96 h
        refine g_lv [0, 1, 2, 3, 4, 5, 6, 7] rfl ?_
        exact hk162 v4 v5 v6 v7 μ x h
      · replace h := if_n b96 h
        refine g_aload_n hX 0 rfl rfl dX7_began_99 ?_
        refine m_getA hX hC 6 (by decide) rfl tFld_X7_25 dX7_began_100 ?_
        refine g_bipush hX (v := nI 24) (by decide) dX7_began_103 ?_
        refine g_iload_n hX 1 rfl rfl dX7_began_105 ?_
        refine g_imul hX dX7_began_106 ?_
        refine g_iload hX 8 rfl dX7_began_107 ?_
        refine g_iadd hX dX7_began_109 ?_
        obtain ⟨g2, h⟩ := gd_some h
        refine m_ald hX hC 6 rfl g2 dX7_began_110 ?_
        refine g_istore (lv2 := [(9, .int (μ.2.2 6 (((nI 24 * z1) + v8)).toNatClampNeg)), (0, .ref h0), (1, .int (z1)), (2, .int (z2)), (3, .int (z3)), (4, .int (v4)), (5, .int (v5)), (6, .int (v6)), (7, .int (v7)), (8, .int (v8))]) hX 9 10 hN (by decide) rfl dX7_began_111 ?_
        refine g_iload hX 8 rfl dX7_began_113 ?_
        refine g_iload hX 0 rfl dX7_began_115 ?_
        refine g_ldc hX (v := -1000000005) (zu tCon_X7_70 rfl) dX7_began_117 ?_
        refine g_icmp_ne hX 126 (by decide) dX7_began_119 (fun b119 => ?_) (fun b119 => ?_)
        · replace h := if_n b119 h
          refine g_iload hX 0 rfl dX7_began_126 ?_
          refine g_iload hX 9 rfl dX7_began_128 ?_
          refine g_aload_n hX 1 rfl rfl dX7_began_130 ?_
          refine m_getA hX hC 0 (by decide) rfl tFld_X7_7 dX7_began_131 ?_
          refine g_iconst hX (v := nI 0) rfl dX7_began_134 ?_
          obtain ⟨g3, h⟩ := gd_some h
          refine m0_ald hX hC g3 dX7_began_135 ?_
          refine g_icmp_ge hX 149 (by decide) dX7_began_136 (fun b136 => ?_) (fun b136 => ?_)
          · replace h := if_p b136 h
            refine g_iconst hX (v := nI 0) rfl dX7_began_149 ?_
            refine g_lv [1, 2, 3, 4, 5, 6, 7, 9] rfl ?_
            exact (J150 (fn_X7_began_L88 z1 z2 z3 k162 fuel) ih k162 hk162) v4 v5 v6 v8 (nI 0) (μ.2.2 6 (((nI 24 * z1) + v8)).toNatClampNeg) v7 μ x h
          · replace h := if_n b136 h
            refine g_aload_n hX 1 rfl rfl dX7_began_139 ?_
            refine g_iload hX 9 rfl dX7_began_140 ?_
            refine g_iconst hX (v := nI 4) rfl dX7_began_142 ?_
            obtain ⟨y143, τ143, e143, h⟩ := ob_some h
            refine m_call hX hzo hC [.int (v8), .int (nI 4)] [.int (μ.2.2 6 (((nI 24 * z1) + v8)).toNatClampNeg), .int (v7)] (ct_X7_of _ _ _ _ hzo hC v8 (nI 4) μ _ x _ e143) kX7_of tMet_X7_75 rfl rfl (Nat.le_of_ble_eq_true rfl) (Nat.le_of_ble_eq_true rfl) ⟨Nat.le_of_ble_eq_true rfl, Nat.le_of_ble_eq_true rfl⟩ rfl (Nat.le_of_ble_eq_true rfl) dX7_began_143 ?_
            rintro _ _ ⟨rfl, x143, rfl⟩
            show GW κ 0 0 (C τ143.1 τ143.2.1 τ143.2.2 x143) 146 [(9, .int (μ.2.2 6 (((nI 24 * z1) + v8)).toNatClampNeg)), (0, .ref h0), (1, .int (z1)), (2, .int (z2)), (3, .int (z3)), (4, .int (v4)), (5, .int (v5)), (6, .int (v6)), (7, .int (v7)), (8, .int (v8))] [.int (y143), .int (μ.2.2 6 (((nI 24 * z1) + v8)).toNatClampNeg), .int (v7)]
            refine g_goto hX 150 (by decide) dX7_began_146 ?_
            refine g_lv [1, 2, 3, 4, 5, 6, 7, 9] rfl ?_
            exact (J150 (fn_X7_began_L88 z1 z2 z3 k162 fuel) ih k162 hk162) v4 v5 v6 v8 y143 (μ.2.2 6 (((nI 24 * z1) + v8)).toNatClampNeg) v7 τ143 x143 h
        · replace h := if_p b119 h
          refine g_iconst hX (v := nI 0) rfl dX7_began_122 ?_
          refine g_goto hX 153 (by decide) dX7_began_123 ?_
          refine g_lv [1, 2, 3, 4, 5, 6, 7, 9] rfl ?_
          exact (J153 (fn_X7_began_L88 z1 z2 z3 k162 fuel) ih k162 hk162) v4 v5 v6 v8 (nI 0) v7 μ x h
  have J58 : ∀ (k192 : Int32 → Int32 → Mg → Option (Int32 × Mg)) (hk192 : ∀ (v4 : Int32) (v5 : Int32) (μ : Mg) (x : Nat → Nat → Int32) , k192 v4 v5 μ = some (res, μ2) → GW κ 0 0 (C μ.1 μ.2.1 μ.2.2 x) 192 [(3, .int (z3)), (4, .int (v4)), (5, .int (v5))] []) (fuel : Nat), ∀ (v4 : Int32) (v5 : Int32) (v6 : Int32) (μ : Mg) (x : Nat → Nat → Int32) , fn_X7_began_L58 z1 z2 z3 k192 fuel v4 v5 v6 μ = some (res, μ2) → GW κ 0 0 (C μ.1 μ.2.1 μ.2.2 x) 58 [(0, .ref h0), (1, .int (z1)), (2, .int (z2)), (3, .int (z3)), (4, .int (v4)), (5, .int (v5)), (6, .int (v6))] [] := by
    intro k192 hk192 fuel
    induction fuel with
    | zero => intro v4 v5 v6 μ x h; cases (show none = some (res, μ2) from h)
    | succ fuel ih =>
      intro v4 v5 v6 μ x h
      replace h : (if ¬ (nI 0 < 0 ∨ 3069 ≤ (nI 0).toNatClampNeg) then (if μ.2.1 (nI 0).toNatClampNeg ≤ v6 then (k192 v4 v5 μ) else (ob (fn_X7_sets v6 (nI 3) (nI 0) μ) (fun y74 τ74 => (ob (fn_X7_goesOnMany z2 τ74) (fun y79 τ79 => ((fn_X7_began_L88 z1 z2 z3 (fn_X7_began_L162 z1 z2 z3 (fn_X7_began_L58 z1 z2 z3 k192 fuel) k192) 4000) v4 v5 v6 (nI 0) (nI 0) τ79)))))) else none) = some (res, μ2) := h
      refine g_iload hX 6 rfl dX7_began_58 ?_
      refine g_aload_n hX 0 rfl rfl dX7_began_60 ?_
      refine m_getA hX hC 0 (by decide) rfl tFld_X7_7 dX7_began_61 ?_
      refine g_iconst hX (v := nI 0) rfl dX7_began_64 ?_
      obtain ⟨g4, h⟩ := gd_some h
      refine m0_ald hX hC g4 dX7_began_65 ?_
      refine g_icmp_ge hX 192 (by decide) dX7_began_66 (fun b66 => ?_) (fun b66 => ?_)
      · replace h := if_p b66 h
        refine g_lv [3, 4, 5] rfl ?_
        exact hk192 v4 v5 μ x h
      · replace h := if_n b66 h
        refine g_aload_n hX 0 rfl rfl dX7_began_69 ?_
        refine g_iload hX 6 rfl dX7_began_70 ?_
        refine g_iconst hX (v := nI 3) rfl dX7_began_72 ?_
        refine g_iconst hX (v := nI 0) rfl dX7_began_73 ?_
        obtain ⟨y74, τ74, e74, h⟩ := ob_some h
        refine m_call hX hzo hC [.int (v6), .int (nI 3), .int (nI 0)] [] (ct_X7_sets _ _ _ _ hzo hC v6 (nI 3) (nI 0) μ _ x _ e74) kX7_sets tMet_X7_80 rfl rfl (Nat.le_of_ble_eq_true rfl) (Nat.le_of_ble_eq_true rfl) ⟨Nat.le_of_ble_eq_true rfl, Nat.le_of_ble_eq_true rfl⟩ rfl (Nat.le_of_ble_eq_true rfl) dX7_began_74 ?_
        rintro _ _ ⟨rfl, x74, rfl⟩
        show GW κ 0 0 (C τ74.1 τ74.2.1 τ74.2.2 x74) 77 [(0, .ref h0), (1, .int (z1)), (2, .int (z2)), (3, .int (z3)), (4, .int (v4)), (5, .int (v5)), (6, .int (v6))] []
        refine g_aload_n hX 0 rfl rfl dX7_began_77 ?_
        refine g_iload_n hX 2 rfl rfl dX7_began_78 ?_
        obtain ⟨y79, τ79, e79, h⟩ := ob_some h
        refine m_call hX hzo hC [.int (z2)] [] (ct_X7_goesOnMany _ _ _ _ hzo hC z2 τ74 _ x74 _ e79) kX7_goesOnMany tMet_X7_184 rfl rfl (Nat.le_of_ble_eq_true rfl) (Nat.le_of_ble_eq_true rfl) ⟨Nat.le_of_ble_eq_true rfl, Nat.le_of_ble_eq_true rfl⟩ rfl (Nat.le_of_ble_eq_true rfl) dX7_began_79 ?_
        rintro _ _ ⟨rfl, x79, rfl⟩
        show GW κ 0 0 (C τ79.1 τ79.2.1 τ79.2.2 x79) 82 [(0, .ref h0), (1, .int (z1)), (2, .int (z2)), (3, .int (z3)), (4, .int (v4)), (5, .int (v5)), (6, .int (v6))] []
        refine g_iconst hX (v := nI 0) rfl dX7_began_82 ?_
        refine g_istore (lv2 := [(7, .int (nI 0)), (0, .ref h0), (1, .int (z1)), (2, .int (z2)), (3, .int (z3)), (4, .int (v4)), (5, .int (v5)), (6, .int (v6))]) hX 7 10 hN (by decide) rfl dX7_began_83 ?_
        refine g_iconst hX (v := nI 0) rfl dX7_began_85 ?_
        refine g_istore (lv2 := [(8, .int (nI 0)), (7, .int (nI 0)), (0, .ref h0), (1, .int (z1)), (2, .int (z2)), (3, .int (z3)), (4, .int (v4)), (5, .int (v5)), (6, .int (v6))]) hX 8 10 hN (by decide) rfl dX7_began_86 ?_
        refine g_lv [2, 3, 4, 5, 6, 7, 8, 1, 0] rfl ?_
        exact (J88 (fn_X7_began_L162 z1 z2 z3 (fn_X7_began_L58 z1 z2 z3 k192 fuel) k192) (J162 (fn_X7_began_L58 z1 z2 z3 k192 fuel) ih k192 hk192) 4000) v4 v5 v6 (nI 0) (nI 0) τ79 x79 h
  have J29 : ∀ (μ : Mg) (x : Nat → Nat → Int32) , fn_X7_began_L29 z1 z2 z3  μ = some (res, μ2) → GW κ 0 0 (C μ.1 μ.2.1 μ.2.2 x) 29 [] [] := by
    intro μ x h
    refine g_ldc hX (v := -1000000001) (zu tCon_X7_100 rfl) dX7_began_29 ?_
    exact g_retiP hR ⟨by rw [oi_1 h], x, by rw [← oi_2 h]⟩ dX7_began_31
  show GW κ 0 0 (C μ.1 μ.2.1 μ.2.2 x) 0 [(0, .ref h0), (1, .int (z1)), (2, .int (z2)), (3, .int (z3))] []
  refine g_iload_n hX 1 rfl rfl dX7_began_0 ?_
  obtain ⟨y1, e1, h⟩ := o1_some h
  refine s_call hX hzo [.int (z1)] [] (ct_X7_isSheet _ _ _ _ hzo _ z1 _ e1) kX7_isSheet tMet_X7_302 rfl rfl (Nat.le_of_ble_eq_true rfl) (Nat.le_of_ble_eq_true rfl) ⟨Nat.le_of_ble_eq_true rfl, Nat.le_of_ble_eq_true rfl⟩ rfl rfl (Nat.le_of_ble_eq_true rfl) dX7_began_1 ?_
  refine g_if_eq hX 29 (by decide) dX7_began_4 (fun b4 => ?_) (fun b4 => ?_)
  · replace h := if_p b4 h
    refine g_lv [] rfl ?_
    exact J29  μ x h
  · replace h := if_n b4 h
    refine g_iload_n hX 2 rfl rfl dX7_began_7 ?_
    refine g_i2l hX dX7_began_8 ?_
    refine g_lconst hX (v := Int32.toInt64 (0)) (by decide) dX7_began_9 ?_
    refine g_ldc2 hX (v := Int32.toInt64 (60)) (zu tCoL_X7_193 rfl) dX7_began_10 ?_
    refine s_call hX hzo [.long (Int32.toInt64 (z2)), .long (Int32.toInt64 ((0))), .long (Int32.toInt64 ((60)))] [] (c_isIn _ _ _ _ _ (z2) ((0)) ((60))) kX7_isIn tMet_X7_71 rfl rfl (Nat.le_of_ble_eq_true rfl) (Nat.le_of_ble_eq_true rfl) ⟨Nat.le_of_ble_eq_true rfl, Nat.le_of_ble_eq_true rfl⟩ rfl rfl (Nat.le_of_ble_eq_true rfl) dX7_began_13 ?_
    refine g_if_eq hX 29 (by decide) dX7_began_16 (fun b16 => ?_) (fun b16 => ?_)
    · replace h := if_p b16 h
      refine g_lv [] rfl ?_
      exact J29  μ x h
    · replace h := if_n b16 h
      refine g_iload_n hX 3 rfl rfl dX7_began_19 ?_
      refine g_i2l hX dX7_began_20 ?_
      refine g_lconst hX (v := Int32.toInt64 (0)) (by decide) dX7_began_21 ?_
      refine g_lconst hX (v := Int32.toInt64 (1)) (by decide) dX7_began_22 ?_
      refine s_call hX hzo [.long (Int32.toInt64 (z3)), .long (Int32.toInt64 ((0))), .long (Int32.toInt64 ((1)))] [] (c_isIn _ _ _ _ _ (z3) ((0)) ((1))) kX7_isIn tMet_X7_71 rfl rfl (Nat.le_of_ble_eq_true rfl) (Nat.le_of_ble_eq_true rfl) ⟨Nat.le_of_ble_eq_true rfl, Nat.le_of_ble_eq_true rfl⟩ rfl rfl (Nat.le_of_ble_eq_true rfl) dX7_began_23 ?_
      refine g_if_ne hX 32 (by decide) dX7_began_26 (fun b26 => ?_) (fun b26 => ?_)
      · replace h := if_n b26 h
        refine g_aload_n hX 0 rfl rfl dX7_began_32 ?_
        refine m_getA hX hC 4 (by decide) rfl tFld_X7_19 dX7_began_33 ?_
        refine g_iload_n hX 1 rfl rfl dX7_began_36 ?_
        obtain ⟨g5, h⟩ := gd_some h
        refine m_ald hX hC 4 rfl g5 dX7_began_37 ?_
        refine g_if_ge hX 45 (by decide) dX7_began_38 (fun b38 => ?_) (fun b38 => ?_)
        · replace h := if_p b38 h
          refine g_aload_n hX 0 rfl rfl dX7_began_45 ?_
          obtain ⟨y46, τ46, e46, h⟩ := ob_some h
          refine m_call hX hzo hC [] [] (ct_X7_laysBy _ _ _ _ hzo hC  μ _ x _ e46) kX7_laysBy tMet_X7_181 rfl rfl (Nat.le_of_ble_eq_true rfl) (Nat.le_of_ble_eq_true rfl) ⟨Nat.le_of_ble_eq_true rfl, Nat.le_of_ble_eq_true rfl⟩ rfl (Nat.le_of_ble_eq_true rfl) dX7_began_46 ?_
          rintro _ _ ⟨rfl, x46, rfl⟩
          show GW κ 0 0 (C τ46.1 τ46.2.1 τ46.2.2 x46) 49 [(0, .ref h0), (1, .int (z1)), (2, .int (z2)), (3, .int (z3))] []
          refine g_iconst hX (v := -1) (by decide) dX7_began_49 ?_
          refine g_istore (lv2 := [(4, .int ((-1))), (0, .ref h0), (1, .int (z1)), (2, .int (z2)), (3, .int (z3))]) hX 4 10 hN (by decide) rfl dX7_began_50 ?_
          refine g_iconst hX (v := nI 0) rfl dX7_began_52 ?_
          refine g_istore (lv2 := [(5, .int (nI 0)), (4, .int ((-1))), (0, .ref h0), (1, .int (z1)), (2, .int (z2)), (3, .int (z3))]) hX 5 10 hN (by decide) rfl dX7_began_53 ?_
          refine g_iconst hX (v := nI 0) rfl dX7_began_55 ?_
          refine g_istore (lv2 := [(6, .int (nI 0)), (5, .int (nI 0)), (4, .int ((-1))), (0, .ref h0), (1, .int (z1)), (2, .int (z2)), (3, .int (z3))]) hX 6 10 hN (by decide) rfl dX7_began_56 ?_
          refine g_lv [3, 4, 5, 6, 2, 1, 0] rfl ?_
          exact (J58 (fn_X7_began_L192 z1 z2 z3) J192 4000) ((-1)) (nI 0) (nI 0) τ46 x46 h
        · replace h := if_n b38 h
          refine g_ldcw hX (v := -1000000011) (zu tCon_X7_308 rfl) dX7_began_41 ?_
          exact g_retiP hR ⟨by rw [oi_1 h], x, by rw [← oi_2 h]⟩ dX7_began_44
      · replace h := if_p b26 h
        refine g_lv [] rfl ?_
        exact J29  μ x h
theorem kX7_copy : mKV RX7 yX7_copy cX7_copy 7 (some .int) 5 := ⟨tIns_X7_copy, tSel_X7_copy, tIni_X7, tCod_X7_copy, by decide +kernel⟩
set_option maxHeartbeats 4000000 in
set_option maxRecDepth 100000 in
theorem ct_X7_copy (l : Launch) (D : va_G) (cy : Nat → ClassId) (Z : (Nat → Prop) → State → Heap → Prop) (hzo : zOK Z) {h0 : Nat} {a q : Nat → Nat} {C : (Nat → Int32) → (Nat → Int32) → (Nat → Nat → Int32) → (Nat → Nat → Int32) → va_W} (hC : mLens (cy 0) h0 a q C) (z1 : Int32) (z2 : Int32) (z3 : Int32) (z4 : Int32) (z5 : Int32) (μ μ2 : Mg) (x : Nat → Nat → Int32) (res : Int32) (h : fn_X7_copy z1 z2 z3 z4 z5 μ = some (res, μ2)) : GM l D cy Z yX7_copy (zW yX7_copy cX7_copy 7 (some .int)) { frames := 2, cells := 0, slots := 0, locals := 45 } [.ref h0, .int (z1), .int (z2), .int (z3), .int (z4), .int (z5)] (C μ.1 μ.2.1 μ.2.2 x) (fun rs w2 => rs = some (.int res) ∧ ∃ x2, w2 = C μ2.1 μ2.2.1 μ2.2.2 x2) 0 0 := by
  refine g_entry (cc := cX7_copy) (maxL := 7) (by decide) rfl (Nat.le_of_ble_eq_true rfl) ?_
  intro κ hN hX hR
  have hX : GX κ cy Z cX7_copy (Cond.code yX7_copy cX7_copy 7 (some .int) :: zT) RX7 { frames := 2, cells := 0, slots := 0, locals := 45 } := hX
  have J185 : ∀ (μ : Mg) (x : Nat → Nat → Int32) , fn_X7_copy_L185 z1 z2 z3 z4 z5  μ = some (res, μ2) → GW κ 0 0 (C μ.1 μ.2.1 μ.2.2 x) 185 [(5, .int (z5))] [] := by
    intro μ x h
    refine g_iload hX 0 rfl dX7_copy_185 ?_
    exact g_retiP hR ⟨by rw [oi_1 h], x, by rw [← oi_2 h]⟩ dX7_copy_187
  have J150 : ∀ (k185 : Mg → Option (Int32 × Mg)) (hk185 : ∀ (μ : Mg) (x : Nat → Nat → Int32) , k185  μ = some (res, μ2) → GW κ 0 0 (C μ.1 μ.2.1 μ.2.2 x) 185 [(5, .int (z5))] []) (fuel : Nat), ∀ (v6 : Int32) (μ : Mg) (x : Nat → Nat → Int32) , fn_X7_copy_L150 z1 z2 z3 z4 z5 k185 fuel v6 μ = some (res, μ2) → GW κ 0 0 (C μ.1 μ.2.1 μ.2.2 x) 150 [(0, .ref h0), (3, .int (z3)), (4, .int (z4)), (5, .int (z5)), (6, .int (v6))] [] := by
    intro k185 hk185 fuel
    induction fuel with
    | zero => intro v6 μ x h; cases (show none = some (res, μ2) from h)
    | succ fuel ih =>
      intro v6 μ x h
      replace h : (if z5 ≤ v6 then (k185  μ) else (if ¬ (v6 < 0 ∨ 24 ≤ v6.toNatClampNeg) then (if ¬ ((((nI 24 * z3) + z4) + v6) < 0 ∨ 96 ≤ ((((nI 24 * z3) + z4) + v6)).toNatClampNeg) then ((fn_X7_copy_L150 z1 z2 z3 z4 z5 k185 fuel) ((v6 + nI 1)) ((μ.1, μ.2.1, mU μ.2.2 6 (upd (μ.2.2 6) ((((nI 24 * z3) + z4) + v6)).toNatClampNeg (μ.2.2 29 v6.toNatClampNeg))))) else none) else none)) = some (res, μ2) := h
      refine g_iload hX 4 rfl dX7_copy_150 ?_
      refine g_iload hX 3 rfl dX7_copy_152 ?_
      refine g_icmp_ge hX 185 (by decide) dX7_copy_154 (fun b154 => ?_) (fun b154 => ?_)
      · replace h := if_p b154 h
        refine g_lv [3] rfl ?_
        exact hk185  μ x h
      · replace h := if_n b154 h
        refine g_aload_n hX 0 rfl rfl dX7_copy_157 ?_
        refine m_getA hX hC 6 (by decide) rfl tFld_X7_25 dX7_copy_158 ?_
        refine g_bipush hX (v := nI 24) (by decide) dX7_copy_161 ?_
        refine g_iload_n hX 1 rfl rfl dX7_copy_163 ?_
        refine g_imul hX dX7_copy_164 ?_
        refine g_iload hX 2 rfl dX7_copy_165 ?_
        refine g_iadd hX dX7_copy_167 ?_
        refine g_iload hX 4 rfl dX7_copy_168 ?_
        refine g_iadd hX dX7_copy_170 ?_
        refine g_aload_n hX 0 rfl rfl dX7_copy_171 ?_
        refine m_getA hX hC 29 (by decide) rfl tFld_X7_61 dX7_copy_172 ?_
        refine g_iload hX 4 rfl dX7_copy_175 ?_
        obtain ⟨g1, h⟩ := gd_some h
        refine m_ald hX hC 29 rfl g1 dX7_copy_177 ?_
        obtain ⟨g2, h⟩ := gd_some h
        refine m_ast hX hC 6 rfl g2 dX7_copy_178 ?_
        refine g_iinc (v := (v6 + nI 1)) (lv2 := [(6, .int ((v6 + nI 1))), (0, .ref h0), (3, .int (z3)), (4, .int (z4)), (5, .int (z5))]) hX 4 6 7 hN rfl rfl (by decide) rfl dX7_copy_179 ?_
        refine g_goto hX 150 (by decide) dX7_copy_182 ?_
        refine g_lv [1, 2, 3, 4, 0] rfl ?_
        exact ih ((v6 + nI 1)) ((μ.1, μ.2.1, mU μ.2.2 6 (upd (μ.2.2 6) ((((nI 24 * z3) + z4) + v6)).toNatClampNeg (μ.2.2 29 v6.toNatClampNeg)))) x h
  have J147 : ∀ (μ : Mg) (x : Nat → Nat → Int32) , fn_X7_copy_L147 z1 z2 z3 z4 z5  μ = some (res, μ2) → GW κ 0 0 (C μ.1 μ.2.1 μ.2.2 x) 147 [(0, .ref h0), (3, .int (z3)), (4, .int (z4)), (5, .int (z5))] [] := by
    intro μ x h
    refine g_iconst hX (v := nI 0) rfl dX7_copy_147 ?_
    refine g_istore (lv2 := [(6, .int (nI 0)), (0, .ref h0), (3, .int (z3)), (4, .int (z4)), (5, .int (z5))]) hX 6 7 hN (by decide) rfl dX7_copy_148 ?_
    refine g_lv [1, 2, 3, 4, 0] rfl ?_
    exact (J150 (fn_X7_copy_L185 z1 z2 z3 z4 z5) J185 4000) (nI 0) μ x h
  have J113 : ∀ (k147 : Mg → Option (Int32 × Mg)) (hk147 : ∀ (μ : Mg) (x : Nat → Nat → Int32) , k147  μ = some (res, μ2) → GW κ 0 0 (C μ.1 μ.2.1 μ.2.2 x) 147 [(0, .ref h0), (3, .int (z3)), (4, .int (z4)), (5, .int (z5))] []) (fuel : Nat), ∀ (v6 : Int32) (μ : Mg) (x : Nat → Nat → Int32) , fn_X7_copy_L113 z1 z2 z3 z4 z5 k147 fuel v6 μ = some (res, μ2) → GW κ 0 0 (C μ.1 μ.2.1 μ.2.2 x) 113 [(0, .ref h0), (1, .int (z1)), (2, .int (z2)), (3, .int (z3)), (4, .int (z4)), (5, .int (z5)), (6, .int (v6))] [] := by
    intro k147 hk147 fuel
    induction fuel with
    | zero => intro v6 μ x h; cases (show none = some (res, μ2) from h)
    | succ fuel ih =>
      intro v6 μ x h
      replace h : (if z5 ≤ v6 then (k147  μ) else (if ¬ ((((nI 24 * z1) + z2) + v6) < 0 ∨ 96 ≤ ((((nI 24 * z1) + z2) + v6)).toNatClampNeg) then (if ¬ (v6 < 0 ∨ 24 ≤ v6.toNatClampNeg) then ((fn_X7_copy_L113 z1 z2 z3 z4 z5 k147 fuel) ((v6 + nI 1)) ((μ.1, μ.2.1, mU μ.2.2 29 (upd (μ.2.2 29) v6.toNatClampNeg (μ.2.2 6 ((((nI 24 * z1) + z2) + v6)).toNatClampNeg))))) else none) else none)) = some (res, μ2) := h
      refine g_iload hX 6 rfl dX7_copy_113 ?_
      refine g_iload hX 5 rfl dX7_copy_115 ?_
      refine g_icmp_ge hX 147 (by decide) dX7_copy_117 (fun b117 => ?_) (fun b117 => ?_)
      · replace h := if_p b117 h
        refine g_lv [0, 3, 4, 5] rfl ?_
        exact hk147  μ x h
      · replace h := if_n b117 h
        refine g_aload_n hX 0 rfl rfl dX7_copy_120 ?_
        refine m_getA hX hC 29 (by decide) rfl tFld_X7_61 dX7_copy_121 ?_
        refine g_iload hX 6 rfl dX7_copy_124 ?_
        refine g_aload_n hX 0 rfl rfl dX7_copy_126 ?_
        refine m_getA hX hC 6 (by decide) rfl tFld_X7_25 dX7_copy_127 ?_
        refine g_bipush hX (v := nI 24) (by decide) dX7_copy_130 ?_
        refine g_iload_n hX 1 rfl rfl dX7_copy_132 ?_
        refine g_imul hX dX7_copy_133 ?_
        refine g_iload_n hX 2 rfl rfl dX7_copy_134 ?_
        refine g_iadd hX dX7_copy_135 ?_
        refine g_iload hX 6 rfl dX7_copy_136 ?_
        refine g_iadd hX dX7_copy_138 ?_
        obtain ⟨g3, h⟩ := gd_some h
        refine m_ald hX hC 6 rfl g3 dX7_copy_139 ?_
        obtain ⟨g4, h⟩ := gd_some h
        refine m_ast hX hC 29 rfl g4 dX7_copy_140 ?_
        refine g_iinc (v := (v6 + nI 1)) (lv2 := [(6, .int ((v6 + nI 1))), (0, .ref h0), (1, .int (z1)), (2, .int (z2)), (3, .int (z3)), (4, .int (z4)), (5, .int (z5))]) hX 6 6 7 hN rfl rfl (by decide) rfl dX7_copy_141 ?_
        refine g_goto hX 113 (by decide) dX7_copy_144 ?_
        refine g_lv [1, 2, 3, 4, 5, 6, 0] rfl ?_
        exact ih ((v6 + nI 1)) ((μ.1, μ.2.1, mU μ.2.2 29 (upd (μ.2.2 29) v6.toNatClampNeg (μ.2.2 6 ((((nI 24 * z1) + z2) + v6)).toNatClampNeg)))) x h
  have J106 : ∀ (μ : Mg) (x : Nat → Nat → Int32) , fn_X7_copy_L106 z1 z2 z3 z4 z5  μ = some (res, μ2) → GW κ 0 0 (C μ.1 μ.2.1 μ.2.2 x) 106 [] [] := by
    intro μ x h
    refine g_ldcw hX (v := -1000000013) (zu tCon_X7_309 rfl) dX7_copy_106 ?_
    exact g_retiP hR ⟨by rw [oi_1 h], x, by rw [← oi_2 h]⟩ dX7_copy_109
  have J35 : ∀ (μ : Mg) (x : Nat → Nat → Int32) , fn_X7_copy_L35 z1 z2 z3 z4 z5  μ = some (res, μ2) → GW κ 0 0 (C μ.1 μ.2.1 μ.2.2 x) 35 [] [] := by
    intro μ x h
    refine g_ldcw hX (v := -1000000011) (zu tCon_X7_308 rfl) dX7_copy_35 ?_
    exact g_retiP hR ⟨by rw [oi_1 h], x, by rw [← oi_2 h]⟩ dX7_copy_38
  have J14 : ∀ (μ : Mg) (x : Nat → Nat → Int32) , fn_X7_copy_L14 z1 z2 z3 z4 z5  μ = some (res, μ2) → GW κ 0 0 (C μ.1 μ.2.1 μ.2.2 x) 14 [] [] := by
    intro μ x h
    refine g_ldc hX (v := -1000000001) (zu tCon_X7_100 rfl) dX7_copy_14 ?_
    exact g_retiP hR ⟨by rw [oi_1 h], x, by rw [← oi_2 h]⟩ dX7_copy_16
  show GW κ 0 0 (C μ.1 μ.2.1 μ.2.2 x) 0 [(0, .ref h0), (1, .int (z1)), (2, .int (z2)), (3, .int (z3)), (4, .int (z4)), (5, .int (z5))] []
  refine g_iload_n hX 1 rfl rfl dX7_copy_0 ?_
  obtain ⟨y1, e1, h⟩ := o1_some h
  refine s_call hX hzo [.int (z1)] [] (ct_X7_isSheet _ _ _ _ hzo _ z1 _ e1) kX7_isSheet tMet_X7_302 rfl rfl (Nat.le_of_ble_eq_true rfl) (Nat.le_of_ble_eq_true rfl) ⟨Nat.le_of_ble_eq_true rfl, Nat.le_of_ble_eq_true rfl⟩ rfl rfl (Nat.le_of_ble_eq_true rfl) dX7_copy_1 ?_
  refine g_if_eq hX 14 (by decide) dX7_copy_4 (fun b4 => ?_) (fun b4 => ?_)
  · replace h := if_p b4 h
    refine g_lv [] rfl ?_
    exact J14  μ x h
  · replace h := if_n b4 h
    refine g_iload_n hX 3 rfl rfl dX7_copy_7 ?_
    obtain ⟨y8, e8, h⟩ := o1_some h
    refine s_call hX hzo [.int (z3)] [] (ct_X7_isSheet _ _ _ _ hzo _ z3 _ e8) kX7_isSheet tMet_X7_302 rfl rfl (Nat.le_of_ble_eq_true rfl) (Nat.le_of_ble_eq_true rfl) ⟨Nat.le_of_ble_eq_true rfl, Nat.le_of_ble_eq_true rfl⟩ rfl rfl (Nat.le_of_ble_eq_true rfl) dX7_copy_8 ?_
    refine g_if_ne hX 17 (by decide) dX7_copy_11 (fun b11 => ?_) (fun b11 => ?_)
    · replace h := if_n b11 h
      refine g_aload_n hX 0 rfl rfl dX7_copy_17 ?_
      refine m_getA hX hC 4 (by decide) rfl tFld_X7_19 dX7_copy_18 ?_
      refine g_iload_n hX 1 rfl rfl dX7_copy_21 ?_
      obtain ⟨g5, h⟩ := gd_some h
      refine m_ald hX hC 4 rfl g5 dX7_copy_22 ?_
      refine g_if_lt hX 35 (by decide) dX7_copy_23 (fun b23 => ?_) (fun b23 => ?_)
      · replace h := if_p b23 h
        refine g_lv [] rfl ?_
        exact J35  μ x h
      · replace h := if_n b23 h
        refine g_aload_n hX 0 rfl rfl dX7_copy_26 ?_
        refine m_getA hX hC 4 (by decide) rfl tFld_X7_19 dX7_copy_27 ?_
        refine g_iload_n hX 3 rfl rfl dX7_copy_30 ?_
        obtain ⟨g6, h⟩ := gd_some h
        refine m_ald hX hC 4 rfl g6 dX7_copy_31 ?_
        refine g_if_ge hX 39 (by decide) dX7_copy_32 (fun b32 => ?_) (fun b32 => ?_)
        · replace h := if_p b32 h
          refine g_aload_n hX 0 rfl rfl dX7_copy_39 ?_
          refine m_getA hX hC 4 (by decide) rfl tFld_X7_19 dX7_copy_40 ?_
          refine g_iload_n hX 1 rfl rfl dX7_copy_43 ?_
          refine m_ald hX hC 4 rfl g5 dX7_copy_44 ?_
          refine g_aload_n hX 0 rfl rfl dX7_copy_45 ?_
          refine m_getA hX hC 4 (by decide) rfl tFld_X7_19 dX7_copy_46 ?_
          refine g_iload_n hX 3 rfl rfl dX7_copy_49 ?_
          refine m_ald hX hC 4 rfl g6 dX7_copy_50 ?_
          refine g_icmp_eq hX 57 (by decide) dX7_copy_51 (fun b51 => ?_) (fun b51 => ?_)
          · replace h := if_p b51 h
            refine g_iload_n hX 2 rfl rfl dX7_copy_57 ?_
            refine g_if_lt hX 106 (by decide) dX7_copy_58 (fun b58 => ?_) (fun b58 => ?_)
            · replace h := if_p b58 h
              refine g_lv [] rfl ?_
              exact J106  μ x h
            · replace h := if_n b58 h
              refine g_iload hX 4 rfl dX7_copy_61 ?_
              refine g_if_lt hX 106 (by decide) dX7_copy_63 (fun b63 => ?_) (fun b63 => ?_)
              · replace h := if_p b63 h
                refine g_lv [] rfl ?_
                exact J106  μ x h
              · replace h := if_n b63 h
                refine g_iload hX 5 rfl dX7_copy_66 ?_
                refine g_if_lt hX 106 (by decide) dX7_copy_68 (fun b68 => ?_) (fun b68 => ?_)
                · replace h := if_p b68 h
                  refine g_lv [] rfl ?_
                  exact J106  μ x h
                · replace h := if_n b68 h
                  refine g_iload_n hX 2 rfl rfl dX7_copy_71 ?_
                  refine g_i2l hX dX7_copy_72 ?_
                  refine g_iload hX 5 rfl dX7_copy_73 ?_
                  refine g_i2l hX dX7_copy_75 ?_
                  refine g_ladd hX dX7_copy_76 ?_
                  refine g_aload_n hX 0 rfl rfl dX7_copy_77 ?_
                  refine m_getA hX hC 5 (by decide) rfl tFld_X7_22 dX7_copy_78 ?_
                  refine g_iload_n hX 1 rfl rfl dX7_copy_81 ?_
                  refine m_ald hX hC 5 rfl g5 dX7_copy_82 ?_
                  refine g_i2l hX dX7_copy_83 ?_
                  refine g_lcmp hX dX7_copy_84 ?_
                  refine g_if_gt hX 106 (by decide) dX7_copy_85 (fun b85 => ?_) (fun b85 => ?_)
                  · replace h := if_p b85 h
                    refine g_lv [] rfl ?_
                    exact J106  μ x h
                  · replace h := if_n b85 h
                    refine g_iload hX 4 rfl dX7_copy_88 ?_
                    refine g_i2l hX dX7_copy_90 ?_
                    refine g_iload hX 5 rfl dX7_copy_91 ?_
                    refine g_i2l hX dX7_copy_93 ?_
                    refine g_ladd hX dX7_copy_94 ?_
                    refine g_aload_n hX 0 rfl rfl dX7_copy_95 ?_
                    refine m_getA hX hC 5 (by decide) rfl tFld_X7_22 dX7_copy_96 ?_
                    refine g_iload_n hX 3 rfl rfl dX7_copy_99 ?_
                    refine m_ald hX hC 5 rfl g6 dX7_copy_100 ?_
                    refine g_i2l hX dX7_copy_101 ?_
                    refine g_lcmp hX dX7_copy_102 ?_
                    refine g_if_le hX 110 (by decide) dX7_copy_103 (fun b103 => ?_) (fun b103 => ?_)
                    · replace h := if_p b103 h
                      refine g_iconst hX (v := nI 0) rfl dX7_copy_110 ?_
                      refine g_istore (lv2 := [(6, .int (nI 0)), (0, .ref h0), (1, .int (z1)), (2, .int (z2)), (3, .int (z3)), (4, .int (z4)), (5, .int (z5))]) hX 6 7 hN (by decide) rfl dX7_copy_111 ?_
                      refine g_lv [1, 2, 3, 4, 5, 6, 0] rfl ?_
                      exact (J113 (fn_X7_copy_L147 z1 z2 z3 z4 z5) J147 4000) (nI 0) μ x h
                    · replace h := if_n b103 h
                      refine g_lv [] rfl ?_
                      exact J106  μ x h
          · replace h := if_n b51 h
            refine g_ldc hX (v := -1000000012) (zu tCon_X7_148 rfl) dX7_copy_54 ?_
            exact g_retiP hR ⟨by rw [oi_1 h], x, by rw [← oi_2 h]⟩ dX7_copy_56
        · replace h := if_n b32 h
          refine g_lv [] rfl ?_
          exact J35  μ x h
    · replace h := if_p b11 h
      refine g_lv [] rfl ?_
      exact J14  μ x h
theorem kX7_lay : mKV RX7 yX7_lay cX7_lay 7 (some .int) 3 := ⟨tIns_X7_lay, tSel_X7_lay, tIni_X7, tCod_X7_lay, by decide +kernel⟩
set_option maxHeartbeats 4000000 in
set_option maxRecDepth 100000 in
theorem ct_X7_lay (l : Launch) (D : va_G) (cy : Nat → ClassId) (Z : (Nat → Prop) → State → Heap → Prop) (hzo : zOK Z) {h0 : Nat} {a q : Nat → Nat} {C : (Nat → Int32) → (Nat → Int32) → (Nat → Nat → Int32) → (Nat → Nat → Int32) → va_W} (hC : mLens (cy 0) h0 a q C) (z1 : Int32) (z2 : Int32) (z3 : Int32) (μ μ2 : Mg) (x : Nat → Nat → Int32) (res : Int32) (h : fn_X7_lay z1 z2 z3 μ = some (res, μ2)) : GM l D cy Z yX7_lay (zW yX7_lay cX7_lay 7 (some .int)) { frames := 2, cells := 0, slots := 0, locals := 46 } [.ref h0, .int (z1), .int (z2), .int (z3)] (C μ.1 μ.2.1 μ.2.2 x) (fun rs w2 => rs = some (.int res) ∧ ∃ x2, w2 = C μ2.1 μ2.2.1 μ2.2.2 x2) 0 0 := by
  refine g_entry (cc := cX7_lay) (maxL := 7) (by decide) rfl (Nat.le_of_ble_eq_true rfl) ?_
  intro κ hN hX hR
  have hX : GX κ cy Z cX7_lay (Cond.code yX7_lay cX7_lay 7 (some .int) :: zT) RX7 { frames := 2, cells := 0, slots := 0, locals := 46 } := hX
  have J187 : ∀ (v5 : Int32) (μ : Mg) (x : Nat → Nat → Int32) , fn_X7_lay_L187 z1 z2 z3 v5 μ = some (res, μ2) → GW κ 0 0 (C μ.1 μ.2.1 μ.2.2 x) 187 [(5, .int (v5))] [] := by
    intro v5 μ x h
    refine g_iload hX 0 rfl dX7_lay_187 ?_
    exact g_retiP hR ⟨by rw [oi_1 h], x, by rw [← oi_2 h]⟩ dX7_lay_189
  have J150 : ∀ (k187 : Int32 → Mg → Option (Int32 × Mg)) (hk187 : ∀ (v5 : Int32) (μ : Mg) (x : Nat → Nat → Int32) , k187 v5 μ = some (res, μ2) → GW κ 0 0 (C μ.1 μ.2.1 μ.2.2 x) 187 [(5, .int (v5))] []) (fuel : Nat), ∀ (v5 : Int32) (v6 : Int32) (μ : Mg) (x : Nat → Nat → Int32) , fn_X7_lay_L150 z1 z2 z3 k187 fuel v5 v6 μ = some (res, μ2) → GW κ 0 0 (C μ.1 μ.2.1 μ.2.2 x) 150 [(0, .ref h0), (1, .int (z1)), (3, .int (z3)), (5, .int (v5)), (6, .int (v6))] [] := by
    intro k187 hk187 fuel
    induction fuel with
    | zero => intro v5 v6 μ x h; cases (show none = some (res, μ2) from h)
    | succ fuel ih =>
      intro v5 v6 μ x h
      replace h : (if nI 24 ≤ v6 then (k187 v5 μ) else (if ¬ (((nI 24 * z3) + v6) < 0 ∨ 96 ≤ (((nI 24 * z3) + v6)).toNatClampNeg) then (if ¬ (((nI 24 * z1) + v6) < 0 ∨ 120 ≤ (((nI 24 * z1) + v6)).toNatClampNeg) then ((fn_X7_lay_L150 z1 z2 z3 k187 fuel) v5 ((v6 + nI 1)) ((μ.1, μ.2.1, mU μ.2.2 11 (upd (μ.2.2 11) (((nI 24 * z1) + v6)).toNatClampNeg (μ.2.2 6 (((nI 24 * z3) + v6)).toNatClampNeg))))) else none) else none)) = some (res, μ2) := h
      refine g_iload hX 4 rfl dX7_lay_150 ?_
      refine g_bipush hX (v := nI 24) (by decide) dX7_lay_152 ?_
      refine g_icmp_ge hX 187 (by decide) dX7_lay_154 (fun b154 => ?_) (fun b154 => ?_)
      · replace h := if_p b154 h
        refine g_lv [3] rfl ?_
        exact hk187 v5 μ x h
      · replace h := if_n b154 h
        refine g_aload_n hX 0 rfl rfl dX7_lay_157 ?_
        refine m_getA hX hC 11 (by decide) rfl tFld_X7_40 dX7_lay_158 ?_
        refine g_bipush hX (v := nI 24) (by decide) dX7_lay_161 ?_
        refine g_iload_n hX 1 rfl rfl dX7_lay_163 ?_
        refine g_imul hX dX7_lay_164 ?_
        refine g_iload hX 4 rfl dX7_lay_165 ?_
        refine g_iadd hX dX7_lay_167 ?_
        refine g_aload_n hX 0 rfl rfl dX7_lay_168 ?_
        refine m_getA hX hC 6 (by decide) rfl tFld_X7_25 dX7_lay_169 ?_
        refine g_bipush hX (v := nI 24) (by decide) dX7_lay_172 ?_
        refine g_iload_n hX 2 rfl rfl dX7_lay_174 ?_
        refine g_imul hX dX7_lay_175 ?_
        refine g_iload hX 4 rfl dX7_lay_176 ?_
        refine g_iadd hX dX7_lay_178 ?_
        obtain ⟨g1, h⟩ := gd_some h
        refine m_ald hX hC 6 rfl g1 dX7_lay_179 ?_
        obtain ⟨g2, h⟩ := gd_some h
        refine m_ast hX hC 11 rfl g2 dX7_lay_180 ?_
        refine g_iinc (v := (v6 + nI 1)) (lv2 := [(6, .int ((v6 + nI 1))), (0, .ref h0), (1, .int (z1)), (3, .int (z3)), (5, .int (v5))]) hX 4 6 7 hN rfl rfl (by decide) rfl dX7_lay_181 ?_
        refine g_goto hX 150 (by decide) dX7_lay_184 ?_
        refine g_lv [1, 2, 3, 4, 0] rfl ?_
        exact ih v5 ((v6 + nI 1)) ((μ.1, μ.2.1, mU μ.2.2 11 (upd (μ.2.2 11) (((nI 24 * z1) + v6)).toNatClampNeg (μ.2.2 6 (((nI 24 * z3) + v6)).toNatClampNeg)))) x h
  have J129 : ∀ (v5 : Int32) (s0 : Int32) (μ : Mg) (x : Nat → Nat → Int32) , fn_X7_lay_L129 z1 z2 z3 v5 s0 μ = some (res, μ2) → GW κ 0 0 (C μ.1 μ.2.1 μ.2.2 x) 129 [(0, .ref h0), (1, .int (z1)), (2, .int (z2)), (3, .int (z3)), (5, .int (v5))] [.int (s0), .int (z1), .ref (a 9)] := by
    intro v5 s0 μ x h
    obtain ⟨g3, h⟩ := gd_some h
    refine m_ast hX hC 9 rfl g3 dX7_lay_129 ?_
    refine g_iload_n hX 2 rfl rfl dX7_lay_130 ?_
    refine g_iconst hX (v := nI 2) rfl dX7_lay_131 ?_
    refine g_icmp_ne hX 187 (by decide) dX7_lay_132 (fun b132 => ?_) (fun b132 => ?_)
    · replace h := if_n b132 h
      refine g_lv [4] rfl ?_
      exact J187 v5 ((μ.1, μ.2.1, mU μ.2.2 9 (upd (μ.2.2 9) z1.toNatClampNeg s0))) x h
    · replace h := if_p b132 h
      refine g_aload_n hX 0 rfl rfl dX7_lay_135 ?_
      refine m_getA hX hC 10 (by decide) rfl tFld_X7_37 dX7_lay_136 ?_
      refine g_iload_n hX 1 rfl rfl dX7_lay_139 ?_
      refine g_aload_n hX 0 rfl rfl dX7_lay_140 ?_
      refine m_getA hX hC 5 (by decide) rfl tFld_X7_22 dX7_lay_141 ?_
      refine g_iload_n hX 3 rfl rfl dX7_lay_144 ?_
      obtain ⟨g4, h⟩ := gd_some h
      refine m_ald hX hC 5 rfl g4 dX7_lay_145 ?_
      refine m_ast hX hC 10 rfl g3 dX7_lay_146 ?_
      refine g_iconst hX (v := nI 0) rfl dX7_lay_147 ?_
      refine g_istore (lv2 := [(6, .int (nI 0)), (0, .ref h0), (1, .int (z1)), (2, .int (z2)), (3, .int (z3)), (5, .int (v5))]) hX 6 7 hN (by decide) rfl dX7_lay_148 ?_
      refine g_lv [1, 2, 4, 5, 0] rfl ?_
      exact (J150 (fn_X7_lay_L187 z1 z2 z3) J187 4000) v5 (nI 0) ((μ.1, μ.2.1, mU (mU μ.2.2 9 (upd (μ.2.2 9) z1.toNatClampNeg s0)) 10 (upd ((mU μ.2.2 9 (upd (μ.2.2 9) z1.toNatClampNeg s0)) 10) z1.toNatClampNeg ((mU μ.2.2 9 (upd (μ.2.2 9) z1.toNatClampNeg s0)) 5 z3.toNatClampNeg)))) x h
  have J109 : ∀ (v5 : Int32) (s0 : Int32) (μ : Mg) (x : Nat → Nat → Int32) , fn_X7_lay_L109 z1 z2 z3 v5 s0 μ = some (res, μ2) → GW κ 0 0 (C μ.1 μ.2.1 μ.2.2 x) 109 [(0, .ref h0), (1, .int (z1)), (2, .int (z2)), (3, .int (z3)), (5, .int (v5))] [.int (s0), .int (z1), .ref (a 8)] := by
    intro v5 s0 μ x h
    obtain ⟨g5, h⟩ := gd_some h
    refine m_ast hX hC 8 rfl g5 dX7_lay_109 ?_
    refine g_aload_n hX 0 rfl rfl dX7_lay_110 ?_
    refine m_getA hX hC 9 (by decide) rfl tFld_X7_34 dX7_lay_111 ?_
    refine g_iload_n hX 1 rfl rfl dX7_lay_114 ?_
    refine g_iload_n hX 2 rfl rfl dX7_lay_115 ?_
    refine g_iconst hX (v := nI 1) rfl dX7_lay_116 ?_
    refine g_icmp_ne hX 128 (by decide) dX7_lay_117 (fun b117 => ?_) (fun b117 => ?_)
    · replace h := if_n b117 h
      refine g_iconst hX (v := nI 0) rfl dX7_lay_128 ?_
      exact J129 v5 (nI 0) ((μ.1, μ.2.1, mU μ.2.2 8 (upd (μ.2.2 8) z1.toNatClampNeg s0))) x h
    · replace h := if_p b117 h
      refine g_aload_n hX 0 rfl rfl dX7_lay_120 ?_
      refine g_iload_n hX 3 rfl rfl dX7_lay_121 ?_
      obtain ⟨y122, τ122, e122, h⟩ := ob_some h
      refine m_call hX hzo hC [.int (z3)] [.int (z1), .ref (a 9)] (ct_X7_worth _ _ _ _ hzo hC z3 ((μ.1, μ.2.1, mU μ.2.2 8 (upd (μ.2.2 8) z1.toNatClampNeg s0))) _ x _ e122) kX7_worth tMet_X7_142 rfl rfl (Nat.le_of_ble_eq_true rfl) (Nat.le_of_ble_eq_true rfl) ⟨Nat.le_of_ble_eq_true rfl, Nat.le_of_ble_eq_true rfl⟩ rfl (Nat.le_of_ble_eq_true rfl) dX7_lay_122 ?_
      rintro _ _ ⟨rfl, x122, rfl⟩
      show GW κ 0 0 (C τ122.1 τ122.2.1 τ122.2.2 x122) 125 [(0, .ref h0), (1, .int (z1)), (2, .int (z2)), (3, .int (z3)), (5, .int (v5))] [.int (y122), .int (z1), .ref (a 9)]
      refine g_goto hX 129 (by decide) dX7_lay_125 ?_
      exact J129 v5 y122 τ122 x122 h
  have J74 : ∀ (μ : Mg) (x : Nat → Nat → Int32) , fn_X7_lay_L74 z1 z2 z3  μ = some (res, μ2) → GW κ 0 0 (C μ.1 μ.2.1 μ.2.2 x) 74 [(0, .ref h0), (1, .int (z1)), (2, .int (z2)), (3, .int (z3))] [] := by
    intro μ x h
    refine g_aload_n hX 0 rfl rfl dX7_lay_74 ?_
    refine m_getA hX hC 7 (by decide) rfl tFld_X7_28 dX7_lay_75 ?_
    refine g_iload_n hX 1 rfl rfl dX7_lay_78 ?_
    obtain ⟨g6, h⟩ := gd_some h
    refine m_ald hX hC 7 rfl g6 dX7_lay_79 ?_
    refine g_istore (lv2 := [(5, .int (μ.2.2 7 z1.toNatClampNeg)), (0, .ref h0), (1, .int (z1)), (2, .int (z2)), (3, .int (z3))]) hX 5 7 hN (by decide) rfl dX7_lay_80 ?_
    refine g_aload_n hX 1 rfl rfl dX7_lay_82 ?_
    refine m_getA hX hC 7 (by decide) rfl tFld_X7_28 dX7_lay_83 ?_
    refine g_iload_n hX 2 rfl rfl dX7_lay_86 ?_
    refine g_iload_n hX 3 rfl rfl dX7_lay_87 ?_
    refine m_ast hX hC 7 rfl g6 dX7_lay_88 ?_
    refine g_aload_n hX 1 rfl rfl dX7_lay_89 ?_
    refine m_getA hX hC 8 (by decide) rfl tFld_X7_31 dX7_lay_90 ?_
    refine g_iload_n hX 2 rfl rfl dX7_lay_93 ?_
    refine g_iload_n hX 3 rfl rfl dX7_lay_94 ?_
    refine g_iconst hX (v := nI 1) rfl dX7_lay_95 ?_
    refine g_icmp_ne hX 108 (by decide) dX7_lay_96 (fun b96 => ?_) (fun b96 => ?_)
    · replace h := if_n b96 h
      refine g_iload_n hX 4 rfl rfl dX7_lay_108 ?_
      refine g_lv [1, 2, 3, 4, 0] rfl ?_
      exact J109 (μ.2.2 7 z1.toNatClampNeg) z3 ((μ.1, μ.2.1, mU μ.2.2 7 (upd (μ.2.2 7) z1.toNatClampNeg z2))) x h
    · replace h := if_p b96 h
      refine g_aload_n hX 1 rfl rfl dX7_lay_99 ?_
      refine g_iload_n hX 4 rfl rfl dX7_lay_100 ?_
      refine g_iconst hX (v := nI 0) rfl dX7_lay_101 ?_
      obtain ⟨y102, τ102, e102, h⟩ := ob_some h
      refine m_call hX hzo hC [.int (z3), .int (nI 0)] [.int (z1), .ref (a 8)] (ct_X7_of _ _ _ _ hzo hC z3 (nI 0) ((μ.1, μ.2.1, mU μ.2.2 7 (upd (μ.2.2 7) z1.toNatClampNeg z2))) _ x _ e102) kX7_of tMet_X7_75 rfl rfl (Nat.le_of_ble_eq_true rfl) (Nat.le_of_ble_eq_true rfl) ⟨Nat.le_of_ble_eq_true rfl, Nat.le_of_ble_eq_true rfl⟩ rfl (Nat.le_of_ble_eq_true rfl) dX7_lay_102 ?_
      rintro _ _ ⟨rfl, x102, rfl⟩
      show GW κ 0 0 (C τ102.1 τ102.2.1 τ102.2.2 x102) 105 [(5, .int (μ.2.2 7 z1.toNatClampNeg)), (0, .ref h0), (1, .int (z1)), (2, .int (z2)), (3, .int (z3))] [.int (y102), .int (z1), .ref (a 8)]
      refine g_goto hX 109 (by decide) dX7_lay_105 ?_
      refine g_lv [1, 2, 3, 4, 0] rfl ?_
      exact J109 (μ.2.2 7 z1.toNatClampNeg) y102 τ102 x102 h
  have J53 : ∀ (μ : Mg) (x : Nat → Nat → Int32) , fn_X7_lay_L53 z1 z2 z3  μ = some (res, μ2) → GW κ 0 0 (C μ.1 μ.2.1 μ.2.2 x) 53 [] [] := by
    intro μ x h
    refine g_ldc hX (v := -1000000001) (zu tCon_X7_100 rfl) dX7_lay_53 ?_
    exact g_retiP hR ⟨by rw [oi_1 h], x, by rw [← oi_2 h]⟩ dX7_lay_55
  have J39 : ∀ (s0 : Int32) (μ : Mg) (x : Nat → Nat → Int32) , fn_X7_lay_L39 z1 z2 z3 s0 μ = some (res, μ2) → GW κ 0 0 (C μ.1 μ.2.1 μ.2.2 x) 39 [(0, .ref h0), (1, .int (z1)), (2, .int (z2)), (3, .int (z3))] [.int (s0)] := by
    intro s0 μ x h
    refine g_istore (lv2 := [(4, .int (s0)), (0, .ref h0), (1, .int (z1)), (2, .int (z2)), (3, .int (z3))]) hX 4 7 hN (by decide) rfl dX7_lay_39 ?_
    refine g_iload_n hX 2 rfl rfl dX7_lay_41 ?_
    obtain ⟨y42, e42, h⟩ := o1_some h
    refine s_call hX hzo [.int (z1)] [] (ct_X7_isSlot _ _ _ _ hzo _ z1 _ e42) kX7_isSlot tMet_X7_316 rfl rfl (Nat.le_of_ble_eq_true rfl) (Nat.le_of_ble_eq_true rfl) ⟨Nat.le_of_ble_eq_true rfl, Nat.le_of_ble_eq_true rfl⟩ rfl rfl (Nat.le_of_ble_eq_true rfl) dX7_lay_42 ?_
    refine g_if_eq hX 53 (by decide) dX7_lay_45 (fun b45 => ?_) (fun b45 => ?_)
    · replace h := if_p b45 h
      refine g_lv [] rfl ?_
      exact J53  μ x h
    · replace h := if_n b45 h
      refine g_iload hX 0 rfl dX7_lay_48 ?_
      refine g_if_ne hX 56 (by decide) dX7_lay_50 (fun b50 => ?_) (fun b50 => ?_)
      · replace h := if_n b50 h
        refine g_iload_n hX 3 rfl rfl dX7_lay_56 ?_
        refine g_iconst hX (v := nI 2) rfl dX7_lay_57 ?_
        refine g_icmp_ne hX 74 (by decide) dX7_lay_58 (fun b58 => ?_) (fun b58 => ?_)
        · replace h := if_n b58 h
          refine g_lv [1, 2, 3, 4] rfl ?_
          exact J74  μ x h
        · replace h := if_p b58 h
          refine g_aload_n hX 1 rfl rfl dX7_lay_61 ?_
          refine m_getA hX hC 4 (by decide) rfl tFld_X7_19 dX7_lay_62 ?_
          refine g_iload_n hX 4 rfl rfl dX7_lay_65 ?_
          obtain ⟨g7, h⟩ := gd_some h
          refine m_ald hX hC 4 rfl g7 dX7_lay_66 ?_
          refine g_if_ge hX 74 (by decide) dX7_lay_67 (fun b67 => ?_) (fun b67 => ?_)
          · replace h := if_p b67 h
            refine g_lv [1, 2, 3, 4] rfl ?_
            exact J74  μ x h
          · replace h := if_n b67 h
            refine g_ldcw hX (v := -1000000011) (zu tCon_X7_308 rfl) dX7_lay_70 ?_
            exact g_retiP hR ⟨by rw [oi_1 h], x, by rw [← oi_2 h]⟩ dX7_lay_73
      · replace h := if_p b50 h
        refine g_lv [] rfl ?_
        exact J53  μ x h
  have J38 : ∀ (μ : Mg) (x : Nat → Nat → Int32) , fn_X7_lay_L38 z1 z2 z3  μ = some (res, μ2) → GW κ 0 0 (C μ.1 μ.2.1 μ.2.2 x) 38 [(0, .ref h0), (1, .int (z1)), (2, .int (z2)), (3, .int (z3))] [] := by
    intro μ x h
    refine g_iconst hX (v := nI 0) rfl dX7_lay_38 ?_
    exact J39 (nI 0) μ x h
  have J34 : ∀ (μ : Mg) (x : Nat → Nat → Int32) , fn_X7_lay_L34 z1 z2 z3  μ = some (res, μ2) → GW κ 0 0 (C μ.1 μ.2.1 μ.2.2 x) 34 [(0, .ref h0), (1, .int (z1)), (2, .int (z2)), (3, .int (z3))] [] := by
    intro μ x h
    refine g_iconst hX (v := nI 1) rfl dX7_lay_34 ?_
    refine g_goto hX 39 (by decide) dX7_lay_35 ?_
    exact J39 (nI 1) μ x h
  have J22 : ∀ (μ : Mg) (x : Nat → Nat → Int32) , fn_X7_lay_L22 z1 z2 z3  μ = some (res, μ2) → GW κ 0 0 (C μ.1 μ.2.1 μ.2.2 x) 22 [(0, .ref h0), (1, .int (z1)), (2, .int (z2)), (3, .int (z3))] [] := by
    intro μ x h
    refine g_iload_n hX 2 rfl rfl dX7_lay_22 ?_
    refine g_iconst hX (v := nI 2) rfl dX7_lay_23 ?_
    refine g_icmp_ne hX 38 (by decide) dX7_lay_24 (fun b24 => ?_) (fun b24 => ?_)
    · replace h := if_n b24 h
      exact J38  μ x h
    · replace h := if_p b24 h
      refine g_iload_n hX 3 rfl rfl dX7_lay_27 ?_
      obtain ⟨y28, e28, h⟩ := o1_some h
      refine s_call hX hzo [.int (z3)] [] (ct_X7_isSheet _ _ _ _ hzo _ z3 _ e28) kX7_isSheet tMet_X7_302 rfl rfl (Nat.le_of_ble_eq_true rfl) (Nat.le_of_ble_eq_true rfl) ⟨Nat.le_of_ble_eq_true rfl, Nat.le_of_ble_eq_true rfl⟩ rfl rfl (Nat.le_of_ble_eq_true rfl) dX7_lay_28 ?_
      refine g_if_eq hX 38 (by decide) dX7_lay_31 (fun b31 => ?_) (fun b31 => ?_)
      · replace h := if_p b31 h
        exact J38  μ x h
      · replace h := if_n b31 h
        exact J34  μ x h
  show GW κ 0 0 (C μ.1 μ.2.1 μ.2.2 x) 0 [(0, .ref h0), (1, .int (z1)), (2, .int (z2)), (3, .int (z3))] []
  refine g_iload_n hX 2 rfl rfl dX7_lay_0 ?_
  refine g_if_eq hX 34 (by decide) dX7_lay_1 (fun b1 => ?_) (fun b1 => ?_)
  · replace h := if_p b1 h
    exact J34  μ x h
  · replace h := if_n b1 h
    refine g_iload_n hX 2 rfl rfl dX7_lay_4 ?_
    refine g_iconst hX (v := nI 3) rfl dX7_lay_5 ?_
    refine g_icmp_eq hX 34 (by decide) dX7_lay_6 (fun b6 => ?_) (fun b6 => ?_)
    · replace h := if_p b6 h
      exact J34  μ x h
    · replace h := if_n b6 h
      refine g_iload_n hX 2 rfl rfl dX7_lay_9 ?_
      refine g_iconst hX (v := nI 1) rfl dX7_lay_10 ?_
      refine g_icmp_ne hX 22 (by decide) dX7_lay_11 (fun b11 => ?_) (fun b11 => ?_)
      · replace h := if_n b11 h
        exact J22  μ x h
      · replace h := if_p b11 h
        refine g_aload_n hX 0 rfl rfl dX7_lay_14 ?_
        refine g_iload_n hX 3 rfl rfl dX7_lay_15 ?_
        obtain ⟨y16, τ16, e16, h⟩ := ob_some h
        refine m_call hX hzo hC [.int (z3)] [] (ct_X7_isHouse _ _ _ _ hzo hC z3 μ _ x _ e16) kX7_isHouse tMet_X7_133 rfl rfl (Nat.le_of_ble_eq_true rfl) (Nat.le_of_ble_eq_true rfl) ⟨Nat.le_of_ble_eq_true rfl, Nat.le_of_ble_eq_true rfl⟩ rfl (Nat.le_of_ble_eq_true rfl) dX7_lay_16 ?_
        rintro _ _ ⟨rfl, x16, rfl⟩
        show GW κ 0 0 (C τ16.1 τ16.2.1 τ16.2.2 x16) 19 [(0, .ref h0), (1, .int (z1)), (2, .int (z2)), (3, .int (z3))] [.int (y16)]
        refine g_if_ne hX 34 (by decide) dX7_lay_19 (fun b19 => ?_) (fun b19 => ?_)
        · replace h := if_n b19 h
          exact J34  τ16 x16 h
        · replace h := if_p b19 h
          exact J22  τ16 x16 h
theorem kX7_ask : mKV RX7 yX7_ask cX7_ask 3 (some .int) 2 := ⟨tIns_X7_ask, tSel_X7_ask, tIni_X7, tCod_X7_ask, by decide +kernel⟩
set_option maxHeartbeats 4000000 in
set_option maxRecDepth 100000 in
theorem ct_X7_ask (l : Launch) (D : va_G) (cy : Nat → ClassId) (Z : (Nat → Prop) → State → Heap → Prop) (hzo : zOK Z) {h0 : Nat} {a q : Nat → Nat} {C : (Nat → Int32) → (Nat → Int32) → (Nat → Nat → Int32) → (Nat → Nat → Int32) → va_W} (hC : mLens (cy 0) h0 a q C) (z1 : Int32) (z2 : Int32) (μ μ2 : Mg) (x : Nat → Nat → Int32) (res : Int32) (h : fn_X7_ask z1 z2 μ = some (res, μ2)) : GM l D cy Z yX7_ask (zW yX7_ask cX7_ask 3 (some .int)) { frames := 2, cells := 0, slots := 0, locals := 45 } [.ref h0, .int (z1), .int (z2)] (C μ.1 μ.2.1 μ.2.2 x) (fun rs w2 => rs = some (.int res) ∧ ∃ x2, w2 = C μ2.1 μ2.2.1 μ2.2.2 x2) 0 0 := by
  refine g_entry (cc := cX7_ask) (maxL := 3) (by decide) rfl (Nat.le_of_ble_eq_true rfl) ?_
  intro κ hN hX hR
  have hX : GX κ cy Z cX7_ask (Cond.code yX7_ask cX7_ask 3 (some .int) :: zT) RX7 { frames := 2, cells := 0, slots := 0, locals := 45 } := hX
  have J69 : ∀ (s0 : Int32) (μ : Mg) (x : Nat → Nat → Int32) , fn_X7_ask_L69 z1 z2 s0 μ = some (res, μ2) → GW κ 0 0 (C μ.1 μ.2.1 μ.2.2 x) 69 [] [.int (s0)] := by
    intro s0 μ x h
    exact g_retiP hR ⟨by rw [oi_1 h], x, by rw [← oi_2 h]⟩ dX7_ask_69
  have J67 : ∀ (μ : Mg) (x : Nat → Nat → Int32) , fn_X7_ask_L67 z1 z2  μ = some (res, μ2) → GW κ 0 0 (C μ.1 μ.2.1 μ.2.2 x) 67 [] [] := by
    intro μ x h
    refine g_ldc hX (v := -1000000012) (zu tCon_X7_148 rfl) dX7_ask_67 ?_
    exact J69 ((-1000000012)) μ x h
  have J19 : ∀ (μ : Mg) (x : Nat → Nat → Int32) , fn_X7_ask_L19 z1 z2  μ = some (res, μ2) → GW κ 0 0 (C μ.1 μ.2.1 μ.2.2 x) 19 [] [] := by
    intro μ x h
    refine g_ldc hX (v := -1000000001) (zu tCon_X7_100 rfl) dX7_ask_19 ?_
    exact g_retiP hR ⟨by rw [oi_1 h], x, by rw [← oi_2 h]⟩ dX7_ask_21
  show GW κ 0 0 (C μ.1 μ.2.1 μ.2.2 x) 0 [(0, .ref h0), (1, .int (z1)), (2, .int (z2))] []
  refine g_iload_n hX 1 rfl rfl dX7_ask_0 ?_
  obtain ⟨y1, e1, h⟩ := o1_some h
  refine s_call hX hzo [.int (z1)] [] (ct_X7_isSlot _ _ _ _ hzo _ z1 _ e1) kX7_isSlot tMet_X7_316 rfl rfl (Nat.le_of_ble_eq_true rfl) (Nat.le_of_ble_eq_true rfl) ⟨Nat.le_of_ble_eq_true rfl, Nat.le_of_ble_eq_true rfl⟩ rfl rfl (Nat.le_of_ble_eq_true rfl) dX7_ask_1 ?_
  refine g_if_eq hX 19 (by decide) dX7_ask_4 (fun b4 => ?_) (fun b4 => ?_)
  · replace h := if_p b4 h
    refine g_lv [] rfl ?_
    exact J19  μ x h
  · replace h := if_n b4 h
    refine g_iload_n hX 2 rfl rfl dX7_ask_7 ?_
    refine g_i2l hX dX7_ask_8 ?_
    refine g_lconst hX (v := Int32.toInt64 (0)) (by decide) dX7_ask_9 ?_
    refine g_ldc2 hX (v := Int32.toInt64 (5)) (zu tCoL_X7_94 rfl) dX7_ask_10 ?_
    refine s_call hX hzo [.long (Int32.toInt64 (z2)), .long (Int32.toInt64 ((0))), .long (Int32.toInt64 ((5)))] [] (c_isIn _ _ _ _ _ (z2) ((0)) ((5))) kX7_isIn tMet_X7_71 rfl rfl (Nat.le_of_ble_eq_true rfl) (Nat.le_of_ble_eq_true rfl) ⟨Nat.le_of_ble_eq_true rfl, Nat.le_of_ble_eq_true rfl⟩ rfl rfl (Nat.le_of_ble_eq_true rfl) dX7_ask_13 ?_
    refine g_if_ne hX 22 (by decide) dX7_ask_16 (fun b16 => ?_) (fun b16 => ?_)
    · replace h := if_n b16 h
      refine g_aload_n hX 0 rfl rfl dX7_ask_22 ?_
      refine m_getA hX hC 7 (by decide) rfl tFld_X7_28 dX7_ask_23 ?_
      refine g_iload_n hX 1 rfl rfl dX7_ask_26 ?_
      obtain ⟨g1, h⟩ := gd_some h
      refine m_ald hX hC 7 rfl g1 dX7_ask_27 ?_
      refine g_if_ne hX 35 (by decide) dX7_ask_28 (fun b28 => ?_) (fun b28 => ?_)
      · replace h := if_n b28 h
        refine g_aload_n hX 0 rfl rfl dX7_ask_35 ?_
        refine m_getA hX hC 7 (by decide) rfl tFld_X7_28 dX7_ask_36 ?_
        refine g_iload_n hX 1 rfl rfl dX7_ask_39 ?_
        refine m_ald hX hC 7 rfl g1 dX7_ask_40 ?_
        refine g_iconst hX (v := nI 1) rfl dX7_ask_41 ?_
        refine g_icmp_ne hX 67 (by decide) dX7_ask_42 (fun b42 => ?_) (fun b42 => ?_)
        · replace h := if_n b42 h
          refine g_lv [] rfl ?_
          exact J67  μ x h
        · replace h := if_p b42 h
          refine g_aload_n hX 0 rfl rfl dX7_ask_45 ?_
          refine m_getA hX hC 8 (by decide) rfl tFld_X7_31 dX7_ask_46 ?_
          refine g_iload_n hX 1 rfl rfl dX7_ask_49 ?_
          refine m_ald hX hC 8 rfl g1 dX7_ask_50 ?_
          refine g_iload_n hX 2 rfl rfl dX7_ask_51 ?_
          obtain ⟨y52, e52, h⟩ := o1_some h
          refine s_call hX hzo [.int (μ.2.2 8 z1.toNatClampNeg), .int (z2)] [] (ct_X7_isOf _ _ _ _ hzo _ (μ.2.2 8 z1.toNatClampNeg) z2 _ e52) kX7_isOf tMet_X7_145 rfl rfl (Nat.le_of_ble_eq_true rfl) (Nat.le_of_ble_eq_true rfl) ⟨Nat.le_of_ble_eq_true rfl, Nat.le_of_ble_eq_true rfl⟩ rfl rfl (Nat.le_of_ble_eq_true rfl) dX7_ask_52 ?_
          refine g_if_eq hX 67 (by decide) dX7_ask_55 (fun b55 => ?_) (fun b55 => ?_)
          · replace h := if_p b55 h
            refine g_lv [] rfl ?_
            exact J67  μ x h
          · replace h := if_n b55 h
            refine g_aload_n hX 0 rfl rfl dX7_ask_58 ?_
            refine m_getA hX hC 9 (by decide) rfl tFld_X7_34 dX7_ask_59 ?_
            refine g_iload_n hX 1 rfl rfl dX7_ask_62 ?_
            refine m_ald hX hC 9 rfl g1 dX7_ask_63 ?_
            refine g_goto hX 69 (by decide) dX7_ask_64 ?_
            refine g_lv [] rfl ?_
            exact J69 (μ.2.2 9 z1.toNatClampNeg) μ x h
      · replace h := if_p b28 h
        refine g_ldcw hX (v := -1000000011) (zu tCon_X7_308 rfl) dX7_ask_31 ?_
        exact g_retiP hR ⟨by rw [oi_1 h], x, by rw [← oi_2 h]⟩ dX7_ask_34
    · replace h := if_p b16 h
      refine g_lv [] rfl ?_
      exact J19  μ x h
theorem kX7_item : mKV RX7 yX7_item cX7_item 4 (some .int) 2 := ⟨tIns_X7_item, tSel_X7_item, tIni_X7, tCod_X7_item, by decide +kernel⟩
set_option maxHeartbeats 4000000 in
set_option maxRecDepth 100000 in
theorem ct_X7_item (l : Launch) (D : va_G) (cy : Nat → ClassId) (Z : (Nat → Prop) → State → Heap → Prop) (hzo : zOK Z) {h0 : Nat} {a q : Nat → Nat} {C : (Nat → Int32) → (Nat → Int32) → (Nat → Nat → Int32) → (Nat → Nat → Int32) → va_W} (hC : mLens (cy 0) h0 a q C) (z1 : Int32) (z2 : Int32) (μ μ2 : Mg) (x : Nat → Nat → Int32) (res : Int32) (h : fn_X7_item z1 z2 μ = some (res, μ2)) : GM l D cy Z yX7_item (zW yX7_item cX7_item 4 (some .int)) { frames := 2, cells := 0, slots := 0, locals := 45 } [.ref h0, .int (z1), .int (z2)] (C μ.1 μ.2.1 μ.2.2 x) (fun rs w2 => rs = some (.int res) ∧ ∃ x2, w2 = C μ2.1 μ2.2.1 μ2.2.2 x2) 0 0 := by
  refine g_entry (cc := cX7_item) (maxL := 4) (by decide) rfl (Nat.le_of_ble_eq_true rfl) ?_
  intro κ hN hX hR
  have hX : GX κ cy Z cX7_item (Cond.code yX7_item cX7_item 4 (some .int) :: zT) RX7 { frames := 2, cells := 0, slots := 0, locals := 45 } := hX
  have J84 : ∀ (s0 : Int32) (μ : Mg) (x : Nat → Nat → Int32) , fn_X7_item_L84 z1 z2 s0 μ = some (res, μ2) → GW κ 0 0 (C μ.1 μ.2.1 μ.2.2 x) 84 [] [.int (s0)] := by
    intro s0 μ x h
    exact g_retiP hR ⟨by rw [oi_1 h], x, by rw [← oi_2 h]⟩ dX7_item_84
  have J37 : ∀ (s0 : Int32) (μ : Mg) (x : Nat → Nat → Int32) , fn_X7_item_L37 z1 z2 s0 μ = some (res, μ2) → GW κ 0 0 (C μ.1 μ.2.1 μ.2.2 x) 37 [] [.int (s0)] := by
    intro s0 μ x h
    exact g_retiP hR ⟨by rw [oi_1 h], x, by rw [← oi_2 h]⟩ dX7_item_37
  show GW κ 0 0 (C μ.1 μ.2.1 μ.2.2 x) 0 [(0, .ref h0), (1, .int (z1)), (2, .int (z2))] []
  refine g_iload_n hX 1 rfl rfl dX7_item_0 ?_
  obtain ⟨y1, e1, h⟩ := o1_some h
  refine s_call hX hzo [.int (z1)] [] (ct_X7_isSlot _ _ _ _ hzo _ z1 _ e1) kX7_isSlot tMet_X7_316 rfl rfl (Nat.le_of_ble_eq_true rfl) (Nat.le_of_ble_eq_true rfl) ⟨Nat.le_of_ble_eq_true rfl, Nat.le_of_ble_eq_true rfl⟩ rfl rfl (Nat.le_of_ble_eq_true rfl) dX7_item_1 ?_
  refine g_if_ne hX 10 (by decide) dX7_item_4 (fun b4 => ?_) (fun b4 => ?_)
  · replace h := if_n b4 h
    refine g_aload_n hX 0 rfl rfl dX7_item_10 ?_
    refine m_getA hX hC 7 (by decide) rfl tFld_X7_28 dX7_item_11 ?_
    refine g_iload_n hX 1 rfl rfl dX7_item_14 ?_
    obtain ⟨g1, h⟩ := gd_some h
    refine m_ald hX hC 7 rfl g1 dX7_item_15 ?_
    refine g_iconst hX (v := nI 2) rfl dX7_item_16 ?_
    refine g_icmp_eq hX 38 (by decide) dX7_item_17 (fun b17 => ?_) (fun b17 => ?_)
    · replace h := if_p b17 h
      refine g_iload_n hX 2 rfl rfl dX7_item_38 ?_
      refine g_i2l hX dX7_item_39 ?_
      refine g_lconst hX (v := Int32.toInt64 (0)) (by decide) dX7_item_40 ?_
      refine g_aload_n hX 0 rfl rfl dX7_item_41 ?_
      refine m_getA hX hC 10 (by decide) rfl tFld_X7_37 dX7_item_42 ?_
      refine g_iload_n hX 1 rfl rfl dX7_item_45 ?_
      refine m_ald hX hC 10 rfl g1 dX7_item_46 ?_
      refine g_iconst hX (v := nI 1) rfl dX7_item_47 ?_
      refine g_isub hX dX7_item_48 ?_
      refine g_i2l hX dX7_item_49 ?_
      refine s_call hX hzo [.long (Int32.toInt64 (z2)), .long (Int32.toInt64 ((0))), .long (Int32.toInt64 ((μ.2.2 10 z1.toNatClampNeg - nI 1)))] [] (c_isIn _ _ _ _ _ (z2) ((0)) ((μ.2.2 10 z1.toNatClampNeg - nI 1))) kX7_isIn tMet_X7_71 rfl rfl (Nat.le_of_ble_eq_true rfl) (Nat.le_of_ble_eq_true rfl) ⟨Nat.le_of_ble_eq_true rfl, Nat.le_of_ble_eq_true rfl⟩ rfl rfl (Nat.le_of_ble_eq_true rfl) dX7_item_50 ?_
      refine g_if_ne hX 60 (by decide) dX7_item_53 (fun b53 => ?_) (fun b53 => ?_)
      · replace h := if_n b53 h
        refine g_aload_n hX 0 rfl rfl dX7_item_60 ?_
        refine m_getA hX hC 11 (by decide) rfl tFld_X7_40 dX7_item_61 ?_
        refine g_bipush hX (v := nI 24) (by decide) dX7_item_64 ?_
        refine g_iload_n hX 1 rfl rfl dX7_item_66 ?_
        refine g_imul hX dX7_item_67 ?_
        refine g_iload_n hX 2 rfl rfl dX7_item_68 ?_
        refine g_iadd hX dX7_item_69 ?_
        obtain ⟨g2, h⟩ := gd_some h
        refine m_ald hX hC 11 rfl g2 dX7_item_70 ?_
        refine g_istore_n (lv2 := [(3, .int (μ.2.2 11 (((nI 24 * z1) + z2)).toNatClampNeg)), (0, .ref h0), (1, .int (z1)), (2, .int (z2))]) hX 3 4 hN rfl (by decide) rfl dX7_item_71 ?_
        refine g_iload_n hX 0 rfl rfl dX7_item_72 ?_
        refine g_ldc hX (v := -1000000005) (zu tCon_X7_70 rfl) dX7_item_73 ?_
        refine g_icmp_ne hX 83 (by decide) dX7_item_75 (fun b75 => ?_) (fun b75 => ?_)
        · replace h := if_n b75 h
          refine g_iload_n hX 0 rfl rfl dX7_item_83 ?_
          refine g_lv [] rfl ?_
          exact J84 (μ.2.2 11 (((nI 24 * z1) + z2)).toNatClampNeg) μ x h
        · replace h := if_p b75 h
          refine g_ldc hX (v := -1000000012) (zu tCon_X7_148 rfl) dX7_item_78 ?_
          refine g_goto hX 84 (by decide) dX7_item_80 ?_
          refine g_lv [] rfl ?_
          exact J84 ((-1000000012)) μ x h
      · replace h := if_p b53 h
        refine g_ldcw hX (v := -1000000013) (zu tCon_X7_309 rfl) dX7_item_56 ?_
        exact g_retiP hR ⟨by rw [oi_1 h], x, by rw [← oi_2 h]⟩ dX7_item_59
    · replace h := if_n b17 h
      refine g_aload_n hX 0 rfl rfl dX7_item_20 ?_
      refine m_getA hX hC 7 (by decide) rfl tFld_X7_28 dX7_item_21 ?_
      refine g_iload_n hX 1 rfl rfl dX7_item_24 ?_
      refine m_ald hX hC 7 rfl g1 dX7_item_25 ?_
      refine g_if_ne hX 35 (by decide) dX7_item_26 (fun b26 => ?_) (fun b26 => ?_)
      · replace h := if_n b26 h
        refine g_ldc hX (v := -1000000012) (zu tCon_X7_148 rfl) dX7_item_35 ?_
        refine g_lv [] rfl ?_
        exact J37 ((-1000000012)) μ x h
      · replace h := if_p b26 h
        refine g_ldcw hX (v := -1000000011) (zu tCon_X7_308 rfl) dX7_item_29 ?_
        refine g_goto hX 37 (by decide) dX7_item_32 ?_
        refine g_lv [] rfl ?_
        exact J37 ((-1000000011)) μ x h
  · replace h := if_p b4 h
    refine g_ldc hX (v := -1000000001) (zu tCon_X7_100 rfl) dX7_item_7 ?_
    exact g_retiP hR ⟨by rw [oi_1 h], x, by rw [← oi_2 h]⟩ dX7_item_9
theorem kX7_rest : mKV RX7 yX7_rest cX7_rest 3 (some .int) 2 := ⟨tIns_X7_rest, tSel_X7_rest, tIni_X7, tCod_X7_rest, by decide +kernel⟩
set_option maxHeartbeats 4000000 in
set_option maxRecDepth 100000 in
theorem ct_X7_rest (l : Launch) (D : va_G) (cy : Nat → ClassId) (Z : (Nat → Prop) → State → Heap → Prop) (hzo : zOK Z) {h0 : Nat} {a q : Nat → Nat} {C : (Nat → Int32) → (Nat → Int32) → (Nat → Nat → Int32) → (Nat → Nat → Int32) → va_W} (hC : mLens (cy 0) h0 a q C) (z1 : Int32) (z2 : Int32) (μ μ2 : Mg) (x : Nat → Nat → Int32) (res : Int32) (h : fn_X7_rest z1 z2 μ = some (res, μ2)) : GM l D cy Z yX7_rest (zW yX7_rest cX7_rest 3 (some .int)) { frames := 2, cells := 0, slots := 0, locals := 45 } [.ref h0, .int (z1), .int (z2)] (C μ.1 μ.2.1 μ.2.2 x) (fun rs w2 => rs = some (.int res) ∧ ∃ x2, w2 = C μ2.1 μ2.2.1 μ2.2.2 x2) 0 0 := by
  refine g_entry (cc := cX7_rest) (maxL := 3) (by decide) rfl (Nat.le_of_ble_eq_true rfl) ?_
  intro κ hN hX hR
  have hX : GX κ cy Z cX7_rest (Cond.code yX7_rest cX7_rest 3 (some .int) :: zT) RX7 { frames := 2, cells := 0, slots := 0, locals := 45 } := hX
  have J55 : ∀ (s0 : Int32) (μ : Mg) (x : Nat → Nat → Int32) , fn_X7_rest_L55 z1 z2 s0 μ = some (res, μ2) → GW κ 0 0 (C μ.1 μ.2.1 μ.2.2 x) 55 [] [.int (s0)] := by
    intro s0 μ x h
    exact g_retiP hR ⟨by rw [oi_1 h], x, by rw [← oi_2 h]⟩ dX7_rest_55
  have J37 : ∀ (s0 : Int32) (μ : Mg) (x : Nat → Nat → Int32) , fn_X7_rest_L37 z1 z2 s0 μ = some (res, μ2) → GW κ 0 0 (C μ.1 μ.2.1 μ.2.2 x) 37 [] [.int (s0)] := by
    intro s0 μ x h
    exact g_retiP hR ⟨by rw [oi_1 h], x, by rw [← oi_2 h]⟩ dX7_rest_37
  show GW κ 0 0 (C μ.1 μ.2.1 μ.2.2 x) 0 [(0, .ref h0), (1, .int (z1)), (2, .int (z2))] []
  refine g_iload_n hX 1 rfl rfl dX7_rest_0 ?_
  obtain ⟨y1, e1, h⟩ := o1_some h
  refine s_call hX hzo [.int (z1)] [] (ct_X7_isSlot _ _ _ _ hzo _ z1 _ e1) kX7_isSlot tMet_X7_316 rfl rfl (Nat.le_of_ble_eq_true rfl) (Nat.le_of_ble_eq_true rfl) ⟨Nat.le_of_ble_eq_true rfl, Nat.le_of_ble_eq_true rfl⟩ rfl rfl (Nat.le_of_ble_eq_true rfl) dX7_rest_1 ?_
  refine g_if_ne hX 10 (by decide) dX7_rest_4 (fun b4 => ?_) (fun b4 => ?_)
  · replace h := if_n b4 h
    refine g_aload_n hX 0 rfl rfl dX7_rest_10 ?_
    refine m_getA hX hC 7 (by decide) rfl tFld_X7_28 dX7_rest_11 ?_
    refine g_iload_n hX 1 rfl rfl dX7_rest_14 ?_
    obtain ⟨g1, h⟩ := gd_some h
    refine m_ald hX hC 7 rfl g1 dX7_rest_15 ?_
    refine g_iconst hX (v := nI 3) rfl dX7_rest_16 ?_
    refine g_icmp_eq hX 38 (by decide) dX7_rest_17 (fun b17 => ?_) (fun b17 => ?_)
    · replace h := if_p b17 h
      refine g_iload_n hX 2 rfl rfl dX7_rest_38 ?_
      refine g_if_ne hX 47 (by decide) dX7_rest_39 (fun b39 => ?_) (fun b39 => ?_)
      · replace h := if_n b39 h
        refine g_aload_n hX 0 rfl rfl dX7_rest_47 ?_
        refine m_getA hX hC 8 (by decide) rfl tFld_X7_31 dX7_rest_48 ?_
        refine g_iload_n hX 1 rfl rfl dX7_rest_51 ?_
        refine m_ald hX hC 8 rfl g1 dX7_rest_52 ?_
        refine g_iload_n hX 2 rfl rfl dX7_rest_53 ?_
        obtain ⟨g2, h⟩ := gd_some h
        refine g_irem hX g2 dX7_rest_54 ?_
        refine g_lv [] rfl ?_
        exact J55 ((μ.2.2 8 z1.toNatClampNeg - μ.2.2 8 z1.toNatClampNeg / z2 * z2)) μ x h
      · replace h := if_p b39 h
        refine g_ldc hX (v := -1000000002) (zu tCon_X7_152 rfl) dX7_rest_42 ?_
        refine g_goto hX 55 (by decide) dX7_rest_44 ?_
        refine g_lv [] rfl ?_
        exact J55 ((-1000000002)) μ x h
    · replace h := if_n b17 h
      refine g_aload_n hX 0 rfl rfl dX7_rest_20 ?_
      refine m_getA hX hC 7 (by decide) rfl tFld_X7_28 dX7_rest_21 ?_
      refine g_iload_n hX 1 rfl rfl dX7_rest_24 ?_
      refine m_ald hX hC 7 rfl g1 dX7_rest_25 ?_
      refine g_if_ne hX 35 (by decide) dX7_rest_26 (fun b26 => ?_) (fun b26 => ?_)
      · replace h := if_n b26 h
        refine g_ldc hX (v := -1000000012) (zu tCon_X7_148 rfl) dX7_rest_35 ?_
        refine g_lv [] rfl ?_
        exact J37 ((-1000000012)) μ x h
      · replace h := if_p b26 h
        refine g_ldcw hX (v := -1000000011) (zu tCon_X7_308 rfl) dX7_rest_29 ?_
        refine g_goto hX 37 (by decide) dX7_rest_32 ?_
        refine g_lv [] rfl ?_
        exact J37 ((-1000000011)) μ x h
  · replace h := if_p b4 h
    refine g_ldc hX (v := -1000000001) (zu tCon_X7_100 rfl) dX7_rest_7 ?_
    exact g_retiP hR ⟨by rw [oi_1 h], x, by rw [← oi_2 h]⟩ dX7_rest_9
theorem kX7_tell : mKV RX7 yX7_tell cX7_tell 2 (some .int) 1 := ⟨tIns_X7_tell, tSel_X7_tell, tIni_X7, tCod_X7_tell, by decide +kernel⟩
set_option maxHeartbeats 4000000 in
set_option maxRecDepth 100000 in
theorem ct_X7_tell (l : Launch) (D : va_G) (cy : Nat → ClassId) (Z : (Nat → Prop) → State → Heap → Prop) (hzo : zOK Z) {h0 : Nat} {a q : Nat → Nat} {C : (Nat → Int32) → (Nat → Int32) → (Nat → Nat → Int32) → (Nat → Nat → Int32) → va_W} (hC : mLens (cy 0) h0 a q C) (z1 : Int32) (μ μ2 : Mg) (x : Nat → Nat → Int32) (res : Int32) (h : fn_X7_tell z1 μ = some (res, μ2)) : GM l D cy Z yX7_tell (zW yX7_tell cX7_tell 2 (some .int)) { frames := 0, cells := 0, slots := 0, locals := 0 } [.ref h0, .int (z1)] (C μ.1 μ.2.1 μ.2.2 x) (fun rs w2 => rs = some (.int res) ∧ ∃ x2, w2 = C μ2.1 μ2.2.1 μ2.2.2 x2) 0 0 := by
  refine g_entry (cc := cX7_tell) (maxL := 2) (by decide) rfl (Nat.le_of_ble_eq_true rfl) ?_
  intro κ hN hX hR
  have hX : GX κ cy Z cX7_tell (Cond.code yX7_tell cX7_tell 2 (some .int) :: zT) RX7 { frames := 0, cells := 0, slots := 0, locals := 0 } := hX
  show GW κ 0 0 (C μ.1 μ.2.1 μ.2.2 x) 0 [(0, .ref h0), (1, .int (z1))] []
  refine g_aload_n hX 0 rfl rfl dX7_tell_0 ?_
  refine m_getI hX hC 31 (by decide) rfl tFld_X7_319 dX7_tell_1 ?_
  refine g_bipush hX (v := nI 60) (by decide) dX7_tell_4 ?_
  refine g_icmp_ne hX 12 (by decide) dX7_tell_6 (fun b6 => ?_) (fun b6 => ?_)
  · replace h := if_n b6 h
    refine g_aload_n hX 0 rfl rfl dX7_tell_12 ?_
    refine m_getA hX hC 30 (by decide) rfl tFld_X7_64 dX7_tell_13 ?_
    refine g_aload_n hX 0 rfl rfl dX7_tell_16 ?_
    refine m_getI hX hC 31 (by decide) rfl tFld_X7_319 dX7_tell_17 ?_
    refine g_iload_n hX 1 rfl rfl dX7_tell_20 ?_
    obtain ⟨g1, h⟩ := gd_some h
    refine m_ast hX hC 30 rfl g1 dX7_tell_21 ?_
    refine g_aload_n hX 0 rfl rfl dX7_tell_22 ?_
    refine g_dup hX rfl dX7_tell_23 ?_
    refine m_getI hX hC 31 (by decide) rfl tFld_X7_319 dX7_tell_24 ?_
    refine g_iconst hX (v := nI 1) rfl dX7_tell_27 ?_
    refine g_iadd hX dX7_tell_28 ?_
    refine m_putI (ty := .int) hX hC 31 (by decide) rfl rfl (by decide +kernel) rfl rfl tFld_X7_319 dX7_tell_29 ?_
    refine g_aload_n hX 0 rfl rfl dX7_tell_32 ?_
    refine m_getI hX hC 31 (by decide) rfl tFld_X7_319 dX7_tell_33 ?_
    exact g_retiP hR ⟨by rw [oi_1 h], x, by rw [← oi_2 h]⟩ dX7_tell_36
  · replace h := if_p b6 h
    refine g_ldc hX (v := -1000000003) (zu tCon_X7_101 rfl) dX7_tell_9 ?_
    exact g_retiP hR ⟨by rw [oi_1 h], x, by rw [← oi_2 h]⟩ dX7_tell_11
theorem kX7_setAside : mKV RX7 yX7_setAside cX7_setAside 4 none 2 := ⟨tIns_X7_setAside, tSel_X7_setAside, tIni_X7, tCod_X7_setAside, by decide +kernel⟩
set_option maxHeartbeats 4000000 in
set_option maxRecDepth 100000 in
theorem ct_X7_setAside_0_1 (l : Launch) (D : va_G) (cy : Nat → ClassId) (Z : (Nat → Prop) → State → Heap → Prop) (hzo : zOK Z) {h0 : Nat} {a q : Nat → Nat} {C : (Nat → Int32) → (Nat → Int32) → (Nat → Nat → Int32) → (Nat → Nat → Int32) → va_W} (hC : mLens (cy 0) h0 a q C) (μ μ2 : Mg) (x : Nat → Nat → Int32) (res : Unit) (h : fn_X7_setAside_0_1  μ = some (res, μ2)) : GM l D cy Z yX7_setAside (zW yX7_setAside cX7_setAside 4 none) { frames := 0, cells := 0, slots := 0, locals := 0 } [.ref h0, .ref (a 0), .ref (a 1)] (C μ.1 μ.2.1 μ.2.2 x) (fun rs w2 => rs = none ∧ ∃ x2, w2 = C μ2.1 μ2.2.1 μ2.2.2 x2) 0 0 := by
  refine g_entry (cc := cX7_setAside) (maxL := 4) (by decide) rfl (Nat.le_of_ble_eq_true rfl) ?_
  intro κ hN hX hR
  have hX : GX κ cy Z cX7_setAside (Cond.code yX7_setAside cX7_setAside 4 none :: zT) RX7 { frames := 0, cells := 0, slots := 0, locals := 0 } := hX
  have J21 : ∀ (μ : Mg) (x : Nat → Nat → Int32) , fn_X7_setAside_0_1_L21   μ = some (res, μ2) → GW κ 0 0 (C μ.1 μ.2.1 μ.2.2 x) 21 [] [] := by
    intro μ x h
    exact g_retvP hR ⟨rfl, x, by rw [← oi_2 h]⟩ dX7_setAside_21
  have J2 : ∀ (k21 : Mg → Option (Unit × Mg)) (hk21 : ∀ (μ : Mg) (x : Nat → Nat → Int32) , k21  μ = some (res, μ2) → GW κ 0 0 (C μ.1 μ.2.1 μ.2.2 x) 21 [] []) (fuel : Nat), ∀ (v3 : Int32) (μ : Mg) (x : Nat → Nat → Int32) , fn_X7_setAside_0_1_L2  k21 fuel v3 μ = some (res, μ2) → GW κ 0 0 (C μ.1 μ.2.1 μ.2.2 x) 2 [(1, .ref (a 0)), (2, .ref (a 1)), (3, .int (v3))] [] := by
    intro k21 hk21 fuel
    induction fuel with
    | zero => intro v3 μ x h; cases (show none = some (res, μ2) from h)
    | succ fuel ih =>
      intro v3 μ x h
      replace h : (if nI 2869 ≤ v3 then (k21  μ) else (if ¬ (v3 < 0 ∨ 3069 ≤ v3.toNatClampNeg) then ((fn_X7_setAside_0_1_L2  k21 fuel) ((v3 + nI 1)) ((μ.1, μ.2.1, mU μ.2.2 1 (upd (μ.2.2 1) v3.toNatClampNeg (μ.2.1 v3.toNatClampNeg))))) else none)) = some (res, μ2) := h
      refine g_iload_n hX 2 rfl rfl dX7_setAside_2 ?_
      refine g_sipush hX (v := nI 2869) (by decide) dX7_setAside_3 ?_
      refine g_icmp_ge hX 21 (by decide) dX7_setAside_6 (fun b6 => ?_) (fun b6 => ?_)
      · replace h := if_p b6 h
        refine g_lv [] rfl ?_
        exact hk21  μ x h
      · replace h := if_n b6 h
        refine g_aload_n hX 1 rfl rfl dX7_setAside_9 ?_
        refine g_iload_n hX 2 rfl rfl dX7_setAside_10 ?_
        refine g_aload_n hX 0 rfl rfl dX7_setAside_11 ?_
        refine g_iload_n hX 2 rfl rfl dX7_setAside_12 ?_
        obtain ⟨g1, h⟩ := gd_some h
        refine m0_ald hX hC g1 dX7_setAside_13 ?_
        refine m_ast hX hC 1 rfl g1 dX7_setAside_14 ?_
        refine g_iinc (v := (v3 + nI 1)) (lv2 := [(3, .int ((v3 + nI 1))), (1, .ref (a 0)), (2, .ref (a 1))]) hX 2 3 4 hN rfl rfl (by decide) rfl dX7_setAside_15 ?_
        refine g_goto hX 2 (by decide) dX7_setAside_18 ?_
        refine g_lv [1, 2, 0] rfl ?_
        exact ih ((v3 + nI 1)) ((μ.1, μ.2.1, mU μ.2.2 1 (upd (μ.2.2 1) v3.toNatClampNeg (μ.2.1 v3.toNatClampNeg)))) x h
  show GW κ 0 0 (C μ.1 μ.2.1 μ.2.2 x) 0 [(0, .ref h0), (1, .ref (a 0)), (2, .ref (a 1))] []
  refine g_iconst hX (v := nI 0) rfl dX7_setAside_0 ?_
  refine g_istore_n (lv2 := [(3, .int (nI 0)), (0, .ref h0), (1, .ref (a 0)), (2, .ref (a 1))]) hX 3 4 hN rfl (by decide) rfl dX7_setAside_1 ?_
  refine g_lv [2, 3, 0] rfl ?_
  exact (J2 (fn_X7_setAside_0_1_L21 ) J21 4000) (nI 0) μ x h
set_option maxHeartbeats 4000000 in
set_option maxRecDepth 100000 in
theorem ct_X7_setAside_1_0 (l : Launch) (D : va_G) (cy : Nat → ClassId) (Z : (Nat → Prop) → State → Heap → Prop) (hzo : zOK Z) {h0 : Nat} {a q : Nat → Nat} {C : (Nat → Int32) → (Nat → Int32) → (Nat → Nat → Int32) → (Nat → Nat → Int32) → va_W} (hC : mLens (cy 0) h0 a q C) (μ μ2 : Mg) (x : Nat → Nat → Int32) (res : Unit) (h : fn_X7_setAside_1_0  μ = some (res, μ2)) : GM l D cy Z yX7_setAside (zW yX7_setAside cX7_setAside 4 none) { frames := 0, cells := 0, slots := 0, locals := 0 } [.ref h0, .ref (a 1), .ref (a 0)] (C μ.1 μ.2.1 μ.2.2 x) (fun rs w2 => rs = none ∧ ∃ x2, w2 = C μ2.1 μ2.2.1 μ2.2.2 x2) 0 0 := by
  refine g_entry (cc := cX7_setAside) (maxL := 4) (by decide) rfl (Nat.le_of_ble_eq_true rfl) ?_
  intro κ hN hX hR
  have hX : GX κ cy Z cX7_setAside (Cond.code yX7_setAside cX7_setAside 4 none :: zT) RX7 { frames := 0, cells := 0, slots := 0, locals := 0 } := hX
  have J21 : ∀ (μ : Mg) (x : Nat → Nat → Int32) , fn_X7_setAside_1_0_L21   μ = some (res, μ2) → GW κ 0 0 (C μ.1 μ.2.1 μ.2.2 x) 21 [] [] := by
    intro μ x h
    exact g_retvP hR ⟨rfl, x, by rw [← oi_2 h]⟩ dX7_setAside_21
  have J2 : ∀ (k21 : Mg → Option (Unit × Mg)) (hk21 : ∀ (μ : Mg) (x : Nat → Nat → Int32) , k21  μ = some (res, μ2) → GW κ 0 0 (C μ.1 μ.2.1 μ.2.2 x) 21 [] []) (fuel : Nat), ∀ (v3 : Int32) (μ : Mg) (x : Nat → Nat → Int32) , fn_X7_setAside_1_0_L2  k21 fuel v3 μ = some (res, μ2) → GW κ 0 0 (C μ.1 μ.2.1 μ.2.2 x) 2 [(1, .ref (a 1)), (2, .ref (a 0)), (3, .int (v3))] [] := by
    intro k21 hk21 fuel
    induction fuel with
    | zero => intro v3 μ x h; cases (show none = some (res, μ2) from h)
    | succ fuel ih =>
      intro v3 μ x h
      replace h : (if nI 2869 ≤ v3 then (k21  μ) else (if ¬ (v3 < 0 ∨ 3069 ≤ v3.toNatClampNeg) then ((fn_X7_setAside_1_0_L2  k21 fuel) ((v3 + nI 1)) ((μ.1, upd μ.2.1 v3.toNatClampNeg (μ.2.2 1 v3.toNatClampNeg), μ.2.2))) else none)) = some (res, μ2) := h
      refine g_iload_n hX 2 rfl rfl dX7_setAside_2 ?_
      refine g_sipush hX (v := nI 2869) (by decide) dX7_setAside_3 ?_
      refine g_icmp_ge hX 21 (by decide) dX7_setAside_6 (fun b6 => ?_) (fun b6 => ?_)
      · replace h := if_p b6 h
        refine g_lv [] rfl ?_
        exact hk21  μ x h
      · replace h := if_n b6 h
        refine g_aload_n hX 1 rfl rfl dX7_setAside_9 ?_
        refine g_iload_n hX 2 rfl rfl dX7_setAside_10 ?_
        refine g_aload_n hX 0 rfl rfl dX7_setAside_11 ?_
        refine g_iload_n hX 2 rfl rfl dX7_setAside_12 ?_
        obtain ⟨g1, h⟩ := gd_some h
        refine m_ald hX hC 1 rfl g1 dX7_setAside_13 ?_
        refine m0_ast hX hC g1 dX7_setAside_14 ?_
        refine g_iinc (v := (v3 + nI 1)) (lv2 := [(3, .int ((v3 + nI 1))), (1, .ref (a 1)), (2, .ref (a 0))]) hX 2 3 4 hN rfl rfl (by decide) rfl dX7_setAside_15 ?_
        refine g_goto hX 2 (by decide) dX7_setAside_18 ?_
        refine g_lv [1, 2, 0] rfl ?_
        exact ih ((v3 + nI 1)) ((μ.1, upd μ.2.1 v3.toNatClampNeg (μ.2.2 1 v3.toNatClampNeg), μ.2.2)) x h
  show GW κ 0 0 (C μ.1 μ.2.1 μ.2.2 x) 0 [(0, .ref h0), (1, .ref (a 1)), (2, .ref (a 0))] []
  refine g_iconst hX (v := nI 0) rfl dX7_setAside_0 ?_
  refine g_istore_n (lv2 := [(3, .int (nI 0)), (0, .ref h0), (1, .ref (a 1)), (2, .ref (a 0))]) hX 3 4 hN rfl (by decide) rfl dX7_setAside_1 ?_
  refine g_lv [2, 3, 0] rfl ?_
  exact (J2 (fn_X7_setAside_1_0_L21 ) J21 4000) (nI 0) μ x h
set_option maxHeartbeats 4000000 in
set_option maxRecDepth 100000 in
theorem ct_X7_setAside_0_2 (l : Launch) (D : va_G) (cy : Nat → ClassId) (Z : (Nat → Prop) → State → Heap → Prop) (hzo : zOK Z) {h0 : Nat} {a q : Nat → Nat} {C : (Nat → Int32) → (Nat → Int32) → (Nat → Nat → Int32) → (Nat → Nat → Int32) → va_W} (hC : mLens (cy 0) h0 a q C) (μ μ2 : Mg) (x : Nat → Nat → Int32) (res : Unit) (h : fn_X7_setAside_0_2  μ = some (res, μ2)) : GM l D cy Z yX7_setAside (zW yX7_setAside cX7_setAside 4 none) { frames := 0, cells := 0, slots := 0, locals := 0 } [.ref h0, .ref (a 0), .ref (a 2)] (C μ.1 μ.2.1 μ.2.2 x) (fun rs w2 => rs = none ∧ ∃ x2, w2 = C μ2.1 μ2.2.1 μ2.2.2 x2) 0 0 := by
  refine g_entry (cc := cX7_setAside) (maxL := 4) (by decide) rfl (Nat.le_of_ble_eq_true rfl) ?_
  intro κ hN hX hR
  have hX : GX κ cy Z cX7_setAside (Cond.code yX7_setAside cX7_setAside 4 none :: zT) RX7 { frames := 0, cells := 0, slots := 0, locals := 0 } := hX
  have J21 : ∀ (μ : Mg) (x : Nat → Nat → Int32) , fn_X7_setAside_0_2_L21   μ = some (res, μ2) → GW κ 0 0 (C μ.1 μ.2.1 μ.2.2 x) 21 [] [] := by
    intro μ x h
    exact g_retvP hR ⟨rfl, x, by rw [← oi_2 h]⟩ dX7_setAside_21
  have J2 : ∀ (k21 : Mg → Option (Unit × Mg)) (hk21 : ∀ (μ : Mg) (x : Nat → Nat → Int32) , k21  μ = some (res, μ2) → GW κ 0 0 (C μ.1 μ.2.1 μ.2.2 x) 21 [] []) (fuel : Nat), ∀ (v3 : Int32) (μ : Mg) (x : Nat → Nat → Int32) , fn_X7_setAside_0_2_L2  k21 fuel v3 μ = some (res, μ2) → GW κ 0 0 (C μ.1 μ.2.1 μ.2.2 x) 2 [(1, .ref (a 0)), (2, .ref (a 2)), (3, .int (v3))] [] := by
    intro k21 hk21 fuel
    induction fuel with
    | zero => intro v3 μ x h; cases (show none = some (res, μ2) from h)
    | succ fuel ih =>
      intro v3 μ x h
      replace h : (if nI 2869 ≤ v3 then (k21  μ) else (if ¬ (v3 < 0 ∨ 3069 ≤ v3.toNatClampNeg) then ((fn_X7_setAside_0_2_L2  k21 fuel) ((v3 + nI 1)) ((μ.1, μ.2.1, mU μ.2.2 2 (upd (μ.2.2 2) v3.toNatClampNeg (μ.2.1 v3.toNatClampNeg))))) else none)) = some (res, μ2) := h
      refine g_iload_n hX 2 rfl rfl dX7_setAside_2 ?_
      refine g_sipush hX (v := nI 2869) (by decide) dX7_setAside_3 ?_
      refine g_icmp_ge hX 21 (by decide) dX7_setAside_6 (fun b6 => ?_) (fun b6 => ?_)
      · replace h := if_p b6 h
        refine g_lv [] rfl ?_
        exact hk21  μ x h
      · replace h := if_n b6 h
        refine g_aload_n hX 1 rfl rfl dX7_setAside_9 ?_
        refine g_iload_n hX 2 rfl rfl dX7_setAside_10 ?_
        refine g_aload_n hX 0 rfl rfl dX7_setAside_11 ?_
        refine g_iload_n hX 2 rfl rfl dX7_setAside_12 ?_
        obtain ⟨g1, h⟩ := gd_some h
        refine m0_ald hX hC g1 dX7_setAside_13 ?_
        refine m_ast hX hC 2 rfl g1 dX7_setAside_14 ?_
        refine g_iinc (v := (v3 + nI 1)) (lv2 := [(3, .int ((v3 + nI 1))), (1, .ref (a 0)), (2, .ref (a 2))]) hX 2 3 4 hN rfl rfl (by decide) rfl dX7_setAside_15 ?_
        refine g_goto hX 2 (by decide) dX7_setAside_18 ?_
        refine g_lv [1, 2, 0] rfl ?_
        exact ih ((v3 + nI 1)) ((μ.1, μ.2.1, mU μ.2.2 2 (upd (μ.2.2 2) v3.toNatClampNeg (μ.2.1 v3.toNatClampNeg)))) x h
  show GW κ 0 0 (C μ.1 μ.2.1 μ.2.2 x) 0 [(0, .ref h0), (1, .ref (a 0)), (2, .ref (a 2))] []
  refine g_iconst hX (v := nI 0) rfl dX7_setAside_0 ?_
  refine g_istore_n (lv2 := [(3, .int (nI 0)), (0, .ref h0), (1, .ref (a 0)), (2, .ref (a 2))]) hX 3 4 hN rfl (by decide) rfl dX7_setAside_1 ?_
  refine g_lv [2, 3, 0] rfl ?_
  exact (J2 (fn_X7_setAside_0_2_L21 ) J21 4000) (nI 0) μ x h
set_option maxHeartbeats 4000000 in
set_option maxRecDepth 100000 in
theorem ct_X7_setAside_2_0 (l : Launch) (D : va_G) (cy : Nat → ClassId) (Z : (Nat → Prop) → State → Heap → Prop) (hzo : zOK Z) {h0 : Nat} {a q : Nat → Nat} {C : (Nat → Int32) → (Nat → Int32) → (Nat → Nat → Int32) → (Nat → Nat → Int32) → va_W} (hC : mLens (cy 0) h0 a q C) (μ μ2 : Mg) (x : Nat → Nat → Int32) (res : Unit) (h : fn_X7_setAside_2_0  μ = some (res, μ2)) : GM l D cy Z yX7_setAside (zW yX7_setAside cX7_setAside 4 none) { frames := 0, cells := 0, slots := 0, locals := 0 } [.ref h0, .ref (a 2), .ref (a 0)] (C μ.1 μ.2.1 μ.2.2 x) (fun rs w2 => rs = none ∧ ∃ x2, w2 = C μ2.1 μ2.2.1 μ2.2.2 x2) 0 0 := by
  refine g_entry (cc := cX7_setAside) (maxL := 4) (by decide) rfl (Nat.le_of_ble_eq_true rfl) ?_
  intro κ hN hX hR
  have hX : GX κ cy Z cX7_setAside (Cond.code yX7_setAside cX7_setAside 4 none :: zT) RX7 { frames := 0, cells := 0, slots := 0, locals := 0 } := hX
  have J21 : ∀ (μ : Mg) (x : Nat → Nat → Int32) , fn_X7_setAside_2_0_L21   μ = some (res, μ2) → GW κ 0 0 (C μ.1 μ.2.1 μ.2.2 x) 21 [] [] := by
    intro μ x h
    exact g_retvP hR ⟨rfl, x, by rw [← oi_2 h]⟩ dX7_setAside_21
  have J2 : ∀ (k21 : Mg → Option (Unit × Mg)) (hk21 : ∀ (μ : Mg) (x : Nat → Nat → Int32) , k21  μ = some (res, μ2) → GW κ 0 0 (C μ.1 μ.2.1 μ.2.2 x) 21 [] []) (fuel : Nat), ∀ (v3 : Int32) (μ : Mg) (x : Nat → Nat → Int32) , fn_X7_setAside_2_0_L2  k21 fuel v3 μ = some (res, μ2) → GW κ 0 0 (C μ.1 μ.2.1 μ.2.2 x) 2 [(1, .ref (a 2)), (2, .ref (a 0)), (3, .int (v3))] [] := by
    intro k21 hk21 fuel
    induction fuel with
    | zero => intro v3 μ x h; cases (show none = some (res, μ2) from h)
    | succ fuel ih =>
      intro v3 μ x h
      replace h : (if nI 2869 ≤ v3 then (k21  μ) else (if ¬ (v3 < 0 ∨ 3069 ≤ v3.toNatClampNeg) then ((fn_X7_setAside_2_0_L2  k21 fuel) ((v3 + nI 1)) ((μ.1, upd μ.2.1 v3.toNatClampNeg (μ.2.2 2 v3.toNatClampNeg), μ.2.2))) else none)) = some (res, μ2) := h
      refine g_iload_n hX 2 rfl rfl dX7_setAside_2 ?_
      refine g_sipush hX (v := nI 2869) (by decide) dX7_setAside_3 ?_
      refine g_icmp_ge hX 21 (by decide) dX7_setAside_6 (fun b6 => ?_) (fun b6 => ?_)
      · replace h := if_p b6 h
        refine g_lv [] rfl ?_
        exact hk21  μ x h
      · replace h := if_n b6 h
        refine g_aload_n hX 1 rfl rfl dX7_setAside_9 ?_
        refine g_iload_n hX 2 rfl rfl dX7_setAside_10 ?_
        refine g_aload_n hX 0 rfl rfl dX7_setAside_11 ?_
        refine g_iload_n hX 2 rfl rfl dX7_setAside_12 ?_
        obtain ⟨g1, h⟩ := gd_some h
        refine m_ald hX hC 2 rfl g1 dX7_setAside_13 ?_
        refine m0_ast hX hC g1 dX7_setAside_14 ?_
        refine g_iinc (v := (v3 + nI 1)) (lv2 := [(3, .int ((v3 + nI 1))), (1, .ref (a 2)), (2, .ref (a 0))]) hX 2 3 4 hN rfl rfl (by decide) rfl dX7_setAside_15 ?_
        refine g_goto hX 2 (by decide) dX7_setAside_18 ?_
        refine g_lv [1, 2, 0] rfl ?_
        exact ih ((v3 + nI 1)) ((μ.1, upd μ.2.1 v3.toNatClampNeg (μ.2.2 2 v3.toNatClampNeg), μ.2.2)) x h
  show GW κ 0 0 (C μ.1 μ.2.1 μ.2.2 x) 0 [(0, .ref h0), (1, .ref (a 2)), (2, .ref (a 0))] []
  refine g_iconst hX (v := nI 0) rfl dX7_setAside_0 ?_
  refine g_istore_n (lv2 := [(3, .int (nI 0)), (0, .ref h0), (1, .ref (a 2)), (2, .ref (a 0))]) hX 3 4 hN rfl (by decide) rfl dX7_setAside_1 ?_
  refine g_lv [2, 3, 0] rfl ?_
  exact (J2 (fn_X7_setAside_2_0_L21 ) J21 4000) (nI 0) μ x h
theorem kX7_check : mKV RX7 yX7_check cX7_check 5 (some .int) 1 := ⟨tIns_X7_check, tSel_X7_check, tIni_X7, tCod_X7_check, by decide +kernel⟩
set_option maxHeartbeats 4000000 in
set_option maxRecDepth 100000 in
theorem ct_X7_check (l : Launch) (D : va_G) (cy : Nat → ClassId) (Z : (Nat → Prop) → State → Heap → Prop) (hzo : zOK Z) {h0 : Nat} {a q : Nat → Nat} {C : (Nat → Int32) → (Nat → Int32) → (Nat → Nat → Int32) → (Nat → Nat → Int32) → va_W} (hC : mLens (cy 0) h0 a q C) (z1 : Int32) (μ μ2 : Mg) (x : Nat → Nat → Int32) (res : Int32) (h : fn_X7_check z1 μ = some (res, μ2)) : GM l D cy Z yX7_check (zW yX7_check cX7_check 5 (some .int)) { frames := 5, cells := 0, slots := 0, locals := 120 } [.ref h0, .int (z1)] (C μ.1 μ.2.1 μ.2.2 x) (fun rs w2 => rs = some (.int res) ∧ ∃ x2, w2 = C μ2.1 μ2.2.1 μ2.2.2 x2) 0 0 := by
  refine g_entry (cc := cX7_check) (maxL := 5) (by decide) rfl (Nat.le_of_ble_eq_true rfl) ?_
  intro κ hN hX hR
  have hX : GX κ cy Z cX7_check (Cond.code yX7_check cX7_check 5 (some .int) :: zT) RX7 { frames := 5, cells := 0, slots := 0, locals := 120 } := hX
  have J191 : ∀ (s0 : Int32) (μ : Mg) (x : Nat → Nat → Int32) , fn_X7_check_L191 z1 s0 μ = some (res, μ2) → GW κ 0 0 (C μ.1 μ.2.1 μ.2.2 x) 191 [] [.int (s0)] := by
    intro s0 μ x h
    exact g_retiP hR ⟨by rw [oi_1 h], x, by rw [← oi_2 h]⟩ dX7_check_191
  have J187 : ∀ (v4 : Int32) (μ : Mg) (x : Nat → Nat → Int32) , fn_X7_check_L187 z1 v4 μ = some (res, μ2) → GW κ 0 0 (C μ.1 μ.2.1 μ.2.2 x) 187 [(4, .int (v4))] [] := by
    intro v4 μ x h
    refine g_iconst hX (v := nI 1) rfl dX7_check_187 ?_
    refine g_iload hX 0 rfl dX7_check_188 ?_
    refine g_iadd hX dX7_check_190 ?_
    refine g_lv [] rfl ?_
    exact J191 ((nI 1 + v4)) μ x h
  have J171 : ∀ (v2 : Int32) (v3 : Int32) (v4 : Int32) (μ : Mg) (x : Nat → Nat → Int32) , fn_X7_check_L171 z1 v2 v3 v4 μ = some (res, μ2) → GW κ 0 0 (C μ.1 μ.2.1 μ.2.2 x) 171 [(2, .int (v2)), (3, .int (v3)), (4, .int (v4))] [] := by
    intro v2 v3 v4 μ x h
    refine g_iload hX 2 rfl dX7_check_171 ?_
    refine g_iload_n hX 0 rfl rfl dX7_check_173 ?_
    refine g_icmp_ne hX 187 (by decide) dX7_check_174 (fun b174 => ?_) (fun b174 => ?_)
    · replace h := if_n b174 h
      refine g_lv [2] rfl ?_
      exact J187 v4 μ x h
    · replace h := if_p b174 h
      refine g_iload hX 2 rfl dX7_check_177 ?_
      refine g_iload_n hX 1 rfl rfl dX7_check_179 ?_
      refine g_icmp_ne hX 187 (by decide) dX7_check_180 (fun b180 => ?_) (fun b180 => ?_)
      · replace h := if_n b180 h
        refine g_lv [2] rfl ?_
        exact J187 v4 μ x h
      · replace h := if_p b180 h
        refine g_iconst hX (v := nI 0) rfl dX7_check_183 ?_
        refine g_goto hX 191 (by decide) dX7_check_184 ?_
        refine g_lv [] rfl ?_
        exact J191 (nI 0) μ x h
  have J136 : ∀ (k171 : Int32 → Int32 → Int32 → Mg → Option (Int32 × Mg)) (hk171 : ∀ (v2 : Int32) (v3 : Int32) (v4 : Int32) (μ : Mg) (x : Nat → Nat → Int32) , k171 v2 v3 v4 μ = some (res, μ2) → GW κ 0 0 (C μ.1 μ.2.1 μ.2.2 x) 171 [(2, .int (v2)), (3, .int (v3)), (4, .int (v4))] []) (fuel : Nat), ∀ (v2 : Int32) (v3 : Int32) (v4 : Int32) (μ : Mg) (x : Nat → Nat → Int32) , fn_X7_check_L136 z1 k171 fuel v2 v3 v4 μ = some (res, μ2) → GW κ 0 0 (C μ.1 μ.2.1 μ.2.2 x) 136 [(0, .ref h0), (2, .int (v2)), (3, .int (v3)), (4, .int (v4))] [] := by
    intro k171 hk171 fuel
    induction fuel with
    | zero => intro v2 v3 v4 μ x h; cases (show none = some (res, μ2) from h)
    | succ fuel ih =>
      intro v2 v3 v4 μ x h
      replace h : (if v2 ≤ v4 then (k171 v2 v3 v4 μ) else (if v3 ≤ v4 then (k171 v2 v3 v4 μ) else (if ¬ (v4 < 0 ∨ 60 ≤ v4.toNatClampNeg) then (if μ.2.2 30 v4.toNatClampNeg = μ.2.2 32 v4.toNatClampNeg then ((fn_X7_check_L136 z1 k171 fuel) v2 v3 ((v4 + nI 1)) μ) else (k171 v2 v3 v4 μ)) else none))) = some (res, μ2) := h
      refine g_iload hX 3 rfl dX7_check_136 ?_
      refine g_iload_n hX 1 rfl rfl dX7_check_138 ?_
      refine g_icmp_ge hX 171 (by decide) dX7_check_139 (fun b139 => ?_) (fun b139 => ?_)
      · replace h := if_p b139 h
        refine g_lv [1, 2, 3] rfl ?_
        exact hk171 v2 v3 v4 μ x h
      · replace h := if_n b139 h
        refine g_iload hX 3 rfl dX7_check_142 ?_
        refine g_iload_n hX 2 rfl rfl dX7_check_144 ?_
        refine g_icmp_ge hX 171 (by decide) dX7_check_145 (fun b145 => ?_) (fun b145 => ?_)
        · replace h := if_p b145 h
          refine g_lv [1, 2, 3] rfl ?_
          exact hk171 v2 v3 v4 μ x h
        · replace h := if_n b145 h
          refine g_aload_n hX 0 rfl rfl dX7_check_148 ?_
          refine m_getA hX hC 30 (by decide) rfl tFld_X7_64 dX7_check_149 ?_
          refine g_iload hX 3 rfl dX7_check_152 ?_
          obtain ⟨g1, h⟩ := gd_some h
          refine m_ald hX hC 30 rfl g1 dX7_check_154 ?_
          refine g_aload_n hX 0 rfl rfl dX7_check_155 ?_
          refine m_getA hX hC 32 (by decide) rfl tFld_X7_67 dX7_check_156 ?_
          refine g_iload hX 3 rfl dX7_check_159 ?_
          refine m_ald hX hC 32 rfl g1 dX7_check_161 ?_
          refine g_icmp_ne hX 171 (by decide) dX7_check_162 (fun b162 => ?_) (fun b162 => ?_)
          · replace h := if_n b162 h
            refine g_lv [1, 2, 3] rfl ?_
            exact hk171 v2 v3 v4 μ x h
          · replace h := if_p b162 h
            refine g_iinc (v := (v4 + nI 1)) (lv2 := [(4, .int ((v4 + nI 1))), (0, .ref h0), (2, .int (v2)), (3, .int (v3))]) hX 3 4 5 hN rfl rfl (by decide) rfl dX7_check_165 ?_
            refine g_goto hX 136 (by decide) dX7_check_168 ?_
            refine g_lv [1, 2, 3, 0] rfl ?_
            exact ih v2 v3 ((v4 + nI 1)) μ x h
  have J121 : ∀ (v2 : Int32) (v3 : Int32) (μ : Mg) (x : Nat → Nat → Int32) , fn_X7_check_L121 z1 v2 v3 μ = some (res, μ2) → GW κ 0 0 (C μ.1 μ.2.1 μ.2.2 x) 121 [(0, .ref h0), (2, .int (v2)), (3, .int (v3))] [] := by
    intro v2 v3 μ x h
    refine g_aload_n hX 0 rfl rfl dX7_check_121 ?_
    refine g_aload_n hX 0 rfl rfl dX7_check_122 ?_
    refine m_getA hX hC 2 (by decide) rfl tFld_X7_16 dX7_check_123 ?_
    refine g_aload_n hX 0 rfl rfl dX7_check_126 ?_
    refine m_getA hX hC 0 (by decide) rfl tFld_X7_7 dX7_check_127 ?_
    obtain ⟨y130, τ130, e130, h⟩ := ob_some h
    refine m_call hX hzo hC [.ref (a 2), .ref (a 0)] [] (ct_X7_setAside_2_0 _ _ _ _ hzo hC  μ _ x _ e130) kX7_setAside tMet_X7_328 rfl rfl (Nat.le_of_ble_eq_true rfl) (Nat.le_of_ble_eq_true rfl) ⟨Nat.le_of_ble_eq_true rfl, Nat.le_of_ble_eq_true rfl⟩ rfl (Nat.le_of_ble_eq_true rfl) dX7_check_130 ?_
    rintro _ _ ⟨rfl, x130, rfl⟩
    show GW κ 0 0 (C τ130.1 τ130.2.1 τ130.2.2 x130) 133 [(0, .ref h0), (2, .int (v2)), (3, .int (v3))] []
    refine g_iconst hX (v := nI 0) rfl dX7_check_133 ?_
    refine g_istore (lv2 := [(4, .int (nI 0)), (0, .ref h0), (2, .int (v2)), (3, .int (v3))]) hX 4 5 hN (by decide) rfl dX7_check_134 ?_
    refine g_lv [1, 2, 3, 0] rfl ?_
    exact (J136 (fn_X7_check_L171 z1) J171 4000) v2 v3 (nI 0) τ130 x130 h
  have J64 : ∀ (k121 : Int32 → Int32 → Mg → Option (Int32 × Mg)) (hk121 : ∀ (v2 : Int32) (v3 : Int32) (μ : Mg) (x : Nat → Nat → Int32) , k121 v2 v3 μ = some (res, μ2) → GW κ 0 0 (C μ.1 μ.2.1 μ.2.2 x) 121 [(0, .ref h0), (2, .int (v2)), (3, .int (v3))] []) (fuel : Nat), ∀ (v2 : Int32) (v3 : Int32) (v4 : Int32) (μ : Mg) (x : Nat → Nat → Int32) , fn_X7_check_L64 z1 k121 fuel v2 v3 v4 μ = some (res, μ2) → GW κ 0 0 (C μ.1 μ.2.1 μ.2.2 x) 64 [(0, .ref h0), (1, .int (z1)), (2, .int (v2)), (3, .int (v3)), (4, .int (v4))] [] := by
    intro k121 hk121 fuel
    induction fuel with
    | zero => intro v2 v3 v4 μ x h; cases (show none = some (res, μ2) from h)
    | succ fuel ih =>
      intro v2 v3 v4 μ x h
      replace h : (if z1 ≤ v4 then (k121 v2 v3 μ) else (if ¬ (nI 2 < 0 ∨ 3069 ≤ (nI 2).toNatClampNeg) then (if nI 9999 ≤ μ.2.1 (nI 2).toNatClampNeg then (k121 v2 v3 μ) else (ob (fn_X7_goesOn  μ) (fun y83 τ83 => (ob (fn_X7_allStanding  τ83) (fun y92 τ92 => (o1 (fn_X7_manyIn y92) (fun y95 => (if ¬ (v3 < 0 ∨ 60 ≤ v3.toNatClampNeg) then (ob (fn_X7_allOf (nI 4) ((τ92.1, τ92.2.1, mU τ92.2.2 32 (upd (τ92.2.2 32) v3.toNatClampNeg y95)))) (fun y108 τ108 => (if ¬ ((v3 + nI 1) < 0 ∨ 60 ≤ ((v3 + nI 1)).toNatClampNeg) then ((fn_X7_check_L64 z1 k121 fuel) v2 ((v3 + nI 2)) ((v4 + nI 1)) ((τ108.1, τ108.2.1, mU τ108.2.2 32 (upd (τ108.2.2 32) ((v3 + nI 1)).toNatClampNeg y108)))) else none))) else none)))))))) else none)) = some (res, μ2) := h
      refine g_iload hX 4 rfl dX7_check_64 ?_
      refine g_iload_n hX 1 rfl rfl dX7_check_66 ?_
      refine g_icmp_ge hX 121 (by decide) dX7_check_67 (fun b67 => ?_) (fun b67 => ?_)
      · replace h := if_p b67 h
        refine g_lv [0, 2, 3] rfl ?_
        exact hk121 v2 v3 μ x h
      · replace h := if_n b67 h
        refine g_aload_n hX 0 rfl rfl dX7_check_70 ?_
        refine m_getA hX hC 0 (by decide) rfl tFld_X7_7 dX7_check_71 ?_
        refine g_iconst hX (v := nI 2) rfl dX7_check_74 ?_
        obtain ⟨g2, h⟩ := gd_some h
        refine m0_ald hX hC g2 dX7_check_75 ?_
        refine g_sipush hX (v := nI 9999) (by decide) dX7_check_76 ?_
        refine g_icmp_ge hX 121 (by decide) dX7_check_79 (fun b79 => ?_) (fun b79 => ?_)
        · replace h := if_p b79 h
          refine g_lv [0, 2, 3] rfl ?_
          exact hk121 v2 v3 μ x h
        · replace h := if_n b79 h
          refine g_aload_n hX 0 rfl rfl dX7_check_82 ?_
          obtain ⟨y83, τ83, e83, h⟩ := ob_some h
          refine m_call hX hzo hC [] [] (ct_X7_goesOn _ _ _ _ hzo hC  μ _ x _ e83) kX7_goesOn tMet_X7_172 rfl rfl (Nat.le_of_ble_eq_true rfl) (Nat.le_of_ble_eq_true rfl) ⟨Nat.le_of_ble_eq_true rfl, Nat.le_of_ble_eq_true rfl⟩ rfl (Nat.le_of_ble_eq_true rfl) dX7_check_83 ?_
          rintro _ _ ⟨rfl, x83, rfl⟩
          show GW κ 0 0 (C τ83.1 τ83.2.1 τ83.2.2 x83) 86 [(0, .ref h0), (1, .int (z1)), (2, .int (v2)), (3, .int (v3)), (4, .int (v4))] []
          refine g_aload_n hX 0 rfl rfl dX7_check_86 ?_
          refine m_getA hX hC 32 (by decide) rfl tFld_X7_67 dX7_check_87 ?_
          refine g_iload_n hX 3 rfl rfl dX7_check_90 ?_
          refine g_aload_n hX 0 rfl rfl dX7_check_91 ?_
          obtain ⟨y92, τ92, e92, h⟩ := ob_some h
          refine m_call hX hzo hC [] [.int (v3), .ref (a 32)] (ct_X7_allStanding _ _ _ _ hzo hC  τ83 _ x83 _ e92) kX7_allStanding tMet_X7_123 rfl rfl (Nat.le_of_ble_eq_true rfl) (Nat.le_of_ble_eq_true rfl) ⟨Nat.le_of_ble_eq_true rfl, Nat.le_of_ble_eq_true rfl⟩ rfl (Nat.le_of_ble_eq_true rfl) dX7_check_92 ?_
          rintro _ _ ⟨rfl, x92, rfl⟩
          show GW κ 0 0 (C τ92.1 τ92.2.1 τ92.2.2 x92) 95 [(0, .ref h0), (1, .int (z1)), (2, .int (v2)), (3, .int (v3)), (4, .int (v4))] [.int (y92), .int (v3), .ref (a 32)]
          obtain ⟨y95, e95, h⟩ := o1_some h
          refine s_call hX hzo [.int (y92)] [.int (v3), .ref (a 32)] (ct_X7_manyIn _ _ _ _ hzo _ y92 _ e95) kX7_manyIn tMet_X7_157 rfl rfl (Nat.le_of_ble_eq_true rfl) (Nat.le_of_ble_eq_true rfl) ⟨Nat.le_of_ble_eq_true rfl, Nat.le_of_ble_eq_true rfl⟩ rfl rfl (Nat.le_of_ble_eq_true rfl) dX7_check_95 ?_
          obtain ⟨g3, h⟩ := gd_some h
          refine m_ast hX hC 32 rfl g3 dX7_check_98 ?_
          refine g_aload_n hX 0 rfl rfl dX7_check_99 ?_
          refine m_getA hX hC 32 (by decide) rfl tFld_X7_67 dX7_check_100 ?_
          refine g_iload_n hX 3 rfl rfl dX7_check_103 ?_
          refine g_iconst hX (v := nI 1) rfl dX7_check_104 ?_
          refine g_iadd hX dX7_check_105 ?_
          refine g_aload_n hX 0 rfl rfl dX7_check_106 ?_
          refine g_iconst hX (v := nI 4) rfl dX7_check_107 ?_
          obtain ⟨y108, τ108, e108, h⟩ := ob_some h
          refine m_call hX hzo hC [.int (nI 4)] [.int ((v3 + nI 1)), .ref (a 32)] (ct_X7_allOf _ _ _ _ hzo hC (nI 4) ((τ92.1, τ92.2.1, mU τ92.2.2 32 (upd (τ92.2.2 32) v3.toNatClampNeg y95))) _ x92 _ e108) kX7_allOf tMet_X7_175 rfl rfl (Nat.le_of_ble_eq_true rfl) (Nat.le_of_ble_eq_true rfl) ⟨Nat.le_of_ble_eq_true rfl, Nat.le_of_ble_eq_true rfl⟩ rfl (Nat.le_of_ble_eq_true rfl) dX7_check_108 ?_
          rintro _ _ ⟨rfl, x108, rfl⟩
          show GW κ 0 0 (C τ108.1 τ108.2.1 τ108.2.2 x108) 111 [(0, .ref h0), (1, .int (z1)), (2, .int (v2)), (3, .int (v3)), (4, .int (v4))] [.int (y108), .int ((v3 + nI 1)), .ref (a 32)]
          obtain ⟨g4, h⟩ := gd_some h
          refine m_ast hX hC 32 rfl g4 dX7_check_111 ?_
          refine g_iinc (v := (v3 + nI 2)) (lv2 := [(3, .int ((v3 + nI 2))), (0, .ref h0), (1, .int (z1)), (2, .int (v2)), (4, .int (v4))]) hX 3 3 5 hN rfl rfl (by decide) rfl dX7_check_112 ?_
          refine g_iinc (v := (v4 + nI 1)) (lv2 := [(4, .int ((v4 + nI 1))), (3, .int ((v3 + nI 2))), (0, .ref h0), (1, .int (z1)), (2, .int (v2))]) hX 4 4 5 hN rfl rfl (by decide) rfl dX7_check_115 ?_
          refine g_goto hX 64 (by decide) dX7_check_118 ?_
          refine g_lv [2, 3, 4, 1, 0] rfl ?_
          exact ih v2 ((v3 + nI 2)) ((v4 + nI 1)) ((τ108.1, τ108.2.1, mU τ108.2.2 32 (upd (τ108.2.2 32) ((v3 + nI 1)).toNatClampNeg y108))) x108 h
  show GW κ 0 0 (C μ.1 μ.2.1 μ.2.2 x) 0 [(0, .ref h0), (1, .int (z1))] []
  refine g_aload_n hX 0 rfl rfl dX7_check_0 ?_
  refine m_getI hX hC 31 (by decide) rfl tFld_X7_319 dX7_check_1 ?_
  refine g_istore_n (lv2 := [(2, .int (μ.1 31)), (0, .ref h0), (1, .int (z1))]) hX 2 5 hN rfl (by decide) rfl dX7_check_4 ?_
  refine g_aload_n hX 1 rfl rfl dX7_check_5 ?_
  refine g_iconst hX (v := nI 0) rfl dX7_check_6 ?_
  refine m_putI (ty := .int) hX hC 31 (by decide) rfl rfl (by decide +kernel) rfl rfl tFld_X7_319 dX7_check_7 ?_
  refine g_iload_n hX 2 rfl rfl dX7_check_10 ?_
  refine g_i2l hX dX7_check_11 ?_
  refine g_lconst hX (v := Int32.toInt64 (1)) (by decide) dX7_check_12 ?_
  refine g_ldc2 hX (v := Int32.toInt64 (30)) (zu tCoL_X7_322 rfl) dX7_check_13 ?_
  refine s_call hX hzo [.long (Int32.toInt64 (z1)), .long (Int32.toInt64 ((1))), .long (Int32.toInt64 ((30)))] [] (c_isIn _ _ _ _ _ (z1) ((1)) ((30))) kX7_isIn tMet_X7_71 rfl rfl (Nat.le_of_ble_eq_true rfl) (Nat.le_of_ble_eq_true rfl) ⟨Nat.le_of_ble_eq_true rfl, Nat.le_of_ble_eq_true rfl⟩ rfl rfl (Nat.le_of_ble_eq_true rfl) dX7_check_16 ?_
  refine g_if_ne hX 25 (by decide) dX7_check_19 (fun b19 => ?_) (fun b19 => ?_)
  · replace h := if_n b19 h
    refine g_aload_n hX 1 rfl rfl dX7_check_25 ?_
    refine m_getI hX hC 3 (by decide) rfl tFld_X7_324 dX7_check_26 ?_
    refine g_if_ne hX 35 (by decide) dX7_check_29 (fun b29 => ?_) (fun b29 => ?_)
    · replace h := if_n b29 h
      refine g_aload_n hX 1 rfl rfl dX7_check_35 ?_
      refine g_aload_n hX 1 rfl rfl dX7_check_36 ?_
      refine m_getA hX hC 0 (by decide) rfl tFld_X7_7 dX7_check_37 ?_
      refine g_aload_n hX 1 rfl rfl dX7_check_40 ?_
      refine m_getA hX hC 2 (by decide) rfl tFld_X7_16 dX7_check_41 ?_
      obtain ⟨y44, τ44, e44, h⟩ := ob_some h
      refine m_call hX hzo hC [.ref (a 0), .ref (a 2)] [] (ct_X7_setAside_0_2 _ _ _ _ hzo hC  ((upd μ.1 31 (nI 0), μ.2.1, μ.2.2)) _ x _ e44) kX7_setAside tMet_X7_328 rfl rfl (Nat.le_of_ble_eq_true rfl) (Nat.le_of_ble_eq_true rfl) ⟨Nat.le_of_ble_eq_true rfl, Nat.le_of_ble_eq_true rfl⟩ rfl (Nat.le_of_ble_eq_true rfl) dX7_check_44 ?_
      rintro _ _ ⟨rfl, x44, rfl⟩
      show GW κ 0 0 (C τ44.1 τ44.2.1 τ44.2.2 x44) 47 [(2, .int (μ.1 31)), (0, .ref h0), (1, .int (z1))] []
      refine g_aload_n hX 1 rfl rfl dX7_check_47 ?_
      refine g_aload_n hX 1 rfl rfl dX7_check_48 ?_
      refine m_getA hX hC 1 (by decide) rfl tFld_X7_13 dX7_check_49 ?_
      refine g_aload_n hX 1 rfl rfl dX7_check_52 ?_
      refine m_getA hX hC 0 (by decide) rfl tFld_X7_7 dX7_check_53 ?_
      obtain ⟨y56, τ56, e56, h⟩ := ob_some h
      refine m_call hX hzo hC [.ref (a 1), .ref (a 0)] [] (ct_X7_setAside_1_0 _ _ _ _ hzo hC  τ44 _ x44 _ e56) kX7_setAside tMet_X7_328 rfl rfl (Nat.le_of_ble_eq_true rfl) (Nat.le_of_ble_eq_true rfl) ⟨Nat.le_of_ble_eq_true rfl, Nat.le_of_ble_eq_true rfl⟩ rfl (Nat.le_of_ble_eq_true rfl) dX7_check_56 ?_
      rintro _ _ ⟨rfl, x56, rfl⟩
      show GW κ 0 0 (C τ56.1 τ56.2.1 τ56.2.2 x56) 59 [(2, .int (μ.1 31)), (0, .ref h0), (1, .int (z1))] []
      refine g_iconst hX (v := nI 0) rfl dX7_check_59 ?_
      refine g_istore_n (lv2 := [(3, .int (nI 0)), (2, .int (μ.1 31)), (0, .ref h0), (1, .int (z1))]) hX 3 5 hN rfl (by decide) rfl dX7_check_60 ?_
      refine g_iconst hX (v := nI 0) rfl dX7_check_61 ?_
      refine g_istore (lv2 := [(4, .int (nI 0)), (3, .int (nI 0)), (2, .int (μ.1 31)), (0, .ref h0), (1, .int (z1))]) hX 4 5 hN (by decide) rfl dX7_check_62 ?_
      refine g_lv [3, 4, 2, 1, 0] rfl ?_
      exact (J64 (fn_X7_check_L121 z1) J121 4000) (μ.1 31) (nI 0) (nI 0) τ56 x56 h
    · replace h := if_p b29 h
      refine g_ldc hX (v := -1000000002) (zu tCon_X7_152 rfl) dX7_check_32 ?_
      exact g_retiP hR ⟨by rw [oi_1 h], x, by rw [← oi_2 h]⟩ dX7_check_34
  · replace h := if_p b19 h
    refine g_ldc hX (v := -1000000001) (zu tCon_X7_100 rfl) dX7_check_22 ?_
    exact g_retiP hR ⟨by rw [oi_1 h], x, by rw [← oi_2 h]⟩ dX7_check_24
theorem kX7_keep : mKV RX7 yX7_keep cX7_keep 1 (some .int) 0 := ⟨tIns_X7_keep, tSel_X7_keep, tIni_X7, tCod_X7_keep, by decide +kernel⟩
set_option maxHeartbeats 4000000 in
set_option maxRecDepth 100000 in
theorem ct_X7_keep (l : Launch) (D : va_G) (cy : Nat → ClassId) (Z : (Nat → Prop) → State → Heap → Prop) (hzo : zOK Z) {h0 : Nat} {a q : Nat → Nat} {C : (Nat → Int32) → (Nat → Int32) → (Nat → Nat → Int32) → (Nat → Nat → Int32) → va_W} (hC : mLens (cy 0) h0 a q C) (μ μ2 : Mg) (x : Nat → Nat → Int32) (res : Int32) (h : fn_X7_keep  μ = some (res, μ2)) : GM l D cy Z yX7_keep (zW yX7_keep cX7_keep 1 (some .int)) { frames := 1, cells := 0, slots := 0, locals := 23 } [.ref h0] (C μ.1 μ.2.1 μ.2.2 x) (fun rs w2 => rs = some (.int res) ∧ ∃ x2, w2 = C μ2.1 μ2.2.1 μ2.2.2 x2) 0 0 := by
  refine g_entry (cc := cX7_keep) (maxL := 1) (by decide) rfl (Nat.le_of_ble_eq_true rfl) ?_
  intro κ hN hX hR
  have hX : GX κ cy Z cX7_keep (Cond.code yX7_keep cX7_keep 1 (some .int) :: zT) RX7 { frames := 1, cells := 0, slots := 0, locals := 23 } := hX
  show GW κ 0 0 (C μ.1 μ.2.1 μ.2.2 x) 0 [(0, .ref h0)] []
  refine g_aload_n hX 0 rfl rfl dX7_keep_0 ?_
  refine g_iconst hX (v := nI 1) rfl dX7_keep_1 ?_
  refine m_putI (ty := .boolean) hX hC 3 (by decide) rfl rfl (by decide +kernel) rfl rfl tFld_X7_324 dX7_keep_2 ?_
  refine g_aload_n hX 0 rfl rfl dX7_keep_5 ?_
  refine g_aload_n hX 0 rfl rfl dX7_keep_6 ?_
  refine m_getA hX hC 0 (by decide) rfl tFld_X7_7 dX7_keep_7 ?_
  refine g_aload_n hX 0 rfl rfl dX7_keep_10 ?_
  refine m_getA hX hC 1 (by decide) rfl tFld_X7_13 dX7_keep_11 ?_
  obtain ⟨y14, τ14, e14, h⟩ := ob_some h
  refine m_call hX hzo hC [.ref (a 0), .ref (a 1)] [] (ct_X7_setAside_0_1 _ _ _ _ hzo hC  ((upd μ.1 3 (nI 1), μ.2.1, μ.2.2)) _ x _ e14) kX7_setAside tMet_X7_328 rfl rfl (Nat.le_of_ble_eq_true rfl) (Nat.le_of_ble_eq_true rfl) ⟨Nat.le_of_ble_eq_true rfl, Nat.le_of_ble_eq_true rfl⟩ rfl (Nat.le_of_ble_eq_true rfl) dX7_keep_14 ?_
  rintro _ _ ⟨rfl, x14, rfl⟩
  show GW κ 0 0 (C τ14.1 τ14.2.1 τ14.2.2 x14) 17 [(0, .ref h0)] []
  refine g_aload_n hX 0 rfl rfl dX7_keep_17 ?_
  refine m_getA hX hC 0 (by decide) rfl tFld_X7_7 dX7_keep_18 ?_
  refine g_iconst hX (v := nI 0) rfl dX7_keep_21 ?_
  obtain ⟨g1, h⟩ := gd_some h
  refine m0_ald hX hC g1 dX7_keep_22 ?_
  exact g_retiP hR ⟨by rw [oi_1 h], x14, by rw [← oi_2 h]⟩ dX7_keep_23
theorem kX7_back : mKV RX7 yX7_back cX7_back 1 (some .int) 0 := ⟨tIns_X7_back, tSel_X7_back, tIni_X7, tCod_X7_back, by decide +kernel⟩
set_option maxHeartbeats 4000000 in
set_option maxRecDepth 100000 in
theorem ct_X7_back (l : Launch) (D : va_G) (cy : Nat → ClassId) (Z : (Nat → Prop) → State → Heap → Prop) (hzo : zOK Z) {h0 : Nat} {a q : Nat → Nat} {C : (Nat → Int32) → (Nat → Int32) → (Nat → Nat → Int32) → (Nat → Nat → Int32) → va_W} (hC : mLens (cy 0) h0 a q C) (μ μ2 : Mg) (x : Nat → Nat → Int32) (res : Int32) (h : fn_X7_back  μ = some (res, μ2)) : GM l D cy Z yX7_back (zW yX7_back cX7_back 1 (some .int)) { frames := 1, cells := 0, slots := 0, locals := 23 } [.ref h0] (C μ.1 μ.2.1 μ.2.2 x) (fun rs w2 => rs = some (.int res) ∧ ∃ x2, w2 = C μ2.1 μ2.2.1 μ2.2.2 x2) 0 0 := by
  refine g_entry (cc := cX7_back) (maxL := 1) (by decide) rfl (Nat.le_of_ble_eq_true rfl) ?_
  intro κ hN hX hR
  have hX : GX κ cy Z cX7_back (Cond.code yX7_back cX7_back 1 (some .int) :: zT) RX7 { frames := 1, cells := 0, slots := 0, locals := 23 } := hX
  show GW κ 0 0 (C μ.1 μ.2.1 μ.2.2 x) 0 [(0, .ref h0)] []
  refine g_aload_n hX 0 rfl rfl dX7_back_0 ?_
  refine m_getI hX hC 3 (by decide) rfl tFld_X7_324 dX7_back_1 ?_
  refine g_if_ne hX 10 (by decide) dX7_back_4 (fun b4 => ?_) (fun b4 => ?_)
  · replace h := if_n b4 h
    refine g_aload_n hX 0 rfl rfl dX7_back_10 ?_
    refine g_aload_n hX 0 rfl rfl dX7_back_11 ?_
    refine m_getA hX hC 1 (by decide) rfl tFld_X7_13 dX7_back_12 ?_
    refine g_aload_n hX 0 rfl rfl dX7_back_15 ?_
    refine m_getA hX hC 0 (by decide) rfl tFld_X7_7 dX7_back_16 ?_
    obtain ⟨y19, τ19, e19, h⟩ := ob_some h
    refine m_call hX hzo hC [.ref (a 1), .ref (a 0)] [] (ct_X7_setAside_1_0 _ _ _ _ hzo hC  μ _ x _ e19) kX7_setAside tMet_X7_328 rfl rfl (Nat.le_of_ble_eq_true rfl) (Nat.le_of_ble_eq_true rfl) ⟨Nat.le_of_ble_eq_true rfl, Nat.le_of_ble_eq_true rfl⟩ rfl (Nat.le_of_ble_eq_true rfl) dX7_back_19 ?_
    rintro _ _ ⟨rfl, x19, rfl⟩
    show GW κ 0 0 (C τ19.1 τ19.2.1 τ19.2.2 x19) 22 [(0, .ref h0)] []
    refine g_aload_n hX 0 rfl rfl dX7_back_22 ?_
    refine m_getA hX hC 0 (by decide) rfl tFld_X7_7 dX7_back_23 ?_
    refine g_iconst hX (v := nI 0) rfl dX7_back_26 ?_
    obtain ⟨g1, h⟩ := gd_some h
    refine m0_ald hX hC g1 dX7_back_27 ?_
    exact g_retiP hR ⟨by rw [oi_1 h], x19, by rw [← oi_2 h]⟩ dX7_back_28
  · replace h := if_p b4 h
    refine g_ldc hX (v := -1000000002) (zu tCon_X7_152 rfl) dX7_back_7 ?_
    exact g_retiP hR ⟨by rw [oi_1 h], x, by rw [← oi_2 h]⟩ dX7_back_9
theorem kX7_count : mKV RX7 yX7_count cX7_count 2 (some .int) 1 := ⟨tIns_X7_count, tSel_X7_count, tIni_X7, tCod_X7_count, by decide +kernel⟩
set_option maxHeartbeats 4000000 in
set_option maxRecDepth 100000 in
theorem ct_X7_count (l : Launch) (D : va_G) (cy : Nat → ClassId) (Z : (Nat → Prop) → State → Heap → Prop) (hzo : zOK Z) {h0 : Nat} {a q : Nat → Nat} {C : (Nat → Int32) → (Nat → Int32) → (Nat → Nat → Int32) → (Nat → Nat → Int32) → va_W} (hC : mLens (cy 0) h0 a q C) (z1 : Int32) (μ μ2 : Mg) (x : Nat → Nat → Int32) (res : Int32) (h : fn_X7_count z1 μ = some (res, μ2)) : GM l D cy Z yX7_count (zW yX7_count cX7_count 2 (some .int)) { frames := 3, cells := 0, slots := 0, locals := 65 } [.ref h0, .int (z1)] (C μ.1 μ.2.1 μ.2.2 x) (fun rs w2 => rs = some (.int res) ∧ ∃ x2, w2 = C μ2.1 μ2.2.1 μ2.2.2 x2) 0 0 := by
  refine g_entry (cc := cX7_count) (maxL := 2) (by decide) rfl (Nat.le_of_ble_eq_true rfl) ?_
  intro κ hN hX hR
  have hX : GX κ cy Z cX7_count (Cond.code yX7_count cX7_count 2 (some .int) :: zT) RX7 { frames := 3, cells := 0, slots := 0, locals := 65 } := hX
  show GW κ 0 0 (C μ.1 μ.2.1 μ.2.2 x) 0 [(0, .ref h0), (1, .int (z1))] []
  refine g_iload_n hX 1 rfl rfl dX7_count_0 ?_
  rcases sw_in (z1) 0 7 (by decide) with w1 | ⟨j1, w1a, w1b, w1⟩
  · replace h := if_n (sw_out w1 0 (by decide) (by decide) (by decide)) h
    replace h := if_n (sw_out w1 1 (by decide) (by decide) (by decide)) h
    replace h := if_n (sw_out w1 2 (by decide) (by decide) (by decide)) h
    replace h := if_n (sw_out w1 3 (by decide) (by decide) (by decide)) h
    replace h := if_n (sw_out w1 4 (by decide) (by decide) (by decide)) h
    replace h := if_n (sw_out w1 5 (by decide) (by decide) (by decide)) h
    replace h := if_n (sw_out w1 6 (by decide) (by decide) (by decide)) h
    replace h := if_n (sw_out w1 7 (by decide) (by decide) (by decide)) h
    refine g_tableOut hX 101 w1 (by decide) dX7_count_1 ?_
    refine g_ldc hX (v := -1000000001) (zu tCon_X7_100 rfl) dX7_count_101 ?_
    exact g_retiP hR ⟨by rw [oi_1 h], x, by rw [← oi_2 h]⟩ dX7_count_103
  · have hj : j1 = 0 ∨ j1 = 1 ∨ j1 = 2 ∨ j1 = 3 ∨ j1 = 4 ∨ j1 = 5 ∨ j1 = 6 ∨ j1 = 7 := by omega
    rcases hj with rfl | rfl | rfl | rfl | rfl | rfl | rfl | rfl
    · replace h := if_p w1 h
      refine g_top (y := .int (nI 0)) (congrArg Value.int w1) ?_
      refine g_tableIn hX 48 (by decide) (by decide) rfl (by decide) dX7_count_1 ?_
      refine g_aload_n hX 0 rfl rfl dX7_count_48 ?_
      refine m_getA hX hC 0 (by decide) rfl tFld_X7_7 dX7_count_49 ?_
      refine g_iconst hX (v := nI 0) rfl dX7_count_52 ?_
      obtain ⟨g1, h⟩ := gd_some h
      refine m0_ald hX hC g1 dX7_count_53 ?_
      exact g_retiP hR ⟨by rw [oi_1 h], x, by rw [← oi_2 h]⟩ dX7_count_54
    · replace h := if_n (by rw [w1]; decide) h
      replace h := if_p w1 h
      refine g_top (y := .int (nI 1)) (congrArg Value.int w1) ?_
      refine g_tableIn hX 55 (by decide) (by decide) rfl (by decide) dX7_count_1 ?_
      refine g_aload_n hX 0 rfl rfl dX7_count_55 ?_
      obtain ⟨y56, τ56, e56, h⟩ := ob_some h
      refine m_call hX hzo hC [] [] (ct_X7_allStanding _ _ _ _ hzo hC  μ _ x _ e56) kX7_allStanding tMet_X7_123 rfl rfl (Nat.le_of_ble_eq_true rfl) (Nat.le_of_ble_eq_true rfl) ⟨Nat.le_of_ble_eq_true rfl, Nat.le_of_ble_eq_true rfl⟩ rfl (Nat.le_of_ble_eq_true rfl) dX7_count_56 ?_
      rintro _ _ ⟨rfl, x56, rfl⟩
      show GW κ 0 0 (C τ56.1 τ56.2.1 τ56.2.2 x56) 59 [(0, .ref h0), (1, .int (z1))] [.int (y56)]
      obtain ⟨y59, e59, h⟩ := o1_some h
      refine s_call hX hzo [.int (y56)] [] (ct_X7_manyIn _ _ _ _ hzo _ y56 _ e59) kX7_manyIn tMet_X7_157 rfl rfl (Nat.le_of_ble_eq_true rfl) (Nat.le_of_ble_eq_true rfl) ⟨Nat.le_of_ble_eq_true rfl, Nat.le_of_ble_eq_true rfl⟩ rfl rfl (Nat.le_of_ble_eq_true rfl) dX7_count_59 ?_
      exact g_retiP hR ⟨by rw [oi_1 h], x56, by rw [← oi_2 h]⟩ dX7_count_62
    · replace h := if_n (by rw [w1]; decide) h
      replace h := if_n (by rw [w1]; decide) h
      replace h := if_p w1 h
      refine g_top (y := .int (nI 2)) (congrArg Value.int w1) ?_
      refine g_tableIn hX 63 (by decide) (by decide) rfl (by decide) dX7_count_1 ?_
      refine g_aload_n hX 0 rfl rfl dX7_count_63 ?_
      refine m_getA hX hC 0 (by decide) rfl tFld_X7_7 dX7_count_64 ?_
      refine g_iconst hX (v := nI 2) rfl dX7_count_67 ?_
      obtain ⟨g2, h⟩ := gd_some h
      refine m0_ald hX hC g2 dX7_count_68 ?_
      exact g_retiP hR ⟨by rw [oi_1 h], x, by rw [← oi_2 h]⟩ dX7_count_69
    · replace h := if_n (by rw [w1]; decide) h
      replace h := if_n (by rw [w1]; decide) h
      replace h := if_n (by rw [w1]; decide) h
      replace h := if_p w1 h
      refine g_top (y := .int (nI 3)) (congrArg Value.int w1) ?_
      refine g_tableIn hX 70 (by decide) (by decide) rfl (by decide) dX7_count_1 ?_
      refine g_aload_n hX 0 rfl rfl dX7_count_70 ?_
      refine m_getA hX hC 0 (by decide) rfl tFld_X7_7 dX7_count_71 ?_
      refine g_iconst hX (v := nI 4) rfl dX7_count_74 ?_
      obtain ⟨g3, h⟩ := gd_some h
      refine m0_ald hX hC g3 dX7_count_75 ?_
      exact g_retiP hR ⟨by rw [oi_1 h], x, by rw [← oi_2 h]⟩ dX7_count_76
    · replace h := if_n (by rw [w1]; decide) h
      replace h := if_n (by rw [w1]; decide) h
      replace h := if_n (by rw [w1]; decide) h
      replace h := if_n (by rw [w1]; decide) h
      replace h := if_p w1 h
      refine g_top (y := .int (nI 4)) (congrArg Value.int w1) ?_
      refine g_tableIn hX 77 (by decide) (by decide) rfl (by decide) dX7_count_1 ?_
      refine g_aload_n hX 0 rfl rfl dX7_count_77 ?_
      refine m_getA hX hC 0 (by decide) rfl tFld_X7_7 dX7_count_78 ?_
      refine g_iconst hX (v := nI 1) rfl dX7_count_81 ?_
      obtain ⟨g4, h⟩ := gd_some h
      refine m0_ald hX hC g4 dX7_count_82 ?_
      exact g_retiP hR ⟨by rw [oi_1 h], x, by rw [← oi_2 h]⟩ dX7_count_83
    · replace h := if_n (by rw [w1]; decide) h
      replace h := if_n (by rw [w1]; decide) h
      replace h := if_n (by rw [w1]; decide) h
      replace h := if_n (by rw [w1]; decide) h
      replace h := if_n (by rw [w1]; decide) h
      replace h := if_p w1 h
      refine g_top (y := .int (nI 5)) (congrArg Value.int w1) ?_
      refine g_tableIn hX 84 (by decide) (by decide) rfl (by decide) dX7_count_1 ?_
      refine g_aload_n hX 0 rfl rfl dX7_count_84 ?_
      refine m_getI hX hC 31 (by decide) rfl tFld_X7_319 dX7_count_85 ?_
      exact g_retiP hR ⟨by rw [oi_1 h], x, by rw [← oi_2 h]⟩ dX7_count_88
    · replace h := if_n (by rw [w1]; decide) h
      replace h := if_n (by rw [w1]; decide) h
      replace h := if_n (by rw [w1]; decide) h
      replace h := if_n (by rw [w1]; decide) h
      replace h := if_n (by rw [w1]; decide) h
      replace h := if_n (by rw [w1]; decide) h
      replace h := if_p w1 h
      refine g_top (y := .int (nI 6)) (congrArg Value.int w1) ?_
      refine g_tableIn hX 89 (by decide) (by decide) rfl (by decide) dX7_count_1 ?_
      refine g_aload_n hX 0 rfl rfl dX7_count_89 ?_
      refine m_getI hX hC 16 (by decide) rfl tFld_X7_200 dX7_count_90 ?_
      exact g_retiP hR ⟨by rw [oi_1 h], x, by rw [← oi_2 h]⟩ dX7_count_93
    · replace h := if_n (by rw [w1]; decide) h
      replace h := if_n (by rw [w1]; decide) h
      replace h := if_n (by rw [w1]; decide) h
      replace h := if_n (by rw [w1]; decide) h
      replace h := if_n (by rw [w1]; decide) h
      replace h := if_n (by rw [w1]; decide) h
      replace h := if_n (by rw [w1]; decide) h
      replace h := if_p w1 h
      refine g_top (y := .int (nI 7)) (congrArg Value.int w1) ?_
      refine g_tableIn hX 94 (by decide) (by decide) rfl (by decide) dX7_count_1 ?_
      refine g_aload_n hX 0 rfl rfl dX7_count_94 ?_
      refine m_getA hX hC 0 (by decide) rfl tFld_X7_7 dX7_count_95 ?_
      refine g_iconst hX (v := nI 5) rfl dX7_count_98 ?_
      obtain ⟨g5, h⟩ := gd_some h
      refine m0_ald hX hC g5 dX7_count_99 ?_
      exact g_retiP hR ⟨by rw [oi_1 h], x, by rw [← oi_2 h]⟩ dX7_count_100
