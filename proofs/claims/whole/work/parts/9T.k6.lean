theorem lw_gt {L i : Nat} (hL : L ≤ 3072) (hi : i ≤ 4000) : (nI L - nI 6 < nI i) ↔ L < i + 6 := by
  rw [Int32.lt_iff_toInt_lt, Int32.toInt_sub, nI_toInt (by omega), nI_toInt (by omega), nI_toInt (by omega), Int.bmod_eq_of_le (by omega) (by omega)]
  omega
theorem nI_in9 {j : Nat} (h : j ≤ 39) : ¬ (nI j).toInt < 0 ∧ ¬ 39 < (nI j).toInt := by
  rw [nI_toInt (by omega)]
  omega
set_option maxHeartbeats 8000000 in
set_option maxRecDepth 100000 in
theorem law_loop {κ : GC} {cy : Nat → ClassId} {Z : (Nat → Prop) → State → Heap → Prop} {aStr aByt : Nat → Nat} {bS L : Nat} {xs : Nat → Int32} (hW : LawX κ cy Z aStr aByt bS L xs) {h0 a0 : Nat} {b : Nat → Nat} (E : ∀ (n1 n2 : Nat) (w : va_W) (lv : List (Nat × Value)), n1 ≤ 600000 → n2 ≤ 7302250 → GW κ n1 n2 w 1375 lv [.int 1]) :
    ∀ (k i n1 n2 : Nat) (ε : Ev) (σ : Sg) (μ : Mg) (x : Nat → Nat → Int32), Rel ε σ μ → sAd ε 0 = a0 → L < i + 6 + 6 * k → i ≤ 3072 → n1 + 3 * k ≤ 600000 → n2 + 197 * k ≤ 7302250 → GW κ n1 n2 (cW cy h0 b ε σ μ.1 μ.2.1 μ.2.2 x) 18 (lvL bS a0 h0 i) [] := by
  intro k
  have hL : L ≤ 3072 := hW.2.2.2.2.2
  have hX := hW.1
  have hN := hW.2.1
  have hS := hW.2.2.1
  induction k with
  | zero =>
    intro i n1 n2 ε σ μ x hR ha hk hi3 hn1 hn2
    refine g_iload_n hX 0 rfl rfl dL_law_18 ?_
    refine g_aload_n hX 3 rfl rfl dL_law_19 ?_
    refine g_sln hX hS dL_law_20 ?_
    refine g_bipush hX (v := nI 6) (by decide) dL_law_21 ?_
    refine g_isub hX dL_law_23 ?_
    refine g_icmp_gt hX 1374 (by decide) dL_law_24 (fun _ => ?_) (fun z => absurd ((lw_gt hL (by omega)).mpr (by omega)) z)
    refine g_iconst hX (v := 1) (by decide) dL_law_1374 ?_
    exact E _ _ _ _ (by omega) (by omega)
  | succ k ih =>
    intro i n1 n2 ε σ μ x hR ha hk hi3 hn1 hn2
    refine g_iload_n hX 0 rfl rfl dL_law_18 ?_
    refine g_aload_n hX 3 rfl rfl dL_law_19 ?_
    refine g_sln hX hS dL_law_20 ?_
    refine g_bipush hX (v := nI 6) (by decide) dL_law_21 ?_
    refine g_isub hX dL_law_23 ?_
    refine g_icmp_gt hX 1374 (by decide) dL_law_24 (fun _ => ?_) (fun z => ?_)
    · refine g_iconst hX (v := 1) (by decide) dL_law_1374 ?_
      exact E _ _ _ _ (by omega) (by omega)
    have hi : i + 6 ≤ L := Nat.not_lt.mp (fun y => z ((lw_gt hL (by omega)).mpr y))
    refine g_aload_n hX 3 rfl rfl dL_law_27 ?_
    refine g_iload_n hX 0 rfl rfl dL_law_28 ?_
    refine g_sld hX hS (by omega) hL dL_law_29 ?_
    refine g_bipush hX (v := nI 63) (by decide) dL_law_30 ?_
    refine g_iand hX dL_law_32 ?_
    have go : ∀ (n1' n2' : Nat) (ε2 : Ev) (σ2 : Sg) (μ2 : Mg) (x2 : Nat → Nat → Int32), n1' ≤ n1 + 3 → n2' ≤ n2 + 197 → Rel ε2 σ2 μ2 → sAd ε2 0 = sAd ε 0 → GW κ n1' n2' (cW cy h0 b ε2 σ2 μ2.1 μ2.2.1 μ2.2.2 x2) 1368 (lvL bS (sAd ε2 0) h0 i) [] := by
      intro n1' n2' ε2 σ2 μ2 x2 b1 b2 hR2 ha2
      rw [ha2, ha]
      refine g_iincN (n := 6) (x := i) (lv2 := lvL bS a0 h0 (i + 6)) hX 0 3 4 hN rfl (by decide) rfl dL_law_1368 ?_
      refine g_goto hX 18 (by decide) dL_law_1371 ?_
      exact ih (i + 6) n1' n2' ε2 σ2 μ2 x2 hR2 (ha2.trans ha) (by omega) (by omega) (by omega) (by omega)
    rw [← ha]
    have go1 : ∀ (σ2 : Sg) (μ2 : Mg) (x2 : Nat → Nat → Int32), Rel ε σ2 μ2 → GW κ n1 n2 (cW cy h0 b ε σ2 μ2.1 μ2.2.1 μ2.2.2 x2) 1368 (lvL bS (sAd ε 0) h0 i) [] := fun σ2 μ2 x2 hR2 => go n1 n2 ε σ2 μ2 x2 (by omega) (by omega) hR2 rfl
    rcases sw_in (xs i &&& nI 63) 0 39 (by decide) with hout | ⟨j, -, hj, hz⟩
    · exact g_tableOut hX 1368 hout (by decide) dL_law_33 (go1 σ μ x hR)
    · rw [hz]
      match j, hj with
      | 0, hj => exact g_tableIn hX 208 (nI_in9 hj).1 (nI_in9 hj).2 (by rw [nI_toInt (by decide)]; rfl) (by decide) dL_law_33 (lc_house hW hR hi (by omega) (by omega) go1)
      | 1, hj => exact g_tableIn hX 261 (nI_in9 hj).1 (nI_in9 hj).2 (by rw [nI_toInt (by decide)]; rfl) (by decide) dL_law_33 (lc_told hW hR hi (by omega) (by omega) go1)
      | 2, hj => exact g_tableIn hX 294 (nI_in9 hj).1 (nI_in9 hj).2 (by rw [nI_toInt (by decide)]; rfl) (by decide) dL_law_33 (lc_as hW hR hi (by omega) (by omega) go1)
      | 3, hj => exact g_tableIn hX 327 (nI_in9 hj).1 (nI_in9 hj).2 (by rw [nI_toInt (by decide)]; rfl) (by decide) dL_law_33 (lc_turns hW hR hi (by omega) (by omega) go1)
      | 4, hj => exact g_tableIn hX 360 (nI_in9 hj).1 (nI_in9 hj).2 (by rw [nI_toInt (by decide)]; rfl) (by decide) dL_law_33 (lc_set hW hR hi (by omega) (by omega) go1)
      | 5, hj => exact g_tableIn hX 403 (nI_in9 hj).1 (nI_in9 hj).2 (by rw [nI_toInt (by decide)]; rfl) (by decide) dL_law_33 (lc_fells hW hR hi (by omega) (by omega) go1)
      | 6, hj => exact g_tableIn hX 426 (nI_in9 hj).1 (nI_in9 hj).2 (by rw [nI_toInt (by decide)]; rfl) (by decide) dL_law_33 (lc_raises hW hR hi (by omega) (by omega) go1)
      | 7, hj => exact g_tableIn hX 449 (nI_in9 hj).1 (nI_in9 hj).2 (by rw [nI_toInt (by decide)]; rfl) (by decide) dL_law_33 (lc_snow hW hR hi (by omega) (by omega) go1)
      | 8, hj => exact g_tableIn hX 472 (nI_in9 hj).1 (nI_in9 hj).2 (by rw [nI_toInt (by decide)]; rfl) (by decide) dL_law_33 (lc_deal hW hR hi (by omega) (by omega) go1)
      | 9, hj => exact g_tableIn hX 495 (nI_in9 hj).1 (nI_in9 hj).2 (by rw [nI_toInt (by decide)]; rfl) (by decide) dL_law_33 (lc_seed hW hR hi (by omega) (by omega) go1)
      | 10, hj => exact g_tableIn hX 518 (nI_in9 hj).1 (nI_in9 hj).2 (by rw [nI_toInt (by decide)]; rfl) (by decide) dL_law_33 (lc_days hW hR hi (by omega) (by omega) go1)
      | 11, hj => exact g_tableIn hX 541 (nI_in9 hj).1 (nI_in9 hj).2 (by rw [nI_toInt (by decide)]; rfl) (by decide) dL_law_33 (lc_street hW hR hi (by omega) (by omega) go1)
      | 12, hj => exact g_tableIn hX 564 (nI_in9 hj).1 (nI_in9 hj).2 (by rw [nI_toInt (by decide)]; rfl) (by decide) dL_law_33 (lc_behind hW hR hi (by omega) (by omega) go1)
      | 13, hj => exact g_tableIn hX 597 (nI_in9 hj).1 (nI_in9 hj).2 (by rw [nI_toInt (by decide)]; rfl) (by decide) dL_law_33 (lc_lasts hW hR hi (by omega) (by omega) go1)
      | 14, hj => exact g_tableIn hX 610 (nI_in9 hj).1 (nI_in9 hj).2 (by rw [nI_toInt (by decide)]; rfl) (by decide) dL_law_33 (lc_taken hW hR hi (by omega) (by omega) go1)
      | 15, hj => exact g_tableIn hX 643 (nI_in9 hj).1 (nI_in9 hj).2 (by rw [nI_toInt (by decide)]; rfl) (by decide) dL_law_33 (lc_propped hW hR hi (by omega) (by omega) go1)
      | 16, hj => exact g_tableIn hX 666 (nI_in9 hj).1 (nI_in9 hj).2 (by rw [nI_toInt (by decide)]; rfl) (by decide) dL_law_33 (lc_wall hW hR hi (by omega) (by omega) go1)
      | 17, hj => exact g_tableIn hX 699 (nI_in9 hj).1 (nI_in9 hj).2 (by rw [nI_toInt (by decide)]; rfl) (by decide) dL_law_33 (lc_snows hW hR hi (by omega) (by omega) go1)
      | 18, hj => exact g_tableIn hX 722 (nI_in9 hj).1 (nI_in9 hj).2 (by rw [nI_toInt (by decide)]; rfl) (by decide) dL_law_33 (lc_began hW hR hi (by omega) (by omega) go1)
      | 19, hj => exact g_tableIn hX 765 (nI_in9 hj).1 (nI_in9 hj).2 (by rw [nI_toInt (by decide)]; rfl) (by decide) dL_law_33 (lc_fee hW hR hi (by omega) (by omega) go1)
      | 20, hj => exact g_tableIn hX 778 (nI_in9 hj).1 (nI_in9 hj).2 (by rw [nI_toInt (by decide)]; rfl) (by decide) dL_law_33 (lc_fine hW hR hi (by omega) (by omega) go1)
      | 21, hj => exact g_tableIn hX 801 (nI_in9 hj).1 (nI_in9 hj).2 (by rw [nI_toInt (by decide)]; rfl) (by decide) dL_law_33 (lc_feed hW hR hi (by omega) (by omega) go1)
      | 22, hj => exact g_tableIn hX 844 (nI_in9 hj).1 (nI_in9 hj).2 (by rw [nI_toInt (by decide)]; rfl) (by decide) dL_law_33 (lc_trim hW hR hi (by omega) (by omega) go1)
      | 23, hj => exact g_tableIn hX 867 (nI_in9 hj).1 (nI_in9 hj).2 (by rw [nI_toInt (by decide)]; rfl) (by decide) dL_law_33 (lc_text hW hR hi (by omega) (by omega) (fun ε2 σ2 μ2 x2 q1 q2 => go _ _ ε2 σ2 μ2 x2 (by omega) (by omega) q1 q2))
      | 24, hj => exact g_tableIn hX 880 (nI_in9 hj).1 (nI_in9 hj).2 (by rw [nI_toInt (by decide)]; rfl) (by decide) dL_law_33 (lc_textTold hW hR hi (by omega) (by omega) go1)
      | 25, hj => exact g_tableIn hX 913 (nI_in9 hj).1 (nI_in9 hj).2 (by rw [nI_toInt (by decide)]; rfl) (by decide) dL_law_33 (lc_why hW hR hi (by omega) (by omega) go1)
      | 26, hj => exact g_tableIn hX 936 (nI_in9 hj).1 (nI_in9 hj).2 (by rw [nI_toInt (by decide)]; rfl) (by decide) dL_law_33 (lc_sheet hW hR hi (by omega) (by omega) go1)
      | 27, hj => exact g_tableIn hX 979 (nI_in9 hj).1 (nI_in9 hj).2 (by rw [nI_toInt (by decide)]; rfl) (by decide) dL_law_33 (lc_mark hW hR hi (by omega) (by omega) go1)
      | 28, hj => exact g_tableIn hX 1022 (nI_in9 hj).1 (nI_in9 hj).2 (by rw [nI_toInt (by decide)]; rfl) (by decide) dL_law_33 (lc_pour hW hR hi (by omega) (by omega) go1)
      | 29, hj => exact g_tableIn hX 1045 (nI_in9 hj).1 (nI_in9 hj).2 (by rw [nI_toInt (by decide)]; rfl) (by decide) dL_law_33 (lc_reads hW hR hi (by omega) (by omega) go1)
      | 30, hj => exact g_tableIn hX 1068 (nI_in9 hj).1 (nI_in9 hj).2 (by rw [nI_toInt (by decide)]; rfl) (by decide) dL_law_33 (lc_copy hW hR hi (by omega) (by omega) go1)
      | 31, hj => exact g_tableIn hX 1131 (nI_in9 hj).1 (nI_in9 hj).2 (by rw [nI_toInt (by decide)]; rfl) (by decide) dL_law_33 (lc_lay hW hR hi (by omega) (by omega) go1)
      | 32, hj => exact g_tableIn hX 1174 (nI_in9 hj).1 (nI_in9 hj).2 (by rw [nI_toInt (by decide)]; rfl) (by decide) dL_law_33 (lc_ask hW hR hi (by omega) (by omega) go1)
      | 33, hj => exact g_tableIn hX 1207 (nI_in9 hj).1 (nI_in9 hj).2 (by rw [nI_toInt (by decide)]; rfl) (by decide) dL_law_33 (lc_item hW hR hi (by omega) (by omega) go1)
      | 34, hj => exact g_tableIn hX 1240 (nI_in9 hj).1 (nI_in9 hj).2 (by rw [nI_toInt (by decide)]; rfl) (by decide) dL_law_33 (lc_rest hW hR hi (by omega) (by omega) go1)
      | 35, hj => exact g_tableIn hX 1273 (nI_in9 hj).1 (nI_in9 hj).2 (by rw [nI_toInt (by decide)]; rfl) (by decide) dL_law_33 (lc_tell hW hR hi (by omega) (by omega) go1)
      | 36, hj => exact g_tableIn hX 1296 (nI_in9 hj).1 (nI_in9 hj).2 (by rw [nI_toInt (by decide)]; rfl) (by decide) dL_law_33 (lc_check hW hR hi (by omega) (by omega) go1)
      | 37, hj => exact g_tableIn hX 1319 (nI_in9 hj).1 (nI_in9 hj).2 (by rw [nI_toInt (by decide)]; rfl) (by decide) dL_law_33 (lc_keep hW hR hi (by omega) (by omega) go1)
      | 38, hj => exact g_tableIn hX 1332 (nI_in9 hj).1 (nI_in9 hj).2 (by rw [nI_toInt (by decide)]; rfl) (by decide) dL_law_33 (lc_back hW hR hi (by omega) (by omega) go1)
      | 39, hj => exact g_tableIn hX 1345 (nI_in9 hj).1 (nI_in9 hj).2 (by rw [nI_toInt (by decide)]; rfl) (by decide) dL_law_33 (lc_count hW hR hi (by omega) (by omega) go1)
      | n + 40, hj => exact absurd hj (by omega)
