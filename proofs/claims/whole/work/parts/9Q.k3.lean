set_option maxHeartbeats 4000000 in
set_option maxRecDepth 100000 in
theorem lc_days {κ : GC} {cy : Nat → ClassId} {Z : (Nat → Prop) → State → Heap → Prop} {aStr aByt : Nat → Nat} {bS L : Nat} {xs : Nat → Int32} (hW : LawX κ cy Z aStr aByt bS L xs) {h0 : Nat} {b : Nat → Nat} {ε : Ev} {σ : Sg} {μ : Mg} {x : Nat → Nat → Int32} (hR : Rel ε σ μ) {n1 n2 i : Nat} (hi : i + 6 ≤ L) (hn1 : n1 ≤ 600000) (hn2 : n2 ≤ 7302250) (K : ∀ (σ2 : Sg) (μ2 : Mg) (x2 : Nat → Nat → Int32), Rel ε σ2 μ2 → GW κ n1 n2 (cW cy h0 b ε σ2 μ2.1 μ2.2.1 μ2.2.2 x2) 1368 (lvL bS (sAd ε 0) h0 i) []) : GW κ n1 n2 (cW cy h0 b ε σ μ.1 μ.2.1 μ.2.2 x) 518 (lvL bS (sAd ε 0) h0 i) [] := by
  obtain ⟨hX, hN, hS, hzo, hzs, hL⟩ := hW
  obtain ⟨res, σ2, μ2, e1, e2, hR2⟩ := days_ok hR (xs (i + 1))
  refine g_aload_n hX 2 rfl rfl dL_law_518 ?_
  refine l_arg hX hS 1 1 (by decide) (by omega) hL dL_law_519 dL_law_520 dL_law_521 dL_law_522 dL_law_523 ?_
  refine c_call6 (c := 0) (C := fun ε σ => cW cy h0 b ε σ μ.1 μ.2.1 μ.2.2 x) hX (cw_lens _ _ _ _) hzo rfl [.int (xs (i + 1))] [] (ct_X6_days _ _ _ _ hzo hzs (cw_lens _ _ _ _) ε (xs (i + 1)) σ σ2 res e1) kX6_days tMet_L_57 rfl rfl (Nat.le_of_ble_eq_true rfl) (Nat.le_of_ble_eq_true rfl) ⟨hn1, hn2⟩ rfl rfl (Nat.le_of_ble_eq_true rfl) dL_law_524 ?_
  refine g_aload_n hX 1 rfl rfl dL_law_527 ?_
  refine l_arg hX hS 1 1 (by decide) (by omega) hL dL_law_528 dL_law_529 dL_law_530 dL_law_531 dL_law_532 ?_
  refine l_callM (C := fun v s r x => cW cy h0 b ε σ2 v s r x) hX hzo (cw_mlens ε σ2) [.int (xs (i + 1))] [.int res] (ct_X7_days _ _ _ _ hzo (cw_mlens ε σ2) (xs (i + 1)) μ μ2 x res e2) kX7_days tMet_L_60 rfl rfl (Nat.le_of_ble_eq_true rfl) (Nat.le_of_ble_eq_true rfl) ⟨hn1, hn2⟩ rfl (Nat.le_of_ble_eq_true rfl) dL_law_533 ?_
  rintro _ _ ⟨rfl, x2, rfl⟩
  exact g_icmp_eq hX 1368 (by decide) dL_law_536 (fun _ => K σ2 μ2 x2 hR2) (fun z => absurd rfl z)
set_option maxHeartbeats 4000000 in
set_option maxRecDepth 100000 in
theorem lc_street {κ : GC} {cy : Nat → ClassId} {Z : (Nat → Prop) → State → Heap → Prop} {aStr aByt : Nat → Nat} {bS L : Nat} {xs : Nat → Int32} (hW : LawX κ cy Z aStr aByt bS L xs) {h0 : Nat} {b : Nat → Nat} {ε : Ev} {σ : Sg} {μ : Mg} {x : Nat → Nat → Int32} (hR : Rel ε σ μ) {n1 n2 i : Nat} (hi : i + 6 ≤ L) (hn1 : n1 ≤ 600000) (hn2 : n2 ≤ 7302250) (K : ∀ (σ2 : Sg) (μ2 : Mg) (x2 : Nat → Nat → Int32), Rel ε σ2 μ2 → GW κ n1 n2 (cW cy h0 b ε σ2 μ2.1 μ2.2.1 μ2.2.2 x2) 1368 (lvL bS (sAd ε 0) h0 i) []) : GW κ n1 n2 (cW cy h0 b ε σ μ.1 μ.2.1 μ.2.2 x) 541 (lvL bS (sAd ε 0) h0 i) [] := by
  obtain ⟨hX, hN, hS, hzo, hzs, hL⟩ := hW
  obtain ⟨res, σ2, μ2, e1, e2, hR2⟩ := street_ok hR (xs (i + 1))
  refine g_aload_n hX 2 rfl rfl dL_law_541 ?_
  refine l_arg hX hS 1 1 (by decide) (by omega) hL dL_law_542 dL_law_543 dL_law_544 dL_law_545 dL_law_546 ?_
  refine c_call6 (c := 0) (C := fun ε σ => cW cy h0 b ε σ μ.1 μ.2.1 μ.2.2 x) hX (cw_lens _ _ _ _) hzo rfl [.int (xs (i + 1))] [] (ct_X6_street _ _ _ _ hzo hzs (cw_lens _ _ _ _) ε (xs (i + 1)) σ σ2 res e1) kX6_street tMet_L_61 rfl rfl (Nat.le_of_ble_eq_true rfl) (Nat.le_of_ble_eq_true rfl) ⟨hn1, hn2⟩ rfl rfl (Nat.le_of_ble_eq_true rfl) dL_law_547 ?_
  refine g_aload_n hX 1 rfl rfl dL_law_550 ?_
  refine l_arg hX hS 1 1 (by decide) (by omega) hL dL_law_551 dL_law_552 dL_law_553 dL_law_554 dL_law_555 ?_
  refine l_callM (C := fun v s r x => cW cy h0 b ε σ2 v s r x) hX hzo (cw_mlens ε σ2) [.int (xs (i + 1))] [.int res] (ct_X7_street _ _ _ _ hzo (cw_mlens ε σ2) (xs (i + 1)) μ μ2 x res e2) kX7_street tMet_L_64 rfl rfl (Nat.le_of_ble_eq_true rfl) (Nat.le_of_ble_eq_true rfl) ⟨hn1, hn2⟩ rfl (Nat.le_of_ble_eq_true rfl) dL_law_556 ?_
  rintro _ _ ⟨rfl, x2, rfl⟩
  exact g_icmp_eq hX 1368 (by decide) dL_law_559 (fun _ => K σ2 μ2 x2 hR2) (fun z => absurd rfl z)
set_option maxHeartbeats 4000000 in
set_option maxRecDepth 100000 in
theorem lc_behind {κ : GC} {cy : Nat → ClassId} {Z : (Nat → Prop) → State → Heap → Prop} {aStr aByt : Nat → Nat} {bS L : Nat} {xs : Nat → Int32} (hW : LawX κ cy Z aStr aByt bS L xs) {h0 : Nat} {b : Nat → Nat} {ε : Ev} {σ : Sg} {μ : Mg} {x : Nat → Nat → Int32} (hR : Rel ε σ μ) {n1 n2 i : Nat} (hi : i + 6 ≤ L) (hn1 : n1 ≤ 600000) (hn2 : n2 ≤ 7302250) (K : ∀ (σ2 : Sg) (μ2 : Mg) (x2 : Nat → Nat → Int32), Rel ε σ2 μ2 → GW κ n1 n2 (cW cy h0 b ε σ2 μ2.1 μ2.2.1 μ2.2.2 x2) 1368 (lvL bS (sAd ε 0) h0 i) []) : GW κ n1 n2 (cW cy h0 b ε σ μ.1 μ.2.1 μ.2.2 x) 564 (lvL bS (sAd ε 0) h0 i) [] := by
  obtain ⟨hX, hN, hS, hzo, hzs, hL⟩ := hW
  obtain ⟨res, σ2, μ2, e1, e2, hR2⟩ := behind_ok hR (xs (i + 1)) (xs (i + 2))
  refine g_aload_n hX 2 rfl rfl dL_law_564 ?_
  refine l_arg hX hS 1 1 (by decide) (by omega) hL dL_law_565 dL_law_566 dL_law_567 dL_law_568 dL_law_569 ?_
  refine l_arg hX hS 2 2 (by decide) (by omega) hL dL_law_570 dL_law_571 dL_law_572 dL_law_573 dL_law_574 ?_
  refine c_call6 (c := 0) (C := fun ε σ => cW cy h0 b ε σ μ.1 μ.2.1 μ.2.2 x) hX (cw_lens _ _ _ _) hzo rfl [.int (xs (i + 1)), .int (xs (i + 2))] [] (ct_X6_behind _ _ _ _ hzo hzs (cw_lens _ _ _ _) ε (xs (i + 1)) (xs (i + 2)) σ σ2 res e1) kX6_behind tMet_L_65 rfl rfl (Nat.le_of_ble_eq_true rfl) (Nat.le_of_ble_eq_true rfl) ⟨hn1, hn2⟩ rfl rfl (Nat.le_of_ble_eq_true rfl) dL_law_575 ?_
  refine g_aload_n hX 1 rfl rfl dL_law_578 ?_
  refine l_arg hX hS 1 1 (by decide) (by omega) hL dL_law_579 dL_law_580 dL_law_581 dL_law_582 dL_law_583 ?_
  refine l_arg hX hS 2 2 (by decide) (by omega) hL dL_law_584 dL_law_585 dL_law_586 dL_law_587 dL_law_588 ?_
  refine l_callM (C := fun v s r x => cW cy h0 b ε σ2 v s r x) hX hzo (cw_mlens ε σ2) [.int (xs (i + 1)), .int (xs (i + 2))] [.int res] (ct_X7_behind _ _ _ _ hzo (cw_mlens ε σ2) (xs (i + 1)) (xs (i + 2)) μ μ2 x res e2) kX7_behind tMet_L_68 rfl rfl (Nat.le_of_ble_eq_true rfl) (Nat.le_of_ble_eq_true rfl) ⟨hn1, hn2⟩ rfl (Nat.le_of_ble_eq_true rfl) dL_law_589 ?_
  rintro _ _ ⟨rfl, x2, rfl⟩
  exact g_icmp_eq hX 1368 (by decide) dL_law_592 (fun _ => K σ2 μ2 x2 hR2) (fun z => absurd rfl z)
set_option maxHeartbeats 4000000 in
set_option maxRecDepth 100000 in
theorem lc_lasts {κ : GC} {cy : Nat → ClassId} {Z : (Nat → Prop) → State → Heap → Prop} {aStr aByt : Nat → Nat} {bS L : Nat} {xs : Nat → Int32} (hW : LawX κ cy Z aStr aByt bS L xs) {h0 : Nat} {b : Nat → Nat} {ε : Ev} {σ : Sg} {μ : Mg} {x : Nat → Nat → Int32} (hR : Rel ε σ μ) {n1 n2 i : Nat} (hi : i + 6 ≤ L) (hn1 : n1 ≤ 600000) (hn2 : n2 ≤ 7302250) (K : ∀ (σ2 : Sg) (μ2 : Mg) (x2 : Nat → Nat → Int32), Rel ε σ2 μ2 → GW κ n1 n2 (cW cy h0 b ε σ2 μ2.1 μ2.2.1 μ2.2.2 x2) 1368 (lvL bS (sAd ε 0) h0 i) []) : GW κ n1 n2 (cW cy h0 b ε σ μ.1 μ.2.1 μ.2.2 x) 597 (lvL bS (sAd ε 0) h0 i) [] := by
  obtain ⟨hX, hN, hS, hzo, hzs, hL⟩ := hW
  obtain ⟨res, σ2, μ2, e1, e2, hR2⟩ := lasts_ok hR 
  refine g_aload_n hX 2 rfl rfl dL_law_597 ?_
  refine c_call6 (c := 0) (C := fun ε σ => cW cy h0 b ε σ μ.1 μ.2.1 μ.2.2 x) hX (cw_lens _ _ _ _) hzo rfl [] [] (ct_X6_lasts _ _ _ _ hzo hzs (cw_lens _ _ _ _) ε  σ σ2 res e1) kX6_lasts tMet_L_69 rfl rfl (Nat.le_of_ble_eq_true rfl) (Nat.le_of_ble_eq_true rfl) ⟨hn1, hn2⟩ rfl rfl (Nat.le_of_ble_eq_true rfl) dL_law_598 ?_
  refine g_aload_n hX 1 rfl rfl dL_law_601 ?_
  refine l_callM (C := fun v s r x => cW cy h0 b ε σ2 v s r x) hX hzo (cw_mlens ε σ2) [] [.int res] (ct_X7_lasts _ _ _ _ hzo (cw_mlens ε σ2)  μ μ2 x res e2) kX7_lasts tMet_L_73 rfl rfl (Nat.le_of_ble_eq_true rfl) (Nat.le_of_ble_eq_true rfl) ⟨hn1, hn2⟩ rfl (Nat.le_of_ble_eq_true rfl) dL_law_602 ?_
  rintro _ _ ⟨rfl, x2, rfl⟩
  exact g_icmp_eq hX 1368 (by decide) dL_law_605 (fun _ => K σ2 μ2 x2 hR2) (fun z => absurd rfl z)
set_option maxHeartbeats 4000000 in
set_option maxRecDepth 100000 in
theorem lc_taken {κ : GC} {cy : Nat → ClassId} {Z : (Nat → Prop) → State → Heap → Prop} {aStr aByt : Nat → Nat} {bS L : Nat} {xs : Nat → Int32} (hW : LawX κ cy Z aStr aByt bS L xs) {h0 : Nat} {b : Nat → Nat} {ε : Ev} {σ : Sg} {μ : Mg} {x : Nat → Nat → Int32} (hR : Rel ε σ μ) {n1 n2 i : Nat} (hi : i + 6 ≤ L) (hn1 : n1 ≤ 600000) (hn2 : n2 ≤ 7302250) (K : ∀ (σ2 : Sg) (μ2 : Mg) (x2 : Nat → Nat → Int32), Rel ε σ2 μ2 → GW κ n1 n2 (cW cy h0 b ε σ2 μ2.1 μ2.2.1 μ2.2.2 x2) 1368 (lvL bS (sAd ε 0) h0 i) []) : GW κ n1 n2 (cW cy h0 b ε σ μ.1 μ.2.1 μ.2.2 x) 610 (lvL bS (sAd ε 0) h0 i) [] := by
  obtain ⟨hX, hN, hS, hzo, hzs, hL⟩ := hW
  obtain ⟨res, σ2, μ2, e1, e2, hR2⟩ := taken_ok hR (xs (i + 1)) (xs (i + 2))
  refine g_aload_n hX 2 rfl rfl dL_law_610 ?_
  refine l_arg hX hS 1 1 (by decide) (by omega) hL dL_law_611 dL_law_612 dL_law_613 dL_law_614 dL_law_615 ?_
  refine l_arg hX hS 2 2 (by decide) (by omega) hL dL_law_616 dL_law_617 dL_law_618 dL_law_619 dL_law_620 ?_
  refine c_call6 (c := 0) (C := fun ε σ => cW cy h0 b ε σ μ.1 μ.2.1 μ.2.2 x) hX (cw_lens _ _ _ _) hzo rfl [.int (xs (i + 1)), .int (xs (i + 2))] [] (ct_X6_taken _ _ _ _ hzo hzs (cw_lens _ _ _ _) ε (xs (i + 1)) (xs (i + 2)) σ σ2 res e1) kX6_taken tMet_L_74 rfl rfl (Nat.le_of_ble_eq_true rfl) (Nat.le_of_ble_eq_true rfl) ⟨hn1, hn2⟩ rfl rfl (Nat.le_of_ble_eq_true rfl) dL_law_621 ?_
  refine g_aload_n hX 1 rfl rfl dL_law_624 ?_
  refine l_arg hX hS 1 1 (by decide) (by omega) hL dL_law_625 dL_law_626 dL_law_627 dL_law_628 dL_law_629 ?_
  refine l_arg hX hS 2 2 (by decide) (by omega) hL dL_law_630 dL_law_631 dL_law_632 dL_law_633 dL_law_634 ?_
  refine l_callM (C := fun v s r x => cW cy h0 b ε σ2 v s r x) hX hzo (cw_mlens ε σ2) [.int (xs (i + 1)), .int (xs (i + 2))] [.int res] (ct_X7_taken _ _ _ _ hzo (cw_mlens ε σ2) (xs (i + 1)) (xs (i + 2)) μ μ2 x res e2) kX7_taken tMet_L_77 rfl rfl (Nat.le_of_ble_eq_true rfl) (Nat.le_of_ble_eq_true rfl) ⟨hn1, hn2⟩ rfl (Nat.le_of_ble_eq_true rfl) dL_law_635 ?_
  rintro _ _ ⟨rfl, x2, rfl⟩
  exact g_icmp_eq hX 1368 (by decide) dL_law_638 (fun _ => K σ2 μ2 x2 hR2) (fun z => absurd rfl z)
set_option maxHeartbeats 4000000 in
set_option maxRecDepth 100000 in
theorem lc_propped {κ : GC} {cy : Nat → ClassId} {Z : (Nat → Prop) → State → Heap → Prop} {aStr aByt : Nat → Nat} {bS L : Nat} {xs : Nat → Int32} (hW : LawX κ cy Z aStr aByt bS L xs) {h0 : Nat} {b : Nat → Nat} {ε : Ev} {σ : Sg} {μ : Mg} {x : Nat → Nat → Int32} (hR : Rel ε σ μ) {n1 n2 i : Nat} (hi : i + 6 ≤ L) (hn1 : n1 ≤ 600000) (hn2 : n2 ≤ 7302250) (K : ∀ (σ2 : Sg) (μ2 : Mg) (x2 : Nat → Nat → Int32), Rel ε σ2 μ2 → GW κ n1 n2 (cW cy h0 b ε σ2 μ2.1 μ2.2.1 μ2.2.2 x2) 1368 (lvL bS (sAd ε 0) h0 i) []) : GW κ n1 n2 (cW cy h0 b ε σ μ.1 μ.2.1 μ.2.2 x) 643 (lvL bS (sAd ε 0) h0 i) [] := by
  obtain ⟨hX, hN, hS, hzo, hzs, hL⟩ := hW
  obtain ⟨res, σ2, μ2, e1, e2, hR2⟩ := propped_ok hR (xs (i + 1))
  refine g_aload_n hX 2 rfl rfl dL_law_643 ?_
  refine l_arg hX hS 1 1 (by decide) (by omega) hL dL_law_644 dL_law_645 dL_law_646 dL_law_647 dL_law_648 ?_
  refine c_call6 (c := 0) (C := fun ε σ => cW cy h0 b ε σ μ.1 μ.2.1 μ.2.2 x) hX (cw_lens _ _ _ _) hzo rfl [.int (xs (i + 1))] [] (ct_X6_propped _ _ _ _ hzo hzs (cw_lens _ _ _ _) ε (xs (i + 1)) σ σ2 res e1) kX6_propped tMet_L_78 rfl rfl (Nat.le_of_ble_eq_true rfl) (Nat.le_of_ble_eq_true rfl) ⟨hn1, hn2⟩ rfl rfl (Nat.le_of_ble_eq_true rfl) dL_law_649 ?_
  refine g_aload_n hX 1 rfl rfl dL_law_652 ?_
  refine l_arg hX hS 1 1 (by decide) (by omega) hL dL_law_653 dL_law_654 dL_law_655 dL_law_656 dL_law_657 ?_
  refine l_callM (C := fun v s r x => cW cy h0 b ε σ2 v s r x) hX hzo (cw_mlens ε σ2) [.int (xs (i + 1))] [.int res] (ct_X7_propped _ _ _ _ hzo (cw_mlens ε σ2) (xs (i + 1)) μ μ2 x res e2) kX7_propped tMet_L_81 rfl rfl (Nat.le_of_ble_eq_true rfl) (Nat.le_of_ble_eq_true rfl) ⟨hn1, hn2⟩ rfl (Nat.le_of_ble_eq_true rfl) dL_law_658 ?_
  rintro _ _ ⟨rfl, x2, rfl⟩
  exact g_icmp_eq hX 1368 (by decide) dL_law_661 (fun _ => K σ2 μ2 x2 hR2) (fun z => absurd rfl z)
set_option maxHeartbeats 4000000 in
set_option maxRecDepth 100000 in
theorem lc_wall {κ : GC} {cy : Nat → ClassId} {Z : (Nat → Prop) → State → Heap → Prop} {aStr aByt : Nat → Nat} {bS L : Nat} {xs : Nat → Int32} (hW : LawX κ cy Z aStr aByt bS L xs) {h0 : Nat} {b : Nat → Nat} {ε : Ev} {σ : Sg} {μ : Mg} {x : Nat → Nat → Int32} (hR : Rel ε σ μ) {n1 n2 i : Nat} (hi : i + 6 ≤ L) (hn1 : n1 ≤ 600000) (hn2 : n2 ≤ 7302250) (K : ∀ (σ2 : Sg) (μ2 : Mg) (x2 : Nat → Nat → Int32), Rel ε σ2 μ2 → GW κ n1 n2 (cW cy h0 b ε σ2 μ2.1 μ2.2.1 μ2.2.2 x2) 1368 (lvL bS (sAd ε 0) h0 i) []) : GW κ n1 n2 (cW cy h0 b ε σ μ.1 μ.2.1 μ.2.2 x) 666 (lvL bS (sAd ε 0) h0 i) [] := by
  obtain ⟨hX, hN, hS, hzo, hzs, hL⟩ := hW
  obtain ⟨res, σ2, μ2, e1, e2, hR2⟩ := wall_ok hR (xs (i + 1)) (xs (i + 2))
  refine g_aload_n hX 2 rfl rfl dL_law_666 ?_
  refine l_arg hX hS 1 1 (by decide) (by omega) hL dL_law_667 dL_law_668 dL_law_669 dL_law_670 dL_law_671 ?_
  refine l_arg hX hS 2 2 (by decide) (by omega) hL dL_law_672 dL_law_673 dL_law_674 dL_law_675 dL_law_676 ?_
  refine c_call6 (c := 0) (C := fun ε σ => cW cy h0 b ε σ μ.1 μ.2.1 μ.2.2 x) hX (cw_lens _ _ _ _) hzo rfl [.int (xs (i + 1)), .int (xs (i + 2))] [] (ct_X6_wall _ _ _ _ hzo hzs (cw_lens _ _ _ _) ε (xs (i + 1)) (xs (i + 2)) σ σ2 res e1) kX6_wall tMet_L_82 rfl rfl (Nat.le_of_ble_eq_true rfl) (Nat.le_of_ble_eq_true rfl) ⟨hn1, hn2⟩ rfl rfl (Nat.le_of_ble_eq_true rfl) dL_law_677 ?_
  refine g_aload_n hX 1 rfl rfl dL_law_680 ?_
  refine l_arg hX hS 1 1 (by decide) (by omega) hL dL_law_681 dL_law_682 dL_law_683 dL_law_684 dL_law_685 ?_
  refine l_arg hX hS 2 2 (by decide) (by omega) hL dL_law_686 dL_law_687 dL_law_688 dL_law_689 dL_law_690 ?_
  refine l_callM (C := fun v s r x => cW cy h0 b ε σ2 v s r x) hX hzo (cw_mlens ε σ2) [.int (xs (i + 1)), .int (xs (i + 2))] [.int res] (ct_X7_wall _ _ _ _ hzo (cw_mlens ε σ2) (xs (i + 1)) (xs (i + 2)) μ μ2 x res e2) kX7_wall tMet_L_85 rfl rfl (Nat.le_of_ble_eq_true rfl) (Nat.le_of_ble_eq_true rfl) ⟨hn1, hn2⟩ rfl (Nat.le_of_ble_eq_true rfl) dL_law_691 ?_
  rintro _ _ ⟨rfl, x2, rfl⟩
  exact g_icmp_eq hX 1368 (by decide) dL_law_694 (fun _ => K σ2 μ2 x2 hR2) (fun z => absurd rfl z)
set_option maxHeartbeats 4000000 in
set_option maxRecDepth 100000 in
theorem lc_snows {κ : GC} {cy : Nat → ClassId} {Z : (Nat → Prop) → State → Heap → Prop} {aStr aByt : Nat → Nat} {bS L : Nat} {xs : Nat → Int32} (hW : LawX κ cy Z aStr aByt bS L xs) {h0 : Nat} {b : Nat → Nat} {ε : Ev} {σ : Sg} {μ : Mg} {x : Nat → Nat → Int32} (hR : Rel ε σ μ) {n1 n2 i : Nat} (hi : i + 6 ≤ L) (hn1 : n1 ≤ 600000) (hn2 : n2 ≤ 7302250) (K : ∀ (σ2 : Sg) (μ2 : Mg) (x2 : Nat → Nat → Int32), Rel ε σ2 μ2 → GW κ n1 n2 (cW cy h0 b ε σ2 μ2.1 μ2.2.1 μ2.2.2 x2) 1368 (lvL bS (sAd ε 0) h0 i) []) : GW κ n1 n2 (cW cy h0 b ε σ μ.1 μ.2.1 μ.2.2 x) 699 (lvL bS (sAd ε 0) h0 i) [] := by
  obtain ⟨hX, hN, hS, hzo, hzs, hL⟩ := hW
  obtain ⟨res, σ2, μ2, e1, e2, hR2⟩ := snows_ok hR (xs (i + 1))
  refine g_aload_n hX 2 rfl rfl dL_law_699 ?_
  refine l_arg hX hS 1 1 (by decide) (by omega) hL dL_law_700 dL_law_701 dL_law_702 dL_law_703 dL_law_704 ?_
  refine c_call6 (c := 0) (C := fun ε σ => cW cy h0 b ε σ μ.1 μ.2.1 μ.2.2 x) hX (cw_lens _ _ _ _) hzo rfl [.int (xs (i + 1))] [] (ct_X6_snows _ _ _ _ hzo hzs (cw_lens _ _ _ _) ε (xs (i + 1)) σ σ2 res e1) kX6_snows tMet_L_86 rfl rfl (Nat.le_of_ble_eq_true rfl) (Nat.le_of_ble_eq_true rfl) ⟨hn1, hn2⟩ rfl rfl (Nat.le_of_ble_eq_true rfl) dL_law_705 ?_
  refine g_aload_n hX 1 rfl rfl dL_law_708 ?_
  refine l_arg hX hS 1 1 (by decide) (by omega) hL dL_law_709 dL_law_710 dL_law_711 dL_law_712 dL_law_713 ?_
  refine l_callM (C := fun v s r x => cW cy h0 b ε σ2 v s r x) hX hzo (cw_mlens ε σ2) [.int (xs (i + 1))] [.int res] (ct_X7_snows _ _ _ _ hzo (cw_mlens ε σ2) (xs (i + 1)) μ μ2 x res e2) kX7_snows tMet_L_89 rfl rfl (Nat.le_of_ble_eq_true rfl) (Nat.le_of_ble_eq_true rfl) ⟨hn1, hn2⟩ rfl (Nat.le_of_ble_eq_true rfl) dL_law_714 ?_
  rintro _ _ ⟨rfl, x2, rfl⟩
  exact g_icmp_eq hX 1368 (by decide) dL_law_717 (fun _ => K σ2 μ2 x2 hR2) (fun z => absurd rfl z)
set_option maxHeartbeats 4000000 in
set_option maxRecDepth 100000 in
theorem lc_began {κ : GC} {cy : Nat → ClassId} {Z : (Nat → Prop) → State → Heap → Prop} {aStr aByt : Nat → Nat} {bS L : Nat} {xs : Nat → Int32} (hW : LawX κ cy Z aStr aByt bS L xs) {h0 : Nat} {b : Nat → Nat} {ε : Ev} {σ : Sg} {μ : Mg} {x : Nat → Nat → Int32} (hR : Rel ε σ μ) {n1 n2 i : Nat} (hi : i + 6 ≤ L) (hn1 : n1 ≤ 600000) (hn2 : n2 ≤ 7302250) (K : ∀ (σ2 : Sg) (μ2 : Mg) (x2 : Nat → Nat → Int32), Rel ε σ2 μ2 → GW κ n1 n2 (cW cy h0 b ε σ2 μ2.1 μ2.2.1 μ2.2.2 x2) 1368 (lvL bS (sAd ε 0) h0 i) []) : GW κ n1 n2 (cW cy h0 b ε σ μ.1 μ.2.1 μ.2.2 x) 722 (lvL bS (sAd ε 0) h0 i) [] := by
  obtain ⟨hX, hN, hS, hzo, hzs, hL⟩ := hW
  obtain ⟨res, σ2, μ2, e1, e2, hR2⟩ := began_ok hR (xs (i + 1)) (xs (i + 2)) (xs (i + 3))
  refine g_aload_n hX 2 rfl rfl dL_law_722 ?_
  refine l_arg hX hS 1 1 (by decide) (by omega) hL dL_law_723 dL_law_724 dL_law_725 dL_law_726 dL_law_727 ?_
  refine l_arg hX hS 2 2 (by decide) (by omega) hL dL_law_728 dL_law_729 dL_law_730 dL_law_731 dL_law_732 ?_
  refine l_arg hX hS 3 3 (by decide) (by omega) hL dL_law_733 dL_law_734 dL_law_735 dL_law_736 dL_law_737 ?_
  refine c_call6 (c := 0) (C := fun ε σ => cW cy h0 b ε σ μ.1 μ.2.1 μ.2.2 x) hX (cw_lens _ _ _ _) hzo rfl [.int (xs (i + 1)), .int (xs (i + 2)), .int (xs (i + 3))] [] (ct_X6_began _ _ _ _ hzo hzs (cw_lens _ _ _ _) ε (xs (i + 1)) (xs (i + 2)) (xs (i + 3)) σ σ2 res e1) kX6_began tMet_L_90 rfl rfl (Nat.le_of_ble_eq_true rfl) (Nat.le_of_ble_eq_true rfl) ⟨hn1, hn2⟩ rfl rfl (Nat.le_of_ble_eq_true rfl) dL_law_738 ?_
  refine g_aload_n hX 1 rfl rfl dL_law_741 ?_
  refine l_arg hX hS 1 1 (by decide) (by omega) hL dL_law_742 dL_law_743 dL_law_744 dL_law_745 dL_law_746 ?_
  refine l_arg hX hS 2 2 (by decide) (by omega) hL dL_law_747 dL_law_748 dL_law_749 dL_law_750 dL_law_751 ?_
  refine l_arg hX hS 3 3 (by decide) (by omega) hL dL_law_752 dL_law_753 dL_law_754 dL_law_755 dL_law_756 ?_
  refine l_callM (C := fun v s r x => cW cy h0 b ε σ2 v s r x) hX hzo (cw_mlens ε σ2) [.int (xs (i + 1)), .int (xs (i + 2)), .int (xs (i + 3))] [.int res] (ct_X7_began _ _ _ _ hzo (cw_mlens ε σ2) (xs (i + 1)) (xs (i + 2)) (xs (i + 3)) μ μ2 x res e2) kX7_began tMet_L_93 rfl rfl (Nat.le_of_ble_eq_true rfl) (Nat.le_of_ble_eq_true rfl) ⟨hn1, hn2⟩ rfl (Nat.le_of_ble_eq_true rfl) dL_law_757 ?_
  rintro _ _ ⟨rfl, x2, rfl⟩
  exact g_icmp_eq hX 1368 (by decide) dL_law_760 (fun _ => K σ2 μ2 x2 hR2) (fun z => absurd rfl z)
set_option maxHeartbeats 4000000 in
set_option maxRecDepth 100000 in
theorem lc_fee {κ : GC} {cy : Nat → ClassId} {Z : (Nat → Prop) → State → Heap → Prop} {aStr aByt : Nat → Nat} {bS L : Nat} {xs : Nat → Int32} (hW : LawX κ cy Z aStr aByt bS L xs) {h0 : Nat} {b : Nat → Nat} {ε : Ev} {σ : Sg} {μ : Mg} {x : Nat → Nat → Int32} (hR : Rel ε σ μ) {n1 n2 i : Nat} (hi : i + 6 ≤ L) (hn1 : n1 ≤ 600000) (hn2 : n2 ≤ 7302250) (K : ∀ (σ2 : Sg) (μ2 : Mg) (x2 : Nat → Nat → Int32), Rel ε σ2 μ2 → GW κ n1 n2 (cW cy h0 b ε σ2 μ2.1 μ2.2.1 μ2.2.2 x2) 1368 (lvL bS (sAd ε 0) h0 i) []) : GW κ n1 n2 (cW cy h0 b ε σ μ.1 μ.2.1 μ.2.2 x) 765 (lvL bS (sAd ε 0) h0 i) [] := by
  obtain ⟨hX, hN, hS, hzo, hzs, hL⟩ := hW
  obtain ⟨res, σ2, μ2, e1, e2, hR2⟩ := fee_ok hR 
  refine g_aload_n hX 2 rfl rfl dL_law_765 ?_
  refine c_call6 (c := 0) (C := fun ε σ => cW cy h0 b ε σ μ.1 μ.2.1 μ.2.2 x) hX (cw_lens _ _ _ _) hzo rfl [] [] (ct_X6_fee _ _ _ _ hzo hzs (cw_lens _ _ _ _) ε  σ σ2 res e1) kX6_fee tMet_L_94 rfl rfl (Nat.le_of_ble_eq_true rfl) (Nat.le_of_ble_eq_true rfl) ⟨hn1, hn2⟩ rfl rfl (Nat.le_of_ble_eq_true rfl) dL_law_766 ?_
  refine g_aload_n hX 1 rfl rfl dL_law_769 ?_
  refine l_callM (C := fun v s r x => cW cy h0 b ε σ2 v s r x) hX hzo (cw_mlens ε σ2) [] [.int res] (ct_X7_fee _ _ _ _ hzo (cw_mlens ε σ2)  μ μ2 x res e2) kX7_fee tMet_L_97 rfl rfl (Nat.le_of_ble_eq_true rfl) (Nat.le_of_ble_eq_true rfl) ⟨hn1, hn2⟩ rfl (Nat.le_of_ble_eq_true rfl) dL_law_770 ?_
  rintro _ _ ⟨rfl, x2, rfl⟩
  exact g_icmp_eq hX 1368 (by decide) dL_law_773 (fun _ => K σ2 μ2 x2 hR2) (fun z => absurd rfl z)
