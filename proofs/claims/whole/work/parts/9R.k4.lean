set_option maxHeartbeats 4000000 in
set_option maxRecDepth 100000 in
theorem lc_fine {κ : GC} {cy : Nat → ClassId} {Z : (Nat → Prop) → State → Heap → Prop} {aStr aByt : Nat → Nat} {bS L : Nat} {xs : Nat → Int32} (hW : LawX κ cy Z aStr aByt bS L xs) {h0 : Nat} {b : Nat → Nat} {ε : Ev} {σ : Sg} {μ : Mg} {x : Nat → Nat → Int32} (hR : Rel ε σ μ) {n1 n2 i : Nat} (hi : i + 6 ≤ L) (hn1 : n1 ≤ 600000) (hn2 : n2 ≤ 7302250) (K : ∀ (σ2 : Sg) (μ2 : Mg) (x2 : Nat → Nat → Int32), Rel ε σ2 μ2 → GW κ n1 n2 (cW cy h0 b ε σ2 μ2.1 μ2.2.1 μ2.2.2 x2) 1368 (lvL bS (sAd ε 0) h0 i) []) : GW κ n1 n2 (cW cy h0 b ε σ μ.1 μ.2.1 μ.2.2 x) 778 (lvL bS (sAd ε 0) h0 i) [] := by
  obtain ⟨hX, hN, hS, hzo, hzs, hL⟩ := hW
  obtain ⟨res, σ2, μ2, e1, e2, hR2⟩ := fine_ok hR (xs (i + 1))
  refine g_aload_n hX 2 rfl rfl dL_law_778 ?_
  refine l_arg hX hS 1 1 (by decide) (by omega) hL dL_law_779 dL_law_780 dL_law_781 dL_law_782 dL_law_783 ?_
  refine c_call6 (c := 0) (C := fun ε σ => cW cy h0 b ε σ μ.1 μ.2.1 μ.2.2 x) hX (cw_lens _ _ _ _) hzo rfl [.int (xs (i + 1))] [] (ct_X6_fine _ _ _ _ hzo hzs (cw_lens _ _ _ _) ε (xs (i + 1)) σ σ2 res e1) kX6_fine tMet_L_98 rfl rfl (Nat.le_of_ble_eq_true rfl) (Nat.le_of_ble_eq_true rfl) ⟨hn1, hn2⟩ rfl rfl (Nat.le_of_ble_eq_true rfl) dL_law_784 ?_
  refine g_aload_n hX 1 rfl rfl dL_law_787 ?_
  refine l_arg hX hS 1 1 (by decide) (by omega) hL dL_law_788 dL_law_789 dL_law_790 dL_law_791 dL_law_792 ?_
  refine l_callM (C := fun v s r x => cW cy h0 b ε σ2 v s r x) hX hzo (cw_mlens ε σ2) [.int (xs (i + 1))] [.int res] (ct_X7_fine _ _ _ _ hzo (cw_mlens ε σ2) (xs (i + 1)) μ μ2 x res e2) kX7_fine tMet_L_101 rfl rfl (Nat.le_of_ble_eq_true rfl) (Nat.le_of_ble_eq_true rfl) ⟨hn1, hn2⟩ rfl (Nat.le_of_ble_eq_true rfl) dL_law_793 ?_
  rintro _ _ ⟨rfl, x2, rfl⟩
  exact g_icmp_eq hX 1368 (by decide) dL_law_796 (fun _ => K σ2 μ2 x2 hR2) (fun z => absurd rfl z)
set_option maxHeartbeats 4000000 in
set_option maxRecDepth 100000 in
theorem lc_feed {κ : GC} {cy : Nat → ClassId} {Z : (Nat → Prop) → State → Heap → Prop} {aStr aByt : Nat → Nat} {bS L : Nat} {xs : Nat → Int32} (hW : LawX κ cy Z aStr aByt bS L xs) {h0 : Nat} {b : Nat → Nat} {ε : Ev} {σ : Sg} {μ : Mg} {x : Nat → Nat → Int32} (hR : Rel ε σ μ) {n1 n2 i : Nat} (hi : i + 6 ≤ L) (hn1 : n1 ≤ 600000) (hn2 : n2 ≤ 7302250) (K : ∀ (σ2 : Sg) (μ2 : Mg) (x2 : Nat → Nat → Int32), Rel ε σ2 μ2 → GW κ n1 n2 (cW cy h0 b ε σ2 μ2.1 μ2.2.1 μ2.2.2 x2) 1368 (lvL bS (sAd ε 0) h0 i) []) : GW κ n1 n2 (cW cy h0 b ε σ μ.1 μ.2.1 μ.2.2 x) 801 (lvL bS (sAd ε 0) h0 i) [] := by
  obtain ⟨hX, hN, hS, hzo, hzs, hL⟩ := hW
  obtain ⟨res, σ2, μ2, e1, e2, hR2⟩ := feed_ok hR (xs (i + 1)) (xs (i + 2)) (xs (i + 3))
  refine g_aload_n hX 2 rfl rfl dL_law_801 ?_
  refine l_arg hX hS 1 1 (by decide) (by omega) hL dL_law_802 dL_law_803 dL_law_804 dL_law_805 dL_law_806 ?_
  refine l_arg hX hS 2 2 (by decide) (by omega) hL dL_law_807 dL_law_808 dL_law_809 dL_law_810 dL_law_811 ?_
  refine l_arg hX hS 3 3 (by decide) (by omega) hL dL_law_812 dL_law_813 dL_law_814 dL_law_815 dL_law_816 ?_
  refine c_call6 (c := 0) (C := fun ε σ => cW cy h0 b ε σ μ.1 μ.2.1 μ.2.2 x) hX (cw_lens _ _ _ _) hzo rfl [.int (xs (i + 1)), .int (xs (i + 2)), .int (xs (i + 3))] [] (ct_X6_feed _ _ _ _ hzo hzs (cw_lens _ _ _ _) ε (xs (i + 1)) (xs (i + 2)) (xs (i + 3)) σ σ2 res e1) kX6_feed tMet_L_102 rfl rfl (Nat.le_of_ble_eq_true rfl) (Nat.le_of_ble_eq_true rfl) ⟨hn1, hn2⟩ rfl rfl (Nat.le_of_ble_eq_true rfl) dL_law_817 ?_
  refine g_aload_n hX 1 rfl rfl dL_law_820 ?_
  refine l_arg hX hS 1 1 (by decide) (by omega) hL dL_law_821 dL_law_822 dL_law_823 dL_law_824 dL_law_825 ?_
  refine l_arg hX hS 2 2 (by decide) (by omega) hL dL_law_826 dL_law_827 dL_law_828 dL_law_829 dL_law_830 ?_
  refine l_arg hX hS 3 3 (by decide) (by omega) hL dL_law_831 dL_law_832 dL_law_833 dL_law_834 dL_law_835 ?_
  refine l_callM (C := fun v s r x => cW cy h0 b ε σ2 v s r x) hX hzo (cw_mlens ε σ2) [.int (xs (i + 1)), .int (xs (i + 2)), .int (xs (i + 3))] [.int res] (ct_X7_feed _ _ _ _ hzo (cw_mlens ε σ2) (xs (i + 1)) (xs (i + 2)) (xs (i + 3)) μ μ2 x res e2) kX7_feed tMet_L_105 rfl rfl (Nat.le_of_ble_eq_true rfl) (Nat.le_of_ble_eq_true rfl) ⟨hn1, hn2⟩ rfl (Nat.le_of_ble_eq_true rfl) dL_law_836 ?_
  rintro _ _ ⟨rfl, x2, rfl⟩
  exact g_icmp_eq hX 1368 (by decide) dL_law_839 (fun _ => K σ2 μ2 x2 hR2) (fun z => absurd rfl z)
set_option maxHeartbeats 4000000 in
set_option maxRecDepth 100000 in
theorem lc_trim {κ : GC} {cy : Nat → ClassId} {Z : (Nat → Prop) → State → Heap → Prop} {aStr aByt : Nat → Nat} {bS L : Nat} {xs : Nat → Int32} (hW : LawX κ cy Z aStr aByt bS L xs) {h0 : Nat} {b : Nat → Nat} {ε : Ev} {σ : Sg} {μ : Mg} {x : Nat → Nat → Int32} (hR : Rel ε σ μ) {n1 n2 i : Nat} (hi : i + 6 ≤ L) (hn1 : n1 ≤ 600000) (hn2 : n2 ≤ 7302250) (K : ∀ (σ2 : Sg) (μ2 : Mg) (x2 : Nat → Nat → Int32), Rel ε σ2 μ2 → GW κ n1 n2 (cW cy h0 b ε σ2 μ2.1 μ2.2.1 μ2.2.2 x2) 1368 (lvL bS (sAd ε 0) h0 i) []) : GW κ n1 n2 (cW cy h0 b ε σ μ.1 μ.2.1 μ.2.2 x) 844 (lvL bS (sAd ε 0) h0 i) [] := by
  obtain ⟨hX, hN, hS, hzo, hzs, hL⟩ := hW
  obtain ⟨res, σ2, μ2, e1, e2, hR2⟩ := trim_ok hR (xs (i + 1))
  refine g_aload_n hX 2 rfl rfl dL_law_844 ?_
  refine l_arg hX hS 1 1 (by decide) (by omega) hL dL_law_845 dL_law_846 dL_law_847 dL_law_848 dL_law_849 ?_
  refine c_call6 (c := 0) (C := fun ε σ => cW cy h0 b ε σ μ.1 μ.2.1 μ.2.2 x) hX (cw_lens _ _ _ _) hzo rfl [.int (xs (i + 1))] [] (ct_X6_trim _ _ _ _ hzo hzs (cw_lens _ _ _ _) ε (xs (i + 1)) σ σ2 res e1) kX6_trim tMet_L_106 rfl rfl (Nat.le_of_ble_eq_true rfl) (Nat.le_of_ble_eq_true rfl) ⟨hn1, hn2⟩ rfl rfl (Nat.le_of_ble_eq_true rfl) dL_law_850 ?_
  refine g_aload_n hX 1 rfl rfl dL_law_853 ?_
  refine l_arg hX hS 1 1 (by decide) (by omega) hL dL_law_854 dL_law_855 dL_law_856 dL_law_857 dL_law_858 ?_
  refine l_callM (C := fun v s r x => cW cy h0 b ε σ2 v s r x) hX hzo (cw_mlens ε σ2) [.int (xs (i + 1))] [.int res] (ct_X7_trim _ _ _ _ hzo (cw_mlens ε σ2) (xs (i + 1)) μ μ2 x res e2) kX7_trim tMet_L_109 rfl rfl (Nat.le_of_ble_eq_true rfl) (Nat.le_of_ble_eq_true rfl) ⟨hn1, hn2⟩ rfl (Nat.le_of_ble_eq_true rfl) dL_law_859 ?_
  rintro _ _ ⟨rfl, x2, rfl⟩
  exact g_icmp_eq hX 1368 (by decide) dL_law_862 (fun _ => K σ2 μ2 x2 hR2) (fun z => absurd rfl z)
set_option maxHeartbeats 4000000 in
set_option maxRecDepth 100000 in
theorem lc_text_end {κ : GC} {cy : Nat → ClassId} {Z : (Nat → Prop) → State → Heap → Prop} {aStr aByt : Nat → Nat} {bS L : Nat} {xs : Nat → Int32} (hW : LawX κ cy Z aStr aByt bS L xs) {h0 : Nat} {b : Nat → Nat} {ε : Ev} {σ : Sg} {μ : Mg} {x : Nat → Nat → Int32} {n1 n2 i : Nat} (hi : i + 6 ≤ L) (hn1 : n1 ≤ 600000) (hn2 : n2 ≤ 7302250) {res : Int32} {μ2 : Mg} (e2 : fn_X7_text μ = some (res, μ2)) (K : ∀ (x2 : Nat → Nat → Int32), GW κ n1 n2 (cW cy h0 b ε σ μ2.1 μ2.2.1 μ2.2.2 x2) 1368 (lvL bS (sAd ε 0) h0 i) []) : GW κ n1 n2 (cW cy h0 b ε σ μ.1 μ.2.1 μ.2.2 x) 871 (lvL bS (sAd ε 0) h0 i) [.int res] := by
  obtain ⟨hX, hN, hS, hzo, hzs, hL⟩ := hW
  refine g_aload_n hX 1 rfl rfl dL_law_871 ?_
  refine l_callM (C := fun v s r x => cW cy h0 b ε σ v s r x) hX hzo (cw_mlens ε σ) [] [.int res] (ct_X7_text _ _ _ _ hzo (cw_mlens ε σ) μ μ2 x res e2) kX7_text tMet_L_113 rfl rfl (Nat.le_of_ble_eq_true rfl) (Nat.le_of_ble_eq_true rfl) ⟨hn1, hn2⟩ rfl (Nat.le_of_ble_eq_true rfl) dL_law_872 ?_
  rintro _ _ ⟨rfl, x2, rfl⟩
  exact g_icmp_eq hX 1368 (by decide) dL_law_875 (fun _ => K x2) (fun z => absurd rfl z)
set_option maxHeartbeats 4000000 in
set_option maxRecDepth 100000 in
theorem lc_text {κ : GC} {cy : Nat → ClassId} {Z : (Nat → Prop) → State → Heap → Prop} {aStr aByt : Nat → Nat} {bS L : Nat} {xs : Nat → Int32} (hW : LawX κ cy Z aStr aByt bS L xs) {h0 : Nat} {b : Nat → Nat} {ε : Ev} {σ : Sg} {μ : Mg} {x : Nat → Nat → Int32} (hR : Rel ε σ μ) {n1 n2 i : Nat} (hi : i + 6 ≤ L) (hn1 : n1 + 3 ≤ 600000) (hn2 : n2 + 197 ≤ 7302250) (K : ∀ (ε2 : Ev) (σ2 : Sg) (μ2 : Mg) (x2 : Nat → Nat → Int32), Rel ε2 σ2 μ2 → sAd ε2 0 = sAd ε 0 → GW κ (n1 + 3) (n2 + 197) (cW cy h0 b ε2 σ2 μ2.1 μ2.2.1 μ2.2.2 x2) 1368 (lvL bS (sAd ε2 0) h0 i) []) : GW κ n1 n2 (cW cy h0 b ε σ μ.1 μ.2.1 μ.2.2 x) 867 (lvL bS (sAd ε 0) h0 i) [] := by
  have hW0 := hW
  obtain ⟨hX, hN, hS, hzo, hzs, hL⟩ := hW
  have hobj : (cW cy h0 b ε σ μ.1 μ.2.1 μ.2.2 x)[qC 0]? = some (sAd ε 0, .inr (6, cF6 ε σ 0)) := by
    have e := (cw_lens (cy := cy) (h0 := h0) (b := b) μ.1 μ.2.1 μ.2.2 x).1 ε σ 0 (kc_X6 (cy := cy) (σ := σ) rfl).1
    rw [(kc_X6 (cy := cy) (σ := σ) rfl).2] at e
    exact e
  have hC := cw_lens (cy := cy) (h0 := h0) (b := b) μ.1 μ.2.1 μ.2.2 x
  obtain ⟨τ, μ2, res, e2, hc⟩ := text_ok hR
  refine g_aload_n hX 2 rfl rfl dL_law_867 ?_
  rcases hc with ⟨e1, er, hR2⟩ | ⟨e1, hf, er, hR2⟩ | ⟨e1, hf, htx, n, m, σ3, hn, hn2', hm, hm2, hadd, hfin⟩
  · refine g_callV (C := RX6) (b := sAd ε 0) (bytes := cX6_text) (maxL := 2) (ret := some .int) (mc := 3) (ms := 197) hX hzo [] [] 6 (qC 0) (qc := (RX6, TX6, 9)) rfl rfl hobj (ct_X6_textA (Kl κ) (KD κ) cy Z hzo hzs hC ε σ τ (nI 0) e1 nI_0) (z_V tMet_L_110 kX6_text.1 kX6_text.2.1 kX6_text.2.2.1 kX6_text.2.2.2.1) rfl rfl rfl kX6_text.2.2.2.2 (Nat.le_of_ble_eq_true rfl) (Nat.le_of_ble_eq_true rfl) rfl (Nat.le_of_ble_eq_true rfl) ⟨hn1, hn2⟩ dL_law_868 ?_
    rintro _ _ ⟨rfl, rfl⟩
    rw [← er]
    exact lc_text_end hW0 hi hn1 hn2 e2 (fun x2 => K ε _ μ2 x2 hR2 rfl)
  · refine g_callV (C := RX6) (b := sAd ε 0) (bytes := cX6_text) (maxL := 2) (ret := some .int) (mc := 3) (ms := 197) hX hzo [] [] 6 (qC 0) (qc := (RX6, TX6, 9)) rfl rfl hobj (ct_X6_textF (Kl κ) (KD κ) cy Z hzo hzs hC ε σ τ (nI 1) e1 (by decide) hf) (z_V tMet_L_110 kX6_text.1 kX6_text.2.1 kX6_text.2.2.1 kX6_text.2.2.2.1) rfl rfl rfl kX6_text.2.2.2.2 (Nat.le_of_ble_eq_true rfl) (Nat.le_of_ble_eq_true rfl) rfl (Nat.le_of_ble_eq_true rfl) ⟨hn1, hn2⟩ dL_law_868 ?_
    rintro _ _ ⟨rfl, rfl⟩
    rw [← er]
    exact lc_text_end hW0 hi hn1 hn2 e2 (fun x2 => K ε _ μ2 x2 hR2 rfl)
  · have hA0 : ∀ c, c < 1000 → ∀ (a b e n m : Nat), sAd (eG ε a b e n m) c = sAd ε c := by
      intro c hc a b e n m
      have hge : 1000 ≤ tNew ε := Nat.le_add_right _ _
      show (if c = tNew ε then a else if c = tNew ε + 1 then b else if c = tNew ε + 2 then e else ε.2.2 c) = ε.2.2 c
      rw [if_neg (by omega), if_neg (by omega), if_neg (by omega)]
    refine g_callV (C := RX6) (b := sAd ε 0) (bytes := cX6_text) (maxL := 2) (ret := some .int) (mc := 3) (ms := 197) hX hzo [] [] 6 (qC 0) (qc := (RX6, TX6, 9)) rfl rfl hobj (ct_X6_textB (Kl κ) (KD κ) cy Z hzo hzs hC ε σ τ (nI 1) e1 (cw_grow μ.1 μ.2.1 μ.2.2 x) (by decide) hf htx hA0 n m hn hn2' hm hm2 σ3 hadd) (z_V tMet_L_110 kX6_text.1 kX6_text.2.1 kX6_text.2.2.1 kX6_text.2.2.2.1) rfl rfl rfl kX6_text.2.2.2.2 (Nat.le_of_ble_eq_true rfl) (Nat.le_of_ble_eq_true rfl) rfl (Nat.le_of_ble_eq_true rfl) ⟨hn1, hn2⟩ dL_law_868 ?_
    rintro _ _ ⟨a1, b1, e9, g, hg, rfl, rfl⟩
    obtain ⟨er, hR2⟩ := hfin a1 b1 e9 g hg
    rw [← er]
    have h00 := hA0 0 (by decide) a1 b1 e9 n m
    refine g_re (lv2 := lvL bS (sAd (eG ε a1 b1 e9 n m) 0) h0 i) (st2 := [.int res]) (by rw [h00]) rfl ?_
    exact lc_text_end hW0 hi hn1 hn2 e2 (fun x2 => K _ _ μ2 x2 hR2 h00)
set_option maxHeartbeats 4000000 in
set_option maxRecDepth 100000 in
theorem lc_textTold {κ : GC} {cy : Nat → ClassId} {Z : (Nat → Prop) → State → Heap → Prop} {aStr aByt : Nat → Nat} {bS L : Nat} {xs : Nat → Int32} (hW : LawX κ cy Z aStr aByt bS L xs) {h0 : Nat} {b : Nat → Nat} {ε : Ev} {σ : Sg} {μ : Mg} {x : Nat → Nat → Int32} (hR : Rel ε σ μ) {n1 n2 i : Nat} (hi : i + 6 ≤ L) (hn1 : n1 ≤ 600000) (hn2 : n2 ≤ 7302250) (K : ∀ (σ2 : Sg) (μ2 : Mg) (x2 : Nat → Nat → Int32), Rel ε σ2 μ2 → GW κ n1 n2 (cW cy h0 b ε σ2 μ2.1 μ2.2.1 μ2.2.2 x2) 1368 (lvL bS (sAd ε 0) h0 i) []) : GW κ n1 n2 (cW cy h0 b ε σ μ.1 μ.2.1 μ.2.2 x) 880 (lvL bS (sAd ε 0) h0 i) [] := by
  obtain ⟨hX, hN, hS, hzo, hzs, hL⟩ := hW
  obtain ⟨res, σ2, μ2, e1, e2, hR2⟩ := textTold_ok hR (xs (i + 1)) (xs (i + 2))
  refine g_aload_n hX 2 rfl rfl dL_law_880 ?_
  refine l_arg hX hS 1 1 (by decide) (by omega) hL dL_law_881 dL_law_882 dL_law_883 dL_law_884 dL_law_885 ?_
  refine l_arg hX hS 2 2 (by decide) (by omega) hL dL_law_886 dL_law_887 dL_law_888 dL_law_889 dL_law_890 ?_
  refine c_call6 (c := 0) (C := fun ε σ => cW cy h0 b ε σ μ.1 μ.2.1 μ.2.2 x) hX (cw_lens _ _ _ _) hzo rfl [.int (xs (i + 1)), .int (xs (i + 2))] [] (ct_X6_textTold _ _ _ _ hzo hzs (cw_lens _ _ _ _) ε (xs (i + 1)) (xs (i + 2)) σ σ2 res e1) kX6_textTold tMet_L_114 rfl rfl (Nat.le_of_ble_eq_true rfl) (Nat.le_of_ble_eq_true rfl) ⟨hn1, hn2⟩ rfl rfl (Nat.le_of_ble_eq_true rfl) dL_law_891 ?_
  refine g_aload_n hX 1 rfl rfl dL_law_894 ?_
  refine l_arg hX hS 1 1 (by decide) (by omega) hL dL_law_895 dL_law_896 dL_law_897 dL_law_898 dL_law_899 ?_
  refine l_arg hX hS 2 2 (by decide) (by omega) hL dL_law_900 dL_law_901 dL_law_902 dL_law_903 dL_law_904 ?_
  refine l_callM (C := fun v s r x => cW cy h0 b ε σ2 v s r x) hX hzo (cw_mlens ε σ2) [.int (xs (i + 1)), .int (xs (i + 2))] [.int res] (ct_X7_textTold _ _ _ _ hzo (cw_mlens ε σ2) (xs (i + 1)) (xs (i + 2)) μ μ2 x res e2) kX7_textTold tMet_L_117 rfl rfl (Nat.le_of_ble_eq_true rfl) (Nat.le_of_ble_eq_true rfl) ⟨hn1, hn2⟩ rfl (Nat.le_of_ble_eq_true rfl) dL_law_905 ?_
  rintro _ _ ⟨rfl, x2, rfl⟩
  exact g_icmp_eq hX 1368 (by decide) dL_law_908 (fun _ => K σ2 μ2 x2 hR2) (fun z => absurd rfl z)
set_option maxHeartbeats 4000000 in
set_option maxRecDepth 100000 in
theorem lc_why {κ : GC} {cy : Nat → ClassId} {Z : (Nat → Prop) → State → Heap → Prop} {aStr aByt : Nat → Nat} {bS L : Nat} {xs : Nat → Int32} (hW : LawX κ cy Z aStr aByt bS L xs) {h0 : Nat} {b : Nat → Nat} {ε : Ev} {σ : Sg} {μ : Mg} {x : Nat → Nat → Int32} (hR : Rel ε σ μ) {n1 n2 i : Nat} (hi : i + 6 ≤ L) (hn1 : n1 ≤ 600000) (hn2 : n2 ≤ 7302250) (K : ∀ (σ2 : Sg) (μ2 : Mg) (x2 : Nat → Nat → Int32), Rel ε σ2 μ2 → GW κ n1 n2 (cW cy h0 b ε σ2 μ2.1 μ2.2.1 μ2.2.2 x2) 1368 (lvL bS (sAd ε 0) h0 i) []) : GW κ n1 n2 (cW cy h0 b ε σ μ.1 μ.2.1 μ.2.2 x) 913 (lvL bS (sAd ε 0) h0 i) [] := by
  obtain ⟨hX, hN, hS, hzo, hzs, hL⟩ := hW
  obtain ⟨res, σ2, μ2, e1, e2, hR2⟩ := why_ok hR (xs (i + 1))
  refine g_aload_n hX 2 rfl rfl dL_law_913 ?_
  refine l_arg hX hS 1 1 (by decide) (by omega) hL dL_law_914 dL_law_915 dL_law_916 dL_law_917 dL_law_918 ?_
  refine c_call6 (c := 0) (C := fun ε σ => cW cy h0 b ε σ μ.1 μ.2.1 μ.2.2 x) hX (cw_lens _ _ _ _) hzo rfl [.int (xs (i + 1))] [] (ct_X6_why _ _ _ _ hzo hzs (cw_lens _ _ _ _) ε (xs (i + 1)) σ σ2 res e1) kX6_why tMet_L_118 rfl rfl (Nat.le_of_ble_eq_true rfl) (Nat.le_of_ble_eq_true rfl) ⟨hn1, hn2⟩ rfl rfl (Nat.le_of_ble_eq_true rfl) dL_law_919 ?_
  refine g_aload_n hX 1 rfl rfl dL_law_922 ?_
  refine l_arg hX hS 1 1 (by decide) (by omega) hL dL_law_923 dL_law_924 dL_law_925 dL_law_926 dL_law_927 ?_
  refine l_callM (C := fun v s r x => cW cy h0 b ε σ2 v s r x) hX hzo (cw_mlens ε σ2) [.int (xs (i + 1))] [.int res] (ct_X7_why _ _ _ _ hzo (cw_mlens ε σ2) (xs (i + 1)) μ μ2 x res e2) kX7_why tMet_L_121 rfl rfl (Nat.le_of_ble_eq_true rfl) (Nat.le_of_ble_eq_true rfl) ⟨hn1, hn2⟩ rfl (Nat.le_of_ble_eq_true rfl) dL_law_928 ?_
  rintro _ _ ⟨rfl, x2, rfl⟩
  exact g_icmp_eq hX 1368 (by decide) dL_law_931 (fun _ => K σ2 μ2 x2 hR2) (fun z => absurd rfl z)
set_option maxHeartbeats 4000000 in
set_option maxRecDepth 100000 in
theorem lc_sheet {κ : GC} {cy : Nat → ClassId} {Z : (Nat → Prop) → State → Heap → Prop} {aStr aByt : Nat → Nat} {bS L : Nat} {xs : Nat → Int32} (hW : LawX κ cy Z aStr aByt bS L xs) {h0 : Nat} {b : Nat → Nat} {ε : Ev} {σ : Sg} {μ : Mg} {x : Nat → Nat → Int32} (hR : Rel ε σ μ) {n1 n2 i : Nat} (hi : i + 6 ≤ L) (hn1 : n1 ≤ 600000) (hn2 : n2 ≤ 7302250) (K : ∀ (σ2 : Sg) (μ2 : Mg) (x2 : Nat → Nat → Int32), Rel ε σ2 μ2 → GW κ n1 n2 (cW cy h0 b ε σ2 μ2.1 μ2.2.1 μ2.2.2 x2) 1368 (lvL bS (sAd ε 0) h0 i) []) : GW κ n1 n2 (cW cy h0 b ε σ μ.1 μ.2.1 μ.2.2 x) 936 (lvL bS (sAd ε 0) h0 i) [] := by
  obtain ⟨hX, hN, hS, hzo, hzs, hL⟩ := hW
  obtain ⟨res, σ2, μ2, e1, e2, hR2⟩ := sheet_ok hR (xs (i + 1)) (xs (i + 2)) (xs (i + 3))
  refine g_aload_n hX 2 rfl rfl dL_law_936 ?_
  refine l_arg hX hS 1 1 (by decide) (by omega) hL dL_law_937 dL_law_938 dL_law_939 dL_law_940 dL_law_941 ?_
  refine l_arg hX hS 2 2 (by decide) (by omega) hL dL_law_942 dL_law_943 dL_law_944 dL_law_945 dL_law_946 ?_
  refine l_arg hX hS 3 3 (by decide) (by omega) hL dL_law_947 dL_law_948 dL_law_949 dL_law_950 dL_law_951 ?_
  refine c_call6 (c := 0) (C := fun ε σ => cW cy h0 b ε σ μ.1 μ.2.1 μ.2.2 x) hX (cw_lens _ _ _ _) hzo rfl [.int (xs (i + 1)), .int (xs (i + 2)), .int (xs (i + 3))] [] (ct_X6_sheet _ _ _ _ hzo hzs (cw_lens _ _ _ _) ε (xs (i + 1)) (xs (i + 2)) (xs (i + 3)) σ σ2 res e1) kX6_sheet tMet_L_122 rfl rfl (Nat.le_of_ble_eq_true rfl) (Nat.le_of_ble_eq_true rfl) ⟨hn1, hn2⟩ rfl rfl (Nat.le_of_ble_eq_true rfl) dL_law_952 ?_
  refine g_aload_n hX 1 rfl rfl dL_law_955 ?_
  refine l_arg hX hS 1 1 (by decide) (by omega) hL dL_law_956 dL_law_957 dL_law_958 dL_law_959 dL_law_960 ?_
  refine l_arg hX hS 2 2 (by decide) (by omega) hL dL_law_961 dL_law_962 dL_law_963 dL_law_964 dL_law_965 ?_
  refine l_arg hX hS 3 3 (by decide) (by omega) hL dL_law_966 dL_law_967 dL_law_968 dL_law_969 dL_law_970 ?_
  refine l_callM (C := fun v s r x => cW cy h0 b ε σ2 v s r x) hX hzo (cw_mlens ε σ2) [.int (xs (i + 1)), .int (xs (i + 2)), .int (xs (i + 3))] [.int res] (ct_X7_sheet _ _ _ _ hzo (cw_mlens ε σ2) (xs (i + 1)) (xs (i + 2)) (xs (i + 3)) μ μ2 x res e2) kX7_sheet tMet_L_125 rfl rfl (Nat.le_of_ble_eq_true rfl) (Nat.le_of_ble_eq_true rfl) ⟨hn1, hn2⟩ rfl (Nat.le_of_ble_eq_true rfl) dL_law_971 ?_
  rintro _ _ ⟨rfl, x2, rfl⟩
  exact g_icmp_eq hX 1368 (by decide) dL_law_974 (fun _ => K σ2 μ2 x2 hR2) (fun z => absurd rfl z)
set_option maxHeartbeats 4000000 in
set_option maxRecDepth 100000 in
theorem lc_mark {κ : GC} {cy : Nat → ClassId} {Z : (Nat → Prop) → State → Heap → Prop} {aStr aByt : Nat → Nat} {bS L : Nat} {xs : Nat → Int32} (hW : LawX κ cy Z aStr aByt bS L xs) {h0 : Nat} {b : Nat → Nat} {ε : Ev} {σ : Sg} {μ : Mg} {x : Nat → Nat → Int32} (hR : Rel ε σ μ) {n1 n2 i : Nat} (hi : i + 6 ≤ L) (hn1 : n1 ≤ 600000) (hn2 : n2 ≤ 7302250) (K : ∀ (σ2 : Sg) (μ2 : Mg) (x2 : Nat → Nat → Int32), Rel ε σ2 μ2 → GW κ n1 n2 (cW cy h0 b ε σ2 μ2.1 μ2.2.1 μ2.2.2 x2) 1368 (lvL bS (sAd ε 0) h0 i) []) : GW κ n1 n2 (cW cy h0 b ε σ μ.1 μ.2.1 μ.2.2 x) 979 (lvL bS (sAd ε 0) h0 i) [] := by
  obtain ⟨hX, hN, hS, hzo, hzs, hL⟩ := hW
  obtain ⟨res, σ2, μ2, e1, e2, hR2⟩ := mark_ok hR (xs (i + 1)) (xs (i + 2)) (xs (i + 3))
  refine g_aload_n hX 2 rfl rfl dL_law_979 ?_
  refine l_arg hX hS 1 1 (by decide) (by omega) hL dL_law_980 dL_law_981 dL_law_982 dL_law_983 dL_law_984 ?_
  refine l_arg hX hS 2 2 (by decide) (by omega) hL dL_law_985 dL_law_986 dL_law_987 dL_law_988 dL_law_989 ?_
  refine l_arg hX hS 3 3 (by decide) (by omega) hL dL_law_990 dL_law_991 dL_law_992 dL_law_993 dL_law_994 ?_
  refine c_call6 (c := 0) (C := fun ε σ => cW cy h0 b ε σ μ.1 μ.2.1 μ.2.2 x) hX (cw_lens _ _ _ _) hzo rfl [.int (xs (i + 1)), .int (xs (i + 2)), .int (xs (i + 3))] [] (ct_X6_mark _ _ _ _ hzo hzs (cw_lens _ _ _ _) ε (xs (i + 1)) (xs (i + 2)) (xs (i + 3)) σ σ2 res e1) kX6_mark tMet_L_126 rfl rfl (Nat.le_of_ble_eq_true rfl) (Nat.le_of_ble_eq_true rfl) ⟨hn1, hn2⟩ rfl rfl (Nat.le_of_ble_eq_true rfl) dL_law_995 ?_
  refine g_aload_n hX 1 rfl rfl dL_law_998 ?_
  refine l_arg hX hS 1 1 (by decide) (by omega) hL dL_law_999 dL_law_1000 dL_law_1001 dL_law_1002 dL_law_1003 ?_
  refine l_arg hX hS 2 2 (by decide) (by omega) hL dL_law_1004 dL_law_1005 dL_law_1006 dL_law_1007 dL_law_1008 ?_
  refine l_arg hX hS 3 3 (by decide) (by omega) hL dL_law_1009 dL_law_1010 dL_law_1011 dL_law_1012 dL_law_1013 ?_
  refine l_callM (C := fun v s r x => cW cy h0 b ε σ2 v s r x) hX hzo (cw_mlens ε σ2) [.int (xs (i + 1)), .int (xs (i + 2)), .int (xs (i + 3))] [.int res] (ct_X7_mark _ _ _ _ hzo (cw_mlens ε σ2) (xs (i + 1)) (xs (i + 2)) (xs (i + 3)) μ μ2 x res e2) kX7_mark tMet_L_129 rfl rfl (Nat.le_of_ble_eq_true rfl) (Nat.le_of_ble_eq_true rfl) ⟨hn1, hn2⟩ rfl (Nat.le_of_ble_eq_true rfl) dL_law_1014 ?_
  rintro _ _ ⟨rfl, x2, rfl⟩
  exact g_icmp_eq hX 1368 (by decide) dL_law_1017 (fun _ => K σ2 μ2 x2 hR2) (fun z => absurd rfl z)
set_option maxHeartbeats 4000000 in
set_option maxRecDepth 100000 in
theorem lc_pour {κ : GC} {cy : Nat → ClassId} {Z : (Nat → Prop) → State → Heap → Prop} {aStr aByt : Nat → Nat} {bS L : Nat} {xs : Nat → Int32} (hW : LawX κ cy Z aStr aByt bS L xs) {h0 : Nat} {b : Nat → Nat} {ε : Ev} {σ : Sg} {μ : Mg} {x : Nat → Nat → Int32} (hR : Rel ε σ μ) {n1 n2 i : Nat} (hi : i + 6 ≤ L) (hn1 : n1 ≤ 600000) (hn2 : n2 ≤ 7302250) (K : ∀ (σ2 : Sg) (μ2 : Mg) (x2 : Nat → Nat → Int32), Rel ε σ2 μ2 → GW κ n1 n2 (cW cy h0 b ε σ2 μ2.1 μ2.2.1 μ2.2.2 x2) 1368 (lvL bS (sAd ε 0) h0 i) []) : GW κ n1 n2 (cW cy h0 b ε σ μ.1 μ.2.1 μ.2.2 x) 1022 (lvL bS (sAd ε 0) h0 i) [] := by
  obtain ⟨hX, hN, hS, hzo, hzs, hL⟩ := hW
  obtain ⟨res, σ2, μ2, e1, e2, hR2⟩ := pour_ok hR (xs (i + 1))
  refine g_aload_n hX 2 rfl rfl dL_law_1022 ?_
  refine l_arg hX hS 1 1 (by decide) (by omega) hL dL_law_1023 dL_law_1024 dL_law_1025 dL_law_1026 dL_law_1027 ?_
  refine c_call6 (c := 0) (C := fun ε σ => cW cy h0 b ε σ μ.1 μ.2.1 μ.2.2 x) hX (cw_lens _ _ _ _) hzo rfl [.int (xs (i + 1))] [] (ct_X6_pour _ _ _ _ hzo hzs (cw_lens _ _ _ _) ε (xs (i + 1)) σ σ2 res e1) kX6_pour tMet_L_130 rfl rfl (Nat.le_of_ble_eq_true rfl) (Nat.le_of_ble_eq_true rfl) ⟨hn1, hn2⟩ rfl rfl (Nat.le_of_ble_eq_true rfl) dL_law_1028 ?_
  refine g_aload_n hX 1 rfl rfl dL_law_1031 ?_
  refine l_arg hX hS 1 1 (by decide) (by omega) hL dL_law_1032 dL_law_1033 dL_law_1034 dL_law_1035 dL_law_1036 ?_
  refine l_callM (C := fun v s r x => cW cy h0 b ε σ2 v s r x) hX hzo (cw_mlens ε σ2) [.int (xs (i + 1))] [.int res] (ct_X7_pour _ _ _ _ hzo (cw_mlens ε σ2) (xs (i + 1)) μ μ2 x res e2) kX7_pour tMet_L_133 rfl rfl (Nat.le_of_ble_eq_true rfl) (Nat.le_of_ble_eq_true rfl) ⟨hn1, hn2⟩ rfl (Nat.le_of_ble_eq_true rfl) dL_law_1037 ?_
  rintro _ _ ⟨rfl, x2, rfl⟩
  exact g_icmp_eq hX 1368 (by decide) dL_law_1040 (fun _ => K σ2 μ2 x2 hR2) (fun z => absurd rfl z)
set_option maxHeartbeats 4000000 in
set_option maxRecDepth 100000 in
theorem lc_reads {κ : GC} {cy : Nat → ClassId} {Z : (Nat → Prop) → State → Heap → Prop} {aStr aByt : Nat → Nat} {bS L : Nat} {xs : Nat → Int32} (hW : LawX κ cy Z aStr aByt bS L xs) {h0 : Nat} {b : Nat → Nat} {ε : Ev} {σ : Sg} {μ : Mg} {x : Nat → Nat → Int32} (hR : Rel ε σ μ) {n1 n2 i : Nat} (hi : i + 6 ≤ L) (hn1 : n1 ≤ 600000) (hn2 : n2 ≤ 7302250) (K : ∀ (σ2 : Sg) (μ2 : Mg) (x2 : Nat → Nat → Int32), Rel ε σ2 μ2 → GW κ n1 n2 (cW cy h0 b ε σ2 μ2.1 μ2.2.1 μ2.2.2 x2) 1368 (lvL bS (sAd ε 0) h0 i) []) : GW κ n1 n2 (cW cy h0 b ε σ μ.1 μ.2.1 μ.2.2 x) 1045 (lvL bS (sAd ε 0) h0 i) [] := by
  obtain ⟨hX, hN, hS, hzo, hzs, hL⟩ := hW
  obtain ⟨res, σ2, μ2, e1, e2, hR2⟩ := reads_ok hR (xs (i + 1))
  refine g_aload_n hX 2 rfl rfl dL_law_1045 ?_
  refine l_arg hX hS 1 1 (by decide) (by omega) hL dL_law_1046 dL_law_1047 dL_law_1048 dL_law_1049 dL_law_1050 ?_
  refine c_call6 (c := 0) (C := fun ε σ => cW cy h0 b ε σ μ.1 μ.2.1 μ.2.2 x) hX (cw_lens _ _ _ _) hzo rfl [.int (xs (i + 1))] [] (ct_X6_reads _ _ _ _ hzo hzs (cw_lens _ _ _ _) ε (xs (i + 1)) σ σ2 res e1) kX6_reads tMet_L_134 rfl rfl (Nat.le_of_ble_eq_true rfl) (Nat.le_of_ble_eq_true rfl) ⟨hn1, hn2⟩ rfl rfl (Nat.le_of_ble_eq_true rfl) dL_law_1051 ?_
  refine g_aload_n hX 1 rfl rfl dL_law_1054 ?_
  refine l_arg hX hS 1 1 (by decide) (by omega) hL dL_law_1055 dL_law_1056 dL_law_1057 dL_law_1058 dL_law_1059 ?_
  refine l_callM (C := fun v s r x => cW cy h0 b ε σ2 v s r x) hX hzo (cw_mlens ε σ2) [.int (xs (i + 1))] [.int res] (ct_X7_reads _ _ _ _ hzo (cw_mlens ε σ2) (xs (i + 1)) μ μ2 x res e2) kX7_reads tMet_L_137 rfl rfl (Nat.le_of_ble_eq_true rfl) (Nat.le_of_ble_eq_true rfl) ⟨hn1, hn2⟩ rfl (Nat.le_of_ble_eq_true rfl) dL_law_1060 ?_
  rintro _ _ ⟨rfl, x2, rfl⟩
  exact g_icmp_eq hX 1368 (by decide) dL_law_1063 (fun _ => K σ2 μ2 x2 hR2) (fun z => absurd rfl z)
