set_option maxHeartbeats 8000000 in
set_option maxRecDepth 100000 in
theorem law_head {κ : GC} {cy : Nat → ClassId} {Z : (Nat → Prop) → State → Heap → Prop} {aStr aByt : Nat → Nat} {bS L : Nat} {xs : Nat → Int32} (hW : LawX κ cy Z aStr aByt bS L xs) (E : ∀ (n1 n2 : Nat) (w : va_W) (lv : List (Nat × Value)), n1 ≤ 600000 → n2 ≤ 7302250 → GW κ n1 n2 w 1375 lv [.int 1]) : GW κ 0 0 [] 0 [(0, .ref bS)] [] := by
  have hW0 := hW
  obtain ⟨hX, hN, hS, hzo, hzs, hL⟩ := hW
  refine g_new (N := 9) (fs := [.null, .null, .null, .null, .null, .null, .null, .int 0, .int 0]) hX 6 zin_X6 tyX6 tyX6_ok tCls_L_7 tIst_X6 tIni_X6 rfl df_X6 (Nat.le_of_ble_eq_true rfl) (Nat.le_of_ble_eq_true rfl) dL_law_0 (fun a => ?_)
  refine g_dup hX rfl dL_law_3 ?_
  refine g_callI (n1 := 1) (n2 := 9) (bytes := cX6_init) (maxL := 2) (host := "") hX hzo [] [.ref a] (ct_X6_init (Kl κ) (KD κ) cy Z hzo hzs [] a) tMet_L_9 tIni_X6 tIns_X6_init tCod_X6_init rfl rfl rfl hdX6_init (Nat.le_of_ble_eq_true rfl) (Nat.le_of_ble_eq_true rfl) rfl (Nat.le_of_ble_eq_true rfl) ⟨by exact (Nat.le_of_ble_eq_true rfl), by exact (Nat.le_of_ble_eq_true rfl)⟩ dL_law_4 ?_
  rintro _ _ ⟨rfl, ad, rfl, rfl⟩
  refine g_astore_n (lv2 := [(1, .ref (ad 0)), (0, .ref bS)]) hX 1 4 hN rfl (by decide) rfl dL_law_7 ?_
  refine g_new (n1 := 83) (n2 := 961) (N := 33) (fs := [.null, .null, .null, .int 0, .null, .null, .null, .null, .null, .null, .null, .null, .null, .null, .null, .null, .int 0, .int 0, .int 0, .int 0, .int 0, .int 0, .int 0, .int 0, .int 0, .int 0, .int 0, .null, .null, .null, .null, .int 0, .null]) hX 7 zin_X7 tyX7 tyX7_ok tCls_L_10 tIst_X7 tIni_X7 rfl df_X7 (Nat.le_of_ble_eq_true rfl) (Nat.le_of_ble_eq_true rfl) dL_law_8 (fun h0 => ?_)
  refine g_dup hX rfl dL_law_11 ?_
  refine g_callI (n1 := 84) (n2 := 994) (bytes := cX7_init) (maxL := 2) (host := "") hX hzo [] [.ref h0] (ct_X7_init (Kl κ) (KD κ) cy Z hzo hzs ([] ++ mids.map (cl0 cy ad)) h0) tMet_L_12 tIni_X7 tIns_X7_init tCod_X7_init rfl rfl rfl hdX7_init (Nat.le_of_ble_eq_true rfl) (Nat.le_of_ble_eq_true rfl) rfl (Nat.le_of_ble_eq_true rfl) ⟨by exact (Nat.le_of_ble_eq_true rfl), by exact (Nat.le_of_ble_eq_true rfl)⟩ dL_law_12 ?_
  rintro _ _ ⟨rfl, b, rfl⟩
  refine g_astore_n (lv2 := [(2, .ref h0), (1, .ref (ad 0)), (0, .ref bS)]) hX 2 4 hN rfl (by decide) rfl dL_law_15 ?_
  refine g_iconst hX (v := nI 0) (by decide) dL_law_16 ?_
  refine g_istore_n (lv2 := lvL bS (ad 0) h0 0) hX 3 4 hN rfl (by decide) rfl dL_law_17 ?_
  have e : ([] ++ mids.map (cl0 cy ad)) ++ mW cy h0 b (fun _ => 0) s00 r00 (fun _ _ => 0) = cW cy h0 b ((fun _ => 0, 0, ad) : Ev) sg0 (fun _ => 0) s00 r00 (fun _ _ => 0) := by
    show [] ++ mids.map (cFn cy ((fun _ => 0, 0, ad) : Ev) sg0) ++ mW cy h0 b (fun _ => 0) s00 r00 (fun _ _ => 0) = mids.map (cFn cy ((fun _ => 0, 0, ad) : Ev) sg0) ++ (mW cy h0 b (fun _ => 0) s00 r00 (fun _ _ => 0) ++ [])
    rw [List.nil_append, List.append_nil]
  rw [e]
  exact law_loop hW0 E 512 0 (84 + 20) (994 + 10006) (fun _ => 0, 0, ad) sg0 (fun _ => 0, s00, r00) (fun _ _ => 0) (rel_0 ad) rfl (by omega) (by omega) (by omega) (by omega)
