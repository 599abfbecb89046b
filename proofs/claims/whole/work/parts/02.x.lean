theorem mem_places {big : List Cond} (ws : List Cond) (ps : List Nat) (hp : ws = ps.filterMap (fun i => big[i]?)) : ∀ w ∈ ws, w ∈ big := by
  intro w hw
  rw [hp] at hw
  obtain ⟨i, -, hi⟩ := List.mem_filterMap.mp hw
  exact List.mem_of_getElem? hi
/-- the tables' words that calls carry along -/
def zT : List Cond := lw_tbl.filter goodWord
/-- a method's words here: its code, then all of zT -/
abbrev zW (y : MethodName) (c : ByteArray) (n : Nat) (r : Option FieldType) : List Cond := Cond.code y c n r :: zT
theorem z_in {w : Cond} (h : w ∈ lw_tbl) (hg : goodWord w = true) : w ∈ zT := List.mem_filter.mpr ⟨h, hg⟩
theorem z_good {w : Cond} (h : w ∈ zT) : goodWord w = true := (List.mem_filter.mp h).2
theorem zu {w w0 : Cond} (h : w ∈ lw_tbl) (hg : goodWord w = true) : w ∈ w0 :: zT := List.mem_cons_of_mem _ (z_in h hg)
theorem z_V {w0 : Cond} {own C : String} {idx : Nat} {y : MethodName} {c : ByteArray} {n : Nat} {r : Option FieldType} (h1 : Cond.methodLink own idx y ∈ lw_tbl) (h2 : Cond.instanceMethod y ∈ lw_tbl) (h3 : Cond.selects C y y ∈ lw_tbl) (h4 : Cond.initialized C ∈ lw_tbl) (h5 : Cond.code y c n r ∈ lw_tbl) : GoodIn (w0 :: zT) (wsV own idx C y (zW y c n r)) := by
  intro w hw
  have hm : w ∈ zT := by
    simp only [wsV, List.mem_append, List.mem_cons, List.not_mem_nil, or_false] at hw
    rcases hw with (rfl | rfl | rfl | rfl) | rfl | h
    · exact z_in h1 rfl
    · exact z_in h2 rfl
    · exact z_in h3 rfl
    · exact z_in h4 rfl
    · exact z_in h5 rfl
    · exact h
  exact ⟨List.mem_cons_of_mem _ hm, good_of_word (z_good hm)⟩
theorem z_S {w0 : Cond} {own : String} {idx : Nat} {y : MethodName} {c : ByteArray} {n : Nat} {r : Option FieldType} (h1 : Cond.methodLink own idx y ∈ lw_tbl) (h2 : Cond.static y ∈ lw_tbl) (h4 : Cond.initialized y.cls ∈ lw_tbl) (h5 : Cond.code y c n r ∈ lw_tbl) : GoodIn (w0 :: zT) (va_wsS own idx y (zW y c n r)) := by
  intro w hw
  have hm : w ∈ zT := by
    simp only [va_wsS, List.mem_append, List.mem_cons, List.not_mem_nil, or_false] at hw
    rcases hw with (rfl | rfl | rfl) | rfl | h
    · exact z_in h1 rfl
    · exact z_in h2 rfl
    · exact z_in h4 rfl
    · exact z_in h5 rfl
    · exact h
  exact ⟨List.mem_cons_of_mem _ hm, good_of_word (z_good hm)⟩
theorem zin_X0 {w0 : Cond} : ∀ w ∈ wsX00, w ∈ w0 :: zT := fun w h => zu (mem_places _ [128, 130, 132, 134, 136, 138, 140] (by decide +kernel) w h) (List.all_eq_true.mp (show wsX00.all goodWord = true by decide +kernel) w h)
theorem zin_X1 {w0 : Cond} : ∀ w ∈ wsX10, w ∈ w0 :: zT := fun w h => zu (mem_places _ [208, 210, 212, 214, 216, 218, 220, 222, 224] (by decide +kernel) w h) (List.all_eq_true.mp (show wsX10.all goodWord = true by decide +kernel) w h)
theorem zin_X2 {w0 : Cond} : ∀ w ∈ wsX20, w ∈ w0 :: zT := fun w h => zu (mem_places _ [244, 246, 248] (by decide +kernel) w h) (List.all_eq_true.mp (show wsX20.all goodWord = true by decide +kernel) w h)
theorem zin_X3 {w0 : Cond} : ∀ w ∈ wsX30, w ∈ w0 :: zT := fun w h => zu (mem_places _ [268, 270, 272, 274] (by decide +kernel) w h) (List.all_eq_true.mp (show wsX30.all goodWord = true by decide +kernel) w h)
theorem zin_X4 {w0 : Cond} : ∀ w ∈ wsX40, w ∈ w0 :: zT := fun w h => zu (mem_places _ [166, 168, 170, 172, 174, 176, 178, 180, 182, 184, 186, 188] (by decide +kernel) w h) (List.all_eq_true.mp (show wsX40.all goodWord = true by decide +kernel) w h)
theorem zin_X5 {w0 : Cond} : ∀ w ∈ wsX50, w ∈ w0 :: zT := fun w h => zu (mem_places _ [815, 817, 819, 821, 823] (by decide +kernel) w h) (List.all_eq_true.mp (show wsX50.all goodWord = true by decide +kernel) w h)
theorem zin_X6 {w0 : Cond} : ∀ w ∈ wsX60, w ∈ w0 :: zT := fun w h => zu (mem_places _ [286, 288, 290, 292, 294, 296, 298, 300, 302] (by decide +kernel) w h) (List.all_eq_true.mp (show wsX60.all goodWord = true by decide +kernel) w h)
theorem zin_X7 {w0 : Cond} : ∀ w ∈ wsX70, w ∈ w0 :: zT := fun w h => zu (mem_places _ [968, 970, 972, 974, 976, 978, 980, 982, 984, 986, 988, 990, 992, 994, 996, 998, 1000, 1002, 1004, 1006, 1008, 1010, 1012, 1014, 1016, 1018, 1020, 1022, 1024, 1026, 1028, 1030, 1032] (by decide +kernel) w h) (List.all_eq_true.mp (show wsX70.all goodWord = true by decide +kernel) w h)
