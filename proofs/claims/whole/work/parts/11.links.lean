/-! printed by program out of the landed class and the reference: what the tables say of their links; the cells of each -/
def wdX : List ik_CD := [.inr (11, [.inr 1, .inr 3, .inr 6, .inr 15, .inr 25, .inr 35, .inr 39, .inr 43, .inr 48, .inr 63, .inr 64, .inr 65, .inl 0, .inl 3, .inl 3]), .inr (9, [.inr 2, .inl 0]), .inl (0, 400), .inr (4, [.inr 4, .inr 5]), .inl (0, 27), .inl (0, 729), .inr (6, [.inr 7, .inr 10, .inr 11, .inr 12, .inr 13, .inr 14, .inl 0]), .inr (10, [.inl 0, .inr 8, .inr 9]), .inl (0, 288), .inl (0, 24), .inl (0, 24), .inl (0, 24), .inl (0, 24), .inl (0, 24), .inl (0, 24), .inr (0, [.inr 16, .inr 17, .inr 18, .inr 19, .inr 20, .inr 21, .inr 22, .inr 23, .inr 24, .inl 0, .inl 0, .inl 0]), .inl (0, 4), .inl (0, 4), .inl (0, 4), .inl (0, 20), .inl (0, 20), .inl (0, 20), .inl (0, 20), .inl (0, 20), .inl (0, 20), .inr (8, [.inr 26, .inr 29, .inr 30, .inr 31, .inr 32, .inr 33, .inr 34, .inl 0, .inl 0, .inl 0, .inl 0]), .inr (10, [.inl 0, .inr 27, .inr 28]), .inl (0, 1728), .inl (0, 144), .inl (0, 144), .inl (3, 144), .inl (3, 24), .inl (0, 6), .inl (0, 6), .inl (0, 6), .inr (7, [.inr 36, .inr 37, .inr 38, .inl 0, .inl 0, .inl 3, .inl 0, .inl 0, .inl 0, .inl 0, .inl 3]), .inl (0, 160), .inl (0, 160), .inl (0, 26), .inr (3, [.inr 40, .inr 41, .inr 42, .inl 0]), .inl (0, 60), .inl (0, 60), .inl (0, 60), .inr (1, [.inr 44, .inr 45, .inr 46, .inr 47, .inl 0]), .inl (0, 8), .inl (0, 8), .inl (0, 8), .inl (0, 8), .inr (2, [.inr 49, .inr 55, .inr 56, .inr 57, .inr 58, .inr 59, .inr 60, .inr 61, .inr 62, .inl 0, .inl 0, .inl 3, .inl 3, .inl 1]), .inr (5, [.inr 50, .inr 51, .inr 52, .inr 53, .inr 54, .inl 3, .inl 0, .inl 0]), .inl (0, 4), .inl (0, 576), .inl (3, 576), .inl (0, 2304), .inl (0, 4), .inl (0, 4), .inl (0, 384), .inl (0, 24), .inl (0, 24), .inl (0, 4), .inl (0, 4), .inl (0, 4), .inl (1, 96), .inl (0, 96), .inl (0, 4), .inl (0, 4)]
def wdM : List ik_CD := [.inr (12, [.inr 1, .inl 0, .inl 0, .inl 0, .inl 0, .inl 0, .inl 0, .inl 0, .inl 0, .inl 0, .inl 0, .inl 0, .inr 2, .inr 3, .inr 4, .inr 5, .inr 6, .inr 7, .inr 8, .inr 9, .inr 10, .inr 11, .inr 12, .inr 13, .inr 14, .inr 15, .inr 16, .inr 17, .inr 18, .inr 19, .inl 0, .inl 0, .inl 0, .inr 20, .inl 0, .inr 21, .inr 22, .inr 23, .inr 24, .inr 25, .inr 26, .inr 27, .inr 28, .inr 29, .inr 30, .inr 31, .inl 0, .inl 0, .inl 0, .inl 0, .inl 3, .inl 3, .inr 32, .inl 0, .inl 0, .inr 33, .inr 34, .inr 35, .inr 36, .inr 37, .inr 38, .inr 39, .inr 40, .inr 41, .inr 42, .inr 43, .inr 44, .inl 0, .inl 0, .inl 1, .inr 45, .inr 46, .inr 47, .inr 48, .inr 49, .inr 50, .inr 51]), .inl (2, 400), .inl (0, 27), .inl (0, 729), .inl (2, 288), .inl (0, 24), .inl (0, 24), .inl (0, 24), .inl (0, 24), .inl (0, 24), .inl (0, 4), .inl (0, 4), .inl (0, 4), .inl (0, 6), .inl (0, 6), .inl (2, 960), .inl (0, 144), .inl (0, 144), .inl (0, 144), .inl (3, 144), .inl (0, 4), .inl (0, 24), .inl (0, 12), .inl (0, 12), .inl (0, 12), .inl (0, 160), .inl (0, 160), .inl (0, 12), .inl (0, 12), .inl (0, 12), .inl (0, 160), .inl (0, 160), .inl (0, 200), .inl (0, 200), .inl (3, 200), .inl (0, 20), .inl (0, 20), .inl (0, 20), .inl (0, 20), .inl (0, 20), .inl (0, 20), .inl (0, 60), .inl (0, 60), .inl (0, 60), .inl (0, 96), .inl (1, 96), .inl (0, 96), .inl (0, 8), .inl (0, 8), .inl (0, 8), .inl (0, 8), .inl (0, 6)]
theorem ik_in1 {w : Cond} (h : w ∈ tables_1_1) : w ∈ lw_tbl := ik_inT (List.mem_append_left _ h)
theorem ik_in2 {w : Cond} (h : w ∈ tables_1_2) : w ∈ lw_tbl := ik_inT (List.mem_append_right _ (List.mem_append_left _ h))
theorem ik_in3 {w : Cond} (h : w ∈ tables_1_3) : w ∈ lw_tbl := ik_inT (List.mem_append_right _ (List.mem_append_right _ (List.mem_append_left _ h)))
theorem ik_in4 {w : Cond} (h : w ∈ tables_1_4) : w ∈ lw_tbl := ik_inT (List.mem_append_right _ (List.mem_append_right _ (List.mem_append_right _ (List.mem_append_left _ h))))
theorem ik_in5 {w : Cond} (h : w ∈ tables_1_5) : w ∈ lw_tbl := ik_inT (List.mem_append_right _ (List.mem_append_right _ (List.mem_append_right _ (List.mem_append_right _ (List.mem_append_left _ h)))))
theorem ik_in6 {w : Cond} (h : w ∈ tables_1_6) : w ∈ lw_tbl := ik_inT (List.mem_append_right _ (List.mem_append_right _ (List.mem_append_right _ (List.mem_append_right _ (List.mem_append_right _ (List.mem_append_left _ h))))))
theorem ik_in7 {w : Cond} (h : w ∈ tables_1_7) : w ∈ lw_tbl := ik_inT (List.mem_append_right _ (List.mem_append_right _ (List.mem_append_right _ (List.mem_append_right _ (List.mem_append_right _ (List.mem_append_right _ (List.mem_append_left _ h)))))))
theorem ik_in8 {w : Cond} (h : w ∈ tables_1_8) : w ∈ lw_tbl := ik_inT (List.mem_append_right _ (List.mem_append_right _ (List.mem_append_right _ (List.mem_append_right _ (List.mem_append_right _ (List.mem_append_right _ (List.mem_append_right _ (h))))))))
theorem ml_X11_82 : Cond.methodLink RX11 82 yX11_within ∈ lw_tbl := ik_in2 (List.mem_of_getElem? (i := 158) rfl)
theorem mf_X11_within : ik_MF yX11_within cX11_within 3 (some .boolean) 3 := ⟨ik_in2 (List.mem_of_getElem? (i := 160) rfl), ik_in1 (List.mem_of_getElem? (i := 1) rfl), by decide +kernel, by decide +kernel, by decide +kernel⟩
theorem ms_X11_within : Cond.static yX11_within ∈ lw_tbl := ik_in2 (List.mem_of_getElem? (i := 159) rfl)
theorem fl_X11_19 : ik_FL RX11 19 11 1 := ⟨RX11, TX11, 15, tyX11, rfl, by decide, inX11, tyX11_ok, nmX11, rfl, ik_in2 (List.mem_of_getElem? (i := 109) rfl)⟩
theorem fl_X4_11 : ik_FL RX4 11 4 0 := ⟨RX4, TX4, 2, tyX4, rfl, by decide, inX4, tyX4_ok, nmX4, rfl, ik_in1 (List.mem_of_getElem? (i := 45) rfl)⟩
theorem ml_X11_86 : Cond.methodLink RX11 86 yX4_setWide ∈ lw_tbl := ik_in2 (List.mem_of_getElem? (i := 161) rfl)
theorem mf_X4_setWide : ik_MF yX4_setWide cX4_setWide 3 (none) 2 := ⟨ik_in2 (List.mem_of_getElem? (i := 164) rfl), ik_in1 (List.mem_of_getElem? (i := 3) rfl), by decide +kernel, by decide +kernel, by decide +kernel⟩
theorem mv_X4_setWide : ik_MV yX4_setWide := ⟨ik_in2 (List.mem_of_getElem? (i := 162) rfl), ik_in2 (List.mem_of_getElem? (i := 163) rfl)⟩
theorem fw_X11_309 : ik_FW RX11 309 11 13 3 := ⟨RX11, TX11, 15, tyX11, rfl, by decide, inX11, tyX11_ok, nmX11, rfl, ik_in2 (List.mem_of_getElem? (i := 121) rfl), rfl, rfl⟩
theorem ml_X11_90 : Cond.methodLink RX11 90 yX11_changed ∈ lw_tbl := ik_in2 (List.mem_of_getElem? (i := 165) rfl)
theorem mf_X11_changed : ik_MF yX11_changed cX11_changed 1 (none) 0 := ⟨ik_in2 (List.mem_of_getElem? (i := 168) rfl), ik_in1 (List.mem_of_getElem? (i := 1) rfl), by decide +kernel, by decide +kernel, by decide +kernel⟩
theorem mv_X11_changed : ik_MV yX11_changed := ⟨ik_in2 (List.mem_of_getElem? (i := 167) rfl), ik_inS (List.mem_of_getElem? (i := 0) (by decide +kernel))⟩
theorem fl_X4_15 : ik_FL RX4 15 4 1 := ⟨RX4, TX4, 2, tyX4, rfl, by decide, inX4, tyX4_ok, nmX4, rfl, ik_in1 (List.mem_of_getElem? (i := 46) rfl)⟩
theorem ml_X11_93 : Cond.methodLink RX11 93 yX4_setJoined ∈ lw_tbl := ik_in2 (List.mem_of_getElem? (i := 173) rfl)
theorem mf_X4_setJoined : ik_MF yX4_setJoined cX4_setJoined 4 (none) 3 := ⟨ik_in2 (List.mem_of_getElem? (i := 176) rfl), ik_in1 (List.mem_of_getElem? (i := 3) rfl), by decide +kernel, by decide +kernel, by decide +kernel⟩
theorem mv_X4_setJoined : ik_MV yX4_setJoined := ⟨ik_in2 (List.mem_of_getElem? (i := 174) rfl), ik_in2 (List.mem_of_getElem? (i := 175) rfl)⟩
theorem fl_X11_10 : ik_FL RX11 10 11 0 := ⟨RX11, TX11, 15, tyX11, rfl, by decide, inX11, tyX11_ok, nmX11, rfl, ik_in2 (List.mem_of_getElem? (i := 108) rfl)⟩
theorem fl_X9_13 : ik_FL RX9 13 9 1 := ⟨RX9, TX9, 2, tyX9, rfl, by decide, inX9, tyX9_ok, nmX9, rfl, ik_in1 (List.mem_of_getElem? (i := 32) rfl)⟩
theorem ml_X11_97 : Cond.methodLink RX11 97 yX9_takes ∈ lw_tbl := ik_in2 (List.mem_of_getElem? (i := 181) rfl)
theorem mf_X9_takes : ik_MF yX9_takes cX9_takes 2 (some .boolean) 1 := ⟨ik_in2 (List.mem_of_getElem? (i := 184) rfl), ik_in1 (List.mem_of_getElem? (i := 2) rfl), by decide +kernel, by decide +kernel, by decide +kernel⟩
theorem mv_X9_takes : ik_MV yX9_takes := ⟨ik_in2 (List.mem_of_getElem? (i := 182) rfl), ik_in2 (List.mem_of_getElem? (i := 183) rfl)⟩
theorem fl_X9_9 : ik_FL RX9 9 9 0 := ⟨RX9, TX9, 2, tyX9, rfl, by decide, inX9, tyX9_ok, nmX9, rfl, ik_in1 (List.mem_of_getElem? (i := 31) rfl)⟩
theorem fw_X9_13 : ik_FW RX9 13 9 1 0 := ⟨RX9, TX9, 2, tyX9, rfl, by decide, inX9, tyX9_ok, nmX9, rfl, ik_in1 (List.mem_of_getElem? (i := 32) rfl), rfl, rfl⟩
theorem ml_X11_101 : Cond.methodLink RX11 101 yX9_push ∈ lw_tbl := ik_in2 (List.mem_of_getElem? (i := 185) rfl)
theorem mf_X9_push : ik_MF yX9_push cX9_push 3 (none) 1 := ⟨ik_in2 (List.mem_of_getElem? (i := 188) rfl), ik_in1 (List.mem_of_getElem? (i := 2) rfl), by decide +kernel, by decide +kernel, by decide +kernel⟩
theorem mv_X9_push : ik_MV yX9_push := ⟨ik_in2 (List.mem_of_getElem? (i := 186) rfl), ik_in2 (List.mem_of_getElem? (i := 187) rfl)⟩
theorem ml_X11_105 : Cond.methodLink RX11 105 yX9_length ∈ lw_tbl := ik_in2 (List.mem_of_getElem? (i := 189) rfl)
theorem mf_X9_length : ik_MF yX9_length cX9_length 1 (some .int) 0 := ⟨ik_in2 (List.mem_of_getElem? (i := 192) rfl), ik_in1 (List.mem_of_getElem? (i := 2) rfl), by decide +kernel, by decide +kernel, by decide +kernel⟩
theorem mv_X9_length : ik_MV yX9_length := ⟨ik_in2 (List.mem_of_getElem? (i := 190) rfl), ik_in2 (List.mem_of_getElem? (i := 191) rfl)⟩
theorem fl_X11_26 : ik_FL RX11 26 11 2 := ⟨RX11, TX11, 15, tyX11, rfl, by decide, inX11, tyX11_ok, nmX11, rfl, ik_in2 (List.mem_of_getElem? (i := 110) rfl)⟩
theorem fl_X6_36 : ik_FL RX6 36 6 6 := ⟨RX6, TX6, 7, tyX6, rfl, by decide, inX6, tyX6_ok, nmX6, rfl, ik_in1 (List.mem_of_getElem? (i := 83) rfl)⟩
theorem ml_X11_109 : Cond.methodLink RX11 109 yX6_full ∈ lw_tbl := ik_in2 (List.mem_of_getElem? (i := 197) rfl)
theorem mf_X6_full : ik_MF yX6_full cX6_full 1 (some .boolean) 0 := ⟨ik_in2 (List.mem_of_getElem? (i := 200) rfl), ik_in1 (List.mem_of_getElem? (i := 4) rfl), by decide +kernel, by decide +kernel, by decide +kernel⟩
theorem mv_X6_full : ik_MV yX6_full := ⟨ik_in2 (List.mem_of_getElem? (i := 198) rfl), ik_in2 (List.mem_of_getElem? (i := 199) rfl)⟩
theorem fl_X6_14 : ik_FL RX6 14 6 0 := ⟨RX6, TX6, 7, tyX6, rfl, by decide, inX6, tyX6_ok, nmX6, rfl, ik_in1 (List.mem_of_getElem? (i := 77) rfl)⟩
theorem fl_X10_15 : ik_FL RX10 15 10 0 := ⟨RX10, TX10, 3, tyX10, rfl, by decide, inX10, tyX10_ok, nmX10, rfl, ik_in1 (List.mem_of_getElem? (i := 67) rfl)⟩
theorem ml_X10_28 : Cond.methodLink RX10 28 yX10_stands ∈ lw_tbl := ik_in2 (List.mem_of_getElem? (i := 209) rfl)
theorem mf_X10_stands : ik_MF yX10_stands cX10_stands 2 (some .boolean) 1 := ⟨ik_in2 (List.mem_of_getElem? (i := 212) rfl), ik_in1 (List.mem_of_getElem? (i := 5) rfl), by decide +kernel, by decide +kernel, by decide +kernel⟩
theorem mv_X10_stands : ik_MV yX10_stands := ⟨ik_in2 (List.mem_of_getElem? (i := 211) rfl), ik_inS (List.mem_of_getElem? (i := 1) (by decide +kernel))⟩
theorem fl_X10_25 : ik_FL RX10 25 10 2 := ⟨RX10, TX10, 3, tyX10, rfl, by decide, inX10, tyX10_ok, nmX10, rfl, ik_in1 (List.mem_of_getElem? (i := 69) rfl)⟩
theorem ml_X6_40 : Cond.methodLink RX6 40 yX10_wipe ∈ lw_tbl := ik_in2 (List.mem_of_getElem? (i := 205) rfl)
theorem mf_X10_wipe : ik_MF yX10_wipe cX10_wipe 2 (none) 1 := ⟨ik_in2 (List.mem_of_getElem? (i := 208) rfl), ik_in1 (List.mem_of_getElem? (i := 5) rfl), by decide +kernel, by decide +kernel, by decide +kernel⟩
theorem mv_X10_wipe : ik_MV yX10_wipe := ⟨ik_in2 (List.mem_of_getElem? (i := 206) rfl), ik_in2 (List.mem_of_getElem? (i := 207) rfl)⟩
theorem ml_X6_43 : Cond.methodLink RX6 43 yX9_at ∈ lw_tbl := ik_in2 (List.mem_of_getElem? (i := 213) rfl)
theorem mf_X9_at : ik_MF yX9_at cX9_at 2 (some .int) 1 := ⟨ik_in2 (List.mem_of_getElem? (i := 216) rfl), ik_in1 (List.mem_of_getElem? (i := 2) rfl), by decide +kernel, by decide +kernel, by decide +kernel⟩
theorem mv_X9_at : ik_MV yX9_at := ⟨ik_in2 (List.mem_of_getElem? (i := 214) rfl), ik_in2 (List.mem_of_getElem? (i := 215) rfl)⟩
theorem ml_X6_49 : Cond.methodLinkNest RX6 49 yX11_isLetter "InkBars" ∈ lw_tbl := ik_in2 (List.mem_of_getElem? (i := 217) rfl)
theorem mf_X11_isLetter : ik_MF yX11_isLetter cX11_isLetter 1 (some .boolean) 1 := ⟨ik_in2 (List.mem_of_getElem? (i := 219) rfl), ik_in1 (List.mem_of_getElem? (i := 1) rfl), by decide +kernel, by decide +kernel, by decide +kernel⟩
theorem ms_X11_isLetter : Cond.static yX11_isLetter ∈ lw_tbl := ik_in2 (List.mem_of_getElem? (i := 218) rfl)
theorem fl_X10_21 : ik_FL RX10 21 10 1 := ⟨RX10, TX10, 3, tyX10, rfl, by decide, inX10, tyX10_ok, nmX10, rfl, ik_in1 (List.mem_of_getElem? (i := 68) rfl)⟩
theorem ml_X6_53 : Cond.methodLink RX6 53 yX10_grow ∈ lw_tbl := ik_in2 (List.mem_of_getElem? (i := 220) rfl)
theorem mf_X10_grow : ik_MF yX10_grow cX10_grow 3 (some .boolean) 2 := ⟨ik_in2 (List.mem_of_getElem? (i := 223) rfl), ik_in1 (List.mem_of_getElem? (i := 5) rfl), by decide +kernel, by decide +kernel, by decide +kernel⟩
theorem mv_X10_grow : ik_MV yX10_grow := ⟨ik_in2 (List.mem_of_getElem? (i := 221) rfl), ik_in2 (List.mem_of_getElem? (i := 222) rfl)⟩
theorem ml_X10_36 : Cond.methodLink RX10 36 yX10_letter ∈ lw_tbl := ik_in2 (List.mem_of_getElem? (i := 228) rfl)
theorem mf_X10_letter : ik_MF yX10_letter cX10_letter 4 (some .int) 2 := ⟨ik_in2 (List.mem_of_getElem? (i := 231) rfl), ik_in1 (List.mem_of_getElem? (i := 5) rfl), by decide +kernel, by decide +kernel, by decide +kernel⟩
theorem mv_X10_letter : ik_MV yX10_letter := ⟨ik_in2 (List.mem_of_getElem? (i := 229) rfl), ik_in2 (List.mem_of_getElem? (i := 230) rfl)⟩
theorem ml_X6_57 : Cond.methodLink RX6 57 yX10_compare ∈ lw_tbl := ik_in2 (List.mem_of_getElem? (i := 224) rfl)
theorem mf_X10_compare : ik_MF yX10_compare cX10_compare 5 (some .int) 2 := ⟨ik_in2 (List.mem_of_getElem? (i := 227) rfl), ik_in1 (List.mem_of_getElem? (i := 5) rfl), by decide +kernel, by decide +kernel, by decide +kernel⟩
theorem mv_X10_compare : ik_MV yX10_compare := ⟨ik_in2 (List.mem_of_getElem? (i := 225) rfl), ik_in2 (List.mem_of_getElem? (i := 226) rfl)⟩
theorem ml_X11_113 : Cond.methodLink RX11 113 yX6_read ∈ lw_tbl := ik_in2 (List.mem_of_getElem? (i := 201) rfl)
theorem mf_X6_read : ik_MF yX6_read cX6_read 5 (some .boolean) 2 := ⟨ik_in2 (List.mem_of_getElem? (i := 204) rfl), ik_in1 (List.mem_of_getElem? (i := 4) rfl), by decide +kernel, by decide +kernel, by decide +kernel⟩
theorem mv_X6_read : ik_MV yX6_read := ⟨ik_in2 (List.mem_of_getElem? (i := 202) rfl), ik_in2 (List.mem_of_getElem? (i := 203) rfl)⟩
theorem ml_X11_117 : Cond.methodLink RX11 117 yX9_clear ∈ lw_tbl := ik_in2 (List.mem_of_getElem? (i := 232) rfl)
theorem mf_X9_clear : ik_MF yX9_clear cX9_clear 1 (none) 0 := ⟨ik_in2 (List.mem_of_getElem? (i := 235) rfl), ik_in1 (List.mem_of_getElem? (i := 2) rfl), by decide +kernel, by decide +kernel, by decide +kernel⟩
theorem mv_X9_clear : ik_MV yX9_clear := ⟨ik_in2 (List.mem_of_getElem? (i := 233) rfl), ik_in2 (List.mem_of_getElem? (i := 234) rfl)⟩
theorem ml_X6_61 : Cond.methodLink RX6 61 yX6_full ∈ lw_tbl := ik_in3 (List.mem_of_getElem? (i := 0) rfl)
theorem fl_X6_20 : ik_FL RX6 20 6 1 := ⟨RX6, TX6, 7, tyX6, rfl, by decide, inX6, tyX6_ok, nmX6, rfl, ik_in1 (List.mem_of_getElem? (i := 78) rfl)⟩
theorem fl_X6_24 : ik_FL RX6 24 6 2 := ⟨RX6, TX6, 7, tyX6, rfl, by decide, inX6, tyX6_ok, nmX6, rfl, ik_in1 (List.mem_of_getElem? (i := 79) rfl)⟩
theorem fl_X6_27 : ik_FL RX6 27 6 3 := ⟨RX6, TX6, 7, tyX6, rfl, by decide, inX6, tyX6_ok, nmX6, rfl, ik_in1 (List.mem_of_getElem? (i := 80) rfl)⟩
theorem fl_X6_30 : ik_FL RX6 30 6 4 := ⟨RX6, TX6, 7, tyX6, rfl, by decide, inX6, tyX6_ok, nmX6, rfl, ik_in1 (List.mem_of_getElem? (i := 81) rfl)⟩
theorem fl_X6_33 : ik_FL RX6 33 6 5 := ⟨RX6, TX6, 7, tyX6, rfl, by decide, inX6, tyX6_ok, nmX6, rfl, ik_in1 (List.mem_of_getElem? (i := 82) rfl)⟩
theorem fw_X6_36 : ik_FW RX6 36 6 6 0 := ⟨RX6, TX6, 7, tyX6, rfl, by decide, inX6, tyX6_ok, nmX6, rfl, ik_in1 (List.mem_of_getElem? (i := 83) rfl), rfl, rfl⟩
theorem ml_X11_120 : Cond.methodLink RX11 120 yX6_add ∈ lw_tbl := ik_in2 (List.mem_of_getElem? (i := 236) rfl)
theorem mf_X6_add : ik_MF yX6_add cX6_add 6 (some .int) 4 := ⟨ik_in2 (List.mem_of_getElem? (i := 239) rfl), ik_in1 (List.mem_of_getElem? (i := 4) rfl), by decide +kernel, by decide +kernel, by decide +kernel⟩
theorem mv_X6_add : ik_MV yX6_add := ⟨ik_in2 (List.mem_of_getElem? (i := 237) rfl), ik_in2 (List.mem_of_getElem? (i := 238) rfl)⟩
theorem ml_X11_124 : Cond.methodLink RX11 124 yX6_has ∈ lw_tbl := ik_in3 (List.mem_of_getElem? (i := 5) rfl)
theorem mf_X6_has : ik_MF yX6_has cX6_has 2 (some .boolean) 1 := ⟨ik_in3 (List.mem_of_getElem? (i := 8) rfl), ik_in1 (List.mem_of_getElem? (i := 4) rfl), by decide +kernel, by decide +kernel, by decide +kernel⟩
theorem mv_X6_has : ik_MV yX6_has := ⟨ik_in3 (List.mem_of_getElem? (i := 6) rfl), ik_in3 (List.mem_of_getElem? (i := 7) rfl)⟩
theorem ml_X10_32 : Cond.methodLink RX10 32 yX10_length ∈ lw_tbl := ik_in3 (List.mem_of_getElem? (i := 17) rfl)
theorem mf_X10_length : ik_MF yX10_length cX10_length 2 (some .int) 1 := ⟨ik_in3 (List.mem_of_getElem? (i := 20) rfl), ik_in1 (List.mem_of_getElem? (i := 5) rfl), by decide +kernel, by decide +kernel, by decide +kernel⟩
theorem mv_X10_length : ik_MV yX10_length := ⟨ik_in3 (List.mem_of_getElem? (i := 18) rfl), ik_in3 (List.mem_of_getElem? (i := 19) rfl)⟩
theorem ml_X10_39 : Cond.methodLink RX10 39 yX4_wideOf ∈ lw_tbl := ik_in3 (List.mem_of_getElem? (i := 21) rfl)
theorem mf_X4_wideOf : ik_MF yX4_wideOf cX4_wideOf 2 (some .int) 1 := ⟨ik_in3 (List.mem_of_getElem? (i := 24) rfl), ik_in1 (List.mem_of_getElem? (i := 3) rfl), by decide +kernel, by decide +kernel, by decide +kernel⟩
theorem mv_X4_wideOf : ik_MV yX4_wideOf := ⟨ik_in3 (List.mem_of_getElem? (i := 22) rfl), ik_in3 (List.mem_of_getElem? (i := 23) rfl)⟩
theorem ml_X10_44 : Cond.methodLink RX10 44 yX4_joinOf ∈ lw_tbl := ik_in3 (List.mem_of_getElem? (i := 25) rfl)
theorem mf_X4_joinOf : ik_MF yX4_joinOf cX4_joinOf 3 (some .int) 2 := ⟨ik_in3 (List.mem_of_getElem? (i := 28) rfl), ik_in1 (List.mem_of_getElem? (i := 3) rfl), by decide +kernel, by decide +kernel, by decide +kernel⟩
theorem mv_X4_joinOf : ik_MV yX4_joinOf := ⟨ik_in3 (List.mem_of_getElem? (i := 26) rfl), ik_in3 (List.mem_of_getElem? (i := 27) rfl)⟩
theorem ml_X6_65 : Cond.methodLink RX6 65 yX10_wide ∈ lw_tbl := ik_in3 (List.mem_of_getElem? (i := 13) rfl)
theorem mf_X10_wide : ik_MF yX10_wide cX10_wide 8 (some .int) 2 := ⟨ik_in3 (List.mem_of_getElem? (i := 16) rfl), ik_in1 (List.mem_of_getElem? (i := 5) rfl), by decide +kernel, by decide +kernel, by decide +kernel⟩
theorem mv_X10_wide : ik_MV yX10_wide := ⟨ik_in3 (List.mem_of_getElem? (i := 14) rfl), ik_in3 (List.mem_of_getElem? (i := 15) rfl)⟩
theorem ml_X11_127 : Cond.methodLink RX11 127 yX6_wide ∈ lw_tbl := ik_in3 (List.mem_of_getElem? (i := 9) rfl)
theorem mf_X6_wide : ik_MF yX6_wide cX6_wide 3 (some .int) 2 := ⟨ik_in3 (List.mem_of_getElem? (i := 12) rfl), ik_in1 (List.mem_of_getElem? (i := 4) rfl), by decide +kernel, by decide +kernel, by decide +kernel⟩
theorem mv_X6_wide : ik_MV yX6_wide := ⟨ik_in3 (List.mem_of_getElem? (i := 10) rfl), ik_in3 (List.mem_of_getElem? (i := 11) rfl)⟩
theorem fl_X11_33 : ik_FL RX11 33 11 3 := ⟨RX11, TX11, 15, tyX11, rfl, by decide, inX11, tyX11_ok, nmX11, rfl, ik_in2 (List.mem_of_getElem? (i := 111) rfl)⟩
theorem fl_X0_39 : ik_FL RX0 39 0 9 := ⟨RX0, TX0, 12, tyX0, rfl, by decide, inX0, tyX0_ok, nmX0, rfl, ik_in1 (List.mem_of_getElem? (i := 114) rfl)⟩
theorem ml_X11_131 : Cond.methodLink RX11 131 yX0_full ∈ lw_tbl := ik_in3 (List.mem_of_getElem? (i := 33) rfl)
theorem mf_X0_full : ik_MF yX0_full cX0_full 1 (some .boolean) 0 := ⟨ik_in3 (List.mem_of_getElem? (i := 36) rfl), ik_in1 (List.mem_of_getElem? (i := 7) rfl), by decide +kernel, by decide +kernel, by decide +kernel⟩
theorem mv_X0_full : ik_MV yX0_full := ⟨ik_in3 (List.mem_of_getElem? (i := 34) rfl), ik_in3 (List.mem_of_getElem? (i := 35) rfl)⟩
theorem ml_X0_49 : Cond.methodLink RX0 49 yX0_full ∈ lw_tbl := ik_in3 (List.mem_of_getElem? (i := 41) rfl)
theorem fl_X0_9 : ik_FL RX0 9 0 0 := ⟨RX0, TX0, 12, tyX0, rfl, by decide, inX0, tyX0_ok, nmX0, rfl, ik_in1 (List.mem_of_getElem? (i := 105) rfl)⟩
theorem fl_X0_15 : ik_FL RX0 15 0 1 := ⟨RX0, TX0, 12, tyX0, rfl, by decide, inX0, tyX0_ok, nmX0, rfl, ik_in1 (List.mem_of_getElem? (i := 106) rfl)⟩
theorem fl_X0_18 : ik_FL RX0 18 0 2 := ⟨RX0, TX0, 12, tyX0, rfl, by decide, inX0, tyX0_ok, nmX0, rfl, ik_in1 (List.mem_of_getElem? (i := 107) rfl)⟩
theorem fw_X0_39 : ik_FW RX0 39 0 9 0 := ⟨RX0, TX0, 12, tyX0, rfl, by decide, inX0, tyX0_ok, nmX0, rfl, ik_in1 (List.mem_of_getElem? (i := 114) rfl), rfl, rfl⟩
theorem ml_X11_132 : Cond.methodLink RX11 132 yX0_add ∈ lw_tbl := ik_in3 (List.mem_of_getElem? (i := 37) rfl)
theorem mf_X0_add : ik_MF yX0_add cX0_add 4 (some .int) 3 := ⟨ik_in3 (List.mem_of_getElem? (i := 40) rfl), ik_in1 (List.mem_of_getElem? (i := 7) rfl), by decide +kernel, by decide +kernel, by decide +kernel⟩
theorem mv_X0_add : ik_MV yX0_add := ⟨ik_in3 (List.mem_of_getElem? (i := 38) rfl), ik_in3 (List.mem_of_getElem? (i := 39) rfl)⟩
theorem fl_X11_40 : ik_FL RX11 40 11 4 := ⟨RX11, TX11, 15, tyX11, rfl, by decide, inX11, tyX11_ok, nmX11, rfl, ik_in2 (List.mem_of_getElem? (i := 112) rfl)⟩
theorem fl_X8_40 : ik_FL RX8 40 8 7 := ⟨RX8, TX8, 11, tyX8, rfl, by decide, inX8, tyX8_ok, nmX8, rfl, ik_in1 (List.mem_of_getElem? (i := 157) rfl)⟩
theorem ml_X11_135 : Cond.methodLink RX11 135 yX8_full ∈ lw_tbl := ik_in3 (List.mem_of_getElem? (i := 46) rfl)
theorem mf_X8_full : ik_MF yX8_full cX8_full 1 (some .boolean) 0 := ⟨ik_in3 (List.mem_of_getElem? (i := 49) rfl), ik_in1 (List.mem_of_getElem? (i := 8) rfl), by decide +kernel, by decide +kernel, by decide +kernel⟩
theorem mv_X8_full : ik_MV yX8_full := ⟨ik_in3 (List.mem_of_getElem? (i := 47) rfl), ik_in3 (List.mem_of_getElem? (i := 48) rfl)⟩
theorem ml_X11_136 : Cond.methodLink RX11 136 yX0_count ∈ lw_tbl := ik_in3 (List.mem_of_getElem? (i := 50) rfl)
theorem mf_X0_count : ik_MF yX0_count cX0_count 1 (some .int) 0 := ⟨ik_in3 (List.mem_of_getElem? (i := 53) rfl), ik_in1 (List.mem_of_getElem? (i := 7) rfl), by decide +kernel, by decide +kernel, by decide +kernel⟩
theorem mv_X0_count : ik_MV yX0_count := ⟨ik_in3 (List.mem_of_getElem? (i := 51) rfl), ik_in3 (List.mem_of_getElem? (i := 52) rfl)⟩
theorem fw_X8_44 : ik_FW RX8 44 8 8 0 := ⟨RX8, TX8, 11, tyX8, rfl, by decide, inX8, tyX8_ok, nmX8, rfl, ik_in1 (List.mem_of_getElem? (i := 158) rfl), rfl, rfl⟩
theorem ml_X8_47 : Cond.methodLink RX8 47 yX9_at ∈ lw_tbl := ik_in3 (List.mem_of_getElem? (i := 58) rfl)
theorem ml_X8_57 : Cond.methodLinkNest RX8 57 yX11_isLetter "InkBars" ∈ lw_tbl := ik_in3 (List.mem_of_getElem? (i := 63) rfl)
theorem ml_X8_69 : Cond.methodLinkNest RX8 69 yX11_isDigit "InkBars" ∈ lw_tbl := ik_in3 (List.mem_of_getElem? (i := 64) rfl)
theorem mf_X11_isDigit : ik_MF yX11_isDigit cX11_isDigit 1 (some .boolean) 1 := ⟨ik_in3 (List.mem_of_getElem? (i := 66) rfl), ik_in1 (List.mem_of_getElem? (i := 1) rfl), by decide +kernel, by decide +kernel, by decide +kernel⟩
theorem ms_X11_isDigit : Cond.static yX11_isDigit ∈ lw_tbl := ik_in3 (List.mem_of_getElem? (i := 65) rfl)
theorem fl_X8_44 : ik_FL RX8 44 8 8 := ⟨RX8, TX8, 11, tyX8, rfl, by decide, inX8, tyX8_ok, nmX8, rfl, ik_in1 (List.mem_of_getElem? (i := 158) rfl)⟩
theorem ml_X8_61 : Cond.methodLink RX8 61 yX8_slot ∈ lw_tbl := ik_in3 (List.mem_of_getElem? (i := 67) rfl)
theorem mf_X8_slot : ik_MF yX8_slot cX8_slot 2 (some .int) 2 := ⟨ik_in3 (List.mem_of_getElem? (i := 69) rfl), ik_in1 (List.mem_of_getElem? (i := 8) rfl), by decide +kernel, by decide +kernel, by decide +kernel⟩
theorem ms_X8_slot : Cond.static yX8_slot ∈ lw_tbl := ik_in3 (List.mem_of_getElem? (i := 68) rfl)
theorem fl_X8_16 : ik_FL RX8 16 8 0 := ⟨RX8, TX8, 11, tyX8, rfl, by decide, inX8, tyX8_ok, nmX8, rfl, ik_in1 (List.mem_of_getElem? (i := 150) rfl)⟩
theorem ml_X8_72 : Cond.methodLink RX8 72 yX10_wipe ∈ lw_tbl := ik_in3 (List.mem_of_getElem? (i := 70) rfl)
theorem fl_X8_20 : ik_FL RX8 20 8 1 := ⟨RX8, TX8, 11, tyX8, rfl, by decide, inX8, tyX8_ok, nmX8, rfl, ik_in1 (List.mem_of_getElem? (i := 151) rfl)⟩
theorem fl_X8_24 : ik_FL RX8 24 8 2 := ⟨RX8, TX8, 11, tyX8, rfl, by decide, inX8, tyX8_ok, nmX8, rfl, ik_in1 (List.mem_of_getElem? (i := 152) rfl)⟩
theorem ml_X8_65 : Cond.methodLink RX8 65 yX10_grow ∈ lw_tbl := ik_in3 (List.mem_of_getElem? (i := 71) rfl)
theorem ml_X8_53 : Cond.methodLink RX8 53 yX8_beginToken ∈ lw_tbl := ik_in3 (List.mem_of_getElem? (i := 59) rfl)
theorem mf_X8_beginToken : ik_MF yX8_beginToken cX8_beginToken 5 (some .int) 3 := ⟨ik_in3 (List.mem_of_getElem? (i := 62) rfl), ik_in1 (List.mem_of_getElem? (i := 8) rfl), by decide +kernel, by decide +kernel, by decide +kernel⟩
theorem mv_X8_beginToken : ik_MV yX8_beginToken := ⟨ik_in3 (List.mem_of_getElem? (i := 61) rfl), ik_inS (List.mem_of_getElem? (i := 2) (by decide +kernel))⟩
theorem ml_X11_139 : Cond.methodLink RX11 139 yX8_read ∈ lw_tbl := ik_in3 (List.mem_of_getElem? (i := 54) rfl)
theorem mf_X8_read : ik_MF yX8_read cX8_read 9 (some .int) 3 := ⟨ik_in3 (List.mem_of_getElem? (i := 57) rfl), ik_in1 (List.mem_of_getElem? (i := 8) rfl), by decide +kernel, by decide +kernel, by decide +kernel⟩
theorem mv_X8_read : ik_MV yX8_read := ⟨ik_in3 (List.mem_of_getElem? (i := 55) rfl), ik_in3 (List.mem_of_getElem? (i := 56) rfl)⟩
theorem ml_X8_75 : Cond.methodLink RX8 75 yX8_full ∈ lw_tbl := ik_in3 (List.mem_of_getElem? (i := 76) rfl)
theorem fl_X8_31 : ik_FL RX8 31 8 4 := ⟨RX8, TX8, 11, tyX8, rfl, by decide, inX8, tyX8_ok, nmX8, rfl, ik_in1 (List.mem_of_getElem? (i := 154) rfl)⟩
theorem fl_X8_34 : ik_FL RX8 34 8 5 := ⟨RX8, TX8, 11, tyX8, rfl, by decide, inX8, tyX8_ok, nmX8, rfl, ik_in1 (List.mem_of_getElem? (i := 155) rfl)⟩
theorem fl_X8_37 : ik_FL RX8 37 8 6 := ⟨RX8, TX8, 11, tyX8, rfl, by decide, inX8, tyX8_ok, nmX8, rfl, ik_in1 (List.mem_of_getElem? (i := 156) rfl)⟩
theorem fw_X8_40 : ik_FW RX8 40 8 7 0 := ⟨RX8, TX8, 11, tyX8, rfl, by decide, inX8, tyX8_ok, nmX8, rfl, ik_in1 (List.mem_of_getElem? (i := 157) rfl), rfl, rfl⟩
theorem ml_X8_101 : Cond.methodLink RX8 101 yX8_has ∈ lw_tbl := ik_in3 (List.mem_of_getElem? (i := 85) rfl)
theorem mf_X8_has : ik_MF yX8_has cX8_has 2 (some .boolean) 1 := ⟨ik_in3 (List.mem_of_getElem? (i := 88) rfl), ik_in1 (List.mem_of_getElem? (i := 8) rfl), by decide +kernel, by decide +kernel, by decide +kernel⟩
theorem mv_X8_has : ik_MV yX8_has := ⟨ik_in3 (List.mem_of_getElem? (i := 86) rfl), ik_in3 (List.mem_of_getElem? (i := 87) rfl)⟩
theorem ml_X8_106 : Cond.methodLink RX8 106 yX8_stands ∈ lw_tbl := ik_in3 (List.mem_of_getElem? (i := 81) rfl)
theorem mf_X8_stands : ik_MF yX8_stands cX8_stands 3 (some .boolean) 2 := ⟨ik_in3 (List.mem_of_getElem? (i := 84) rfl), ik_in1 (List.mem_of_getElem? (i := 8) rfl), by decide +kernel, by decide +kernel, by decide +kernel⟩
theorem mv_X8_stands : ik_MV yX8_stands := ⟨ik_in3 (List.mem_of_getElem? (i := 83) rfl), ik_inS (List.mem_of_getElem? (i := 3) (by decide +kernel))⟩
theorem ml_X8_79 : Cond.methodLink RX8 79 yX8_barAt ∈ lw_tbl := ik_in3 (List.mem_of_getElem? (i := 77) rfl)
theorem mf_X8_barAt : ik_MF yX8_barAt cX8_barAt 3 (some .int) 2 := ⟨ik_in3 (List.mem_of_getElem? (i := 80) rfl), ik_in1 (List.mem_of_getElem? (i := 8) rfl), by decide +kernel, by decide +kernel, by decide +kernel⟩
theorem mv_X8_barAt : ik_MV yX8_barAt := ⟨ik_in3 (List.mem_of_getElem? (i := 78) rfl), ik_in3 (List.mem_of_getElem? (i := 79) rfl)⟩
theorem ml_X8_86 : Cond.methodLink RX8 86 yX10_letter ∈ lw_tbl := ik_in3 (List.mem_of_getElem? (i := 93) rfl)
theorem ml_X8_89 : Cond.methodLink RX8 89 yX10_length ∈ lw_tbl := ik_in3 (List.mem_of_getElem? (i := 94) rfl)
theorem fw_X8_92 : ik_FW RX8 92 8 9 0 := ⟨RX8, TX8, 11, tyX8, rfl, by decide, inX8, tyX8_ok, nmX8, rfl, ik_in1 (List.mem_of_getElem? (i := 159) rfl), rfl, rfl⟩
theorem fw_X8_95 : ik_FW RX8 95 8 10 0 := ⟨RX8, TX8, 11, tyX8, rfl, by decide, inX8, tyX8_ok, nmX8, rfl, ik_in1 (List.mem_of_getElem? (i := 160) rfl), rfl, rfl⟩
theorem ml_X8_82 : Cond.methodLink RX8 82 yX8_heedArticle ∈ lw_tbl := ik_in3 (List.mem_of_getElem? (i := 89) rfl)
theorem mf_X8_heedArticle : ik_MF yX8_heedArticle cX8_heedArticle 3 (none) 2 := ⟨ik_in3 (List.mem_of_getElem? (i := 92) rfl), ik_in1 (List.mem_of_getElem? (i := 8) rfl), by decide +kernel, by decide +kernel, by decide +kernel⟩
theorem mv_X8_heedArticle : ik_MV yX8_heedArticle := ⟨ik_in3 (List.mem_of_getElem? (i := 91) rfl), ik_inS (List.mem_of_getElem? (i := 4) (by decide +kernel))⟩
theorem ml_X11_142 : Cond.methodLink RX11 142 yX8_add ∈ lw_tbl := ik_in3 (List.mem_of_getElem? (i := 72) rfl)
theorem mf_X8_add : ik_MF yX8_add cX8_add 3 (some .int) 1 := ⟨ik_in3 (List.mem_of_getElem? (i := 75) rfl), ik_in1 (List.mem_of_getElem? (i := 8) rfl), by decide +kernel, by decide +kernel, by decide +kernel⟩
theorem mv_X8_add : ik_MV yX8_add := ⟨ik_in3 (List.mem_of_getElem? (i := 73) rfl), ik_in3 (List.mem_of_getElem? (i := 74) rfl)⟩
theorem fl_X11_47 : ik_FL RX11 47 11 5 := ⟨RX11, TX11, 15, tyX11, rfl, by decide, inX11, tyX11_ok, nmX11, rfl, ik_in2 (List.mem_of_getElem? (i := 113) rfl)⟩
theorem fl_X7_15 : ik_FL RX7 15 7 1 := ⟨RX7, TX7, 11, tyX7, rfl, by decide, inX7, tyX7_ok, nmX7, rfl, ik_in1 (List.mem_of_getElem? (i := 192) rfl)⟩
theorem ml_X7_25 : Cond.methodLink RX7 25 yX9_at ∈ lw_tbl := ik_in3 (List.mem_of_getElem? (i := 103) rfl)
theorem fw_X7_65 : ik_FW RX7 65 7 5 3 := ⟨RX7, TX7, 11, tyX7, rfl, by decide, inX7, tyX7_ok, nmX7, rfl, ik_in1 (List.mem_of_getElem? (i := 196) rfl), rfl, rfl⟩
theorem fw_X7_68 : ik_FW RX7 68 7 6 0 := ⟨RX7, TX7, 11, tyX7, rfl, by decide, inX7, tyX7_ok, nmX7, rfl, ik_in1 (List.mem_of_getElem? (i := 197) rfl), rfl, rfl⟩
theorem fw_X7_71 : ik_FW RX7 71 7 7 0 := ⟨RX7, TX7, 11, tyX7, rfl, by decide, inX7, tyX7_ok, nmX7, rfl, ik_in1 (List.mem_of_getElem? (i := 198) rfl), rfl, rfl⟩
theorem fw_X7_45 : ik_FW RX7 45 7 9 0 := ⟨RX7, TX7, 11, tyX7, rfl, by decide, inX7, tyX7_ok, nmX7, rfl, ik_in1 (List.mem_of_getElem? (i := 200) rfl), rfl, rfl⟩
theorem fw_X7_61 : ik_FW RX7 61 7 10 3 := ⟨RX7, TX7, 11, tyX7, rfl, by decide, inX7, tyX7_ok, nmX7, rfl, ik_in1 (List.mem_of_getElem? (i := 201) rfl), rfl, rfl⟩
theorem fl_X7_45 : ik_FL RX7 45 7 9 := ⟨RX7, TX7, 11, tyX7, rfl, by decide, inX7, tyX7_ok, nmX7, rfl, ik_in1 (List.mem_of_getElem? (i := 200) rfl)⟩
theorem fl_X7_71 : ik_FL RX7 71 7 7 := ⟨RX7, TX7, 11, tyX7, rfl, by decide, inX7, tyX7_ok, nmX7, rfl, ik_in1 (List.mem_of_getElem? (i := 198) rfl)⟩
theorem fw_X7_39 : ik_FW RX7 39 7 8 0 := ⟨RX7, TX7, 11, tyX7, rfl, by decide, inX7, tyX7_ok, nmX7, rfl, ik_in1 (List.mem_of_getElem? (i := 199) rfl), rfl, rfl⟩
theorem fl_X7_68 : ik_FL RX7 68 7 6 := ⟨RX7, TX7, 11, tyX7, rfl, by decide, inX7, tyX7_ok, nmX7, rfl, ik_in1 (List.mem_of_getElem? (i := 197) rfl)⟩
theorem fl_X7_65 : ik_FL RX7 65 7 5 := ⟨RX7, TX7, 11, tyX7, rfl, by decide, inX7, tyX7_ok, nmX7, rfl, ik_in1 (List.mem_of_getElem? (i := 196) rfl)⟩
theorem fl_X7_9 : ik_FL RX7 9 7 0 := ⟨RX7, TX7, 11, tyX7, rfl, by decide, inX7, tyX7_ok, nmX7, rfl, ik_in1 (List.mem_of_getElem? (i := 191) rfl)⟩
theorem ml_X7_42 : Cond.methodLink RX7 42 yX7_go ∈ lw_tbl := ik_in3 (List.mem_of_getElem? (i := 108) rfl)
theorem mf_X7_go : ik_MF yX7_go cX7_go 3 (none) 1 := ⟨ik_in3 (List.mem_of_getElem? (i := 111) rfl), ik_in1 (List.mem_of_getElem? (i := 9) rfl), by decide +kernel, by decide +kernel, by decide +kernel⟩
theorem mv_X7_go : ik_MV yX7_go := ⟨ik_in3 (List.mem_of_getElem? (i := 110) rfl), ik_inS (List.mem_of_getElem? (i := 6) (by decide +kernel))⟩
theorem ml_X7_31 : Cond.methodLink RX7 31 yX7_begin ∈ lw_tbl := ik_in3 (List.mem_of_getElem? (i := 104) rfl)
theorem mf_X7_begin : ik_MF yX7_begin cX7_begin 4 (none) 3 := ⟨ik_in3 (List.mem_of_getElem? (i := 107) rfl), ik_in1 (List.mem_of_getElem? (i := 9) rfl), by decide +kernel, by decide +kernel, by decide +kernel⟩
theorem mv_X7_begin : ik_MV yX7_begin := ⟨ik_in3 (List.mem_of_getElem? (i := 106) rfl), ik_inS (List.mem_of_getElem? (i := 5) (by decide +kernel))⟩
theorem fl_X7_39 : ik_FL RX7 39 7 8 := ⟨RX7, TX7, 11, tyX7, rfl, by decide, inX7, tyX7_ok, nmX7, rfl, ik_in1 (List.mem_of_getElem? (i := 199) rfl)⟩
theorem ml_X7_73 : Cond.methodLinkNest RX7 73 yX11_isDigit "InkBars" ∈ lw_tbl := ik_in3 (List.mem_of_getElem? (i := 116) rfl)
theorem ml_X7_80 : Cond.methodLink RX7 80 yX7_piece ∈ lw_tbl := ik_in3 (List.mem_of_getElem? (i := 125) rfl)
theorem mf_X7_piece : ik_MF yX7_piece cX7_piece 6 (some .boolean) 2 := ⟨ik_in3 (List.mem_of_getElem? (i := 128) rfl), ik_in1 (List.mem_of_getElem? (i := 9) rfl), by decide +kernel, by decide +kernel, by decide +kernel⟩
theorem mv_X7_piece : ik_MV yX7_piece := ⟨ik_in3 (List.mem_of_getElem? (i := 127) rfl), ik_inS (List.mem_of_getElem? (i := 10) (by decide +kernel))⟩
theorem ml_X7_57 : Cond.methodLink RX7 57 yX7_condition ∈ lw_tbl := ik_in3 (List.mem_of_getElem? (i := 117) rfl)
theorem mf_X7_condition : ik_MF yX7_condition cX7_condition 6 (some .boolean) 2 := ⟨ik_in3 (List.mem_of_getElem? (i := 120) rfl), ik_in1 (List.mem_of_getElem? (i := 9) rfl), by decide +kernel, by decide +kernel, by decide +kernel⟩
theorem mv_X7_condition : ik_MV yX7_condition := ⟨ik_in3 (List.mem_of_getElem? (i := 119) rfl), ik_inS (List.mem_of_getElem? (i := 8) (by decide +kernel))⟩
theorem ml_X7_83 : Cond.methodLink RX7 83 yX7_nested ∈ lw_tbl := ik_in3 (List.mem_of_getElem? (i := 129) rfl)
theorem mf_X7_nested : ik_MF yX7_nested cX7_nested 5 (some .boolean) 2 := ⟨ik_in3 (List.mem_of_getElem? (i := 132) rfl), ik_in1 (List.mem_of_getElem? (i := 9) rfl), by decide +kernel, by decide +kernel, by decide +kernel⟩
theorem mv_X7_nested : ik_MV yX7_nested := ⟨ik_in3 (List.mem_of_getElem? (i := 131) rfl), ik_inS (List.mem_of_getElem? (i := 11) (by decide +kernel))⟩
theorem ml_X7_86 : Cond.methodLink RX7 86 yX7_sum ∈ lw_tbl := ik_in3 (List.mem_of_getElem? (i := 133) rfl)
theorem mf_X7_sum : ik_MF yX7_sum cX7_sum 7 (some .int) 2 := ⟨ik_in3 (List.mem_of_getElem? (i := 136) rfl), ik_in1 (List.mem_of_getElem? (i := 9) rfl), by decide +kernel, by decide +kernel, by decide +kernel⟩
theorem mv_X7_sum : ik_MV yX7_sum := ⟨ik_in3 (List.mem_of_getElem? (i := 135) rfl), ik_inS (List.mem_of_getElem? (i := 12) (by decide +kernel))⟩
theorem ml_X7_96 : Cond.methodLink RX7 96 yX7_isFact ∈ lw_tbl := ik_in3 (List.mem_of_getElem? (i := 145) rfl)
theorem mf_X7_isFact : ik_MF yX7_isFact cX7_isFact 1 (some .boolean) 1 := ⟨ik_in3 (List.mem_of_getElem? (i := 147) rfl), ik_in1 (List.mem_of_getElem? (i := 9) rfl), by decide +kernel, by decide +kernel, by decide +kernel⟩
theorem ms_X7_isFact : Cond.static yX7_isFact ∈ lw_tbl := ik_in3 (List.mem_of_getElem? (i := 146) rfl)
theorem fl_X7_18 : ik_FL RX7 18 7 2 := ⟨RX7, TX7, 11, tyX7, rfl, by decide, inX7, tyX7_ok, nmX7, rfl, ik_in1 (List.mem_of_getElem? (i := 193) rfl)⟩
theorem ml_X7_93 : Cond.methodLink RX7 93 yX7_factor ∈ lw_tbl := ik_in3 (List.mem_of_getElem? (i := 141) rfl)
theorem mf_X7_factor : ik_MF yX7_factor cX7_factor 6 (some .int) 2 := ⟨ik_in3 (List.mem_of_getElem? (i := 144) rfl), ik_in1 (List.mem_of_getElem? (i := 9) rfl), by decide +kernel, by decide +kernel, by decide +kernel⟩
theorem mv_X7_factor : ik_MV yX7_factor := ⟨ik_in3 (List.mem_of_getElem? (i := 143) rfl), ik_inS (List.mem_of_getElem? (i := 14) (by decide +kernel))⟩
theorem fl_X7_61 : ik_FL RX7 61 7 10 := ⟨RX7, TX7, 11, tyX7, rfl, by decide, inX7, tyX7_ok, nmX7, rfl, ik_in1 (List.mem_of_getElem? (i := 201) rfl)⟩
theorem ml_X7_90 : Cond.methodLink RX7 90 yX7_product ∈ lw_tbl := ik_in3 (List.mem_of_getElem? (i := 137) rfl)
theorem mf_X7_product : ik_MF yX7_product cX7_product 7 (some .int) 2 := ⟨ik_in3 (List.mem_of_getElem? (i := 140) rfl), ik_in1 (List.mem_of_getElem? (i := 9) rfl), by decide +kernel, by decide +kernel, by decide +kernel⟩
theorem mv_X7_product : ik_MV yX7_product := ⟨ik_in3 (List.mem_of_getElem? (i := 139) rfl), ik_inS (List.mem_of_getElem? (i := 13) (by decide +kernel))⟩
theorem ml_X7_77 : Cond.methodLink RX7 77 yX7_part ∈ lw_tbl := ik_in3 (List.mem_of_getElem? (i := 121) rfl)
theorem mf_X7_part : ik_MF yX7_part cX7_part 6 (some .boolean) 2 := ⟨ik_in3 (List.mem_of_getElem? (i := 124) rfl), ik_in1 (List.mem_of_getElem? (i := 9) rfl), by decide +kernel, by decide +kernel, by decide +kernel⟩
theorem mv_X7_part : ik_MV yX7_part := ⟨ik_in3 (List.mem_of_getElem? (i := 123) rfl), ik_inS (List.mem_of_getElem? (i := 9) (by decide +kernel))⟩
theorem ml_X7_35 : Cond.methodLink RX7 35 yX7_clause ∈ lw_tbl := ik_in3 (List.mem_of_getElem? (i := 112) rfl)
theorem mf_X7_clause : ik_MF yX7_clause cX7_clause 3 (none) 1 := ⟨ik_in3 (List.mem_of_getElem? (i := 115) rfl), ik_in1 (List.mem_of_getElem? (i := 9) rfl), by decide +kernel, by decide +kernel, by decide +kernel⟩
theorem mv_X7_clause : ik_MV yX7_clause := ⟨ik_in3 (List.mem_of_getElem? (i := 114) rfl), ik_inS (List.mem_of_getElem? (i := 7) (by decide +kernel))⟩
theorem acp_X7_48 : ik_ACP RX7 48 := ⟨ik_in3 (List.mem_of_getElem? (i := 148) rfl), ik_in3 (List.mem_of_getElem? (i := 150) rfl), ik_in3 (List.mem_of_getElem? (i := 149) rfl), ik_in1 (List.mem_of_getElem? (i := 15) rfl)⟩
theorem fw_X7_54 : ik_FW RX7 54 7 3 0 := ⟨RX7, TX7, 11, tyX7, rfl, by decide, inX7, tyX7_ok, nmX7, rfl, ik_in1 (List.mem_of_getElem? (i := 194) rfl), rfl, rfl⟩
theorem fw_X7_21 : ik_FW RX7 21 7 4 0 := ⟨RX7, TX7, 11, tyX7, rfl, by decide, inX7, tyX7_ok, nmX7, rfl, ik_in1 (List.mem_of_getElem? (i := 195) rfl), rfl, rfl⟩
theorem ml_X11_145 : Cond.methodLink RX11 145 yX7_take ∈ lw_tbl := ik_in3 (List.mem_of_getElem? (i := 99) rfl)
theorem mf_X7_take : ik_MF yX7_take cX7_take 5 (some .int) 2 := ⟨ik_in3 (List.mem_of_getElem? (i := 102) rfl), ik_in1 (List.mem_of_getElem? (i := 9) rfl), by decide +kernel, by decide +kernel, by decide +kernel⟩
theorem mv_X7_take : ik_MV yX7_take := ⟨ik_in3 (List.mem_of_getElem? (i := 100) rfl), ik_in3 (List.mem_of_getElem? (i := 101) rfl)⟩
theorem fl_X7_21 : ik_FL RX7 21 7 4 := ⟨RX7, TX7, 11, tyX7, rfl, by decide, inX7, tyX7_ok, nmX7, rfl, ik_in1 (List.mem_of_getElem? (i := 195) rfl)⟩
theorem ml_X11_149 : Cond.methodLink RX11 149 yX7_clauses ∈ lw_tbl := ik_in3 (List.mem_of_getElem? (i := 151) rfl)
theorem mf_X7_clauses : ik_MF yX7_clauses cX7_clauses 1 (some .int) 0 := ⟨ik_in3 (List.mem_of_getElem? (i := 154) rfl), ik_in1 (List.mem_of_getElem? (i := 9) rfl), by decide +kernel, by decide +kernel, by decide +kernel⟩
theorem mv_X7_clauses : ik_MV yX7_clauses := ⟨ik_in3 (List.mem_of_getElem? (i := 152) rfl), ik_in3 (List.mem_of_getElem? (i := 153) rfl)⟩
theorem ml_X11_152 : Cond.methodLink RX11 152 yX0_has ∈ lw_tbl := ik_in3 (List.mem_of_getElem? (i := 159) rfl)
theorem mf_X0_has : ik_MF yX0_has cX0_has 2 (some .boolean) 1 := ⟨ik_in3 (List.mem_of_getElem? (i := 162) rfl), ik_in1 (List.mem_of_getElem? (i := 7) rfl), by decide +kernel, by decide +kernel, by decide +kernel⟩
theorem mv_X0_has : ik_MV yX0_has := ⟨ik_in3 (List.mem_of_getElem? (i := 160) rfl), ik_in3 (List.mem_of_getElem? (i := 161) rfl)⟩
theorem fl_X0_43 : ik_FL RX0 43 0 10 := ⟨RX0, TX0, 12, tyX0, rfl, by decide, inX0, tyX0_ok, nmX0, rfl, ik_in1 (List.mem_of_getElem? (i := 115) rfl)⟩
theorem ml_X11_153 : Cond.methodLink RX11 153 yX0_tiesFull ∈ lw_tbl := ik_in3 (List.mem_of_getElem? (i := 163) rfl)
theorem mf_X0_tiesFull : ik_MF yX0_tiesFull cX0_tiesFull 1 (some .boolean) 0 := ⟨ik_in3 (List.mem_of_getElem? (i := 166) rfl), ik_in1 (List.mem_of_getElem? (i := 7) rfl), by decide +kernel, by decide +kernel, by decide +kernel⟩
theorem mv_X0_tiesFull : ik_MV yX0_tiesFull := ⟨ik_in3 (List.mem_of_getElem? (i := 164) rfl), ik_in3 (List.mem_of_getElem? (i := 165) rfl)⟩
theorem ml_X0_53 : Cond.methodLink RX0 53 yX0_tiesFull ∈ lw_tbl := ik_in3 (List.mem_of_getElem? (i := 171) rfl)
theorem fl_X0_21 : ik_FL RX0 21 0 3 := ⟨RX0, TX0, 12, tyX0, rfl, by decide, inX0, tyX0_ok, nmX0, rfl, ik_in1 (List.mem_of_getElem? (i := 108) rfl)⟩
theorem fl_X0_24 : ik_FL RX0 24 0 4 := ⟨RX0, TX0, 12, tyX0, rfl, by decide, inX0, tyX0_ok, nmX0, rfl, ik_in1 (List.mem_of_getElem? (i := 109) rfl)⟩
theorem fl_X0_27 : ik_FL RX0 27 0 5 := ⟨RX0, TX0, 12, tyX0, rfl, by decide, inX0, tyX0_ok, nmX0, rfl, ik_in1 (List.mem_of_getElem? (i := 110) rfl)⟩
theorem fw_X0_43 : ik_FW RX0 43 0 10 0 := ⟨RX0, TX0, 12, tyX0, rfl, by decide, inX0, tyX0_ok, nmX0, rfl, ik_in1 (List.mem_of_getElem? (i := 115) rfl), rfl, rfl⟩
theorem ml_X11_156 : Cond.methodLink RX11 156 yX0_addTie ∈ lw_tbl := ik_in3 (List.mem_of_getElem? (i := 167) rfl)
theorem mf_X0_addTie : ik_MF yX0_addTie cX0_addTie 4 (none) 3 := ⟨ik_in3 (List.mem_of_getElem? (i := 170) rfl), ik_in1 (List.mem_of_getElem? (i := 7) rfl), by decide +kernel, by decide +kernel, by decide +kernel⟩
theorem mv_X0_addTie : ik_MV yX0_addTie := ⟨ik_in3 (List.mem_of_getElem? (i := 168) rfl), ik_in3 (List.mem_of_getElem? (i := 169) rfl)⟩
theorem fl_X0_46 : ik_FL RX0 46 0 11 := ⟨RX0, TX0, 12, tyX0, rfl, by decide, inX0, tyX0_ok, nmX0, rfl, ik_in1 (List.mem_of_getElem? (i := 116) rfl)⟩
theorem ml_X11_159 : Cond.methodLink RX11 159 yX0_listsFull ∈ lw_tbl := ik_in3 (List.mem_of_getElem? (i := 176) rfl)
theorem mf_X0_listsFull : ik_MF yX0_listsFull cX0_listsFull 1 (some .boolean) 0 := ⟨ik_in3 (List.mem_of_getElem? (i := 179) rfl), ik_in1 (List.mem_of_getElem? (i := 7) rfl), by decide +kernel, by decide +kernel, by decide +kernel⟩
theorem mv_X0_listsFull : ik_MV yX0_listsFull := ⟨ik_in3 (List.mem_of_getElem? (i := 177) rfl), ik_in3 (List.mem_of_getElem? (i := 178) rfl)⟩
theorem ml_X0_56 : Cond.methodLink RX0 56 yX0_listsFull ∈ lw_tbl := ik_in3 (List.mem_of_getElem? (i := 184) rfl)
theorem fl_X0_30 : ik_FL RX0 30 0 6 := ⟨RX0, TX0, 12, tyX0, rfl, by decide, inX0, tyX0_ok, nmX0, rfl, ik_in1 (List.mem_of_getElem? (i := 111) rfl)⟩
theorem fl_X0_33 : ik_FL RX0 33 0 7 := ⟨RX0, TX0, 12, tyX0, rfl, by decide, inX0, tyX0_ok, nmX0, rfl, ik_in1 (List.mem_of_getElem? (i := 112) rfl)⟩
theorem fl_X0_36 : ik_FL RX0 36 0 8 := ⟨RX0, TX0, 12, tyX0, rfl, by decide, inX0, tyX0_ok, nmX0, rfl, ik_in1 (List.mem_of_getElem? (i := 113) rfl)⟩
theorem fw_X0_46 : ik_FW RX0 46 0 11 0 := ⟨RX0, TX0, 12, tyX0, rfl, by decide, inX0, tyX0_ok, nmX0, rfl, ik_in1 (List.mem_of_getElem? (i := 116) rfl), rfl, rfl⟩
theorem ml_X11_162 : Cond.methodLink RX11 162 yX0_addListed ∈ lw_tbl := ik_in3 (List.mem_of_getElem? (i := 180) rfl)
theorem mf_X0_addListed : ik_MF yX0_addListed cX0_addListed 4 (none) 3 := ⟨ik_in3 (List.mem_of_getElem? (i := 183) rfl), ik_in1 (List.mem_of_getElem? (i := 7) rfl), by decide +kernel, by decide +kernel, by decide +kernel⟩
theorem mv_X0_addListed : ik_MV yX0_addListed := ⟨ik_in3 (List.mem_of_getElem? (i := 181) rfl), ik_in3 (List.mem_of_getElem? (i := 182) rfl)⟩
theorem ml_X11_165 : Cond.methodLink RX11 165 yX11_isHouse ∈ lw_tbl := ik_in3 (List.mem_of_getElem? (i := 189) rfl)
theorem mf_X11_isHouse : ik_MF yX11_isHouse cX11_isHouse 1 (some .boolean) 1 := ⟨ik_in3 (List.mem_of_getElem? (i := 191) rfl), ik_in1 (List.mem_of_getElem? (i := 1) rfl), by decide +kernel, by decide +kernel, by decide +kernel⟩
theorem ms_X11_isHouse : Cond.static yX11_isHouse ∈ lw_tbl := ik_in3 (List.mem_of_getElem? (i := 190) rfl)
theorem fl_X11_54 : ik_FL RX11 54 11 6 := ⟨RX11, TX11, 15, tyX11, rfl, by decide, inX11, tyX11_ok, nmX11, rfl, ik_in2 (List.mem_of_getElem? (i := 114) rfl)⟩
theorem fl_X3_19 : ik_FL RX3 19 3 3 := ⟨RX3, TX3, 4, tyX3, rfl, by decide, inX3, tyX3_ok, nmX3, rfl, ik_in1 (List.mem_of_getElem? (i := 234) rfl)⟩
theorem ml_X11_168 : Cond.methodLink RX11 168 yX3_full ∈ lw_tbl := ik_in3 (List.mem_of_getElem? (i := 192) rfl)
theorem mf_X3_full : ik_MF yX3_full cX3_full 1 (some .boolean) 0 := ⟨ik_in3 (List.mem_of_getElem? (i := 195) rfl), ik_in1 (List.mem_of_getElem? (i := 10) rfl), by decide +kernel, by decide +kernel, by decide +kernel⟩
theorem mv_X3_full : ik_MV yX3_full := ⟨ik_in3 (List.mem_of_getElem? (i := 193) rfl), ik_in3 (List.mem_of_getElem? (i := 194) rfl)⟩
theorem ml_X3_23 : Cond.methodLink RX3 23 yX3_full ∈ lw_tbl := ik_in3 (List.mem_of_getElem? (i := 200) rfl)
theorem fl_X3_9 : ik_FL RX3 9 3 0 := ⟨RX3, TX3, 4, tyX3, rfl, by decide, inX3, tyX3_ok, nmX3, rfl, ik_in1 (List.mem_of_getElem? (i := 231) rfl)⟩
theorem fl_X3_13 : ik_FL RX3 13 3 1 := ⟨RX3, TX3, 4, tyX3, rfl, by decide, inX3, tyX3_ok, nmX3, rfl, ik_in1 (List.mem_of_getElem? (i := 232) rfl)⟩
theorem fl_X3_16 : ik_FL RX3 16 3 2 := ⟨RX3, TX3, 4, tyX3, rfl, by decide, inX3, tyX3_ok, nmX3, rfl, ik_in1 (List.mem_of_getElem? (i := 233) rfl)⟩
theorem fw_X3_19 : ik_FW RX3 19 3 3 0 := ⟨RX3, TX3, 4, tyX3, rfl, by decide, inX3, tyX3_ok, nmX3, rfl, ik_in1 (List.mem_of_getElem? (i := 234) rfl), rfl, rfl⟩
theorem ml_X11_169 : Cond.methodLink RX11 169 yX3_add ∈ lw_tbl := ik_in3 (List.mem_of_getElem? (i := 196) rfl)
theorem mf_X3_add : ik_MF yX3_add cX3_add 4 (none) 3 := ⟨ik_in3 (List.mem_of_getElem? (i := 199) rfl), ik_in1 (List.mem_of_getElem? (i := 10) rfl), by decide +kernel, by decide +kernel, by decide +kernel⟩
theorem mv_X3_add : ik_MV yX3_add := ⟨ik_in3 (List.mem_of_getElem? (i := 197) rfl), ik_in3 (List.mem_of_getElem? (i := 198) rfl)⟩
theorem ml_X3_31 : Cond.methodLink RX3 31 yX6_wide ∈ lw_tbl := ik_in3 (List.mem_of_getElem? (i := 213) rfl)
theorem ml_X3_27 : Cond.methodLink RX3 27 yX3_bound ∈ lw_tbl := ik_in3 (List.mem_of_getElem? (i := 209) rfl)
theorem mf_X3_bound : ik_MF yX3_bound cX3_bound 10 (some .int) 4 := ⟨ik_in3 (List.mem_of_getElem? (i := 212) rfl), ik_in1 (List.mem_of_getElem? (i := 10) rfl), by decide +kernel, by decide +kernel, by decide +kernel⟩
theorem mv_X3_bound : ik_MV yX3_bound := ⟨ik_in3 (List.mem_of_getElem? (i := 211) rfl), ik_inS (List.mem_of_getElem? (i := 15) (by decide +kernel))⟩
theorem ml_X11_171 : Cond.methodLink RX11 171 yX3_least ∈ lw_tbl := ik_in3 (List.mem_of_getElem? (i := 205) rfl)
theorem mf_X3_least : ik_MF yX3_least cX3_least 4 (some .int) 3 := ⟨ik_in3 (List.mem_of_getElem? (i := 208) rfl), ik_in1 (List.mem_of_getElem? (i := 10) rfl), by decide +kernel, by decide +kernel, by decide +kernel⟩
theorem mv_X3_least : ik_MV yX3_least := ⟨ik_in3 (List.mem_of_getElem? (i := 206) rfl), ik_in3 (List.mem_of_getElem? (i := 207) rfl)⟩
theorem ml_X11_175 : Cond.methodLink RX11 175 yX3_greatest ∈ lw_tbl := ik_in3 (List.mem_of_getElem? (i := 214) rfl)
theorem mf_X3_greatest : ik_MF yX3_greatest cX3_greatest 4 (some .int) 3 := ⟨ik_in3 (List.mem_of_getElem? (i := 217) rfl), ik_in1 (List.mem_of_getElem? (i := 10) rfl), by decide +kernel, by decide +kernel, by decide +kernel⟩
theorem mv_X3_greatest : ik_MV yX3_greatest := ⟨ik_in3 (List.mem_of_getElem? (i := 215) rfl), ik_in3 (List.mem_of_getElem? (i := 216) rfl)⟩
theorem fw_X11_178 : ik_FW RX11 178 11 12 0 := ⟨RX11, TX11, 15, tyX11, rfl, by decide, inX11, tyX11_ok, nmX11, rfl, ik_in2 (List.mem_of_getElem? (i := 120) rfl), rfl, rfl⟩
theorem ml_X6_72 : Cond.methodLink RX6 72 yX10_letter ∈ lw_tbl := ik_in3 (List.mem_of_getElem? (i := 238) rfl)
theorem ml_X6_75 : Cond.methodLink RX6 75 yX6_first ∈ lw_tbl := ik_in3 (List.mem_of_getElem? (i := 234) rfl)
theorem mf_X6_first : ik_MF yX6_first cX6_first 2 (some .int) 1 := ⟨ik_in3 (List.mem_of_getElem? (i := 237) rfl), ik_in1 (List.mem_of_getElem? (i := 4) rfl), by decide +kernel, by decide +kernel, by decide +kernel⟩
theorem mv_X6_first : ik_MV yX6_first := ⟨ik_in3 (List.mem_of_getElem? (i := 235) rfl), ik_in3 (List.mem_of_getElem? (i := 236) rfl)⟩
theorem ml_X11_316 : Cond.methodLink RX11 316 yX6_vowel ∈ lw_tbl := ik_in3 (List.mem_of_getElem? (i := 230) rfl)
theorem mf_X6_vowel : ik_MF yX6_vowel cX6_vowel 3 (some .boolean) 1 := ⟨ik_in3 (List.mem_of_getElem? (i := 233) rfl), ik_in1 (List.mem_of_getElem? (i := 4) rfl), by decide +kernel, by decide +kernel, by decide +kernel⟩
theorem mv_X6_vowel : ik_MV yX6_vowel := ⟨ik_in3 (List.mem_of_getElem? (i := 231) rfl), ik_in3 (List.mem_of_getElem? (i := 232) rfl)⟩
theorem fl_X8_92 : ik_FL RX8 92 8 9 := ⟨RX8, TX8, 11, tyX8, rfl, by decide, inX8, tyX8_ok, nmX8, rfl, ik_in1 (List.mem_of_getElem? (i := 159) rfl)⟩
theorem ml_X8_98 : Cond.methodLinkNest RX8 98 yX11_bit "InkBars" ∈ lw_tbl := ik_in4 (List.mem_of_getElem? (i := 3) rfl)
theorem mf_X11_bit : ik_MF yX11_bit cX11_bit 2 (some .boolean) 2 := ⟨ik_in4 (List.mem_of_getElem? (i := 5) rfl), ik_in1 (List.mem_of_getElem? (i := 1) rfl), by decide +kernel, by decide +kernel, by decide +kernel⟩
theorem ms_X11_bit : Cond.static yX11_bit ∈ lw_tbl := ik_in4 (List.mem_of_getElem? (i := 4) rfl)
theorem ml_X11_319 : Cond.methodLink RX11 319 yX8_isBehindA ∈ lw_tbl := ik_in3 (List.mem_of_getElem? (i := 239) rfl)
theorem mf_X8_isBehindA : ik_MF yX8_isBehindA cX8_isBehindA 2 (some .boolean) 1 := ⟨ik_in4 (List.mem_of_getElem? (i := 2) rfl), ik_in1 (List.mem_of_getElem? (i := 8) rfl), by decide +kernel, by decide +kernel, by decide +kernel⟩
theorem mv_X8_isBehindA : ik_MV yX8_isBehindA := ⟨ik_in4 (List.mem_of_getElem? (i := 0) rfl), ik_in4 (List.mem_of_getElem? (i := 1) rfl)⟩
theorem fl_X8_95 : ik_FL RX8 95 8 10 := ⟨RX8, TX8, 11, tyX8, rfl, by decide, inX8, tyX8_ok, nmX8, rfl, ik_in1 (List.mem_of_getElem? (i := 160) rfl)⟩
theorem ml_X11_322 : Cond.methodLink RX11 322 yX8_isBehindAn ∈ lw_tbl := ik_in4 (List.mem_of_getElem? (i := 6) rfl)
theorem mf_X8_isBehindAn : ik_MF yX8_isBehindAn cX8_isBehindAn 2 (some .boolean) 1 := ⟨ik_in4 (List.mem_of_getElem? (i := 9) rfl), ik_in1 (List.mem_of_getElem? (i := 8) rfl), by decide +kernel, by decide +kernel, by decide +kernel⟩
theorem mv_X8_isBehindAn : ik_MV yX8_isBehindAn := ⟨ik_in4 (List.mem_of_getElem? (i := 7) rfl), ik_in4 (List.mem_of_getElem? (i := 8) rfl)⟩
theorem ml_X11_351 : Cond.methodLink RX11 351 yX7_tell ∈ lw_tbl := ik_in4 (List.mem_of_getElem? (i := 14) rfl)
theorem mf_X7_tell : ik_MF yX7_tell cX7_tell 4 (none) 2 := ⟨ik_in4 (List.mem_of_getElem? (i := 17) rfl), ik_in1 (List.mem_of_getElem? (i := 9) rfl), by decide +kernel, by decide +kernel, by decide +kernel⟩
theorem mv_X7_tell : ik_MV yX7_tell := ⟨ik_in4 (List.mem_of_getElem? (i := 15) rfl), ik_in4 (List.mem_of_getElem? (i := 16) rfl)⟩
theorem ml_X6_69 : Cond.methodLink RX6 69 yX10_length ∈ lw_tbl := ik_in4 (List.mem_of_getElem? (i := 22) rfl)
theorem ml_X11_355 : Cond.methodLink RX11 355 yX6_length ∈ lw_tbl := ik_in4 (List.mem_of_getElem? (i := 18) rfl)
theorem mf_X6_length : ik_MF yX6_length cX6_length 2 (some .int) 1 := ⟨ik_in4 (List.mem_of_getElem? (i := 21) rfl), ik_in1 (List.mem_of_getElem? (i := 4) rfl), by decide +kernel, by decide +kernel, by decide +kernel⟩
theorem mv_X6_length : ik_MV yX6_length := ⟨ik_in4 (List.mem_of_getElem? (i := 19) rfl), ik_in4 (List.mem_of_getElem? (i := 20) rfl)⟩
theorem ml_X6_78 : Cond.methodLink RX6 78 yX6_has ∈ lw_tbl := ik_in4 (List.mem_of_getElem? (i := 27) rfl)
theorem ml_X11_345 : Cond.methodLink RX11 345 yX6_sort ∈ lw_tbl := ik_in4 (List.mem_of_getElem? (i := 23) rfl)
theorem mf_X6_sort : ik_MF yX6_sort cX6_sort 2 (some .int) 1 := ⟨ik_in4 (List.mem_of_getElem? (i := 26) rfl), ik_in1 (List.mem_of_getElem? (i := 4) rfl), by decide +kernel, by decide +kernel, by decide +kernel⟩
theorem mv_X6_sort : ik_MV yX6_sort := ⟨ik_in4 (List.mem_of_getElem? (i := 24) rfl), ik_in4 (List.mem_of_getElem? (i := 25) rfl)⟩
theorem ml_X11_357 : Cond.methodLink RX11 357 yX6_from ∈ lw_tbl := ik_in4 (List.mem_of_getElem? (i := 28) rfl)
theorem mf_X6_from : ik_MF yX6_from cX6_from 2 (some .int) 1 := ⟨ik_in4 (List.mem_of_getElem? (i := 31) rfl), ik_in1 (List.mem_of_getElem? (i := 4) rfl), by decide +kernel, by decide +kernel, by decide +kernel⟩
theorem mv_X6_from : ik_MV yX6_from := ⟨ik_in4 (List.mem_of_getElem? (i := 29) rfl), ik_in4 (List.mem_of_getElem? (i := 30) rfl)⟩
theorem ml_X11_360 : Cond.methodLink RX11 360 yX6_to ∈ lw_tbl := ik_in4 (List.mem_of_getElem? (i := 32) rfl)
theorem mf_X6_to : ik_MF yX6_to cX6_to 2 (some .int) 1 := ⟨ik_in4 (List.mem_of_getElem? (i := 35) rfl), ik_in1 (List.mem_of_getElem? (i := 4) rfl), by decide +kernel, by decide +kernel, by decide +kernel⟩
theorem mv_X6_to : ik_MV yX6_to := ⟨ik_in4 (List.mem_of_getElem? (i := 33) rfl), ik_in4 (List.mem_of_getElem? (i := 34) rfl)⟩
theorem ml_X11_363 : Cond.methodLink RX11 363 yX6_first ∈ lw_tbl := ik_in4 (List.mem_of_getElem? (i := 36) rfl)
theorem ml_X0_59 : Cond.methodLink RX0 59 yX0_has ∈ lw_tbl := ik_in4 (List.mem_of_getElem? (i := 41) rfl)
theorem ml_X11_313 : Cond.methodLink RX11 313 yX0_ink ∈ lw_tbl := ik_in4 (List.mem_of_getElem? (i := 37) rfl)
theorem mf_X0_ink : ik_MF yX0_ink cX0_ink 2 (some .int) 1 := ⟨ik_in4 (List.mem_of_getElem? (i := 40) rfl), ik_in1 (List.mem_of_getElem? (i := 7) rfl), by decide +kernel, by decide +kernel, by decide +kernel⟩
theorem mv_X0_ink : ik_MV yX0_ink := ⟨ik_in4 (List.mem_of_getElem? (i := 38) rfl), ik_in4 (List.mem_of_getElem? (i := 39) rfl)⟩
theorem ml_X11_325 : Cond.methodLink RX11 325 yX11_tellFacts ∈ lw_tbl := ik_in4 (List.mem_of_getElem? (i := 10) rfl)
theorem mf_X11_tellFacts : ik_MF yX11_tellFacts cX11_tellFacts 4 (none) 3 := ⟨ik_in4 (List.mem_of_getElem? (i := 13) rfl), ik_in1 (List.mem_of_getElem? (i := 1) rfl), by decide +kernel, by decide +kernel, by decide +kernel⟩
theorem mv_X11_tellFacts : ik_MV yX11_tellFacts := ⟨ik_in4 (List.mem_of_getElem? (i := 12) rfl), ik_inS (List.mem_of_getElem? (i := 17) (by decide +kernel))⟩
theorem fl_X7_54 : ik_FL RX7 54 7 3 := ⟨RX7, TX7, 11, tyX7, rfl, by decide, inX7, tyX7_ok, nmX7, rfl, ik_in1 (List.mem_of_getElem? (i := 194) rfl)⟩
theorem ml_X11_329 : Cond.methodLink RX11 329 yX7_hold ∈ lw_tbl := ik_in4 (List.mem_of_getElem? (i := 42) rfl)
theorem mf_X7_hold : ik_MF yX7_hold cX7_hold 4 (some .boolean) 1 := ⟨ik_in4 (List.mem_of_getElem? (i := 45) rfl), ik_in1 (List.mem_of_getElem? (i := 9) rfl), by decide +kernel, by decide +kernel, by decide +kernel⟩
theorem mv_X7_hold : ik_MV yX7_hold := ⟨ik_in4 (List.mem_of_getElem? (i := 43) rfl), ik_in4 (List.mem_of_getElem? (i := 44) rfl)⟩
theorem ml_X0_66 : Cond.methodLink RX0 66 yX6_ahead ∈ lw_tbl := ik_in4 (List.mem_of_getElem? (i := 50) rfl)
theorem mf_X6_ahead : ik_MF yX6_ahead cX6_ahead 2 (some .int) 1 := ⟨ik_in4 (List.mem_of_getElem? (i := 53) rfl), ik_in1 (List.mem_of_getElem? (i := 4) rfl), by decide +kernel, by decide +kernel, by decide +kernel⟩
theorem mv_X6_ahead : ik_MV yX6_ahead := ⟨ik_in4 (List.mem_of_getElem? (i := 51) rfl), ik_in4 (List.mem_of_getElem? (i := 52) rfl)⟩
theorem ml_X0_72 : Cond.methodLinkNest RX0 72 yX11_bit "InkBars" ∈ lw_tbl := ik_in4 (List.mem_of_getElem? (i := 54) rfl)
theorem ml_X11_332 : Cond.methodLink RX11 332 yX0_inLists ∈ lw_tbl := ik_in4 (List.mem_of_getElem? (i := 46) rfl)
theorem mf_X0_inLists : ik_MF yX0_inLists cX0_inLists 7 (some .boolean) 3 := ⟨ik_in4 (List.mem_of_getElem? (i := 49) rfl), ik_in1 (List.mem_of_getElem? (i := 7) rfl), by decide +kernel, by decide +kernel, by decide +kernel⟩
theorem mv_X0_inLists : ik_MV yX0_inLists := ⟨ik_in4 (List.mem_of_getElem? (i := 47) rfl), ik_in4 (List.mem_of_getElem? (i := 48) rfl)⟩
theorem ml_X11_336 : Cond.methodLink RX11 336 yX0_year ∈ lw_tbl := ik_in4 (List.mem_of_getElem? (i := 55) rfl)
theorem mf_X0_year : ik_MF yX0_year cX0_year 2 (some .int) 1 := ⟨ik_in4 (List.mem_of_getElem? (i := 58) rfl), ik_in1 (List.mem_of_getElem? (i := 7) rfl), by decide +kernel, by decide +kernel, by decide +kernel⟩
theorem mv_X0_year : ik_MV yX0_year := ⟨ik_in4 (List.mem_of_getElem? (i := 56) rfl), ik_in4 (List.mem_of_getElem? (i := 57) rfl)⟩
theorem ml_X6_81 : Cond.methodLink RX6 81 yX6_from ∈ lw_tbl := ik_in4 (List.mem_of_getElem? (i := 63) rfl)
theorem ml_X6_84 : Cond.methodLink RX6 84 yX6_to ∈ lw_tbl := ik_in4 (List.mem_of_getElem? (i := 64) rfl)
theorem ml_X11_339 : Cond.methodLink RX11 339 yX6_lives ∈ lw_tbl := ik_in4 (List.mem_of_getElem? (i := 59) rfl)
theorem mf_X6_lives : ik_MF yX6_lives cX6_lives 3 (some .boolean) 2 := ⟨ik_in4 (List.mem_of_getElem? (i := 62) rfl), ik_in1 (List.mem_of_getElem? (i := 4) rfl), by decide +kernel, by decide +kernel, by decide +kernel⟩
theorem mv_X6_lives : ik_MV yX6_lives := ⟨ik_in4 (List.mem_of_getElem? (i := 60) rfl), ik_in4 (List.mem_of_getElem? (i := 61) rfl)⟩
theorem ml_X11_342 : Cond.methodLink RX11 342 yX0_sorts ∈ lw_tbl := ik_in4 (List.mem_of_getElem? (i := 65) rfl)
theorem mf_X0_sorts : ik_MF yX0_sorts cX0_sorts 2 (some .int) 1 := ⟨ik_in4 (List.mem_of_getElem? (i := 68) rfl), ik_in1 (List.mem_of_getElem? (i := 7) rfl), by decide +kernel, by decide +kernel, by decide +kernel⟩
theorem mv_X0_sorts : ik_MV yX0_sorts := ⟨ik_in4 (List.mem_of_getElem? (i := 66) rfl), ik_in4 (List.mem_of_getElem? (i := 67) rfl)⟩
theorem ml_X11_348 : Cond.methodLink RX11 348 yX11_bit ∈ lw_tbl := ik_in4 (List.mem_of_getElem? (i := 69) rfl)
theorem ml_X11_182 : Cond.methodLink RX11 182 yX11_reasonsButInk ∈ lw_tbl := ik_in3 (List.mem_of_getElem? (i := 226) rfl)
theorem mf_X11_reasonsButInk : ik_MF yX11_reasonsButInk cX11_reasonsButInk 6 (some .int) 2 := ⟨ik_in3 (List.mem_of_getElem? (i := 229) rfl), ik_in1 (List.mem_of_getElem? (i := 1) rfl), by decide +kernel, by decide +kernel, by decide +kernel⟩
theorem mv_X11_reasonsButInk : ik_MV yX11_reasonsButInk := ⟨ik_in3 (List.mem_of_getElem? (i := 228) rfl), ik_inS (List.mem_of_getElem? (i := 16) (by decide +kernel))⟩
theorem fl_X11_178 : ik_FL RX11 178 11 12 := ⟨RX11, TX11, 15, tyX11, rfl, by decide, inX11, tyX11_ok, nmX11, rfl, ik_in2 (List.mem_of_getElem? (i := 120) rfl)⟩
theorem ml_X11_186 : Cond.methodLink RX11 186 yX11_inkReason ∈ lw_tbl := ik_in4 (List.mem_of_getElem? (i := 70) rfl)
theorem mf_X11_inkReason : ik_MF yX11_inkReason cX11_inkReason 5 (some .int) 2 := ⟨ik_in4 (List.mem_of_getElem? (i := 73) rfl), ik_in1 (List.mem_of_getElem? (i := 1) rfl), by decide +kernel, by decide +kernel, by decide +kernel⟩
theorem mv_X11_inkReason : ik_MV yX11_inkReason := ⟨ik_in4 (List.mem_of_getElem? (i := 72) rfl), ik_inS (List.mem_of_getElem? (i := 18) (by decide +kernel))⟩
theorem fl_X11_76 : ik_FL RX11 76 11 10 := ⟨RX11, TX11, 15, tyX11, rfl, by decide, inX11, tyX11_ok, nmX11, rfl, ik_in2 (List.mem_of_getElem? (i := 118) rfl)⟩
theorem fl_X11_79 : ik_FL RX11 79 11 11 := ⟨RX11, TX11, 15, tyX11, rfl, by decide, inX11, tyX11_ok, nmX11, rfl, ik_in2 (List.mem_of_getElem? (i := 119) rfl)⟩
theorem ml_X11_189 : Cond.methodLink RX11 189 yX11_lay ∈ lw_tbl := ik_in4 (List.mem_of_getElem? (i := 78) rfl)
theorem mf_X11_lay : ik_MF yX11_lay cX11_lay 5 (some .boolean) 1 := ⟨ik_in4 (List.mem_of_getElem? (i := 81) rfl), ik_in1 (List.mem_of_getElem? (i := 1) rfl), by decide +kernel, by decide +kernel, by decide +kernel⟩
theorem mv_X11_lay : ik_MV yX11_lay := ⟨ik_in4 (List.mem_of_getElem? (i := 80) rfl), ik_inS (List.mem_of_getElem? (i := 19) (by decide +kernel))⟩
theorem ml_X11_295 : Cond.methodLink RX11 295 yX0_ties ∈ lw_tbl := ik_in4 (List.mem_of_getElem? (i := 86) rfl)
theorem mf_X0_ties : ik_MF yX0_ties cX0_ties 1 (some .int) 0 := ⟨ik_in4 (List.mem_of_getElem? (i := 89) rfl), ik_in1 (List.mem_of_getElem? (i := 7) rfl), by decide +kernel, by decide +kernel, by decide +kernel⟩
theorem mv_X0_ties : ik_MV yX0_ties := ⟨ik_in4 (List.mem_of_getElem? (i := 87) rfl), ik_in4 (List.mem_of_getElem? (i := 88) rfl)⟩
theorem ml_X0_63 : Cond.methodLink RX0 63 yX0_tied ∈ lw_tbl := ik_in4 (List.mem_of_getElem? (i := 94) rfl)
theorem mf_X0_tied : ik_MF yX0_tied cX0_tied 2 (some .boolean) 1 := ⟨ik_in4 (List.mem_of_getElem? (i := 97) rfl), ik_in1 (List.mem_of_getElem? (i := 7) rfl), by decide +kernel, by decide +kernel, by decide +kernel⟩
theorem mv_X0_tied : ik_MV yX0_tied := ⟨ik_in4 (List.mem_of_getElem? (i := 96) rfl), ik_inS (List.mem_of_getElem? (i := 21) (by decide +kernel))⟩
theorem ml_X11_366 : Cond.methodLink RX11 366 yX0_tieFirst ∈ lw_tbl := ik_in4 (List.mem_of_getElem? (i := 90) rfl)
theorem mf_X0_tieFirst : ik_MF yX0_tieFirst cX0_tieFirst 2 (some .int) 1 := ⟨ik_in4 (List.mem_of_getElem? (i := 93) rfl), ik_in1 (List.mem_of_getElem? (i := 7) rfl), by decide +kernel, by decide +kernel, by decide +kernel⟩
theorem mv_X0_tieFirst : ik_MV yX0_tieFirst := ⟨ik_in4 (List.mem_of_getElem? (i := 91) rfl), ik_in4 (List.mem_of_getElem? (i := 92) rfl)⟩
theorem ml_X11_369 : Cond.methodLink RX11 369 yX0_tieSecond ∈ lw_tbl := ik_in4 (List.mem_of_getElem? (i := 98) rfl)
theorem mf_X0_tieSecond : ik_MF yX0_tieSecond cX0_tieSecond 2 (some .int) 1 := ⟨ik_in4 (List.mem_of_getElem? (i := 101) rfl), ik_in1 (List.mem_of_getElem? (i := 7) rfl), by decide +kernel, by decide +kernel, by decide +kernel⟩
theorem mv_X0_tieSecond : ik_MV yX0_tieSecond := ⟨ik_in4 (List.mem_of_getElem? (i := 99) rfl), ik_in4 (List.mem_of_getElem? (i := 100) rfl)⟩
theorem ml_X11_372 : Cond.methodLink RX11 372 yX0_tieSort ∈ lw_tbl := ik_in4 (List.mem_of_getElem? (i := 102) rfl)
theorem mf_X0_tieSort : ik_MF yX0_tieSort cX0_tieSort 2 (some .int) 1 := ⟨ik_in4 (List.mem_of_getElem? (i := 105) rfl), ik_in1 (List.mem_of_getElem? (i := 7) rfl), by decide +kernel, by decide +kernel, by decide +kernel⟩
theorem mv_X0_tieSort : ik_MV yX0_tieSort := ⟨ik_in4 (List.mem_of_getElem? (i := 103) rfl), ik_in4 (List.mem_of_getElem? (i := 104) rfl)⟩
theorem ml_X6_87 : Cond.methodLink RX6 87 yX6_ahead ∈ lw_tbl := ik_in4 (List.mem_of_getElem? (i := 110) rfl)
theorem ml_X11_375 : Cond.methodLink RX11 375 yX6_mates ∈ lw_tbl := ik_in4 (List.mem_of_getElem? (i := 106) rfl)
theorem mf_X6_mates : ik_MF yX6_mates cX6_mates 5 (some .int) 3 := ⟨ik_in4 (List.mem_of_getElem? (i := 109) rfl), ik_in1 (List.mem_of_getElem? (i := 4) rfl), by decide +kernel, by decide +kernel, by decide +kernel⟩
theorem mv_X6_mates : ik_MV yX6_mates := ⟨ik_in4 (List.mem_of_getElem? (i := 107) rfl), ik_in4 (List.mem_of_getElem? (i := 108) rfl)⟩
theorem ml_X11_192 : Cond.methodLink RX11 192 yX11_tiesReason ∈ lw_tbl := ik_in4 (List.mem_of_getElem? (i := 82) rfl)
theorem mf_X11_tiesReason : ik_MF yX11_tiesReason cX11_tiesReason 4 (some .int) 0 := ⟨ik_in4 (List.mem_of_getElem? (i := 85) rfl), ik_in1 (List.mem_of_getElem? (i := 1) rfl), by decide +kernel, by decide +kernel, by decide +kernel⟩
theorem mv_X11_tiesReason : ik_MV yX11_tiesReason := ⟨ik_in4 (List.mem_of_getElem? (i := 84) rfl), ik_inS (List.mem_of_getElem? (i := 20) (by decide +kernel))⟩
theorem ml_X11_294 : Cond.methodLink RX11 294 yX8_count ∈ lw_tbl := ik_in4 (List.mem_of_getElem? (i := 115) rfl)
theorem mf_X8_count : ik_MF yX8_count cX8_count 1 (some .int) 0 := ⟨ik_in4 (List.mem_of_getElem? (i := 118) rfl), ik_in1 (List.mem_of_getElem? (i := 8) rfl), by decide +kernel, by decide +kernel, by decide +kernel⟩
theorem mv_X8_count : ik_MV yX8_count := ⟨ik_in4 (List.mem_of_getElem? (i := 116) rfl), ik_in4 (List.mem_of_getElem? (i := 117) rfl)⟩
theorem ml_X8_104 : Cond.methodLink RX8 104 yX8_tokens ∈ lw_tbl := ik_in4 (List.mem_of_getElem? (i := 123) rfl)
theorem mf_X8_tokens : ik_MF yX8_tokens cX8_tokens 2 (some .int) 1 := ⟨ik_in4 (List.mem_of_getElem? (i := 126) rfl), ik_in1 (List.mem_of_getElem? (i := 8) rfl), by decide +kernel, by decide +kernel, by decide +kernel⟩
theorem mv_X8_tokens : ik_MV yX8_tokens := ⟨ik_in4 (List.mem_of_getElem? (i := 124) rfl), ik_in4 (List.mem_of_getElem? (i := 125) rfl)⟩
theorem ml_X8_109 : Cond.methodLink RX8 109 yX10_wide ∈ lw_tbl := ik_in4 (List.mem_of_getElem? (i := 131) rfl)
theorem ml_X8_115 : Cond.methodLink RX8 115 yX8_wordWide ∈ lw_tbl := ik_in4 (List.mem_of_getElem? (i := 127) rfl)
theorem mf_X8_wordWide : ik_MF yX8_wordWide cX8_wordWide 4 (some .int) 3 := ⟨ik_in4 (List.mem_of_getElem? (i := 130) rfl), ik_in1 (List.mem_of_getElem? (i := 8) rfl), by decide +kernel, by decide +kernel, by decide +kernel⟩
theorem mv_X8_wordWide : ik_MV yX8_wordWide := ⟨ik_in4 (List.mem_of_getElem? (i := 128) rfl), ik_in4 (List.mem_of_getElem? (i := 129) rfl)⟩
theorem ml_X8_119 : Cond.methodLink RX8 119 yX4_wideOf ∈ lw_tbl := ik_in4 (List.mem_of_getElem? (i := 132) rfl)
theorem fl_X8_28 : ik_FL RX8 28 8 3 := ⟨RX8, TX8, 11, tyX8, rfl, by decide, inX8, tyX8_ok, nmX8, rfl, ik_in1 (List.mem_of_getElem? (i := 153) rfl)⟩
theorem ml_X8_124 : Cond.methodLink RX8 124 yX8_wide ∈ lw_tbl := ik_in4 (List.mem_of_getElem? (i := 133) rfl)
theorem mf_X8_wide : ik_MF yX8_wide cX8_wide 2 (some .int) 1 := ⟨ik_in4 (List.mem_of_getElem? (i := 136) rfl), ik_in1 (List.mem_of_getElem? (i := 8) rfl), by decide +kernel, by decide +kernel, by decide +kernel⟩
theorem mv_X8_wide : ik_MV yX8_wide := ⟨ik_in4 (List.mem_of_getElem? (i := 134) rfl), ik_in4 (List.mem_of_getElem? (i := 135) rfl)⟩
theorem ml_X11_199 : Cond.methodLink RX11 199 yX8_set ∈ lw_tbl := ik_in4 (List.mem_of_getElem? (i := 119) rfl)
theorem mf_X8_set : ik_MF yX8_set cX8_set 9 (none) 3 := ⟨ik_in4 (List.mem_of_getElem? (i := 122) rfl), ik_in1 (List.mem_of_getElem? (i := 8) rfl), by decide +kernel, by decide +kernel, by decide +kernel⟩
theorem mv_X8_set : ik_MV yX8_set := ⟨ik_in4 (List.mem_of_getElem? (i := 120) rfl), ik_in4 (List.mem_of_getElem? (i := 121) rfl)⟩
theorem ml_X8_113 : Cond.methodLink RX8 113 yX8_begins ∈ lw_tbl := ik_in4 (List.mem_of_getElem? (i := 141) rfl)
theorem mf_X8_begins : ik_MF yX8_begins cX8_begins 3 (some .boolean) 2 := ⟨ik_in4 (List.mem_of_getElem? (i := 144) rfl), ik_in1 (List.mem_of_getElem? (i := 8) rfl), by decide +kernel, by decide +kernel, by decide +kernel⟩
theorem mv_X8_begins : ik_MV yX8_begins := ⟨ik_in4 (List.mem_of_getElem? (i := 142) rfl), ik_in4 (List.mem_of_getElem? (i := 143) rfl)⟩
theorem ml_X11_379 : Cond.methodLink RX11 379 yX8_breaksOtherwise ∈ lw_tbl := ik_in4 (List.mem_of_getElem? (i := 137) rfl)
theorem mf_X8_breaksOtherwise : ik_MF yX8_breaksOtherwise cX8_breaksOtherwise 3 (some .boolean) 1 := ⟨ik_in4 (List.mem_of_getElem? (i := 140) rfl), ik_in1 (List.mem_of_getElem? (i := 8) rfl), by decide +kernel, by decide +kernel, by decide +kernel⟩
theorem mv_X8_breaksOtherwise : ik_MV yX8_breaksOtherwise := ⟨ik_in4 (List.mem_of_getElem? (i := 138) rfl), ik_in4 (List.mem_of_getElem? (i := 139) rfl)⟩
theorem ml_X11_195 : Cond.methodLink RX11 195 yX11_linesReason ∈ lw_tbl := ik_in4 (List.mem_of_getElem? (i := 111) rfl)
theorem mf_X11_linesReason : ik_MF yX11_linesReason cX11_linesReason 2 (some .int) 0 := ⟨ik_in4 (List.mem_of_getElem? (i := 114) rfl), ik_in1 (List.mem_of_getElem? (i := 1) rfl), by decide +kernel, by decide +kernel, by decide +kernel⟩
theorem mv_X11_linesReason : ik_MV yX11_linesReason := ⟨ik_in4 (List.mem_of_getElem? (i := 113) rfl), ik_inS (List.mem_of_getElem? (i := 22) (by decide +kernel))⟩
theorem ml_X11_198 : Cond.methodLink RX11 198 yX8_has ∈ lw_tbl := ik_in4 (List.mem_of_getElem? (i := 149) rfl)
theorem ml_X11_203 : Cond.methodLink RX11 203 yX8_setLine ∈ lw_tbl := ik_in4 (List.mem_of_getElem? (i := 150) rfl)
theorem mf_X8_setLine : ik_MF yX8_setLine cX8_setLine 5 (some .int) 2 := ⟨ik_in4 (List.mem_of_getElem? (i := 153) rfl), ik_in1 (List.mem_of_getElem? (i := 8) rfl), by decide +kernel, by decide +kernel, by decide +kernel⟩
theorem mv_X8_setLine : ik_MV yX8_setLine := ⟨ik_in4 (List.mem_of_getElem? (i := 151) rfl), ik_in4 (List.mem_of_getElem? (i := 152) rfl)⟩
theorem fl_X11_309 : ik_FL RX11 309 11 13 := ⟨RX11, TX11, 15, tyX11, rfl, by decide, inX11, tyX11_ok, nmX11, rfl, ik_in2 (List.mem_of_getElem? (i := 121) rfl)⟩
theorem fl_X11_68 : ik_FL RX11 68 11 8 := ⟨RX11, TX11, 15, tyX11, rfl, by decide, inX11, tyX11_ok, nmX11, rfl, ik_in2 (List.mem_of_getElem? (i := 116) rfl)⟩
theorem ml_X11_293 : Cond.methodLink RX11 293 yX6_count ∈ lw_tbl := ik_in4 (List.mem_of_getElem? (i := 166) rfl)
theorem mf_X6_count : ik_MF yX6_count cX6_count 1 (some .int) 0 := ⟨ik_in4 (List.mem_of_getElem? (i := 169) rfl), ik_in1 (List.mem_of_getElem? (i := 4) rfl), by decide +kernel, by decide +kernel, by decide +kernel⟩
theorem mv_X6_count : ik_MV yX6_count := ⟨ik_in4 (List.mem_of_getElem? (i := 167) rfl), ik_in4 (List.mem_of_getElem? (i := 168) rfl)⟩
theorem ml_X2_44 : Cond.methodLink RX2 44 yJ9_max_7cf53 ∈ lw_tbl := ik_in4 (List.mem_of_getElem? (i := 174) rfl)
theorem mf_J9_max_7cf53 : ik_MF yJ9_max_7cf53 cJ9_max_7cf53 2 (some .int) 2 := ⟨ik_in1 (List.mem_of_getElem? (i := 66) rfl), ik_in1 (List.mem_of_getElem? (i := 6) rfl), by decide +kernel, by decide +kernel, by decide +kernel⟩
theorem ms_J9_max_7cf53 : Cond.static yJ9_max_7cf53 ∈ lw_tbl := ik_in1 (List.mem_of_getElem? (i := 65) rfl)
theorem ml_X2_50 : Cond.methodLink RX2 50 yJ9_min_7cf53 ∈ lw_tbl := ik_in4 (List.mem_of_getElem? (i := 175) rfl)
theorem mf_J9_min_7cf53 : ik_MF yJ9_min_7cf53 cJ9_min_7cf53 2 (some .int) 2 := ⟨ik_in4 (List.mem_of_getElem? (i := 177) rfl), ik_in1 (List.mem_of_getElem? (i := 6) rfl), by decide +kernel, by decide +kernel, by decide +kernel⟩
theorem ms_J9_min_7cf53 : Cond.static yJ9_min_7cf53 ∈ lw_tbl := ik_in4 (List.mem_of_getElem? (i := 176) rfl)
theorem fw_X2_53 : ik_FW RX2 53 2 9 0 := ⟨RX2, TX2, 14, tyX2, rfl, by decide, inX2, tyX2_ok, nmX2, rfl, ik_in2 (List.mem_of_getElem? (i := 73) rfl), rfl, rfl⟩
theorem fw_X2_57 : ik_FW RX2 57 2 10 0 := ⟨RX2, TX2, 14, tyX2, rfl, by decide, inX2, tyX2_ok, nmX2, rfl, ik_in2 (List.mem_of_getElem? (i := 74) rfl), rfl, rfl⟩
theorem fl_X2_22 : ik_FL RX2 22 2 2 := ⟨RX2, TX2, 14, tyX2, rfl, by decide, inX2, tyX2_ok, nmX2, rfl, ik_in2 (List.mem_of_getElem? (i := 66) rfl)⟩
theorem ml_X11_382 : Cond.methodLink RX11 382 yX2_begin ∈ lw_tbl := ik_in4 (List.mem_of_getElem? (i := 170) rfl)
theorem mf_X2_begin : ik_MF yX2_begin cX2_begin 4 (none) 2 := ⟨ik_in4 (List.mem_of_getElem? (i := 173) rfl), ik_in1 (List.mem_of_getElem? (i := 12) rfl), by decide +kernel, by decide +kernel, by decide +kernel⟩
theorem mv_X2_begin : ik_MV yX2_begin := ⟨ik_in4 (List.mem_of_getElem? (i := 171) rfl), ik_in4 (List.mem_of_getElem? (i := 172) rfl)⟩
theorem ml_X11_385 : Cond.methodLink RX11 385 yX6_weight ∈ lw_tbl := ik_in4 (List.mem_of_getElem? (i := 178) rfl)
theorem mf_X6_weight : ik_MF yX6_weight cX6_weight 2 (some .int) 1 := ⟨ik_in4 (List.mem_of_getElem? (i := 181) rfl), ik_in1 (List.mem_of_getElem? (i := 4) rfl), by decide +kernel, by decide +kernel, by decide +kernel⟩
theorem mv_X6_weight : ik_MV yX6_weight := ⟨ik_in4 (List.mem_of_getElem? (i := 179) rfl), ik_in4 (List.mem_of_getElem? (i := 180) rfl)⟩
theorem ml_X2_60 : Cond.methodLink RX2 60 yX2_isName ∈ lw_tbl := ik_in4 (List.mem_of_getElem? (i := 186) rfl)
theorem mf_X2_isName : ik_MF yX2_isName cX2_isName 1 (some .boolean) 1 := ⟨ik_in4 (List.mem_of_getElem? (i := 188) rfl), ik_in1 (List.mem_of_getElem? (i := 12) rfl), by decide +kernel, by decide +kernel, by decide +kernel⟩
theorem ms_X2_isName : Cond.static yX2_isName ∈ lw_tbl := ik_in4 (List.mem_of_getElem? (i := 187) rfl)
theorem fl_X2_25 : ik_FL RX2 25 2 3 := ⟨RX2, TX2, 14, tyX2, rfl, by decide, inX2, tyX2_ok, nmX2, rfl, ik_in2 (List.mem_of_getElem? (i := 67) rfl)⟩
theorem fl_X2_28 : ik_FL RX2 28 2 4 := ⟨RX2, TX2, 14, tyX2, rfl, by decide, inX2, tyX2_ok, nmX2, rfl, ik_in2 (List.mem_of_getElem? (i := 68) rfl)⟩
theorem ml_X11_388 : Cond.methodLink RX11 388 yX2_setName ∈ lw_tbl := ik_in4 (List.mem_of_getElem? (i := 182) rfl)
theorem mf_X2_setName : ik_MF yX2_setName cX2_setName 4 (none) 3 := ⟨ik_in4 (List.mem_of_getElem? (i := 185) rfl), ik_in1 (List.mem_of_getElem? (i := 12) rfl), by decide +kernel, by decide +kernel, by decide +kernel⟩
theorem mv_X2_setName : ik_MV yX2_setName := ⟨ik_in4 (List.mem_of_getElem? (i := 183) rfl), ik_in4 (List.mem_of_getElem? (i := 184) rfl)⟩
theorem ml_X2_64 : Cond.methodLink RX2 64 yX2_isBar ∈ lw_tbl := ik_in4 (List.mem_of_getElem? (i := 193) rfl)
theorem mf_X2_isBar : ik_MF yX2_isBar cX2_isBar 1 (some .boolean) 1 := ⟨ik_in4 (List.mem_of_getElem? (i := 195) rfl), ik_in1 (List.mem_of_getElem? (i := 12) rfl), by decide +kernel, by decide +kernel, by decide +kernel⟩
theorem ms_X2_isBar : Cond.static yX2_isBar ∈ lw_tbl := ik_in4 (List.mem_of_getElem? (i := 194) rfl)
theorem ml_X2_67 : Cond.methodLink RX2 67 yX2_pairPlace ∈ lw_tbl := ik_in4 (List.mem_of_getElem? (i := 196) rfl)
theorem mf_X2_pairPlace : ik_MF yX2_pairPlace cX2_pairPlace 3 (some .int) 3 := ⟨ik_in4 (List.mem_of_getElem? (i := 198) rfl), ik_in1 (List.mem_of_getElem? (i := 12) rfl), by decide +kernel, by decide +kernel, by decide +kernel⟩
theorem ms_X2_pairPlace : Cond.static yX2_pairPlace ∈ lw_tbl := ik_in4 (List.mem_of_getElem? (i := 197) rfl)
theorem ml_X11_391 : Cond.methodLink RX11 391 yX2_pair ∈ lw_tbl := ik_in4 (List.mem_of_getElem? (i := 189) rfl)
theorem mf_X2_pair : ik_MF yX2_pair cX2_pair 5 (none) 4 := ⟨ik_in4 (List.mem_of_getElem? (i := 192) rfl), ik_in1 (List.mem_of_getElem? (i := 12) rfl), by decide +kernel, by decide +kernel, by decide +kernel⟩
theorem mv_X2_pair : ik_MV yX2_pair := ⟨ik_in4 (List.mem_of_getElem? (i := 190) rfl), ik_in4 (List.mem_of_getElem? (i := 191) rfl)⟩
theorem fl_X11_395 : ik_FL RX11 395 2 0 := ⟨RX2, TX2, 14, tyX2, rfl, by decide, inX2, tyX2_ok, nmX2, rfl, ik_in2 (List.mem_of_getElem? (i := 64) rfl)⟩
theorem fw_X5_28 : ik_FW RX5 28 5 5 3 := ⟨RX5, TX5, 8, tyX5, rfl, by decide, inX5, tyX5_ok, nmX5, rfl, ik_in2 (List.mem_of_getElem? (i := 43) rfl), rfl, rfl⟩
theorem fl_X5_9 : ik_FL RX5 9 5 0 := ⟨RX5, TX5, 8, tyX5, rfl, by decide, inX5, tyX5_ok, nmX5, rfl, ik_in2 (List.mem_of_getElem? (i := 38) rfl)⟩
theorem ml_X5_39 : Cond.methodLink RX5 39 yX8_count ∈ lw_tbl := ik_in4 (List.mem_of_getElem? (i := 203) rfl)
theorem ml_X5_49 : Cond.methodLink RX5 49 yX8_tokens ∈ lw_tbl := ik_in4 (List.mem_of_getElem? (i := 208) rfl)
theorem ml_X5_53 : Cond.methodLink RX5 53 yX8_barAt ∈ lw_tbl := ik_in4 (List.mem_of_getElem? (i := 209) rfl)
theorem ml_X5_57 : Cond.methodLink RX5 57 yX8_wordWide ∈ lw_tbl := ik_in4 (List.mem_of_getElem? (i := 210) rfl)
theorem ml_X5_61 : Cond.methodLink RX5 61 yX4_wideOf ∈ lw_tbl := ik_in4 (List.mem_of_getElem? (i := 211) rfl)
theorem fl_X5_25 : ik_FL RX5 25 5 4 := ⟨RX5, TX5, 8, tyX5, rfl, by decide, inX5, tyX5_ok, nmX5, rfl, ik_in2 (List.mem_of_getElem? (i := 42) rfl)⟩
theorem ml_X5_66 : Cond.methodLink RX5 66 yX5_stand ∈ lw_tbl := ik_in4 (List.mem_of_getElem? (i := 212) rfl)
theorem mf_X5_stand : ik_MF yX5_stand cX5_stand 4 (none) 2 := ⟨ik_in4 (List.mem_of_getElem? (i := 215) rfl), ik_in1 (List.mem_of_getElem? (i := 13) rfl), by decide +kernel, by decide +kernel, by decide +kernel⟩
theorem mv_X5_stand : ik_MV yX5_stand := ⟨ik_in4 (List.mem_of_getElem? (i := 214) rfl), ik_inS (List.mem_of_getElem? (i := 26) (by decide +kernel))⟩
theorem ml_X5_70 : Cond.methodLink RX5 70 yX8_wide ∈ lw_tbl := ik_in4 (List.mem_of_getElem? (i := 216) rfl)
theorem ml_X5_73 : Cond.methodLink RX5 73 yX8_begins ∈ lw_tbl := ik_in4 (List.mem_of_getElem? (i := 217) rfl)
theorem fl_X5_28 : ik_FL RX5 28 5 5 := ⟨RX5, TX5, 8, tyX5, rfl, by decide, inX5, tyX5_ok, nmX5, rfl, ik_in2 (List.mem_of_getElem? (i := 43) rfl)⟩
theorem fl_X5_18 : ik_FL RX5 18 5 2 := ⟨RX5, TX5, 8, tyX5, rfl, by decide, inX5, tyX5_ok, nmX5, rfl, ik_in2 (List.mem_of_getElem? (i := 40) rfl)⟩
theorem fl_X5_22 : ik_FL RX5 22 5 3 := ⟨RX5, TX5, 8, tyX5, rfl, by decide, inX5, tyX5_ok, nmX5, rfl, ik_in2 (List.mem_of_getElem? (i := 41) rfl)⟩
theorem ml_X5_80 : Cond.methodLink RX5 80 yX5_asksOfTheSame ∈ lw_tbl := ik_in4 (List.mem_of_getElem? (i := 222) rfl)
theorem mf_X5_asksOfTheSame : ik_MF yX5_asksOfTheSame cX5_asksOfTheSame 3 (some .boolean) 1 := ⟨ik_in4 (List.mem_of_getElem? (i := 225) rfl), ik_in1 (List.mem_of_getElem? (i := 13) rfl), by decide +kernel, by decide +kernel, by decide +kernel⟩
theorem mv_X5_asksOfTheSame : ik_MV yX5_asksOfTheSame := ⟨ik_in4 (List.mem_of_getElem? (i := 224) rfl), ik_inS (List.mem_of_getElem? (i := 28) (by decide +kernel))⟩
theorem fl_X5_15 : ik_FL RX5 15 5 1 := ⟨RX5, TX5, 8, tyX5, rfl, by decide, inX5, tyX5_ok, nmX5, rfl, ik_in2 (List.mem_of_getElem? (i := 39) rfl)⟩
theorem ml_X5_84 : Cond.methodLink RX5 84 yJ9_max_7cf53 ∈ lw_tbl := ik_in4 (List.mem_of_getElem? (i := 226) rfl)
theorem ml_X5_89 : Cond.methodLink RX5 89 yJ9_min_7cf53 ∈ lw_tbl := ik_in4 (List.mem_of_getElem? (i := 227) rfl)
theorem ml_X5_92 : Cond.methodLink RX5 92 yX5_put ∈ lw_tbl := ik_in4 (List.mem_of_getElem? (i := 228) rfl)
theorem mf_X5_put : ik_MF yX5_put cX5_put 5 (none) 3 := ⟨ik_in4 (List.mem_of_getElem? (i := 231) rfl), ik_in1 (List.mem_of_getElem? (i := 13) rfl), by decide +kernel, by decide +kernel, by decide +kernel⟩
theorem mv_X5_put : ik_MV yX5_put := ⟨ik_in4 (List.mem_of_getElem? (i := 230) rfl), ik_inS (List.mem_of_getElem? (i := 29) (by decide +kernel))⟩
theorem ml_X5_77 : Cond.methodLink RX5 77 yX5_add ∈ lw_tbl := ik_in4 (List.mem_of_getElem? (i := 218) rfl)
theorem mf_X5_add : ik_MF yX5_add cX5_add 6 (none) 2 := ⟨ik_in4 (List.mem_of_getElem? (i := 221) rfl), ik_in1 (List.mem_of_getElem? (i := 13) rfl), by decide +kernel, by decide +kernel, by decide +kernel⟩
theorem mv_X5_add : ik_MV yX5_add := ⟨ik_in4 (List.mem_of_getElem? (i := 220) rfl), ik_inS (List.mem_of_getElem? (i := 27) (by decide +kernel))⟩
theorem ml_X5_45 : Cond.methodLink RX5 45 yX5_readSheet ∈ lw_tbl := ik_in4 (List.mem_of_getElem? (i := 204) rfl)
theorem mf_X5_readSheet : ik_MF yX5_readSheet cX5_readSheet 8 (none) 3 := ⟨ik_in4 (List.mem_of_getElem? (i := 207) rfl), ik_in1 (List.mem_of_getElem? (i := 13) rfl), by decide +kernel, by decide +kernel, by decide +kernel⟩
theorem mv_X5_readSheet : ik_MV yX5_readSheet := ⟨ik_in4 (List.mem_of_getElem? (i := 206) rfl), ik_inS (List.mem_of_getElem? (i := 25) (by decide +kernel))⟩
theorem ml_X11_398 : Cond.methodLink RX11 398 yX5_read ∈ lw_tbl := ik_in4 (List.mem_of_getElem? (i := 199) rfl)
theorem mf_X5_read : ik_MF yX5_read cX5_read 4 (none) 2 := ⟨ik_in4 (List.mem_of_getElem? (i := 202) rfl), ik_in1 (List.mem_of_getElem? (i := 13) rfl), by decide +kernel, by decide +kernel, by decide +kernel⟩
theorem mv_X5_read : ik_MV yX5_read := ⟨ik_in4 (List.mem_of_getElem? (i := 200) rfl), ik_in4 (List.mem_of_getElem? (i := 201) rfl)⟩
theorem fl_X11_72 : ik_FL RX11 72 11 9 := ⟨RX11, TX11, 15, tyX11, rfl, by decide, inX11, tyX11_ok, nmX11, rfl, ik_in2 (List.mem_of_getElem? (i := 117) rfl)⟩
theorem fw_X11_403 : ik_FW RX11 403 11 14 3 := ⟨RX11, TX11, 15, tyX11, rfl, by decide, inX11, tyX11_ok, nmX11, rfl, ik_in2 (List.mem_of_getElem? (i := 122) rfl), rfl, rfl⟩
theorem ml_X11_225 : Cond.methodLink RX11 225 yX11_prepare ∈ lw_tbl := ik_in4 (List.mem_of_getElem? (i := 162) rfl)
theorem mf_X11_prepare : ik_MF yX11_prepare cX11_prepare 5 (none) 0 := ⟨ik_in4 (List.mem_of_getElem? (i := 165) rfl), ik_in1 (List.mem_of_getElem? (i := 1) rfl), by decide +kernel, by decide +kernel, by decide +kernel⟩
theorem mv_X11_prepare : ik_MV yX11_prepare := ⟨ik_in4 (List.mem_of_getElem? (i := 164) rfl), ik_inS (List.mem_of_getElem? (i := 24) (by decide +kernel))⟩
theorem ml_X11_406 : Cond.methodLink RX11 406 yX2_wide ∈ lw_tbl := ik_in4 (List.mem_of_getElem? (i := 236) rfl)
theorem mf_X2_wide : ik_MF yX2_wide cX2_wide 2 (some .int) 1 := ⟨ik_in4 (List.mem_of_getElem? (i := 239) rfl), ik_in1 (List.mem_of_getElem? (i := 12) rfl), by decide +kernel, by decide +kernel, by decide +kernel⟩
theorem mv_X2_wide : ik_MV yX2_wide := ⟨ik_in4 (List.mem_of_getElem? (i := 237) rfl), ik_in4 (List.mem_of_getElem? (i := 238) rfl)⟩
theorem fl_X2_18 : ik_FL RX2 18 2 1 := ⟨RX2, TX2, 14, tyX2, rfl, by decide, inX2, tyX2_ok, nmX2, rfl, ik_in2 (List.mem_of_getElem? (i := 65) rfl)⟩
theorem ml_X11_408 : Cond.methodLink RX11 408 yX2_setFits ∈ lw_tbl := ik_in5 (List.mem_of_getElem? (i := 0) rfl)
theorem mf_X2_setFits : ik_MF yX2_setFits cX2_setFits 3 (none) 2 := ⟨ik_in5 (List.mem_of_getElem? (i := 3) rfl), ik_in1 (List.mem_of_getElem? (i := 12) rfl), by decide +kernel, by decide +kernel, by decide +kernel⟩
theorem mv_X2_setFits : ik_MV yX2_setFits := ⟨ik_in5 (List.mem_of_getElem? (i := 1) rfl), ik_in5 (List.mem_of_getElem? (i := 2) rfl)⟩
theorem fw_X2_71 : ik_FW RX2 71 2 11 3 := ⟨RX2, TX2, 14, tyX2, rfl, by decide, inX2, tyX2_ok, nmX2, rfl, ik_in2 (List.mem_of_getElem? (i := 75) rfl), rfl, rfl⟩
theorem fw_X2_75 : ik_FW RX2 75 2 12 3 := ⟨RX2, TX2, 14, tyX2, rfl, by decide, inX2, tyX2_ok, nmX2, rfl, ik_in2 (List.mem_of_getElem? (i := 76) rfl), rfl, rfl⟩
theorem ml_X11_411 : Cond.methodLink RX11 411 yX2_heed ∈ lw_tbl := ik_in5 (List.mem_of_getElem? (i := 4) rfl)
theorem mf_X2_heed : ik_MF yX2_heed cX2_heed 3 (none) 2 := ⟨ik_in5 (List.mem_of_getElem? (i := 7) rfl), ik_in1 (List.mem_of_getElem? (i := 12) rfl), by decide +kernel, by decide +kernel, by decide +kernel⟩
theorem mv_X2_heed : ik_MV yX2_heed := ⟨ik_in5 (List.mem_of_getElem? (i := 5) rfl), ik_in5 (List.mem_of_getElem? (i := 6) rfl)⟩
theorem ml_X11_415 : Cond.methodLink RX11 415 yX11_fit ∈ lw_tbl := ik_in4 (List.mem_of_getElem? (i := 232) rfl)
theorem mf_X11_fit : ik_MF yX11_fit cX11_fit 9 (none) 3 := ⟨ik_in4 (List.mem_of_getElem? (i := 235) rfl), ik_in1 (List.mem_of_getElem? (i := 1) rfl), by decide +kernel, by decide +kernel, by decide +kernel⟩
theorem mv_X11_fit : ik_MV yX11_fit := ⟨ik_in4 (List.mem_of_getElem? (i := 234) rfl), ik_inS (List.mem_of_getElem? (i := 30) (by decide +kernel))⟩
theorem fl_X2_53 : ik_FL RX2 53 2 9 := ⟨RX2, TX2, 14, tyX2, rfl, by decide, inX2, tyX2_ok, nmX2, rfl, ik_in2 (List.mem_of_getElem? (i := 73) rfl)⟩
theorem fl_X2_75 : ik_FL RX2 75 2 12 := ⟨RX2, TX2, 14, tyX2, rfl, by decide, inX2, tyX2_ok, nmX2, rfl, ik_in2 (List.mem_of_getElem? (i := 76) rfl)⟩
theorem fl_X2_12 : ik_FL RX2 12 2 0 := ⟨RX2, TX2, 14, tyX2, rfl, by decide, inX2, tyX2_ok, nmX2, rfl, ik_in2 (List.mem_of_getElem? (i := 63) rfl)⟩
theorem ml_X2_78 : Cond.methodLink RX2 78 yX5_broken ∈ lw_tbl := ik_in5 (List.mem_of_getElem? (i := 16) rfl)
theorem mf_X5_broken : ik_MF yX5_broken cX5_broken 1 (some .boolean) 0 := ⟨ik_in5 (List.mem_of_getElem? (i := 19) rfl), ik_in1 (List.mem_of_getElem? (i := 13) rfl), by decide +kernel, by decide +kernel, by decide +kernel⟩
theorem mv_X5_broken : ik_MV yX5_broken := ⟨ik_in5 (List.mem_of_getElem? (i := 17) rfl), ik_in5 (List.mem_of_getElem? (i := 18) rfl)⟩
theorem ml_X2_82 : Cond.methodLink RX2 82 yX2_hopeful ∈ lw_tbl := ik_in5 (List.mem_of_getElem? (i := 12) rfl)
theorem mf_X2_hopeful : ik_MF yX2_hopeful cX2_hopeful 1 (some .boolean) 0 := ⟨ik_in5 (List.mem_of_getElem? (i := 15) rfl), ik_in1 (List.mem_of_getElem? (i := 12) rfl), by decide +kernel, by decide +kernel, by decide +kernel⟩
theorem mv_X2_hopeful : ik_MV yX2_hopeful := ⟨ik_in5 (List.mem_of_getElem? (i := 14) rfl), ik_inS (List.mem_of_getElem? (i := 31) (by decide +kernel))⟩
theorem fl_X2_71 : ik_FL RX2 71 2 11 := ⟨RX2, TX2, 14, tyX2, rfl, by decide, inX2, tyX2_ok, nmX2, rfl, ik_in2 (List.mem_of_getElem? (i := 75) rfl)⟩
theorem fl_X2_31 : ik_FL RX2 31 2 5 := ⟨RX2, TX2, 14, tyX2, rfl, by decide, inX2, tyX2_ok, nmX2, rfl, ik_in2 (List.mem_of_getElem? (i := 69) rfl)⟩
theorem ml_X2_108 : Cond.methodLink RX2 108 yX2_mates ∈ lw_tbl := ik_in5 (List.mem_of_getElem? (i := 28) rfl)
theorem mf_X2_mates : ik_MF yX2_mates cX2_mates 4 (some .int) 3 := ⟨ik_in5 (List.mem_of_getElem? (i := 31) rfl), ik_in1 (List.mem_of_getElem? (i := 12) rfl), by decide +kernel, by decide +kernel, by decide +kernel⟩
theorem mv_X2_mates : ik_MV yX2_mates := ⟨ik_in5 (List.mem_of_getElem? (i := 30) rfl), ik_inS (List.mem_of_getElem? (i := 34) (by decide +kernel))⟩
theorem ml_X2_111 : Cond.methodLink RX2 111 yX5_heeds ∈ lw_tbl := ik_in5 (List.mem_of_getElem? (i := 32) rfl)
theorem mf_X5_heeds : ik_MF yX5_heeds cX5_heeds 2 (some .boolean) 1 := ⟨ik_in5 (List.mem_of_getElem? (i := 35) rfl), ik_in1 (List.mem_of_getElem? (i := 13) rfl), by decide +kernel, by decide +kernel, by decide +kernel⟩
theorem mv_X5_heeds : ik_MV yX5_heeds := ⟨ik_in5 (List.mem_of_getElem? (i := 33) rfl), ik_in5 (List.mem_of_getElem? (i := 34) rfl)⟩
theorem fl_X2_34 : ik_FL RX2 34 2 6 := ⟨RX2, TX2, 14, tyX2, rfl, by decide, inX2, tyX2_ok, nmX2, rfl, ik_in2 (List.mem_of_getElem? (i := 70) rfl)⟩
theorem kc_X5_96 : Cond.constant RX5 96 (-1000000) ∈ lw_tbl := ik_in5 (List.mem_of_getElem? (i := 40) rfl)
theorem fw_X5_32 : ik_FW RX5 32 5 6 0 := ⟨RX5, TX5, 8, tyX5, rfl, by decide, inX5, tyX5_ok, nmX5, rfl, ik_in2 (List.mem_of_getElem? (i := 44) rfl), rfl, rfl⟩
theorem kc_X5_97 : Cond.constant RX5 97 (1000000) ∈ lw_tbl := ik_in5 (List.mem_of_getElem? (i := 41) rfl)
theorem fw_X5_36 : ik_FW RX5 36 5 7 0 := ⟨RX5, TX5, 8, tyX5, rfl, by decide, inX5, tyX5_ok, nmX5, rfl, ik_in2 (List.mem_of_getElem? (i := 45) rfl), rfl, rfl⟩
theorem ml_X5_98 : Cond.methodLink RX5 98 yX5_heeds ∈ lw_tbl := ik_in5 (List.mem_of_getElem? (i := 42) rfl)
theorem ml_X5_101 : Cond.methodLink RX5 101 yJ9_floorDiv_7cf53 ∈ lw_tbl := ik_in5 (List.mem_of_getElem? (i := 43) rfl)
theorem mf_J9_floorDiv_7cf53 : ik_MF yJ9_floorDiv_7cf53 cJ9_floorDiv_7cf53 3 (some .int) 2 := ⟨ik_in5 (List.mem_of_getElem? (i := 45) rfl), ik_in1 (List.mem_of_getElem? (i := 6) rfl), by decide +kernel, by decide +kernel, by decide +kernel⟩
theorem ms_J9_floorDiv_7cf53 : Cond.static yJ9_floorDiv_7cf53 ∈ lw_tbl := ik_in5 (List.mem_of_getElem? (i := 44) rfl)
theorem fl_X5_32 : ik_FL RX5 32 5 6 := ⟨RX5, TX5, 8, tyX5, rfl, by decide, inX5, tyX5_ok, nmX5, rfl, ik_in2 (List.mem_of_getElem? (i := 44) rfl)⟩
theorem fl_X5_36 : ik_FL RX5 36 5 7 := ⟨RX5, TX5, 8, tyX5, rfl, by decide, inX5, tyX5_ok, nmX5, rfl, ik_in2 (List.mem_of_getElem? (i := 45) rfl)⟩
theorem ml_X2_114 : Cond.methodLink RX2 114 yX5_narrow ∈ lw_tbl := ik_in5 (List.mem_of_getElem? (i := 36) rfl)
theorem mf_X5_narrow : ik_MF yX5_narrow cX5_narrow 8 (none) 2 := ⟨ik_in5 (List.mem_of_getElem? (i := 39) rfl), ik_in1 (List.mem_of_getElem? (i := 13) rfl), by decide +kernel, by decide +kernel, by decide +kernel⟩
theorem mv_X5_narrow : ik_MV yX5_narrow := ⟨ik_in5 (List.mem_of_getElem? (i := 37) rfl), ik_in5 (List.mem_of_getElem? (i := 38) rfl)⟩
theorem fl_X2_57 : ik_FL RX2 57 2 10 := ⟨RX2, TX2, 14, tyX2, rfl, by decide, inX2, tyX2_ok, nmX2, rfl, ik_in2 (List.mem_of_getElem? (i := 74) rfl)⟩
theorem ml_X2_118 : Cond.methodLink RX2 118 yX5_least ∈ lw_tbl := ik_in5 (List.mem_of_getElem? (i := 46) rfl)
theorem mf_X5_least : ik_MF yX5_least cX5_least 1 (some .int) 0 := ⟨ik_in5 (List.mem_of_getElem? (i := 49) rfl), ik_in1 (List.mem_of_getElem? (i := 13) rfl), by decide +kernel, by decide +kernel, by decide +kernel⟩
theorem mv_X5_least : ik_MV yX5_least := ⟨ik_in5 (List.mem_of_getElem? (i := 47) rfl), ik_in5 (List.mem_of_getElem? (i := 48) rfl)⟩
theorem ml_X2_122 : Cond.methodLink RX2 122 yX5_greatest ∈ lw_tbl := ik_in5 (List.mem_of_getElem? (i := 50) rfl)
theorem mf_X5_greatest : ik_MF yX5_greatest cX5_greatest 1 (some .int) 0 := ⟨ik_in5 (List.mem_of_getElem? (i := 53) rfl), ik_in1 (List.mem_of_getElem? (i := 13) rfl), by decide +kernel, by decide +kernel, by decide +kernel⟩
theorem mv_X5_greatest : ik_MV yX5_greatest := ⟨ik_in5 (List.mem_of_getElem? (i := 51) rfl), ik_in5 (List.mem_of_getElem? (i := 52) rfl)⟩
theorem ml_X2_125 : Cond.methodLink RX2 125 yX2_candidates ∈ lw_tbl := ik_in5 (List.mem_of_getElem? (i := 24) rfl)
theorem mf_X2_candidates : ik_MF yX2_candidates cX2_candidates 4 (some .int) 1 := ⟨ik_in5 (List.mem_of_getElem? (i := 27) rfl), ik_in1 (List.mem_of_getElem? (i := 12) rfl), by decide +kernel, by decide +kernel, by decide +kernel⟩
theorem mv_X2_candidates : ik_MV yX2_candidates := ⟨ik_in5 (List.mem_of_getElem? (i := 26) rfl), ik_inS (List.mem_of_getElem? (i := 33) (by decide +kernel))⟩
theorem kc_J6_265 : Cond.constant RJ6 265 (1431655765) ∈ lw_tbl := ik_in5 (List.mem_of_getElem? (i := 57) rfl)
theorem kc_J6_266 : Cond.constant RJ6 266 (858993459) ∈ lw_tbl := ik_in5 (List.mem_of_getElem? (i := 58) rfl)
theorem kc_J6_267 : Cond.constant RJ6 267 (252645135) ∈ lw_tbl := ik_in5 (List.mem_of_getElem? (i := 59) rfl)
theorem ml_X2_92 : Cond.methodLink RX2 92 yJ6_bitCount_0f7a4 ∈ lw_tbl := ik_in5 (List.mem_of_getElem? (i := 54) rfl)
theorem mf_J6_bitCount_0f7a4 : ik_MF yJ6_bitCount_0f7a4 cJ6_bitCount_0f7a4 1 (some .int) 1 := ⟨ik_in5 (List.mem_of_getElem? (i := 56) rfl), ik_in1 (List.mem_of_getElem? (i := 16) rfl), by decide +kernel, by decide +kernel, by decide +kernel⟩
theorem ms_J6_bitCount_0f7a4 : Cond.static yJ6_bitCount_0f7a4 ∈ lw_tbl := ik_in5 (List.mem_of_getElem? (i := 55) rfl)
theorem ml_X2_128 : Cond.methodLinkNest RX2 128 yX11_bit "InkBars" ∈ lw_tbl := ik_in5 (List.mem_of_getElem? (i := 60) rfl)
theorem ml_X2_135 : Cond.methodLink RX2 135 yX2_put ∈ lw_tbl := ik_in5 (List.mem_of_getElem? (i := 65) rfl)
theorem mf_X2_put : ik_MF yX2_put cX2_put 3 (none) 2 := ⟨ik_in5 (List.mem_of_getElem? (i := 68) rfl), ik_in1 (List.mem_of_getElem? (i := 12) rfl), by decide +kernel, by decide +kernel, by decide +kernel⟩
theorem mv_X2_put : ik_MV yX2_put := ⟨ik_in5 (List.mem_of_getElem? (i := 67) rfl), ik_inS (List.mem_of_getElem? (i := 36) (by decide +kernel))⟩
theorem ml_X2_85 : Cond.methodLink RX2 85 yX2_countFrom ∈ lw_tbl := ik_in5 (List.mem_of_getElem? (i := 20) rfl)
theorem mf_X2_countFrom : ik_MF yX2_countFrom cX2_countFrom 5 (some .int) 1 := ⟨ik_in5 (List.mem_of_getElem? (i := 23) rfl), ik_in1 (List.mem_of_getElem? (i := 12) rfl), by decide +kernel, by decide +kernel, by decide +kernel⟩
theorem mv_X2_countFrom : ik_MV yX2_countFrom := ⟨ik_in5 (List.mem_of_getElem? (i := 22) rfl), ik_inS (List.mem_of_getElem? (i := 32) (by decide +kernel))⟩
theorem ml_X2_132 : Cond.methodLink RX2 132 yX2_countBehind ∈ lw_tbl := ik_in5 (List.mem_of_getElem? (i := 61) rfl)
theorem mf_X2_countBehind : ik_MF yX2_countBehind cX2_countBehind 3 (some .int) 2 := ⟨ik_in5 (List.mem_of_getElem? (i := 64) rfl), ik_in1 (List.mem_of_getElem? (i := 12) rfl), by decide +kernel, by decide +kernel, by decide +kernel⟩
theorem mv_X2_countBehind : ik_MV yX2_countBehind := ⟨ik_in5 (List.mem_of_getElem? (i := 63) rfl), ik_inS (List.mem_of_getElem? (i := 35) (by decide +kernel))⟩
theorem ml_X11_418 : Cond.methodLink RX11 418 yX2_number ∈ lw_tbl := ik_in5 (List.mem_of_getElem? (i := 8) rfl)
theorem mf_X2_number : ik_MF yX2_number cX2_number 1 (some .int) 0 := ⟨ik_in5 (List.mem_of_getElem? (i := 11) rfl), ik_in1 (List.mem_of_getElem? (i := 12) rfl), by decide +kernel, by decide +kernel, by decide +kernel⟩
theorem mv_X2_number : ik_MV yX2_number := ⟨ik_in5 (List.mem_of_getElem? (i := 9) rfl), ik_in5 (List.mem_of_getElem? (i := 10) rfl)⟩
theorem ml_X11_206 : Cond.methodLink RX11 206 yX11_countWithout ∈ lw_tbl := ik_in4 (List.mem_of_getElem? (i := 158) rfl)
theorem mf_X11_countWithout : ik_MF yX11_countWithout cX11_countWithout 2 (some .int) 1 := ⟨ik_in4 (List.mem_of_getElem? (i := 161) rfl), ik_in1 (List.mem_of_getElem? (i := 1) rfl), by decide +kernel, by decide +kernel, by decide +kernel⟩
theorem mv_X11_countWithout : ik_MV yX11_countWithout := ⟨ik_in4 (List.mem_of_getElem? (i := 160) rfl), ik_inS (List.mem_of_getElem? (i := 23) (by decide +kernel))⟩
theorem fl_X11_403 : ik_FL RX11 403 11 14 := ⟨RX11, TX11, 15, tyX11, rfl, by decide, inX11, tyX11_ok, nmX11, rfl, ik_in2 (List.mem_of_getElem? (i := 122) rfl)⟩
theorem fl_X2_40 : ik_FL RX2 40 2 8 := ⟨RX2, TX2, 14, tyX2, rfl, by decide, inX2, tyX2_ok, nmX2, rfl, ik_in2 (List.mem_of_getElem? (i := 72) rfl)⟩
theorem ml_X2_97 : Cond.methodLink RX2 97 yX2_weighFrom ∈ lw_tbl := ik_in5 (List.mem_of_getElem? (i := 81) rfl)
theorem mf_X2_weighFrom : ik_MF yX2_weighFrom cX2_weighFrom 10 (some .long) 2 := ⟨ik_in5 (List.mem_of_getElem? (i := 84) rfl), ik_in1 (List.mem_of_getElem? (i := 12) rfl), by decide +kernel, by decide +kernel, by decide +kernel⟩
theorem mv_X2_weighFrom : ik_MV yX2_weighFrom := ⟨ik_in5 (List.mem_of_getElem? (i := 83) rfl), ik_inS (List.mem_of_getElem? (i := 38) (by decide +kernel))⟩
theorem ml_X2_142 : Cond.methodLink RX2 142 yX2_weighBehind ∈ lw_tbl := ik_in5 (List.mem_of_getElem? (i := 85) rfl)
theorem mf_X2_weighBehind : ik_MF yX2_weighBehind cX2_weighBehind 5 (some .long) 3 := ⟨ik_in5 (List.mem_of_getElem? (i := 88) rfl), ik_in1 (List.mem_of_getElem? (i := 12) rfl), by decide +kernel, by decide +kernel, by decide +kernel⟩
theorem mv_X2_weighBehind : ik_MV yX2_weighBehind := ⟨ik_in5 (List.mem_of_getElem? (i := 87) rfl), ik_inS (List.mem_of_getElem? (i := 39) (by decide +kernel))⟩
theorem fw_X2_101 : ik_FW RX2 101 2 13 1 := ⟨RX2, TX2, 14, tyX2, rfl, by decide, inX2, tyX2_ok, nmX2, rfl, ik_in2 (List.mem_of_getElem? (i := 77) rfl), rfl, rfl⟩
theorem ml_X11_421 : Cond.methodLink RX11 421 yX2_weighAll ∈ lw_tbl := ik_in5 (List.mem_of_getElem? (i := 77) rfl)
theorem mf_X2_weighAll : ik_MF yX2_weighAll cX2_weighAll 2 (none) 0 := ⟨ik_in5 (List.mem_of_getElem? (i := 80) rfl), ik_in1 (List.mem_of_getElem? (i := 12) rfl), by decide +kernel, by decide +kernel, by decide +kernel⟩
theorem mv_X2_weighAll : ik_MV yX2_weighAll := ⟨ik_in5 (List.mem_of_getElem? (i := 78) rfl), ik_in5 (List.mem_of_getElem? (i := 79) rfl)⟩
theorem ml_X11_209 : Cond.methodLink RX11 209 yX11_weigh ∈ lw_tbl := ik_in5 (List.mem_of_getElem? (i := 73) rfl)
theorem mf_X11_weigh : ik_MF yX11_weigh cX11_weigh 1 (none) 0 := ⟨ik_in5 (List.mem_of_getElem? (i := 76) rfl), ik_in1 (List.mem_of_getElem? (i := 1) rfl), by decide +kernel, by decide +kernel, by decide +kernel⟩
theorem mv_X11_weigh : ik_MV yX11_weigh := ⟨ik_in5 (List.mem_of_getElem? (i := 75) rfl), ik_inS (List.mem_of_getElem? (i := 37) (by decide +kernel))⟩
theorem ml_X2_105 : Cond.methodLink RX2 105 yX2_odds ∈ lw_tbl := ik_in5 (List.mem_of_getElem? (i := 93) rfl)
theorem mf_X2_odds : ik_MF yX2_odds cX2_odds 3 (some .long) 2 := ⟨ik_in5 (List.mem_of_getElem? (i := 96) rfl), ik_in1 (List.mem_of_getElem? (i := 12) rfl), by decide +kernel, by decide +kernel, by decide +kernel⟩
theorem mv_X2_odds : ik_MV yX2_odds := ⟨ik_in5 (List.mem_of_getElem? (i := 94) rfl), ik_in5 (List.mem_of_getElem? (i := 95) rfl)⟩
theorem ml_X11_212 : Cond.methodLink RX11 212 yX2_may ∈ lw_tbl := ik_in5 (List.mem_of_getElem? (i := 89) rfl)
theorem mf_X2_may : ik_MF yX2_may cX2_may 4 (some .int) 1 := ⟨ik_in5 (List.mem_of_getElem? (i := 92) rfl), ik_in1 (List.mem_of_getElem? (i := 12) rfl), by decide +kernel, by decide +kernel, by decide +kernel⟩
theorem mv_X2_may : ik_MV yX2_may := ⟨ik_in5 (List.mem_of_getElem? (i := 90) rfl), ik_in5 (List.mem_of_getElem? (i := 91) rfl)⟩
theorem kc_X11_215 : Cond.constantLong RX11 215 (-1) ∈ lw_tbl := ik_in5 (List.mem_of_getElem? (i := 101) rfl)
theorem fl_X2_101 : ik_FL RX2 101 2 13 := ⟨RX2, TX2, 14, tyX2, rfl, by decide, inX2, tyX2_ok, nmX2, rfl, ik_in2 (List.mem_of_getElem? (i := 77) rfl)⟩
theorem ml_X11_217 : Cond.methodLink RX11 217 yX2_all ∈ lw_tbl := ik_in5 (List.mem_of_getElem? (i := 102) rfl)
theorem mf_X2_all : ik_MF yX2_all cX2_all 1 (some .long) 0 := ⟨ik_in5 (List.mem_of_getElem? (i := 105) rfl), ik_in1 (List.mem_of_getElem? (i := 12) rfl), by decide +kernel, by decide +kernel, by decide +kernel⟩
theorem mv_X2_all : ik_MV yX2_all := ⟨ik_in5 (List.mem_of_getElem? (i := 103) rfl), ik_in5 (List.mem_of_getElem? (i := 104) rfl)⟩
theorem ml_X11_221 : Cond.methodLink RX11 221 yX2_odds ∈ lw_tbl := ik_in5 (List.mem_of_getElem? (i := 106) rfl)
theorem fl_X2_37 : ik_FL RX2 37 2 7 := ⟨RX2, TX2, 14, tyX2, rfl, by decide, inX2, tyX2_ok, nmX2, rfl, ik_in2 (List.mem_of_getElem? (i := 71) rfl)⟩
theorem ml_X2_89 : Cond.methodLink RX2 89 yX2_reachFrom ∈ lw_tbl := ik_in5 (List.mem_of_getElem? (i := 123) rfl)
theorem mf_X2_reachFrom : ik_MF yX2_reachFrom cX2_reachFrom 4 (some .boolean) 1 := ⟨ik_in5 (List.mem_of_getElem? (i := 126) rfl), ik_in1 (List.mem_of_getElem? (i := 12) rfl), by decide +kernel, by decide +kernel, by decide +kernel⟩
theorem mv_X2_reachFrom : ik_MV yX2_reachFrom := ⟨ik_in5 (List.mem_of_getElem? (i := 125) rfl), ik_inS (List.mem_of_getElem? (i := 41) (by decide +kernel))⟩
theorem ml_X2_139 : Cond.methodLink RX2 139 yX2_reachBehind ∈ lw_tbl := ik_in5 (List.mem_of_getElem? (i := 127) rfl)
theorem mf_X2_reachBehind : ik_MF yX2_reachBehind cX2_reachBehind 3 (some .boolean) 2 := ⟨ik_in5 (List.mem_of_getElem? (i := 130) rfl), ik_in1 (List.mem_of_getElem? (i := 12) rfl), by decide +kernel, by decide +kernel, by decide +kernel⟩
theorem mv_X2_reachBehind : ik_MV yX2_reachBehind := ⟨ik_in5 (List.mem_of_getElem? (i := 129) rfl), ik_inS (List.mem_of_getElem? (i := 42) (by decide +kernel))⟩
theorem ml_X11_424 : Cond.methodLink RX11 424 yX2_fewest ∈ lw_tbl := ik_in5 (List.mem_of_getElem? (i := 119) rfl)
theorem mf_X2_fewest : ik_MF yX2_fewest cX2_fewest 3 (some .int) 0 := ⟨ik_in5 (List.mem_of_getElem? (i := 122) rfl), ik_in1 (List.mem_of_getElem? (i := 12) rfl), by decide +kernel, by decide +kernel, by decide +kernel⟩
theorem mv_X2_fewest : ik_MV yX2_fewest := ⟨ik_in5 (List.mem_of_getElem? (i := 120) rfl), ik_in5 (List.mem_of_getElem? (i := 121) rfl)⟩
theorem ml_X11_228 : Cond.methodLink RX11 228 yX11_keeps ∈ lw_tbl := ik_in5 (List.mem_of_getElem? (i := 115) rfl)
theorem mf_X11_keeps : ik_MF yX11_keeps cX11_keeps 3 (some .boolean) 2 := ⟨ik_in5 (List.mem_of_getElem? (i := 118) rfl), ik_in1 (List.mem_of_getElem? (i := 1) rfl), by decide +kernel, by decide +kernel, by decide +kernel⟩
theorem mv_X11_keeps : ik_MV yX11_keeps := ⟨ik_in5 (List.mem_of_getElem? (i := 117) rfl), ik_inS (List.mem_of_getElem? (i := 40) (by decide +kernel))⟩
theorem ml_X11_232 : Cond.methodLink RX11 232 yX2_likeliest ∈ lw_tbl := ik_in5 (List.mem_of_getElem? (i := 135) rfl)
theorem mf_X2_likeliest : ik_MF yX2_likeliest cX2_likeliest 4 (some .int) 1 := ⟨ik_in5 (List.mem_of_getElem? (i := 138) rfl), ik_in1 (List.mem_of_getElem? (i := 12) rfl), by decide +kernel, by decide +kernel, by decide +kernel⟩
theorem mv_X2_likeliest : ik_MV yX2_likeliest := ⟨ik_in5 (List.mem_of_getElem? (i := 136) rfl), ik_in5 (List.mem_of_getElem? (i := 137) rfl)⟩
theorem ml_X11_235 : Cond.methodLink RX11 235 yJ6_bitCount_0f7a4 ∈ lw_tbl := ik_in5 (List.mem_of_getElem? (i := 139) rfl)
theorem kc_X11_240 : Cond.constantLong RX11 240 (1000) ∈ lw_tbl := ik_in5 (List.mem_of_getElem? (i := 140) rfl)
theorem ml_X6_90 : Cond.methodLinkNest RX6 90 yX11_bit "InkBars" ∈ lw_tbl := ik_in5 (List.mem_of_getElem? (i := 145) rfl)
theorem ml_X11_242 : Cond.methodLink RX11 242 yX6_oneSort ∈ lw_tbl := ik_in5 (List.mem_of_getElem? (i := 141) rfl)
theorem mf_X6_oneSort : ik_MF yX6_oneSort cX6_oneSort 4 (some .int) 1 := ⟨ik_in5 (List.mem_of_getElem? (i := 144) rfl), ik_in1 (List.mem_of_getElem? (i := 4) rfl), by decide +kernel, by decide +kernel, by decide +kernel⟩
theorem mv_X6_oneSort : ik_MV yX6_oneSort := ⟨ik_in5 (List.mem_of_getElem? (i := 142) rfl), ik_in5 (List.mem_of_getElem? (i := 143) rfl)⟩
theorem ml_X11_245 : Cond.methodLink RX11 245 yX11_isDay ∈ lw_tbl := ik_in5 (List.mem_of_getElem? (i := 150) rfl)
theorem mf_X11_isDay : ik_MF yX11_isDay cX11_isDay 1 (some .boolean) 1 := ⟨ik_in5 (List.mem_of_getElem? (i := 152) rfl), ik_in1 (List.mem_of_getElem? (i := 1) rfl), by decide +kernel, by decide +kernel, by decide +kernel⟩
theorem ms_X11_isDay : Cond.static yX11_isDay ∈ lw_tbl := ik_in5 (List.mem_of_getElem? (i := 151) rfl)
theorem fl_X11_61 : ik_FL RX11 61 11 7 := ⟨RX11, TX11, 15, tyX11, rfl, by decide, inX11, tyX11_ok, nmX11, rfl, ik_in2 (List.mem_of_getElem? (i := 115) rfl)⟩
theorem fl_X1_24 : ik_FL RX1 24 1 4 := ⟨RX1, TX1, 5, tyX1, rfl, by decide, inX1, tyX1_ok, nmX1, rfl, ik_in2 (List.mem_of_getElem? (i := 14) rfl)⟩
theorem ml_X11_248 : Cond.methodLink RX11 248 yX1_full ∈ lw_tbl := ik_in5 (List.mem_of_getElem? (i := 153) rfl)
theorem mf_X1_full : ik_MF yX1_full cX1_full 1 (some .boolean) 0 := ⟨ik_in5 (List.mem_of_getElem? (i := 156) rfl), ik_in1 (List.mem_of_getElem? (i := 11) rfl), by decide +kernel, by decide +kernel, by decide +kernel⟩
theorem mv_X1_full : ik_MV yX1_full := ⟨ik_in5 (List.mem_of_getElem? (i := 154) rfl), ik_in5 (List.mem_of_getElem? (i := 155) rfl)⟩
theorem ml_X11_249 : Cond.methodLink RX11 249 yX8_allTokens ∈ lw_tbl := ik_in5 (List.mem_of_getElem? (i := 157) rfl)
theorem mf_X8_allTokens : ik_MF yX8_allTokens cX8_allTokens 2 (some .int) 1 := ⟨ik_in5 (List.mem_of_getElem? (i := 160) rfl), ik_in1 (List.mem_of_getElem? (i := 8) rfl), by decide +kernel, by decide +kernel, by decide +kernel⟩
theorem mv_X8_allTokens : ik_MV yX8_allTokens := ⟨ik_in5 (List.mem_of_getElem? (i := 158) rfl), ik_in5 (List.mem_of_getElem? (i := 159) rfl)⟩
theorem ml_X1_28 : Cond.methodLink RX1 28 yX1_full ∈ lw_tbl := ik_in5 (List.mem_of_getElem? (i := 165) rfl)
theorem fl_X1_11 : ik_FL RX1 11 1 0 := ⟨RX1, TX1, 5, tyX1, rfl, by decide, inX1, tyX1_ok, nmX1, rfl, ik_in2 (List.mem_of_getElem? (i := 10) rfl)⟩
theorem fl_X1_15 : ik_FL RX1 15 1 1 := ⟨RX1, TX1, 5, tyX1, rfl, by decide, inX1, tyX1_ok, nmX1, rfl, ik_in2 (List.mem_of_getElem? (i := 11) rfl)⟩
theorem fl_X1_18 : ik_FL RX1 18 1 2 := ⟨RX1, TX1, 5, tyX1, rfl, by decide, inX1, tyX1_ok, nmX1, rfl, ik_in2 (List.mem_of_getElem? (i := 12) rfl)⟩
theorem fl_X1_21 : ik_FL RX1 21 1 3 := ⟨RX1, TX1, 5, tyX1, rfl, by decide, inX1, tyX1_ok, nmX1, rfl, ik_in2 (List.mem_of_getElem? (i := 13) rfl)⟩
theorem fw_X1_24 : ik_FW RX1 24 1 4 0 := ⟨RX1, TX1, 5, tyX1, rfl, by decide, inX1, tyX1_ok, nmX1, rfl, ik_in2 (List.mem_of_getElem? (i := 14) rfl), rfl, rfl⟩
theorem ml_X11_252 : Cond.methodLink RX11 252 yX1_add ∈ lw_tbl := ik_in5 (List.mem_of_getElem? (i := 161) rfl)
theorem mf_X1_add : ik_MF yX1_add cX1_add 5 (some .int) 4 := ⟨ik_in5 (List.mem_of_getElem? (i := 164) rfl), ik_in1 (List.mem_of_getElem? (i := 11) rfl), by decide +kernel, by decide +kernel, by decide +kernel⟩
theorem mv_X1_add : ik_MV yX1_add := ⟨ik_in5 (List.mem_of_getElem? (i := 162) rfl), ik_in5 (List.mem_of_getElem? (i := 163) rfl)⟩
theorem ml_X11_253 : Cond.methodLink RX11 253 yX1_openBy ∈ lw_tbl := ik_in5 (List.mem_of_getElem? (i := 170) rfl)
theorem mf_X1_openBy : ik_MF yX1_openBy cX1_openBy 6 (some .int) 3 := ⟨ik_in5 (List.mem_of_getElem? (i := 173) rfl), ik_in1 (List.mem_of_getElem? (i := 11) rfl), by decide +kernel, by decide +kernel, by decide +kernel⟩
theorem mv_X1_openBy : ik_MV yX1_openBy := ⟨ik_in5 (List.mem_of_getElem? (i := 171) rfl), ik_in5 (List.mem_of_getElem? (i := 172) rfl)⟩
theorem ml_X11_256 : Cond.methodLink RX11 256 yX1_has ∈ lw_tbl := ik_in5 (List.mem_of_getElem? (i := 178) rfl)
theorem mf_X1_has : ik_MF yX1_has cX1_has 2 (some .boolean) 1 := ⟨ik_in5 (List.mem_of_getElem? (i := 181) rfl), ik_in1 (List.mem_of_getElem? (i := 11) rfl), by decide +kernel, by decide +kernel, by decide +kernel⟩
theorem mv_X1_has : ik_MV yX1_has := ⟨ik_in5 (List.mem_of_getElem? (i := 179) rfl), ik_in5 (List.mem_of_getElem? (i := 180) rfl)⟩
theorem ml_X1_32 : Cond.methodLink RX1 32 yX1_has ∈ lw_tbl := ik_in5 (List.mem_of_getElem? (i := 186) rfl)
theorem ml_X11_257 : Cond.methodLink RX11 257 yX1_sheet ∈ lw_tbl := ik_in5 (List.mem_of_getElem? (i := 182) rfl)
theorem mf_X1_sheet : ik_MF yX1_sheet cX1_sheet 2 (some .int) 1 := ⟨ik_in5 (List.mem_of_getElem? (i := 185) rfl), ik_in1 (List.mem_of_getElem? (i := 11) rfl), by decide +kernel, by decide +kernel, by decide +kernel⟩
theorem mv_X1_sheet : ik_MV yX1_sheet := ⟨ik_in5 (List.mem_of_getElem? (i := 183) rfl), ik_in5 (List.mem_of_getElem? (i := 184) rfl)⟩
theorem ml_X11_260 : Cond.methodLink RX11 260 yX1_covered ∈ lw_tbl := ik_in5 (List.mem_of_getElem? (i := 187) rfl)
theorem mf_X1_covered : ik_MF yX1_covered cX1_covered 2 (some .int) 1 := ⟨ik_in5 (List.mem_of_getElem? (i := 190) rfl), ik_in1 (List.mem_of_getElem? (i := 11) rfl), by decide +kernel, by decide +kernel, by decide +kernel⟩
theorem mv_X1_covered : ik_MV yX1_covered := ⟨ik_in5 (List.mem_of_getElem? (i := 188) rfl), ik_in5 (List.mem_of_getElem? (i := 189) rfl)⟩
theorem ml_X11_263 : Cond.methodLink RX11 263 yX1_day ∈ lw_tbl := ik_in5 (List.mem_of_getElem? (i := 191) rfl)
theorem mf_X1_day : ik_MF yX1_day cX1_day 2 (some .int) 1 := ⟨ik_in5 (List.mem_of_getElem? (i := 194) rfl), ik_in1 (List.mem_of_getElem? (i := 11) rfl), by decide +kernel, by decide +kernel, by decide +kernel⟩
theorem mv_X1_day : ik_MV yX1_day := ⟨ik_in5 (List.mem_of_getElem? (i := 192) rfl), ik_in5 (List.mem_of_getElem? (i := 193) rfl)⟩
theorem ml_X11_266 : Cond.methodLink RX11 266 yX8_tokens ∈ lw_tbl := ik_in5 (List.mem_of_getElem? (i := 199) rfl)
theorem ml_X1_36 : Cond.methodLinkNest RX1 36 yX11_bit "InkBars" ∈ lw_tbl := ik_in5 (List.mem_of_getElem? (i := 204) rfl)
theorem ml_X11_269 : Cond.methodLink RX11 269 yX1_firstOpen ∈ lw_tbl := ik_in5 (List.mem_of_getElem? (i := 200) rfl)
theorem mf_X1_firstOpen : ik_MF yX1_firstOpen cX1_firstOpen 5 (some .int) 2 := ⟨ik_in5 (List.mem_of_getElem? (i := 203) rfl), ik_in1 (List.mem_of_getElem? (i := 11) rfl), by decide +kernel, by decide +kernel, by decide +kernel⟩
theorem mv_X1_firstOpen : ik_MV yX1_firstOpen := ⟨ik_in5 (List.mem_of_getElem? (i := 201) rfl), ik_in5 (List.mem_of_getElem? (i := 202) rfl)⟩
theorem ml_X1_40 : Cond.methodLink RX1 40 yX1_copied ∈ lw_tbl := ik_in5 (List.mem_of_getElem? (i := 217) rfl)
theorem mf_X1_copied : ik_MF yX1_copied cX1_copied 4 (some .boolean) 2 := ⟨ik_in5 (List.mem_of_getElem? (i := 220) rfl), ik_in1 (List.mem_of_getElem? (i := 11) rfl), by decide +kernel, by decide +kernel, by decide +kernel⟩
theorem mv_X1_copied : ik_MV yX1_copied := ⟨ik_in5 (List.mem_of_getElem? (i := 219) rfl), ik_inS (List.mem_of_getElem? (i := 43) (by decide +kernel))⟩
theorem ml_X1_43 : Cond.methodLink RX1 43 yX1_coveredBy ∈ lw_tbl := ik_in5 (List.mem_of_getElem? (i := 221) rfl)
theorem mf_X1_coveredBy : ik_MF yX1_coveredBy cX1_coveredBy 5 (some .int) 2 := ⟨ik_in5 (List.mem_of_getElem? (i := 224) rfl), ik_in1 (List.mem_of_getElem? (i := 11) rfl), by decide +kernel, by decide +kernel, by decide +kernel⟩
theorem mv_X1_coveredBy : ik_MV yX1_coveredBy := ⟨ik_in5 (List.mem_of_getElem? (i := 223) rfl), ik_inS (List.mem_of_getElem? (i := 44) (by decide +kernel))⟩
theorem ml_X11_272 : Cond.methodLink RX11 272 yX1_compare ∈ lw_tbl := ik_in5 (List.mem_of_getElem? (i := 213) rfl)
theorem mf_X1_compare : ik_MF yX1_compare cX1_compare 7 (some .int) 2 := ⟨ik_in5 (List.mem_of_getElem? (i := 216) rfl), ik_in1 (List.mem_of_getElem? (i := 11) rfl), by decide +kernel, by decide +kernel, by decide +kernel⟩
theorem mv_X1_compare : ik_MV yX1_compare := ⟨ik_in5 (List.mem_of_getElem? (i := 214) rfl), ik_in5 (List.mem_of_getElem? (i := 215) rfl)⟩
theorem ml_X11_275 : Cond.methodLink RX11 275 yX8_takesNote ∈ lw_tbl := ik_in5 (List.mem_of_getElem? (i := 229) rfl)
theorem mf_X8_takesNote : ik_MF yX8_takesNote cX8_takesNote 5 (some .boolean) 2 := ⟨ik_in5 (List.mem_of_getElem? (i := 232) rfl), ik_in1 (List.mem_of_getElem? (i := 8) rfl), by decide +kernel, by decide +kernel, by decide +kernel⟩
theorem mv_X8_takesNote : ik_MV yX8_takesNote := ⟨ik_in5 (List.mem_of_getElem? (i := 230) rfl), ik_in5 (List.mem_of_getElem? (i := 231) rfl)⟩
theorem ml_X11_278 : Cond.methodLink RX11 278 yX8_addNote ∈ lw_tbl := ik_in5 (List.mem_of_getElem? (i := 233) rfl)
theorem mf_X8_addNote : ik_MF yX8_addNote cX8_addNote 3 (none) 2 := ⟨ik_in5 (List.mem_of_getElem? (i := 236) rfl), ik_in1 (List.mem_of_getElem? (i := 8) rfl), by decide +kernel, by decide +kernel, by decide +kernel⟩
theorem mv_X8_addNote : ik_MV yX8_addNote := ⟨ik_in5 (List.mem_of_getElem? (i := 234) rfl), ik_in5 (List.mem_of_getElem? (i := 235) rfl)⟩
theorem ml_X11_281 : Cond.methodLink RX11 281 yX8_misses ∈ lw_tbl := ik_in6 (List.mem_of_getElem? (i := 1) rfl)
theorem mf_X8_misses : ik_MF yX8_misses cX8_misses 4 (some .boolean) 1 := ⟨ik_in6 (List.mem_of_getElem? (i := 4) rfl), ik_in1 (List.mem_of_getElem? (i := 8) rfl), by decide +kernel, by decide +kernel, by decide +kernel⟩
theorem mv_X8_misses : ik_MV yX8_misses := ⟨ik_in6 (List.mem_of_getElem? (i := 2) rfl), ik_in6 (List.mem_of_getElem? (i := 3) rfl)⟩
theorem ml_X11_284 : Cond.methodLink RX11 284 yX8_noteBelow ∈ lw_tbl := ik_in6 (List.mem_of_getElem? (i := 5) rfl)
theorem mf_X8_noteBelow : ik_MF yX8_noteBelow cX8_noteBelow 4 (some .int) 1 := ⟨ik_in6 (List.mem_of_getElem? (i := 8) rfl), ik_in1 (List.mem_of_getElem? (i := 8) rfl), by decide +kernel, by decide +kernel, by decide +kernel⟩
theorem mv_X8_noteBelow : ik_MV yX8_noteBelow := ⟨ik_in6 (List.mem_of_getElem? (i := 6) rfl), ik_in6 (List.mem_of_getElem? (i := 7) rfl)⟩
theorem ml_X11_287 : Cond.methodLink RX11 287 yX8_noteAbove ∈ lw_tbl := ik_in6 (List.mem_of_getElem? (i := 9) rfl)
theorem mf_X8_noteAbove : ik_MF yX8_noteAbove cX8_noteAbove 3 (some .int) 1 := ⟨ik_in6 (List.mem_of_getElem? (i := 12) rfl), ik_in1 (List.mem_of_getElem? (i := 8) rfl), by decide +kernel, by decide +kernel, by decide +kernel⟩
theorem mv_X8_noteAbove : ik_MV yX8_noteAbove := ⟨ik_in6 (List.mem_of_getElem? (i := 10) rfl), ik_in6 (List.mem_of_getElem? (i := 11) rfl)⟩
theorem ml_X9_17 : Cond.methodLink RX9 17 yX9_at ∈ lw_tbl := ik_in6 (List.mem_of_getElem? (i := 25) rfl)
theorem ml_X11_427 : Cond.methodLink RX11 427 yX9_number ∈ lw_tbl := ik_in6 (List.mem_of_getElem? (i := 21) rfl)
theorem mf_X9_number : ik_MF yX9_number cX9_number 3 (some .int) 1 := ⟨ik_in6 (List.mem_of_getElem? (i := 24) rfl), ik_in1 (List.mem_of_getElem? (i := 2) rfl), by decide +kernel, by decide +kernel, by decide +kernel⟩
theorem mv_X9_number : ik_MV yX9_number := ⟨ik_in6 (List.mem_of_getElem? (i := 22) rfl), ik_in6 (List.mem_of_getElem? (i := 23) rfl)⟩
theorem ml_X11_290 : Cond.methodLink RX11 290 yX11_firstWrong ∈ lw_tbl := ik_in6 (List.mem_of_getElem? (i := 17) rfl)
theorem mf_X11_firstWrong : ik_MF yX11_firstWrong cX11_firstWrong 5 (some .int) 2 := ⟨ik_in6 (List.mem_of_getElem? (i := 20) rfl), ik_in1 (List.mem_of_getElem? (i := 1) rfl), by decide +kernel, by decide +kernel, by decide +kernel⟩
theorem mv_X11_firstWrong : ik_MV yX11_firstWrong := ⟨ik_in6 (List.mem_of_getElem? (i := 19) rfl), ik_inS (List.mem_of_getElem? (i := 45) (by decide +kernel))⟩
theorem ml_X11_298 : Cond.methodLink RX11 298 yX0_lists ∈ lw_tbl := ik_in6 (List.mem_of_getElem? (i := 30) rfl)
theorem mf_X0_lists : ik_MF yX0_lists cX0_lists 1 (some .int) 0 := ⟨ik_in6 (List.mem_of_getElem? (i := 33) rfl), ik_in1 (List.mem_of_getElem? (i := 7) rfl), by decide +kernel, by decide +kernel, by decide +kernel⟩
theorem mv_X0_lists : ik_MV yX0_lists := ⟨ik_in6 (List.mem_of_getElem? (i := 31) rfl), ik_in6 (List.mem_of_getElem? (i := 32) rfl)⟩
theorem ml_X11_301 : Cond.methodLink RX11 301 yX3_count ∈ lw_tbl := ik_in6 (List.mem_of_getElem? (i := 34) rfl)
theorem mf_X3_count : ik_MF yX3_count cX3_count 1 (some .int) 0 := ⟨ik_in6 (List.mem_of_getElem? (i := 37) rfl), ik_in1 (List.mem_of_getElem? (i := 10) rfl), by decide +kernel, by decide +kernel, by decide +kernel⟩
theorem mv_X3_count : ik_MV yX3_count := ⟨ik_in6 (List.mem_of_getElem? (i := 35) rfl), ik_in6 (List.mem_of_getElem? (i := 36) rfl)⟩
theorem ml_X11_302 : Cond.methodLink RX11 302 yX1_count ∈ lw_tbl := ik_in6 (List.mem_of_getElem? (i := 38) rfl)
theorem mf_X1_count : ik_MF yX1_count cX1_count 1 (some .int) 0 := ⟨ik_in6 (List.mem_of_getElem? (i := 41) rfl), ik_in1 (List.mem_of_getElem? (i := 11) rfl), by decide +kernel, by decide +kernel, by decide +kernel⟩
theorem mv_X1_count : ik_MV yX1_count := ⟨ik_in6 (List.mem_of_getElem? (i := 39) rfl), ik_in6 (List.mem_of_getElem? (i := 40) rfl)⟩
theorem ml_X11_303 : Cond.methodLink RX11 303 yX8_notes ∈ lw_tbl := ik_in6 (List.mem_of_getElem? (i := 42) rfl)
theorem mf_X8_notes : ik_MF yX8_notes cX8_notes 3 (some .int) 0 := ⟨ik_in6 (List.mem_of_getElem? (i := 45) rfl), ik_in1 (List.mem_of_getElem? (i := 8) rfl), by decide +kernel, by decide +kernel, by decide +kernel⟩
theorem mv_X8_notes : ik_MV yX8_notes := ⟨ik_in6 (List.mem_of_getElem? (i := 43) rfl), ik_in6 (List.mem_of_getElem? (i := 44) rfl)⟩
theorem ml_X11_306 : Cond.methodLink RX11 306 yX8_lines ∈ lw_tbl := ik_in6 (List.mem_of_getElem? (i := 46) rfl)
theorem mf_X8_lines : ik_MF yX8_lines cX8_lines 4 (some .int) 1 := ⟨ik_in6 (List.mem_of_getElem? (i := 49) rfl), ik_in1 (List.mem_of_getElem? (i := 8) rfl), by decide +kernel, by decide +kernel, by decide +kernel⟩
theorem mv_X8_lines : ik_MV yX8_lines := ⟨ik_in6 (List.mem_of_getElem? (i := 47) rfl), ik_in6 (List.mem_of_getElem? (i := 48) rfl)⟩
theorem kc_X12_182 : Cond.constantLong RX12 182 (26) ∈ lw_tbl := ik_in7 (List.mem_of_getElem? (i := 53) rfl)
theorem ml_X12_170 : Cond.methodLink RX12 170 yX12_lies ∈ lw_tbl := ik_in7 (List.mem_of_getElem? (i := 54) rfl)
theorem mf_X12_lies : ik_MF yX12_lies cX12_lies 6 (some .boolean) 3 := ⟨ik_in7 (List.mem_of_getElem? (i := 56) rfl), ik_in1 (List.mem_of_getElem? (i := 14) rfl), by decide +kernel, by decide +kernel, by decide +kernel⟩
theorem ms_X12_lies : Cond.static yX12_lies ∈ lw_tbl := ik_in7 (List.mem_of_getElem? (i := 55) rfl)
theorem kc_X12_184 : Cond.constantLong RX12 184 (60) ∈ lw_tbl := ik_in7 (List.mem_of_getElem? (i := 57) rfl)
theorem fl_X12_13 : ik_FL RX12 13 12 12 := ⟨RX12, TX12, 77, tyX12, rfl, by decide, inX12, tyX12_ok, nmX12, rfl, ik_in6 (List.mem_of_getElem? (i := 68) rfl)⟩
theorem kc_X12_186 : Cond.constantLong RX12 186 (-20) ∈ lw_tbl := ik_in7 (List.mem_of_getElem? (i := 62) rfl)
theorem kc_X12_188 : Cond.constantLong RX12 188 (20) ∈ lw_tbl := ik_in7 (List.mem_of_getElem? (i := 63) rfl)
theorem fl_X12_17 : ik_FL RX12 17 12 13 := ⟨RX12, TX12, 77, tyX12, rfl, by decide, inX12, tyX12_ok, nmX12, rfl, ik_in6 (List.mem_of_getElem? (i := 69) rfl)⟩
theorem fl_X12_190 : ik_FL RX12 190 12 1 := ⟨RX12, TX12, 77, tyX12, rfl, by decide, inX12, tyX12_ok, nmX12, rfl, ik_in6 (List.mem_of_getElem? (i := 57) rfl)⟩
theorem fl_X12_7 : ik_FL RX12 7 12 0 := ⟨RX12, TX12, 77, tyX12, rfl, by decide, inX12, tyX12_ok, nmX12, rfl, ik_in6 (List.mem_of_getElem? (i := 56) rfl)⟩
theorem fw_X12_190 : ik_FW RX12 190 12 1 0 := ⟨RX12, TX12, 77, tyX12, rfl, by decide, inX12, tyX12_ok, nmX12, rfl, ik_in6 (List.mem_of_getElem? (i := 57) rfl), rfl, rfl⟩
theorem ml_X12_193 : Cond.methodLink RX12 193 yX12_push ∈ lw_tbl := ik_in7 (List.mem_of_getElem? (i := 68) rfl)
theorem mf_X12_push : ik_MF yX12_push cX12_push 3 (none) 1 := ⟨ik_in7 (List.mem_of_getElem? (i := 71) rfl), ik_in1 (List.mem_of_getElem? (i := 14) rfl), by decide +kernel, by decide +kernel, by decide +kernel⟩
theorem mv_X12_push : ik_MV yX12_push := ⟨ik_in7 (List.mem_of_getElem? (i := 70) rfl), ik_inS (List.mem_of_getElem? (i := 46) (by decide +kernel))⟩
theorem fl_X12_166 : ik_FL RX12 166 12 2 := ⟨RX12, TX12, 77, tyX12, rfl, by decide, inX12, tyX12_ok, nmX12, rfl, ik_in6 (List.mem_of_getElem? (i := 58) rfl)⟩
theorem kc_X12_197 : Cond.constantLong RX12 197 (12) ∈ lw_tbl := ik_in7 (List.mem_of_getElem? (i := 76) rfl)
theorem kc_X12_199 : Cond.constantLong RX12 199 (7) ∈ lw_tbl := ik_in7 (List.mem_of_getElem? (i := 77) rfl)
theorem kc_X12_201 : Cond.constantLong RX12 201 (199) ∈ lw_tbl := ik_in7 (List.mem_of_getElem? (i := 78) rfl)
theorem kc_X12_203 : Cond.constantLong RX12 203 (100) ∈ lw_tbl := ik_in7 (List.mem_of_getElem? (i := 79) rfl)
theorem fl_X12_23 : ik_FL RX12 23 12 15 := ⟨RX12, TX12, 77, tyX12, rfl, by decide, inX12, tyX12_ok, nmX12, rfl, ik_in6 (List.mem_of_getElem? (i := 71) rfl)⟩
theorem ml_X12_205 : Cond.methodLink RX12 205 yX12_isLetter ∈ lw_tbl := ik_in7 (List.mem_of_getElem? (i := 80) rfl)
theorem mf_X12_isLetter : ik_MF yX12_isLetter cX12_isLetter 1 (some .boolean) 1 := ⟨ik_in7 (List.mem_of_getElem? (i := 82) rfl), ik_in1 (List.mem_of_getElem? (i := 14) rfl), by decide +kernel, by decide +kernel, by decide +kernel⟩
theorem ms_X12_isLetter : Cond.static yX12_isLetter ∈ lw_tbl := ik_in7 (List.mem_of_getElem? (i := 81) rfl)
theorem fl_X12_20 : ik_FL RX12 20 12 14 := ⟨RX12, TX12, 77, tyX12, rfl, by decide, inX12, tyX12_ok, nmX12, rfl, ik_in6 (List.mem_of_getElem? (i := 70) rfl)⟩
theorem ml_X12_209 : Cond.methodLink RX12 209 yX12_compared ∈ lw_tbl := ik_in7 (List.mem_of_getElem? (i := 83) rfl)
theorem mf_X12_compared : ik_MF yX12_compared cX12_compared 6 (some .int) 2 := ⟨ik_in7 (List.mem_of_getElem? (i := 86) rfl), ik_in1 (List.mem_of_getElem? (i := 14) rfl), by decide +kernel, by decide +kernel, by decide +kernel⟩
theorem mv_X12_compared : ik_MV yX12_compared := ⟨ik_in7 (List.mem_of_getElem? (i := 85) rfl), ik_inS (List.mem_of_getElem? (i := 47) (by decide +kernel))⟩
theorem fl_X12_26 : ik_FL RX12 26 12 16 := ⟨RX12, TX12, 77, tyX12, rfl, by decide, inX12, tyX12_ok, nmX12, rfl, ik_in6 (List.mem_of_getElem? (i := 72) rfl)⟩
theorem fl_X12_29 : ik_FL RX12 29 12 17 := ⟨RX12, TX12, 77, tyX12, rfl, by decide, inX12, tyX12_ok, nmX12, rfl, ik_in6 (List.mem_of_getElem? (i := 73) rfl)⟩
theorem fl_X12_32 : ik_FL RX12 32 12 18 := ⟨RX12, TX12, 77, tyX12, rfl, by decide, inX12, tyX12_ok, nmX12, rfl, ik_in6 (List.mem_of_getElem? (i := 74) rfl)⟩
theorem fl_X12_35 : ik_FL RX12 35 12 19 := ⟨RX12, TX12, 77, tyX12, rfl, by decide, inX12, tyX12_ok, nmX12, rfl, ik_in6 (List.mem_of_getElem? (i := 75) rfl)⟩
theorem fw_X12_166 : ik_FW RX12 166 12 2 0 := ⟨RX12, TX12, 77, tyX12, rfl, by decide, inX12, tyX12_ok, nmX12, rfl, ik_in6 (List.mem_of_getElem? (i := 58) rfl), rfl, rfl⟩
theorem ml_X12_213 : Cond.methodLink RX12 213 yX12_isName ∈ lw_tbl := ik_in7 (List.mem_of_getElem? (i := 91) rfl)
theorem mf_X12_isName : ik_MF yX12_isName cX12_isName 2 (some .boolean) 1 := ⟨ik_in7 (List.mem_of_getElem? (i := 94) rfl), ik_in1 (List.mem_of_getElem? (i := 14) rfl), by decide +kernel, by decide +kernel, by decide +kernel⟩
theorem mv_X12_isName : ik_MV yX12_isName := ⟨ik_in7 (List.mem_of_getElem? (i := 93) rfl), ik_inS (List.mem_of_getElem? (i := 48) (by decide +kernel))⟩
theorem ml_X12_216 : Cond.methodLink RX12 216 yX12_wideOf ∈ lw_tbl := ik_in7 (List.mem_of_getElem? (i := 95) rfl)
theorem mf_X12_wideOf : ik_MF yX12_wideOf cX12_wideOf 6 (some .int) 1 := ⟨ik_in7 (List.mem_of_getElem? (i := 98) rfl), ik_in1 (List.mem_of_getElem? (i := 14) rfl), by decide +kernel, by decide +kernel, by decide +kernel⟩
theorem mv_X12_wideOf : ik_MV yX12_wideOf := ⟨ik_in7 (List.mem_of_getElem? (i := 97) rfl), ik_inS (List.mem_of_getElem? (i := 49) (by decide +kernel))⟩
theorem fl_X12_174 : ik_FL RX12 174 12 3 := ⟨RX12, TX12, 77, tyX12, rfl, by decide, inX12, tyX12_ok, nmX12, rfl, ik_in6 (List.mem_of_getElem? (i := 59) rfl)⟩
theorem kc_X12_220 : Cond.constantLong RX12 220 (3000) ∈ lw_tbl := ik_in7 (List.mem_of_getElem? (i := 103) rfl)
theorem kc_X12_222 : Cond.constantLong RX12 222 (-1) ∈ lw_tbl := ik_in7 (List.mem_of_getElem? (i := 104) rfl)
theorem kc_X12_224 : Cond.constantLong RX12 224 (255) ∈ lw_tbl := ik_in7 (List.mem_of_getElem? (i := 105) rfl)
theorem fl_X12_38 : ik_FL RX12 38 12 20 := ⟨RX12, TX12, 77, tyX12, rfl, by decide, inX12, tyX12_ok, nmX12, rfl, ik_in6 (List.mem_of_getElem? (i := 76) rfl)⟩
theorem fl_X12_41 : ik_FL RX12 41 12 21 := ⟨RX12, TX12, 77, tyX12, rfl, by decide, inX12, tyX12_ok, nmX12, rfl, ik_in6 (List.mem_of_getElem? (i := 77) rfl)⟩
theorem fl_X12_44 : ik_FL RX12 44 12 22 := ⟨RX12, TX12, 77, tyX12, rfl, by decide, inX12, tyX12_ok, nmX12, rfl, ik_in6 (List.mem_of_getElem? (i := 78) rfl)⟩
theorem fw_X12_174 : ik_FW RX12 174 12 3 0 := ⟨RX12, TX12, 77, tyX12, rfl, by decide, inX12, tyX12_ok, nmX12, rfl, ik_in6 (List.mem_of_getElem? (i := 59) rfl), rfl, rfl⟩
theorem fl_X12_177 : ik_FL RX12 177 12 4 := ⟨RX12, TX12, 77, tyX12, rfl, by decide, inX12, tyX12_ok, nmX12, rfl, ik_in6 (List.mem_of_getElem? (i := 60) rfl)⟩
theorem kc_X12_250 : Cond.constantLong RX12 250 (50) ∈ lw_tbl := ik_in7 (List.mem_of_getElem? (i := 110) rfl)
theorem kc_X12_252 : Cond.constantLong RX12 252 (5000) ∈ lw_tbl := ik_in7 (List.mem_of_getElem? (i := 111) rfl)
theorem kc_X12_254 : Cond.constantLong RX12 254 (160) ∈ lw_tbl := ik_in7 (List.mem_of_getElem? (i := 112) rfl)
theorem fw_X12_226 : ik_FW RX12 226 12 30 0 := ⟨RX12, TX12, 77, tyX12, rfl, by decide, inX12, tyX12_ok, nmX12, rfl, ik_in6 (List.mem_of_getElem? (i := 86) rfl), rfl, rfl⟩
theorem fw_X12_229 : ik_FW RX12 229 12 31 0 := ⟨RX12, TX12, 77, tyX12, rfl, by decide, inX12, tyX12_ok, nmX12, rfl, ik_in6 (List.mem_of_getElem? (i := 87) rfl), rfl, rfl⟩
theorem fw_X12_232 : ik_FW RX12 232 12 32 0 := ⟨RX12, TX12, 77, tyX12, rfl, by decide, inX12, tyX12_ok, nmX12, rfl, ik_in6 (List.mem_of_getElem? (i := 88) rfl), rfl, rfl⟩
theorem fl_X12_232 : ik_FL RX12 232 12 32 := ⟨RX12, TX12, 77, tyX12, rfl, by decide, inX12, tyX12_ok, nmX12, rfl, ik_in6 (List.mem_of_getElem? (i := 88) rfl)⟩
theorem ml_X12_246 : Cond.methodLink RX12 246 yX12_isGood ∈ lw_tbl := ik_in7 (List.mem_of_getElem? (i := 113) rfl)
theorem mf_X12_isGood : ik_MF yX12_isGood cX12_isGood 1 (some .boolean) 0 := ⟨ik_in7 (List.mem_of_getElem? (i := 116) rfl), ik_in1 (List.mem_of_getElem? (i := 14) rfl), by decide +kernel, by decide +kernel, by decide +kernel⟩
theorem mv_X12_isGood : ik_MV yX12_isGood := ⟨ik_in7 (List.mem_of_getElem? (i := 115) rfl), ik_inS (List.mem_of_getElem? (i := 50) (by decide +kernel))⟩
theorem fl_X12_226 : ik_FL RX12 226 12 30 := ⟨RX12, TX12, 77, tyX12, rfl, by decide, inX12, tyX12_ok, nmX12, rfl, ik_in6 (List.mem_of_getElem? (i := 86) rfl)⟩
theorem fl_X12_229 : ik_FL RX12 229 12 31 := ⟨RX12, TX12, 77, tyX12, rfl, by decide, inX12, tyX12_ok, nmX12, rfl, ik_in6 (List.mem_of_getElem? (i := 87) rfl)⟩
theorem ml_X12_235 : Cond.methodLink RX12 235 yX12_here ∈ lw_tbl := ik_in7 (List.mem_of_getElem? (i := 121) rfl)
theorem mf_X12_here : ik_MF yX12_here cX12_here 1 (some .int) 0 := ⟨ik_in7 (List.mem_of_getElem? (i := 124) rfl), ik_in1 (List.mem_of_getElem? (i := 14) rfl), by decide +kernel, by decide +kernel, by decide +kernel⟩
theorem mv_X12_here : ik_MV yX12_here := ⟨ik_in7 (List.mem_of_getElem? (i := 123) rfl), ik_inS (List.mem_of_getElem? (i := 52) (by decide +kernel))⟩
theorem ml_X12_239 : Cond.methodLink RX12 239 yX12_isDigit ∈ lw_tbl := ik_in7 (List.mem_of_getElem? (i := 125) rfl)
theorem mf_X12_isDigit : ik_MF yX12_isDigit cX12_isDigit 1 (some .boolean) 1 := ⟨ik_in7 (List.mem_of_getElem? (i := 127) rfl), ik_in1 (List.mem_of_getElem? (i := 14) rfl), by decide +kernel, by decide +kernel, by decide +kernel⟩
theorem ms_X12_isDigit : Cond.static yX12_isDigit ∈ lw_tbl := ik_in7 (List.mem_of_getElem? (i := 126) rfl)
theorem ml_X12_242 : Cond.methodLink RX12 242 yX12_wrongs ∈ lw_tbl := ik_in7 (List.mem_of_getElem? (i := 128) rfl)
theorem mf_X12_wrongs : ik_MF yX12_wrongs cX12_wrongs 3 (none) 2 := ⟨ik_in7 (List.mem_of_getElem? (i := 131) rfl), ik_in1 (List.mem_of_getElem? (i := 14) rfl), by decide +kernel, by decide +kernel, by decide +kernel⟩
theorem mv_X12_wrongs : ik_MV yX12_wrongs := ⟨ik_in7 (List.mem_of_getElem? (i := 130) rfl), ik_inS (List.mem_of_getElem? (i := 53) (by decide +kernel))⟩
theorem fl_X12_56 : ik_FL RX12 56 12 26 := ⟨RX12, TX12, 77, tyX12, rfl, by decide, inX12, tyX12_ok, nmX12, rfl, ik_in6 (List.mem_of_getElem? (i := 82) rfl)⟩
theorem fl_X12_59 : ik_FL RX12 59 12 27 := ⟨RX12, TX12, 77, tyX12, rfl, by decide, inX12, tyX12_ok, nmX12, rfl, ik_in6 (List.mem_of_getElem? (i := 83) rfl)⟩
theorem fl_X12_62 : ik_FL RX12 62 12 28 := ⟨RX12, TX12, 77, tyX12, rfl, by decide, inX12, tyX12_ok, nmX12, rfl, ik_in6 (List.mem_of_getElem? (i := 84) rfl)⟩
theorem ml_X12_256 : Cond.methodLink RX12 256 yX12_token ∈ lw_tbl := ik_in7 (List.mem_of_getElem? (i := 117) rfl)
theorem mf_X12_token : ik_MF yX12_token cX12_token 5 (none) 2 := ⟨ik_in7 (List.mem_of_getElem? (i := 120) rfl), ik_in1 (List.mem_of_getElem? (i := 14) rfl), by decide +kernel, by decide +kernel, by decide +kernel⟩
theorem mv_X12_token : ik_MV yX12_token := ⟨ik_in7 (List.mem_of_getElem? (i := 119) rfl), ik_inS (List.mem_of_getElem? (i := 51) (by decide +kernel))⟩
theorem fl_X12_65 : ik_FL RX12 65 12 29 := ⟨RX12, TX12, 77, tyX12, rfl, by decide, inX12, tyX12_ok, nmX12, rfl, ik_in6 (List.mem_of_getElem? (i := 85) rfl)⟩
theorem fl_X12_53 : ik_FL RX12 53 12 25 := ⟨RX12, TX12, 77, tyX12, rfl, by decide, inX12, tyX12_ok, nmX12, rfl, ik_in6 (List.mem_of_getElem? (i := 81) rfl)⟩
theorem fl_X12_47 : ik_FL RX12 47 12 23 := ⟨RX12, TX12, 77, tyX12, rfl, by decide, inX12, tyX12_ok, nmX12, rfl, ik_in6 (List.mem_of_getElem? (i := 79) rfl)⟩
theorem fl_X12_50 : ik_FL RX12 50 12 24 := ⟨RX12, TX12, 77, tyX12, rfl, by decide, inX12, tyX12_ok, nmX12, rfl, ik_in6 (List.mem_of_getElem? (i := 80) rfl)⟩
theorem fw_X12_177 : ik_FW RX12 177 12 4 0 := ⟨RX12, TX12, 77, tyX12, rfl, by decide, inX12, tyX12_ok, nmX12, rfl, ik_in6 (List.mem_of_getElem? (i := 60) rfl), rfl, rfl⟩
theorem fw_X12_333 : ik_FW RX12 333 12 46 0 := ⟨RX12, TX12, 77, tyX12, rfl, by decide, inX12, tyX12_ok, nmX12, rfl, ik_in6 (List.mem_of_getElem? (i := 102) rfl), rfl, rfl⟩
theorem fw_X12_268 : ik_FW RX12 268 12 47 0 := ⟨RX12, TX12, 77, tyX12, rfl, by decide, inX12, tyX12_ok, nmX12, rfl, ik_in6 (List.mem_of_getElem? (i := 103) rfl), rfl, rfl⟩
theorem fl_X12_333 : ik_FL RX12 333 12 46 := ⟨RX12, TX12, 77, tyX12, rfl, by decide, inX12, tyX12_ok, nmX12, rfl, ik_in6 (List.mem_of_getElem? (i := 102) rfl)⟩
theorem fl_X12_90 : ik_FL RX12 90 12 41 := ⟨RX12, TX12, 77, tyX12, rfl, by decide, inX12, tyX12_ok, nmX12, rfl, ik_in6 (List.mem_of_getElem? (i := 97) rfl)⟩
theorem fl_X12_93 : ik_FL RX12 93 12 42 := ⟨RX12, TX12, 77, tyX12, rfl, by decide, inX12, tyX12_ok, nmX12, rfl, ik_in6 (List.mem_of_getElem? (i := 98) rfl)⟩
theorem fl_X12_268 : ik_FL RX12 268 12 47 := ⟨RX12, TX12, 77, tyX12, rfl, by decide, inX12, tyX12_ok, nmX12, rfl, ik_in6 (List.mem_of_getElem? (i := 103) rfl)⟩
theorem fw_X12_271 : ik_FW RX12 271 12 49 0 := ⟨RX12, TX12, 77, tyX12, rfl, by decide, inX12, tyX12_ok, nmX12, rfl, ik_in6 (List.mem_of_getElem? (i := 105) rfl), rfl, rfl⟩
theorem fw_X12_274 : ik_FW RX12 274 12 48 0 := ⟨RX12, TX12, 77, tyX12, rfl, by decide, inX12, tyX12_ok, nmX12, rfl, ik_in6 (List.mem_of_getElem? (i := 104) rfl), rfl, rfl⟩
theorem fw_X12_324 : ik_FW RX12 324 12 50 3 := ⟨RX12, TX12, 77, tyX12, rfl, by decide, inX12, tyX12_ok, nmX12, rfl, ik_in6 (List.mem_of_getElem? (i := 106) rfl), rfl, rfl⟩
theorem fl_X12_274 : ik_FL RX12 274 12 48 := ⟨RX12, TX12, 77, tyX12, rfl, by decide, inX12, tyX12_ok, nmX12, rfl, ik_in6 (List.mem_of_getElem? (i := 104) rfl)⟩
theorem fl_X12_105 : ik_FL RX12 105 12 52 := ⟨RX12, TX12, 77, tyX12, rfl, by decide, inX12, tyX12_ok, nmX12, rfl, ik_in6 (List.mem_of_getElem? (i := 108) rfl)⟩
theorem fl_X12_271 : ik_FL RX12 271 12 49 := ⟨RX12, TX12, 77, tyX12, rfl, by decide, inX12, tyX12_ok, nmX12, rfl, ik_in6 (List.mem_of_getElem? (i := 105) rfl)⟩
theorem ml_X12_277 : Cond.methodLink RX12 277 yX12_puts ∈ lw_tbl := ik_in7 (List.mem_of_getElem? (i := 148) rfl)
theorem mf_X12_puts : ik_MF yX12_puts cX12_puts 2 (none) 1 := ⟨ik_in7 (List.mem_of_getElem? (i := 151) rfl), ik_in1 (List.mem_of_getElem? (i := 14) rfl), by decide +kernel, by decide +kernel, by decide +kernel⟩
theorem mv_X12_puts : ik_MV yX12_puts := ⟨ik_in7 (List.mem_of_getElem? (i := 150) rfl), ik_inS (List.mem_of_getElem? (i := 57) (by decide +kernel))⟩
theorem ml_X12_292 : Cond.methodLink RX12 292 yX12_opens ∈ lw_tbl := ik_in7 (List.mem_of_getElem? (i := 144) rfl)
theorem mf_X12_opens : ik_MF yX12_opens cX12_opens 1 (none) 0 := ⟨ik_in7 (List.mem_of_getElem? (i := 147) rfl), ik_in1 (List.mem_of_getElem? (i := 14) rfl), by decide +kernel, by decide +kernel, by decide +kernel⟩
theorem mv_X12_opens : ik_MV yX12_opens := ⟨ik_in7 (List.mem_of_getElem? (i := 146) rfl), ik_inS (List.mem_of_getElem? (i := 56) (by decide +kernel))⟩
theorem fl_X12_324 : ik_FL RX12 324 12 50 := ⟨RX12, TX12, 77, tyX12, rfl, by decide, inX12, tyX12_ok, nmX12, rfl, ik_in6 (List.mem_of_getElem? (i := 106) rfl)⟩
theorem fw_X12_305 : ik_FW RX12 305 12 51 3 := ⟨RX12, TX12, 77, tyX12, rfl, by decide, inX12, tyX12_ok, nmX12, rfl, ik_in6 (List.mem_of_getElem? (i := 107) rfl), rfl, rfl⟩
theorem fl_X12_305 : ik_FL RX12 305 12 51 := ⟨RX12, TX12, 77, tyX12, rfl, by decide, inX12, tyX12_ok, nmX12, rfl, ik_in6 (List.mem_of_getElem? (i := 107) rfl)⟩
theorem ml_X12_295 : Cond.methodLink RX12 295 yX12_reads ∈ lw_tbl := ik_in7 (List.mem_of_getElem? (i := 160) rfl)
theorem mf_X12_reads : ik_MF yX12_reads cX12_reads 3 (some .int) 0 := ⟨ik_in7 (List.mem_of_getElem? (i := 163) rfl), ik_in1 (List.mem_of_getElem? (i := 14) rfl), by decide +kernel, by decide +kernel, by decide +kernel⟩
theorem mv_X12_reads : ik_MV yX12_reads := ⟨ik_in7 (List.mem_of_getElem? (i := 162) rfl), ik_inS (List.mem_of_getElem? (i := 60) (by decide +kernel))⟩
theorem fl_X12_99 : ik_FL RX12 99 12 44 := ⟨RX12, TX12, 77, tyX12, rfl, by decide, inX12, tyX12_ok, nmX12, rfl, ik_in6 (List.mem_of_getElem? (i := 100) rfl)⟩
theorem fl_X12_102 : ik_FL RX12 102 12 45 := ⟨RX12, TX12, 77, tyX12, rfl, by decide, inX12, tyX12_ok, nmX12, rfl, ik_in6 (List.mem_of_getElem? (i := 101) rfl)⟩
theorem ml_X12_289 : Cond.methodLink RX12 289 yX12_emit ∈ lw_tbl := ik_in7 (List.mem_of_getElem? (i := 164) rfl)
theorem mf_X12_emit : ik_MF yX12_emit cX12_emit 3 (none) 2 := ⟨ik_in7 (List.mem_of_getElem? (i := 167) rfl), ik_in1 (List.mem_of_getElem? (i := 14) rfl), by decide +kernel, by decide +kernel, by decide +kernel⟩
theorem mv_X12_emit : ik_MV yX12_emit := ⟨ik_in7 (List.mem_of_getElem? (i := 166) rfl), ik_inS (List.mem_of_getElem? (i := 61) (by decide +kernel))⟩
theorem ml_X12_298 : Cond.methodLink RX12 298 yX12_isValue ∈ lw_tbl := ik_in7 (List.mem_of_getElem? (i := 168) rfl)
theorem mf_X12_isValue : ik_MF yX12_isValue cX12_isValue 1 (some .boolean) 1 := ⟨ik_in7 (List.mem_of_getElem? (i := 170) rfl), ik_in1 (List.mem_of_getElem? (i := 14) rfl), by decide +kernel, by decide +kernel, by decide +kernel⟩
theorem ms_X12_isValue : Cond.static yX12_isValue ∈ lw_tbl := ik_in7 (List.mem_of_getElem? (i := 169) rfl)
theorem ml_X12_312 : Cond.methodLink RX12 312 yX12_factor ∈ lw_tbl := ik_in7 (List.mem_of_getElem? (i := 156) rfl)
theorem mf_X12_factor : ik_MF yX12_factor cX12_factor 1 (none) 0 := ⟨ik_in7 (List.mem_of_getElem? (i := 159) rfl), ik_in1 (List.mem_of_getElem? (i := 14) rfl), by decide +kernel, by decide +kernel, by decide +kernel⟩
theorem mv_X12_factor : ik_MV yX12_factor := ⟨ik_in7 (List.mem_of_getElem? (i := 158) rfl), ik_inS (List.mem_of_getElem? (i := 59) (by decide +kernel))⟩
theorem ml_X12_283 : Cond.methodLink RX12 283 yX12_isTimes ∈ lw_tbl := ik_in7 (List.mem_of_getElem? (i := 175) rfl)
theorem mf_X12_isTimes : ik_MF yX12_isTimes cX12_isTimes 1 (some .boolean) 1 := ⟨ik_in7 (List.mem_of_getElem? (i := 177) rfl), ik_in1 (List.mem_of_getElem? (i := 14) rfl), by decide +kernel, by decide +kernel, by decide +kernel⟩
theorem ms_X12_isTimes : Cond.static yX12_isTimes ∈ lw_tbl := ik_in7 (List.mem_of_getElem? (i := 176) rfl)
theorem ml_X12_286 : Cond.methodLink RX12 286 yX12_isPlus ∈ lw_tbl := ik_in7 (List.mem_of_getElem? (i := 178) rfl)
theorem mf_X12_isPlus : ik_MF yX12_isPlus cX12_isPlus 1 (some .boolean) 1 := ⟨ik_in7 (List.mem_of_getElem? (i := 180) rfl), ik_in1 (List.mem_of_getElem? (i := 14) rfl), by decide +kernel, by decide +kernel, by decide +kernel⟩
theorem ms_X12_isPlus : Cond.static yX12_isPlus ∈ lw_tbl := ik_in7 (List.mem_of_getElem? (i := 179) rfl)
theorem ml_X12_280 : Cond.methodLink RX12 280 yX12_top ∈ lw_tbl := ik_in7 (List.mem_of_getElem? (i := 185) rfl)
theorem mf_X12_top : ik_MF yX12_top cX12_top 1 (some .int) 0 := ⟨ik_in7 (List.mem_of_getElem? (i := 188) rfl), ik_in1 (List.mem_of_getElem? (i := 14) rfl), by decide +kernel, by decide +kernel, by decide +kernel⟩
theorem mv_X12_top : ik_MV yX12_top := ⟨ik_in7 (List.mem_of_getElem? (i := 187) rfl), ik_inS (List.mem_of_getElem? (i := 64) (by decide +kernel))⟩
theorem ml_X12_301 : Cond.methodLink RX12 301 yX12_sums ∈ lw_tbl := ik_in7 (List.mem_of_getElem? (i := 181) rfl)
theorem mf_X12_sums : ik_MF yX12_sums cX12_sums 2 (none) 1 := ⟨ik_in7 (List.mem_of_getElem? (i := 184) rfl), ik_in1 (List.mem_of_getElem? (i := 14) rfl), by decide +kernel, by decide +kernel, by decide +kernel⟩
theorem mv_X12_sums : ik_MV yX12_sums := ⟨ik_in7 (List.mem_of_getElem? (i := 183) rfl), ik_inS (List.mem_of_getElem? (i := 63) (by decide +kernel))⟩
theorem ml_X12_309 : Cond.methodLink RX12 309 yX12_isSign ∈ lw_tbl := ik_in7 (List.mem_of_getElem? (i := 189) rfl)
theorem mf_X12_isSign : ik_MF yX12_isSign cX12_isSign 1 (some .boolean) 1 := ⟨ik_in7 (List.mem_of_getElem? (i := 191) rfl), ik_in1 (List.mem_of_getElem? (i := 14) rfl), by decide +kernel, by decide +kernel, by decide +kernel⟩
theorem ms_X12_isSign : Cond.static yX12_isSign ∈ lw_tbl := ik_in7 (List.mem_of_getElem? (i := 190) rfl)
theorem ml_X12_315 : Cond.methodLink RX12 315 yX12_goesOn ∈ lw_tbl := ik_in7 (List.mem_of_getElem? (i := 171) rfl)
theorem mf_X12_goesOn : ik_MF yX12_goesOn cX12_goesOn 2 (some .boolean) 0 := ⟨ik_in7 (List.mem_of_getElem? (i := 174) rfl), ik_in1 (List.mem_of_getElem? (i := 14) rfl), by decide +kernel, by decide +kernel, by decide +kernel⟩
theorem mv_X12_goesOn : ik_MV yX12_goesOn := ⟨ik_in7 (List.mem_of_getElem? (i := 173) rfl), ik_inS (List.mem_of_getElem? (i := 62) (by decide +kernel))⟩
theorem ml_X12_318 : Cond.methodLink RX12 318 yX12_ends ∈ lw_tbl := ik_in7 (List.mem_of_getElem? (i := 192) rfl)
theorem mf_X12_ends : ik_MF yX12_ends cX12_ends 1 (none) 0 := ⟨ik_in7 (List.mem_of_getElem? (i := 195) rfl), ik_in1 (List.mem_of_getElem? (i := 14) rfl), by decide +kernel, by decide +kernel, by decide +kernel⟩
theorem mv_X12_ends : ik_MV yX12_ends := ⟨ik_in7 (List.mem_of_getElem? (i := 194) rfl), ik_inS (List.mem_of_getElem? (i := 65) (by decide +kernel))⟩
theorem ml_X12_327 : Cond.methodLink RX12 327 yX12_pieceOfC ∈ lw_tbl := ik_in7 (List.mem_of_getElem? (i := 152) rfl)
theorem mf_X12_pieceOfC : ik_MF yX12_pieceOfC cX12_pieceOfC 2 (none) 0 := ⟨ik_in7 (List.mem_of_getElem? (i := 155) rfl), ik_in1 (List.mem_of_getElem? (i := 14) rfl), by decide +kernel, by decide +kernel, by decide +kernel⟩
theorem mv_X12_pieceOfC : ik_MV yX12_pieceOfC := ⟨ik_in7 (List.mem_of_getElem? (i := 154) rfl), ik_inS (List.mem_of_getElem? (i := 58) (by decide +kernel))⟩
theorem ml_X12_321 : Cond.methodLink RX12 321 yX12_joins ∈ lw_tbl := ik_in7 (List.mem_of_getElem? (i := 200) rfl)
theorem mf_X12_joins : ik_MF yX12_joins cX12_joins 2 (none) 1 := ⟨ik_in7 (List.mem_of_getElem? (i := 203) rfl), ik_in1 (List.mem_of_getElem? (i := 14) rfl), by decide +kernel, by decide +kernel, by decide +kernel⟩
theorem mv_X12_joins : ik_MV yX12_joins := ⟨ik_in7 (List.mem_of_getElem? (i := 202) rfl), ik_inS (List.mem_of_getElem? (i := 67) (by decide +kernel))⟩
theorem ml_X12_330 : Cond.methodLink RX12 330 yX12_goesBehind ∈ lw_tbl := ik_in7 (List.mem_of_getElem? (i := 196) rfl)
theorem mf_X12_goesBehind : ik_MF yX12_goesBehind cX12_goesBehind 2 (some .boolean) 0 := ⟨ik_in7 (List.mem_of_getElem? (i := 199) rfl), ik_in1 (List.mem_of_getElem? (i := 14) rfl), by decide +kernel, by decide +kernel, by decide +kernel⟩
theorem mv_X12_goesBehind : ik_MV yX12_goesBehind := ⟨ik_in7 (List.mem_of_getElem? (i := 198) rfl), ik_inS (List.mem_of_getElem? (i := 66) (by decide +kernel))⟩
theorem ml_X12_336 : Cond.methodLink RX12 336 yX12_condition ∈ lw_tbl := ik_in7 (List.mem_of_getElem? (i := 140) rfl)
theorem mf_X12_condition : ik_MF yX12_condition cX12_condition 2 (none) 0 := ⟨ik_in7 (List.mem_of_getElem? (i := 143) rfl), ik_in1 (List.mem_of_getElem? (i := 14) rfl), by decide +kernel, by decide +kernel, by decide +kernel⟩
theorem mv_X12_condition : ik_MV yX12_condition := ⟨ik_in7 (List.mem_of_getElem? (i := 142) rfl), ik_inS (List.mem_of_getElem? (i := 55) (by decide +kernel))⟩
theorem fl_X12_96 : ik_FL RX12 96 12 43 := ⟨RX12, TX12, 77, tyX12, rfl, by decide, inX12, tyX12_ok, nmX12, rfl, ik_in6 (List.mem_of_getElem? (i := 99) rfl)⟩
theorem ml_X12_339 : Cond.methodLink RX12 339 yX12_clause ∈ lw_tbl := ik_in7 (List.mem_of_getElem? (i := 136) rfl)
theorem mf_X12_clause : ik_MF yX12_clause cX12_clause 2 (none) 0 := ⟨ik_in7 (List.mem_of_getElem? (i := 139) rfl), ik_in1 (List.mem_of_getElem? (i := 14) rfl), by decide +kernel, by decide +kernel, by decide +kernel⟩
theorem mv_X12_clause : ik_MV yX12_clause := ⟨ik_in7 (List.mem_of_getElem? (i := 138) rfl), ik_inS (List.mem_of_getElem? (i := 54) (by decide +kernel))⟩
theorem fl_X12_75 : ik_FL RX12 75 12 36 := ⟨RX12, TX12, 77, tyX12, rfl, by decide, inX12, tyX12_ok, nmX12, rfl, ik_in6 (List.mem_of_getElem? (i := 92) rfl)⟩
theorem fl_X12_78 : ik_FL RX12 78 12 37 := ⟨RX12, TX12, 77, tyX12, rfl, by decide, inX12, tyX12_ok, nmX12, rfl, ik_in6 (List.mem_of_getElem? (i := 93) rfl)⟩
theorem fl_X12_81 : ik_FL RX12 81 12 38 := ⟨RX12, TX12, 77, tyX12, rfl, by decide, inX12, tyX12_ok, nmX12, rfl, ik_in6 (List.mem_of_getElem? (i := 94) rfl)⟩
theorem fl_X12_84 : ik_FL RX12 84 12 39 := ⟨RX12, TX12, 77, tyX12, rfl, by decide, inX12, tyX12_ok, nmX12, rfl, ik_in6 (List.mem_of_getElem? (i := 95) rfl)⟩
theorem fl_X12_87 : ik_FL RX12 87 12 40 := ⟨RX12, TX12, 77, tyX12, rfl, by decide, inX12, tyX12_ok, nmX12, rfl, ik_in6 (List.mem_of_getElem? (i := 96) rfl)⟩
theorem fw_X12_342 : ik_FW RX12 342 12 5 0 := ⟨RX12, TX12, 77, tyX12, rfl, by decide, inX12, tyX12_ok, nmX12, rfl, ik_in6 (List.mem_of_getElem? (i := 61) rfl), rfl, rfl⟩
theorem fl_X12_364 : ik_FL RX12 364 12 6 := ⟨RX12, TX12, 77, tyX12, rfl, by decide, inX12, tyX12_ok, nmX12, rfl, ik_in6 (List.mem_of_getElem? (i := 62) rfl)⟩
theorem kc_X12_367 : Cond.constantLong RX12 367 (2) ∈ lw_tbl := ik_in7 (List.mem_of_getElem? (i := 208) rfl)
theorem ml_X12_369 : Cond.methodLink RX12 369 yX12_isBar ∈ lw_tbl := ik_in7 (List.mem_of_getElem? (i := 209) rfl)
theorem mf_X12_isBar : ik_MF yX12_isBar cX12_isBar 2 (some .boolean) 1 := ⟨ik_in7 (List.mem_of_getElem? (i := 212) rfl), ik_in1 (List.mem_of_getElem? (i := 14) rfl), by decide +kernel, by decide +kernel, by decide +kernel⟩
theorem mv_X12_isBar : ik_MV yX12_isBar := ⟨ik_in7 (List.mem_of_getElem? (i := 211) rfl), ik_inS (List.mem_of_getElem? (i := 68) (by decide +kernel))⟩
theorem fl_X12_114 : ik_FL RX12 114 12 57 := ⟨RX12, TX12, 77, tyX12, rfl, by decide, inX12, tyX12_ok, nmX12, rfl, ik_in6 (List.mem_of_getElem? (i := 113) rfl)⟩
theorem fl_X12_117 : ik_FL RX12 117 12 58 := ⟨RX12, TX12, 77, tyX12, rfl, by decide, inX12, tyX12_ok, nmX12, rfl, ik_in6 (List.mem_of_getElem? (i := 114) rfl)⟩
theorem fl_X12_120 : ik_FL RX12 120 12 59 := ⟨RX12, TX12, 77, tyX12, rfl, by decide, inX12, tyX12_ok, nmX12, rfl, ik_in6 (List.mem_of_getElem? (i := 115) rfl)⟩
theorem fw_X12_364 : ik_FW RX12 364 12 6 0 := ⟨RX12, TX12, 77, tyX12, rfl, by decide, inX12, tyX12_ok, nmX12, rfl, ik_in6 (List.mem_of_getElem? (i := 62) rfl), rfl, rfl⟩
theorem fl_X12_372 : ik_FL RX12 372 12 7 := ⟨RX12, TX12, 77, tyX12, rfl, by decide, inX12, tyX12_ok, nmX12, rfl, ik_in6 (List.mem_of_getElem? (i := 63) rfl)⟩
theorem fl_X12_123 : ik_FL RX12 123 12 60 := ⟨RX12, TX12, 77, tyX12, rfl, by decide, inX12, tyX12_ok, nmX12, rfl, ik_in6 (List.mem_of_getElem? (i := 116) rfl)⟩
theorem fl_X12_126 : ik_FL RX12 126 12 61 := ⟨RX12, TX12, 77, tyX12, rfl, by decide, inX12, tyX12_ok, nmX12, rfl, ik_in6 (List.mem_of_getElem? (i := 117) rfl)⟩
theorem fl_X12_129 : ik_FL RX12 129 12 62 := ⟨RX12, TX12, 77, tyX12, rfl, by decide, inX12, tyX12_ok, nmX12, rfl, ik_in6 (List.mem_of_getElem? (i := 118) rfl)⟩
theorem fw_X12_372 : ik_FW RX12 372 12 7 0 := ⟨RX12, TX12, 77, tyX12, rfl, by decide, inX12, tyX12_ok, nmX12, rfl, ik_in6 (List.mem_of_getElem? (i := 63) rfl), rfl, rfl⟩
theorem fl_X12_375 : ik_FL RX12 375 12 8 := ⟨RX12, TX12, 77, tyX12, rfl, by decide, inX12, tyX12_ok, nmX12, rfl, ik_in6 (List.mem_of_getElem? (i := 64) rfl)⟩
theorem kc_X12_180 : Cond.constantLong RX12 180 (3) ∈ lw_tbl := ik_in7 (List.mem_of_getElem? (i := 224) rfl)
theorem ml_X12_378 : Cond.methodLink RX12 378 yX12_isHouse ∈ lw_tbl := ik_in7 (List.mem_of_getElem? (i := 221) rfl)
theorem mf_X12_isHouse : ik_MF yX12_isHouse cX12_isHouse 1 (some .boolean) 1 := ⟨ik_in7 (List.mem_of_getElem? (i := 223) rfl), ik_in1 (List.mem_of_getElem? (i := 14) rfl), by decide +kernel, by decide +kernel, by decide +kernel⟩
theorem ms_X12_isHouse : Cond.static yX12_isHouse ∈ lw_tbl := ik_in7 (List.mem_of_getElem? (i := 222) rfl)
theorem fl_X12_132 : ik_FL RX12 132 12 63 := ⟨RX12, TX12, 77, tyX12, rfl, by decide, inX12, tyX12_ok, nmX12, rfl, ik_in6 (List.mem_of_getElem? (i := 119) rfl)⟩
theorem fl_X12_135 : ik_FL RX12 135 12 64 := ⟨RX12, TX12, 77, tyX12, rfl, by decide, inX12, tyX12_ok, nmX12, rfl, ik_in6 (List.mem_of_getElem? (i := 120) rfl)⟩
theorem fl_X12_138 : ik_FL RX12 138 12 65 := ⟨RX12, TX12, 77, tyX12, rfl, by decide, inX12, tyX12_ok, nmX12, rfl, ik_in6 (List.mem_of_getElem? (i := 121) rfl)⟩
theorem fw_X12_375 : ik_FW RX12 375 12 8 0 := ⟨RX12, TX12, 77, tyX12, rfl, by decide, inX12, tyX12_ok, nmX12, rfl, ik_in6 (List.mem_of_getElem? (i := 64) rfl), rfl, rfl⟩
theorem ml_X12_381 : Cond.methodLink RX12 381 yX12_habitOf ∈ lw_tbl := ik_in7 (List.mem_of_getElem? (i := 229) rfl)
theorem mf_X12_habitOf : ik_MF yX12_habitOf cX12_habitOf 7 (some .int) 2 := ⟨ik_in7 (List.mem_of_getElem? (i := 232) rfl), ik_in1 (List.mem_of_getElem? (i := 14) rfl), by decide +kernel, by decide +kernel, by decide +kernel⟩
theorem mv_X12_habitOf : ik_MV yX12_habitOf := ⟨ik_in7 (List.mem_of_getElem? (i := 231) rfl), ik_inS (List.mem_of_getElem? (i := 69) (by decide +kernel))⟩
theorem fw_X12_385 : ik_FW RX12 385 12 11 0 := ⟨RX12, TX12, 77, tyX12, rfl, by decide, inX12, tyX12_ok, nmX12, rfl, ik_in6 (List.mem_of_getElem? (i := 67) rfl), rfl, rfl⟩
theorem fl_X12_385 : ik_FL RX12 385 12 11 := ⟨RX12, TX12, 77, tyX12, rfl, by decide, inX12, tyX12_ok, nmX12, rfl, ik_in6 (List.mem_of_getElem? (i := 67) rfl)⟩
theorem ml_X12_388 : Cond.methodLink RX12 388 yX12_isWord ∈ lw_tbl := ik_in8 (List.mem_of_getElem? (i := 9) rfl)
theorem mf_X12_isWord : ik_MF yX12_isWord cX12_isWord 5 (some .boolean) 3 := ⟨ik_in8 (List.mem_of_getElem? (i := 12) rfl), ik_in1 (List.mem_of_getElem? (i := 14) rfl), by decide +kernel, by decide +kernel, by decide +kernel⟩
theorem mv_X12_isWord : ik_MV yX12_isWord := ⟨ik_in8 (List.mem_of_getElem? (i := 11) rfl), ik_inS (List.mem_of_getElem? (i := 72) (by decide +kernel))⟩
theorem ml_X12_348 : Cond.methodLink RX12 348 yX12_isVowel ∈ lw_tbl := ik_in8 (List.mem_of_getElem? (i := 13) rfl)
theorem mf_X12_isVowel : ik_MF yX12_isVowel cX12_isVowel 3 (some .boolean) 1 := ⟨ik_in8 (List.mem_of_getElem? (i := 16) rfl), ik_in1 (List.mem_of_getElem? (i := 14) rfl), by decide +kernel, by decide +kernel, by decide +kernel⟩
theorem mv_X12_isVowel : ik_MV yX12_isVowel := ⟨ik_in8 (List.mem_of_getElem? (i := 15) rfl), ik_inS (List.mem_of_getElem? (i := 73) (by decide +kernel))⟩
theorem ml_X12_395 : Cond.methodLink RX12 395 yX12_isAgainstGrammar ∈ lw_tbl := ik_in8 (List.mem_of_getElem? (i := 5) rfl)
theorem mf_X12_isAgainstGrammar : ik_MF yX12_isAgainstGrammar cX12_isAgainstGrammar 6 (some .boolean) 2 := ⟨ik_in8 (List.mem_of_getElem? (i := 8) rfl), ik_in1 (List.mem_of_getElem? (i := 14) rfl), by decide +kernel, by decide +kernel, by decide +kernel⟩
theorem mv_X12_isAgainstGrammar : ik_MV yX12_isAgainstGrammar := ⟨ik_in8 (List.mem_of_getElem? (i := 7) rfl), ik_inS (List.mem_of_getElem? (i := 71) (by decide +kernel))⟩
theorem fw_X12_351 : ik_FW RX12 351 12 53 0 := ⟨RX12, TX12, 77, tyX12, rfl, by decide, inX12, tyX12_ok, nmX12, rfl, ik_in6 (List.mem_of_getElem? (i := 109) rfl), rfl, rfl⟩
theorem fw_X12_345 : ik_FW RX12 345 12 54 0 := ⟨RX12, TX12, 77, tyX12, rfl, by decide, inX12, tyX12_ok, nmX12, rfl, ik_in6 (List.mem_of_getElem? (i := 110) rfl), rfl, rfl⟩
theorem fl_X12_342 : ik_FL RX12 342 12 5 := ⟨RX12, TX12, 77, tyX12, rfl, by decide, inX12, tyX12_ok, nmX12, rfl, ik_in6 (List.mem_of_getElem? (i := 61) rfl)⟩
theorem fl_X12_111 : ik_FL RX12 111 12 56 := ⟨RX12, TX12, 77, tyX12, rfl, by decide, inX12, tyX12_ok, nmX12, rfl, ik_in6 (List.mem_of_getElem? (i := 112) rfl)⟩
theorem fl_X12_108 : ik_FL RX12 108 12 55 := ⟨RX12, TX12, 77, tyX12, rfl, by decide, inX12, tyX12_ok, nmX12, rfl, ik_in6 (List.mem_of_getElem? (i := 111) rfl)⟩
theorem ml_X12_354 : Cond.methodLink RX12 354 yX12_worked ∈ lw_tbl := ik_in8 (List.mem_of_getElem? (i := 29) rfl)
theorem mf_X12_worked : ik_MF yX12_worked cX12_worked 3 (some .int) 3 := ⟨ik_in8 (List.mem_of_getElem? (i := 31) rfl), ik_in1 (List.mem_of_getElem? (i := 14) rfl), by decide +kernel, by decide +kernel, by decide +kernel⟩
theorem ms_X12_worked : Cond.static yX12_worked ∈ lw_tbl := ik_in8 (List.mem_of_getElem? (i := 30) rfl)
theorem ml_X12_358 : Cond.methodLink RX12 358 yX12_does ∈ lw_tbl := ik_in8 (List.mem_of_getElem? (i := 25) rfl)
theorem mf_X12_does : ik_MF yX12_does cX12_does 4 (none) 2 := ⟨ik_in8 (List.mem_of_getElem? (i := 28) rfl), ik_in1 (List.mem_of_getElem? (i := 14) rfl), by decide +kernel, by decide +kernel, by decide +kernel⟩
theorem mv_X12_does : ik_MV yX12_does := ⟨ik_in8 (List.mem_of_getElem? (i := 27) rfl), ik_inS (List.mem_of_getElem? (i := 76) (by decide +kernel))⟩
theorem fl_X12_345 : ik_FL RX12 345 12 54 := ⟨RX12, TX12, 77, tyX12, rfl, by decide, inX12, tyX12_ok, nmX12, rfl, ik_in6 (List.mem_of_getElem? (i := 110) rfl)⟩
theorem fl_X12_351 : ik_FL RX12 351 12 53 := ⟨RX12, TX12, 77, tyX12, rfl, by decide, inX12, tyX12_ok, nmX12, rfl, ik_in6 (List.mem_of_getElem? (i := 109) rfl)⟩
theorem ml_X12_361 : Cond.methodLink RX12 361 yX12_valueOf ∈ lw_tbl := ik_in8 (List.mem_of_getElem? (i := 32) rfl)
theorem mf_X12_valueOf : ik_MF yX12_valueOf cX12_valueOf 3 (some .int) 1 := ⟨ik_in8 (List.mem_of_getElem? (i := 35) rfl), ik_in1 (List.mem_of_getElem? (i := 14) rfl), by decide +kernel, by decide +kernel, by decide +kernel⟩
theorem mv_X12_valueOf : ik_MV yX12_valueOf := ⟨ik_in8 (List.mem_of_getElem? (i := 34) rfl), ik_inS (List.mem_of_getElem? (i := 77) (by decide +kernel))⟩
theorem ml_X12_392 : Cond.methodLink RX12 392 yX12_holds ∈ lw_tbl := ik_in8 (List.mem_of_getElem? (i := 21) rfl)
theorem mf_X12_holds : ik_MF yX12_holds cX12_holds 4 (some .boolean) 1 := ⟨ik_in8 (List.mem_of_getElem? (i := 24) rfl), ik_in1 (List.mem_of_getElem? (i := 14) rfl), by decide +kernel, by decide +kernel, by decide +kernel⟩
theorem mv_X12_holds : ik_MV yX12_holds := ⟨ik_in8 (List.mem_of_getElem? (i := 23) rfl), ik_inS (List.mem_of_getElem? (i := 75) (by decide +kernel))⟩
theorem ml_X12_399 : Cond.methodLink RX12 399 yX12_isAgainstRules ∈ lw_tbl := ik_in8 (List.mem_of_getElem? (i := 17) rfl)
theorem mf_X12_isAgainstRules : ik_MF yX12_isAgainstRules cX12_isAgainstRules 4 (some .boolean) 2 := ⟨ik_in8 (List.mem_of_getElem? (i := 20) rfl), ik_in1 (List.mem_of_getElem? (i := 14) rfl), by decide +kernel, by decide +kernel, by decide +kernel⟩
theorem mv_X12_isAgainstRules : ik_MV yX12_isAgainstRules := ⟨ik_in8 (List.mem_of_getElem? (i := 19) rfl), ik_inS (List.mem_of_getElem? (i := 74) (by decide +kernel))⟩
theorem ml_X12_402 : Cond.methodLink RX12 402 yX12_isAgainstLists ∈ lw_tbl := ik_in8 (List.mem_of_getElem? (i := 36) rfl)
theorem mf_X12_isAgainstLists : ik_MF yX12_isAgainstLists cX12_isAgainstLists 4 (some .boolean) 2 := ⟨ik_in8 (List.mem_of_getElem? (i := 39) rfl), ik_in1 (List.mem_of_getElem? (i := 14) rfl), by decide +kernel, by decide +kernel, by decide +kernel⟩
theorem mv_X12_isAgainstLists : ik_MV yX12_isAgainstLists := ⟨ik_in8 (List.mem_of_getElem? (i := 38) rfl), ik_inS (List.mem_of_getElem? (i := 78) (by decide +kernel))⟩
theorem ml_X12_405 : Cond.methodLink RX12 405 yX12_has ∈ lw_tbl := ik_in8 (List.mem_of_getElem? (i := 40) rfl)
theorem mf_X12_has : ik_MF yX12_has cX12_has 2 (some .boolean) 2 := ⟨ik_in8 (List.mem_of_getElem? (i := 42) rfl), ik_in1 (List.mem_of_getElem? (i := 14) rfl), by decide +kernel, by decide +kernel, by decide +kernel⟩
theorem ms_X12_has : Cond.static yX12_has ∈ lw_tbl := ik_in8 (List.mem_of_getElem? (i := 41) rfl)
theorem ml_X12_408 : Cond.methodLink RX12 408 yX12_againstOf ∈ lw_tbl := ik_in8 (List.mem_of_getElem? (i := 1) rfl)
theorem mf_X12_againstOf : ik_MF yX12_againstOf cX12_againstOf 6 (some .int) 2 := ⟨ik_in8 (List.mem_of_getElem? (i := 4) rfl), ik_in1 (List.mem_of_getElem? (i := 14) rfl), by decide +kernel, by decide +kernel, by decide +kernel⟩
theorem mv_X12_againstOf : ik_MV yX12_againstOf := ⟨ik_in8 (List.mem_of_getElem? (i := 3) rfl), ik_inS (List.mem_of_getElem? (i := 70) (by decide +kernel))⟩
theorem ml_X12_414 : Cond.methodLink RX12 414 yX12_rowsOf ∈ lw_tbl := ik_in8 (List.mem_of_getElem? (i := 47) rfl)
theorem mf_X12_rowsOf : ik_MF yX12_rowsOf cX12_rowsOf 3 (some .int) 0 := ⟨ik_in8 (List.mem_of_getElem? (i := 50) rfl), ik_in1 (List.mem_of_getElem? (i := 14) rfl), by decide +kernel, by decide +kernel, by decide +kernel⟩
theorem mv_X12_rowsOf : ik_MV yX12_rowsOf := ⟨ik_in8 (List.mem_of_getElem? (i := 49) rfl), ik_inS (List.mem_of_getElem? (i := 79) (by decide +kernel))⟩
theorem fl_X12_69 : ik_FL RX12 69 12 33 := ⟨RX12, TX12, 77, tyX12, rfl, by decide, inX12, tyX12_ok, nmX12, rfl, ik_in6 (List.mem_of_getElem? (i := 89) rfl)⟩
theorem ml_X12_417 : Cond.methodLink RX12 417 yX12_takes ∈ lw_tbl := ik_in8 (List.mem_of_getElem? (i := 51) rfl)
theorem mf_X12_takes : ik_MF yX12_takes cX12_takes 4 (some .boolean) 1 := ⟨ik_in8 (List.mem_of_getElem? (i := 54) rfl), ik_in1 (List.mem_of_getElem? (i := 14) rfl), by decide +kernel, by decide +kernel, by decide +kernel⟩
theorem mv_X12_takes : ik_MV yX12_takes := ⟨ik_in8 (List.mem_of_getElem? (i := 53) rfl), ik_inS (List.mem_of_getElem? (i := 80) (by decide +kernel))⟩
theorem fl_X12_141 : ik_FL RX12 141 12 66 := ⟨RX12, TX12, 77, tyX12, rfl, by decide, inX12, tyX12_ok, nmX12, rfl, ik_in6 (List.mem_of_getElem? (i := 122) rfl)⟩
theorem ml_X12_420 : Cond.methodLink RX12 420 yX12_asks ∈ lw_tbl := ik_in8 (List.mem_of_getElem? (i := 55) rfl)
theorem mf_X12_asks : ik_MF yX12_asks cX12_asks 3 (none) 0 := ⟨ik_in8 (List.mem_of_getElem? (i := 58) rfl), ik_in1 (List.mem_of_getElem? (i := 14) rfl), by decide +kernel, by decide +kernel, by decide +kernel⟩
theorem mv_X12_asks : ik_MV yX12_asks := ⟨ik_in8 (List.mem_of_getElem? (i := 57) rfl), ik_inS (List.mem_of_getElem? (i := 81) (by decide +kernel))⟩
theorem fw_X12_259 : ik_FW RX12 259 12 34 0 := ⟨RX12, TX12, 77, tyX12, rfl, by decide, inX12, tyX12_ok, nmX12, rfl, ik_in6 (List.mem_of_getElem? (i := 90) rfl), rfl, rfl⟩
theorem ml_X12_262 : Cond.methodLink RX12 262 yX12_wideOfToken ∈ lw_tbl := ik_in8 (List.mem_of_getElem? (i := 71) rfl)
theorem mf_X12_wideOfToken : ik_MF yX12_wideOfToken cX12_wideOfToken 8 (some .int) 2 := ⟨ik_in8 (List.mem_of_getElem? (i := 74) rfl), ik_in1 (List.mem_of_getElem? (i := 14) rfl), by decide +kernel, by decide +kernel, by decide +kernel⟩
theorem mv_X12_wideOfToken : ik_MV yX12_wideOfToken := ⟨ik_in8 (List.mem_of_getElem? (i := 73) rfl), ik_inS (List.mem_of_getElem? (i := 85) (by decide +kernel))⟩
theorem fl_X12_72 : ik_FL RX12 72 12 35 := ⟨RX12, TX12, 77, tyX12, rfl, by decide, inX12, tyX12_ok, nmX12, rfl, ik_in6 (List.mem_of_getElem? (i := 91) rfl)⟩
theorem fl_X12_259 : ik_FL RX12 259 12 34 := ⟨RX12, TX12, 77, tyX12, rfl, by decide, inX12, tyX12_ok, nmX12, rfl, ik_in6 (List.mem_of_getElem? (i := 90) rfl)⟩
theorem ml_X12_265 : Cond.methodLink RX12 265 yX12_sets ∈ lw_tbl := ik_in8 (List.mem_of_getElem? (i := 67) rfl)
theorem mf_X12_sets : ik_MF yX12_sets cX12_sets 5 (none) 1 := ⟨ik_in8 (List.mem_of_getElem? (i := 70) rfl), ik_in1 (List.mem_of_getElem? (i := 14) rfl), by decide +kernel, by decide +kernel, by decide +kernel⟩
theorem mv_X12_sets : ik_MV yX12_sets := ⟨ik_in8 (List.mem_of_getElem? (i := 69) rfl), ik_inS (List.mem_of_getElem? (i := 84) (by decide +kernel))⟩
theorem ml_X12_411 : Cond.methodLink RX12 411 yX12_breaksSo ∈ lw_tbl := ik_in8 (List.mem_of_getElem? (i := 63) rfl)
theorem mf_X12_breaksSo : ik_MF yX12_breaksSo cX12_breaksSo 5 (some .boolean) 1 := ⟨ik_in8 (List.mem_of_getElem? (i := 66) rfl), ik_in1 (List.mem_of_getElem? (i := 14) rfl), by decide +kernel, by decide +kernel, by decide +kernel⟩
theorem mv_X12_breaksSo : ik_MV yX12_breaksSo := ⟨ik_in8 (List.mem_of_getElem? (i := 65) rfl), ik_inS (List.mem_of_getElem? (i := 83) (by decide +kernel))⟩
theorem ml_X12_423 : Cond.methodLink RX12 423 yX12_speaks ∈ lw_tbl := ik_in8 (List.mem_of_getElem? (i := 59) rfl)
theorem mf_X12_speaks : ik_MF yX12_speaks cX12_speaks 7 (some .int) 2 := ⟨ik_in8 (List.mem_of_getElem? (i := 62) rfl), ik_in1 (List.mem_of_getElem? (i := 14) rfl), by decide +kernel, by decide +kernel, by decide +kernel⟩
theorem mv_X12_speaks : ik_MV yX12_speaks := ⟨ik_in8 (List.mem_of_getElem? (i := 61) rfl), ik_inS (List.mem_of_getElem? (i := 82) (by decide +kernel))⟩
theorem ml_X12_426 : Cond.methodLink RX12 426 yX12_isSheet ∈ lw_tbl := ik_in8 (List.mem_of_getElem? (i := 79) rfl)
theorem mf_X12_isSheet : ik_MF yX12_isSheet cX12_isSheet 2 (some .boolean) 1 := ⟨ik_in8 (List.mem_of_getElem? (i := 82) rfl), ik_in1 (List.mem_of_getElem? (i := 14) rfl), by decide +kernel, by decide +kernel, by decide +kernel⟩
theorem mv_X12_isSheet : ik_MV yX12_isSheet := ⟨ik_in8 (List.mem_of_getElem? (i := 81) rfl), ik_inS (List.mem_of_getElem? (i := 86) (by decide +kernel))⟩
theorem kc_X12_445 : Cond.constantLong RX12 445 (63) ∈ lw_tbl := ik_in8 (List.mem_of_getElem? (i := 87) rfl)
theorem fw_X12_429 : ik_FW RX12 429 12 67 0 := ⟨RX12, TX12, 77, tyX12, rfl, by decide, inX12, tyX12_ok, nmX12, rfl, ik_in6 (List.mem_of_getElem? (i := 123) rfl), rfl, rfl⟩
theorem fw_X12_432 : ik_FW RX12 432 12 69 1 := ⟨RX12, TX12, 77, tyX12, rfl, by decide, inX12, tyX12_ok, nmX12, rfl, ik_in6 (List.mem_of_getElem? (i := 125) rfl), rfl, rfl⟩
theorem fl_X12_144 : ik_FL RX12 144 12 70 := ⟨RX12, TX12, 77, tyX12, rfl, by decide, inX12, tyX12_ok, nmX12, rfl, ik_in6 (List.mem_of_getElem? (i := 126) rfl)⟩
theorem ml_X12_436 : Cond.methodLink RX12 436 yX12_begins ∈ lw_tbl := ik_in8 (List.mem_of_getElem? (i := 92) rfl)
theorem mf_X12_begins : ik_MF yX12_begins cX12_begins 2 (some .boolean) 0 := ⟨ik_in8 (List.mem_of_getElem? (i := 95) rfl), ik_in1 (List.mem_of_getElem? (i := 14) rfl), by decide +kernel, by decide +kernel, by decide +kernel⟩
theorem mv_X12_begins : ik_MV yX12_begins := ⟨ik_in8 (List.mem_of_getElem? (i := 94) rfl), ik_inS (List.mem_of_getElem? (i := 88) (by decide +kernel))⟩
theorem ml_X12_439 : Cond.methodLink RX12 439 yX12_tableOf ∈ lw_tbl := ik_in8 (List.mem_of_getElem? (i := 96) rfl)
theorem mf_X12_tableOf : ik_MF yX12_tableOf cX12_tableOf 3 (some .int) 0 := ⟨ik_in8 (List.mem_of_getElem? (i := 99) rfl), ik_in1 (List.mem_of_getElem? (i := 14) rfl), by decide +kernel, by decide +kernel, by decide +kernel⟩
theorem mv_X12_tableOf : ik_MV yX12_tableOf := ⟨ik_in8 (List.mem_of_getElem? (i := 98) rfl), ik_inS (List.mem_of_getElem? (i := 89) (by decide +kernel))⟩
theorem ml_X12_442 : Cond.methodLink RX12 442 yX12_goesOnNames ∈ lw_tbl := ik_in8 (List.mem_of_getElem? (i := 100) rfl)
theorem mf_X12_goesOnNames : ik_MF yX12_goesOnNames cX12_goesOnNames 2 (some .boolean) 0 := ⟨ik_in8 (List.mem_of_getElem? (i := 103) rfl), ik_in1 (List.mem_of_getElem? (i := 14) rfl), by decide +kernel, by decide +kernel, by decide +kernel⟩
theorem mv_X12_goesOnNames : ik_MV yX12_goesOnNames := ⟨ik_in8 (List.mem_of_getElem? (i := 102) rfl), ik_inS (List.mem_of_getElem? (i := 90) (by decide +kernel))⟩
theorem ml_X12_447 : Cond.methodLink RX12 447 yX12_fills ∈ lw_tbl := ik_in8 (List.mem_of_getElem? (i := 88) rfl)
theorem mf_X12_fills : ik_MF yX12_fills cX12_fills 7 (none) 1 := ⟨ik_in8 (List.mem_of_getElem? (i := 91) rfl), ik_in1 (List.mem_of_getElem? (i := 14) rfl), by decide +kernel, by decide +kernel, by decide +kernel⟩
theorem mv_X12_fills : ik_MV yX12_fills := ⟨ik_in8 (List.mem_of_getElem? (i := 90) rfl), ik_inS (List.mem_of_getElem? (i := 87) (by decide +kernel))⟩
theorem fl_X12_429 : ik_FL RX12 429 12 67 := ⟨RX12, TX12, 77, tyX12, rfl, by decide, inX12, tyX12_ok, nmX12, rfl, ik_in6 (List.mem_of_getElem? (i := 123) rfl)⟩
theorem ml_X12_450 : Cond.methodLink RX12 450 yX12_mayOf ∈ lw_tbl := ik_in8 (List.mem_of_getElem? (i := 108) rfl)
theorem mf_X12_mayOf : ik_MF yX12_mayOf cX12_mayOf 4 (some .int) 1 := ⟨ik_in8 (List.mem_of_getElem? (i := 111) rfl), ik_in1 (List.mem_of_getElem? (i := 14) rfl), by decide +kernel, by decide +kernel, by decide +kernel⟩
theorem mv_X12_mayOf : ik_MV yX12_mayOf := ⟨ik_in8 (List.mem_of_getElem? (i := 110) rfl), ik_inS (List.mem_of_getElem? (i := 91) (by decide +kernel))⟩
theorem fl_X12_432 : ik_FL RX12 432 12 69 := ⟨RX12, TX12, 77, tyX12, rfl, by decide, inX12, tyX12_ok, nmX12, rfl, ik_in6 (List.mem_of_getElem? (i := 125) rfl)⟩
theorem kc_X12_453 : Cond.constantLong RX12 453 (24) ∈ lw_tbl := ik_in8 (List.mem_of_getElem? (i := 124) rfl)
theorem fl_X12_148 : ik_FL RX12 148 12 71 := ⟨RX12, TX12, 77, tyX12, rfl, by decide, inX12, tyX12_ok, nmX12, rfl, ik_in6 (List.mem_of_getElem? (i := 127) rfl)⟩
theorem ml_X12_455 : Cond.methodLink RX12 455 yX12_habits ∈ lw_tbl := ik_in8 (List.mem_of_getElem? (i := 125) rfl)
theorem mf_X12_habits : ik_MF yX12_habits cX12_habits 7 (none) 0 := ⟨ik_in8 (List.mem_of_getElem? (i := 128) rfl), ik_in1 (List.mem_of_getElem? (i := 14) rfl), by decide +kernel, by decide +kernel, by decide +kernel⟩
theorem mv_X12_habits : ik_MV yX12_habits := ⟨ik_in8 (List.mem_of_getElem? (i := 127) rfl), ik_inS (List.mem_of_getElem? (i := 92) (by decide +kernel))⟩
theorem ml_X12_458 : Cond.methodLink RX12 458 yX12_haveAll ∈ lw_tbl := ik_in8 (List.mem_of_getElem? (i := 129) rfl)
theorem mf_X12_haveAll : ik_MF yX12_haveAll cX12_haveAll 6 (some .boolean) 2 := ⟨ik_in8 (List.mem_of_getElem? (i := 132) rfl), ik_in1 (List.mem_of_getElem? (i := 14) rfl), by decide +kernel, by decide +kernel, by decide +kernel⟩
theorem mv_X12_haveAll : ik_MV yX12_haveAll := ⟨ik_in8 (List.mem_of_getElem? (i := 131) rfl), ik_inS (List.mem_of_getElem? (i := 93) (by decide +kernel))⟩
theorem kc_X12_467 : Cond.constantLong RX12 467 (1000) ∈ lw_tbl := ik_in8 (List.mem_of_getElem? (i := 137) rfl)
theorem fw_X12_461 : ik_FW RX12 461 12 68 0 := ⟨RX12, TX12, 77, tyX12, rfl, by decide, inX12, tyX12_ok, nmX12, rfl, ik_in6 (List.mem_of_getElem? (i := 124) rfl), rfl, rfl⟩
theorem ml_X12_464 : Cond.methodLink RX12 464 yX12_sizeOf ∈ lw_tbl := ik_in8 (List.mem_of_getElem? (i := 142) rfl)
theorem mf_X12_sizeOf : ik_MF yX12_sizeOf cX12_sizeOf 3 (some .int) 1 := ⟨ik_in8 (List.mem_of_getElem? (i := 144) rfl), ik_in1 (List.mem_of_getElem? (i := 14) rfl), by decide +kernel, by decide +kernel, by decide +kernel⟩
theorem ms_X12_sizeOf : Cond.static yX12_sizeOf ∈ lw_tbl := ik_in8 (List.mem_of_getElem? (i := 143) rfl)
theorem ml_X12_469 : Cond.methodLink RX12 469 yX12_says ∈ lw_tbl := ik_in8 (List.mem_of_getElem? (i := 138) rfl)
theorem mf_X12_says : ik_MF yX12_says cX12_says 8 (some .int) 2 := ⟨ik_in8 (List.mem_of_getElem? (i := 141) rfl), ik_in1 (List.mem_of_getElem? (i := 14) rfl), by decide +kernel, by decide +kernel, by decide +kernel⟩
theorem mv_X12_says : ik_MV yX12_says := ⟨ik_in8 (List.mem_of_getElem? (i := 140) rfl), ik_inS (List.mem_of_getElem? (i := 94) (by decide +kernel))⟩
theorem fl_X12_461 : ik_FL RX12 461 12 68 := ⟨RX12, TX12, 77, tyX12, rfl, by decide, inX12, tyX12_ok, nmX12, rfl, ik_in6 (List.mem_of_getElem? (i := 124) rfl)⟩
theorem fl_X12_474 : ik_FL RX12 474 12 9 := ⟨RX12, TX12, 77, tyX12, rfl, by decide, inX12, tyX12_ok, nmX12, rfl, ik_in6 (List.mem_of_getElem? (i := 65) rfl)⟩
theorem kc_X12_472 : Cond.constantLong RX12 472 (9999) ∈ lw_tbl := ik_in8 (List.mem_of_getElem? (i := 152) rfl)
theorem ml_X12_477 : Cond.methodLink RX12 477 yX12_isDay ∈ lw_tbl := ik_in8 (List.mem_of_getElem? (i := 149) rfl)
theorem mf_X12_isDay : ik_MF yX12_isDay cX12_isDay 1 (some .boolean) 1 := ⟨ik_in8 (List.mem_of_getElem? (i := 151) rfl), ik_in1 (List.mem_of_getElem? (i := 14) rfl), by decide +kernel, by decide +kernel, by decide +kernel⟩
theorem ms_X12_isDay : Cond.static yX12_isDay ∈ lw_tbl := ik_in8 (List.mem_of_getElem? (i := 150) rfl)
theorem fl_X12_151 : ik_FL RX12 151 12 72 := ⟨RX12, TX12, 77, tyX12, rfl, by decide, inX12, tyX12_ok, nmX12, rfl, ik_in6 (List.mem_of_getElem? (i := 128) rfl)⟩
theorem fl_X12_154 : ik_FL RX12 154 12 73 := ⟨RX12, TX12, 77, tyX12, rfl, by decide, inX12, tyX12_ok, nmX12, rfl, ik_in6 (List.mem_of_getElem? (i := 129) rfl)⟩
theorem fl_X12_157 : ik_FL RX12 157 12 74 := ⟨RX12, TX12, 77, tyX12, rfl, by decide, inX12, tyX12_ok, nmX12, rfl, ik_in6 (List.mem_of_getElem? (i := 130) rfl)⟩
theorem fl_X12_160 : ik_FL RX12 160 12 75 := ⟨RX12, TX12, 77, tyX12, rfl, by decide, inX12, tyX12_ok, nmX12, rfl, ik_in6 (List.mem_of_getElem? (i := 131) rfl)⟩
theorem fw_X12_474 : ik_FW RX12 474 12 9 0 := ⟨RX12, TX12, 77, tyX12, rfl, by decide, inX12, tyX12_ok, nmX12, rfl, ik_in6 (List.mem_of_getElem? (i := 65) rfl), rfl, rfl⟩
theorem ml_X12_480 : Cond.methodLink RX12 480 yX12_openOf ∈ lw_tbl := ik_in8 (List.mem_of_getElem? (i := 157) rfl)
theorem mf_X12_openOf : ik_MF yX12_openOf cX12_openOf 5 (some .int) 2 := ⟨ik_in8 (List.mem_of_getElem? (i := 160) rfl), ik_in1 (List.mem_of_getElem? (i := 14) rfl), by decide +kernel, by decide +kernel, by decide +kernel⟩
theorem mv_X12_openOf : ik_MV yX12_openOf := ⟨ik_in8 (List.mem_of_getElem? (i := 159) rfl), ik_inS (List.mem_of_getElem? (i := 95) (by decide +kernel))⟩
theorem ml_X12_483 : Cond.methodLink RX12 483 yX12_isCopy ∈ lw_tbl := ik_in8 (List.mem_of_getElem? (i := 165) rfl)
theorem mf_X12_isCopy : ik_MF yX12_isCopy cX12_isCopy 2 (some .boolean) 1 := ⟨ik_in8 (List.mem_of_getElem? (i := 168) rfl), ik_in1 (List.mem_of_getElem? (i := 14) rfl), by decide +kernel, by decide +kernel, by decide +kernel⟩
theorem mv_X12_isCopy : ik_MV yX12_isCopy := ⟨ik_in8 (List.mem_of_getElem? (i := 167) rfl), ik_inS (List.mem_of_getElem? (i := 96) (by decide +kernel))⟩
theorem ml_X12_486 : Cond.methodLink RX12 486 yX12_hasCopy ∈ lw_tbl := ik_in8 (List.mem_of_getElem? (i := 181) rfl)
theorem mf_X12_hasCopy : ik_MF yX12_hasCopy cX12_hasCopy 4 (some .boolean) 2 := ⟨ik_in8 (List.mem_of_getElem? (i := 184) rfl), ik_in1 (List.mem_of_getElem? (i := 14) rfl), by decide +kernel, by decide +kernel, by decide +kernel⟩
theorem mv_X12_hasCopy : ik_MV yX12_hasCopy := ⟨ik_in8 (List.mem_of_getElem? (i := 183) rfl), ik_inS (List.mem_of_getElem? (i := 97) (by decide +kernel))⟩
theorem ml_X12_489 : Cond.methodLink RX12 489 yX12_coversOf ∈ lw_tbl := ik_in8 (List.mem_of_getElem? (i := 185) rfl)
theorem mf_X12_coversOf : ik_MF yX12_coversOf cX12_coversOf 5 (some .int) 2 := ⟨ik_in8 (List.mem_of_getElem? (i := 188) rfl), ik_in1 (List.mem_of_getElem? (i := 14) rfl), by decide +kernel, by decide +kernel, by decide +kernel⟩
theorem mv_X12_coversOf : ik_MV yX12_coversOf := ⟨ik_in8 (List.mem_of_getElem? (i := 187) rfl), ik_inS (List.mem_of_getElem? (i := 98) (by decide +kernel))⟩
theorem kc_X12_492 : Cond.constantLong RX12 492 (40) ∈ lw_tbl := ik_in8 (List.mem_of_getElem? (i := 193) rfl)
theorem fl_X12_163 : ik_FL RX12 163 12 76 := ⟨RX12, TX12, 77, tyX12, rfl, by decide, inX12, tyX12_ok, nmX12, rfl, ik_in6 (List.mem_of_getElem? (i := 132) rfl)⟩
theorem fw_X12_494 : ik_FW RX12 494 12 10 0 := ⟨RX12, TX12, 77, tyX12, rfl, by decide, inX12, tyX12_ok, nmX12, rfl, ik_in6 (List.mem_of_getElem? (i := 66) rfl), rfl, rfl⟩
theorem ml_X12_497 : Cond.methodLink RX12 497 yX12_numberAt ∈ lw_tbl := ik_in8 (List.mem_of_getElem? (i := 202) rfl)
theorem mf_X12_numberAt : ik_MF yX12_numberAt cX12_numberAt 4 (some .int) 1 := ⟨ik_in8 (List.mem_of_getElem? (i := 205) rfl), ik_in1 (List.mem_of_getElem? (i := 14) rfl), by decide +kernel, by decide +kernel, by decide +kernel⟩
theorem mv_X12_numberAt : ik_MV yX12_numberAt := ⟨ik_in8 (List.mem_of_getElem? (i := 204) rfl), ik_inS (List.mem_of_getElem? (i := 99) (by decide +kernel))⟩
theorem kc_X12_500 : Cond.constantLong RX12 500 (30) ∈ lw_tbl := ik_in8 (List.mem_of_getElem? (i := 210) rfl)
theorem ml_X12_502 : Cond.methodLink RX12 502 yX12_linesOf ∈ lw_tbl := ik_in8 (List.mem_of_getElem? (i := 211) rfl)
theorem mf_X12_linesOf : ik_MF yX12_linesOf cX12_linesOf 4 (some .int) 1 := ⟨ik_in8 (List.mem_of_getElem? (i := 214) rfl), ik_in1 (List.mem_of_getElem? (i := 14) rfl), by decide +kernel, by decide +kernel, by decide +kernel⟩
theorem mv_X12_linesOf : ik_MV yX12_linesOf := ⟨ik_in8 (List.mem_of_getElem? (i := 213) rfl), ik_inS (List.mem_of_getElem? (i := 100) (by decide +kernel))⟩
theorem fl_X12_494 : ik_FL RX12 494 12 10 := ⟨RX12, TX12, 77, tyX12, rfl, by decide, inX12, tyX12_ok, nmX12, rfl, ik_in6 (List.mem_of_getElem? (i := 66) rfl)⟩
