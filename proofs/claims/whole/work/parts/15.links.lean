theorem fl_X0_9 : jFl RX0 9 4 0 := ⟨by decide, by decide, _, rfl, by decide, Or.inl ⟨RX0, List.mem_of_getElem? (i := 156) (by decide +kernel), Or.inl rfl⟩⟩
theorem fl_X0_15 : jFl RX0 15 4 1 := ⟨by decide, by decide, _, rfl, by decide, Or.inl ⟨RX0, List.mem_of_getElem? (i := 158) (by decide +kernel), Or.inl rfl⟩⟩
theorem fl_X0_18 : jFl RX0 18 4 2 := ⟨by decide, by decide, _, rfl, by decide, Or.inl ⟨RX0, List.mem_of_getElem? (i := 159) (by decide +kernel), Or.inl rfl⟩⟩
theorem fl_X0_23 : jFl RX0 23 4 3 := ⟨by decide, by decide, _, rfl, by decide, Or.inl ⟨RX0, List.mem_of_getElem? (i := 160) (by decide +kernel), Or.inl rfl⟩⟩
theorem fl_X0_26 : jFl RX0 26 4 4 := ⟨by decide, by decide, _, rfl, by decide, Or.inl ⟨RX0, List.mem_of_getElem? (i := 161) (by decide +kernel), Or.inl rfl⟩⟩
theorem fl_X0_29 : jFl RX0 29 4 5 := ⟨by decide, by decide, _, rfl, by decide, Or.inl ⟨RX0, List.mem_of_getElem? (i := 162) (by decide +kernel), Or.inl rfl⟩⟩
theorem fl_X0_32 : jFl RX0 32 4 6 := ⟨by decide, by decide, _, rfl, by decide, Or.inl ⟨RX0, List.mem_of_getElem? (i := 163) (by decide +kernel), Or.inl rfl⟩⟩
theorem fl_X0_56 : jFl RX0 56 8 0 := ⟨by decide, by decide, _, rfl, by decide, Or.inr ⟨RX11, List.mem_of_getElem? (i := 220) (by decide +kernel)⟩⟩
theorem fl_X0_72 : jFl RX0 72 10 0 := ⟨by decide, by decide, _, rfl, by decide, Or.inr ⟨RX11, List.mem_of_getElem? (i := 1101) (by decide +kernel)⟩⟩
theorem fl_X0_86 : jFl RX0 86 10 2 := ⟨by decide, by decide, _, rfl, by decide, Or.inr ⟨RX11, List.mem_of_getElem? (i := 1107) (by decide +kernel)⟩⟩
theorem fl_X0_89 : jFl RX0 89 10 3 := ⟨by decide, by decide, _, rfl, by decide, Or.inr ⟨RX11, List.mem_of_getElem? (i := 1112) (by decide +kernel)⟩⟩
theorem fl_X1_12 : jFl RX1 12 5 3 := ⟨by decide, by decide, _, rfl, by decide, Or.inl ⟨RX1, List.mem_of_getElem? (i := 651) (by decide +kernel), Or.inl rfl⟩⟩
theorem fl_X1_18 : jFl RX1 18 5 4 := ⟨by decide, by decide, _, rfl, by decide, Or.inl ⟨RX1, List.mem_of_getElem? (i := 653) (by decide +kernel), Or.inl rfl⟩⟩
theorem fl_X1_22 : jFl RX1 22 5 0 := ⟨by decide, by decide, _, rfl, by decide, Or.inl ⟨RX1, List.mem_of_getElem? (i := 645) (by decide +kernel), Or.inl rfl⟩⟩
theorem fl_X1_25 : jFl RX1 25 5 1 := ⟨by decide, by decide, _, rfl, by decide, Or.inl ⟨RX1, List.mem_of_getElem? (i := 647) (by decide +kernel), Or.inl rfl⟩⟩
theorem fl_X1_29 : jFl RX1 29 5 2 := ⟨by decide, by decide, _, rfl, by decide, Or.inl ⟨RX1, List.mem_of_getElem? (i := 649) (by decide +kernel), Or.inl rfl⟩⟩
theorem fl_X1_46 : jFl RX1 46 7 2 := ⟨by decide, by decide, _, rfl, by decide, Or.inr ⟨RX11, List.mem_of_getElem? (i := 925) (by decide +kernel)⟩⟩
theorem fl_X2_9 : jFl RX2 9 6 2 := ⟨by decide, by decide, _, rfl, by decide, Or.inl ⟨RX2, List.mem_of_getElem? (i := 833) (by decide +kernel), Or.inl rfl⟩⟩
theorem fl_X2_15 : jFl RX2 15 6 3 := ⟨by decide, by decide, _, rfl, by decide, Or.inl ⟨RX2, List.mem_of_getElem? (i := 834) (by decide +kernel), Or.inl rfl⟩⟩
theorem fl_X2_18 : jFl RX2 18 6 4 := ⟨by decide, by decide, _, rfl, by decide, Or.inl ⟨RX2, List.mem_of_getElem? (i := 836) (by decide +kernel), Or.inl rfl⟩⟩
theorem fl_X2_21 : jFl RX2 21 6 0 := ⟨by decide, by decide, _, rfl, by decide, Or.inl ⟨RX2, List.mem_of_getElem? (i := 831) (by decide +kernel), Or.inl rfl⟩⟩
theorem fl_X2_25 : jFl RX2 25 6 1 := ⟨by decide, by decide, _, rfl, by decide, Or.inl ⟨RX2, List.mem_of_getElem? (i := 832) (by decide +kernel), Or.inl rfl⟩⟩
theorem fl_X2_44 : jFl RX2 44 5 4 := ⟨by decide, by decide, _, rfl, by decide, Or.inr ⟨RX11, List.mem_of_getElem? (i := 654) (by decide +kernel)⟩⟩
theorem fl_X2_69 : jFl RX2 69 7 2 := ⟨by decide, by decide, _, rfl, by decide, Or.inr ⟨RX11, List.mem_of_getElem? (i := 926) (by decide +kernel)⟩⟩
theorem fl_X2_72 : jFl RX2 72 5 3 := ⟨by decide, by decide, _, rfl, by decide, Or.inr ⟨RX11, List.mem_of_getElem? (i := 652) (by decide +kernel)⟩⟩
theorem fl_X3_9 : jFl RX3 9 7 0 := ⟨by decide, by decide, _, rfl, by decide, Or.inl ⟨RX3, List.mem_of_getElem? (i := 922) (by decide +kernel), Or.inl rfl⟩⟩
theorem fl_X3_15 : jFl RX3 15 7 1 := ⟨by decide, by decide, _, rfl, by decide, Or.inl ⟨RX3, List.mem_of_getElem? (i := 923) (by decide +kernel), Or.inl rfl⟩⟩
theorem fl_X3_18 : jFl RX3 18 7 2 := ⟨by decide, by decide, _, rfl, by decide, Or.inl ⟨RX3, List.mem_of_getElem? (i := 924) (by decide +kernel), Or.inl rfl⟩⟩
theorem fl_X4_12 : jFl RX4 12 8 0 := ⟨by decide, by decide, _, rfl, by decide, Or.inl ⟨RX4, List.mem_of_getElem? (i := 219) (by decide +kernel), Or.inl rfl⟩⟩
theorem fl_X4_32 : jFl RX4 32 10 0 := ⟨by decide, by decide, _, rfl, by decide, Or.inr ⟨RX11, List.mem_of_getElem? (i := 1100) (by decide +kernel)⟩⟩
theorem fl_X4_68 : jFl RX4 68 10 2 := ⟨by decide, by decide, _, rfl, by decide, Or.inr ⟨RX11, List.mem_of_getElem? (i := 1108) (by decide +kernel)⟩⟩
theorem fl_X4_77 : jFl RX4 77 10 1 := ⟨by decide, by decide, _, rfl, by decide, Or.inr ⟨RX11, List.mem_of_getElem? (i := 1105) (by decide +kernel)⟩⟩
theorem fl_X4_81 : jFl RX4 81 10 3 := ⟨by decide, by decide, _, rfl, by decide, Or.inr ⟨RX11, List.mem_of_getElem? (i := 1113) (by decide +kernel)⟩⟩
theorem fl_X5_10 : jFl RX5 10 9 1 := ⟨by decide, by decide, _, rfl, by decide, Or.inl ⟨RX5, List.mem_of_getElem? (i := 275) (by decide +kernel), Or.inl rfl⟩⟩
theorem fl_X5_16 : jFl RX5 16 9 0 := ⟨by decide, by decide, _, rfl, by decide, Or.inl ⟨RX5, List.mem_of_getElem? (i := 272) (by decide +kernel), Or.inl rfl⟩⟩
theorem fl_X6_12 : jFl RX6 12 10 3 := ⟨by decide, by decide, _, rfl, by decide, Or.inl ⟨RX6, List.mem_of_getElem? (i := 1110) (by decide +kernel), Or.inl rfl⟩⟩
theorem fl_X6_18 : jFl RX6 18 10 0 := ⟨by decide, by decide, _, rfl, by decide, Or.inl ⟨RX6, List.mem_of_getElem? (i := 1098) (by decide +kernel), Or.inl rfl⟩⟩
theorem fl_X6_22 : jFl RX6 22 10 1 := ⟨by decide, by decide, _, rfl, by decide, Or.inl ⟨RX6, List.mem_of_getElem? (i := 1103) (by decide +kernel), Or.inl rfl⟩⟩
theorem fl_X6_26 : jFl RX6 26 10 2 := ⟨by decide, by decide, _, rfl, by decide, Or.inl ⟨RX6, List.mem_of_getElem? (i := 1106) (by decide +kernel), Or.inl rfl⟩⟩
theorem fl_X6_33 : jFl RX6 33 11 0 := ⟨by decide, by decide, _, rfl, by decide, Or.inr ⟨RX11, List.mem_of_getElem? (i := 1021) (by decide +kernel)⟩⟩
theorem fl_X7_12 : jFl RX7 12 11 6 := ⟨by decide, by decide, _, rfl, by decide, Or.inl ⟨RX7, List.mem_of_getElem? (i := 1034) (by decide +kernel), Or.inl rfl⟩⟩
theorem fl_X7_18 : jFl RX7 18 11 7 := ⟨by decide, by decide, _, rfl, by decide, Or.inl ⟨RX7, List.mem_of_getElem? (i := 1036) (by decide +kernel), Or.inl rfl⟩⟩
theorem fl_X7_22 : jFl RX7 22 11 8 := ⟨by decide, by decide, _, rfl, by decide, Or.inl ⟨RX7, List.mem_of_getElem? (i := 1038) (by decide +kernel), Or.inl rfl⟩⟩
theorem fl_X7_25 : jFl RX7 25 11 0 := ⟨by decide, by decide, _, rfl, by decide, Or.inl ⟨RX7, List.mem_of_getElem? (i := 1020) (by decide +kernel), Or.inl rfl⟩⟩
theorem fl_X7_28 : jFl RX7 28 11 1 := ⟨by decide, by decide, _, rfl, by decide, Or.inl ⟨RX7, List.mem_of_getElem? (i := 1023) (by decide +kernel), Or.inl rfl⟩⟩
theorem fl_X7_32 : jFl RX7 32 11 2 := ⟨by decide, by decide, _, rfl, by decide, Or.inl ⟨RX7, List.mem_of_getElem? (i := 1026) (by decide +kernel), Or.inl rfl⟩⟩
theorem fl_X7_36 : jFl RX7 36 11 3 := ⟨by decide, by decide, _, rfl, by decide, Or.inl ⟨RX7, List.mem_of_getElem? (i := 1029) (by decide +kernel), Or.inl rfl⟩⟩
theorem fl_X7_39 : jFl RX7 39 11 4 := ⟨by decide, by decide, _, rfl, by decide, Or.inl ⟨RX7, List.mem_of_getElem? (i := 1031) (by decide +kernel), Or.inl rfl⟩⟩
theorem fl_X7_42 : jFl RX7 42 11 5 := ⟨by decide, by decide, _, rfl, by decide, Or.inl ⟨RX7, List.mem_of_getElem? (i := 1033) (by decide +kernel), Or.inl rfl⟩⟩
theorem fl_X7_46 : jFl RX7 46 14 0 := ⟨by decide, by decide, _, rfl, by decide, Or.inr ⟨RX11, List.mem_of_getElem? (i := 141) (by decide +kernel)⟩⟩
theorem fl_X8_10 : jFl RX8 10 12 1 := ⟨by decide, by decide, _, rfl, by decide, Or.inl ⟨RX8, List.mem_of_getElem? (i := 1351) (by decide +kernel), Or.inl rfl⟩⟩
theorem fl_X8_16 : jFl RX8 16 12 0 := ⟨by decide, by decide, _, rfl, by decide, Or.inl ⟨RX8, List.mem_of_getElem? (i := 1349) (by decide +kernel), Or.inl rfl⟩⟩
theorem fl_X8_43 : jFl RX8 43 10 3 := ⟨by decide, by decide, _, rfl, by decide, Or.inr ⟨RX11, List.mem_of_getElem? (i := 1111) (by decide +kernel)⟩⟩
theorem fl_X8_57 : jFl RX8 57 10 0 := ⟨by decide, by decide, _, rfl, by decide, Or.inr ⟨RX11, List.mem_of_getElem? (i := 1099) (by decide +kernel)⟩⟩
theorem fl_X8_72 : jFl RX8 72 10 1 := ⟨by decide, by decide, _, rfl, by decide, Or.inr ⟨RX11, List.mem_of_getElem? (i := 1104) (by decide +kernel)⟩⟩
theorem fl_X8_76 : jFl RX8 76 11 1 := ⟨by decide, by decide, _, rfl, by decide, Or.inr ⟨RX11, List.mem_of_getElem? (i := 1024) (by decide +kernel)⟩⟩
theorem fl_X8_82 : jFl RX8 82 11 2 := ⟨by decide, by decide, _, rfl, by decide, Or.inr ⟨RX11, List.mem_of_getElem? (i := 1027) (by decide +kernel)⟩⟩
theorem fl_X9_9 : jFl RX9 9 13 1 := ⟨by decide, by decide, _, rfl, by decide, Or.inl ⟨RX9, List.mem_of_getElem? (i := 361) (by decide +kernel), Or.inl rfl⟩⟩
theorem fl_X9_15 : jFl RX9 15 13 2 := ⟨by decide, by decide, _, rfl, by decide, Or.inl ⟨RX9, List.mem_of_getElem? (i := 362) (by decide +kernel), Or.inl rfl⟩⟩
theorem fl_X9_19 : jFl RX9 19 13 0 := ⟨by decide, by decide, _, rfl, by decide, Or.inl ⟨RX9, List.mem_of_getElem? (i := 359) (by decide +kernel), Or.inl rfl⟩⟩
theorem fl_X9_23 : jFl RX9 23 9 0 := ⟨by decide, by decide, _, rfl, by decide, Or.inr ⟨RX11, List.mem_of_getElem? (i := 273) (by decide +kernel)⟩⟩
theorem fl_X9_26 : jFl RX9 26 9 1 := ⟨by decide, by decide, _, rfl, by decide, Or.inr ⟨RX11, List.mem_of_getElem? (i := 276) (by decide +kernel)⟩⟩
theorem fl_X9_30 : jFl RX9 30 14 0 := ⟨by decide, by decide, _, rfl, by decide, Or.inr ⟨RX11, List.mem_of_getElem? (i := 142) (by decide +kernel)⟩⟩
theorem fl_X10_9 : jFl RX10 9 14 0 := ⟨by decide, by decide, _, rfl, by decide, Or.inl ⟨RX10, List.mem_of_getElem? (i := 140) (by decide +kernel), Or.inl rfl⟩⟩
theorem fl_X11_12 : jFl RX11 12 15 0 := ⟨by decide, by decide, _, rfl, by decide, Or.inl ⟨RX11, List.mem_of_getElem? (i := 225) (by decide +kernel), Or.inl rfl⟩⟩
theorem fl_X11_16 : jFl RX11 16 15 1 := ⟨by decide, by decide, _, rfl, by decide, Or.inl ⟨RX11, List.mem_of_getElem? (i := 226) (by decide +kernel), Or.inl rfl⟩⟩
theorem fl_X11_19 : jFl RX11 19 15 2 := ⟨by decide, by decide, _, rfl, by decide, Or.inl ⟨RX11, List.mem_of_getElem? (i := 227) (by decide +kernel), Or.inl rfl⟩⟩
theorem fl_X11_22 : jFl RX11 22 15 3 := ⟨by decide, by decide, _, rfl, by decide, Or.inl ⟨RX11, List.mem_of_getElem? (i := 228) (by decide +kernel), Or.inl rfl⟩⟩
theorem fl_X11_25 : jFl RX11 25 15 4 := ⟨by decide, by decide, _, rfl, by decide, Or.inl ⟨RX11, List.mem_of_getElem? (i := 229) (by decide +kernel), Or.inl rfl⟩⟩
theorem fl_X11_30 : jFl RX11 30 15 5 := ⟨by decide, by decide, _, rfl, by decide, Or.inl ⟨RX11, List.mem_of_getElem? (i := 230) (by decide +kernel), Or.inl rfl⟩⟩
theorem fl_X11_37 : jFl RX11 37 15 6 := ⟨by decide, by decide, _, rfl, by decide, Or.inl ⟨RX11, List.mem_of_getElem? (i := 231) (by decide +kernel), Or.inl rfl⟩⟩
theorem fl_X11_44 : jFl RX11 44 15 7 := ⟨by decide, by decide, _, rfl, by decide, Or.inl ⟨RX11, List.mem_of_getElem? (i := 232) (by decide +kernel), Or.inl rfl⟩⟩
theorem fl_X11_51 : jFl RX11 51 15 8 := ⟨by decide, by decide, _, rfl, by decide, Or.inl ⟨RX11, List.mem_of_getElem? (i := 233) (by decide +kernel), Or.inl rfl⟩⟩
theorem fl_X11_55 : jFl RX11 55 15 9 := ⟨by decide, by decide, _, rfl, by decide, Or.inl ⟨RX11, List.mem_of_getElem? (i := 234) (by decide +kernel), Or.inl rfl⟩⟩
theorem fl_X11_84 : jFl RX11 84 9 1 := ⟨by decide, by decide, _, rfl, by decide, Or.inr ⟨RX11, List.mem_of_getElem? (i := 277) (by decide +kernel)⟩⟩
theorem fl_X11_145 : jFl RX11 145 6 3 := ⟨by decide, by decide, _, rfl, by decide, Or.inr ⟨RX11, List.mem_of_getElem? (i := 835) (by decide +kernel)⟩⟩
theorem fl_X11_148 : jFl RX11 148 5 0 := ⟨by decide, by decide, _, rfl, by decide, Or.inr ⟨RX11, List.mem_of_getElem? (i := 646) (by decide +kernel)⟩⟩
theorem fl_X11_178 : jFl RX11 178 11 7 := ⟨by decide, by decide, _, rfl, by decide, Or.inr ⟨RX11, List.mem_of_getElem? (i := 1037) (by decide +kernel)⟩⟩
theorem fl_X11_181 : jFl RX11 181 13 2 := ⟨by decide, by decide, _, rfl, by decide, Or.inr ⟨RX11, List.mem_of_getElem? (i := 363) (by decide +kernel)⟩⟩
theorem fl_X11_185 : jFl RX11 185 11 8 := ⟨by decide, by decide, _, rfl, by decide, Or.inr ⟨RX11, List.mem_of_getElem? (i := 1039) (by decide +kernel)⟩⟩
theorem fl_X11_188 : jFl RX11 188 8 0 := ⟨by decide, by decide, _, rfl, by decide, Or.inr ⟨RX11, List.mem_of_getElem? (i := 221) (by decide +kernel)⟩⟩
theorem fl_X11_193 : jFl RX11 193 11 6 := ⟨by decide, by decide, _, rfl, by decide, Or.inr ⟨RX11, List.mem_of_getElem? (i := 1035) (by decide +kernel)⟩⟩
theorem fl_X11_197 : jFl RX11 197 11 0 := ⟨by decide, by decide, _, rfl, by decide, Or.inr ⟨RX11, List.mem_of_getElem? (i := 1022) (by decide +kernel)⟩⟩
theorem fl_X11_202 : jFl RX11 202 11 1 := ⟨by decide, by decide, _, rfl, by decide, Or.inr ⟨RX11, List.mem_of_getElem? (i := 1025) (by decide +kernel)⟩⟩
theorem fl_X11_206 : jFl RX11 206 13 0 := ⟨by decide, by decide, _, rfl, by decide, Or.inr ⟨RX11, List.mem_of_getElem? (i := 360) (by decide +kernel)⟩⟩
theorem fl_X11_207 : jFl RX11 207 11 2 := ⟨by decide, by decide, _, rfl, by decide, Or.inr ⟨RX11, List.mem_of_getElem? (i := 1028) (by decide +kernel)⟩⟩
theorem fl_X11_211 : jFl RX11 211 9 0 := ⟨by decide, by decide, _, rfl, by decide, Or.inr ⟨RX11, List.mem_of_getElem? (i := 274) (by decide +kernel)⟩⟩
theorem fl_X11_212 : jFl RX11 212 11 3 := ⟨by decide, by decide, _, rfl, by decide, Or.inr ⟨RX11, List.mem_of_getElem? (i := 1030) (by decide +kernel)⟩⟩
theorem fl_X11_215 : jFl RX11 215 11 4 := ⟨by decide, by decide, _, rfl, by decide, Or.inr ⟨RX11, List.mem_of_getElem? (i := 1032) (by decide +kernel)⟩⟩
theorem fl_X11_246 : jFl RX11 246 10 0 := ⟨by decide, by decide, _, rfl, by decide, Or.inr ⟨RX11, List.mem_of_getElem? (i := 1102) (by decide +kernel)⟩⟩
theorem fl_X11_250 : jFl RX11 250 10 2 := ⟨by decide, by decide, _, rfl, by decide, Or.inr ⟨RX11, List.mem_of_getElem? (i := 1109) (by decide +kernel)⟩⟩
theorem fl_X11_253 : jFl RX11 253 10 3 := ⟨by decide, by decide, _, rfl, by decide, Or.inr ⟨RX11, List.mem_of_getElem? (i := 1114) (by decide +kernel)⟩⟩
theorem fl_X11_279 : jFl RX11 279 4 0 := ⟨by decide, by decide, _, rfl, by decide, Or.inr ⟨RX11, List.mem_of_getElem? (i := 157) (by decide +kernel)⟩⟩
theorem fl_X11_286 : jFl RX11 286 12 1 := ⟨by decide, by decide, _, rfl, by decide, Or.inr ⟨RX11, List.mem_of_getElem? (i := 1352) (by decide +kernel)⟩⟩
theorem fl_X11_333 : jFl RX11 333 5 1 := ⟨by decide, by decide, _, rfl, by decide, Or.inr ⟨RX11, List.mem_of_getElem? (i := 648) (by decide +kernel)⟩⟩
theorem fl_X11_334 : jFl RX11 334 5 2 := ⟨by decide, by decide, _, rfl, by decide, Or.inr ⟨RX11, List.mem_of_getElem? (i := 650) (by decide +kernel)⟩⟩
theorem fl_X11_335 : jFl RX11 335 12 0 := ⟨by decide, by decide, _, rfl, by decide, Or.inr ⟨RX11, List.mem_of_getElem? (i := 1350) (by decide +kernel)⟩⟩
theorem fl_X11_336 : jFl RX11 336 14 0 := ⟨by decide, by decide, _, rfl, by decide, Or.inr ⟨RX11, List.mem_of_getElem? (i := 143) (by decide +kernel)⟩⟩
theorem fl_X12_1 : jFl RX12 1 16 0 := ⟨by decide, by decide, _, rfl, by decide, Or.inl ⟨RX12, List.mem_of_getElem? (i := 1443) (by decide +kernel), Or.inl rfl⟩⟩
theorem fl_X12_13 : jFl RX12 13 16 4 := ⟨by decide, by decide, _, rfl, by decide, Or.inl ⟨RX12, List.mem_of_getElem? (i := 1447) (by decide +kernel), Or.inl rfl⟩⟩
theorem fl_X12_17 : jFl RX12 17 16 5 := ⟨by decide, by decide, _, rfl, by decide, Or.inl ⟨RX12, List.mem_of_getElem? (i := 1448) (by decide +kernel), Or.inl rfl⟩⟩
theorem fl_X12_20 : jFl RX12 20 16 6 := ⟨by decide, by decide, _, rfl, by decide, Or.inl ⟨RX12, List.mem_of_getElem? (i := 1449) (by decide +kernel), Or.inl rfl⟩⟩
theorem fl_X12_23 : jFl RX12 23 16 7 := ⟨by decide, by decide, _, rfl, by decide, Or.inl ⟨RX12, List.mem_of_getElem? (i := 1450) (by decide +kernel), Or.inl rfl⟩⟩
theorem fl_X12_26 : jFl RX12 26 16 8 := ⟨by decide, by decide, _, rfl, by decide, Or.inl ⟨RX12, List.mem_of_getElem? (i := 1451) (by decide +kernel), Or.inl rfl⟩⟩
theorem fl_X12_30 : jFl RX12 30 16 9 := ⟨by decide, by decide, _, rfl, by decide, Or.inl ⟨RX12, List.mem_of_getElem? (i := 1452) (by decide +kernel), Or.inl rfl⟩⟩
theorem fl_X12_34 : jFl RX12 34 16 16 := ⟨by decide, by decide, _, rfl, by decide, Or.inl ⟨RX12, List.mem_of_getElem? (i := 1459) (by decide +kernel), Or.inl rfl⟩⟩
theorem fl_X12_37 : jFl RX12 37 16 17 := ⟨by decide, by decide, _, rfl, by decide, Or.inl ⟨RX12, List.mem_of_getElem? (i := 1460) (by decide +kernel), Or.inl rfl⟩⟩
theorem fl_X12_40 : jFl RX12 40 16 18 := ⟨by decide, by decide, _, rfl, by decide, Or.inl ⟨RX12, List.mem_of_getElem? (i := 1461) (by decide +kernel), Or.inl rfl⟩⟩
theorem fl_X12_43 : jFl RX12 43 16 19 := ⟨by decide, by decide, _, rfl, by decide, Or.inl ⟨RX12, List.mem_of_getElem? (i := 1462) (by decide +kernel), Or.inl rfl⟩⟩
theorem fl_X12_46 : jFl RX12 46 16 20 := ⟨by decide, by decide, _, rfl, by decide, Or.inl ⟨RX12, List.mem_of_getElem? (i := 1463) (by decide +kernel), Or.inl rfl⟩⟩
theorem fl_X12_49 : jFl RX12 49 16 21 := ⟨by decide, by decide, _, rfl, by decide, Or.inl ⟨RX12, List.mem_of_getElem? (i := 1464) (by decide +kernel), Or.inl rfl⟩⟩
theorem fl_X12_52 : jFl RX12 52 16 22 := ⟨by decide, by decide, _, rfl, by decide, Or.inl ⟨RX12, List.mem_of_getElem? (i := 1465) (by decide +kernel), Or.inl rfl⟩⟩
theorem fl_X12_55 : jFl RX12 55 16 23 := ⟨by decide, by decide, _, rfl, by decide, Or.inl ⟨RX12, List.mem_of_getElem? (i := 1466) (by decide +kernel), Or.inl rfl⟩⟩
theorem fl_X12_58 : jFl RX12 58 16 24 := ⟨by decide, by decide, _, rfl, by decide, Or.inl ⟨RX12, List.mem_of_getElem? (i := 1467) (by decide +kernel), Or.inl rfl⟩⟩
theorem fl_X12_61 : jFl RX12 61 16 25 := ⟨by decide, by decide, _, rfl, by decide, Or.inl ⟨RX12, List.mem_of_getElem? (i := 1468) (by decide +kernel), Or.inl rfl⟩⟩
theorem fl_X12_64 : jFl RX12 64 16 27 := ⟨by decide, by decide, _, rfl, by decide, Or.inl ⟨RX12, List.mem_of_getElem? (i := 1470) (by decide +kernel), Or.inl rfl⟩⟩
theorem fl_X12_67 : jFl RX12 67 16 28 := ⟨by decide, by decide, _, rfl, by decide, Or.inl ⟨RX12, List.mem_of_getElem? (i := 1471) (by decide +kernel), Or.inl rfl⟩⟩
theorem fl_X12_70 : jFl RX12 70 16 29 := ⟨by decide, by decide, _, rfl, by decide, Or.inl ⟨RX12, List.mem_of_getElem? (i := 1472) (by decide +kernel), Or.inl rfl⟩⟩
theorem fl_X12_73 : jFl RX12 73 16 30 := ⟨by decide, by decide, _, rfl, by decide, Or.inl ⟨RX12, List.mem_of_getElem? (i := 1473) (by decide +kernel), Or.inl rfl⟩⟩
theorem fl_X12_76 : jFl RX12 76 16 31 := ⟨by decide, by decide, _, rfl, by decide, Or.inl ⟨RX12, List.mem_of_getElem? (i := 1474) (by decide +kernel), Or.inl rfl⟩⟩
theorem fl_X12_79 : jFl RX12 79 16 32 := ⟨by decide, by decide, _, rfl, by decide, Or.inl ⟨RX12, List.mem_of_getElem? (i := 1475) (by decide +kernel), Or.inl rfl⟩⟩
theorem fl_X12_82 : jFl RX12 82 16 33 := ⟨by decide, by decide, _, rfl, by decide, Or.inl ⟨RX12, List.mem_of_getElem? (i := 1476) (by decide +kernel), Or.inl rfl⟩⟩
theorem fl_X12_85 : jFl RX12 85 16 34 := ⟨by decide, by decide, _, rfl, by decide, Or.inl ⟨RX12, List.mem_of_getElem? (i := 1477) (by decide +kernel), Or.inl rfl⟩⟩
theorem fl_X12_88 : jFl RX12 88 16 35 := ⟨by decide, by decide, _, rfl, by decide, Or.inl ⟨RX12, List.mem_of_getElem? (i := 1478) (by decide +kernel), Or.inl rfl⟩⟩
theorem fl_X12_91 : jFl RX12 91 16 38 := ⟨by decide, by decide, _, rfl, by decide, Or.inl ⟨RX12, List.mem_of_getElem? (i := 1481) (by decide +kernel), Or.inl rfl⟩⟩
theorem fl_X12_94 : jFl RX12 94 16 39 := ⟨by decide, by decide, _, rfl, by decide, Or.inl ⟨RX12, List.mem_of_getElem? (i := 1482) (by decide +kernel), Or.inl rfl⟩⟩
theorem fl_X12_97 : jFl RX12 97 16 40 := ⟨by decide, by decide, _, rfl, by decide, Or.inl ⟨RX12, List.mem_of_getElem? (i := 1483) (by decide +kernel), Or.inl rfl⟩⟩
theorem fl_X12_100 : jFl RX12 100 16 41 := ⟨by decide, by decide, _, rfl, by decide, Or.inl ⟨RX12, List.mem_of_getElem? (i := 1484) (by decide +kernel), Or.inl rfl⟩⟩
theorem fl_X12_103 : jFl RX12 103 16 42 := ⟨by decide, by decide, _, rfl, by decide, Or.inl ⟨RX12, List.mem_of_getElem? (i := 1485) (by decide +kernel), Or.inl rfl⟩⟩
theorem fl_X12_106 : jFl RX12 106 16 43 := ⟨by decide, by decide, _, rfl, by decide, Or.inl ⟨RX12, List.mem_of_getElem? (i := 1486) (by decide +kernel), Or.inl rfl⟩⟩
theorem fl_X12_109 : jFl RX12 109 16 44 := ⟨by decide, by decide, _, rfl, by decide, Or.inl ⟨RX12, List.mem_of_getElem? (i := 1487) (by decide +kernel), Or.inl rfl⟩⟩
theorem fl_X12_112 : jFl RX12 112 16 45 := ⟨by decide, by decide, _, rfl, by decide, Or.inl ⟨RX12, List.mem_of_getElem? (i := 1488) (by decide +kernel), Or.inl rfl⟩⟩
theorem fl_X12_115 : jFl RX12 115 16 46 := ⟨by decide, by decide, _, rfl, by decide, Or.inl ⟨RX12, List.mem_of_getElem? (i := 1489) (by decide +kernel), Or.inl rfl⟩⟩
theorem fl_X12_118 : jFl RX12 118 16 47 := ⟨by decide, by decide, _, rfl, by decide, Or.inl ⟨RX12, List.mem_of_getElem? (i := 1490) (by decide +kernel), Or.inl rfl⟩⟩
theorem fl_X12_121 : jFl RX12 121 16 48 := ⟨by decide, by decide, _, rfl, by decide, Or.inl ⟨RX12, List.mem_of_getElem? (i := 1491) (by decide +kernel), Or.inl rfl⟩⟩
theorem fl_X12_124 : jFl RX12 124 16 49 := ⟨by decide, by decide, _, rfl, by decide, Or.inl ⟨RX12, List.mem_of_getElem? (i := 1492) (by decide +kernel), Or.inl rfl⟩⟩
theorem fl_X12_127 : jFl RX12 127 16 50 := ⟨by decide, by decide, _, rfl, by decide, Or.inl ⟨RX12, List.mem_of_getElem? (i := 1493) (by decide +kernel), Or.inl rfl⟩⟩
theorem fl_X12_130 : jFl RX12 130 16 51 := ⟨by decide, by decide, _, rfl, by decide, Or.inl ⟨RX12, List.mem_of_getElem? (i := 1494) (by decide +kernel), Or.inl rfl⟩⟩
theorem fl_X12_133 : jFl RX12 133 16 53 := ⟨by decide, by decide, _, rfl, by decide, Or.inl ⟨RX12, List.mem_of_getElem? (i := 1496) (by decide +kernel), Or.inl rfl⟩⟩
theorem fl_X12_136 : jFl RX12 136 16 54 := ⟨by decide, by decide, _, rfl, by decide, Or.inl ⟨RX12, List.mem_of_getElem? (i := 1497) (by decide +kernel), Or.inl rfl⟩⟩
theorem fl_X12_139 : jFl RX12 139 16 55 := ⟨by decide, by decide, _, rfl, by decide, Or.inl ⟨RX12, List.mem_of_getElem? (i := 1498) (by decide +kernel), Or.inl rfl⟩⟩
theorem fl_X12_142 : jFl RX12 142 16 56 := ⟨by decide, by decide, _, rfl, by decide, Or.inl ⟨RX12, List.mem_of_getElem? (i := 1499) (by decide +kernel), Or.inl rfl⟩⟩
theorem fl_X12_145 : jFl RX12 145 16 57 := ⟨by decide, by decide, _, rfl, by decide, Or.inl ⟨RX12, List.mem_of_getElem? (i := 1500) (by decide +kernel), Or.inl rfl⟩⟩
theorem fl_X12_148 : jFl RX12 148 16 58 := ⟨by decide, by decide, _, rfl, by decide, Or.inl ⟨RX12, List.mem_of_getElem? (i := 1501) (by decide +kernel), Or.inl rfl⟩⟩
theorem fl_X12_151 : jFl RX12 151 16 59 := ⟨by decide, by decide, _, rfl, by decide, Or.inl ⟨RX12, List.mem_of_getElem? (i := 1502) (by decide +kernel), Or.inl rfl⟩⟩
theorem fl_X12_154 : jFl RX12 154 16 1 := ⟨by decide, by decide, _, rfl, by decide, Or.inl ⟨RX12, List.mem_of_getElem? (i := 1444) (by decide +kernel), Or.inl rfl⟩⟩
theorem fl_X12_169 : jFl RX12 169 16 2 := ⟨by decide, by decide, _, rfl, by decide, Or.inl ⟨RX12, List.mem_of_getElem? (i := 1445) (by decide +kernel), Or.inl rfl⟩⟩
theorem fl_X12_185 : jFl RX12 185 16 10 := ⟨by decide, by decide, _, rfl, by decide, Or.inl ⟨RX12, List.mem_of_getElem? (i := 1453) (by decide +kernel), Or.inl rfl⟩⟩
theorem fl_X12_188 : jFl RX12 188 16 14 := ⟨by decide, by decide, _, rfl, by decide, Or.inl ⟨RX12, List.mem_of_getElem? (i := 1457) (by decide +kernel), Or.inl rfl⟩⟩
theorem fl_X12_191 : jFl RX12 191 16 13 := ⟨by decide, by decide, _, rfl, by decide, Or.inl ⟨RX12, List.mem_of_getElem? (i := 1456) (by decide +kernel), Or.inl rfl⟩⟩
theorem fl_X12_194 : jFl RX12 194 16 12 := ⟨by decide, by decide, _, rfl, by decide, Or.inl ⟨RX12, List.mem_of_getElem? (i := 1455) (by decide +kernel), Or.inl rfl⟩⟩
theorem fl_X12_239 : jFl RX12 239 16 11 := ⟨by decide, by decide, _, rfl, by decide, Or.inl ⟨RX12, List.mem_of_getElem? (i := 1454) (by decide +kernel), Or.inl rfl⟩⟩
theorem fl_X12_242 : jFl RX12 242 16 15 := ⟨by decide, by decide, _, rfl, by decide, Or.inl ⟨RX12, List.mem_of_getElem? (i := 1458) (by decide +kernel), Or.inl rfl⟩⟩
theorem fl_X12_268 : jFl RX12 268 16 36 := ⟨by decide, by decide, _, rfl, by decide, Or.inl ⟨RX12, List.mem_of_getElem? (i := 1479) (by decide +kernel), Or.inl rfl⟩⟩
theorem fl_X12_271 : jFl RX12 271 16 37 := ⟨by decide, by decide, _, rfl, by decide, Or.inl ⟨RX12, List.mem_of_getElem? (i := 1480) (by decide +kernel), Or.inl rfl⟩⟩
theorem fl_X12_277 : jFl RX12 277 16 26 := ⟨by decide, by decide, _, rfl, by decide, Or.inl ⟨RX12, List.mem_of_getElem? (i := 1469) (by decide +kernel), Or.inl rfl⟩⟩
theorem fl_X12_283 : jFl RX12 283 16 3 := ⟨by decide, by decide, _, rfl, by decide, Or.inl ⟨RX12, List.mem_of_getElem? (i := 1446) (by decide +kernel), Or.inl rfl⟩⟩
theorem fl_X12_328 : jFl RX12 328 16 52 := ⟨by decide, by decide, _, rfl, by decide, Or.inl ⟨RX12, List.mem_of_getElem? (i := 1495) (by decide +kernel), Or.inl rfl⟩⟩
theorem fl_J5_15 : jFl RJ5 15 2 0 := ⟨by decide, by decide, _, rfl, by decide, Or.inl ⟨RJ5, List.mem_of_getElem? (i := 197) (by decide +kernel), Or.inl rfl⟩⟩
theorem fl_J5_22 : jFl RJ5 22 2 1 := ⟨by decide, by decide, _, rfl, by decide, Or.inl ⟨RJ5, List.mem_of_getElem? (i := 198) (by decide +kernel), Or.inl rfl⟩⟩
theorem fl_J5_79 : jFl RJ5 79 2 3 := ⟨by decide, by decide, _, rfl, by decide, Or.inl ⟨RJ5, List.mem_of_getElem? (i := 201) (by decide +kernel), Or.inl rfl⟩⟩
theorem fl_J5_73 : jFl RJ5 73 2 2 := ⟨by decide, by decide, _, rfl, by decide, Or.inl ⟨RJ5, List.mem_of_getElem? (i := 199) (by decide +kernel), Or.inl rfl⟩⟩
theorem fl_J0_9 : jFl RJ0 9 1 0 := ⟨by decide, by decide, _, rfl, by decide, Or.inl ⟨RJ0, List.mem_of_getElem? (i := 788) (by decide +kernel), Or.inl rfl⟩⟩
theorem fl_J0_15 : jFl RJ0 15 1 1 := ⟨by decide, by decide, _, rfl, by decide, Or.inl ⟨RJ0, List.mem_of_getElem? (i := 789) (by decide +kernel), Or.inl rfl⟩⟩
theorem fl_J0_1048 : jFl RJ0 1048 2 2 := ⟨by decide, by decide, _, rfl, by decide, Or.inl ⟨RJ5, List.mem_of_getElem? (i := 200) (by decide +kernel), Or.inl rfl⟩⟩
theorem fl_Jxc12de_7 : jFl RJxc12de 7 3 0 := ⟨by decide, by decide, _, rfl, by decide, Or.inl ⟨RJxc12de, List.mem_of_getElem? (i := 122) (by decide +kernel), Or.inl rfl⟩⟩
theorem fl_Jx4a65c_9 : jFl RJx4a65c 9 3 1 := ⟨by decide, by decide, _, rfl, by decide, Or.inl ⟨RJx4a65c, List.mem_of_getElem? (i := 120) (by decide +kernel), Or.inl rfl⟩⟩
theorem fl_Jx4a65c_48 : jFl RJx4a65c 48 3 2 := ⟨by decide, by decide, _, rfl, by decide, Or.inl ⟨RJx4a65c, List.mem_of_getElem? (i := 121) (by decide +kernel), Or.inl rfl⟩⟩
theorem fl_Jx4a65c_63 : jFl RJx4a65c 63 3 0 := ⟨by decide, by decide, _, rfl, by decide, Or.inl ⟨RJx4a65c, List.mem_of_getElem? (i := 123) (by decide +kernel), Or.inr ⟨List.mem_of_getElem? (i := 124) (by decide +kernel), rfl⟩⟩⟩
theorem ml_X0_36 : Cond.methodLink RX0 36 yX10_low ∈ lw_tbl := List.mem_of_getElem? (i := 1290) (by decide +kernel)
theorem ml_X0_42 : Cond.methodLink RX0 42 yX10_high ∈ lw_tbl := List.mem_of_getElem? (i := 1291) (by decide +kernel)
theorem ml_X0_45 : Cond.methodLink RX0 45 yX0_weigh ∈ lw_tbl := List.mem_of_getElem? (i := 1292) (by decide +kernel)
theorem ml_X0_49 : Cond.methodLink RX0 49 yX0_boundSum ∈ lw_tbl := List.mem_of_getElem? (i := 1305) (by decide +kernel)
theorem ml_X0_53 : Cond.methodLink RX0 53 yX0_tryFrom ∈ lw_tbl := List.mem_of_getElem? (i := 1311) (by decide +kernel)
theorem ml_X0_62 : Cond.methodLink RX0 62 yJx4a65c_size_8abf5 ∈ lw_tbl := List.mem_of_getElem? (i := 1296) (by decide +kernel)
theorem ml_X0_68 : Cond.methodLink RX0 68 yX4_fromTop ∈ lw_tbl := List.mem_of_getElem? (i := 1297) (by decide +kernel)
theorem ml_X0_78 : Cond.methodLink RX0 78 yX0_at ∈ lw_tbl := List.mem_of_getElem? (i := 1298) (by decide +kernel)
theorem ml_X0_82 : Cond.methodLink RX0 82 yX0_addTon ∈ lw_tbl := List.mem_of_getElem? (i := 1301) (by decide +kernel)
theorem ml_X0_94 : Cond.methodLink RX0 94 yJ9_min_7cf53 ∈ lw_tbl := List.mem_of_getElem? (i := 1310) (by decide +kernel)
theorem ml_X0_99 : Cond.methodLink RX0 99 yX0_hasHope ∈ lw_tbl := List.mem_of_getElem? (i := 1315) (by decide +kernel)
theorem ml_X0_103 : Cond.methodLink RX0 103 yX0_keep ∈ lw_tbl := List.mem_of_getElem? (i := 1319) (by decide +kernel)
theorem ml_X0_106 : Cond.methodLink RX0 106 yX0_addGiven ∈ lw_tbl := List.mem_of_getElem? (i := 1324) (by decide +kernel)
theorem ml_X1_11 : Cond.methodLink RX1 11 yJx4a65c_init_da8c8 ∈ lw_tbl := List.mem_of_getElem? (i := 644) (by decide +kernel)
theorem ml_X1_32 : Cond.methodLink RX1 32 yJx4a65c_size_8abf5 ∈ lw_tbl := List.mem_of_getElem? (i := 1067) (by decide +kernel)
theorem ml_X1_36 : Cond.methodLink RX1 36 yJx4a65c_get_915e3 ∈ lw_tbl := List.mem_of_getElem? (i := 1068) (by decide +kernel)
theorem ml_X1_42 : Cond.methodLink RX1 42 yX3_isSure ∈ lw_tbl := List.mem_of_getElem? (i := 1070) (by decide +kernel)
theorem ml_X2_31 : Cond.methodLink RX2 31 yX2_takesWord ∈ lw_tbl := List.mem_of_getElem? (i := 876) (by decide +kernel)
theorem ml_X2_35 : Cond.methodLink RX2 35 yX2_readsGrade ∈ lw_tbl := List.mem_of_getElem? (i := 912) (by decide +kernel)
theorem ml_X2_41 : Cond.methodLink RX2 41 yX2_readsPay ∈ lw_tbl := List.mem_of_getElem? (i := 965) (by decide +kernel)
theorem ml_X2_49 : Cond.methodLink RX2 49 yX2_skipBlanks ∈ lw_tbl := List.mem_of_getElem? (i := 884) (by decide +kernel)
theorem ml_X2_52 : Cond.methodLink RX2 52 yJ0_length_8abf5 ∈ lw_tbl := List.mem_of_getElem? (i := 888) (by decide +kernel)
theorem ml_X2_60 : Cond.methodLink RX2 60 yX3_init ∈ lw_tbl := List.mem_of_getElem? (i := 918) (by decide +kernel)
theorem ml_X2_61 : Cond.methodLink RX2 61 yX2_readsTest ∈ lw_tbl := List.mem_of_getElem? (i := 934) (by decide +kernel)
theorem ml_X2_65 : Cond.methodLink RX2 65 yX2_takesSign ∈ lw_tbl := List.mem_of_getElem? (i := 950) (by decide +kernel)
theorem ml_X2_76 : Cond.methodLink RX2 76 yJx4a65c_add_9ea2d ∈ lw_tbl := List.mem_of_getElem? (i := 970) (by decide +kernel)
theorem ml_X2_82 : Cond.methodLink RX2 82 yX2_takenMetal ∈ lw_tbl := List.mem_of_getElem? (i := 938) (by decide +kernel)
theorem ml_X2_85 : Cond.methodLink RX2 85 yX2_takesNumber ∈ lw_tbl := List.mem_of_getElem? (i := 954) (by decide +kernel)
theorem ml_X2_88 : Cond.methodLink RX2 88 yX3_addTest ∈ lw_tbl := List.mem_of_getElem? (i := 959) (by decide +kernel)
theorem ml_X2_93 : Cond.methodLink RX2 93 yJ0_charAt_5068e ∈ lw_tbl := List.mem_of_getElem? (i := 889) (by decide +kernel)
theorem ml_X2_97 : Cond.methodLink RX2 97 yX2_isBetween ∈ lw_tbl := List.mem_of_getElem? (i := 900) (by decide +kernel)
theorem ml_X2_101 : Cond.methodLink RX2 101 yJ0_substring_37a41 ∈ lw_tbl := List.mem_of_getElem? (i := 903) (by decide +kernel)
theorem ml_X2_105 : Cond.methodLink RX2 105 yX2_nextWord ∈ lw_tbl := List.mem_of_getElem? (i := 880) (by decide +kernel)
theorem ml_X2_109 : Cond.methodLink RX2 109 yJ0_equals_9ea2d ∈ lw_tbl := List.mem_of_getElem? (i := 904) (by decide +kernel)
theorem ml_X2_112 : Cond.methodLink RX2 112 yX2_metalOf ∈ lw_tbl := List.mem_of_getElem? (i := 942) (by decide +kernel)
theorem ml_X2_126 : Cond.methodLink RX2 126 yJ9_min_7cf53 ∈ lw_tbl := List.mem_of_getElem? (i := 958) (by decide +kernel)
theorem ml_X3_22 : Cond.methodLink RX3 22 yJ9_min_7cf53 ∈ lw_tbl := List.mem_of_getElem? (i := 963) (by decide +kernel)
theorem ml_X3_28 : Cond.methodLink RX3 28 yJ9_max_7cf53 ∈ lw_tbl := List.mem_of_getElem? (i := 964) (by decide +kernel)
theorem ml_X3_31 : Cond.methodLink RX3 31 yX10_high ∈ lw_tbl := List.mem_of_getElem? (i := 1074) (by decide +kernel)
theorem ml_X3_37 : Cond.methodLink RX3 37 yX10_low ∈ lw_tbl := List.mem_of_getElem? (i := 1078) (by decide +kernel)
theorem ml_X4_11 : Cond.methodLink RX4 11 yJx4a65c_init_da8c8 ∈ lw_tbl := List.mem_of_getElem? (i := 218) (by decide +kernel)
theorem ml_X4_18 : Cond.methodLink RX4 18 yJx4a65c_size_8abf5 ∈ lw_tbl := List.mem_of_getElem? (i := 1167) (by decide +kernel)
theorem ml_X4_22 : Cond.methodLink RX4 22 yJx4a65c_get_915e3 ∈ lw_tbl := List.mem_of_getElem? (i := 1168) (by decide +kernel)
theorem ml_X4_28 : Cond.methodLink RX4 28 yX4_fromTop ∈ lw_tbl := List.mem_of_getElem? (i := 1214) (by decide +kernel)
theorem ml_X4_36 : Cond.methodLink RX4 36 yX6_splitOff ∈ lw_tbl := List.mem_of_getElem? (i := 1219) (by decide +kernel)
theorem ml_X4_39 : Cond.methodLink RX4 39 yJx4a65c_add_9ea2d ∈ lw_tbl := List.mem_of_getElem? (i := 1225) (by decide +kernel)
theorem ml_X4_43 : Cond.methodLink RX4 43 yJx4a65c_remove_915e3 ∈ lw_tbl := List.mem_of_getElem? (i := 1226) (by decide +kernel)
theorem ml_X4_46 : Cond.methodLinkNest RX4 46 yX11_tonsOf RX11 ∈ lw_tbl := List.mem_of_getElem? (i := 1246) (by decide +kernel)
theorem ml_X4_52 : Cond.methodLink RX4 52 yX10_init ∈ lw_tbl := List.mem_of_getElem? (i := 1248) (by decide +kernel)
theorem ml_X4_53 : Cond.methodLinkNest RX4 53 yX11_sumOf RX11 ∈ lw_tbl := List.mem_of_getElem? (i := 1249) (by decide +kernel)
theorem ml_X4_57 : Cond.methodLinkNest RX4 57 yX11_cut RX11 ∈ lw_tbl := List.mem_of_getElem? (i := 1252) (by decide +kernel)
theorem ml_X4_61 : Cond.methodLinkNest RX4 61 yX11_roundedUp RX11 ∈ lw_tbl := List.mem_of_getElem? (i := 1258) (by decide +kernel)
theorem ml_X4_64 : Cond.methodLink RX4 64 yX10_put ∈ lw_tbl := List.mem_of_getElem? (i := 1261) (by decide +kernel)
theorem ml_X4_71 : Cond.methodLink RX4 71 yJx4a65c_clear_da8c8 ∈ lw_tbl := List.mem_of_getElem? (i := 1262) (by decide +kernel)
theorem ml_X4_74 : Cond.methodLink RX4 74 yX6_init ∈ lw_tbl := List.mem_of_getElem? (i := 1266) (by decide +kernel)
theorem ml_X4_85 : Cond.methodLink RX4 85 yX10_narrow ∈ lw_tbl := List.mem_of_getElem? (i := 1170) (by decide +kernel)
theorem ml_X5_9 : Cond.methodLink RX5 9 yX10_init ∈ lw_tbl := List.mem_of_getElem? (i := 271) (by decide +kernel)
theorem ml_X6_11 : Cond.methodLink RX6 11 yX10_init ∈ lw_tbl := List.mem_of_getElem? (i := 1092) (by decide +kernel)
theorem ml_X6_29 : Cond.methodLink RX6 29 yX10_copyFrom ∈ lw_tbl := List.mem_of_getElem? (i := 1093) (by decide +kernel)
theorem ml_X6_38 : Cond.methodLink RX6 38 yX6_init ∈ lw_tbl := List.mem_of_getElem? (i := 1224) (by decide +kernel)
theorem ml_X7_11 : Cond.methodLink RX7 11 yX10_init ∈ lw_tbl := List.mem_of_getElem? (i := 1018) (by decide +kernel)
theorem ml_X7_50 : Cond.methodLink RX7 50 yX9_usualPart ∈ lw_tbl := List.mem_of_getElem? (i := 1019) (by decide +kernel)
theorem ml_X7_56 : Cond.methodLink RX7 56 yX1_gradeOf ∈ lw_tbl := List.mem_of_getElem? (i := 1063) (by decide +kernel)
theorem ml_X7_62 : Cond.methodLink RX7 62 yX1_payOf ∈ lw_tbl := List.mem_of_getElem? (i := 1082) (by decide +kernel)
theorem ml_X8_9 : Cond.methodLink RX8 9 yJx4a65c_init_da8c8 ∈ lw_tbl := List.mem_of_getElem? (i := 1348) (by decide +kernel)
theorem ml_X8_20 : Cond.methodLinkNest RX8 20 yX11_sumOf RX11 ∈ lw_tbl := List.mem_of_getElem? (i := 1389) (by decide +kernel)
theorem ml_X8_26 : Cond.methodLink RX8 26 yJx4a65c_size_8abf5 ∈ lw_tbl := List.mem_of_getElem? (i := 1390) (by decide +kernel)
theorem ml_X8_30 : Cond.methodLink RX8 30 yJx4a65c_get_915e3 ∈ lw_tbl := List.mem_of_getElem? (i := 1391) (by decide +kernel)
theorem ml_X8_36 : Cond.methodLink RX8 36 yX8_atLeast ∈ lw_tbl := List.mem_of_getElem? (i := 1393) (by decide +kernel)
theorem ml_X8_40 : Cond.methodLink RX8 40 yX8_atMost ∈ lw_tbl := List.mem_of_getElem? (i := 1399) (by decide +kernel)
theorem ml_X8_47 : Cond.methodLink RX8 47 yX10_hasCommon ∈ lw_tbl := List.mem_of_getElem? (i := 1405) (by decide +kernel)
theorem ml_X8_53 : Cond.methodLink RX8 53 yX10_narrow ∈ lw_tbl := List.mem_of_getElem? (i := 1406) (by decide +kernel)
theorem ml_X8_58 : Cond.methodLink RX8 58 yX10_high ∈ lw_tbl := List.mem_of_getElem? (i := 1397) (by decide +kernel)
theorem ml_X8_62 : Cond.methodLinkNest RX8 62 yX11_roundedUp RX11 ∈ lw_tbl := List.mem_of_getElem? (i := 1398) (by decide +kernel)
theorem ml_X8_66 : Cond.methodLink RX8 66 yX10_low ∈ lw_tbl := List.mem_of_getElem? (i := 1403) (by decide +kernel)
theorem ml_X8_69 : Cond.methodLinkNest RX8 69 yX11_cut RX11 ∈ lw_tbl := List.mem_of_getElem? (i := 1404) (by decide +kernel)
theorem ml_X8_86 : Cond.methodLink RX8 86 yX9_putRight ∈ lw_tbl := List.mem_of_getElem? (i := 1411) (by decide +kernel)
theorem ml_X9_35 : Cond.methodLink RX9 35 yX9_usualPart ∈ lw_tbl := List.mem_of_getElem? (i := 1415) (by decide +kernel)
theorem ml_X9_39 : Cond.methodLinkNest RX9 39 yX11_cut RX11 ∈ lw_tbl := List.mem_of_getElem? (i := 1416) (by decide +kernel)
theorem ml_X9_43 : Cond.methodLinkNest RX9 43 yX11_roundedUp RX11 ∈ lw_tbl := List.mem_of_getElem? (i := 1417) (by decide +kernel)
theorem ml_X10_15 : Cond.methodLink RX10 15 yX10_low ∈ lw_tbl := List.mem_of_getElem? (i := 1154) (by decide +kernel)
theorem ml_X10_19 : Cond.methodLink RX10 19 yJ9_max_7cf53 ∈ lw_tbl := List.mem_of_getElem? (i := 1155) (by decide +kernel)
theorem ml_X10_25 : Cond.methodLink RX10 25 yX10_high ∈ lw_tbl := List.mem_of_getElem? (i := 1156) (by decide +kernel)
theorem ml_X10_28 : Cond.methodLink RX10 28 yJ9_min_7cf53 ∈ lw_tbl := List.mem_of_getElem? (i := 1157) (by decide +kernel)
theorem ml_X10_31 : Cond.methodLink RX10 31 yX10_put ∈ lw_tbl := List.mem_of_getElem? (i := 1162) (by decide +kernel)
theorem ml_X11_11 : Cond.methodLink RX11 11 yJx4a65c_init_da8c8 ∈ lw_tbl := List.mem_of_getElem? (i := 108) (by decide +kernel)
theorem ml_X11_36 : Cond.methodLink RX11 36 yX10_init ∈ lw_tbl := List.mem_of_getElem? (i := 136) (by decide +kernel)
theorem ml_X11_43 : Cond.methodLinkNest RX11 43 yX0_init RX11 ∈ lw_tbl := List.mem_of_getElem? (i := 150) (by decide +kernel)
theorem ml_X11_50 : Cond.methodLink RX11 50 yJ4_init_da8c8 ∈ lw_tbl := List.mem_of_getElem? (i := 181) (by decide +kernel)
theorem ml_X11_59 : Cond.methodLinkNest RX11 59 yX4_init RX11 ∈ lw_tbl := List.mem_of_getElem? (i := 213) (by decide +kernel)
theorem ml_X11_60 : Cond.methodLink RX11 60 yJx4a65c_size_8abf5 ∈ lw_tbl := List.mem_of_getElem? (i := 260) (by decide +kernel)
theorem ml_X11_66 : Cond.methodLink RX11 66 yX5_init ∈ lw_tbl := List.mem_of_getElem? (i := 266) (by decide +kernel)
theorem ml_X11_69 : Cond.methodLink RX11 69 yJx4a65c_add_9ea2d ∈ lw_tbl := List.mem_of_getElem? (i := 283) (by decide +kernel)
theorem ml_X11_73 : Cond.methodLink RX11 73 yX11_kindOf ∈ lw_tbl := List.mem_of_getElem? (i := 508) (by decide +kernel)
theorem ml_X11_77 : Cond.methodLink RX11 77 yX11_needMetal ∈ lw_tbl := List.mem_of_getElem? (i := 579) (by decide +kernel)
theorem ml_X11_80 : Cond.methodLink RX11 80 yX11_needSpan ∈ lw_tbl := List.mem_of_getElem? (i := 598) (by decide +kernel)
theorem ml_X11_87 : Cond.methodLink RX11 87 yX10_put ∈ lw_tbl := List.mem_of_getElem? (i := 602) (by decide +kernel)
theorem ml_X11_93 : Cond.methodLink RX11 93 yX9_init ∈ lw_tbl := List.mem_of_getElem? (i := 355) (by decide +kernel)
theorem ml_X11_94 : Cond.methodLink RX11 94 yJ4_length_8abf5 ∈ lw_tbl := List.mem_of_getElem? (i := 375) (by decide +kernel)
theorem ml_X11_97 : Cond.methodLink RX11 97 yX11_putOnTape ∈ lw_tbl := List.mem_of_getElem? (i := 382) (by decide +kernel)
theorem ml_X11_100 : Cond.methodLink RX11 100 yX11_sellerOf ∈ lw_tbl := List.mem_of_getElem? (i := 614) (by decide +kernel)
theorem ml_X11_120 : Cond.methodLink RX11 120 yX1_init ∈ lw_tbl := List.mem_of_getElem? (i := 639) (by decide +kernel)
theorem ml_X11_125 : Cond.methodLink RX11 125 yJ4_toString_0e30d ∈ lw_tbl := List.mem_of_getElem? (i := 668) (by decide +kernel)
theorem ml_X11_129 : Cond.methodLink RX11 129 yJ0_substring_37a41 ∈ lw_tbl := List.mem_of_getElem? (i := 799) (by decide +kernel)
theorem ml_X11_135 : Cond.methodLink RX11 135 yX2_init ∈ lw_tbl := List.mem_of_getElem? (i := 827) (by decide +kernel)
theorem ml_X11_138 : Cond.methodLink RX11 138 yJ4_setLength_d00df ∈ lw_tbl := List.mem_of_getElem? (i := 848) (by decide +kernel)
theorem ml_X11_141 : Cond.methodLink RX11 141 yX2_readsAll ∈ lw_tbl := List.mem_of_getElem? (i := 871) (by decide +kernel)
theorem ml_X11_151 : Cond.methodLink RX11 151 yX11_inForce ∈ lw_tbl := List.mem_of_getElem? (i := 979) (by decide +kernel)
theorem ml_X11_157 : Cond.methodLink RX11 157 yX9_usualPart ∈ lw_tbl := List.mem_of_getElem? (i := 991) (by decide +kernel)
theorem ml_X11_161 : Cond.methodLink RX11 161 yX11_heapOf ∈ lw_tbl := List.mem_of_getElem? (i := 1002) (by decide +kernel)
theorem ml_X11_167 : Cond.methodLink RX11 167 yX11_layersInAll ∈ lw_tbl := List.mem_of_getElem? (i := 470) (by decide +kernel)
theorem ml_X11_172 : Cond.methodLink RX11 172 yX7_init ∈ lw_tbl := List.mem_of_getElem? (i := 1013) (by decide +kernel)
theorem ml_X11_175 : Cond.methodLink RX11 175 yX7_gradeAnew ∈ lw_tbl := List.mem_of_getElem? (i := 1059) (by decide +kernel)
theorem ml_X11_194 : Cond.methodLink RX11 194 yX6_init ∈ lw_tbl := List.mem_of_getElem? (i := 1087) (by decide +kernel)
theorem ml_X11_198 : Cond.methodLink RX11 198 yX11_loadOf ∈ lw_tbl := List.mem_of_getElem? (i := 1131) (by decide +kernel)
theorem ml_X11_218 : Cond.methodLink RX11 218 yX10_partOrThrow ∈ lw_tbl := List.mem_of_getElem? (i := 1136) (by decide +kernel)
theorem ml_X11_222 : Cond.methodLink RX11 222 yX10_hasCommon ∈ lw_tbl := List.mem_of_getElem? (i := 1150) (by decide +kernel)
theorem ml_X11_226 : Cond.methodLink RX11 226 yX10_narrow ∈ lw_tbl := List.mem_of_getElem? (i := 1158) (by decide +kernel)
theorem ml_X11_229 : Cond.methodLink RX11 229 yX4_narrowLayersOf ∈ lw_tbl := List.mem_of_getElem? (i := 1163) (by decide +kernel)
theorem ml_X11_233 : Cond.methodLink RX11 233 yX11_tonsOf ∈ lw_tbl := List.mem_of_getElem? (i := 478) (by decide +kernel)
theorem ml_X11_242 : Cond.methodLink RX11 242 yX4_fromTop ∈ lw_tbl := List.mem_of_getElem? (i := 1193) (by decide +kernel)
theorem ml_X11_247 : Cond.methodLink RX11 247 yX6_loadNumber ∈ lw_tbl := List.mem_of_getElem? (i := 1197) (by decide +kernel)
theorem ml_X11_258 : Cond.methodLink RX11 258 yX4_splitsFor ∈ lw_tbl := List.mem_of_getElem? (i := 1210) (by decide +kernel)
theorem ml_X11_262 : Cond.methodLink RX11 262 yX4_giveTo ∈ lw_tbl := List.mem_of_getElem? (i := 1215) (by decide +kernel)
theorem ml_X11_266 : Cond.methodLink RX11 266 yX4_becomeOneLayer ∈ lw_tbl := List.mem_of_getElem? (i := 1242) (by decide +kernel)
theorem ml_X11_269 : Cond.methodLink RX11 269 yX11_needChargeTons ∈ lw_tbl := List.mem_of_getElem? (i := 1281) (by decide +kernel)
theorem ml_X11_272 : Cond.methodLink RX11 272 yX0_leastCost ∈ lw_tbl := List.mem_of_getElem? (i := 1285) (by decide +kernel)
theorem ml_X11_276 : Cond.methodLink RX11 276 yX11_needHeap ∈ lw_tbl := List.mem_of_getElem? (i := 1006) (by decide +kernel)
theorem ml_X11_285 : Cond.methodLink RX11 285 yX8_init ∈ lw_tbl := List.mem_of_getElem? (i := 1343) (by decide +kernel)
theorem ml_X11_289 : Cond.methodLink RX11 289 yX11_meltOf ∈ lw_tbl := List.mem_of_getElem? (i := 1365) (by decide +kernel)
theorem ml_X11_295 : Cond.methodLink RX11 295 yJx4a65c_get_915e3 ∈ lw_tbl := List.mem_of_getElem? (i := 481) (by decide +kernel)
theorem ml_X11_299 : Cond.methodLink RX11 299 yX8_narrowsAll ∈ lw_tbl := List.mem_of_getElem? (i := 1385) (by decide +kernel)
theorem ml_X11_302 : Cond.methodLink RX11 302 yX8_putUsualRight ∈ lw_tbl := List.mem_of_getElem? (i := 1407) (by decide +kernel)
theorem ml_X11_307 : Cond.methodLink RX11 307 yX11_tonsInHeaps ∈ lw_tbl := List.mem_of_getElem? (i := 474) (by decide +kernel)
theorem ml_X11_310 : Cond.methodLink RX11 310 yX11_tonsInMelts ∈ lw_tbl := List.mem_of_getElem? (i := 494) (by decide +kernel)
theorem ml_X11_329 : Cond.methodLink RX11 329 yJ4_append_cf468 ∈ lw_tbl := List.mem_of_getElem? (i := 386) (by decide +kernel)
theorem ml_X11_339 : Cond.methodLink RX11 339 yJ9_floorDiv_7cf53 ∈ lw_tbl := List.mem_of_getElem? (i := 1255) (by decide +kernel)
theorem ml_X12_157 : Cond.methodLink RX12 157 yX12_isMetal ∈ lw_tbl := List.mem_of_getElem? (i := 1641) (by decide +kernel)
theorem ml_X12_161 : Cond.methodLink RX12 161 yX12_may ∈ lw_tbl := List.mem_of_getElem? (i := 1634) (by decide +kernel)
theorem ml_X12_165 : Cond.methodLink RX12 165 yX12_isSpan ∈ lw_tbl := List.mem_of_getElem? (i := 1638) (by decide +kernel)
theorem ml_X12_172 : Cond.methodLink RX12 172 yX12_usualAt ∈ lw_tbl := List.mem_of_getElem? (i := 1660) (by decide +kernel)
theorem ml_X12_176 : Cond.methodLink RX12 176 yX12_isSeller ∈ lw_tbl := List.mem_of_getElem? (i := 1652) (by decide +kernel)
theorem ml_X12_179 : Cond.methodLink RX12 179 yX12_lowOf ∈ lw_tbl := List.mem_of_getElem? (i := 1656) (by decide +kernel)
theorem ml_X12_182 : Cond.methodLink RX12 182 yX12_highOf ∈ lw_tbl := List.mem_of_getElem? (i := 1663) (by decide +kernel)
theorem ml_X12_197 : Cond.methodLink RX12 197 yX12_here ∈ lw_tbl := List.mem_of_getElem? (i := 1683) (by decide +kernel)
theorem ml_X12_201 : Cond.methodLink RX12 201 yX12_isSmall ∈ lw_tbl := List.mem_of_getElem? (i := 1687) (by decide +kernel)
theorem ml_X12_204 : Cond.methodLink RX12 204 yX12_word ∈ lw_tbl := List.mem_of_getElem? (i := 1679) (by decide +kernel)
theorem ml_X12_208 : Cond.methodLink RX12 208 yX12_wrong ∈ lw_tbl := List.mem_of_getElem? (i := 1691) (by decide +kernel)
theorem ml_X12_212 : Cond.methodLink RX12 212 yX12_fine ∈ lw_tbl := List.mem_of_getElem? (i := 1675) (by decide +kernel)
theorem ml_X12_216 : Cond.methodLink RX12 216 yX12_pass ∈ lw_tbl := List.mem_of_getElem? (i := 1695) (by decide +kernel)
theorem ml_X12_219 : Cond.methodLink RX12 219 yX12_isDigit ∈ lw_tbl := List.mem_of_getElem? (i := 1715) (by decide +kernel)
theorem ml_X12_232 : Cond.methodLink RX12 232 yX12_metalOf ∈ lw_tbl := List.mem_of_getElem? (i := 1703) (by decide +kernel)
theorem ml_X12_236 : Cond.methodLink RX12 236 yX12_digits ∈ lw_tbl := List.mem_of_getElem? (i := 1711) (by decide +kernel)
theorem ml_X12_247 : Cond.methodLink RX12 247 yX12_needWord ∈ lw_tbl := List.mem_of_getElem? (i := 1723) (by decide +kernel)
theorem ml_X12_251 : Cond.methodLink RX12 251 yX12_need ∈ lw_tbl := List.mem_of_getElem? (i := 1727) (by decide +kernel)
theorem ml_X12_256 : Cond.methodLink RX12 256 yX12_test ∈ lw_tbl := List.mem_of_getElem? (i := 1699) (by decide +kernel)
theorem ml_X12_259 : Cond.methodLink RX12 259 yX12_pay ∈ lw_tbl := List.mem_of_getElem? (i := 1718) (by decide +kernel)
theorem ml_X12_264 : Cond.methodLink RX12 264 yX12_inForce ∈ lw_tbl := List.mem_of_getElem? (i := 1736) (by decide +kernel)
theorem ml_X12_274 : Cond.methodLink RX12 274 yX12_isSure ∈ lw_tbl := List.mem_of_getElem? (i := 1752) (by decide +kernel)
theorem ml_X12_280 : Cond.methodLink RX12 280 yX12_layersInAll ∈ lw_tbl := List.mem_of_getElem? (i := 1744) (by decide +kernel)
theorem ml_X12_286 : Cond.methodLink RX12 286 yX12_findGrade ∈ lw_tbl := List.mem_of_getElem? (i := 1748) (by decide +kernel)
theorem ml_X12_290 : Cond.methodLink RX12 290 yX12_put ∈ lw_tbl := List.mem_of_getElem? (i := 1756) (by decide +kernel)
theorem ml_X12_294 : Cond.methodLink RX12 294 yX12_isLoad ∈ lw_tbl := List.mem_of_getElem? (i := 1764) (by decide +kernel)
theorem ml_X12_297 : Cond.methodLink RX12 297 yX12_isHeap ∈ lw_tbl := List.mem_of_getElem? (i := 1776) (by decide +kernel)
theorem ml_X12_300 : Cond.methodLink RX12 300 yX12_tonsOf ∈ lw_tbl := List.mem_of_getElem? (i := 1780) (by decide +kernel)
theorem ml_X12_304 : Cond.methodLink RX12 304 yX12_lowOfLayer ∈ lw_tbl := List.mem_of_getElem? (i := 1792) (by decide +kernel)
theorem ml_X12_307 : Cond.methodLink RX12 307 yX12_highOfLayer ∈ lw_tbl := List.mem_of_getElem? (i := 1796) (by decide +kernel)
theorem ml_X12_310 : Cond.methodLink RX12 310 yX12_sumAt ∈ lw_tbl := List.mem_of_getElem? (i := 1824) (by decide +kernel)
theorem ml_X12_313 : Cond.methodLink RX12 313 yX12_findSums ∈ lw_tbl := List.mem_of_getElem? (i := 1820) (by decide +kernel)
theorem ml_X12_318 : Cond.methodLink RX12 318 yX12_total ∈ lw_tbl := List.mem_of_getElem? (i := 1828) (by decide +kernel)
theorem ml_X12_322 : Cond.methodLink RX12 322 yX12_isGood ∈ lw_tbl := List.mem_of_getElem? (i := 1832) (by decide +kernel)
theorem ml_X12_325 : Cond.methodLink RX12 325 yX12_findBest ∈ lw_tbl := List.mem_of_getElem? (i := 1816) (by decide +kernel)
theorem ml_X12_331 : Cond.methodLink RX12 331 yX12_isMelt ∈ lw_tbl := List.mem_of_getElem? (i := 1848) (by decide +kernel)
theorem ml_X12_334 : Cond.methodLink RX12 334 yX12_floor ∈ lw_tbl := List.mem_of_getElem? (i := 1860) (by decide +kernel)
theorem ml_X12_338 : Cond.methodLink RX12 338 yX12_putRight ∈ lw_tbl := List.mem_of_getElem? (i := 1863) (by decide +kernel)
theorem ml_J5_26 : Cond.methodLink RJ5 26 yJ2_newBytesFor_77867 ∈ lw_tbl := List.mem_of_getElem? (i := 190) (by decide +kernel)
theorem ml_J5_104 : Cond.methodLink RJ5 104 yJ5_newCapacity_0f7a4 ∈ lw_tbl := List.mem_of_getElem? (i := 397) (by decide +kernel)
theorem ml_J5_108 : Cond.methodLink RJ5 108 yJ7_copyOf_9075b ∈ lw_tbl := List.mem_of_getElem? (i := 403) (by decide +kernel)
theorem ml_J5_114 : Cond.methodLink RJ5 114 yJ8_newLength_cabcc ∈ lw_tbl := List.mem_of_getElem? (i := 401) (by decide +kernel)
theorem ml_J5_83 : Cond.methodLink RJ5 83 yJ5_isLatin1_aae02 ∈ lw_tbl := List.mem_of_getElem? (i := 413) (by decide +kernel)
theorem ml_J5_125 : Cond.methodLink RJ5 125 yJ1_inflate_0e8fd ∈ lw_tbl := List.mem_of_getElem? (i := 425) (by decide +kernel)
theorem ml_J5_100 : Cond.methodLink RJ5 100 yJ5_ensureCapacityInternal_d00df ∈ lw_tbl := List.mem_of_getElem? (i := 393) (by decide +kernel)
theorem ml_J5_133 : Cond.methodLink RJ5 133 yJ1_fillNull_b72d1 ∈ lw_tbl := List.mem_of_getElem? (i := 855) (by decide +kernel)
theorem ml_J5_137 : Cond.methodLink RJ5 137 yJ2_fillNull_b72d1 ∈ lw_tbl := List.mem_of_getElem? (i := 867) (by decide +kernel)
theorem ml_J5_204 : Cond.methodLink RJ5 204 yJ5_appendNull_278bc ∈ lw_tbl := List.mem_of_getElem? (i := 742) (by decide +kernel)
theorem ml_J5_32 : Cond.methodLink RJ5 32 yJ0_length_8abf5 ∈ lw_tbl := List.mem_of_getElem? (i := 749) (by decide +kernel)
theorem ml_J5_208 : Cond.methodLink RJ5 208 yJ5_putStringAt_47b60 ∈ lw_tbl := List.mem_of_getElem? (i := 758) (by decide +kernel)
theorem ml_J5_226 : Cond.methodLink RJ5 226 yJ2_putCharsAt_cd4e5 ∈ lw_tbl := List.mem_of_getElem? (i := 746) (by decide +kernel)
theorem ml_J5_191 : Cond.methodLink RJ5 191 yJ1_canEncode_fc78d ∈ lw_tbl := List.mem_of_getElem? (i := 418) (by decide +kernel)
theorem ml_J5_195 : Cond.methodLink RJ5 195 yJ5_inflate_da8c8 ∈ lw_tbl := List.mem_of_getElem? (i := 421) (by decide +kernel)
theorem ml_J5_197 : Cond.methodLink RJ5 197 yJ2_putCharSB_b72d1 ∈ lw_tbl := List.mem_of_getElem? (i := 454) (by decide +kernel)
theorem ml_J5_245 : Cond.methodLink RJ5 245 yJ6_stringSize_0f7a4 ∈ lw_tbl := List.mem_of_getElem? (i := 707) (by decide +kernel)
theorem ml_J5_248 : Cond.methodLink RJ5 248 yJ6_getChars_ba4f3 ∈ lw_tbl := List.mem_of_getElem? (i := 710) (by decide +kernel)
theorem ml_J5_251 : Cond.methodLink RJ5 251 yJ2_getChars_46870 ∈ lw_tbl := List.mem_of_getElem? (i := 717) (by decide +kernel)
theorem ml_J5_40 : Cond.methodLink RJ5 40 yJ0_coder_7d493 ∈ lw_tbl := List.mem_of_getElem? (i := 766) (by decide +kernel)
theorem ml_J5_397 : Cond.methodLink RJ5 397 yJ5_inflateIfNeededFor_a7421 ∈ lw_tbl := List.mem_of_getElem? (i := 762) (by decide +kernel)
theorem ml_J5_399 : Cond.methodLink RJ5 399 yJ0_getBytes_840e7 ∈ lw_tbl := List.mem_of_getElem? (i := 767) (by decide +kernel)
theorem ml_J0_489 : Cond.methodLink RJ0 489 yJ0_init_db425 ∈ lw_tbl := List.mem_of_getElem? (i := 677) (by decide +kernel)
theorem ml_J0_335 : Cond.methodLink RJ0 335 yJ0_coder_7d493 ∈ lw_tbl := List.mem_of_getElem? (i := 753) (by decide +kernel)
theorem ml_J0_492 : Cond.methodLink RJ0 492 yJ0_isLatin1_aae02 ∈ lw_tbl := List.mem_of_getElem? (i := 805) (by decide +kernel)
theorem ml_J0_495 : Cond.methodLink RJ0 495 yJ1_charAt_3b067 ∈ lw_tbl := List.mem_of_getElem? (i := 893) (by decide +kernel)
theorem ml_J0_498 : Cond.methodLink RJ0 498 yJ2_charAt_3b067 ∈ lw_tbl := List.mem_of_getElem? (i := 897) (by decide +kernel)
theorem ml_J0_541 : Cond.methodLink RJ0 541 yJ1_equals_b5fdf ∈ lw_tbl := List.mem_of_getElem? (i := 909) (by decide +kernel)
theorem ml_J0_505 : Cond.methodLink RJ0 505 yJ0_length_8abf5 ∈ lw_tbl := List.mem_of_getElem? (i := 803) (by decide +kernel)
theorem ml_J0_521 : Cond.methodLink RJ0 521 yJ0_checkBoundsBeginEnd_23922 ∈ lw_tbl := List.mem_of_getElem? (i := 804) (by decide +kernel)
theorem ml_J0_685 : Cond.methodLink RJ0 685 yJ1_newString_b4f7a ∈ lw_tbl := List.mem_of_getElem? (i := 809) (by decide +kernel)
theorem ml_J0_689 : Cond.methodLink RJ0 689 yJ2_newString_b4f7a ∈ lw_tbl := List.mem_of_getElem? (i := 818) (by decide +kernel)
theorem ml_J0_106 : Cond.methodLink RJ0 106 yJ1_inflate_0e8fd ∈ lw_tbl := List.mem_of_getElem? (i := 772) (by decide +kernel)
theorem ml_J0_552 : Cond.methodLink RJ0 552 yJ5_getValue_6d5f1 ∈ lw_tbl := List.mem_of_getElem? (i := 681) (by decide +kernel)
theorem ml_J0_549 : Cond.methodLink RJ0 549 yJ5_length_8abf5 ∈ lw_tbl := List.mem_of_getElem? (i := 686) (by decide +kernel)
theorem ml_J0_1047 : Cond.methodLink RJ0 1047 yJ5_isLatin1_aae02 ∈ lw_tbl := List.mem_of_getElem? (i := 687) (by decide +kernel)
theorem ml_J0_54 : Cond.methodLink RJ0 54 yJ7_copyOfRange_39247 ∈ lw_tbl := List.mem_of_getElem? (i := 688) (by decide +kernel)
theorem ml_J0_1051 : Cond.methodLink RJ0 1051 yJ2_compress_39247 ∈ lw_tbl := List.mem_of_getElem? (i := 775) (by decide +kernel)
theorem ml_J0_47 : Cond.methodLink RJ0 47 yJ2_coderFromArrayLen_85cad ∈ lw_tbl := List.mem_of_getElem? (i := 785) (by decide +kernel)
theorem ml_J0_1059 : Cond.methodLink RJ0 1059 yJ3_checkIndex_8e157 ∈ lw_tbl := List.mem_of_getElem? (i := 463) (by decide +kernel)
theorem ml_J0_1065 : Cond.methodLink RJ0 1065 yJ3_checkFromIndexSize_8c36e ∈ lw_tbl := List.mem_of_getElem? (i := 442) (by decide +kernel)
theorem ml_J0_1062 : Cond.methodLink RJ0 1062 yJ3_checkFromToIndex_8c36e ∈ lw_tbl := List.mem_of_getElem? (i := 726) (by decide +kernel)
theorem ml_J4_1 : Cond.methodLink RJ4 1 yJ5_init_d00df ∈ lw_tbl := List.mem_of_getElem? (i := 184) (by decide +kernel)
theorem ml_J4_29 : Cond.methodLink RJ4 29 yJ5_append_cf1ce ∈ lw_tbl := List.mem_of_getElem? (i := 739) (by decide +kernel)
theorem ml_J4_50 : Cond.methodLink RJ4 50 yJ5_append_3fe6f ∈ lw_tbl := List.mem_of_getElem? (i := 390) (by decide +kernel)
theorem ml_J4_53 : Cond.methodLink RJ4 53 yJ5_append_c97b9 ∈ lw_tbl := List.mem_of_getElem? (i := 704) (by decide +kernel)
theorem ml_J4_137 : Cond.methodLink RJ4 137 yJ0_init_81219 ∈ lw_tbl := List.mem_of_getElem? (i := 674) (by decide +kernel)
theorem ml_J4_333 : Cond.methodLink RJ4 333 yJ5_setLength_d00df ∈ lw_tbl := List.mem_of_getElem? (i := 852) (by decide +kernel)
theorem ml_J4_343 : Cond.methodLink RJ4 343 yJ5_length_8abf5 ∈ lw_tbl := List.mem_of_getElem? (i := 379) (by decide +kernel)
theorem ml_J1_9 : Cond.methodLink RJ1 9 yJ0_checkIndex_df160 ∈ lw_tbl := List.mem_of_getElem? (i := 896) (by decide +kernel)
theorem ml_J1_232 : Cond.methodLink RJ1 232 yJ7_copyOfRange_39247 ∈ lw_tbl := List.mem_of_getElem? (i := 814) (by decide +kernel)
theorem ml_J1_112 : Cond.methodLink RJ1 112 yJ0_init_031fb ∈ lw_tbl := List.mem_of_getElem? (i := 815) (by decide +kernel)
theorem ml_J1_236 : Cond.methodLink RJ1 236 yJ7_fill_eb02e ∈ lw_tbl := List.mem_of_getElem? (i := 858) (by decide +kernel)
theorem ml_J1_240 : Cond.methodLink RJ1 240 yJ2_inflate_0e8fd ∈ lw_tbl := List.mem_of_getElem? (i := 428) (by decide +kernel)
theorem ml_J2_11 : Cond.methodLink RJ2 11 yJ2_newBytesLength_0f7a4 ∈ lw_tbl := List.mem_of_getElem? (i := 193) (by decide +kernel)
theorem ml_J2_48 : Cond.methodLink RJ2 48 yJ2_length_9d52b ∈ lw_tbl := List.mem_of_getElem? (i := 434) (by decide +kernel)
theorem ml_J2_123 : Cond.methodLink RJ2 123 yJ2_compress_5af95 ∈ lw_tbl := List.mem_of_getElem? (i := 778) (by decide +kernel)
theorem ml_J2_126 : Cond.methodLink RJ2 126 yJ7_copyOfRange_39247 ∈ lw_tbl := List.mem_of_getElem? (i := 784) (by decide +kernel)
theorem ml_J2_71 : Cond.methodLink RJ2 71 yJ2_getChar_3b067 ∈ lw_tbl := List.mem_of_getElem? (i := 781) (by decide +kernel)
theorem ml_J2_173 : Cond.methodLink RJ2 173 yJ2_checkBoundsOffCount_d044e ∈ lw_tbl := List.mem_of_getElem? (i := 431) (by decide +kernel)
theorem ml_J2_257 : Cond.methodLink RJ2 257 yJ2_compress_39247 ∈ lw_tbl := List.mem_of_getElem? (i := 823) (by decide +kernel)
theorem ml_J2_259 : Cond.methodLink RJ2 259 yJ2_coderFromArrayLen_85cad ∈ lw_tbl := List.mem_of_getElem? (i := 824) (by decide +kernel)
theorem ml_J2_263 : Cond.methodLink RJ2 263 yJ0_init_031fb ∈ lw_tbl := List.mem_of_getElem? (i := 826) (by decide +kernel)
theorem ml_J2_380 : Cond.methodLink RJ2 380 yJ7_fill_eb02e ∈ lw_tbl := List.mem_of_getElem? (i := 870) (by decide +kernel)
theorem ml_J2_67 : Cond.methodLink RJ2 67 yJ2_checkIndex_2214a ∈ lw_tbl := List.mem_of_getElem? (i := 457) (by decide +kernel)
theorem ml_J2_111 : Cond.methodLink RJ2 111 yJ2_putChar_b72d1 ∈ lw_tbl := List.mem_of_getElem? (i := 445) (by decide +kernel)
theorem ml_J2_96 : Cond.methodLink RJ2 96 yJ2_checkBoundsBeginEnd_d044e ∈ lw_tbl := List.mem_of_getElem? (i := 720) (by decide +kernel)
theorem ml_J2_393 : Cond.methodLink RJ2 393 yJ2_getChars_ba4f3 ∈ lw_tbl := List.mem_of_getElem? (i := 729) (by decide +kernel)
theorem ml_J2_414 : Cond.methodLink RJ2 414 yJ0_checkIndex_df160 ∈ lw_tbl := List.mem_of_getElem? (i := 460) (by decide +kernel)
theorem ml_J2_241 : Cond.methodLink RJ2 241 yJ0_checkBoundsBeginEnd_23922 ∈ lw_tbl := List.mem_of_getElem? (i := 723) (by decide +kernel)
theorem ml_J2_419 : Cond.methodLink RJ2 419 yJ0_checkBoundsOffCount_cabcc ∈ lw_tbl := List.mem_of_getElem? (i := 437) (by decide +kernel)
theorem ml_Jxc12de_1 : Cond.methodLink RJxc12de 1 yJxa1e45_init_da8c8 ∈ lw_tbl := List.mem_of_getElem? (i := 114) (by decide +kernel)
theorem ml_Jx4a65c_1 : Cond.methodLink RJx4a65c 1 yJxc12de_init_da8c8 ∈ lw_tbl := List.mem_of_getElem? (i := 111) (by decide +kernel)
theorem ml_Jx4a65c_73 : Cond.methodLink RJx4a65c 73 yJ8_newLength_cabcc ∈ lw_tbl := List.mem_of_getElem? (i := 299) (by decide +kernel)
theorem ml_Jx4a65c_66 : Cond.methodLink RJx4a65c 66 yJ7_copyOf_1904c ∈ lw_tbl := List.mem_of_getElem? (i := 309) (by decide +kernel)
theorem ml_Jx4a65c_79 : Cond.methodLink RJx4a65c 79 yJ9_max_7cf53 ∈ lw_tbl := List.mem_of_getElem? (i := 347) (by decide +kernel)
theorem ml_Jx4a65c_69 : Cond.methodLink RJx4a65c 69 yJx4a65c_grow_92f84 ∈ lw_tbl := List.mem_of_getElem? (i := 295) (by decide +kernel)
theorem ml_Jx4a65c_118 : Cond.methodLink RJx4a65c 118 yJ15_checkIndex_7cf53 ∈ lw_tbl := List.mem_of_getElem? (i := 485) (by decide +kernel)
theorem ml_Jx4a65c_123 : Cond.methodLink RJx4a65c 123 yJx4a65c_elementData_915e3 ∈ lw_tbl := List.mem_of_getElem? (i := 489) (by decide +kernel)
theorem ml_Jx4a65c_129 : Cond.methodLink RJx4a65c 129 yJx4a65c_grow_d5877 ∈ lw_tbl := List.mem_of_getElem? (i := 291) (by decide +kernel)
theorem ml_Jx4a65c_131 : Cond.methodLink RJx4a65c 131 yJx4a65c_add_72be8 ∈ lw_tbl := List.mem_of_getElem? (i := 287) (by decide +kernel)
theorem ml_Jx4a65c_144 : Cond.methodLink RJx4a65c 144 yJx4a65c_fastRemove_b59b0 ∈ lw_tbl := List.mem_of_getElem? (i := 1230) (by decide +kernel)
theorem ml_J7_47 : Cond.methodLink RJ7 47 yJ4_init_da8c8 ∈ lw_tbl := List.mem_of_getElem? (i := 699) (by decide +kernel)
theorem ml_J7_50 : Cond.methodLink RJ7 50 yJ4_append_15ec4 ∈ lw_tbl := List.mem_of_getElem? (i := 735) (by decide +kernel)
theorem ml_J7_54 : Cond.methodLink RJ7 54 yJ4_append_bf812 ∈ lw_tbl := List.mem_of_getElem? (i := 700) (by decide +kernel)
theorem ml_J7_61 : Cond.methodLink RJ7 61 yJ4_toString_0e30d ∈ lw_tbl := List.mem_of_getElem? (i := 773) (by decide +kernel)
theorem ml_J7_13 : Cond.methodLink RJ7 13 yJ7_rangeCheck_23922 ∈ lw_tbl := List.mem_of_getElem? (i := 861) (by decide +kernel)
theorem ml_J7_300 : Cond.methodLink RJ7 300 yJ7_copyOf_6403c ∈ lw_tbl := List.mem_of_getElem? (i := 335) (by decide +kernel)
theorem ml_J7_304 : Cond.methodLink RJ7 304 yJ9_min_7cf53 ∈ lw_tbl := List.mem_of_getElem? (i := 341) (by decide +kernel)
theorem ml_J7_339 : Cond.methodLink RJ7 339 yJ7_copyOfRangeByte_39247 ∈ lw_tbl := List.mem_of_getElem? (i := 691) (by decide +kernel)
theorem ml_J7_343 : Cond.methodLink RJ7 343 yJ7_checkLength_df160 ∈ lw_tbl := List.mem_of_getElem? (i := 694) (by decide +kernel)
theorem ml_J15_105 : Cond.methodLink RJ15 105 yJ3_checkIndex_8e157 ∈ lw_tbl := List.mem_of_getElem? (i := 488) (by decide +kernel)
theorem ml_J8_194 : Cond.methodLink RJ8 194 yJ9_max_7cf53 ∈ lw_tbl := List.mem_of_getElem? (i := 302) (by decide +kernel)
theorem ml_J8_201 : Cond.methodLink RJ8 201 yJ8_hugeLength_7cf53 ∈ lw_tbl := List.mem_of_getElem? (i := 306) (by decide +kernel)
theorem ml_L_7 : Cond.methodLink RL 7 yX11_span ∈ lw_tbl := List.mem_of_getElem? (i := 504) (by decide +kernel)
theorem ml_L_17 : Cond.methodLink RL 17 yX11_contract ∈ lw_tbl := List.mem_of_getElem? (i := 610) (by decide +kernel)
theorem ml_L_23 : Cond.methodLink RL 23 yX11_force ∈ lw_tbl := List.mem_of_getElem? (i := 975) (by decide +kernel)
theorem ml_L_27 : Cond.methodLink RL 27 yX11_usual ∈ lw_tbl := List.mem_of_getElem? (i := 986) (by decide +kernel)
theorem ml_L_30 : Cond.methodLink RL 30 yX11_load ∈ lw_tbl := List.mem_of_getElem? (i := 998) (by decide +kernel)
theorem ml_L_33 : Cond.methodLink RL 33 yX11_told ∈ lw_tbl := List.mem_of_getElem? (i := 1127) (by decide +kernel)
theorem ml_L_36 : Cond.methodLink RL 36 yX11_sample ∈ lw_tbl := List.mem_of_getElem? (i := 1146) (by decide +kernel)
theorem ml_L_39 : Cond.methodLink RL 39 yX11_tons ∈ lw_tbl := List.mem_of_getElem? (i := 1174) (by decide +kernel)
theorem ml_L_43 : Cond.methodLink RL 43 yX11_layers ∈ lw_tbl := List.mem_of_getElem? (i := 1181) (by decide +kernel)
theorem ml_L_46 : Cond.methodLink RL 46 yX11_layer ∈ lw_tbl := List.mem_of_getElem? (i := 1188) (by decide +kernel)
theorem ml_L_49 : Cond.methodLink RL 49 yX11_move ∈ lw_tbl := List.mem_of_getElem? (i := 1204) (by decide +kernel)
theorem ml_L_52 : Cond.methodLink RL 52 yX11_mix ∈ lw_tbl := List.mem_of_getElem? (i := 1238) (by decide +kernel)
theorem ml_L_55 : Cond.methodLink RL 55 yX11_asked ∈ lw_tbl := List.mem_of_getElem? (i := 1270) (by decide +kernel)
theorem ml_L_58 : Cond.methodLink RL 58 yX11_best ∈ lw_tbl := List.mem_of_getElem? (i := 1277) (by decide +kernel)
theorem ml_L_61 : Cond.methodLink RL 61 yX11_charge ∈ lw_tbl := List.mem_of_getElem? (i := 1331) (by decide +kernel)
theorem ml_L_64 : Cond.methodLink RL 64 yX11_melt ∈ lw_tbl := List.mem_of_getElem? (i := 1338) (by decide +kernel)
theorem ml_L_67 : Cond.methodLink RL 67 yX11_portions ∈ lw_tbl := List.mem_of_getElem? (i := 1361) (by decide +kernel)
theorem ml_L_70 : Cond.methodLink RL 70 yX11_portion ∈ lw_tbl := List.mem_of_getElem? (i := 1373) (by decide +kernel)
theorem ml_L_73 : Cond.methodLink RL 73 yX11_prove ∈ lw_tbl := List.mem_of_getElem? (i := 1381) (by decide +kernel)
theorem ml_L_76 : Cond.methodLink RL 76 yX11_money ∈ lw_tbl := List.mem_of_getElem? (i := 1421) (by decide +kernel)
theorem ml_L_80 : Cond.methodLink RL 80 yX11_day ∈ lw_tbl := List.mem_of_getElem? (i := 1428) (by decide +kernel)
theorem ml_L_83 : Cond.methodLink RL 83 yX11_init ∈ lw_tbl := List.mem_of_getElem? (i := 100) (by decide +kernel)
theorem ml_L_86 : Cond.methodLink RL 86 yX12_init ∈ lw_tbl := List.mem_of_getElem? (i := 1439) (by decide +kernel)
theorem ml_L_87 : Cond.methodLink RL 87 yX11_kind ∈ lw_tbl := List.mem_of_getElem? (i := 256) (by decide +kernel)
theorem ml_L_91 : Cond.methodLink RL 91 yX12_kind ∈ lw_tbl := List.mem_of_getElem? (i := 1626) (by decide +kernel)
theorem ml_L_92 : Cond.methodLink RL 92 yL_span ∈ lw_tbl := List.mem_of_getElem? (i := 499) (by decide +kernel)
theorem ml_L_97 : Cond.methodLink RL 97 yX12_span ∈ lw_tbl := List.mem_of_getElem? (i := 1630) (by decide +kernel)
theorem ml_L_98 : Cond.methodLink RL 98 yX12_thrown ∈ lw_tbl := List.mem_of_getElem? (i := 1433) (by decide +kernel)
theorem ml_L_101 : Cond.methodLink RL 101 yX11_seller ∈ lw_tbl := List.mem_of_getElem? (i := 349) (by decide +kernel)
theorem ml_L_104 : Cond.methodLink RL 104 yX12_seller ∈ lw_tbl := List.mem_of_getElem? (i := 1644) (by decide +kernel)
theorem ml_L_105 : Cond.methodLink RL 105 yX11_feed ∈ lw_tbl := List.mem_of_getElem? (i := 371) (by decide +kernel)
theorem ml_L_109 : Cond.methodLink RL 109 yX12_feed ∈ lw_tbl := List.mem_of_getElem? (i := 1667) (by decide +kernel)
theorem ml_L_110 : Cond.methodLink RL 110 yL_contract ∈ lw_tbl := List.mem_of_getElem? (i := 606) (by decide +kernel)
theorem ml_L_113 : Cond.methodLink RL 113 yX12_contract ∈ lw_tbl := List.mem_of_getElem? (i := 1671) (by decide +kernel)
theorem ml_L_114 : Cond.methodLink RL 114 yL_force ∈ lw_tbl := List.mem_of_getElem? (i := 972) (by decide +kernel)
theorem ml_L_117 : Cond.methodLink RL 117 yX12_force ∈ lw_tbl := List.mem_of_getElem? (i := 1732) (by decide +kernel)
theorem ml_L_118 : Cond.methodLink RL 118 yL_usual ∈ lw_tbl := List.mem_of_getElem? (i := 983) (by decide +kernel)
theorem ml_L_120 : Cond.methodLink RL 120 yX12_usual ∈ lw_tbl := List.mem_of_getElem? (i := 1648) (by decide +kernel)
theorem ml_L_121 : Cond.methodLink RL 121 yL_load ∈ lw_tbl := List.mem_of_getElem? (i := 995) (by decide +kernel)
theorem ml_L_123 : Cond.methodLink RL 123 yX12_load ∈ lw_tbl := List.mem_of_getElem? (i := 1740) (by decide +kernel)
theorem ml_L_124 : Cond.methodLink RL 124 yL_told ∈ lw_tbl := List.mem_of_getElem? (i := 1124) (by decide +kernel)
theorem ml_L_126 : Cond.methodLink RL 126 yX12_told ∈ lw_tbl := List.mem_of_getElem? (i := 1760) (by decide +kernel)
theorem ml_L_127 : Cond.methodLink RL 127 yL_sample ∈ lw_tbl := List.mem_of_getElem? (i := 1143) (by decide +kernel)
theorem ml_L_129 : Cond.methodLink RL 129 yX12_sample ∈ lw_tbl := List.mem_of_getElem? (i := 1768) (by decide +kernel)
theorem ml_L_130 : Cond.methodLink RL 130 yL_tons ∈ lw_tbl := List.mem_of_getElem? (i := 1171) (by decide +kernel)
theorem ml_L_133 : Cond.methodLink RL 133 yX12_tons ∈ lw_tbl := List.mem_of_getElem? (i := 1772) (by decide +kernel)
theorem ml_L_134 : Cond.methodLink RL 134 yL_layers ∈ lw_tbl := List.mem_of_getElem? (i := 1178) (by decide +kernel)
theorem ml_L_136 : Cond.methodLink RL 136 yX12_layers ∈ lw_tbl := List.mem_of_getElem? (i := 1784) (by decide +kernel)
theorem ml_L_137 : Cond.methodLink RL 137 yL_layer ∈ lw_tbl := List.mem_of_getElem? (i := 1185) (by decide +kernel)
theorem ml_L_139 : Cond.methodLink RL 139 yX12_layer ∈ lw_tbl := List.mem_of_getElem? (i := 1788) (by decide +kernel)
theorem ml_L_140 : Cond.methodLink RL 140 yL_move ∈ lw_tbl := List.mem_of_getElem? (i := 1201) (by decide +kernel)
theorem ml_L_142 : Cond.methodLink RL 142 yX12_move ∈ lw_tbl := List.mem_of_getElem? (i := 1800) (by decide +kernel)
theorem ml_L_143 : Cond.methodLink RL 143 yL_mix ∈ lw_tbl := List.mem_of_getElem? (i := 1235) (by decide +kernel)
theorem ml_L_145 : Cond.methodLink RL 145 yX12_mix ∈ lw_tbl := List.mem_of_getElem? (i := 1804) (by decide +kernel)
theorem ml_L_146 : Cond.methodLink RL 146 yL_asked ∈ lw_tbl := List.mem_of_getElem? (i := 1267) (by decide +kernel)
theorem ml_L_148 : Cond.methodLink RL 148 yX12_asked ∈ lw_tbl := List.mem_of_getElem? (i := 1808) (by decide +kernel)
theorem ml_L_149 : Cond.methodLink RL 149 yL_best ∈ lw_tbl := List.mem_of_getElem? (i := 1274) (by decide +kernel)
theorem ml_L_151 : Cond.methodLink RL 151 yX12_best ∈ lw_tbl := List.mem_of_getElem? (i := 1812) (by decide +kernel)
theorem ml_L_152 : Cond.methodLink RL 152 yL_charge ∈ lw_tbl := List.mem_of_getElem? (i := 1328) (by decide +kernel)
theorem ml_L_154 : Cond.methodLink RL 154 yX12_charge ∈ lw_tbl := List.mem_of_getElem? (i := 1836) (by decide +kernel)
theorem ml_L_155 : Cond.methodLink RL 155 yL_melt ∈ lw_tbl := List.mem_of_getElem? (i := 1335) (by decide +kernel)
theorem ml_L_157 : Cond.methodLink RL 157 yX12_melt ∈ lw_tbl := List.mem_of_getElem? (i := 1840) (by decide +kernel)
theorem ml_L_158 : Cond.methodLink RL 158 yL_portions ∈ lw_tbl := List.mem_of_getElem? (i := 1358) (by decide +kernel)
theorem ml_L_160 : Cond.methodLink RL 160 yX12_portions ∈ lw_tbl := List.mem_of_getElem? (i := 1844) (by decide +kernel)
theorem ml_L_161 : Cond.methodLink RL 161 yL_portion ∈ lw_tbl := List.mem_of_getElem? (i := 1370) (by decide +kernel)
theorem ml_L_163 : Cond.methodLink RL 163 yX12_portion ∈ lw_tbl := List.mem_of_getElem? (i := 1852) (by decide +kernel)
theorem ml_L_164 : Cond.methodLink RL 164 yL_prove ∈ lw_tbl := List.mem_of_getElem? (i := 1378) (by decide +kernel)
theorem ml_L_166 : Cond.methodLink RL 166 yX12_prove ∈ lw_tbl := List.mem_of_getElem? (i := 1856) (by decide +kernel)
theorem ml_L_167 : Cond.methodLink RL 167 yL_money ∈ lw_tbl := List.mem_of_getElem? (i := 1418) (by decide +kernel)
theorem ml_L_169 : Cond.methodLink RL 169 yX12_money ∈ lw_tbl := List.mem_of_getElem? (i := 1867) (by decide +kernel)
theorem ml_L_170 : Cond.methodLink RL 170 yL_day ∈ lw_tbl := List.mem_of_getElem? (i := 1425) (by decide +kernel)
theorem ml_L_172 : Cond.methodLink RL 172 yX12_day ∈ lw_tbl := List.mem_of_getElem? (i := 1871) (by decide +kernel)
theorem ml_L_173 : Cond.methodLink RL 173 yX11_count ∈ lw_tbl := List.mem_of_getElem? (i := 466) (by decide +kernel)
theorem ml_L_176 : Cond.methodLink RL 176 yX12_count ∈ lw_tbl := List.mem_of_getElem? (i := 1875) (by decide +kernel)
theorem iv0_J0_charAt_5068e : Cond.instanceMethod yJ0_charAt_5068e ∈ lw_tbl := List.mem_of_getElem? (i := 890) (by decide +kernel)
theorem iv_J0_charAt_5068e : Cond.instanceMethod yJ0_charAt_5068e ∈ lw_tbl ∧ Cond.selects yJ0_charAt_5068e.cls yJ0_charAt_5068e yJ0_charAt_5068e ∈ lw_tbl := ⟨iv0_J0_charAt_5068e, List.mem_of_getElem? (i := 891) (by decide +kernel)⟩
theorem iv0_J0_coder_7d493 : Cond.instanceMethod yJ0_coder_7d493 ∈ lw_tbl := List.mem_of_getElem? (i := 754) (by decide +kernel)
theorem iv_J0_coder_7d493 : Cond.instanceMethod yJ0_coder_7d493 ∈ lw_tbl ∧ Cond.selects yJ0_coder_7d493.cls yJ0_coder_7d493 yJ0_coder_7d493 ∈ lw_tbl := ⟨iv0_J0_coder_7d493, List.mem_of_getElem? (i := 755) (by decide +kernel)⟩
theorem iv0_J0_equals_9ea2d : Cond.instanceMethod yJ0_equals_9ea2d ∈ lw_tbl := List.mem_of_getElem? (i := 905) (by decide +kernel)
theorem iv_J0_equals_9ea2d : Cond.instanceMethod yJ0_equals_9ea2d ∈ lw_tbl ∧ Cond.selects yJ0_equals_9ea2d.cls yJ0_equals_9ea2d yJ0_equals_9ea2d ∈ lw_tbl := ⟨iv0_J0_equals_9ea2d, List.mem_of_getElem? (i := 906) (by decide +kernel)⟩
theorem iv0_J0_getBytes_840e7 : Cond.instanceMethod yJ0_getBytes_840e7 ∈ lw_tbl := List.mem_of_getElem? (i := 768) (by decide +kernel)
theorem iv_J0_getBytes_840e7 : Cond.instanceMethod yJ0_getBytes_840e7 ∈ lw_tbl ∧ Cond.selects yJ0_getBytes_840e7.cls yJ0_getBytes_840e7 yJ0_getBytes_840e7 ∈ lw_tbl := ⟨iv0_J0_getBytes_840e7, List.mem_of_getElem? (i := 769) (by decide +kernel)⟩
theorem iv_J0_init_031fb : Cond.instanceMethod yJ0_init_031fb ∈ lw_tbl := List.mem_of_getElem? (i := 816) (by decide +kernel)
theorem iv_J0_init_81219 : Cond.instanceMethod yJ0_init_81219 ∈ lw_tbl := List.mem_of_getElem? (i := 675) (by decide +kernel)
theorem iv_J0_init_db425 : Cond.instanceMethod yJ0_init_db425 ∈ lw_tbl := List.mem_of_getElem? (i := 678) (by decide +kernel)
theorem iv0_J0_isLatin1_aae02 : Cond.instanceMethod yJ0_isLatin1_aae02 ∈ lw_tbl := List.mem_of_getElem? (i := 806) (by decide +kernel)
theorem iv_J0_isLatin1_aae02 : Cond.instanceMethod yJ0_isLatin1_aae02 ∈ lw_tbl ∧ Cond.selects yJ0_isLatin1_aae02.cls yJ0_isLatin1_aae02 yJ0_isLatin1_aae02 ∈ lw_tbl := ⟨iv0_J0_isLatin1_aae02, List.mem_of_getElem? (i := 807) (by decide +kernel)⟩
theorem iv0_J0_length_8abf5 : Cond.instanceMethod yJ0_length_8abf5 ∈ lw_tbl := List.mem_of_getElem? (i := 750) (by decide +kernel)
theorem iv_J0_length_8abf5 : Cond.instanceMethod yJ0_length_8abf5 ∈ lw_tbl ∧ Cond.selects yJ0_length_8abf5.cls yJ0_length_8abf5 yJ0_length_8abf5 ∈ lw_tbl := ⟨iv0_J0_length_8abf5, List.mem_of_getElem? (i := 751) (by decide +kernel)⟩
theorem iv0_J0_substring_37a41 : Cond.instanceMethod yJ0_substring_37a41 ∈ lw_tbl := List.mem_of_getElem? (i := 800) (by decide +kernel)
theorem iv_J0_substring_37a41 : Cond.instanceMethod yJ0_substring_37a41 ∈ lw_tbl ∧ Cond.selects yJ0_substring_37a41.cls yJ0_substring_37a41 yJ0_substring_37a41 ∈ lw_tbl := ⟨iv0_J0_substring_37a41, List.mem_of_getElem? (i := 801) (by decide +kernel)⟩
theorem iv0_J4_append_15ec4 : Cond.instanceMethod yJ4_append_15ec4 ∈ lw_tbl := List.mem_of_getElem? (i := 736) (by decide +kernel)
theorem iv_J4_append_15ec4 : Cond.instanceMethod yJ4_append_15ec4 ∈ lw_tbl ∧ Cond.selects yJ4_append_15ec4.cls yJ4_append_15ec4 yJ4_append_15ec4 ∈ lw_tbl := ⟨iv0_J4_append_15ec4, List.mem_of_getElem? (i := 737) (by decide +kernel)⟩
theorem iv0_J4_append_bf812 : Cond.instanceMethod yJ4_append_bf812 ∈ lw_tbl := List.mem_of_getElem? (i := 701) (by decide +kernel)
theorem iv_J4_append_bf812 : Cond.instanceMethod yJ4_append_bf812 ∈ lw_tbl ∧ Cond.selects yJ4_append_bf812.cls yJ4_append_bf812 yJ4_append_bf812 ∈ lw_tbl := ⟨iv0_J4_append_bf812, List.mem_of_getElem? (i := 702) (by decide +kernel)⟩
theorem iv0_J4_append_cf468 : Cond.instanceMethod yJ4_append_cf468 ∈ lw_tbl := List.mem_of_getElem? (i := 387) (by decide +kernel)
theorem iv_J4_append_cf468 : Cond.instanceMethod yJ4_append_cf468 ∈ lw_tbl ∧ Cond.selects yJ4_append_cf468.cls yJ4_append_cf468 yJ4_append_cf468 ∈ lw_tbl := ⟨iv0_J4_append_cf468, List.mem_of_getElem? (i := 388) (by decide +kernel)⟩
theorem iv_J4_init_da8c8 : Cond.instanceMethod yJ4_init_da8c8 ∈ lw_tbl := List.mem_of_getElem? (i := 182) (by decide +kernel)
theorem iv0_J4_length_8abf5 : Cond.instanceMethod yJ4_length_8abf5 ∈ lw_tbl := List.mem_of_getElem? (i := 376) (by decide +kernel)
theorem iv_J4_length_8abf5 : Cond.instanceMethod yJ4_length_8abf5 ∈ lw_tbl ∧ Cond.selects yJ4_length_8abf5.cls yJ4_length_8abf5 yJ4_length_8abf5 ∈ lw_tbl := ⟨iv0_J4_length_8abf5, List.mem_of_getElem? (i := 377) (by decide +kernel)⟩
theorem iv0_J4_setLength_d00df : Cond.instanceMethod yJ4_setLength_d00df ∈ lw_tbl := List.mem_of_getElem? (i := 849) (by decide +kernel)
theorem iv_J4_setLength_d00df : Cond.instanceMethod yJ4_setLength_d00df ∈ lw_tbl ∧ Cond.selects yJ4_setLength_d00df.cls yJ4_setLength_d00df yJ4_setLength_d00df ∈ lw_tbl := ⟨iv0_J4_setLength_d00df, List.mem_of_getElem? (i := 850) (by decide +kernel)⟩
theorem iv0_J4_toString_0e30d : Cond.instanceMethod yJ4_toString_0e30d ∈ lw_tbl := List.mem_of_getElem? (i := 669) (by decide +kernel)
theorem iv_J4_toString_0e30d : Cond.instanceMethod yJ4_toString_0e30d ∈ lw_tbl ∧ Cond.selects yJ4_toString_0e30d.cls yJ4_toString_0e30d yJ4_toString_0e30d ∈ lw_tbl := ⟨iv0_J4_toString_0e30d, List.mem_of_getElem? (i := 670) (by decide +kernel)⟩
theorem iv0_J5_appendNull_278bc : Cond.instanceMethod yJ5_appendNull_278bc ∈ lw_tbl := List.mem_of_getElem? (i := 744) (by decide +kernel)
theorem iv0_J5_append_3fe6f : Cond.instanceMethod yJ5_append_3fe6f ∈ lw_tbl := List.mem_of_getElem? (i := 391) (by decide +kernel)
theorem iv0_J5_append_c97b9 : Cond.instanceMethod yJ5_append_c97b9 ∈ lw_tbl := List.mem_of_getElem? (i := 705) (by decide +kernel)
theorem iv0_J5_append_cf1ce : Cond.instanceMethod yJ5_append_cf1ce ∈ lw_tbl := List.mem_of_getElem? (i := 740) (by decide +kernel)
theorem iv0_J5_ensureCapacityInternal_d00df : Cond.instanceMethod yJ5_ensureCapacityInternal_d00df ∈ lw_tbl := List.mem_of_getElem? (i := 395) (by decide +kernel)
theorem iv0_J5_getValue_6d5f1 : Cond.instanceMethod yJ5_getValue_6d5f1 ∈ lw_tbl := List.mem_of_getElem? (i := 682) (by decide +kernel)
theorem iv0_J5_inflateIfNeededFor_a7421 : Cond.instanceMethod yJ5_inflateIfNeededFor_a7421 ∈ lw_tbl := List.mem_of_getElem? (i := 764) (by decide +kernel)
theorem iv0_J5_inflate_da8c8 : Cond.instanceMethod yJ5_inflate_da8c8 ∈ lw_tbl := List.mem_of_getElem? (i := 423) (by decide +kernel)
theorem iv_J5_init_d00df : Cond.instanceMethod yJ5_init_d00df ∈ lw_tbl := List.mem_of_getElem? (i := 185) (by decide +kernel)
theorem iv0_J5_isLatin1_aae02 : Cond.instanceMethod yJ5_isLatin1_aae02 ∈ lw_tbl := List.mem_of_getElem? (i := 414) (by decide +kernel)
theorem iv0_J5_length_8abf5 : Cond.instanceMethod yJ5_length_8abf5 ∈ lw_tbl := List.mem_of_getElem? (i := 380) (by decide +kernel)
theorem iv0_J5_newCapacity_0f7a4 : Cond.instanceMethod yJ5_newCapacity_0f7a4 ∈ lw_tbl := List.mem_of_getElem? (i := 399) (by decide +kernel)
theorem iv0_J5_putStringAt_47b60 : Cond.instanceMethod yJ5_putStringAt_47b60 ∈ lw_tbl := List.mem_of_getElem? (i := 760) (by decide +kernel)
theorem iv0_J5_setLength_d00df : Cond.instanceMethod yJ5_setLength_d00df ∈ lw_tbl := List.mem_of_getElem? (i := 853) (by decide +kernel)
theorem iv0_Jx4a65c_add_72be8 : Cond.instanceMethod yJx4a65c_add_72be8 ∈ lw_tbl := List.mem_of_getElem? (i := 289) (by decide +kernel)
theorem iv_Jx4a65c_add_72be8 : Cond.instanceMethod yJx4a65c_add_72be8 ∈ lw_tbl ∧ Cond.selects yJx4a65c_add_72be8.cls yJx4a65c_add_72be8 yJx4a65c_add_72be8 ∈ lw_tbl := ⟨iv0_Jx4a65c_add_72be8, List.mem_of_getElem? (i := 0) (by decide +kernel)⟩
theorem iv0_Jx4a65c_add_9ea2d : Cond.instanceMethod yJx4a65c_add_9ea2d ∈ lw_tbl := List.mem_of_getElem? (i := 284) (by decide +kernel)
theorem iv_Jx4a65c_add_9ea2d : Cond.instanceMethod yJx4a65c_add_9ea2d ∈ lw_tbl ∧ Cond.selects yJx4a65c_add_9ea2d.cls yJx4a65c_add_9ea2d yJx4a65c_add_9ea2d ∈ lw_tbl := ⟨iv0_Jx4a65c_add_9ea2d, List.mem_of_getElem? (i := 285) (by decide +kernel)⟩
theorem iv0_Jx4a65c_clear_da8c8 : Cond.instanceMethod yJx4a65c_clear_da8c8 ∈ lw_tbl := List.mem_of_getElem? (i := 1263) (by decide +kernel)
theorem iv_Jx4a65c_clear_da8c8 : Cond.instanceMethod yJx4a65c_clear_da8c8 ∈ lw_tbl ∧ Cond.selects yJx4a65c_clear_da8c8.cls yJx4a65c_clear_da8c8 yJx4a65c_clear_da8c8 ∈ lw_tbl := ⟨iv0_Jx4a65c_clear_da8c8, List.mem_of_getElem? (i := 1264) (by decide +kernel)⟩
theorem iv0_Jx4a65c_elementData_915e3 : Cond.instanceMethod yJx4a65c_elementData_915e3 ∈ lw_tbl := List.mem_of_getElem? (i := 490) (by decide +kernel)
theorem iv_Jx4a65c_elementData_915e3 : Cond.instanceMethod yJx4a65c_elementData_915e3 ∈ lw_tbl ∧ Cond.selects yJx4a65c_elementData_915e3.cls yJx4a65c_elementData_915e3 yJx4a65c_elementData_915e3 ∈ lw_tbl := ⟨iv0_Jx4a65c_elementData_915e3, List.mem_of_getElem? (i := 491) (by decide +kernel)⟩
theorem iv0_Jx4a65c_fastRemove_b59b0 : Cond.instanceMethod yJx4a65c_fastRemove_b59b0 ∈ lw_tbl := List.mem_of_getElem? (i := 1232) (by decide +kernel)
theorem iv_Jx4a65c_fastRemove_b59b0 : Cond.instanceMethod yJx4a65c_fastRemove_b59b0 ∈ lw_tbl ∧ Cond.selects yJx4a65c_fastRemove_b59b0.cls yJx4a65c_fastRemove_b59b0 yJx4a65c_fastRemove_b59b0 ∈ lw_tbl := ⟨iv0_Jx4a65c_fastRemove_b59b0, List.mem_of_getElem? (i := 22) (by decide +kernel)⟩
theorem iv0_Jx4a65c_get_915e3 : Cond.instanceMethod yJx4a65c_get_915e3 ∈ lw_tbl := List.mem_of_getElem? (i := 482) (by decide +kernel)
theorem iv_Jx4a65c_get_915e3 : Cond.instanceMethod yJx4a65c_get_915e3 ∈ lw_tbl ∧ Cond.selects yJx4a65c_get_915e3.cls yJx4a65c_get_915e3 yJx4a65c_get_915e3 ∈ lw_tbl := ⟨iv0_Jx4a65c_get_915e3, List.mem_of_getElem? (i := 483) (by decide +kernel)⟩
theorem iv0_Jx4a65c_grow_92f84 : Cond.instanceMethod yJx4a65c_grow_92f84 ∈ lw_tbl := List.mem_of_getElem? (i := 297) (by decide +kernel)
theorem iv_Jx4a65c_grow_92f84 : Cond.instanceMethod yJx4a65c_grow_92f84 ∈ lw_tbl ∧ Cond.selects yJx4a65c_grow_92f84.cls yJx4a65c_grow_92f84 yJx4a65c_grow_92f84 ∈ lw_tbl := ⟨iv0_Jx4a65c_grow_92f84, List.mem_of_getElem? (i := 2) (by decide +kernel)⟩
theorem iv0_Jx4a65c_grow_d5877 : Cond.instanceMethod yJx4a65c_grow_d5877 ∈ lw_tbl := List.mem_of_getElem? (i := 293) (by decide +kernel)
theorem iv_Jx4a65c_grow_d5877 : Cond.instanceMethod yJx4a65c_grow_d5877 ∈ lw_tbl ∧ Cond.selects yJx4a65c_grow_d5877.cls yJx4a65c_grow_d5877 yJx4a65c_grow_d5877 ∈ lw_tbl := ⟨iv0_Jx4a65c_grow_d5877, List.mem_of_getElem? (i := 1) (by decide +kernel)⟩
theorem iv_Jx4a65c_init_da8c8 : Cond.instanceMethod yJx4a65c_init_da8c8 ∈ lw_tbl := List.mem_of_getElem? (i := 109) (by decide +kernel)
theorem iv0_Jx4a65c_remove_915e3 : Cond.instanceMethod yJx4a65c_remove_915e3 ∈ lw_tbl := List.mem_of_getElem? (i := 1227) (by decide +kernel)
theorem iv_Jx4a65c_remove_915e3 : Cond.instanceMethod yJx4a65c_remove_915e3 ∈ lw_tbl ∧ Cond.selects yJx4a65c_remove_915e3.cls yJx4a65c_remove_915e3 yJx4a65c_remove_915e3 ∈ lw_tbl := ⟨iv0_Jx4a65c_remove_915e3, List.mem_of_getElem? (i := 1228) (by decide +kernel)⟩
theorem iv0_Jx4a65c_size_8abf5 : Cond.instanceMethod yJx4a65c_size_8abf5 ∈ lw_tbl := List.mem_of_getElem? (i := 261) (by decide +kernel)
theorem iv_Jx4a65c_size_8abf5 : Cond.instanceMethod yJx4a65c_size_8abf5 ∈ lw_tbl ∧ Cond.selects yJx4a65c_size_8abf5.cls yJx4a65c_size_8abf5 yJx4a65c_size_8abf5 ∈ lw_tbl := ⟨iv0_Jx4a65c_size_8abf5, List.mem_of_getElem? (i := 262) (by decide +kernel)⟩
theorem iv_Jxa1e45_init_da8c8 : Cond.instanceMethod yJxa1e45_init_da8c8 ∈ lw_tbl := List.mem_of_getElem? (i := 115) (by decide +kernel)
theorem iv_Jxc12de_init_da8c8 : Cond.instanceMethod yJxc12de_init_da8c8 ∈ lw_tbl := List.mem_of_getElem? (i := 112) (by decide +kernel)
theorem iv0_X0_addGiven : Cond.instanceMethod yX0_addGiven ∈ lw_tbl := List.mem_of_getElem? (i := 1326) (by decide +kernel)
theorem iv_X0_addGiven : Cond.instanceMethod yX0_addGiven ∈ lw_tbl ∧ Cond.selects yX0_addGiven.cls yX0_addGiven yX0_addGiven ∈ lw_tbl := ⟨iv0_X0_addGiven, List.mem_of_getElem? (i := 29) (by decide +kernel)⟩
theorem iv0_X0_addTon : Cond.instanceMethod yX0_addTon ∈ lw_tbl := List.mem_of_getElem? (i := 1303) (by decide +kernel)
theorem iv_X0_addTon : Cond.instanceMethod yX0_addTon ∈ lw_tbl ∧ Cond.selects yX0_addTon.cls yX0_addTon yX0_addTon ∈ lw_tbl := ⟨iv0_X0_addTon, List.mem_of_getElem? (i := 24) (by decide +kernel)⟩
theorem iv0_X0_boundSum : Cond.instanceMethod yX0_boundSum ∈ lw_tbl := List.mem_of_getElem? (i := 1307) (by decide +kernel)
theorem iv_X0_boundSum : Cond.instanceMethod yX0_boundSum ∈ lw_tbl ∧ Cond.selects yX0_boundSum.cls yX0_boundSum yX0_boundSum ∈ lw_tbl := ⟨iv0_X0_boundSum, List.mem_of_getElem? (i := 25) (by decide +kernel)⟩
theorem iv0_X0_hasHope : Cond.instanceMethod yX0_hasHope ∈ lw_tbl := List.mem_of_getElem? (i := 1317) (by decide +kernel)
theorem iv_X0_hasHope : Cond.instanceMethod yX0_hasHope ∈ lw_tbl ∧ Cond.selects yX0_hasHope.cls yX0_hasHope yX0_hasHope ∈ lw_tbl := ⟨iv0_X0_hasHope, List.mem_of_getElem? (i := 27) (by decide +kernel)⟩
theorem iv_X0_init : Cond.instanceMethod yX0_init ∈ lw_tbl := List.mem_of_getElem? (i := 151) (by decide +kernel)
theorem iv0_X0_keep : Cond.instanceMethod yX0_keep ∈ lw_tbl := List.mem_of_getElem? (i := 1321) (by decide +kernel)
theorem iv_X0_keep : Cond.instanceMethod yX0_keep ∈ lw_tbl ∧ Cond.selects yX0_keep.cls yX0_keep yX0_keep ∈ lw_tbl := ⟨iv0_X0_keep, List.mem_of_getElem? (i := 28) (by decide +kernel)⟩
theorem iv0_X0_leastCost : Cond.instanceMethod yX0_leastCost ∈ lw_tbl := List.mem_of_getElem? (i := 1286) (by decide +kernel)
theorem iv_X0_leastCost : Cond.instanceMethod yX0_leastCost ∈ lw_tbl ∧ Cond.selects yX0_leastCost.cls yX0_leastCost yX0_leastCost ∈ lw_tbl := ⟨iv0_X0_leastCost, List.mem_of_getElem? (i := 1287) (by decide +kernel)⟩
theorem iv0_X0_tryFrom : Cond.instanceMethod yX0_tryFrom ∈ lw_tbl := List.mem_of_getElem? (i := 1313) (by decide +kernel)
theorem iv_X0_tryFrom : Cond.instanceMethod yX0_tryFrom ∈ lw_tbl ∧ Cond.selects yX0_tryFrom.cls yX0_tryFrom yX0_tryFrom ∈ lw_tbl := ⟨iv0_X0_tryFrom, List.mem_of_getElem? (i := 26) (by decide +kernel)⟩
theorem iv0_X0_weigh : Cond.instanceMethod yX0_weigh ∈ lw_tbl := List.mem_of_getElem? (i := 1294) (by decide +kernel)
theorem iv_X0_weigh : Cond.instanceMethod yX0_weigh ∈ lw_tbl ∧ Cond.selects yX0_weigh.cls yX0_weigh yX0_weigh ∈ lw_tbl := ⟨iv0_X0_weigh, List.mem_of_getElem? (i := 23) (by decide +kernel)⟩
theorem iv0_X10_copyFrom : Cond.instanceMethod yX10_copyFrom ∈ lw_tbl := List.mem_of_getElem? (i := 1094) (by decide +kernel)
theorem iv_X10_copyFrom : Cond.instanceMethod yX10_copyFrom ∈ lw_tbl ∧ Cond.selects yX10_copyFrom.cls yX10_copyFrom yX10_copyFrom ∈ lw_tbl := ⟨iv0_X10_copyFrom, List.mem_of_getElem? (i := 1095) (by decide +kernel)⟩
theorem iv0_X10_hasCommon : Cond.instanceMethod yX10_hasCommon ∈ lw_tbl := List.mem_of_getElem? (i := 1151) (by decide +kernel)
theorem iv_X10_hasCommon : Cond.instanceMethod yX10_hasCommon ∈ lw_tbl ∧ Cond.selects yX10_hasCommon.cls yX10_hasCommon yX10_hasCommon ∈ lw_tbl := ⟨iv0_X10_hasCommon, List.mem_of_getElem? (i := 1152) (by decide +kernel)⟩
theorem iv0_X10_high : Cond.instanceMethod yX10_high ∈ lw_tbl := List.mem_of_getElem? (i := 1075) (by decide +kernel)
theorem iv_X10_high : Cond.instanceMethod yX10_high ∈ lw_tbl ∧ Cond.selects yX10_high.cls yX10_high yX10_high ∈ lw_tbl := ⟨iv0_X10_high, List.mem_of_getElem? (i := 1076) (by decide +kernel)⟩
theorem iv_X10_init : Cond.instanceMethod yX10_init ∈ lw_tbl := List.mem_of_getElem? (i := 137) (by decide +kernel)
theorem iv0_X10_low : Cond.instanceMethod yX10_low ∈ lw_tbl := List.mem_of_getElem? (i := 1079) (by decide +kernel)
theorem iv_X10_low : Cond.instanceMethod yX10_low ∈ lw_tbl ∧ Cond.selects yX10_low.cls yX10_low yX10_low ∈ lw_tbl := ⟨iv0_X10_low, List.mem_of_getElem? (i := 1080) (by decide +kernel)⟩
theorem iv0_X10_narrow : Cond.instanceMethod yX10_narrow ∈ lw_tbl := List.mem_of_getElem? (i := 1159) (by decide +kernel)
theorem iv_X10_narrow : Cond.instanceMethod yX10_narrow ∈ lw_tbl ∧ Cond.selects yX10_narrow.cls yX10_narrow yX10_narrow ∈ lw_tbl := ⟨iv0_X10_narrow, List.mem_of_getElem? (i := 1160) (by decide +kernel)⟩
theorem iv0_X10_partOrThrow : Cond.instanceMethod yX10_partOrThrow ∈ lw_tbl := List.mem_of_getElem? (i := 1137) (by decide +kernel)
theorem iv_X10_partOrThrow : Cond.instanceMethod yX10_partOrThrow ∈ lw_tbl ∧ Cond.selects yX10_partOrThrow.cls yX10_partOrThrow yX10_partOrThrow ∈ lw_tbl := ⟨iv0_X10_partOrThrow, List.mem_of_getElem? (i := 1138) (by decide +kernel)⟩
theorem iv0_X10_put : Cond.instanceMethod yX10_put ∈ lw_tbl := List.mem_of_getElem? (i := 603) (by decide +kernel)
theorem iv_X10_put : Cond.instanceMethod yX10_put ∈ lw_tbl ∧ Cond.selects yX10_put.cls yX10_put yX10_put ∈ lw_tbl := ⟨iv0_X10_put, List.mem_of_getElem? (i := 604) (by decide +kernel)⟩
theorem iv0_X11_asked : Cond.instanceMethod yX11_asked ∈ lw_tbl := List.mem_of_getElem? (i := 1271) (by decide +kernel)
theorem iv_X11_asked : Cond.instanceMethod yX11_asked ∈ lw_tbl ∧ Cond.selects yX11_asked.cls yX11_asked yX11_asked ∈ lw_tbl := ⟨iv0_X11_asked, List.mem_of_getElem? (i := 1272) (by decide +kernel)⟩
theorem iv0_X11_best : Cond.instanceMethod yX11_best ∈ lw_tbl := List.mem_of_getElem? (i := 1278) (by decide +kernel)
theorem iv_X11_best : Cond.instanceMethod yX11_best ∈ lw_tbl ∧ Cond.selects yX11_best.cls yX11_best yX11_best ∈ lw_tbl := ⟨iv0_X11_best, List.mem_of_getElem? (i := 1279) (by decide +kernel)⟩
theorem iv0_X11_charge : Cond.instanceMethod yX11_charge ∈ lw_tbl := List.mem_of_getElem? (i := 1332) (by decide +kernel)
theorem iv_X11_charge : Cond.instanceMethod yX11_charge ∈ lw_tbl ∧ Cond.selects yX11_charge.cls yX11_charge yX11_charge ∈ lw_tbl := ⟨iv0_X11_charge, List.mem_of_getElem? (i := 1333) (by decide +kernel)⟩
theorem iv0_X11_contract : Cond.instanceMethod yX11_contract ∈ lw_tbl := List.mem_of_getElem? (i := 611) (by decide +kernel)
theorem iv_X11_contract : Cond.instanceMethod yX11_contract ∈ lw_tbl ∧ Cond.selects yX11_contract.cls yX11_contract yX11_contract ∈ lw_tbl := ⟨iv0_X11_contract, List.mem_of_getElem? (i := 612) (by decide +kernel)⟩
theorem iv0_X11_count : Cond.instanceMethod yX11_count ∈ lw_tbl := List.mem_of_getElem? (i := 467) (by decide +kernel)
theorem iv_X11_count : Cond.instanceMethod yX11_count ∈ lw_tbl ∧ Cond.selects yX11_count.cls yX11_count yX11_count ∈ lw_tbl := ⟨iv0_X11_count, List.mem_of_getElem? (i := 468) (by decide +kernel)⟩
theorem iv0_X11_day : Cond.instanceMethod yX11_day ∈ lw_tbl := List.mem_of_getElem? (i := 1429) (by decide +kernel)
theorem iv_X11_day : Cond.instanceMethod yX11_day ∈ lw_tbl ∧ Cond.selects yX11_day.cls yX11_day yX11_day ∈ lw_tbl := ⟨iv0_X11_day, List.mem_of_getElem? (i := 1430) (by decide +kernel)⟩
theorem iv0_X11_feed : Cond.instanceMethod yX11_feed ∈ lw_tbl := List.mem_of_getElem? (i := 372) (by decide +kernel)
theorem iv_X11_feed : Cond.instanceMethod yX11_feed ∈ lw_tbl ∧ Cond.selects yX11_feed.cls yX11_feed yX11_feed ∈ lw_tbl := ⟨iv0_X11_feed, List.mem_of_getElem? (i := 373) (by decide +kernel)⟩
theorem iv0_X11_force : Cond.instanceMethod yX11_force ∈ lw_tbl := List.mem_of_getElem? (i := 976) (by decide +kernel)
theorem iv_X11_force : Cond.instanceMethod yX11_force ∈ lw_tbl ∧ Cond.selects yX11_force.cls yX11_force yX11_force ∈ lw_tbl := ⟨iv0_X11_force, List.mem_of_getElem? (i := 977) (by decide +kernel)⟩
theorem iv0_X11_heapOf : Cond.instanceMethod yX11_heapOf ∈ lw_tbl := List.mem_of_getElem? (i := 1004) (by decide +kernel)
theorem iv_X11_heapOf : Cond.instanceMethod yX11_heapOf ∈ lw_tbl ∧ Cond.selects yX11_heapOf.cls yX11_heapOf yX11_heapOf ∈ lw_tbl := ⟨iv0_X11_heapOf, List.mem_of_getElem? (i := 20) (by decide +kernel)⟩
theorem iv0_X11_inForce : Cond.instanceMethod yX11_inForce ∈ lw_tbl := List.mem_of_getElem? (i := 981) (by decide +kernel)
theorem iv_X11_inForce : Cond.instanceMethod yX11_inForce ∈ lw_tbl ∧ Cond.selects yX11_inForce.cls yX11_inForce yX11_inForce ∈ lw_tbl := ⟨iv0_X11_inForce, List.mem_of_getElem? (i := 19) (by decide +kernel)⟩
theorem iv_X11_init : Cond.instanceMethod yX11_init ∈ lw_tbl := List.mem_of_getElem? (i := 101) (by decide +kernel)
theorem iv0_X11_kind : Cond.instanceMethod yX11_kind ∈ lw_tbl := List.mem_of_getElem? (i := 257) (by decide +kernel)
theorem iv_X11_kind : Cond.instanceMethod yX11_kind ∈ lw_tbl ∧ Cond.selects yX11_kind.cls yX11_kind yX11_kind ∈ lw_tbl := ⟨iv0_X11_kind, List.mem_of_getElem? (i := 258) (by decide +kernel)⟩
theorem iv0_X11_kindOf : Cond.instanceMethod yX11_kindOf ∈ lw_tbl := List.mem_of_getElem? (i := 510) (by decide +kernel)
theorem iv_X11_kindOf : Cond.instanceMethod yX11_kindOf ∈ lw_tbl ∧ Cond.selects yX11_kindOf.cls yX11_kindOf yX11_kindOf ∈ lw_tbl := ⟨iv0_X11_kindOf, List.mem_of_getElem? (i := 7) (by decide +kernel)⟩
theorem iv0_X11_layer : Cond.instanceMethod yX11_layer ∈ lw_tbl := List.mem_of_getElem? (i := 1189) (by decide +kernel)
theorem iv_X11_layer : Cond.instanceMethod yX11_layer ∈ lw_tbl ∧ Cond.selects yX11_layer.cls yX11_layer yX11_layer ∈ lw_tbl := ⟨iv0_X11_layer, List.mem_of_getElem? (i := 1190) (by decide +kernel)⟩
theorem iv0_X11_layers : Cond.instanceMethod yX11_layers ∈ lw_tbl := List.mem_of_getElem? (i := 1182) (by decide +kernel)
theorem iv_X11_layers : Cond.instanceMethod yX11_layers ∈ lw_tbl ∧ Cond.selects yX11_layers.cls yX11_layers yX11_layers ∈ lw_tbl := ⟨iv0_X11_layers, List.mem_of_getElem? (i := 1183) (by decide +kernel)⟩
theorem iv0_X11_layersInAll : Cond.instanceMethod yX11_layersInAll ∈ lw_tbl := List.mem_of_getElem? (i := 472) (by decide +kernel)
theorem iv_X11_layersInAll : Cond.instanceMethod yX11_layersInAll ∈ lw_tbl ∧ Cond.selects yX11_layersInAll.cls yX11_layersInAll yX11_layersInAll ∈ lw_tbl := ⟨iv0_X11_layersInAll, List.mem_of_getElem? (i := 4) (by decide +kernel)⟩
theorem iv0_X11_load : Cond.instanceMethod yX11_load ∈ lw_tbl := List.mem_of_getElem? (i := 999) (by decide +kernel)
theorem iv_X11_load : Cond.instanceMethod yX11_load ∈ lw_tbl ∧ Cond.selects yX11_load.cls yX11_load yX11_load ∈ lw_tbl := ⟨iv0_X11_load, List.mem_of_getElem? (i := 1000) (by decide +kernel)⟩
theorem iv0_X11_loadOf : Cond.instanceMethod yX11_loadOf ∈ lw_tbl := List.mem_of_getElem? (i := 1133) (by decide +kernel)
theorem iv_X11_loadOf : Cond.instanceMethod yX11_loadOf ∈ lw_tbl ∧ Cond.selects yX11_loadOf.cls yX11_loadOf yX11_loadOf ∈ lw_tbl := ⟨iv0_X11_loadOf, List.mem_of_getElem? (i := 21) (by decide +kernel)⟩
theorem iv0_X11_melt : Cond.instanceMethod yX11_melt ∈ lw_tbl := List.mem_of_getElem? (i := 1339) (by decide +kernel)
theorem iv_X11_melt : Cond.instanceMethod yX11_melt ∈ lw_tbl ∧ Cond.selects yX11_melt.cls yX11_melt yX11_melt ∈ lw_tbl := ⟨iv0_X11_melt, List.mem_of_getElem? (i := 1340) (by decide +kernel)⟩
theorem iv0_X11_meltOf : Cond.instanceMethod yX11_meltOf ∈ lw_tbl := List.mem_of_getElem? (i := 1367) (by decide +kernel)
theorem iv_X11_meltOf : Cond.instanceMethod yX11_meltOf ∈ lw_tbl ∧ Cond.selects yX11_meltOf.cls yX11_meltOf yX11_meltOf ∈ lw_tbl := ⟨iv0_X11_meltOf, List.mem_of_getElem? (i := 30) (by decide +kernel)⟩
theorem iv0_X11_mix : Cond.instanceMethod yX11_mix ∈ lw_tbl := List.mem_of_getElem? (i := 1239) (by decide +kernel)
theorem iv_X11_mix : Cond.instanceMethod yX11_mix ∈ lw_tbl ∧ Cond.selects yX11_mix.cls yX11_mix yX11_mix ∈ lw_tbl := ⟨iv0_X11_mix, List.mem_of_getElem? (i := 1240) (by decide +kernel)⟩
theorem iv0_X11_money : Cond.instanceMethod yX11_money ∈ lw_tbl := List.mem_of_getElem? (i := 1422) (by decide +kernel)
theorem iv_X11_money : Cond.instanceMethod yX11_money ∈ lw_tbl ∧ Cond.selects yX11_money.cls yX11_money yX11_money ∈ lw_tbl := ⟨iv0_X11_money, List.mem_of_getElem? (i := 1423) (by decide +kernel)⟩
theorem iv0_X11_move : Cond.instanceMethod yX11_move ∈ lw_tbl := List.mem_of_getElem? (i := 1205) (by decide +kernel)
theorem iv_X11_move : Cond.instanceMethod yX11_move ∈ lw_tbl ∧ Cond.selects yX11_move.cls yX11_move yX11_move ∈ lw_tbl := ⟨iv0_X11_move, List.mem_of_getElem? (i := 1206) (by decide +kernel)⟩
theorem iv0_X11_portion : Cond.instanceMethod yX11_portion ∈ lw_tbl := List.mem_of_getElem? (i := 1374) (by decide +kernel)
theorem iv_X11_portion : Cond.instanceMethod yX11_portion ∈ lw_tbl ∧ Cond.selects yX11_portion.cls yX11_portion yX11_portion ∈ lw_tbl := ⟨iv0_X11_portion, List.mem_of_getElem? (i := 1375) (by decide +kernel)⟩
theorem iv0_X11_portions : Cond.instanceMethod yX11_portions ∈ lw_tbl := List.mem_of_getElem? (i := 1362) (by decide +kernel)
theorem iv_X11_portions : Cond.instanceMethod yX11_portions ∈ lw_tbl ∧ Cond.selects yX11_portions.cls yX11_portions yX11_portions ∈ lw_tbl := ⟨iv0_X11_portions, List.mem_of_getElem? (i := 1363) (by decide +kernel)⟩
theorem iv0_X11_prove : Cond.instanceMethod yX11_prove ∈ lw_tbl := List.mem_of_getElem? (i := 1382) (by decide +kernel)
theorem iv_X11_prove : Cond.instanceMethod yX11_prove ∈ lw_tbl ∧ Cond.selects yX11_prove.cls yX11_prove yX11_prove ∈ lw_tbl := ⟨iv0_X11_prove, List.mem_of_getElem? (i := 1383) (by decide +kernel)⟩
theorem iv0_X11_putOnTape : Cond.instanceMethod yX11_putOnTape ∈ lw_tbl := List.mem_of_getElem? (i := 384) (by decide +kernel)
theorem iv_X11_putOnTape : Cond.instanceMethod yX11_putOnTape ∈ lw_tbl ∧ Cond.selects yX11_putOnTape.cls yX11_putOnTape yX11_putOnTape ∈ lw_tbl := ⟨iv0_X11_putOnTape, List.mem_of_getElem? (i := 3) (by decide +kernel)⟩
theorem iv0_X11_sample : Cond.instanceMethod yX11_sample ∈ lw_tbl := List.mem_of_getElem? (i := 1147) (by decide +kernel)
theorem iv_X11_sample : Cond.instanceMethod yX11_sample ∈ lw_tbl ∧ Cond.selects yX11_sample.cls yX11_sample yX11_sample ∈ lw_tbl := ⟨iv0_X11_sample, List.mem_of_getElem? (i := 1148) (by decide +kernel)⟩
theorem iv0_X11_seller : Cond.instanceMethod yX11_seller ∈ lw_tbl := List.mem_of_getElem? (i := 350) (by decide +kernel)
theorem iv_X11_seller : Cond.instanceMethod yX11_seller ∈ lw_tbl ∧ Cond.selects yX11_seller.cls yX11_seller yX11_seller ∈ lw_tbl := ⟨iv0_X11_seller, List.mem_of_getElem? (i := 351) (by decide +kernel)⟩
theorem iv0_X11_sellerOf : Cond.instanceMethod yX11_sellerOf ∈ lw_tbl := List.mem_of_getElem? (i := 616) (by decide +kernel)
theorem iv_X11_sellerOf : Cond.instanceMethod yX11_sellerOf ∈ lw_tbl ∧ Cond.selects yX11_sellerOf.cls yX11_sellerOf yX11_sellerOf ∈ lw_tbl := ⟨iv0_X11_sellerOf, List.mem_of_getElem? (i := 9) (by decide +kernel)⟩
theorem iv0_X11_span : Cond.instanceMethod yX11_span ∈ lw_tbl := List.mem_of_getElem? (i := 505) (by decide +kernel)
theorem iv_X11_span : Cond.instanceMethod yX11_span ∈ lw_tbl ∧ Cond.selects yX11_span.cls yX11_span yX11_span ∈ lw_tbl := ⟨iv0_X11_span, List.mem_of_getElem? (i := 506) (by decide +kernel)⟩
theorem iv0_X11_told : Cond.instanceMethod yX11_told ∈ lw_tbl := List.mem_of_getElem? (i := 1128) (by decide +kernel)
theorem iv_X11_told : Cond.instanceMethod yX11_told ∈ lw_tbl ∧ Cond.selects yX11_told.cls yX11_told yX11_told ∈ lw_tbl := ⟨iv0_X11_told, List.mem_of_getElem? (i := 1129) (by decide +kernel)⟩
theorem iv0_X11_tons : Cond.instanceMethod yX11_tons ∈ lw_tbl := List.mem_of_getElem? (i := 1175) (by decide +kernel)
theorem iv_X11_tons : Cond.instanceMethod yX11_tons ∈ lw_tbl ∧ Cond.selects yX11_tons.cls yX11_tons yX11_tons ∈ lw_tbl := ⟨iv0_X11_tons, List.mem_of_getElem? (i := 1176) (by decide +kernel)⟩
theorem iv0_X11_tonsInHeaps : Cond.instanceMethod yX11_tonsInHeaps ∈ lw_tbl := List.mem_of_getElem? (i := 476) (by decide +kernel)
theorem iv_X11_tonsInHeaps : Cond.instanceMethod yX11_tonsInHeaps ∈ lw_tbl ∧ Cond.selects yX11_tonsInHeaps.cls yX11_tonsInHeaps yX11_tonsInHeaps ∈ lw_tbl := ⟨iv0_X11_tonsInHeaps, List.mem_of_getElem? (i := 5) (by decide +kernel)⟩
theorem iv0_X11_tonsInMelts : Cond.instanceMethod yX11_tonsInMelts ∈ lw_tbl := List.mem_of_getElem? (i := 496) (by decide +kernel)
theorem iv_X11_tonsInMelts : Cond.instanceMethod yX11_tonsInMelts ∈ lw_tbl ∧ Cond.selects yX11_tonsInMelts.cls yX11_tonsInMelts yX11_tonsInMelts ∈ lw_tbl := ⟨iv0_X11_tonsInMelts, List.mem_of_getElem? (i := 6) (by decide +kernel)⟩
theorem iv0_X11_usual : Cond.instanceMethod yX11_usual ∈ lw_tbl := List.mem_of_getElem? (i := 987) (by decide +kernel)
theorem iv_X11_usual : Cond.instanceMethod yX11_usual ∈ lw_tbl ∧ Cond.selects yX11_usual.cls yX11_usual yX11_usual ∈ lw_tbl := ⟨iv0_X11_usual, List.mem_of_getElem? (i := 988) (by decide +kernel)⟩
theorem iv0_X12_asked : Cond.instanceMethod yX12_asked ∈ lw_tbl := List.mem_of_getElem? (i := 1809) (by decide +kernel)
theorem iv_X12_asked : Cond.instanceMethod yX12_asked ∈ lw_tbl ∧ Cond.selects yX12_asked.cls yX12_asked yX12_asked ∈ lw_tbl := ⟨iv0_X12_asked, List.mem_of_getElem? (i := 1810) (by decide +kernel)⟩
theorem iv0_X12_best : Cond.instanceMethod yX12_best ∈ lw_tbl := List.mem_of_getElem? (i := 1813) (by decide +kernel)
theorem iv_X12_best : Cond.instanceMethod yX12_best ∈ lw_tbl ∧ Cond.selects yX12_best.cls yX12_best yX12_best ∈ lw_tbl := ⟨iv0_X12_best, List.mem_of_getElem? (i := 1814) (by decide +kernel)⟩
theorem iv0_X12_charge : Cond.instanceMethod yX12_charge ∈ lw_tbl := List.mem_of_getElem? (i := 1837) (by decide +kernel)
theorem iv_X12_charge : Cond.instanceMethod yX12_charge ∈ lw_tbl ∧ Cond.selects yX12_charge.cls yX12_charge yX12_charge ∈ lw_tbl := ⟨iv0_X12_charge, List.mem_of_getElem? (i := 1838) (by decide +kernel)⟩
theorem iv0_X12_contract : Cond.instanceMethod yX12_contract ∈ lw_tbl := List.mem_of_getElem? (i := 1672) (by decide +kernel)
theorem iv_X12_contract : Cond.instanceMethod yX12_contract ∈ lw_tbl ∧ Cond.selects yX12_contract.cls yX12_contract yX12_contract ∈ lw_tbl := ⟨iv0_X12_contract, List.mem_of_getElem? (i := 1673) (by decide +kernel)⟩
theorem iv0_X12_count : Cond.instanceMethod yX12_count ∈ lw_tbl := List.mem_of_getElem? (i := 1876) (by decide +kernel)
theorem iv_X12_count : Cond.instanceMethod yX12_count ∈ lw_tbl ∧ Cond.selects yX12_count.cls yX12_count yX12_count ∈ lw_tbl := ⟨iv0_X12_count, List.mem_of_getElem? (i := 1877) (by decide +kernel)⟩
theorem iv0_X12_day : Cond.instanceMethod yX12_day ∈ lw_tbl := List.mem_of_getElem? (i := 1872) (by decide +kernel)
theorem iv_X12_day : Cond.instanceMethod yX12_day ∈ lw_tbl ∧ Cond.selects yX12_day.cls yX12_day yX12_day ∈ lw_tbl := ⟨iv0_X12_day, List.mem_of_getElem? (i := 1873) (by decide +kernel)⟩
theorem iv0_X12_digits : Cond.instanceMethod yX12_digits ∈ lw_tbl := List.mem_of_getElem? (i := 1713) (by decide +kernel)
theorem iv_X12_digits : Cond.instanceMethod yX12_digits ∈ lw_tbl ∧ Cond.selects yX12_digits.cls yX12_digits yX12_digits ∈ lw_tbl := ⟨iv0_X12_digits, List.mem_of_getElem? (i := 43) (by decide +kernel)⟩
theorem iv0_X12_feed : Cond.instanceMethod yX12_feed ∈ lw_tbl := List.mem_of_getElem? (i := 1668) (by decide +kernel)
theorem iv_X12_feed : Cond.instanceMethod yX12_feed ∈ lw_tbl ∧ Cond.selects yX12_feed.cls yX12_feed yX12_feed ∈ lw_tbl := ⟨iv0_X12_feed, List.mem_of_getElem? (i := 1669) (by decide +kernel)⟩
theorem iv0_X12_findBest : Cond.instanceMethod yX12_findBest ∈ lw_tbl := List.mem_of_getElem? (i := 1818) (by decide +kernel)
theorem iv_X12_findBest : Cond.instanceMethod yX12_findBest ∈ lw_tbl ∧ Cond.selects yX12_findBest.cls yX12_findBest yX12_findBest ∈ lw_tbl := ⟨iv0_X12_findBest, List.mem_of_getElem? (i := 57) (by decide +kernel)⟩
theorem iv0_X12_findGrade : Cond.instanceMethod yX12_findGrade ∈ lw_tbl := List.mem_of_getElem? (i := 1750) (by decide +kernel)
theorem iv_X12_findGrade : Cond.instanceMethod yX12_findGrade ∈ lw_tbl ∧ Cond.selects yX12_findGrade.cls yX12_findGrade yX12_findGrade ∈ lw_tbl := ⟨iv0_X12_findGrade, List.mem_of_getElem? (i := 49) (by decide +kernel)⟩
theorem iv0_X12_findSums : Cond.instanceMethod yX12_findSums ∈ lw_tbl := List.mem_of_getElem? (i := 1822) (by decide +kernel)
theorem iv_X12_findSums : Cond.instanceMethod yX12_findSums ∈ lw_tbl ∧ Cond.selects yX12_findSums.cls yX12_findSums yX12_findSums ∈ lw_tbl := ⟨iv0_X12_findSums, List.mem_of_getElem? (i := 58) (by decide +kernel)⟩
theorem iv0_X12_fine : Cond.instanceMethod yX12_fine ∈ lw_tbl := List.mem_of_getElem? (i := 1677) (by decide +kernel)
theorem iv_X12_fine : Cond.instanceMethod yX12_fine ∈ lw_tbl ∧ Cond.selects yX12_fine.cls yX12_fine yX12_fine ∈ lw_tbl := ⟨iv0_X12_fine, List.mem_of_getElem? (i := 37) (by decide +kernel)⟩
theorem iv0_X12_force : Cond.instanceMethod yX12_force ∈ lw_tbl := List.mem_of_getElem? (i := 1733) (by decide +kernel)
theorem iv_X12_force : Cond.instanceMethod yX12_force ∈ lw_tbl ∧ Cond.selects yX12_force.cls yX12_force yX12_force ∈ lw_tbl := ⟨iv0_X12_force, List.mem_of_getElem? (i := 1734) (by decide +kernel)⟩
theorem iv0_X12_here : Cond.instanceMethod yX12_here ∈ lw_tbl := List.mem_of_getElem? (i := 1685) (by decide +kernel)
theorem iv_X12_here : Cond.instanceMethod yX12_here ∈ lw_tbl ∧ Cond.selects yX12_here.cls yX12_here yX12_here ∈ lw_tbl := ⟨iv0_X12_here, List.mem_of_getElem? (i := 39) (by decide +kernel)⟩
theorem iv0_X12_highOf : Cond.instanceMethod yX12_highOf ∈ lw_tbl := List.mem_of_getElem? (i := 1665) (by decide +kernel)
theorem iv_X12_highOf : Cond.instanceMethod yX12_highOf ∈ lw_tbl ∧ Cond.selects yX12_highOf.cls yX12_highOf yX12_highOf ∈ lw_tbl := ⟨iv0_X12_highOf, List.mem_of_getElem? (i := 36) (by decide +kernel)⟩
theorem iv0_X12_highOfLayer : Cond.instanceMethod yX12_highOfLayer ∈ lw_tbl := List.mem_of_getElem? (i := 1798) (by decide +kernel)
theorem iv_X12_highOfLayer : Cond.instanceMethod yX12_highOfLayer ∈ lw_tbl ∧ Cond.selects yX12_highOfLayer.cls yX12_highOfLayer yX12_highOfLayer ∈ lw_tbl := ⟨iv0_X12_highOfLayer, List.mem_of_getElem? (i := 56) (by decide +kernel)⟩
theorem iv0_X12_inForce : Cond.instanceMethod yX12_inForce ∈ lw_tbl := List.mem_of_getElem? (i := 1738) (by decide +kernel)
theorem iv_X12_inForce : Cond.instanceMethod yX12_inForce ∈ lw_tbl ∧ Cond.selects yX12_inForce.cls yX12_inForce yX12_inForce ∈ lw_tbl := ⟨iv0_X12_inForce, List.mem_of_getElem? (i := 47) (by decide +kernel)⟩
theorem iv_X12_init : Cond.instanceMethod yX12_init ∈ lw_tbl := List.mem_of_getElem? (i := 1440) (by decide +kernel)
theorem iv0_X12_isGood : Cond.instanceMethod yX12_isGood ∈ lw_tbl := List.mem_of_getElem? (i := 1834) (by decide +kernel)
theorem iv_X12_isGood : Cond.instanceMethod yX12_isGood ∈ lw_tbl ∧ Cond.selects yX12_isGood.cls yX12_isGood yX12_isGood ∈ lw_tbl := ⟨iv0_X12_isGood, List.mem_of_getElem? (i := 60) (by decide +kernel)⟩
theorem iv0_X12_isHeap : Cond.instanceMethod yX12_isHeap ∈ lw_tbl := List.mem_of_getElem? (i := 1778) (by decide +kernel)
theorem iv_X12_isHeap : Cond.instanceMethod yX12_isHeap ∈ lw_tbl ∧ Cond.selects yX12_isHeap.cls yX12_isHeap yX12_isHeap ∈ lw_tbl := ⟨iv0_X12_isHeap, List.mem_of_getElem? (i := 53) (by decide +kernel)⟩
theorem iv0_X12_isLoad : Cond.instanceMethod yX12_isLoad ∈ lw_tbl := List.mem_of_getElem? (i := 1766) (by decide +kernel)
theorem iv_X12_isLoad : Cond.instanceMethod yX12_isLoad ∈ lw_tbl ∧ Cond.selects yX12_isLoad.cls yX12_isLoad yX12_isLoad ∈ lw_tbl := ⟨iv0_X12_isLoad, List.mem_of_getElem? (i := 52) (by decide +kernel)⟩
theorem iv0_X12_isMelt : Cond.instanceMethod yX12_isMelt ∈ lw_tbl := List.mem_of_getElem? (i := 1850) (by decide +kernel)
theorem iv_X12_isMelt : Cond.instanceMethod yX12_isMelt ∈ lw_tbl ∧ Cond.selects yX12_isMelt.cls yX12_isMelt yX12_isMelt ∈ lw_tbl := ⟨iv0_X12_isMelt, List.mem_of_getElem? (i := 61) (by decide +kernel)⟩
theorem iv0_X12_isSeller : Cond.instanceMethod yX12_isSeller ∈ lw_tbl := List.mem_of_getElem? (i := 1654) (by decide +kernel)
theorem iv_X12_isSeller : Cond.instanceMethod yX12_isSeller ∈ lw_tbl ∧ Cond.selects yX12_isSeller.cls yX12_isSeller yX12_isSeller ∈ lw_tbl := ⟨iv0_X12_isSeller, List.mem_of_getElem? (i := 34) (by decide +kernel)⟩
theorem iv0_X12_isSure : Cond.instanceMethod yX12_isSure ∈ lw_tbl := List.mem_of_getElem? (i := 1754) (by decide +kernel)
theorem iv_X12_isSure : Cond.instanceMethod yX12_isSure ∈ lw_tbl ∧ Cond.selects yX12_isSure.cls yX12_isSure yX12_isSure ∈ lw_tbl := ⟨iv0_X12_isSure, List.mem_of_getElem? (i := 50) (by decide +kernel)⟩
theorem iv0_X12_kind : Cond.instanceMethod yX12_kind ∈ lw_tbl := List.mem_of_getElem? (i := 1627) (by decide +kernel)
theorem iv_X12_kind : Cond.instanceMethod yX12_kind ∈ lw_tbl ∧ Cond.selects yX12_kind.cls yX12_kind yX12_kind ∈ lw_tbl := ⟨iv0_X12_kind, List.mem_of_getElem? (i := 1628) (by decide +kernel)⟩
theorem iv0_X12_layer : Cond.instanceMethod yX12_layer ∈ lw_tbl := List.mem_of_getElem? (i := 1789) (by decide +kernel)
theorem iv_X12_layer : Cond.instanceMethod yX12_layer ∈ lw_tbl ∧ Cond.selects yX12_layer.cls yX12_layer yX12_layer ∈ lw_tbl := ⟨iv0_X12_layer, List.mem_of_getElem? (i := 1790) (by decide +kernel)⟩
theorem iv0_X12_layers : Cond.instanceMethod yX12_layers ∈ lw_tbl := List.mem_of_getElem? (i := 1785) (by decide +kernel)
theorem iv_X12_layers : Cond.instanceMethod yX12_layers ∈ lw_tbl ∧ Cond.selects yX12_layers.cls yX12_layers yX12_layers ∈ lw_tbl := ⟨iv0_X12_layers, List.mem_of_getElem? (i := 1786) (by decide +kernel)⟩
theorem iv0_X12_layersInAll : Cond.instanceMethod yX12_layersInAll ∈ lw_tbl := List.mem_of_getElem? (i := 1746) (by decide +kernel)
theorem iv_X12_layersInAll : Cond.instanceMethod yX12_layersInAll ∈ lw_tbl ∧ Cond.selects yX12_layersInAll.cls yX12_layersInAll yX12_layersInAll ∈ lw_tbl := ⟨iv0_X12_layersInAll, List.mem_of_getElem? (i := 48) (by decide +kernel)⟩
theorem iv0_X12_load : Cond.instanceMethod yX12_load ∈ lw_tbl := List.mem_of_getElem? (i := 1741) (by decide +kernel)
theorem iv_X12_load : Cond.instanceMethod yX12_load ∈ lw_tbl ∧ Cond.selects yX12_load.cls yX12_load yX12_load ∈ lw_tbl := ⟨iv0_X12_load, List.mem_of_getElem? (i := 1742) (by decide +kernel)⟩
theorem iv0_X12_lowOf : Cond.instanceMethod yX12_lowOf ∈ lw_tbl := List.mem_of_getElem? (i := 1658) (by decide +kernel)
theorem iv_X12_lowOf : Cond.instanceMethod yX12_lowOf ∈ lw_tbl ∧ Cond.selects yX12_lowOf.cls yX12_lowOf yX12_lowOf ∈ lw_tbl := ⟨iv0_X12_lowOf, List.mem_of_getElem? (i := 35) (by decide +kernel)⟩
theorem iv0_X12_lowOfLayer : Cond.instanceMethod yX12_lowOfLayer ∈ lw_tbl := List.mem_of_getElem? (i := 1794) (by decide +kernel)
theorem iv_X12_lowOfLayer : Cond.instanceMethod yX12_lowOfLayer ∈ lw_tbl ∧ Cond.selects yX12_lowOfLayer.cls yX12_lowOfLayer yX12_lowOfLayer ∈ lw_tbl := ⟨iv0_X12_lowOfLayer, List.mem_of_getElem? (i := 55) (by decide +kernel)⟩
theorem iv0_X12_may : Cond.instanceMethod yX12_may ∈ lw_tbl := List.mem_of_getElem? (i := 1636) (by decide +kernel)
theorem iv_X12_may : Cond.instanceMethod yX12_may ∈ lw_tbl ∧ Cond.selects yX12_may.cls yX12_may yX12_may ∈ lw_tbl := ⟨iv0_X12_may, List.mem_of_getElem? (i := 33) (by decide +kernel)⟩
theorem iv0_X12_melt : Cond.instanceMethod yX12_melt ∈ lw_tbl := List.mem_of_getElem? (i := 1841) (by decide +kernel)
theorem iv_X12_melt : Cond.instanceMethod yX12_melt ∈ lw_tbl ∧ Cond.selects yX12_melt.cls yX12_melt yX12_melt ∈ lw_tbl := ⟨iv0_X12_melt, List.mem_of_getElem? (i := 1842) (by decide +kernel)⟩
theorem iv0_X12_mix : Cond.instanceMethod yX12_mix ∈ lw_tbl := List.mem_of_getElem? (i := 1805) (by decide +kernel)
theorem iv_X12_mix : Cond.instanceMethod yX12_mix ∈ lw_tbl ∧ Cond.selects yX12_mix.cls yX12_mix yX12_mix ∈ lw_tbl := ⟨iv0_X12_mix, List.mem_of_getElem? (i := 1806) (by decide +kernel)⟩
theorem iv0_X12_money : Cond.instanceMethod yX12_money ∈ lw_tbl := List.mem_of_getElem? (i := 1868) (by decide +kernel)
theorem iv_X12_money : Cond.instanceMethod yX12_money ∈ lw_tbl ∧ Cond.selects yX12_money.cls yX12_money yX12_money ∈ lw_tbl := ⟨iv0_X12_money, List.mem_of_getElem? (i := 1869) (by decide +kernel)⟩
theorem iv0_X12_move : Cond.instanceMethod yX12_move ∈ lw_tbl := List.mem_of_getElem? (i := 1801) (by decide +kernel)
theorem iv_X12_move : Cond.instanceMethod yX12_move ∈ lw_tbl ∧ Cond.selects yX12_move.cls yX12_move yX12_move ∈ lw_tbl := ⟨iv0_X12_move, List.mem_of_getElem? (i := 1802) (by decide +kernel)⟩
theorem iv0_X12_need : Cond.instanceMethod yX12_need ∈ lw_tbl := List.mem_of_getElem? (i := 1729) (by decide +kernel)
theorem iv_X12_need : Cond.instanceMethod yX12_need ∈ lw_tbl ∧ Cond.selects yX12_need.cls yX12_need yX12_need ∈ lw_tbl := ⟨iv0_X12_need, List.mem_of_getElem? (i := 46) (by decide +kernel)⟩
theorem iv0_X12_needWord : Cond.instanceMethod yX12_needWord ∈ lw_tbl := List.mem_of_getElem? (i := 1725) (by decide +kernel)
theorem iv_X12_needWord : Cond.instanceMethod yX12_needWord ∈ lw_tbl ∧ Cond.selects yX12_needWord.cls yX12_needWord yX12_needWord ∈ lw_tbl := ⟨iv0_X12_needWord, List.mem_of_getElem? (i := 45) (by decide +kernel)⟩
theorem iv0_X12_pass : Cond.instanceMethod yX12_pass ∈ lw_tbl := List.mem_of_getElem? (i := 1697) (by decide +kernel)
theorem iv_X12_pass : Cond.instanceMethod yX12_pass ∈ lw_tbl ∧ Cond.selects yX12_pass.cls yX12_pass yX12_pass ∈ lw_tbl := ⟨iv0_X12_pass, List.mem_of_getElem? (i := 41) (by decide +kernel)⟩
theorem iv0_X12_pay : Cond.instanceMethod yX12_pay ∈ lw_tbl := List.mem_of_getElem? (i := 1720) (by decide +kernel)
theorem iv_X12_pay : Cond.instanceMethod yX12_pay ∈ lw_tbl ∧ Cond.selects yX12_pay.cls yX12_pay yX12_pay ∈ lw_tbl := ⟨iv0_X12_pay, List.mem_of_getElem? (i := 44) (by decide +kernel)⟩
theorem iv0_X12_portion : Cond.instanceMethod yX12_portion ∈ lw_tbl := List.mem_of_getElem? (i := 1853) (by decide +kernel)
theorem iv_X12_portion : Cond.instanceMethod yX12_portion ∈ lw_tbl ∧ Cond.selects yX12_portion.cls yX12_portion yX12_portion ∈ lw_tbl := ⟨iv0_X12_portion, List.mem_of_getElem? (i := 1854) (by decide +kernel)⟩
theorem iv0_X12_portions : Cond.instanceMethod yX12_portions ∈ lw_tbl := List.mem_of_getElem? (i := 1845) (by decide +kernel)
theorem iv_X12_portions : Cond.instanceMethod yX12_portions ∈ lw_tbl ∧ Cond.selects yX12_portions.cls yX12_portions yX12_portions ∈ lw_tbl := ⟨iv0_X12_portions, List.mem_of_getElem? (i := 1846) (by decide +kernel)⟩
theorem iv0_X12_prove : Cond.instanceMethod yX12_prove ∈ lw_tbl := List.mem_of_getElem? (i := 1857) (by decide +kernel)
theorem iv_X12_prove : Cond.instanceMethod yX12_prove ∈ lw_tbl ∧ Cond.selects yX12_prove.cls yX12_prove yX12_prove ∈ lw_tbl := ⟨iv0_X12_prove, List.mem_of_getElem? (i := 1858) (by decide +kernel)⟩
theorem iv0_X12_put : Cond.instanceMethod yX12_put ∈ lw_tbl := List.mem_of_getElem? (i := 1758) (by decide +kernel)
theorem iv_X12_put : Cond.instanceMethod yX12_put ∈ lw_tbl ∧ Cond.selects yX12_put.cls yX12_put yX12_put ∈ lw_tbl := ⟨iv0_X12_put, List.mem_of_getElem? (i := 51) (by decide +kernel)⟩
theorem iv0_X12_putRight : Cond.instanceMethod yX12_putRight ∈ lw_tbl := List.mem_of_getElem? (i := 1865) (by decide +kernel)
theorem iv_X12_putRight : Cond.instanceMethod yX12_putRight ∈ lw_tbl ∧ Cond.selects yX12_putRight.cls yX12_putRight yX12_putRight ∈ lw_tbl := ⟨iv0_X12_putRight, List.mem_of_getElem? (i := 62) (by decide +kernel)⟩
theorem iv0_X12_sample : Cond.instanceMethod yX12_sample ∈ lw_tbl := List.mem_of_getElem? (i := 1769) (by decide +kernel)
theorem iv_X12_sample : Cond.instanceMethod yX12_sample ∈ lw_tbl ∧ Cond.selects yX12_sample.cls yX12_sample yX12_sample ∈ lw_tbl := ⟨iv0_X12_sample, List.mem_of_getElem? (i := 1770) (by decide +kernel)⟩
theorem iv0_X12_seller : Cond.instanceMethod yX12_seller ∈ lw_tbl := List.mem_of_getElem? (i := 1645) (by decide +kernel)
theorem iv_X12_seller : Cond.instanceMethod yX12_seller ∈ lw_tbl ∧ Cond.selects yX12_seller.cls yX12_seller yX12_seller ∈ lw_tbl := ⟨iv0_X12_seller, List.mem_of_getElem? (i := 1646) (by decide +kernel)⟩
theorem iv0_X12_span : Cond.instanceMethod yX12_span ∈ lw_tbl := List.mem_of_getElem? (i := 1631) (by decide +kernel)
theorem iv_X12_span : Cond.instanceMethod yX12_span ∈ lw_tbl ∧ Cond.selects yX12_span.cls yX12_span yX12_span ∈ lw_tbl := ⟨iv0_X12_span, List.mem_of_getElem? (i := 1632) (by decide +kernel)⟩
theorem iv0_X12_test : Cond.instanceMethod yX12_test ∈ lw_tbl := List.mem_of_getElem? (i := 1701) (by decide +kernel)
theorem iv_X12_test : Cond.instanceMethod yX12_test ∈ lw_tbl ∧ Cond.selects yX12_test.cls yX12_test yX12_test ∈ lw_tbl := ⟨iv0_X12_test, List.mem_of_getElem? (i := 42) (by decide +kernel)⟩
theorem iv0_X12_thrown : Cond.instanceMethod yX12_thrown ∈ lw_tbl := List.mem_of_getElem? (i := 1434) (by decide +kernel)
theorem iv_X12_thrown : Cond.instanceMethod yX12_thrown ∈ lw_tbl ∧ Cond.selects yX12_thrown.cls yX12_thrown yX12_thrown ∈ lw_tbl := ⟨iv0_X12_thrown, List.mem_of_getElem? (i := 1435) (by decide +kernel)⟩
theorem iv0_X12_told : Cond.instanceMethod yX12_told ∈ lw_tbl := List.mem_of_getElem? (i := 1761) (by decide +kernel)
theorem iv_X12_told : Cond.instanceMethod yX12_told ∈ lw_tbl ∧ Cond.selects yX12_told.cls yX12_told yX12_told ∈ lw_tbl := ⟨iv0_X12_told, List.mem_of_getElem? (i := 1762) (by decide +kernel)⟩
theorem iv0_X12_tons : Cond.instanceMethod yX12_tons ∈ lw_tbl := List.mem_of_getElem? (i := 1773) (by decide +kernel)
theorem iv_X12_tons : Cond.instanceMethod yX12_tons ∈ lw_tbl ∧ Cond.selects yX12_tons.cls yX12_tons yX12_tons ∈ lw_tbl := ⟨iv0_X12_tons, List.mem_of_getElem? (i := 1774) (by decide +kernel)⟩
theorem iv0_X12_tonsOf : Cond.instanceMethod yX12_tonsOf ∈ lw_tbl := List.mem_of_getElem? (i := 1782) (by decide +kernel)
theorem iv_X12_tonsOf : Cond.instanceMethod yX12_tonsOf ∈ lw_tbl ∧ Cond.selects yX12_tonsOf.cls yX12_tonsOf yX12_tonsOf ∈ lw_tbl := ⟨iv0_X12_tonsOf, List.mem_of_getElem? (i := 54) (by decide +kernel)⟩
theorem iv0_X12_total : Cond.instanceMethod yX12_total ∈ lw_tbl := List.mem_of_getElem? (i := 1830) (by decide +kernel)
theorem iv_X12_total : Cond.instanceMethod yX12_total ∈ lw_tbl ∧ Cond.selects yX12_total.cls yX12_total yX12_total ∈ lw_tbl := ⟨iv0_X12_total, List.mem_of_getElem? (i := 59) (by decide +kernel)⟩
theorem iv0_X12_usual : Cond.instanceMethod yX12_usual ∈ lw_tbl := List.mem_of_getElem? (i := 1649) (by decide +kernel)
theorem iv_X12_usual : Cond.instanceMethod yX12_usual ∈ lw_tbl ∧ Cond.selects yX12_usual.cls yX12_usual yX12_usual ∈ lw_tbl := ⟨iv0_X12_usual, List.mem_of_getElem? (i := 1650) (by decide +kernel)⟩
theorem iv0_X12_word : Cond.instanceMethod yX12_word ∈ lw_tbl := List.mem_of_getElem? (i := 1681) (by decide +kernel)
theorem iv_X12_word : Cond.instanceMethod yX12_word ∈ lw_tbl ∧ Cond.selects yX12_word.cls yX12_word yX12_word ∈ lw_tbl := ⟨iv0_X12_word, List.mem_of_getElem? (i := 38) (by decide +kernel)⟩
theorem iv0_X12_wrong : Cond.instanceMethod yX12_wrong ∈ lw_tbl := List.mem_of_getElem? (i := 1693) (by decide +kernel)
theorem iv_X12_wrong : Cond.instanceMethod yX12_wrong ∈ lw_tbl ∧ Cond.selects yX12_wrong.cls yX12_wrong yX12_wrong ∈ lw_tbl := ⟨iv0_X12_wrong, List.mem_of_getElem? (i := 40) (by decide +kernel)⟩
theorem iv0_X1_gradeOf : Cond.instanceMethod yX1_gradeOf ∈ lw_tbl := List.mem_of_getElem? (i := 1064) (by decide +kernel)
theorem iv_X1_gradeOf : Cond.instanceMethod yX1_gradeOf ∈ lw_tbl ∧ Cond.selects yX1_gradeOf.cls yX1_gradeOf yX1_gradeOf ∈ lw_tbl := ⟨iv0_X1_gradeOf, List.mem_of_getElem? (i := 1065) (by decide +kernel)⟩
theorem iv_X1_init : Cond.instanceMethod yX1_init ∈ lw_tbl := List.mem_of_getElem? (i := 640) (by decide +kernel)
theorem iv0_X1_payOf : Cond.instanceMethod yX1_payOf ∈ lw_tbl := List.mem_of_getElem? (i := 1083) (by decide +kernel)
theorem iv_X1_payOf : Cond.instanceMethod yX1_payOf ∈ lw_tbl ∧ Cond.selects yX1_payOf.cls yX1_payOf yX1_payOf ∈ lw_tbl := ⟨iv0_X1_payOf, List.mem_of_getElem? (i := 1084) (by decide +kernel)⟩
theorem iv_X2_init : Cond.instanceMethod yX2_init ∈ lw_tbl := List.mem_of_getElem? (i := 828) (by decide +kernel)
theorem iv0_X2_nextWord : Cond.instanceMethod yX2_nextWord ∈ lw_tbl := List.mem_of_getElem? (i := 882) (by decide +kernel)
theorem iv_X2_nextWord : Cond.instanceMethod yX2_nextWord ∈ lw_tbl ∧ Cond.selects yX2_nextWord.cls yX2_nextWord yX2_nextWord ∈ lw_tbl := ⟨iv0_X2_nextWord, List.mem_of_getElem? (i := 11) (by decide +kernel)⟩
theorem iv0_X2_readsAll : Cond.instanceMethod yX2_readsAll ∈ lw_tbl := List.mem_of_getElem? (i := 872) (by decide +kernel)
theorem iv_X2_readsAll : Cond.instanceMethod yX2_readsAll ∈ lw_tbl ∧ Cond.selects yX2_readsAll.cls yX2_readsAll yX2_readsAll ∈ lw_tbl := ⟨iv0_X2_readsAll, List.mem_of_getElem? (i := 873) (by decide +kernel)⟩
theorem iv0_X2_readsGrade : Cond.instanceMethod yX2_readsGrade ∈ lw_tbl := List.mem_of_getElem? (i := 914) (by decide +kernel)
theorem iv_X2_readsGrade : Cond.instanceMethod yX2_readsGrade ∈ lw_tbl ∧ Cond.selects yX2_readsGrade.cls yX2_readsGrade yX2_readsGrade ∈ lw_tbl := ⟨iv0_X2_readsGrade, List.mem_of_getElem? (i := 13) (by decide +kernel)⟩
theorem iv0_X2_readsPay : Cond.instanceMethod yX2_readsPay ∈ lw_tbl := List.mem_of_getElem? (i := 967) (by decide +kernel)
theorem iv_X2_readsPay : Cond.instanceMethod yX2_readsPay ∈ lw_tbl ∧ Cond.selects yX2_readsPay.cls yX2_readsPay yX2_readsPay ∈ lw_tbl := ⟨iv0_X2_readsPay, List.mem_of_getElem? (i := 18) (by decide +kernel)⟩
theorem iv0_X2_readsTest : Cond.instanceMethod yX2_readsTest ∈ lw_tbl := List.mem_of_getElem? (i := 936) (by decide +kernel)
theorem iv_X2_readsTest : Cond.instanceMethod yX2_readsTest ∈ lw_tbl ∧ Cond.selects yX2_readsTest.cls yX2_readsTest yX2_readsTest ∈ lw_tbl := ⟨iv0_X2_readsTest, List.mem_of_getElem? (i := 14) (by decide +kernel)⟩
theorem iv0_X2_skipBlanks : Cond.instanceMethod yX2_skipBlanks ∈ lw_tbl := List.mem_of_getElem? (i := 886) (by decide +kernel)
theorem iv_X2_skipBlanks : Cond.instanceMethod yX2_skipBlanks ∈ lw_tbl ∧ Cond.selects yX2_skipBlanks.cls yX2_skipBlanks yX2_skipBlanks ∈ lw_tbl := ⟨iv0_X2_skipBlanks, List.mem_of_getElem? (i := 12) (by decide +kernel)⟩
theorem iv0_X2_takenMetal : Cond.instanceMethod yX2_takenMetal ∈ lw_tbl := List.mem_of_getElem? (i := 940) (by decide +kernel)
theorem iv_X2_takenMetal : Cond.instanceMethod yX2_takenMetal ∈ lw_tbl ∧ Cond.selects yX2_takenMetal.cls yX2_takenMetal yX2_takenMetal ∈ lw_tbl := ⟨iv0_X2_takenMetal, List.mem_of_getElem? (i := 15) (by decide +kernel)⟩
theorem iv0_X2_takesNumber : Cond.instanceMethod yX2_takesNumber ∈ lw_tbl := List.mem_of_getElem? (i := 956) (by decide +kernel)
theorem iv_X2_takesNumber : Cond.instanceMethod yX2_takesNumber ∈ lw_tbl ∧ Cond.selects yX2_takesNumber.cls yX2_takesNumber yX2_takesNumber ∈ lw_tbl := ⟨iv0_X2_takesNumber, List.mem_of_getElem? (i := 17) (by decide +kernel)⟩
theorem iv0_X2_takesSign : Cond.instanceMethod yX2_takesSign ∈ lw_tbl := List.mem_of_getElem? (i := 952) (by decide +kernel)
theorem iv_X2_takesSign : Cond.instanceMethod yX2_takesSign ∈ lw_tbl ∧ Cond.selects yX2_takesSign.cls yX2_takesSign yX2_takesSign ∈ lw_tbl := ⟨iv0_X2_takesSign, List.mem_of_getElem? (i := 16) (by decide +kernel)⟩
theorem iv0_X2_takesWord : Cond.instanceMethod yX2_takesWord ∈ lw_tbl := List.mem_of_getElem? (i := 878) (by decide +kernel)
theorem iv_X2_takesWord : Cond.instanceMethod yX2_takesWord ∈ lw_tbl ∧ Cond.selects yX2_takesWord.cls yX2_takesWord yX2_takesWord ∈ lw_tbl := ⟨iv0_X2_takesWord, List.mem_of_getElem? (i := 10) (by decide +kernel)⟩
theorem iv0_X3_addTest : Cond.instanceMethod yX3_addTest ∈ lw_tbl := List.mem_of_getElem? (i := 960) (by decide +kernel)
theorem iv_X3_addTest : Cond.instanceMethod yX3_addTest ∈ lw_tbl ∧ Cond.selects yX3_addTest.cls yX3_addTest yX3_addTest ∈ lw_tbl := ⟨iv0_X3_addTest, List.mem_of_getElem? (i := 961) (by decide +kernel)⟩
theorem iv_X3_init : Cond.instanceMethod yX3_init ∈ lw_tbl := List.mem_of_getElem? (i := 919) (by decide +kernel)
theorem iv0_X3_isSure : Cond.instanceMethod yX3_isSure ∈ lw_tbl := List.mem_of_getElem? (i := 1071) (by decide +kernel)
theorem iv_X3_isSure : Cond.instanceMethod yX3_isSure ∈ lw_tbl ∧ Cond.selects yX3_isSure.cls yX3_isSure yX3_isSure ∈ lw_tbl := ⟨iv0_X3_isSure, List.mem_of_getElem? (i := 1072) (by decide +kernel)⟩
theorem iv0_X4_becomeOneLayer : Cond.instanceMethod yX4_becomeOneLayer ∈ lw_tbl := List.mem_of_getElem? (i := 1243) (by decide +kernel)
theorem iv_X4_becomeOneLayer : Cond.instanceMethod yX4_becomeOneLayer ∈ lw_tbl ∧ Cond.selects yX4_becomeOneLayer.cls yX4_becomeOneLayer yX4_becomeOneLayer ∈ lw_tbl := ⟨iv0_X4_becomeOneLayer, List.mem_of_getElem? (i := 1244) (by decide +kernel)⟩
theorem iv0_X4_fromTop : Cond.instanceMethod yX4_fromTop ∈ lw_tbl := List.mem_of_getElem? (i := 1194) (by decide +kernel)
theorem iv_X4_fromTop : Cond.instanceMethod yX4_fromTop ∈ lw_tbl ∧ Cond.selects yX4_fromTop.cls yX4_fromTop yX4_fromTop ∈ lw_tbl := ⟨iv0_X4_fromTop, List.mem_of_getElem? (i := 1195) (by decide +kernel)⟩
theorem iv0_X4_giveTo : Cond.instanceMethod yX4_giveTo ∈ lw_tbl := List.mem_of_getElem? (i := 1216) (by decide +kernel)
theorem iv_X4_giveTo : Cond.instanceMethod yX4_giveTo ∈ lw_tbl ∧ Cond.selects yX4_giveTo.cls yX4_giveTo yX4_giveTo ∈ lw_tbl := ⟨iv0_X4_giveTo, List.mem_of_getElem? (i := 1217) (by decide +kernel)⟩
theorem iv_X4_init : Cond.instanceMethod yX4_init ∈ lw_tbl := List.mem_of_getElem? (i := 214) (by decide +kernel)
theorem iv0_X4_narrowLayersOf : Cond.instanceMethod yX4_narrowLayersOf ∈ lw_tbl := List.mem_of_getElem? (i := 1164) (by decide +kernel)
theorem iv_X4_narrowLayersOf : Cond.instanceMethod yX4_narrowLayersOf ∈ lw_tbl ∧ Cond.selects yX4_narrowLayersOf.cls yX4_narrowLayersOf yX4_narrowLayersOf ∈ lw_tbl := ⟨iv0_X4_narrowLayersOf, List.mem_of_getElem? (i := 1165) (by decide +kernel)⟩
theorem iv0_X4_splitsFor : Cond.instanceMethod yX4_splitsFor ∈ lw_tbl := List.mem_of_getElem? (i := 1211) (by decide +kernel)
theorem iv_X4_splitsFor : Cond.instanceMethod yX4_splitsFor ∈ lw_tbl ∧ Cond.selects yX4_splitsFor.cls yX4_splitsFor yX4_splitsFor ∈ lw_tbl := ⟨iv0_X4_splitsFor, List.mem_of_getElem? (i := 1212) (by decide +kernel)⟩
theorem iv_X5_init : Cond.instanceMethod yX5_init ∈ lw_tbl := List.mem_of_getElem? (i := 267) (by decide +kernel)
theorem iv_X6_init : Cond.instanceMethod yX6_init ∈ lw_tbl := List.mem_of_getElem? (i := 1088) (by decide +kernel)
theorem iv0_X6_loadNumber : Cond.instanceMethod yX6_loadNumber ∈ lw_tbl := List.mem_of_getElem? (i := 1198) (by decide +kernel)
theorem iv_X6_loadNumber : Cond.instanceMethod yX6_loadNumber ∈ lw_tbl ∧ Cond.selects yX6_loadNumber.cls yX6_loadNumber yX6_loadNumber ∈ lw_tbl := ⟨iv0_X6_loadNumber, List.mem_of_getElem? (i := 1199) (by decide +kernel)⟩
theorem iv0_X6_splitOff : Cond.instanceMethod yX6_splitOff ∈ lw_tbl := List.mem_of_getElem? (i := 1220) (by decide +kernel)
theorem iv_X6_splitOff : Cond.instanceMethod yX6_splitOff ∈ lw_tbl ∧ Cond.selects yX6_splitOff.cls yX6_splitOff yX6_splitOff ∈ lw_tbl := ⟨iv0_X6_splitOff, List.mem_of_getElem? (i := 1221) (by decide +kernel)⟩
theorem iv0_X7_gradeAnew : Cond.instanceMethod yX7_gradeAnew ∈ lw_tbl := List.mem_of_getElem? (i := 1060) (by decide +kernel)
theorem iv_X7_gradeAnew : Cond.instanceMethod yX7_gradeAnew ∈ lw_tbl ∧ Cond.selects yX7_gradeAnew.cls yX7_gradeAnew yX7_gradeAnew ∈ lw_tbl := ⟨iv0_X7_gradeAnew, List.mem_of_getElem? (i := 1061) (by decide +kernel)⟩
theorem iv_X7_init : Cond.instanceMethod yX7_init ∈ lw_tbl := List.mem_of_getElem? (i := 1014) (by decide +kernel)
theorem iv0_X8_atLeast : Cond.instanceMethod yX8_atLeast ∈ lw_tbl := List.mem_of_getElem? (i := 1395) (by decide +kernel)
theorem iv_X8_atLeast : Cond.instanceMethod yX8_atLeast ∈ lw_tbl ∧ Cond.selects yX8_atLeast.cls yX8_atLeast yX8_atLeast ∈ lw_tbl := ⟨iv0_X8_atLeast, List.mem_of_getElem? (i := 31) (by decide +kernel)⟩
theorem iv0_X8_atMost : Cond.instanceMethod yX8_atMost ∈ lw_tbl := List.mem_of_getElem? (i := 1401) (by decide +kernel)
theorem iv_X8_atMost : Cond.instanceMethod yX8_atMost ∈ lw_tbl ∧ Cond.selects yX8_atMost.cls yX8_atMost yX8_atMost ∈ lw_tbl := ⟨iv0_X8_atMost, List.mem_of_getElem? (i := 32) (by decide +kernel)⟩
theorem iv_X8_init : Cond.instanceMethod yX8_init ∈ lw_tbl := List.mem_of_getElem? (i := 1344) (by decide +kernel)
theorem iv0_X8_narrowsAll : Cond.instanceMethod yX8_narrowsAll ∈ lw_tbl := List.mem_of_getElem? (i := 1386) (by decide +kernel)
theorem iv_X8_narrowsAll : Cond.instanceMethod yX8_narrowsAll ∈ lw_tbl ∧ Cond.selects yX8_narrowsAll.cls yX8_narrowsAll yX8_narrowsAll ∈ lw_tbl := ⟨iv0_X8_narrowsAll, List.mem_of_getElem? (i := 1387) (by decide +kernel)⟩
theorem iv0_X8_putUsualRight : Cond.instanceMethod yX8_putUsualRight ∈ lw_tbl := List.mem_of_getElem? (i := 1408) (by decide +kernel)
theorem iv_X8_putUsualRight : Cond.instanceMethod yX8_putUsualRight ∈ lw_tbl ∧ Cond.selects yX8_putUsualRight.cls yX8_putUsualRight yX8_putUsualRight ∈ lw_tbl := ⟨iv0_X8_putUsualRight, List.mem_of_getElem? (i := 1409) (by decide +kernel)⟩
theorem iv_X9_init : Cond.instanceMethod yX9_init ∈ lw_tbl := List.mem_of_getElem? (i := 356) (by decide +kernel)
theorem iv0_X9_putRight : Cond.instanceMethod yX9_putRight ∈ lw_tbl := List.mem_of_getElem? (i := 1412) (by decide +kernel)
theorem iv_X9_putRight : Cond.instanceMethod yX9_putRight ∈ lw_tbl ∧ Cond.selects yX9_putRight.cls yX9_putRight yX9_putRight ∈ lw_tbl := ⟨iv0_X9_putRight, List.mem_of_getElem? (i := 1413) (by decide +kernel)⟩
theorem iv0_X9_usualPart : Cond.instanceMethod yX9_usualPart ∈ lw_tbl := List.mem_of_getElem? (i := 992) (by decide +kernel)
theorem iv_X9_usualPart : Cond.instanceMethod yX9_usualPart ∈ lw_tbl ∧ Cond.selects yX9_usualPart.cls yX9_usualPart yX9_usualPart ∈ lw_tbl := ⟨iv0_X9_usualPart, List.mem_of_getElem? (i := 993) (by decide +kernel)⟩
theorem is_J0_checkBoundsBeginEnd_23922 : Cond.static yJ0_checkBoundsBeginEnd_23922 ∈ lw_tbl := List.mem_of_getElem? (i := 724) (by decide +kernel)
theorem is_J0_checkBoundsOffCount_cabcc : Cond.static yJ0_checkBoundsOffCount_cabcc ∈ lw_tbl := List.mem_of_getElem? (i := 438) (by decide +kernel)
theorem is_J0_checkIndex_df160 : Cond.static yJ0_checkIndex_df160 ∈ lw_tbl := List.mem_of_getElem? (i := 461) (by decide +kernel)
theorem is_J15_checkIndex_7cf53 : Cond.static yJ15_checkIndex_7cf53 ∈ lw_tbl := List.mem_of_getElem? (i := 486) (by decide +kernel)
theorem is_J1_canEncode_fc78d : Cond.static yJ1_canEncode_fc78d ∈ lw_tbl := List.mem_of_getElem? (i := 419) (by decide +kernel)
theorem is_J1_charAt_3b067 : Cond.static yJ1_charAt_3b067 ∈ lw_tbl := List.mem_of_getElem? (i := 894) (by decide +kernel)
theorem is_J1_equals_b5fdf : Cond.static yJ1_equals_b5fdf ∈ lw_tbl := List.mem_of_getElem? (i := 910) (by decide +kernel)
theorem is_J1_fillNull_b72d1 : Cond.static yJ1_fillNull_b72d1 ∈ lw_tbl := List.mem_of_getElem? (i := 856) (by decide +kernel)
theorem is_J1_inflate_0e8fd : Cond.static yJ1_inflate_0e8fd ∈ lw_tbl := List.mem_of_getElem? (i := 426) (by decide +kernel)
theorem is_J1_newString_b4f7a : Cond.static yJ1_newString_b4f7a ∈ lw_tbl := List.mem_of_getElem? (i := 810) (by decide +kernel)
theorem is_J2_charAt_3b067 : Cond.static yJ2_charAt_3b067 ∈ lw_tbl := List.mem_of_getElem? (i := 898) (by decide +kernel)
theorem is_J2_checkBoundsBeginEnd_d044e : Cond.static yJ2_checkBoundsBeginEnd_d044e ∈ lw_tbl := List.mem_of_getElem? (i := 721) (by decide +kernel)
theorem is_J2_checkBoundsOffCount_d044e : Cond.static yJ2_checkBoundsOffCount_d044e ∈ lw_tbl := List.mem_of_getElem? (i := 432) (by decide +kernel)
theorem is_J2_checkIndex_2214a : Cond.static yJ2_checkIndex_2214a ∈ lw_tbl := List.mem_of_getElem? (i := 458) (by decide +kernel)
theorem is_J2_coderFromArrayLen_85cad : Cond.static yJ2_coderFromArrayLen_85cad ∈ lw_tbl := List.mem_of_getElem? (i := 786) (by decide +kernel)
theorem is_J2_compress_39247 : Cond.static yJ2_compress_39247 ∈ lw_tbl := List.mem_of_getElem? (i := 776) (by decide +kernel)
theorem is_J2_compress_5af95 : Cond.static yJ2_compress_5af95 ∈ lw_tbl := List.mem_of_getElem? (i := 779) (by decide +kernel)
theorem is_J2_fillNull_b72d1 : Cond.static yJ2_fillNull_b72d1 ∈ lw_tbl := List.mem_of_getElem? (i := 868) (by decide +kernel)
theorem is_J2_getChar_3b067 : Cond.static yJ2_getChar_3b067 ∈ lw_tbl := List.mem_of_getElem? (i := 782) (by decide +kernel)
theorem is_J2_getChars_46870 : Cond.static yJ2_getChars_46870 ∈ lw_tbl := List.mem_of_getElem? (i := 718) (by decide +kernel)
theorem is_J2_getChars_ba4f3 : Cond.static yJ2_getChars_ba4f3 ∈ lw_tbl := List.mem_of_getElem? (i := 730) (by decide +kernel)
theorem is_J2_inflate_0e8fd : Cond.static yJ2_inflate_0e8fd ∈ lw_tbl := List.mem_of_getElem? (i := 429) (by decide +kernel)
theorem is_J2_length_9d52b : Cond.static yJ2_length_9d52b ∈ lw_tbl := List.mem_of_getElem? (i := 435) (by decide +kernel)
theorem is_J2_newBytesFor_77867 : Cond.static yJ2_newBytesFor_77867 ∈ lw_tbl := List.mem_of_getElem? (i := 191) (by decide +kernel)
theorem is_J2_newBytesLength_0f7a4 : Cond.static yJ2_newBytesLength_0f7a4 ∈ lw_tbl := List.mem_of_getElem? (i := 194) (by decide +kernel)
theorem is_J2_newString_b4f7a : Cond.static yJ2_newString_b4f7a ∈ lw_tbl := List.mem_of_getElem? (i := 819) (by decide +kernel)
theorem is_J2_putCharSB_b72d1 : Cond.static yJ2_putCharSB_b72d1 ∈ lw_tbl := List.mem_of_getElem? (i := 455) (by decide +kernel)
theorem is_J2_putChar_b72d1 : Cond.static yJ2_putChar_b72d1 ∈ lw_tbl := List.mem_of_getElem? (i := 446) (by decide +kernel)
theorem is_J2_putCharsAt_cd4e5 : Cond.static yJ2_putCharsAt_cd4e5 ∈ lw_tbl := List.mem_of_getElem? (i := 747) (by decide +kernel)
theorem is_J3_checkFromIndexSize_8c36e : Cond.static yJ3_checkFromIndexSize_8c36e ∈ lw_tbl := List.mem_of_getElem? (i := 443) (by decide +kernel)
theorem is_J3_checkFromToIndex_8c36e : Cond.static yJ3_checkFromToIndex_8c36e ∈ lw_tbl := List.mem_of_getElem? (i := 727) (by decide +kernel)
theorem is_J3_checkIndex_8e157 : Cond.static yJ3_checkIndex_8e157 ∈ lw_tbl := List.mem_of_getElem? (i := 464) (by decide +kernel)
theorem is_J6_getChars_ba4f3 : Cond.static yJ6_getChars_ba4f3 ∈ lw_tbl := List.mem_of_getElem? (i := 711) (by decide +kernel)
theorem is_J6_stringSize_0f7a4 : Cond.static yJ6_stringSize_0f7a4 ∈ lw_tbl := List.mem_of_getElem? (i := 708) (by decide +kernel)
theorem is_J7_checkLength_df160 : Cond.static yJ7_checkLength_df160 ∈ lw_tbl := List.mem_of_getElem? (i := 695) (by decide +kernel)
theorem is_J7_copyOfRangeByte_39247 : Cond.static yJ7_copyOfRangeByte_39247 ∈ lw_tbl := List.mem_of_getElem? (i := 692) (by decide +kernel)
theorem is_J7_copyOfRange_39247 : Cond.static yJ7_copyOfRange_39247 ∈ lw_tbl := List.mem_of_getElem? (i := 689) (by decide +kernel)
theorem is_J7_copyOf_1904c : Cond.static yJ7_copyOf_1904c ∈ lw_tbl := List.mem_of_getElem? (i := 310) (by decide +kernel)
theorem is_J7_copyOf_6403c : Cond.static yJ7_copyOf_6403c ∈ lw_tbl := List.mem_of_getElem? (i := 336) (by decide +kernel)
theorem is_J7_copyOf_9075b : Cond.static yJ7_copyOf_9075b ∈ lw_tbl := List.mem_of_getElem? (i := 404) (by decide +kernel)
theorem is_J7_fill_eb02e : Cond.static yJ7_fill_eb02e ∈ lw_tbl := List.mem_of_getElem? (i := 859) (by decide +kernel)
theorem is_J7_rangeCheck_23922 : Cond.static yJ7_rangeCheck_23922 ∈ lw_tbl := List.mem_of_getElem? (i := 862) (by decide +kernel)
theorem is_J8_hugeLength_7cf53 : Cond.static yJ8_hugeLength_7cf53 ∈ lw_tbl := List.mem_of_getElem? (i := 307) (by decide +kernel)
theorem is_J8_newLength_cabcc : Cond.static yJ8_newLength_cabcc ∈ lw_tbl := List.mem_of_getElem? (i := 300) (by decide +kernel)
theorem is_J9_floorDiv_7cf53 : Cond.static yJ9_floorDiv_7cf53 ∈ lw_tbl := List.mem_of_getElem? (i := 1256) (by decide +kernel)
theorem is_J9_max_7cf53 : Cond.static yJ9_max_7cf53 ∈ lw_tbl := List.mem_of_getElem? (i := 303) (by decide +kernel)
theorem is_J9_min_7cf53 : Cond.static yJ9_min_7cf53 ∈ lw_tbl := List.mem_of_getElem? (i := 342) (by decide +kernel)
theorem is_L_asked : Cond.static yL_asked ∈ lw_tbl := List.mem_of_getElem? (i := 1268) (by decide +kernel)
theorem is_L_best : Cond.static yL_best ∈ lw_tbl := List.mem_of_getElem? (i := 1275) (by decide +kernel)
theorem is_L_charge : Cond.static yL_charge ∈ lw_tbl := List.mem_of_getElem? (i := 1329) (by decide +kernel)
theorem is_L_contract : Cond.static yL_contract ∈ lw_tbl := List.mem_of_getElem? (i := 607) (by decide +kernel)
theorem is_L_day : Cond.static yL_day ∈ lw_tbl := List.mem_of_getElem? (i := 1426) (by decide +kernel)
theorem is_L_force : Cond.static yL_force ∈ lw_tbl := List.mem_of_getElem? (i := 973) (by decide +kernel)
theorem is_L_layer : Cond.static yL_layer ∈ lw_tbl := List.mem_of_getElem? (i := 1186) (by decide +kernel)
theorem is_L_layers : Cond.static yL_layers ∈ lw_tbl := List.mem_of_getElem? (i := 1179) (by decide +kernel)
theorem is_L_load : Cond.static yL_load ∈ lw_tbl := List.mem_of_getElem? (i := 996) (by decide +kernel)
theorem is_L_melt : Cond.static yL_melt ∈ lw_tbl := List.mem_of_getElem? (i := 1336) (by decide +kernel)
theorem is_L_mix : Cond.static yL_mix ∈ lw_tbl := List.mem_of_getElem? (i := 1236) (by decide +kernel)
theorem is_L_money : Cond.static yL_money ∈ lw_tbl := List.mem_of_getElem? (i := 1419) (by decide +kernel)
theorem is_L_move : Cond.static yL_move ∈ lw_tbl := List.mem_of_getElem? (i := 1202) (by decide +kernel)
theorem is_L_portion : Cond.static yL_portion ∈ lw_tbl := List.mem_of_getElem? (i := 1371) (by decide +kernel)
theorem is_L_portions : Cond.static yL_portions ∈ lw_tbl := List.mem_of_getElem? (i := 1359) (by decide +kernel)
theorem is_L_prove : Cond.static yL_prove ∈ lw_tbl := List.mem_of_getElem? (i := 1379) (by decide +kernel)
theorem is_L_sample : Cond.static yL_sample ∈ lw_tbl := List.mem_of_getElem? (i := 1144) (by decide +kernel)
theorem is_L_span : Cond.static yL_span ∈ lw_tbl := List.mem_of_getElem? (i := 500) (by decide +kernel)
theorem is_L_told : Cond.static yL_told ∈ lw_tbl := List.mem_of_getElem? (i := 1125) (by decide +kernel)
theorem is_L_tons : Cond.static yL_tons ∈ lw_tbl := List.mem_of_getElem? (i := 1172) (by decide +kernel)
theorem is_L_usual : Cond.static yL_usual ∈ lw_tbl := List.mem_of_getElem? (i := 984) (by decide +kernel)
theorem is_X0_at : Cond.static yX0_at ∈ lw_tbl := List.mem_of_getElem? (i := 1299) (by decide +kernel)
theorem is_X11_cut : Cond.static yX11_cut ∈ lw_tbl := List.mem_of_getElem? (i := 1253) (by decide +kernel)
theorem is_X11_needChargeTons : Cond.static yX11_needChargeTons ∈ lw_tbl := List.mem_of_getElem? (i := 1282) (by decide +kernel)
theorem is_X11_needHeap : Cond.static yX11_needHeap ∈ lw_tbl := List.mem_of_getElem? (i := 1007) (by decide +kernel)
theorem is_X11_needMetal : Cond.static yX11_needMetal ∈ lw_tbl := List.mem_of_getElem? (i := 580) (by decide +kernel)
theorem is_X11_needSpan : Cond.static yX11_needSpan ∈ lw_tbl := List.mem_of_getElem? (i := 599) (by decide +kernel)
theorem is_X11_roundedUp : Cond.static yX11_roundedUp ∈ lw_tbl := List.mem_of_getElem? (i := 1259) (by decide +kernel)
theorem is_X11_sumOf : Cond.static yX11_sumOf ∈ lw_tbl := List.mem_of_getElem? (i := 1250) (by decide +kernel)
theorem is_X11_tonsOf : Cond.static yX11_tonsOf ∈ lw_tbl := List.mem_of_getElem? (i := 479) (by decide +kernel)
theorem is_X12_floor : Cond.static yX12_floor ∈ lw_tbl := List.mem_of_getElem? (i := 1861) (by decide +kernel)
theorem is_X12_isDigit : Cond.static yX12_isDigit ∈ lw_tbl := List.mem_of_getElem? (i := 1716) (by decide +kernel)
theorem is_X12_isMetal : Cond.static yX12_isMetal ∈ lw_tbl := List.mem_of_getElem? (i := 1642) (by decide +kernel)
theorem is_X12_isSmall : Cond.static yX12_isSmall ∈ lw_tbl := List.mem_of_getElem? (i := 1688) (by decide +kernel)
theorem is_X12_isSpan : Cond.static yX12_isSpan ∈ lw_tbl := List.mem_of_getElem? (i := 1639) (by decide +kernel)
theorem is_X12_metalOf : Cond.static yX12_metalOf ∈ lw_tbl := List.mem_of_getElem? (i := 1704) (by decide +kernel)
theorem is_X12_sumAt : Cond.static yX12_sumAt ∈ lw_tbl := List.mem_of_getElem? (i := 1825) (by decide +kernel)
theorem is_X12_usualAt : Cond.static yX12_usualAt ∈ lw_tbl := List.mem_of_getElem? (i := 1661) (by decide +kernel)
theorem is_X2_isBetween : Cond.static yX2_isBetween ∈ lw_tbl := List.mem_of_getElem? (i := 901) (by decide +kernel)
theorem is_X2_metalOf : Cond.static yX2_metalOf ∈ lw_tbl := List.mem_of_getElem? (i := 943) (by decide +kernel)
