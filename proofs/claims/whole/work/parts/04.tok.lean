theorem am_gw {w : Cond} (i : Nat) (h : lw_tbl[i]? = some w) (hg : goodWord w = true) : w ∈ lw_g := List.mem_filter.mpr ⟨List.mem_of_getElem? h, hg⟩
def am_fdP (q : Nat × Nat × Nat × Nat × Nat) : Prop := ∃ (C : String) (T : u_T) (n : Nat), vwCl[q.2.2.1]? = some (C, T, n) ∧ q.2.2.2.1 < n ∧ Cond.fieldLink (am_cn q.1) q.2.1 (T q.2.2.2.1).1 (T q.2.2.2.1).2.1 (T q.2.2.2.1).2.2.1 ∈ lw_g
theorem am_fd_0_9 : am_fdP (0, 9, 0, 0, 262) := ⟨RX0, TX0, 5, rfl, by decide, am_gw 262 (by decide +kernel) (by decide +kernel)⟩
theorem am_fd_0_15 : am_fdP (0, 15, 0, 1, 265) := ⟨RX0, TX0, 5, rfl, by decide, am_gw 265 (by decide +kernel) (by decide +kernel)⟩
theorem am_fd_0_18 : am_fdP (0, 18, 0, 2, 268) := ⟨RX0, TX0, 5, rfl, by decide, am_gw 268 (by decide +kernel) (by decide +kernel)⟩
theorem am_fd_0_21 : am_fdP (0, 21, 0, 3, 269) := ⟨RX0, TX0, 5, rfl, by decide, am_gw 269 (by decide +kernel) (by decide +kernel)⟩
theorem am_fd_0_27 : am_fdP (0, 27, 0, 4, 270) := ⟨RX0, TX0, 5, rfl, by decide, am_gw 270 (by decide +kernel) (by decide +kernel)⟩
theorem am_fd_0_31 : am_fdP (0, 31, 2, 8, 145) := ⟨RX2, TX2, 18, rfl, by decide, am_gw 145 (by decide +kernel) (by decide +kernel)⟩
theorem am_fd_0_36 : am_fdP (0, 36, 2, 7, 143) := ⟨RX2, TX2, 18, rfl, by decide, am_gw 143 (by decide +kernel) (by decide +kernel)⟩
theorem am_fd_0_39 : am_fdP (0, 39, 2, 10, 153) := ⟨RX2, TX2, 18, rfl, by decide, am_gw 153 (by decide +kernel) (by decide +kernel)⟩
theorem am_fd_0_43 : am_fdP (0, 43, 2, 3, 131) := ⟨RX2, TX2, 18, rfl, by decide, am_gw 131 (by decide +kernel) (by decide +kernel)⟩
theorem am_fd_0_50 : am_fdP (0, 50, 2, 4, 136) := ⟨RX2, TX2, 18, rfl, by decide, am_gw 136 (by decide +kernel) (by decide +kernel)⟩
theorem am_fd_0_66 : am_fdP (0, 66, 5, 3, 100) := ⟨RX5, TX5, 7, rfl, by decide, am_gw 100 (by decide +kernel) (by decide +kernel)⟩
theorem am_fd_0_73 : am_fdP (0, 73, 5, 6, 106) := ⟨RX5, TX5, 7, rfl, by decide, am_gw 106 (by decide +kernel) (by decide +kernel)⟩
theorem am_fd_0_74 : am_fdP (0, 74, 5, 4, 102) := ⟨RX5, TX5, 7, rfl, by decide, am_gw 102 (by decide +kernel) (by decide +kernel)⟩
theorem am_fd_0_77 : am_fdP (0, 77, 5, 1, 95) := ⟨RX5, TX5, 7, rfl, by decide, am_gw 95 (by decide +kernel) (by decide +kernel)⟩
theorem am_fd_0_80 : am_fdP (0, 80, 5, 0, 92) := ⟨RX5, TX5, 7, rfl, by decide, am_gw 92 (by decide +kernel) (by decide +kernel)⟩
theorem am_fd_0_83 : am_fdP (0, 83, 5, 2, 98) := ⟨RX5, TX5, 7, rfl, by decide, am_gw 98 (by decide +kernel) (by decide +kernel)⟩
theorem am_fd_0_86 : am_fdP (0, 86, 5, 5, 104) := ⟨RX5, TX5, 7, rfl, by decide, am_gw 104 (by decide +kernel) (by decide +kernel)⟩
theorem am_fd_1_9 : am_fdP (1, 9, 1, 0, 237) := ⟨RX1, TX1, 4, rfl, by decide, am_gw 237 (by decide +kernel) (by decide +kernel)⟩
theorem am_fd_1_15 : am_fdP (1, 15, 1, 1, 239) := ⟨RX1, TX1, 4, rfl, by decide, am_gw 239 (by decide +kernel) (by decide +kernel)⟩
theorem am_fd_1_18 : am_fdP (1, 18, 1, 2, 241) := ⟨RX1, TX1, 4, rfl, by decide, am_gw 241 (by decide +kernel) (by decide +kernel)⟩
theorem am_fd_1_21 : am_fdP (1, 21, 1, 3, 243) := ⟨RX1, TX1, 4, rfl, by decide, am_gw 243 (by decide +kernel) (by decide +kernel)⟩
theorem am_fd_2_9 : am_fdP (2, 9, 2, 0, 122) := ⟨RX2, TX2, 18, rfl, by decide, am_gw 122 (by decide +kernel) (by decide +kernel)⟩
theorem am_fd_2_15 : am_fdP (2, 15, 2, 1, 125) := ⟨RX2, TX2, 18, rfl, by decide, am_gw 125 (by decide +kernel) (by decide +kernel)⟩
theorem am_fd_2_18 : am_fdP (2, 18, 2, 2, 128) := ⟨RX2, TX2, 18, rfl, by decide, am_gw 128 (by decide +kernel) (by decide +kernel)⟩
theorem am_fd_2_21 : am_fdP (2, 21, 2, 3, 130) := ⟨RX2, TX2, 18, rfl, by decide, am_gw 130 (by decide +kernel) (by decide +kernel)⟩
theorem am_fd_2_24 : am_fdP (2, 24, 2, 4, 134) := ⟨RX2, TX2, 18, rfl, by decide, am_gw 134 (by decide +kernel) (by decide +kernel)⟩
theorem am_fd_2_27 : am_fdP (2, 27, 2, 5, 138) := ⟨RX2, TX2, 18, rfl, by decide, am_gw 138 (by decide +kernel) (by decide +kernel)⟩
theorem am_fd_2_30 : am_fdP (2, 30, 2, 6, 140) := ⟨RX2, TX2, 18, rfl, by decide, am_gw 140 (by decide +kernel) (by decide +kernel)⟩
theorem am_fd_2_36 : am_fdP (2, 36, 2, 7, 142) := ⟨RX2, TX2, 18, rfl, by decide, am_gw 142 (by decide +kernel) (by decide +kernel)⟩
theorem am_fd_2_40 : am_fdP (2, 40, 2, 8, 144) := ⟨RX2, TX2, 18, rfl, by decide, am_gw 144 (by decide +kernel) (by decide +kernel)⟩
theorem am_fd_2_43 : am_fdP (2, 43, 2, 9, 146) := ⟨RX2, TX2, 18, rfl, by decide, am_gw 146 (by decide +kernel) (by decide +kernel)⟩
theorem am_fd_2_47 : am_fdP (2, 47, 2, 10, 152) := ⟨RX2, TX2, 18, rfl, by decide, am_gw 152 (by decide +kernel) (by decide +kernel)⟩
theorem am_fd_2_50 : am_fdP (2, 50, 2, 11, 155) := ⟨RX2, TX2, 18, rfl, by decide, am_gw 155 (by decide +kernel) (by decide +kernel)⟩
theorem am_fd_2_53 : am_fdP (2, 53, 2, 12, 157) := ⟨RX2, TX2, 18, rfl, by decide, am_gw 157 (by decide +kernel) (by decide +kernel)⟩
theorem am_fd_2_56 : am_fdP (2, 56, 2, 13, 159) := ⟨RX2, TX2, 18, rfl, by decide, am_gw 159 (by decide +kernel) (by decide +kernel)⟩
theorem am_fd_2_59 : am_fdP (2, 59, 2, 14, 160) := ⟨RX2, TX2, 18, rfl, by decide, am_gw 160 (by decide +kernel) (by decide +kernel)⟩
theorem am_fd_2_62 : am_fdP (2, 62, 2, 15, 162) := ⟨RX2, TX2, 18, rfl, by decide, am_gw 162 (by decide +kernel) (by decide +kernel)⟩
theorem am_fd_2_65 : am_fdP (2, 65, 2, 16, 164) := ⟨RX2, TX2, 18, rfl, by decide, am_gw 164 (by decide +kernel) (by decide +kernel)⟩
theorem am_fd_2_68 : am_fdP (2, 68, 2, 17, 166) := ⟨RX2, TX2, 18, rfl, by decide, am_gw 166 (by decide +kernel) (by decide +kernel)⟩
theorem am_fd_3_9 : am_fdP (3, 9, 3, 0, 64) := ⟨RX3, TX3, 4, rfl, by decide, am_gw 64 (by decide +kernel) (by decide +kernel)⟩
theorem am_fd_3_15 : am_fdP (3, 15, 3, 1, 65) := ⟨RX3, TX3, 4, rfl, by decide, am_gw 65 (by decide +kernel) (by decide +kernel)⟩
theorem am_fd_3_25 : am_fdP (3, 25, 3, 2, 66) := ⟨RX3, TX3, 4, rfl, by decide, am_gw 66 (by decide +kernel) (by decide +kernel)⟩
theorem am_fd_3_29 : am_fdP (3, 29, 3, 3, 67) := ⟨RX3, TX3, 4, rfl, by decide, am_gw 67 (by decide +kernel) (by decide +kernel)⟩
theorem am_fd_4_9 : am_fdP (4, 9, 4, 3, 217) := ⟨RX4, TX4, 5, rfl, by decide, am_gw 217 (by decide +kernel) (by decide +kernel)⟩
theorem am_fd_4_15 : am_fdP (4, 15, 4, 4, 219) := ⟨RX4, TX4, 5, rfl, by decide, am_gw 219 (by decide +kernel) (by decide +kernel)⟩
theorem am_fd_4_18 : am_fdP (4, 18, 4, 0, 211) := ⟨RX4, TX4, 5, rfl, by decide, am_gw 211 (by decide +kernel) (by decide +kernel)⟩
theorem am_fd_4_22 : am_fdP (4, 22, 4, 1, 213) := ⟨RX4, TX4, 5, rfl, by decide, am_gw 213 (by decide +kernel) (by decide +kernel)⟩
theorem am_fd_4_25 : am_fdP (4, 25, 4, 2, 215) := ⟨RX4, TX4, 5, rfl, by decide, am_gw 215 (by decide +kernel) (by decide +kernel)⟩
theorem am_fd_4_40 : am_fdP (4, 40, 2, 9, 148) := ⟨RX2, TX2, 18, rfl, by decide, am_gw 148 (by decide +kernel) (by decide +kernel)⟩
theorem am_fd_4_45 : am_fdP (4, 45, 2, 1, 126) := ⟨RX2, TX2, 18, rfl, by decide, am_gw 126 (by decide +kernel) (by decide +kernel)⟩
theorem am_fd_4_48 : am_fdP (4, 48, 2, 10, 154) := ⟨RX2, TX2, 18, rfl, by decide, am_gw 154 (by decide +kernel) (by decide +kernel)⟩
theorem am_fd_4_51 : am_fdP (4, 51, 0, 4, 271) := ⟨RX0, TX0, 5, rfl, by decide, am_gw 271 (by decide +kernel) (by decide +kernel)⟩
theorem am_fd_4_57 : am_fdP (4, 57, 5, 0, 93) := ⟨RX5, TX5, 7, rfl, by decide, am_gw 93 (by decide +kernel) (by decide +kernel)⟩
theorem am_fd_4_62 : am_fdP (4, 62, 0, 1, 266) := ⟨RX0, TX0, 5, rfl, by decide, am_gw 266 (by decide +kernel) (by decide +kernel)⟩
theorem am_fd_4_65 : am_fdP (4, 65, 0, 0, 263) := ⟨RX0, TX0, 5, rfl, by decide, am_gw 263 (by decide +kernel) (by decide +kernel)⟩
theorem am_fd_4_72 : am_fdP (4, 72, 5, 1, 96) := ⟨RX5, TX5, 7, rfl, by decide, am_gw 96 (by decide +kernel) (by decide +kernel)⟩
theorem am_fd_5_9 : am_fdP (5, 9, 5, 0, 91) := ⟨RX5, TX5, 7, rfl, by decide, am_gw 91 (by decide +kernel) (by decide +kernel)⟩
theorem am_fd_5_15 : am_fdP (5, 15, 5, 1, 94) := ⟨RX5, TX5, 7, rfl, by decide, am_gw 94 (by decide +kernel) (by decide +kernel)⟩
theorem am_fd_5_18 : am_fdP (5, 18, 5, 2, 97) := ⟨RX5, TX5, 7, rfl, by decide, am_gw 97 (by decide +kernel) (by decide +kernel)⟩
theorem am_fd_5_21 : am_fdP (5, 21, 5, 4, 101) := ⟨RX5, TX5, 7, rfl, by decide, am_gw 101 (by decide +kernel) (by decide +kernel)⟩
theorem am_fd_5_24 : am_fdP (5, 24, 5, 5, 103) := ⟨RX5, TX5, 7, rfl, by decide, am_gw 103 (by decide +kernel) (by decide +kernel)⟩
theorem am_fd_5_27 : am_fdP (5, 27, 2, 10, 151) := ⟨RX2, TX2, 18, rfl, by decide, am_gw 151 (by decide +kernel) (by decide +kernel)⟩
theorem am_fd_5_33 : am_fdP (5, 33, 5, 6, 105) := ⟨RX5, TX5, 7, rfl, by decide, am_gw 105 (by decide +kernel) (by decide +kernel)⟩
theorem am_fd_5_34 : am_fdP (5, 34, 2, 9, 147) := ⟨RX2, TX2, 18, rfl, by decide, am_gw 147 (by decide +kernel) (by decide +kernel)⟩
theorem am_fd_5_37 : am_fdP (5, 37, 5, 3, 99) := ⟨RX5, TX5, 7, rfl, by decide, am_gw 99 (by decide +kernel) (by decide +kernel)⟩
theorem am_fd_5_40 : am_fdP (5, 40, 2, 4, 135) := ⟨RX2, TX2, 18, rfl, by decide, am_gw 135 (by decide +kernel) (by decide +kernel)⟩
theorem am_fd_5_57 : am_fdP (5, 57, 2, 3, 132) := ⟨RX2, TX2, 18, rfl, by decide, am_gw 132 (by decide +kernel) (by decide +kernel)⟩
theorem am_fd_5_60 : am_fdP (5, 60, 2, 0, 123) := ⟨RX2, TX2, 18, rfl, by decide, am_gw 123 (by decide +kernel) (by decide +kernel)⟩
theorem am_fd_5_63 : am_fdP (5, 63, 2, 12, 158) := ⟨RX2, TX2, 18, rfl, by decide, am_gw 158 (by decide +kernel) (by decide +kernel)⟩
theorem am_fd_6_9 : am_fdP (6, 9, 6, 0, 328) := ⟨RX6, TX6, 11, rfl, by decide, am_gw 328 (by decide +kernel) (by decide +kernel)⟩
theorem am_fd_6_16 : am_fdP (6, 16, 6, 2, 330) := ⟨RX6, TX6, 11, rfl, by decide, am_gw 330 (by decide +kernel) (by decide +kernel)⟩
theorem am_fd_6_23 : am_fdP (6, 23, 6, 3, 331) := ⟨RX6, TX6, 11, rfl, by decide, am_gw 331 (by decide +kernel) (by decide +kernel)⟩
theorem am_fd_6_27 : am_fdP (6, 27, 6, 4, 332) := ⟨RX6, TX6, 11, rfl, by decide, am_gw 332 (by decide +kernel) (by decide +kernel)⟩
theorem am_fd_6_33 : am_fdP (6, 33, 6, 5, 333) := ⟨RX6, TX6, 11, rfl, by decide, am_gw 333 (by decide +kernel) (by decide +kernel)⟩
theorem am_fd_6_37 : am_fdP (6, 37, 6, 6, 334) := ⟨RX6, TX6, 11, rfl, by decide, am_gw 334 (by decide +kernel) (by decide +kernel)⟩
theorem am_fd_6_40 : am_fdP (6, 40, 6, 7, 335) := ⟨RX6, TX6, 11, rfl, by decide, am_gw 335 (by decide +kernel) (by decide +kernel)⟩
theorem am_fd_6_46 : am_fdP (6, 46, 6, 9, 337) := ⟨RX6, TX6, 11, rfl, by decide, am_gw 337 (by decide +kernel) (by decide +kernel)⟩
theorem am_fd_6_53 : am_fdP (6, 53, 6, 10, 338) := ⟨RX6, TX6, 11, rfl, by decide, am_gw 338 (by decide +kernel) (by decide +kernel)⟩
theorem am_fd_6_67 : am_fdP (6, 67, 2, 10, 150) := ⟨RX2, TX2, 18, rfl, by decide, am_gw 150 (by decide +kernel) (by decide +kernel)⟩
theorem am_fd_6_75 : am_fdP (6, 75, 6, 1, 329) := ⟨RX6, TX6, 11, rfl, by decide, am_gw 329 (by decide +kernel) (by decide +kernel)⟩
theorem am_fd_6_82 : am_fdP (6, 82, 2, 9, 149) := ⟨RX2, TX2, 18, rfl, by decide, am_gw 149 (by decide +kernel) (by decide +kernel)⟩
theorem am_fd_6_85 : am_fdP (6, 85, 1, 3, 244) := ⟨RX1, TX1, 4, rfl, by decide, am_gw 244 (by decide +kernel) (by decide +kernel)⟩
theorem am_fd_6_88 : am_fdP (6, 88, 6, 8, 336) := ⟨RX6, TX6, 11, rfl, by decide, am_gw 336 (by decide +kernel) (by decide +kernel)⟩
theorem am_fd_6_95 : am_fdP (6, 95, 2, 0, 124) := ⟨RX2, TX2, 18, rfl, by decide, am_gw 124 (by decide +kernel) (by decide +kernel)⟩
theorem am_fd_6_99 : am_fdP (6, 99, 2, 1, 127) := ⟨RX2, TX2, 18, rfl, by decide, am_gw 127 (by decide +kernel) (by decide +kernel)⟩
theorem am_fd_6_102 : am_fdP (6, 102, 2, 2, 129) := ⟨RX2, TX2, 18, rfl, by decide, am_gw 129 (by decide +kernel) (by decide +kernel)⟩
theorem am_fd_6_105 : am_fdP (6, 105, 4, 3, 218) := ⟨RX4, TX4, 5, rfl, by decide, am_gw 218 (by decide +kernel) (by decide +kernel)⟩
theorem am_fd_6_108 : am_fdP (6, 108, 4, 1, 214) := ⟨RX4, TX4, 5, rfl, by decide, am_gw 214 (by decide +kernel) (by decide +kernel)⟩
theorem am_fd_6_118 : am_fdP (6, 118, 2, 3, 133) := ⟨RX2, TX2, 18, rfl, by decide, am_gw 133 (by decide +kernel) (by decide +kernel)⟩
theorem am_fd_6_121 : am_fdP (6, 121, 2, 4, 137) := ⟨RX2, TX2, 18, rfl, by decide, am_gw 137 (by decide +kernel) (by decide +kernel)⟩
theorem am_fd_6_124 : am_fdP (6, 124, 2, 5, 139) := ⟨RX2, TX2, 18, rfl, by decide, am_gw 139 (by decide +kernel) (by decide +kernel)⟩
theorem am_fd_6_127 : am_fdP (6, 127, 2, 6, 141) := ⟨RX2, TX2, 18, rfl, by decide, am_gw 141 (by decide +kernel) (by decide +kernel)⟩
theorem am_fd_6_130 : am_fdP (6, 130, 4, 0, 212) := ⟨RX4, TX4, 5, rfl, by decide, am_gw 212 (by decide +kernel) (by decide +kernel)⟩
theorem am_fd_6_147 : am_fdP (6, 147, 0, 0, 264) := ⟨RX0, TX0, 5, rfl, by decide, am_gw 264 (by decide +kernel) (by decide +kernel)⟩
theorem am_fd_6_150 : am_fdP (6, 150, 0, 1, 267) := ⟨RX0, TX0, 5, rfl, by decide, am_gw 267 (by decide +kernel) (by decide +kernel)⟩
theorem am_fd_6_156 : am_fdP (6, 156, 4, 2, 216) := ⟨RX4, TX4, 5, rfl, by decide, am_gw 216 (by decide +kernel) (by decide +kernel)⟩
theorem am_fd_6_187 : am_fdP (6, 187, 1, 0, 238) := ⟨RX1, TX1, 4, rfl, by decide, am_gw 238 (by decide +kernel) (by decide +kernel)⟩
theorem am_fd_6_189 : am_fdP (6, 189, 1, 1, 240) := ⟨RX1, TX1, 4, rfl, by decide, am_gw 240 (by decide +kernel) (by decide +kernel)⟩
theorem am_fd_6_192 : am_fdP (6, 192, 1, 2, 242) := ⟨RX1, TX1, 4, rfl, by decide, am_gw 242 (by decide +kernel) (by decide +kernel)⟩
theorem am_fd_6_212 : am_fdP (6, 212, 2, 14, 161) := ⟨RX2, TX2, 18, rfl, by decide, am_gw 161 (by decide +kernel) (by decide +kernel)⟩
theorem am_fd_6_218 : am_fdP (6, 218, 2, 15, 163) := ⟨RX2, TX2, 18, rfl, by decide, am_gw 163 (by decide +kernel) (by decide +kernel)⟩
theorem am_fd_6_228 : am_fdP (6, 228, 2, 16, 165) := ⟨RX2, TX2, 18, rfl, by decide, am_gw 165 (by decide +kernel) (by decide +kernel)⟩
theorem am_fd_6_236 : am_fdP (6, 236, 2, 11, 156) := ⟨RX2, TX2, 18, rfl, by decide, am_gw 156 (by decide +kernel) (by decide +kernel)⟩
theorem am_fd_6_265 : am_fdP (6, 265, 2, 17, 167) := ⟨RX2, TX2, 18, rfl, by decide, am_gw 167 (by decide +kernel) (by decide +kernel)⟩
theorem am_fd_7_7 : am_fdP (7, 7, 7, 1, 659) := ⟨RX7, TX7, 33, rfl, by decide, am_gw 659 (by decide +kernel) (by decide +kernel)⟩
theorem am_fd_7_13 : am_fdP (7, 13, 7, 6, 664) := ⟨RX7, TX7, 33, rfl, by decide, am_gw 664 (by decide +kernel) (by decide +kernel)⟩
theorem am_fd_7_16 : am_fdP (7, 16, 7, 7, 665) := ⟨RX7, TX7, 33, rfl, by decide, am_gw 665 (by decide +kernel) (by decide +kernel)⟩
theorem am_fd_7_19 : am_fdP (7, 19, 7, 8, 666) := ⟨RX7, TX7, 33, rfl, by decide, am_gw 666 (by decide +kernel) (by decide +kernel)⟩
theorem am_fd_7_22 : am_fdP (7, 22, 7, 9, 667) := ⟨RX7, TX7, 33, rfl, by decide, am_gw 667 (by decide +kernel) (by decide +kernel)⟩
theorem am_fd_7_26 : am_fdP (7, 26, 7, 11, 669) := ⟨RX7, TX7, 33, rfl, by decide, am_gw 669 (by decide +kernel) (by decide +kernel)⟩
theorem am_fd_7_29 : am_fdP (7, 29, 7, 12, 670) := ⟨RX7, TX7, 33, rfl, by decide, am_gw 670 (by decide +kernel) (by decide +kernel)⟩
theorem am_fd_7_32 : am_fdP (7, 32, 7, 13, 671) := ⟨RX7, TX7, 33, rfl, by decide, am_gw 671 (by decide +kernel) (by decide +kernel)⟩
theorem am_fd_7_35 : am_fdP (7, 35, 7, 16, 674) := ⟨RX7, TX7, 33, rfl, by decide, am_gw 674 (by decide +kernel) (by decide +kernel)⟩
theorem am_fd_7_38 : am_fdP (7, 38, 7, 20, 678) := ⟨RX7, TX7, 33, rfl, by decide, am_gw 678 (by decide +kernel) (by decide +kernel)⟩
theorem am_fd_7_41 : am_fdP (7, 41, 7, 22, 680) := ⟨RX7, TX7, 33, rfl, by decide, am_gw 680 (by decide +kernel) (by decide +kernel)⟩
theorem am_fd_7_44 : am_fdP (7, 44, 7, 27, 685) := ⟨RX7, TX7, 33, rfl, by decide, am_gw 685 (by decide +kernel) (by decide +kernel)⟩
theorem am_fd_7_47 : am_fdP (7, 47, 7, 28, 686) := ⟨RX7, TX7, 33, rfl, by decide, am_gw 686 (by decide +kernel) (by decide +kernel)⟩
theorem am_fd_7_50 : am_fdP (7, 50, 7, 29, 687) := ⟨RX7, TX7, 33, rfl, by decide, am_gw 687 (by decide +kernel) (by decide +kernel)⟩
theorem am_fd_7_53 : am_fdP (7, 53, 7, 30, 688) := ⟨RX7, TX7, 33, rfl, by decide, am_gw 688 (by decide +kernel) (by decide +kernel)⟩
theorem am_fd_7_56 : am_fdP (7, 56, 7, 31, 689) := ⟨RX7, TX7, 33, rfl, by decide, am_gw 689 (by decide +kernel) (by decide +kernel)⟩
theorem am_fd_7_59 : am_fdP (7, 59, 7, 32, 690) := ⟨RX7, TX7, 33, rfl, by decide, am_gw 690 (by decide +kernel) (by decide +kernel)⟩
theorem am_fd_7_70 : am_fdP (7, 70, 7, 0, 658) := ⟨RX7, TX7, 33, rfl, by decide, am_gw 658 (by decide +kernel) (by decide +kernel)⟩
theorem am_fd_7_75 : am_fdP (7, 75, 7, 2, 660) := ⟨RX7, TX7, 33, rfl, by decide, am_gw 660 (by decide +kernel) (by decide +kernel)⟩
theorem am_fd_7_78 : am_fdP (7, 78, 7, 3, 661) := ⟨RX7, TX7, 33, rfl, by decide, am_gw 661 (by decide +kernel) (by decide +kernel)⟩
theorem am_fd_7_85 : am_fdP (7, 85, 7, 4, 662) := ⟨RX7, TX7, 33, rfl, by decide, am_gw 662 (by decide +kernel) (by decide +kernel)⟩
theorem am_fd_7_91 : am_fdP (7, 91, 7, 5, 663) := ⟨RX7, TX7, 33, rfl, by decide, am_gw 663 (by decide +kernel) (by decide +kernel)⟩
theorem am_fd_7_115 : am_fdP (7, 115, 7, 10, 668) := ⟨RX7, TX7, 33, rfl, by decide, am_gw 668 (by decide +kernel) (by decide +kernel)⟩
theorem am_fd_7_118 : am_fdP (7, 118, 7, 14, 672) := ⟨RX7, TX7, 33, rfl, by decide, am_gw 672 (by decide +kernel) (by decide +kernel)⟩
theorem am_fd_7_121 : am_fdP (7, 121, 7, 15, 673) := ⟨RX7, TX7, 33, rfl, by decide, am_gw 673 (by decide +kernel) (by decide +kernel)⟩
theorem am_fd_7_124 : am_fdP (7, 124, 7, 17, 675) := ⟨RX7, TX7, 33, rfl, by decide, am_gw 675 (by decide +kernel) (by decide +kernel)⟩
theorem am_fd_7_127 : am_fdP (7, 127, 7, 18, 676) := ⟨RX7, TX7, 33, rfl, by decide, am_gw 676 (by decide +kernel) (by decide +kernel)⟩
theorem am_fd_7_130 : am_fdP (7, 130, 7, 19, 677) := ⟨RX7, TX7, 33, rfl, by decide, am_gw 677 (by decide +kernel) (by decide +kernel)⟩
theorem am_fd_7_133 : am_fdP (7, 133, 7, 21, 679) := ⟨RX7, TX7, 33, rfl, by decide, am_gw 679 (by decide +kernel) (by decide +kernel)⟩
theorem am_fd_7_154 : am_fdP (7, 154, 7, 25, 683) := ⟨RX7, TX7, 33, rfl, by decide, am_gw 683 (by decide +kernel) (by decide +kernel)⟩
theorem am_fd_7_157 : am_fdP (7, 157, 7, 23, 681) := ⟨RX7, TX7, 33, rfl, by decide, am_gw 681 (by decide +kernel) (by decide +kernel)⟩
theorem am_fd_7_160 : am_fdP (7, 160, 7, 26, 684) := ⟨RX7, TX7, 33, rfl, by decide, am_gw 684 (by decide +kernel) (by decide +kernel)⟩
theorem am_fd_7_163 : am_fdP (7, 163, 7, 24, 682) := ⟨RX7, TX7, 33, rfl, by decide, am_gw 682 (by decide +kernel) (by decide +kernel)⟩
set_option maxRecDepth 20000 in
theorem am_fdl_ok : ∀ q ∈ am_fdl, am_fdP q := List.forall_mem_cons.mpr ⟨am_fd_0_9, List.forall_mem_cons.mpr ⟨am_fd_0_15, List.forall_mem_cons.mpr ⟨am_fd_0_18, List.forall_mem_cons.mpr ⟨am_fd_0_21, List.forall_mem_cons.mpr ⟨am_fd_0_27, List.forall_mem_cons.mpr ⟨am_fd_0_31, List.forall_mem_cons.mpr ⟨am_fd_0_36, List.forall_mem_cons.mpr ⟨am_fd_0_39, List.forall_mem_cons.mpr ⟨am_fd_0_43, List.forall_mem_cons.mpr ⟨am_fd_0_50, List.forall_mem_cons.mpr ⟨am_fd_0_66, List.forall_mem_cons.mpr ⟨am_fd_0_73, List.forall_mem_cons.mpr ⟨am_fd_0_74, List.forall_mem_cons.mpr ⟨am_fd_0_77, List.forall_mem_cons.mpr ⟨am_fd_0_80, List.forall_mem_cons.mpr ⟨am_fd_0_83, List.forall_mem_cons.mpr ⟨am_fd_0_86, List.forall_mem_cons.mpr ⟨am_fd_1_9, List.forall_mem_cons.mpr ⟨am_fd_1_15, List.forall_mem_cons.mpr ⟨am_fd_1_18, List.forall_mem_cons.mpr ⟨am_fd_1_21, List.forall_mem_cons.mpr ⟨am_fd_2_9, List.forall_mem_cons.mpr ⟨am_fd_2_15, List.forall_mem_cons.mpr ⟨am_fd_2_18, List.forall_mem_cons.mpr ⟨am_fd_2_21, List.forall_mem_cons.mpr ⟨am_fd_2_24, List.forall_mem_cons.mpr ⟨am_fd_2_27, List.forall_mem_cons.mpr ⟨am_fd_2_30, List.forall_mem_cons.mpr ⟨am_fd_2_36, List.forall_mem_cons.mpr ⟨am_fd_2_40, List.forall_mem_cons.mpr ⟨am_fd_2_43, List.forall_mem_cons.mpr ⟨am_fd_2_47, List.forall_mem_cons.mpr ⟨am_fd_2_50, List.forall_mem_cons.mpr ⟨am_fd_2_53, List.forall_mem_cons.mpr ⟨am_fd_2_56, List.forall_mem_cons.mpr ⟨am_fd_2_59, List.forall_mem_cons.mpr ⟨am_fd_2_62, List.forall_mem_cons.mpr ⟨am_fd_2_65, List.forall_mem_cons.mpr ⟨am_fd_2_68, List.forall_mem_cons.mpr ⟨am_fd_3_9, List.forall_mem_cons.mpr ⟨am_fd_3_15, List.forall_mem_cons.mpr ⟨am_fd_3_25, List.forall_mem_cons.mpr ⟨am_fd_3_29, List.forall_mem_cons.mpr ⟨am_fd_4_9, List.forall_mem_cons.mpr ⟨am_fd_4_15, List.forall_mem_cons.mpr ⟨am_fd_4_18, List.forall_mem_cons.mpr ⟨am_fd_4_22, List.forall_mem_cons.mpr ⟨am_fd_4_25, List.forall_mem_cons.mpr ⟨am_fd_4_40, List.forall_mem_cons.mpr ⟨am_fd_4_45, List.forall_mem_cons.mpr ⟨am_fd_4_48, List.forall_mem_cons.mpr ⟨am_fd_4_51, List.forall_mem_cons.mpr ⟨am_fd_4_57, List.forall_mem_cons.mpr ⟨am_fd_4_62, List.forall_mem_cons.mpr ⟨am_fd_4_65, List.forall_mem_cons.mpr ⟨am_fd_4_72, List.forall_mem_cons.mpr ⟨am_fd_5_9, List.forall_mem_cons.mpr ⟨am_fd_5_15, List.forall_mem_cons.mpr ⟨am_fd_5_18, List.forall_mem_cons.mpr ⟨am_fd_5_21, List.forall_mem_cons.mpr ⟨am_fd_5_24, List.forall_mem_cons.mpr ⟨am_fd_5_27, List.forall_mem_cons.mpr ⟨am_fd_5_33, List.forall_mem_cons.mpr ⟨am_fd_5_34, List.forall_mem_cons.mpr ⟨am_fd_5_37, List.forall_mem_cons.mpr ⟨am_fd_5_40, List.forall_mem_cons.mpr ⟨am_fd_5_57, List.forall_mem_cons.mpr ⟨am_fd_5_60, List.forall_mem_cons.mpr ⟨am_fd_5_63, List.forall_mem_cons.mpr ⟨am_fd_6_9, List.forall_mem_cons.mpr ⟨am_fd_6_16, List.forall_mem_cons.mpr ⟨am_fd_6_23, List.forall_mem_cons.mpr ⟨am_fd_6_27, List.forall_mem_cons.mpr ⟨am_fd_6_33, List.forall_mem_cons.mpr ⟨am_fd_6_37, List.forall_mem_cons.mpr ⟨am_fd_6_40, List.forall_mem_cons.mpr ⟨am_fd_6_46, List.forall_mem_cons.mpr ⟨am_fd_6_53, List.forall_mem_cons.mpr ⟨am_fd_6_67, List.forall_mem_cons.mpr ⟨am_fd_6_75, List.forall_mem_cons.mpr ⟨am_fd_6_82, List.forall_mem_cons.mpr ⟨am_fd_6_85, List.forall_mem_cons.mpr ⟨am_fd_6_88, List.forall_mem_cons.mpr ⟨am_fd_6_95, List.forall_mem_cons.mpr ⟨am_fd_6_99, List.forall_mem_cons.mpr ⟨am_fd_6_102, List.forall_mem_cons.mpr ⟨am_fd_6_105, List.forall_mem_cons.mpr ⟨am_fd_6_108, List.forall_mem_cons.mpr ⟨am_fd_6_118, List.forall_mem_cons.mpr ⟨am_fd_6_121, List.forall_mem_cons.mpr ⟨am_fd_6_124, List.forall_mem_cons.mpr ⟨am_fd_6_127, List.forall_mem_cons.mpr ⟨am_fd_6_130, List.forall_mem_cons.mpr ⟨am_fd_6_147, List.forall_mem_cons.mpr ⟨am_fd_6_150, List.forall_mem_cons.mpr ⟨am_fd_6_156, List.forall_mem_cons.mpr ⟨am_fd_6_187, List.forall_mem_cons.mpr ⟨am_fd_6_189, List.forall_mem_cons.mpr ⟨am_fd_6_192, List.forall_mem_cons.mpr ⟨am_fd_6_212, List.forall_mem_cons.mpr ⟨am_fd_6_218, List.forall_mem_cons.mpr ⟨am_fd_6_228, List.forall_mem_cons.mpr ⟨am_fd_6_236, List.forall_mem_cons.mpr ⟨am_fd_6_265, List.forall_mem_cons.mpr ⟨am_fd_7_7, List.forall_mem_cons.mpr ⟨am_fd_7_13, List.forall_mem_cons.mpr ⟨am_fd_7_16, List.forall_mem_cons.mpr ⟨am_fd_7_19, List.forall_mem_cons.mpr ⟨am_fd_7_22, List.forall_mem_cons.mpr ⟨am_fd_7_26, List.forall_mem_cons.mpr ⟨am_fd_7_29, List.forall_mem_cons.mpr ⟨am_fd_7_32, List.forall_mem_cons.mpr ⟨am_fd_7_35, List.forall_mem_cons.mpr ⟨am_fd_7_38, List.forall_mem_cons.mpr ⟨am_fd_7_41, List.forall_mem_cons.mpr ⟨am_fd_7_44, List.forall_mem_cons.mpr ⟨am_fd_7_47, List.forall_mem_cons.mpr ⟨am_fd_7_50, List.forall_mem_cons.mpr ⟨am_fd_7_53, List.forall_mem_cons.mpr ⟨am_fd_7_56, List.forall_mem_cons.mpr ⟨am_fd_7_59, List.forall_mem_cons.mpr ⟨am_fd_7_70, List.forall_mem_cons.mpr ⟨am_fd_7_75, List.forall_mem_cons.mpr ⟨am_fd_7_78, List.forall_mem_cons.mpr ⟨am_fd_7_85, List.forall_mem_cons.mpr ⟨am_fd_7_91, List.forall_mem_cons.mpr ⟨am_fd_7_115, List.forall_mem_cons.mpr ⟨am_fd_7_118, List.forall_mem_cons.mpr ⟨am_fd_7_121, List.forall_mem_cons.mpr ⟨am_fd_7_124, List.forall_mem_cons.mpr ⟨am_fd_7_127, List.forall_mem_cons.mpr ⟨am_fd_7_130, List.forall_mem_cons.mpr ⟨am_fd_7_133, List.forall_mem_cons.mpr ⟨am_fd_7_154, List.forall_mem_cons.mpr ⟨am_fd_7_157, List.forall_mem_cons.mpr ⟨am_fd_7_160, List.forall_mem_cons.mpr ⟨am_fd_7_163, fun _ h => absurd h List.not_mem_nil⟩⟩⟩⟩⟩⟩⟩⟩⟩⟩⟩⟩⟩⟩⟩⟩⟩⟩⟩⟩⟩⟩⟩⟩⟩⟩⟩⟩⟩⟩⟩⟩⟩⟩⟩⟩⟩⟩⟩⟩⟩⟩⟩⟩⟩⟩⟩⟩⟩⟩⟩⟩⟩⟩⟩⟩⟩⟩⟩⟩⟩⟩⟩⟩⟩⟩⟩⟩⟩⟩⟩⟩⟩⟩⟩⟩⟩⟩⟩⟩⟩⟩⟩⟩⟩⟩⟩⟩⟩⟩⟩⟩⟩⟩⟩⟩⟩⟩⟩⟩⟩⟩⟩⟩⟩⟩⟩⟩⟩⟩⟩⟩⟩⟩⟩⟩⟩⟩⟩⟩⟩⟩⟩⟩⟩⟩⟩⟩⟩⟩⟩⟩⟩⟩⟩⟩⟩
theorem am_fd_ok {o i c j : Nat} (h : am_fd o i = some (c, j)) : ∃ (C : String) (T : u_T) (n : Nat), vwCl[c]? = some (C, T, n) ∧ j < n ∧ Cond.fieldLink (am_cn o) i (T j).1 (T j).2.1 (T j).2.2.1 ∈ lw_g := by
  unfold am_fd at h
  obtain ⟨q, hq, he⟩ := Option.map_eq_some_iff.mp h
  have h1 := List.find?_some hq
  have h2 := am_fdl_ok q (List.mem_of_find?_eq_some hq)
  simp only [Bool.and_eq_true] at h1
  have e1 := Nat.eq_of_beq_eq_true h1.1
  have e2 := Nat.eq_of_beq_eq_true h1.2
  unfold am_fdP at h2
  rw [e1, e2] at h2
  cases he
  exact h2
def am_mok (M : Nat) : Prop := Cond.code (am_y M) (am_b M) (am_l M) (am_rt M) ∈ lw_g ∧ Cond.initialized (am_y M).cls ∈ lw_g ∧ (am_y M).cls = am_cn (am_ow M) ∧ ((am_y M).cls ≠ "java/lang/invoke/MethodHandle" ∧ (am_y M).cls ≠ "java/lang/invoke/VarHandle" ∧ (parseMethodDescriptor (am_y M).desc).map (fun d => d.parameters.length) = some (am_np M)) ∧ plainName (am_y M).cls = true
theorem am_m_0 : am_mok 0 := ⟨am_gw 484 (by decide +kernel) (by decide +kernel), am_gw 44 (by decide +kernel) (by decide +kernel), rfl, ⟨by decide +kernel, by decide +kernel, by decide +kernel⟩, by decide +kernel⟩
theorem am_m_1 : am_mok 1 := ⟨am_gw 494 (by decide +kernel) (by decide +kernel), am_gw 44 (by decide +kernel) (by decide +kernel), rfl, ⟨by decide +kernel, by decide +kernel, by decide +kernel⟩, by decide +kernel⟩
theorem am_m_2 : am_mok 2 := ⟨am_gw 498 (by decide +kernel) (by decide +kernel), am_gw 44 (by decide +kernel) (by decide +kernel), rfl, ⟨by decide +kernel, by decide +kernel, by decide +kernel⟩, by decide +kernel⟩
theorem am_m_3 : am_mok 3 := ⟨am_gw 510 (by decide +kernel) (by decide +kernel), am_gw 44 (by decide +kernel) (by decide +kernel), rfl, ⟨by decide +kernel, by decide +kernel, by decide +kernel⟩, by decide +kernel⟩
theorem am_m_4 : am_mok 4 := ⟨am_gw 579 (by decide +kernel) (by decide +kernel), am_gw 43 (by decide +kernel) (by decide +kernel), rfl, ⟨by decide +kernel, by decide +kernel, by decide +kernel⟩, by decide +kernel⟩
theorem am_m_5 : am_mok 5 := ⟨am_gw 286 (by decide +kernel) (by decide +kernel), am_gw 40 (by decide +kernel) (by decide +kernel), rfl, ⟨by decide +kernel, by decide +kernel, by decide +kernel⟩, by decide +kernel⟩
theorem am_m_6 : am_mok 6 := ⟨am_gw 595 (by decide +kernel) (by decide +kernel), am_gw 40 (by decide +kernel) (by decide +kernel), rfl, ⟨by decide +kernel, by decide +kernel, by decide +kernel⟩, by decide +kernel⟩
theorem am_m_7 : am_mok 7 := ⟨am_gw 403 (by decide +kernel) (by decide +kernel), am_gw 40 (by decide +kernel) (by decide +kernel), rfl, ⟨by decide +kernel, by decide +kernel, by decide +kernel⟩, by decide +kernel⟩
theorem am_m_8 : am_mok 8 := ⟨am_gw 408 (by decide +kernel) (by decide +kernel), am_gw 40 (by decide +kernel) (by decide +kernel), rfl, ⟨by decide +kernel, by decide +kernel, by decide +kernel⟩, by decide +kernel⟩
theorem am_m_9 : am_mok 9 := ⟨am_gw 290 (by decide +kernel) (by decide +kernel), am_gw 40 (by decide +kernel) (by decide +kernel), rfl, ⟨by decide +kernel, by decide +kernel, by decide +kernel⟩, by decide +kernel⟩
theorem am_m_10 : am_mok 10 := ⟨am_gw 412 (by decide +kernel) (by decide +kernel), am_gw 40 (by decide +kernel) (by decide +kernel), rfl, ⟨by decide +kernel, by decide +kernel, by decide +kernel⟩, by decide +kernel⟩
theorem am_m_11 : am_mok 11 := ⟨am_gw 416 (by decide +kernel) (by decide +kernel), am_gw 40 (by decide +kernel) (by decide +kernel), rfl, ⟨by decide +kernel, by decide +kernel, by decide +kernel⟩, by decide +kernel⟩
theorem am_m_12 : am_mok 12 := ⟨am_gw 420 (by decide +kernel) (by decide +kernel), am_gw 40 (by decide +kernel) (by decide +kernel), rfl, ⟨by decide +kernel, by decide +kernel, by decide +kernel⟩, by decide +kernel⟩
theorem am_m_13 : am_mok 13 := ⟨am_gw 424 (by decide +kernel) (by decide +kernel), am_gw 40 (by decide +kernel) (by decide +kernel), rfl, ⟨by decide +kernel, by decide +kernel, by decide +kernel⟩, by decide +kernel⟩
theorem am_m_14 : am_mok 14 := ⟨am_gw 297 (by decide +kernel) (by decide +kernel), am_gw 40 (by decide +kernel) (by decide +kernel), rfl, ⟨by decide +kernel, by decide +kernel, by decide +kernel⟩, by decide +kernel⟩
theorem am_m_15 : am_mok 15 := ⟨am_gw 468 (by decide +kernel) (by decide +kernel), am_gw 40 (by decide +kernel) (by decide +kernel), rfl, ⟨by decide +kernel, by decide +kernel, by decide +kernel⟩, by decide +kernel⟩
theorem am_m_16 : am_mok 16 := ⟨am_gw 472 (by decide +kernel) (by decide +kernel), am_gw 40 (by decide +kernel) (by decide +kernel), rfl, ⟨by decide +kernel, by decide +kernel, by decide +kernel⟩, by decide +kernel⟩
theorem am_m_17 : am_mok 17 := ⟨am_gw 489 (by decide +kernel) (by decide +kernel), am_gw 40 (by decide +kernel) (by decide +kernel), rfl, ⟨by decide +kernel, by decide +kernel, by decide +kernel⟩, by decide +kernel⟩
theorem am_m_18 : am_mok 18 := ⟨am_gw 377 (by decide +kernel) (by decide +kernel), am_gw 39 (by decide +kernel) (by decide +kernel), rfl, ⟨by decide +kernel, by decide +kernel, by decide +kernel⟩, by decide +kernel⟩
theorem am_m_19 : am_mok 19 := ⟨am_gw 388 (by decide +kernel) (by decide +kernel), am_gw 39 (by decide +kernel) (by decide +kernel), rfl, ⟨by decide +kernel, by decide +kernel, by decide +kernel⟩, by decide +kernel⟩
theorem am_m_20 : am_mok 20 := ⟨am_gw 385 (by decide +kernel) (by decide +kernel), am_gw 39 (by decide +kernel) (by decide +kernel), rfl, ⟨by decide +kernel, by decide +kernel, by decide +kernel⟩, by decide +kernel⟩
theorem am_m_21 : am_mok 21 := ⟨am_gw 392 (by decide +kernel) (by decide +kernel), am_gw 39 (by decide +kernel) (by decide +kernel), rfl, ⟨by decide +kernel, by decide +kernel, by decide +kernel⟩, by decide +kernel⟩
theorem am_m_22 : am_mok 22 := ⟨am_gw 396 (by decide +kernel) (by decide +kernel), am_gw 39 (by decide +kernel) (by decide +kernel), rfl, ⟨by decide +kernel, by decide +kernel, by decide +kernel⟩, by decide +kernel⟩
theorem am_m_23 : am_mok 23 := ⟨am_gw 399 (by decide +kernel) (by decide +kernel), am_gw 39 (by decide +kernel) (by decide +kernel), rfl, ⟨by decide +kernel, by decide +kernel, by decide +kernel⟩, by decide +kernel⟩
theorem am_m_24 : am_mok 24 := ⟨am_gw 324 (by decide +kernel) (by decide +kernel), am_gw 42 (by decide +kernel) (by decide +kernel), rfl, ⟨by decide +kernel, by decide +kernel, by decide +kernel⟩, by decide +kernel⟩
theorem am_m_25 : am_mok 25 := ⟨am_gw 639 (by decide +kernel) (by decide +kernel), am_gw 42 (by decide +kernel) (by decide +kernel), rfl, ⟨by decide +kernel, by decide +kernel, by decide +kernel⟩, by decide +kernel⟩
theorem am_m_26 : am_mok 26 := ⟨am_gw 518 (by decide +kernel) (by decide +kernel), am_gw 42 (by decide +kernel) (by decide +kernel), rfl, ⟨by decide +kernel, by decide +kernel, by decide +kernel⟩, by decide +kernel⟩
theorem am_m_27 : am_mok 27 := ⟨am_gw 521 (by decide +kernel) (by decide +kernel), am_gw 42 (by decide +kernel) (by decide +kernel), rfl, ⟨by decide +kernel, by decide +kernel, by decide +kernel⟩, by decide +kernel⟩
theorem am_m_28 : am_mok 28 := ⟨am_gw 525 (by decide +kernel) (by decide +kernel), am_gw 42 (by decide +kernel) (by decide +kernel), rfl, ⟨by decide +kernel, by decide +kernel, by decide +kernel⟩, by decide +kernel⟩
theorem am_m_29 : am_mok 29 := ⟨am_gw 301 (by decide +kernel) (by decide +kernel), am_gw 41 (by decide +kernel) (by decide +kernel), rfl, ⟨by decide +kernel, by decide +kernel, by decide +kernel⟩, by decide +kernel⟩
theorem am_m_30 : am_mok 30 := ⟨am_gw 309 (by decide +kernel) (by decide +kernel), am_gw 41 (by decide +kernel) (by decide +kernel), rfl, ⟨by decide +kernel, by decide +kernel, by decide +kernel⟩, by decide +kernel⟩
theorem am_m_31 : am_mok 31 := ⟨am_gw 305 (by decide +kernel) (by decide +kernel), am_gw 41 (by decide +kernel) (by decide +kernel), rfl, ⟨by decide +kernel, by decide +kernel, by decide +kernel⟩, by decide +kernel⟩
theorem am_m_32 : am_mok 32 := ⟨am_gw 313 (by decide +kernel) (by decide +kernel), am_gw 41 (by decide +kernel) (by decide +kernel), rfl, ⟨by decide +kernel, by decide +kernel, by decide +kernel⟩, by decide +kernel⟩
theorem am_m_33 : am_mok 33 := ⟨am_gw 316 (by decide +kernel) (by decide +kernel), am_gw 41 (by decide +kernel) (by decide +kernel), rfl, ⟨by decide +kernel, by decide +kernel, by decide +kernel⟩, by decide +kernel⟩
theorem am_m_34 : am_mok 34 := ⟨am_gw 320 (by decide +kernel) (by decide +kernel), am_gw 41 (by decide +kernel) (by decide +kernel), rfl, ⟨by decide +kernel, by decide +kernel, by decide +kernel⟩, by decide +kernel⟩
theorem am_m_35 : am_mok 35 := ⟨am_gw 365 (by decide +kernel) (by decide +kernel), am_gw 38 (by decide +kernel) (by decide +kernel), rfl, ⟨by decide +kernel, by decide +kernel, by decide +kernel⟩, by decide +kernel⟩
theorem am_m_36 : am_mok 36 := ⟨am_gw 369 (by decide +kernel) (by decide +kernel), am_gw 38 (by decide +kernel) (by decide +kernel), rfl, ⟨by decide +kernel, by decide +kernel, by decide +kernel⟩, by decide +kernel⟩
theorem am_m_37 : am_mok 37 := ⟨am_gw 373 (by decide +kernel) (by decide +kernel), am_gw 38 (by decide +kernel) (by decide +kernel), rfl, ⟨by decide +kernel, by decide +kernel, by decide +kernel⟩, by decide +kernel⟩
theorem am_m_38 : am_mok 38 := ⟨am_gw 428 (by decide +kernel) (by decide +kernel), am_gw 38 (by decide +kernel) (by decide +kernel), rfl, ⟨by decide +kernel, by decide +kernel, by decide +kernel⟩, by decide +kernel⟩
theorem am_m_39 : am_mok 39 := ⟨am_gw 432 (by decide +kernel) (by decide +kernel), am_gw 38 (by decide +kernel) (by decide +kernel), rfl, ⟨by decide +kernel, by decide +kernel, by decide +kernel⟩, by decide +kernel⟩
theorem am_m_40 : am_mok 40 := ⟨am_gw 443 (by decide +kernel) (by decide +kernel), am_gw 38 (by decide +kernel) (by decide +kernel), rfl, ⟨by decide +kernel, by decide +kernel, by decide +kernel⟩, by decide +kernel⟩
theorem am_m_41 : am_mok 41 := ⟨am_gw 451 (by decide +kernel) (by decide +kernel), am_gw 38 (by decide +kernel) (by decide +kernel), rfl, ⟨by decide +kernel, by decide +kernel, by decide +kernel⟩, by decide +kernel⟩
theorem am_m_42 : am_mok 42 := ⟨am_gw 456 (by decide +kernel) (by decide +kernel), am_gw 38 (by decide +kernel) (by decide +kernel), rfl, ⟨by decide +kernel, by decide +kernel, by decide +kernel⟩, by decide +kernel⟩
theorem am_m_43 : am_mok 43 := ⟨am_gw 460 (by decide +kernel) (by decide +kernel), am_gw 38 (by decide +kernel) (by decide +kernel), rfl, ⟨by decide +kernel, by decide +kernel, by decide +kernel⟩, by decide +kernel⟩
theorem am_m_44 : am_mok 44 := ⟨am_gw 476 (by decide +kernel) (by decide +kernel), am_gw 38 (by decide +kernel) (by decide +kernel), rfl, ⟨by decide +kernel, by decide +kernel, by decide +kernel⟩, by decide +kernel⟩
theorem am_m_45 : am_mok 45 := ⟨am_gw 502 (by decide +kernel) (by decide +kernel), am_gw 38 (by decide +kernel) (by decide +kernel), rfl, ⟨by decide +kernel, by decide +kernel, by decide +kernel⟩, by decide +kernel⟩
theorem am_m_46 : am_mok 46 := ⟨am_gw 506 (by decide +kernel) (by decide +kernel), am_gw 38 (by decide +kernel) (by decide +kernel), rfl, ⟨by decide +kernel, by decide +kernel, by decide +kernel⟩, by decide +kernel⟩
theorem am_m_47 : am_mok 47 := ⟨am_gw 514 (by decide +kernel) (by decide +kernel), am_gw 38 (by decide +kernel) (by decide +kernel), rfl, ⟨by decide +kernel, by decide +kernel, by decide +kernel⟩, by decide +kernel⟩
theorem am_m_48 : am_mok 48 := ⟨am_gw 529 (by decide +kernel) (by decide +kernel), am_gw 38 (by decide +kernel) (by decide +kernel), rfl, ⟨by decide +kernel, by decide +kernel, by decide +kernel⟩, by decide +kernel⟩
theorem am_m_49 : am_mok 49 := ⟨am_gw 546 (by decide +kernel) (by decide +kernel), am_gw 38 (by decide +kernel) (by decide +kernel), rfl, ⟨by decide +kernel, by decide +kernel, by decide +kernel⟩, by decide +kernel⟩
theorem am_m_50 : am_mok 50 := ⟨am_gw 564 (by decide +kernel) (by decide +kernel), am_gw 38 (by decide +kernel) (by decide +kernel), rfl, ⟨by decide +kernel, by decide +kernel, by decide +kernel⟩, by decide +kernel⟩
theorem am_m_51 : am_mok 51 := ⟨am_gw 575 (by decide +kernel) (by decide +kernel), am_gw 38 (by decide +kernel) (by decide +kernel), rfl, ⟨by decide +kernel, by decide +kernel, by decide +kernel⟩, by decide +kernel⟩
theorem am_m_52 : am_mok 52 := ⟨am_gw 583 (by decide +kernel) (by decide +kernel), am_gw 38 (by decide +kernel) (by decide +kernel), rfl, ⟨by decide +kernel, by decide +kernel, by decide +kernel⟩, by decide +kernel⟩
theorem am_m_53 : am_mok 53 := ⟨am_gw 587 (by decide +kernel) (by decide +kernel), am_gw 38 (by decide +kernel) (by decide +kernel), rfl, ⟨by decide +kernel, by decide +kernel, by decide +kernel⟩, by decide +kernel⟩
theorem am_m_54 : am_mok 54 := ⟨am_gw 591 (by decide +kernel) (by decide +kernel), am_gw 38 (by decide +kernel) (by decide +kernel), rfl, ⟨by decide +kernel, by decide +kernel, by decide +kernel⟩, by decide +kernel⟩
theorem am_m_55 : am_mok 55 := ⟨am_gw 612 (by decide +kernel) (by decide +kernel), am_gw 38 (by decide +kernel) (by decide +kernel), rfl, ⟨by decide +kernel, by decide +kernel, by decide +kernel⟩, by decide +kernel⟩
theorem am_m_56 : am_mok 56 := ⟨am_gw 616 (by decide +kernel) (by decide +kernel), am_gw 38 (by decide +kernel) (by decide +kernel), rfl, ⟨by decide +kernel, by decide +kernel, by decide +kernel⟩, by decide +kernel⟩
theorem am_m_57 : am_mok 57 := ⟨am_gw 631 (by decide +kernel) (by decide +kernel), am_gw 38 (by decide +kernel) (by decide +kernel), rfl, ⟨by decide +kernel, by decide +kernel, by decide +kernel⟩, by decide +kernel⟩
theorem am_m_58 : am_mok 58 := ⟨am_gw 644 (by decide +kernel) (by decide +kernel), am_gw 38 (by decide +kernel) (by decide +kernel), rfl, ⟨by decide +kernel, by decide +kernel, by decide +kernel⟩, by decide +kernel⟩
theorem am_m_59 : am_mok 59 := ⟨am_gw 648 (by decide +kernel) (by decide +kernel), am_gw 38 (by decide +kernel) (by decide +kernel), rfl, ⟨by decide +kernel, by decide +kernel, by decide +kernel⟩, by decide +kernel⟩
theorem am_m_60 : am_mok 60 := ⟨am_gw 436 (by decide +kernel) (by decide +kernel), am_gw 38 (by decide +kernel) (by decide +kernel), rfl, ⟨by decide +kernel, by decide +kernel, by decide +kernel⟩, by decide +kernel⟩
theorem am_m_61 : am_mok 61 := ⟨am_gw 447 (by decide +kernel) (by decide +kernel), am_gw 38 (by decide +kernel) (by decide +kernel), rfl, ⟨by decide +kernel, by decide +kernel, by decide +kernel⟩, by decide +kernel⟩
theorem am_m_62 : am_mok 62 := ⟨am_gw 463 (by decide +kernel) (by decide +kernel), am_gw 38 (by decide +kernel) (by decide +kernel), rfl, ⟨by decide +kernel, by decide +kernel, by decide +kernel⟩, by decide +kernel⟩
theorem am_m_63 : am_mok 63 := ⟨am_gw 567 (by decide +kernel) (by decide +kernel), am_gw 38 (by decide +kernel) (by decide +kernel), rfl, ⟨by decide +kernel, by decide +kernel, by decide +kernel⟩, by decide +kernel⟩
theorem am_m_64 : am_mok 64 := ⟨am_gw 439 (by decide +kernel) (by decide +kernel), am_gw 38 (by decide +kernel) (by decide +kernel), rfl, ⟨by decide +kernel, by decide +kernel, by decide +kernel⟩, by decide +kernel⟩
theorem am_m_65 : am_mok 65 := ⟨am_gw 293 (by decide +kernel) (by decide +kernel), am_gw 38 (by decide +kernel) (by decide +kernel), rfl, ⟨by decide +kernel, by decide +kernel, by decide +kernel⟩, by decide +kernel⟩
theorem am_m_66 : am_mok 66 := ⟨am_gw 635 (by decide +kernel) (by decide +kernel), am_gw 38 (by decide +kernel) (by decide +kernel), rfl, ⟨by decide +kernel, by decide +kernel, by decide +kernel⟩, by decide +kernel⟩
theorem am_m_67 : am_mok 67 := ⟨am_gw 480 (by decide +kernel) (by decide +kernel), am_gw 38 (by decide +kernel) (by decide +kernel), rfl, ⟨by decide +kernel, by decide +kernel, by decide +kernel⟩, by decide +kernel⟩
theorem am_m_68 : am_mok 68 := ⟨am_gw 571 (by decide +kernel) (by decide +kernel), am_gw 38 (by decide +kernel) (by decide +kernel), rfl, ⟨by decide +kernel, by decide +kernel, by decide +kernel⟩, by decide +kernel⟩
theorem am_m_69 : am_mok 69 := ⟨am_gw 542 (by decide +kernel) (by decide +kernel), am_gw 38 (by decide +kernel) (by decide +kernel), rfl, ⟨by decide +kernel, by decide +kernel, by decide +kernel⟩, by decide +kernel⟩
theorem am_m_70 : am_mok 70 := ⟨am_gw 620 (by decide +kernel) (by decide +kernel), am_gw 38 (by decide +kernel) (by decide +kernel), rfl, ⟨by decide +kernel, by decide +kernel, by decide +kernel⟩, by decide +kernel⟩
theorem am_m_71 : am_mok 71 := ⟨am_gw 533 (by decide +kernel) (by decide +kernel), am_gw 38 (by decide +kernel) (by decide +kernel), rfl, ⟨by decide +kernel, by decide +kernel, by decide +kernel⟩, by decide +kernel⟩
theorem am_m_72 : am_mok 72 := ⟨am_gw 538 (by decide +kernel) (by decide +kernel), am_gw 38 (by decide +kernel) (by decide +kernel), rfl, ⟨by decide +kernel, by decide +kernel, by decide +kernel⟩, by decide +kernel⟩
theorem am_m_73 : am_mok 73 := ⟨am_gw 550 (by decide +kernel) (by decide +kernel), am_gw 38 (by decide +kernel) (by decide +kernel), rfl, ⟨by decide +kernel, by decide +kernel, by decide +kernel⟩, by decide +kernel⟩
theorem am_m_74 : am_mok 74 := ⟨am_gw 554 (by decide +kernel) (by decide +kernel), am_gw 38 (by decide +kernel) (by decide +kernel), rfl, ⟨by decide +kernel, by decide +kernel, by decide +kernel⟩, by decide +kernel⟩
theorem am_m_75 : am_mok 75 := ⟨am_gw 607 (by decide +kernel) (by decide +kernel), am_gw 38 (by decide +kernel) (by decide +kernel), rfl, ⟨by decide +kernel, by decide +kernel, by decide +kernel⟩, by decide +kernel⟩
theorem am_m_76 : am_mok 76 := ⟨am_gw 602 (by decide +kernel) (by decide +kernel), am_gw 38 (by decide +kernel) (by decide +kernel), rfl, ⟨by decide +kernel, by decide +kernel, by decide +kernel⟩, by decide +kernel⟩
theorem am_m_77 : am_mok 77 := ⟨am_gw 624 (by decide +kernel) (by decide +kernel), am_gw 38 (by decide +kernel) (by decide +kernel), rfl, ⟨by decide +kernel, by decide +kernel, by decide +kernel⟩, by decide +kernel⟩
theorem am_m_78 : am_mok 78 := ⟨am_gw 764 (by decide +kernel) (by decide +kernel), am_gw 46 (by decide +kernel) (by decide +kernel), rfl, ⟨by decide +kernel, by decide +kernel, by decide +kernel⟩, by decide +kernel⟩
theorem am_m_79 : am_mok 79 := ⟨am_gw 820 (by decide +kernel) (by decide +kernel), am_gw 46 (by decide +kernel) (by decide +kernel), rfl, ⟨by decide +kernel, by decide +kernel, by decide +kernel⟩, by decide +kernel⟩
theorem am_m_80 : am_mok 80 := ⟨am_gw 657 (by decide +kernel) (by decide +kernel), am_gw 46 (by decide +kernel) (by decide +kernel), rfl, ⟨by decide +kernel, by decide +kernel, by decide +kernel⟩, by decide +kernel⟩
theorem am_m_81 : am_mok 81 := ⟨am_gw 761 (by decide +kernel) (by decide +kernel), am_gw 46 (by decide +kernel) (by decide +kernel), rfl, ⟨by decide +kernel, by decide +kernel, by decide +kernel⟩, by decide +kernel⟩
theorem am_m_82 : am_mok 82 := ⟨am_gw 769 (by decide +kernel) (by decide +kernel), am_gw 46 (by decide +kernel) (by decide +kernel), rfl, ⟨by decide +kernel, by decide +kernel, by decide +kernel⟩, by decide +kernel⟩
theorem am_m_83 : am_mok 83 := ⟨am_gw 785 (by decide +kernel) (by decide +kernel), am_gw 46 (by decide +kernel) (by decide +kernel), rfl, ⟨by decide +kernel, by decide +kernel, by decide +kernel⟩, by decide +kernel⟩
theorem am_m_84 : am_mok 84 := ⟨am_gw 793 (by decide +kernel) (by decide +kernel), am_gw 46 (by decide +kernel) (by decide +kernel), rfl, ⟨by decide +kernel, by decide +kernel, by decide +kernel⟩, by decide +kernel⟩
theorem am_m_85 : am_mok 85 := ⟨am_gw 789 (by decide +kernel) (by decide +kernel), am_gw 46 (by decide +kernel) (by decide +kernel), rfl, ⟨by decide +kernel, by decide +kernel, by decide +kernel⟩, by decide +kernel⟩
theorem am_m_86 : am_mok 86 := ⟨am_gw 797 (by decide +kernel) (by decide +kernel), am_gw 46 (by decide +kernel) (by decide +kernel), rfl, ⟨by decide +kernel, by decide +kernel, by decide +kernel⟩, by decide +kernel⟩
theorem am_m_87 : am_mok 87 := ⟨am_gw 801 (by decide +kernel) (by decide +kernel), am_gw 46 (by decide +kernel) (by decide +kernel), rfl, ⟨by decide +kernel, by decide +kernel, by decide +kernel⟩, by decide +kernel⟩
theorem am_m_88 : am_mok 88 := ⟨am_gw 805 (by decide +kernel) (by decide +kernel), am_gw 46 (by decide +kernel) (by decide +kernel), rfl, ⟨by decide +kernel, by decide +kernel, by decide +kernel⟩, by decide +kernel⟩
theorem am_m_89 : am_mok 89 := ⟨am_gw 781 (by decide +kernel) (by decide +kernel), am_gw 46 (by decide +kernel) (by decide +kernel), rfl, ⟨by decide +kernel, by decide +kernel, by decide +kernel⟩, by decide +kernel⟩
theorem am_m_90 : am_mok 90 := ⟨am_gw 777 (by decide +kernel) (by decide +kernel), am_gw 46 (by decide +kernel) (by decide +kernel), rfl, ⟨by decide +kernel, by decide +kernel, by decide +kernel⟩, by decide +kernel⟩
theorem am_m_91 : am_mok 91 := ⟨am_gw 773 (by decide +kernel) (by decide +kernel), am_gw 46 (by decide +kernel) (by decide +kernel), rfl, ⟨by decide +kernel, by decide +kernel, by decide +kernel⟩, by decide +kernel⟩
theorem am_m_92 : am_mok 92 := ⟨am_gw 809 (by decide +kernel) (by decide +kernel), am_gw 46 (by decide +kernel) (by decide +kernel), rfl, ⟨by decide +kernel, by decide +kernel, by decide +kernel⟩, by decide +kernel⟩
theorem am_m_93 : am_mok 93 := ⟨am_gw 817 (by decide +kernel) (by decide +kernel), am_gw 46 (by decide +kernel) (by decide +kernel), rfl, ⟨by decide +kernel, by decide +kernel, by decide +kernel⟩, by decide +kernel⟩
theorem am_m_94 : am_mok 94 := ⟨am_gw 828 (by decide +kernel) (by decide +kernel), am_gw 46 (by decide +kernel) (by decide +kernel), rfl, ⟨by decide +kernel, by decide +kernel, by decide +kernel⟩, by decide +kernel⟩
theorem am_m_95 : am_mok 95 := ⟨am_gw 813 (by decide +kernel) (by decide +kernel), am_gw 46 (by decide +kernel) (by decide +kernel), rfl, ⟨by decide +kernel, by decide +kernel, by decide +kernel⟩, by decide +kernel⟩
theorem am_m_96 : am_mok 96 := ⟨am_gw 824 (by decide +kernel) (by decide +kernel), am_gw 46 (by decide +kernel) (by decide +kernel), rfl, ⟨by decide +kernel, by decide +kernel, by decide +kernel⟩, by decide +kernel⟩
theorem am_m_97 : am_mok 97 := ⟨am_gw 832 (by decide +kernel) (by decide +kernel), am_gw 46 (by decide +kernel) (by decide +kernel), rfl, ⟨by decide +kernel, by decide +kernel, by decide +kernel⟩, by decide +kernel⟩
theorem am_m_98 : am_mok 98 := ⟨am_gw 836 (by decide +kernel) (by decide +kernel), am_gw 46 (by decide +kernel) (by decide +kernel), rfl, ⟨by decide +kernel, by decide +kernel, by decide +kernel⟩, by decide +kernel⟩
theorem am_m_99 : am_mok 99 := ⟨am_gw 848 (by decide +kernel) (by decide +kernel), am_gw 46 (by decide +kernel) (by decide +kernel), rfl, ⟨by decide +kernel, by decide +kernel, by decide +kernel⟩, by decide +kernel⟩
theorem am_m_100 : am_mok 100 := ⟨am_gw 843 (by decide +kernel) (by decide +kernel), am_gw 46 (by decide +kernel) (by decide +kernel), rfl, ⟨by decide +kernel, by decide +kernel, by decide +kernel⟩, by decide +kernel⟩
theorem am_m_101 : am_mok 101 := ⟨am_gw 840 (by decide +kernel) (by decide +kernel), am_gw 46 (by decide +kernel) (by decide +kernel), rfl, ⟨by decide +kernel, by decide +kernel, by decide +kernel⟩, by decide +kernel⟩
theorem am_m_102 : am_mok 102 := ⟨am_gw 864 (by decide +kernel) (by decide +kernel), am_gw 46 (by decide +kernel) (by decide +kernel), rfl, ⟨by decide +kernel, by decide +kernel, by decide +kernel⟩, by decide +kernel⟩
theorem am_m_103 : am_mok 103 := ⟨am_gw 868 (by decide +kernel) (by decide +kernel), am_gw 46 (by decide +kernel) (by decide +kernel), rfl, ⟨by decide +kernel, by decide +kernel, by decide +kernel⟩, by decide +kernel⟩
theorem am_m_104 : am_mok 104 := ⟨am_gw 872 (by decide +kernel) (by decide +kernel), am_gw 46 (by decide +kernel) (by decide +kernel), rfl, ⟨by decide +kernel, by decide +kernel, by decide +kernel⟩, by decide +kernel⟩
theorem am_m_105 : am_mok 105 := ⟨am_gw 876 (by decide +kernel) (by decide +kernel), am_gw 46 (by decide +kernel) (by decide +kernel), rfl, ⟨by decide +kernel, by decide +kernel, by decide +kernel⟩, by decide +kernel⟩
theorem am_m_106 : am_mok 106 := ⟨am_gw 860 (by decide +kernel) (by decide +kernel), am_gw 46 (by decide +kernel) (by decide +kernel), rfl, ⟨by decide +kernel, by decide +kernel, by decide +kernel⟩, by decide +kernel⟩
theorem am_m_107 : am_mok 107 := ⟨am_gw 856 (by decide +kernel) (by decide +kernel), am_gw 46 (by decide +kernel) (by decide +kernel), rfl, ⟨by decide +kernel, by decide +kernel, by decide +kernel⟩, by decide +kernel⟩
theorem am_m_108 : am_mok 108 := ⟨am_gw 880 (by decide +kernel) (by decide +kernel), am_gw 46 (by decide +kernel) (by decide +kernel), rfl, ⟨by decide +kernel, by decide +kernel, by decide +kernel⟩, by decide +kernel⟩
theorem am_m_109 : am_mok 109 := ⟨am_gw 852 (by decide +kernel) (by decide +kernel), am_gw 46 (by decide +kernel) (by decide +kernel), rfl, ⟨by decide +kernel, by decide +kernel, by decide +kernel⟩, by decide +kernel⟩
theorem am_m_110 : am_mok 110 := ⟨am_gw 884 (by decide +kernel) (by decide +kernel), am_gw 46 (by decide +kernel) (by decide +kernel), rfl, ⟨by decide +kernel, by decide +kernel, by decide +kernel⟩, by decide +kernel⟩
theorem am_m_111 : am_mok 111 := ⟨am_gw 892 (by decide +kernel) (by decide +kernel), am_gw 46 (by decide +kernel) (by decide +kernel), rfl, ⟨by decide +kernel, by decide +kernel, by decide +kernel⟩, by decide +kernel⟩
theorem am_m_112 : am_mok 112 := ⟨am_gw 888 (by decide +kernel) (by decide +kernel), am_gw 46 (by decide +kernel) (by decide +kernel), rfl, ⟨by decide +kernel, by decide +kernel, by decide +kernel⟩, by decide +kernel⟩
theorem am_m_113 : am_mok 113 := ⟨am_gw 900 (by decide +kernel) (by decide +kernel), am_gw 46 (by decide +kernel) (by decide +kernel), rfl, ⟨by decide +kernel, by decide +kernel, by decide +kernel⟩, by decide +kernel⟩
theorem am_m_114 : am_mok 114 := ⟨am_gw 896 (by decide +kernel) (by decide +kernel), am_gw 46 (by decide +kernel) (by decide +kernel), rfl, ⟨by decide +kernel, by decide +kernel, by decide +kernel⟩, by decide +kernel⟩
theorem am_m_115 : am_mok 115 := ⟨am_gw 912 (by decide +kernel) (by decide +kernel), am_gw 46 (by decide +kernel) (by decide +kernel), rfl, ⟨by decide +kernel, by decide +kernel, by decide +kernel⟩, by decide +kernel⟩
theorem am_m_116 : am_mok 116 := ⟨am_gw 908 (by decide +kernel) (by decide +kernel), am_gw 46 (by decide +kernel) (by decide +kernel), rfl, ⟨by decide +kernel, by decide +kernel, by decide +kernel⟩, by decide +kernel⟩
theorem am_m_117 : am_mok 117 := ⟨am_gw 904 (by decide +kernel) (by decide +kernel), am_gw 46 (by decide +kernel) (by decide +kernel), rfl, ⟨by decide +kernel, by decide +kernel, by decide +kernel⟩, by decide +kernel⟩
theorem am_m_118 : am_mok 118 := ⟨am_gw 919 (by decide +kernel) (by decide +kernel), am_gw 46 (by decide +kernel) (by decide +kernel), rfl, ⟨by decide +kernel, by decide +kernel, by decide +kernel⟩, by decide +kernel⟩
theorem am_m_119 : am_mok 119 := ⟨am_gw 916 (by decide +kernel) (by decide +kernel), am_gw 46 (by decide +kernel) (by decide +kernel), rfl, ⟨by decide +kernel, by decide +kernel, by decide +kernel⟩, by decide +kernel⟩
theorem am_m_120 : am_mok 120 := ⟨am_gw 923 (by decide +kernel) (by decide +kernel), am_gw 46 (by decide +kernel) (by decide +kernel), rfl, ⟨by decide +kernel, by decide +kernel, by decide +kernel⟩, by decide +kernel⟩
theorem am_m_121 : am_mok 121 := ⟨am_gw 927 (by decide +kernel) (by decide +kernel), am_gw 46 (by decide +kernel) (by decide +kernel), rfl, ⟨by decide +kernel, by decide +kernel, by decide +kernel⟩, by decide +kernel⟩
theorem am_m_122 : am_mok 122 := ⟨am_gw 931 (by decide +kernel) (by decide +kernel), am_gw 46 (by decide +kernel) (by decide +kernel), rfl, ⟨by decide +kernel, by decide +kernel, by decide +kernel⟩, by decide +kernel⟩
theorem am_m_123 : am_mok 123 := ⟨am_gw 935 (by decide +kernel) (by decide +kernel), am_gw 46 (by decide +kernel) (by decide +kernel), rfl, ⟨by decide +kernel, by decide +kernel, by decide +kernel⟩, by decide +kernel⟩
theorem am_m_124 : am_mok 124 := ⟨am_gw 943 (by decide +kernel) (by decide +kernel), am_gw 46 (by decide +kernel) (by decide +kernel), rfl, ⟨by decide +kernel, by decide +kernel, by decide +kernel⟩, by decide +kernel⟩
theorem am_m_125 : am_mok 125 := ⟨am_gw 939 (by decide +kernel) (by decide +kernel), am_gw 46 (by decide +kernel) (by decide +kernel), rfl, ⟨by decide +kernel, by decide +kernel, by decide +kernel⟩, by decide +kernel⟩
theorem am_m_126 : am_mok 126 := ⟨am_gw 947 (by decide +kernel) (by decide +kernel), am_gw 46 (by decide +kernel) (by decide +kernel), rfl, ⟨by decide +kernel, by decide +kernel, by decide +kernel⟩, by decide +kernel⟩
theorem am_m_127 : am_mok 127 := ⟨am_gw 951 (by decide +kernel) (by decide +kernel), am_gw 46 (by decide +kernel) (by decide +kernel), rfl, ⟨by decide +kernel, by decide +kernel, by decide +kernel⟩, by decide +kernel⟩
theorem am_m_128 : am_mok 128 := ⟨am_gw 958 (by decide +kernel) (by decide +kernel), am_gw 46 (by decide +kernel) (by decide +kernel), rfl, ⟨by decide +kernel, by decide +kernel, by decide +kernel⟩, by decide +kernel⟩
theorem am_m_129 : am_mok 129 := ⟨am_gw 962 (by decide +kernel) (by decide +kernel), am_gw 46 (by decide +kernel) (by decide +kernel), rfl, ⟨by decide +kernel, by decide +kernel, by decide +kernel⟩, by decide +kernel⟩
theorem am_m_130 : am_mok 130 := ⟨am_gw 966 (by decide +kernel) (by decide +kernel), am_gw 46 (by decide +kernel) (by decide +kernel), rfl, ⟨by decide +kernel, by decide +kernel, by decide +kernel⟩, by decide +kernel⟩
theorem am_m_131 : am_mok 131 := ⟨am_gw 557 (by decide +kernel) (by decide +kernel), am_gw 48 (by decide +kernel) (by decide +kernel), rfl, ⟨by decide +kernel, by decide +kernel, by decide +kernel⟩, by decide +kernel⟩
theorem am_m_132 : am_mok 132 := ⟨am_gw 327 (by decide +kernel) (by decide +kernel), am_gw 45 (by decide +kernel) (by decide +kernel), rfl, ⟨by decide +kernel, by decide +kernel, by decide +kernel⟩, by decide +kernel⟩
def am_cvP (q : Nat × Nat × Nat × Nat × Nat × Nat × Nat × Nat) : Prop := Cond.methodLink (am_cn q.1) q.2.1 (am_y q.2.2.1) ∈ lw_g ∧ Cond.instanceMethod (am_y q.2.2.1) ∈ lw_g ∧ Cond.selects (am_cn (am_ow q.2.2.1)) (am_y q.2.2.1) (am_y q.2.2.1) ∈ lw_g ∧ am_mok q.2.2.1 ∧ ∃ (T : u_T) (n : Nat), vwCl[am_ow q.2.2.1]? = some (am_cn (am_ow q.2.2.1), T, n)
theorem am_cv_0_53 : am_cvP (0, 53, 17, 486, 487, 488, 40, 489) := ⟨am_gw 486 (by decide +kernel) (by decide +kernel), am_gw 487 (by decide +kernel) (by decide +kernel), am_gw 488 (by decide +kernel) (by decide +kernel), am_m_17, TX2, 18, rfl⟩
theorem am_cv_0_63 : am_cvP (0, 63, 1, 491, 492, 493, 44, 494) := ⟨am_gw 491 (by decide +kernel) (by decide +kernel), am_gw 492 (by decide +kernel) (by decide +kernel), am_gw 493 (by decide +kernel) (by decide +kernel), am_m_1, TX0, 5, rfl⟩
theorem am_cv_0_69 : am_cvP (0, 69, 2, 495, 496, 497, 44, 498) := ⟨am_gw 495 (by decide +kernel) (by decide +kernel), am_gw 496 (by decide +kernel) (by decide +kernel), am_gw 497 (by decide +kernel) (by decide +kernel), am_m_2, TX0, 5, rfl⟩
theorem am_cv_2_77 : am_cvP (2, 77, 9, 404, 288, 289, 40, 290) := ⟨am_gw 404 (by decide +kernel) (by decide +kernel), am_gw 288 (by decide +kernel) (by decide +kernel), am_gw 289 (by decide +kernel) (by decide +kernel), am_m_9, TX2, 18, rfl⟩
theorem am_cv_2_81 : am_cvP (2, 81, 8, 405, 406, 407, 40, 408) := ⟨am_gw 405 (by decide +kernel) (by decide +kernel), am_gw 406 (by decide +kernel) (by decide +kernel), am_gw 407 (by decide +kernel) (by decide +kernel), am_m_8, TX2, 18, rfl⟩
theorem am_cv_2_85 : am_cvP (2, 85, 10, 409, 410, 411, 40, 412) := ⟨am_gw 409 (by decide +kernel) (by decide +kernel), am_gw 410 (by decide +kernel) (by decide +kernel), am_gw 411 (by decide +kernel) (by decide +kernel), am_m_10, TX2, 18, rfl⟩
theorem am_cv_2_89 : am_cvP (2, 89, 12, 417, 418, 419, 40, 420) := ⟨am_gw 417 (by decide +kernel) (by decide +kernel), am_gw 418 (by decide +kernel) (by decide +kernel), am_gw 419 (by decide +kernel) (by decide +kernel), am_m_12, TX2, 18, rfl⟩
theorem am_cv_2_92 : am_cvP (2, 92, 13, 421, 422, 423, 40, 424) := ⟨am_gw 421 (by decide +kernel) (by decide +kernel), am_gw 422 (by decide +kernel) (by decide +kernel), am_gw 423 (by decide +kernel) (by decide +kernel), am_m_13, TX2, 18, rfl⟩
theorem am_cv_2_99 : am_cvP (2, 99, 11, 413, 414, 415, 40, 416) := ⟨am_gw 413 (by decide +kernel) (by decide +kernel), am_gw 414 (by decide +kernel) (by decide +kernel), am_gw 415 (by decide +kernel) (by decide +kernel), am_m_11, TX2, 18, rfl⟩
theorem am_cv_2_103 : am_cvP (2, 103, 29, 298, 299, 300, 41, 301) := ⟨am_gw 298 (by decide +kernel) (by decide +kernel), am_gw 299 (by decide +kernel) (by decide +kernel), am_gw 300 (by decide +kernel) (by decide +kernel), am_m_29, TX5, 7, rfl⟩
theorem am_cv_2_107 : am_cvP (2, 107, 16, 469, 470, 471, 40, 472) := ⟨am_gw 469 (by decide +kernel) (by decide +kernel), am_gw 470 (by decide +kernel) (by decide +kernel), am_gw 471 (by decide +kernel) (by decide +kernel), am_m_16, TX2, 18, rfl⟩
theorem am_cv_3_32 : am_cvP (3, 32, 5, 381, 284, 285, 40, 286) := ⟨am_gw 381 (by decide +kernel) (by decide +kernel), am_gw 284 (by decide +kernel) (by decide +kernel), am_gw 285 (by decide +kernel) (by decide +kernel), am_m_5, TX2, 18, rfl⟩
theorem am_cv_3_37 : am_cvP (3, 37, 20, 382, 383, 384, 39, 385) := ⟨am_gw 382 (by decide +kernel) (by decide +kernel), am_gw 383 (by decide +kernel) (by decide +kernel), am_gw 384 (by decide +kernel) (by decide +kernel), am_m_20, TX3, 4, rfl⟩
theorem am_cv_3_45 : am_cvP (3, 45, 21, 389, 390, 391, 39, 392) := ⟨am_gw 389 (by decide +kernel) (by decide +kernel), am_gw 390 (by decide +kernel) (by decide +kernel), am_gw 391 (by decide +kernel) (by decide +kernel), am_m_21, TX3, 4, rfl⟩
theorem am_cv_3_49 : am_cvP (3, 49, 7, 400, 401, 402, 40, 403) := ⟨am_gw 400 (by decide +kernel) (by decide +kernel), am_gw 401 (by decide +kernel) (by decide +kernel), am_gw 402 (by decide +kernel) (by decide +kernel), am_m_7, TX2, 18, rfl⟩
theorem am_cv_3_53 : am_cvP (3, 53, 22, 393, 394, 395, 39, 396) := ⟨am_gw 393 (by decide +kernel) (by decide +kernel), am_gw 394 (by decide +kernel) (by decide +kernel), am_gw 395 (by decide +kernel) (by decide +kernel), am_m_22, TX3, 4, rfl⟩
theorem am_cv_5_43 : am_cvP (5, 43, 31, 302, 303, 304, 41, 305) := ⟨am_gw 302 (by decide +kernel) (by decide +kernel), am_gw 303 (by decide +kernel) (by decide +kernel), am_gw 304 (by decide +kernel) (by decide +kernel), am_m_31, TX5, 7, rfl⟩
theorem am_cv_5_47 : am_cvP (5, 47, 30, 306, 307, 308, 41, 309) := ⟨am_gw 306 (by decide +kernel) (by decide +kernel), am_gw 307 (by decide +kernel) (by decide +kernel), am_gw 308 (by decide +kernel) (by decide +kernel), am_m_30, TX5, 7, rfl⟩
theorem am_cv_5_50 : am_cvP (5, 50, 32, 310, 311, 312, 41, 313) := ⟨am_gw 310 (by decide +kernel) (by decide +kernel), am_gw 311 (by decide +kernel) (by decide +kernel), am_gw 312 (by decide +kernel) (by decide +kernel), am_m_32, TX5, 7, rfl⟩
theorem am_cv_5_54 : am_cvP (5, 54, 34, 317, 318, 319, 41, 320) := ⟨am_gw 317 (by decide +kernel) (by decide +kernel), am_gw 318 (by decide +kernel) (by decide +kernel), am_gw 319 (by decide +kernel) (by decide +kernel), am_m_34, TX5, 7, rfl⟩
theorem am_cv_6_64 : am_cvP (6, 64, 14, 294, 295, 296, 40, 297) := ⟨am_gw 294 (by decide +kernel) (by decide +kernel), am_gw 295 (by decide +kernel) (by decide +kernel), am_gw 296 (by decide +kernel) (by decide +kernel), am_m_14, TX2, 18, rfl⟩
theorem am_cv_6_71 : am_cvP (6, 71, 24, 321, 322, 323, 42, 324) := ⟨am_gw 321 (by decide +kernel) (by decide +kernel), am_gw 322 (by decide +kernel) (by decide +kernel), am_gw 323 (by decide +kernel) (by decide +kernel), am_m_24, TX4, 5, rfl⟩
theorem am_cv_6_78 : am_cvP (6, 78, 18, 374, 375, 376, 39, 377) := ⟨am_gw 374 (by decide +kernel) (by decide +kernel), am_gw 375 (by decide +kernel) (by decide +kernel), am_gw 376 (by decide +kernel) (by decide +kernel), am_m_18, TX3, 4, rfl⟩
theorem am_cv_6_91 : am_cvP (6, 91, 60, 433, 435, 0, 38, 436) := ⟨am_gw 433 (by decide +kernel) (by decide +kernel), am_gw 435 (by decide +kernel) (by decide +kernel), am_gw 0 (by decide +kernel) (by decide +kernel), am_m_60, TX6, 11, rfl⟩
theorem am_cv_6_115 : am_cvP (6, 115, 61, 444, 446, 1, 38, 447) := ⟨am_gw 444 (by decide +kernel) (by decide +kernel), am_gw 446 (by decide +kernel) (by decide +kernel), am_gw 1 (by decide +kernel) (by decide +kernel), am_m_61, TX6, 11, rfl⟩
theorem am_cv_6_140 : am_cvP (6, 140, 15, 465, 466, 467, 40, 468) := ⟨am_gw 465 (by decide +kernel) (by decide +kernel), am_gw 466 (by decide +kernel) (by decide +kernel), am_gw 467 (by decide +kernel) (by decide +kernel), am_m_15, TX2, 18, rfl⟩
theorem am_cv_6_144 : am_cvP (6, 144, 67, 477, 479, 2, 38, 480) := ⟨am_gw 477 (by decide +kernel) (by decide +kernel), am_gw 479 (by decide +kernel) (by decide +kernel), am_gw 2 (by decide +kernel) (by decide +kernel), am_m_67, TX6, 11, rfl⟩
theorem am_cv_6_153 : am_cvP (6, 153, 3, 507, 508, 509, 44, 510) := ⟨am_gw 507 (by decide +kernel) (by decide +kernel), am_gw 508 (by decide +kernel) (by decide +kernel), am_gw 509 (by decide +kernel) (by decide +kernel), am_m_3, TX0, 5, rfl⟩
theorem am_cv_6_159 : am_cvP (6, 159, 26, 515, 516, 517, 42, 518) := ⟨am_gw 515 (by decide +kernel) (by decide +kernel), am_gw 516 (by decide +kernel) (by decide +kernel), am_gw 517 (by decide +kernel) (by decide +kernel), am_m_26, TX4, 5, rfl⟩
theorem am_cv_6_163 : am_cvP (6, 163, 28, 522, 523, 524, 42, 525) := ⟨am_gw 522 (by decide +kernel) (by decide +kernel), am_gw 523 (by decide +kernel) (by decide +kernel), am_gw 524 (by decide +kernel) (by decide +kernel), am_m_28, TX4, 5, rfl⟩
theorem am_cv_6_166 : am_cvP (6, 166, 71, 530, 532, 3, 38, 533) := ⟨am_gw 530 (by decide +kernel) (by decide +kernel), am_gw 532 (by decide +kernel) (by decide +kernel), am_gw 3 (by decide +kernel) (by decide +kernel), am_m_71, TX6, 11, rfl⟩
theorem am_cv_6_169 : am_cvP (6, 169, 73, 547, 549, 6, 38, 550) := ⟨am_gw 547 (by decide +kernel) (by decide +kernel), am_gw 549 (by decide +kernel) (by decide +kernel), am_gw 6 (by decide +kernel) (by decide +kernel), am_m_73, TX6, 11, rfl⟩
theorem am_cv_6_173 : am_cvP (6, 173, 74, 551, 553, 7, 38, 554) := ⟨am_gw 551 (by decide +kernel) (by decide +kernel), am_gw 553 (by decide +kernel) (by decide +kernel), am_gw 7 (by decide +kernel) (by decide +kernel), am_m_74, TX6, 11, rfl⟩
theorem am_cv_6_179 : am_cvP (6, 179, 68, 568, 570, 8, 38, 571) := ⟨am_gw 568 (by decide +kernel) (by decide +kernel), am_gw 570 (by decide +kernel) (by decide +kernel), am_gw 8 (by decide +kernel) (by decide +kernel), am_m_68, TX6, 11, rfl⟩
theorem am_cv_6_183 : am_cvP (6, 183, 4, 576, 577, 578, 43, 579) := ⟨am_gw 576 (by decide +kernel) (by decide +kernel), am_gw 577 (by decide +kernel) (by decide +kernel), am_gw 578 (by decide +kernel) (by decide +kernel), am_m_4, TX1, 4, rfl⟩
theorem am_cv_6_195 : am_cvP (6, 195, 6, 592, 593, 594, 40, 595) := ⟨am_gw 592 (by decide +kernel) (by decide +kernel), am_gw 593 (by decide +kernel) (by decide +kernel), am_gw 594 (by decide +kernel) (by decide +kernel), am_m_6, TX2, 18, rfl⟩
theorem am_cv_6_199 : am_cvP (6, 199, 76, 599, 601, 9, 38, 602) := ⟨am_gw 599 (by decide +kernel) (by decide +kernel), am_gw 601 (by decide +kernel) (by decide +kernel), am_gw 9 (by decide +kernel) (by decide +kernel), am_m_76, TX6, 11, rfl⟩
theorem am_cv_6_202 : am_cvP (6, 202, 75, 604, 606, 10, 38, 607) := ⟨am_gw 604 (by decide +kernel) (by decide +kernel), am_gw 606 (by decide +kernel) (by decide +kernel), am_gw 10 (by decide +kernel) (by decide +kernel), am_m_75, TX6, 11, rfl⟩
theorem am_cv_6_206 : am_cvP (6, 206, 70, 617, 619, 11, 38, 620) := ⟨am_gw 617 (by decide +kernel) (by decide +kernel), am_gw 619 (by decide +kernel) (by decide +kernel), am_gw 11 (by decide +kernel) (by decide +kernel), am_m_70, TX6, 11, rfl⟩
theorem am_cv_6_209 : am_cvP (6, 209, 77, 621, 623, 12, 38, 624) := ⟨am_gw 621 (by decide +kernel) (by decide +kernel), am_gw 623 (by decide +kernel) (by decide +kernel), am_gw 12 (by decide +kernel) (by decide +kernel), am_m_77, TX6, 11, rfl⟩
theorem am_cv_6_215 : am_cvP (6, 215, 16, 534, 470, 471, 40, 472) := ⟨am_gw 534 (by decide +kernel) (by decide +kernel), am_gw 470 (by decide +kernel) (by decide +kernel), am_gw 471 (by decide +kernel) (by decide +kernel), am_m_16, TX2, 18, rfl⟩
theorem am_cv_6_221 : am_cvP (6, 221, 66, 632, 634, 13, 38, 635) := ⟨am_gw 632 (by decide +kernel) (by decide +kernel), am_gw 634 (by decide +kernel) (by decide +kernel), am_gw 13 (by decide +kernel) (by decide +kernel), am_m_66, TX6, 11, rfl⟩
theorem am_cv_6_225 : am_cvP (6, 225, 25, 636, 637, 638, 42, 639) := ⟨am_gw 636 (by decide +kernel) (by decide +kernel), am_gw 637 (by decide +kernel) (by decide +kernel), am_gw 638 (by decide +kernel) (by decide +kernel), am_m_25, TX4, 5, rfl⟩
theorem am_cv_6_232 : am_cvP (6, 232, 0, 481, 482, 483, 44, 484) := ⟨am_gw 481 (by decide +kernel) (by decide +kernel), am_gw 482 (by decide +kernel) (by decide +kernel), am_gw 483 (by decide +kernel) (by decide +kernel), am_m_0, TX0, 5, rfl⟩
theorem am_cv_6_239 : am_cvP (6, 239, 69, 539, 541, 5, 38, 542) := ⟨am_gw 539 (by decide +kernel) (by decide +kernel), am_gw 541 (by decide +kernel) (by decide +kernel), am_gw 5 (by decide +kernel) (by decide +kernel), am_m_69, TX6, 11, rfl⟩
theorem am_cv_6_243 : am_cvP (6, 243, 72, 535, 537, 4, 38, 538) := ⟨am_gw 535 (by decide +kernel) (by decide +kernel), am_gw 537 (by decide +kernel) (by decide +kernel), am_gw 4 (by decide +kernel) (by decide +kernel), am_m_72, TX6, 11, rfl⟩
theorem am_cv_6_257 : am_cvP (6, 257, 10, 603, 410, 411, 40, 412) := ⟨am_gw 603 (by decide +kernel) (by decide +kernel), am_gw 410 (by decide +kernel) (by decide +kernel), am_gw 411 (by decide +kernel) (by decide +kernel), am_m_10, TX2, 18, rfl⟩
theorem am_cv_7_81 : am_cvP (7, 81, 83, 782, 784, 16, 46, 785) := ⟨am_gw 782 (by decide +kernel) (by decide +kernel), am_gw 784 (by decide +kernel) (by decide +kernel), am_gw 16 (by decide +kernel) (by decide +kernel), am_m_83, TX7, 33, rfl⟩
theorem am_cv_7_88 : am_cvP (7, 88, 84, 790, 792, 18, 46, 793) := ⟨am_gw 790 (by decide +kernel) (by decide +kernel), am_gw 792 (by decide +kernel) (by decide +kernel), am_gw 18 (by decide +kernel) (by decide +kernel), am_m_84, TX7, 33, rfl⟩
theorem am_cv_7_94 : am_cvP (7, 94, 87, 798, 800, 20, 46, 801) := ⟨am_gw 798 (by decide +kernel) (by decide +kernel), am_gw 800 (by decide +kernel) (by decide +kernel), am_gw 20 (by decide +kernel) (by decide +kernel), am_m_87, TX7, 33, rfl⟩
theorem am_cv_7_98 : am_cvP (7, 98, 85, 786, 788, 17, 46, 789) := ⟨am_gw 786 (by decide +kernel) (by decide +kernel), am_gw 788 (by decide +kernel) (by decide +kernel), am_gw 17 (by decide +kernel) (by decide +kernel), am_m_85, TX7, 33, rfl⟩
theorem am_cv_7_102 : am_cvP (7, 102, 86, 794, 796, 19, 46, 797) := ⟨am_gw 794 (by decide +kernel) (by decide +kernel), am_gw 796 (by decide +kernel) (by decide +kernel), am_gw 19 (by decide +kernel) (by decide +kernel), am_m_86, TX7, 33, rfl⟩
theorem am_cv_7_106 : am_cvP (7, 106, 88, 802, 804, 21, 46, 805) := ⟨am_gw 802 (by decide +kernel) (by decide +kernel), am_gw 804 (by decide +kernel) (by decide +kernel), am_gw 21 (by decide +kernel) (by decide +kernel), am_m_88, TX7, 33, rfl⟩
theorem am_cv_7_109 : am_cvP (7, 109, 89, 778, 780, 15, 46, 781) := ⟨am_gw 778 (by decide +kernel) (by decide +kernel), am_gw 780 (by decide +kernel) (by decide +kernel), am_gw 15 (by decide +kernel) (by decide +kernel), am_m_89, TX7, 33, rfl⟩
theorem am_cv_7_112 : am_cvP (7, 112, 90, 774, 776, 14, 46, 777) := ⟨am_gw 774 (by decide +kernel) (by decide +kernel), am_gw 776 (by decide +kernel) (by decide +kernel), am_gw 14 (by decide +kernel) (by decide +kernel), am_m_90, TX7, 33, rfl⟩
theorem am_cv_7_136 : am_cvP (7, 136, 93, 814, 816, 22, 46, 817) := ⟨am_gw 814 (by decide +kernel) (by decide +kernel), am_gw 816 (by decide +kernel) (by decide +kernel), am_gw 22 (by decide +kernel) (by decide +kernel), am_m_93, TX7, 33, rfl⟩
theorem am_cv_7_143 : am_cvP (7, 143, 94, 825, 827, 23, 46, 828) := ⟨am_gw 825 (by decide +kernel) (by decide +kernel), am_gw 827 (by decide +kernel) (by decide +kernel), am_gw 23 (by decide +kernel) (by decide +kernel), am_m_94, TX7, 33, rfl⟩
theorem am_cv_7_150 : am_cvP (7, 150, 99, 845, 847, 24, 46, 848) := ⟨am_gw 845 (by decide +kernel) (by decide +kernel), am_gw 847 (by decide +kernel) (by decide +kernel), am_gw 24 (by decide +kernel) (by decide +kernel), am_m_99, TX7, 33, rfl⟩
theorem am_cv_7_166 : am_cvP (7, 166, 105, 873, 875, 30, 46, 876) := ⟨am_gw 873 (by decide +kernel) (by decide +kernel), am_gw 875 (by decide +kernel) (by decide +kernel), am_gw 30 (by decide +kernel) (by decide +kernel), am_m_105, TX7, 33, rfl⟩
theorem am_cv_7_169 : am_cvP (7, 169, 102, 861, 863, 27, 46, 864) := ⟨am_gw 861 (by decide +kernel) (by decide +kernel), am_gw 863 (by decide +kernel) (by decide +kernel), am_gw 27 (by decide +kernel) (by decide +kernel), am_m_102, TX7, 33, rfl⟩
theorem am_cv_7_173 : am_cvP (7, 173, 103, 865, 867, 28, 46, 868) := ⟨am_gw 865 (by decide +kernel) (by decide +kernel), am_gw 867 (by decide +kernel) (by decide +kernel), am_gw 28 (by decide +kernel) (by decide +kernel), am_m_103, TX7, 33, rfl⟩
theorem am_cv_7_176 : am_cvP (7, 176, 104, 869, 871, 29, 46, 872) := ⟨am_gw 869 (by decide +kernel) (by decide +kernel), am_gw 871 (by decide +kernel) (by decide +kernel), am_gw 29 (by decide +kernel) (by decide +kernel), am_m_104, TX7, 33, rfl⟩
theorem am_cv_7_180 : am_cvP (7, 180, 106, 857, 859, 26, 46, 860) := ⟨am_gw 857 (by decide +kernel) (by decide +kernel), am_gw 859 (by decide +kernel) (by decide +kernel), am_gw 26 (by decide +kernel) (by decide +kernel), am_m_106, TX7, 33, rfl⟩
theorem am_cv_7_184 : am_cvP (7, 184, 108, 877, 879, 31, 46, 880) := ⟨am_gw 877 (by decide +kernel) (by decide +kernel), am_gw 879 (by decide +kernel) (by decide +kernel), am_gw 31 (by decide +kernel) (by decide +kernel), am_m_108, TX7, 33, rfl⟩
theorem am_cv_7_187 : am_cvP (7, 187, 107, 853, 855, 25, 46, 856) := ⟨am_gw 853 (by decide +kernel) (by decide +kernel), am_gw 855 (by decide +kernel) (by decide +kernel), am_gw 25 (by decide +kernel) (by decide +kernel), am_m_107, TX7, 33, rfl⟩
theorem am_cv_7_190 : am_cvP (7, 190, 111, 889, 891, 32, 46, 892) := ⟨am_gw 889 (by decide +kernel) (by decide +kernel), am_gw 891 (by decide +kernel) (by decide +kernel), am_gw 32 (by decide +kernel) (by decide +kernel), am_m_111, TX7, 33, rfl⟩
theorem am_cv_7_194 : am_cvP (7, 194, 113, 897, 899, 33, 46, 900) := ⟨am_gw 897 (by decide +kernel) (by decide +kernel), am_gw 899 (by decide +kernel) (by decide +kernel), am_gw 33 (by decide +kernel) (by decide +kernel), am_m_113, TX7, 33, rfl⟩
theorem am_cv_7_197 : am_cvP (7, 197, 115, 909, 911, 35, 46, 912) := ⟨am_gw 909 (by decide +kernel) (by decide +kernel), am_gw 911 (by decide +kernel) (by decide +kernel), am_gw 35 (by decide +kernel) (by decide +kernel), am_m_115, TX7, 33, rfl⟩
theorem am_cv_7_200 : am_cvP (7, 200, 116, 905, 907, 34, 46, 908) := ⟨am_gw 905 (by decide +kernel) (by decide +kernel), am_gw 907 (by decide +kernel) (by decide +kernel), am_gw 34 (by decide +kernel) (by decide +kernel), am_m_116, TX7, 33, rfl⟩
theorem am_cv_7_206 : am_cvP (7, 206, 124, 940, 942, 36, 46, 943) := ⟨am_gw 940 (by decide +kernel) (by decide +kernel), am_gw 942 (by decide +kernel) (by decide +kernel), am_gw 36 (by decide +kernel) (by decide +kernel), am_m_124, TX7, 33, rfl⟩
theorem am_cv_11_15 : am_cvP (11, 15, 35, 362, 363, 364, 38, 365) := ⟨am_gw 362 (by decide +kernel) (by decide +kernel), am_gw 363 (by decide +kernel) (by decide +kernel), am_gw 364 (by decide +kernel) (by decide +kernel), am_m_35, TX6, 11, rfl⟩
theorem am_cv_11_19 : am_cvP (11, 19, 81, 758, 759, 760, 46, 761) := ⟨am_gw 758 (by decide +kernel) (by decide +kernel), am_gw 759 (by decide +kernel) (by decide +kernel), am_gw 760 (by decide +kernel) (by decide +kernel), am_m_81, TX7, 33, rfl⟩
theorem am_cv_11_20 : am_cvP (11, 20, 36, 366, 367, 368, 38, 369) := ⟨am_gw 366 (by decide +kernel) (by decide +kernel), am_gw 367 (by decide +kernel) (by decide +kernel), am_gw 368 (by decide +kernel) (by decide +kernel), am_m_36, TX6, 11, rfl⟩
theorem am_cv_11_24 : am_cvP (11, 24, 82, 766, 767, 768, 46, 769) := ⟨am_gw 766 (by decide +kernel) (by decide +kernel), am_gw 767 (by decide +kernel) (by decide +kernel), am_gw 768 (by decide +kernel) (by decide +kernel), am_m_82, TX7, 33, rfl⟩
theorem am_cv_11_25 : am_cvP (11, 25, 37, 370, 371, 372, 38, 373) := ⟨am_gw 370 (by decide +kernel) (by decide +kernel), am_gw 371 (by decide +kernel) (by decide +kernel), am_gw 372 (by decide +kernel) (by decide +kernel), am_m_37, TX6, 11, rfl⟩
theorem am_cv_11_28 : am_cvP (11, 28, 91, 770, 771, 772, 46, 773) := ⟨am_gw 770 (by decide +kernel) (by decide +kernel), am_gw 771 (by decide +kernel) (by decide +kernel), am_gw 772 (by decide +kernel) (by decide +kernel), am_m_91, TX7, 33, rfl⟩
theorem am_cv_11_29 : am_cvP (11, 29, 38, 425, 426, 427, 38, 428) := ⟨am_gw 425 (by decide +kernel) (by decide +kernel), am_gw 426 (by decide +kernel) (by decide +kernel), am_gw 427 (by decide +kernel) (by decide +kernel), am_m_38, TX6, 11, rfl⟩
theorem am_cv_11_32 : am_cvP (11, 32, 92, 806, 807, 808, 46, 809) := ⟨am_gw 806 (by decide +kernel) (by decide +kernel), am_gw 807 (by decide +kernel) (by decide +kernel), am_gw 808 (by decide +kernel) (by decide +kernel), am_m_92, TX7, 33, rfl⟩
theorem am_cv_11_33 : am_cvP (11, 33, 39, 429, 430, 431, 38, 432) := ⟨am_gw 429 (by decide +kernel) (by decide +kernel), am_gw 430 (by decide +kernel) (by decide +kernel), am_gw 431 (by decide +kernel) (by decide +kernel), am_m_39, TX6, 11, rfl⟩
theorem am_cv_11_37 : am_cvP (11, 37, 95, 810, 811, 812, 46, 813) := ⟨am_gw 810 (by decide +kernel) (by decide +kernel), am_gw 811 (by decide +kernel) (by decide +kernel), am_gw 812 (by decide +kernel) (by decide +kernel), am_m_95, TX7, 33, rfl⟩
theorem am_cv_11_38 : am_cvP (11, 38, 40, 440, 441, 442, 38, 443) := ⟨am_gw 440 (by decide +kernel) (by decide +kernel), am_gw 441 (by decide +kernel) (by decide +kernel), am_gw 442 (by decide +kernel) (by decide +kernel), am_m_40, TX6, 11, rfl⟩
theorem am_cv_11_41 : am_cvP (11, 41, 96, 821, 822, 823, 46, 824) := ⟨am_gw 821 (by decide +kernel) (by decide +kernel), am_gw 822 (by decide +kernel) (by decide +kernel), am_gw 823 (by decide +kernel) (by decide +kernel), am_m_96, TX7, 33, rfl⟩
theorem am_cv_11_42 : am_cvP (11, 42, 41, 448, 449, 450, 38, 451) := ⟨am_gw 448 (by decide +kernel) (by decide +kernel), am_gw 449 (by decide +kernel) (by decide +kernel), am_gw 450 (by decide +kernel) (by decide +kernel), am_m_41, TX6, 11, rfl⟩
theorem am_cv_11_46 : am_cvP (11, 46, 97, 829, 830, 831, 46, 832) := ⟨am_gw 829 (by decide +kernel) (by decide +kernel), am_gw 830 (by decide +kernel) (by decide +kernel), am_gw 831 (by decide +kernel) (by decide +kernel), am_m_97, TX7, 33, rfl⟩
theorem am_cv_11_47 : am_cvP (11, 47, 42, 453, 454, 455, 38, 456) := ⟨am_gw 453 (by decide +kernel) (by decide +kernel), am_gw 454 (by decide +kernel) (by decide +kernel), am_gw 455 (by decide +kernel) (by decide +kernel), am_m_42, TX6, 11, rfl⟩
theorem am_cv_11_50 : am_cvP (11, 50, 98, 833, 834, 835, 46, 836) := ⟨am_gw 833 (by decide +kernel) (by decide +kernel), am_gw 834 (by decide +kernel) (by decide +kernel), am_gw 835 (by decide +kernel) (by decide +kernel), am_m_98, TX7, 33, rfl⟩
theorem am_cv_11_51 : am_cvP (11, 51, 43, 457, 458, 459, 38, 460) := ⟨am_gw 457 (by decide +kernel) (by decide +kernel), am_gw 458 (by decide +kernel) (by decide +kernel), am_gw 459 (by decide +kernel) (by decide +kernel), am_m_43, TX6, 11, rfl⟩
theorem am_cv_11_55 : am_cvP (11, 55, 101, 837, 838, 839, 46, 840) := ⟨am_gw 837 (by decide +kernel) (by decide +kernel), am_gw 838 (by decide +kernel) (by decide +kernel), am_gw 839 (by decide +kernel) (by decide +kernel), am_m_101, TX7, 33, rfl⟩
theorem am_cv_11_56 : am_cvP (11, 56, 44, 473, 474, 475, 38, 476) := ⟨am_gw 473 (by decide +kernel) (by decide +kernel), am_gw 474 (by decide +kernel) (by decide +kernel), am_gw 475 (by decide +kernel) (by decide +kernel), am_m_44, TX6, 11, rfl⟩
theorem am_cv_11_59 : am_cvP (11, 59, 109, 849, 850, 851, 46, 852) := ⟨am_gw 849 (by decide +kernel) (by decide +kernel), am_gw 850 (by decide +kernel) (by decide +kernel), am_gw 851 (by decide +kernel) (by decide +kernel), am_m_109, TX7, 33, rfl⟩
theorem am_cv_11_60 : am_cvP (11, 60, 45, 499, 500, 501, 38, 502) := ⟨am_gw 499 (by decide +kernel) (by decide +kernel), am_gw 500 (by decide +kernel) (by decide +kernel), am_gw 501 (by decide +kernel) (by decide +kernel), am_m_45, TX6, 11, rfl⟩
theorem am_cv_11_63 : am_cvP (11, 63, 110, 881, 882, 883, 46, 884) := ⟨am_gw 881 (by decide +kernel) (by decide +kernel), am_gw 882 (by decide +kernel) (by decide +kernel), am_gw 883 (by decide +kernel) (by decide +kernel), am_m_110, TX7, 33, rfl⟩
theorem am_cv_11_64 : am_cvP (11, 64, 46, 503, 504, 505, 38, 506) := ⟨am_gw 503 (by decide +kernel) (by decide +kernel), am_gw 504 (by decide +kernel) (by decide +kernel), am_gw 505 (by decide +kernel) (by decide +kernel), am_m_46, TX6, 11, rfl⟩
theorem am_cv_11_67 : am_cvP (11, 67, 112, 885, 886, 887, 46, 888) := ⟨am_gw 885 (by decide +kernel) (by decide +kernel), am_gw 886 (by decide +kernel) (by decide +kernel), am_gw 887 (by decide +kernel) (by decide +kernel), am_m_112, TX7, 33, rfl⟩
theorem am_cv_11_68 : am_cvP (11, 68, 47, 511, 512, 513, 38, 514) := ⟨am_gw 511 (by decide +kernel) (by decide +kernel), am_gw 512 (by decide +kernel) (by decide +kernel), am_gw 513 (by decide +kernel) (by decide +kernel), am_m_47, TX6, 11, rfl⟩
theorem am_cv_11_71 : am_cvP (11, 71, 114, 893, 894, 895, 46, 896) := ⟨am_gw 893 (by decide +kernel) (by decide +kernel), am_gw 894 (by decide +kernel) (by decide +kernel), am_gw 895 (by decide +kernel) (by decide +kernel), am_m_114, TX7, 33, rfl⟩
theorem am_cv_11_72 : am_cvP (11, 72, 48, 526, 527, 528, 38, 529) := ⟨am_gw 526 (by decide +kernel) (by decide +kernel), am_gw 527 (by decide +kernel) (by decide +kernel), am_gw 528 (by decide +kernel) (by decide +kernel), am_m_48, TX6, 11, rfl⟩
theorem am_cv_11_75 : am_cvP (11, 75, 117, 901, 902, 903, 46, 904) := ⟨am_gw 901 (by decide +kernel) (by decide +kernel), am_gw 902 (by decide +kernel) (by decide +kernel), am_gw 903 (by decide +kernel) (by decide +kernel), am_m_117, TX7, 33, rfl⟩
theorem am_cv_11_76 : am_cvP (11, 76, 49, 543, 544, 545, 38, 546) := ⟨am_gw 543 (by decide +kernel) (by decide +kernel), am_gw 544 (by decide +kernel) (by decide +kernel), am_gw 545 (by decide +kernel) (by decide +kernel), am_m_49, TX6, 11, rfl⟩
theorem am_cv_11_79 : am_cvP (11, 79, 119, 913, 914, 915, 46, 916) := ⟨am_gw 913 (by decide +kernel) (by decide +kernel), am_gw 914 (by decide +kernel) (by decide +kernel), am_gw 915 (by decide +kernel) (by decide +kernel), am_m_119, TX7, 33, rfl⟩
theorem am_cv_11_80 : am_cvP (11, 80, 50, 561, 562, 563, 38, 564) := ⟨am_gw 561 (by decide +kernel) (by decide +kernel), am_gw 562 (by decide +kernel) (by decide +kernel), am_gw 563 (by decide +kernel) (by decide +kernel), am_m_50, TX6, 11, rfl⟩
theorem am_cv_11_84 : am_cvP (11, 84, 120, 920, 921, 922, 46, 923) := ⟨am_gw 920 (by decide +kernel) (by decide +kernel), am_gw 921 (by decide +kernel) (by decide +kernel), am_gw 922 (by decide +kernel) (by decide +kernel), am_m_120, TX7, 33, rfl⟩
theorem am_cv_11_85 : am_cvP (11, 85, 51, 572, 573, 574, 38, 575) := ⟨am_gw 572 (by decide +kernel) (by decide +kernel), am_gw 573 (by decide +kernel) (by decide +kernel), am_gw 574 (by decide +kernel) (by decide +kernel), am_m_51, TX6, 11, rfl⟩
theorem am_cv_11_89 : am_cvP (11, 89, 121, 924, 925, 926, 46, 927) := ⟨am_gw 924 (by decide +kernel) (by decide +kernel), am_gw 925 (by decide +kernel) (by decide +kernel), am_gw 926 (by decide +kernel) (by decide +kernel), am_m_121, TX7, 33, rfl⟩
theorem am_cv_11_90 : am_cvP (11, 90, 52, 580, 581, 582, 38, 583) := ⟨am_gw 580 (by decide +kernel) (by decide +kernel), am_gw 581 (by decide +kernel) (by decide +kernel), am_gw 582 (by decide +kernel) (by decide +kernel), am_m_52, TX6, 11, rfl⟩
theorem am_cv_11_93 : am_cvP (11, 93, 122, 928, 929, 930, 46, 931) := ⟨am_gw 928 (by decide +kernel) (by decide +kernel), am_gw 929 (by decide +kernel) (by decide +kernel), am_gw 930 (by decide +kernel) (by decide +kernel), am_m_122, TX7, 33, rfl⟩
theorem am_cv_11_94 : am_cvP (11, 94, 53, 584, 585, 586, 38, 587) := ⟨am_gw 584 (by decide +kernel) (by decide +kernel), am_gw 585 (by decide +kernel) (by decide +kernel), am_gw 586 (by decide +kernel) (by decide +kernel), am_m_53, TX6, 11, rfl⟩
theorem am_cv_11_97 : am_cvP (11, 97, 123, 932, 933, 934, 46, 935) := ⟨am_gw 932 (by decide +kernel) (by decide +kernel), am_gw 933 (by decide +kernel) (by decide +kernel), am_gw 934 (by decide +kernel) (by decide +kernel), am_m_123, TX7, 33, rfl⟩
theorem am_cv_11_98 : am_cvP (11, 98, 54, 588, 589, 590, 38, 591) := ⟨am_gw 588 (by decide +kernel) (by decide +kernel), am_gw 589 (by decide +kernel) (by decide +kernel), am_gw 590 (by decide +kernel) (by decide +kernel), am_m_54, TX6, 11, rfl⟩
theorem am_cv_11_101 : am_cvP (11, 101, 125, 936, 937, 938, 46, 939) := ⟨am_gw 936 (by decide +kernel) (by decide +kernel), am_gw 937 (by decide +kernel) (by decide +kernel), am_gw 938 (by decide +kernel) (by decide +kernel), am_m_125, TX7, 33, rfl⟩
theorem am_cv_11_102 : am_cvP (11, 102, 55, 609, 610, 611, 38, 612) := ⟨am_gw 609 (by decide +kernel) (by decide +kernel), am_gw 610 (by decide +kernel) (by decide +kernel), am_gw 611 (by decide +kernel) (by decide +kernel), am_m_55, TX6, 11, rfl⟩
theorem am_cv_11_105 : am_cvP (11, 105, 126, 944, 945, 946, 46, 947) := ⟨am_gw 944 (by decide +kernel) (by decide +kernel), am_gw 945 (by decide +kernel) (by decide +kernel), am_gw 946 (by decide +kernel) (by decide +kernel), am_m_126, TX7, 33, rfl⟩
theorem am_cv_11_106 : am_cvP (11, 106, 56, 613, 614, 615, 38, 616) := ⟨am_gw 613 (by decide +kernel) (by decide +kernel), am_gw 614 (by decide +kernel) (by decide +kernel), am_gw 615 (by decide +kernel) (by decide +kernel), am_m_56, TX6, 11, rfl⟩
theorem am_cv_11_109 : am_cvP (11, 109, 127, 948, 949, 950, 46, 951) := ⟨am_gw 948 (by decide +kernel) (by decide +kernel), am_gw 949 (by decide +kernel) (by decide +kernel), am_gw 950 (by decide +kernel) (by decide +kernel), am_m_127, TX7, 33, rfl⟩
theorem am_cv_11_110 : am_cvP (11, 110, 57, 628, 629, 630, 38, 631) := ⟨am_gw 628 (by decide +kernel) (by decide +kernel), am_gw 629 (by decide +kernel) (by decide +kernel), am_gw 630 (by decide +kernel) (by decide +kernel), am_m_57, TX6, 11, rfl⟩
theorem am_cv_11_113 : am_cvP (11, 113, 128, 955, 956, 957, 46, 958) := ⟨am_gw 955 (by decide +kernel) (by decide +kernel), am_gw 956 (by decide +kernel) (by decide +kernel), am_gw 957 (by decide +kernel) (by decide +kernel), am_m_128, TX7, 33, rfl⟩
theorem am_cv_11_114 : am_cvP (11, 114, 58, 641, 642, 643, 38, 644) := ⟨am_gw 641 (by decide +kernel) (by decide +kernel), am_gw 642 (by decide +kernel) (by decide +kernel), am_gw 643 (by decide +kernel) (by decide +kernel), am_m_58, TX6, 11, rfl⟩
theorem am_cv_11_117 : am_cvP (11, 117, 129, 959, 960, 961, 46, 962) := ⟨am_gw 959 (by decide +kernel) (by decide +kernel), am_gw 960 (by decide +kernel) (by decide +kernel), am_gw 961 (by decide +kernel) (by decide +kernel), am_m_129, TX7, 33, rfl⟩
theorem am_cv_11_118 : am_cvP (11, 118, 59, 645, 646, 647, 38, 648) := ⟨am_gw 645 (by decide +kernel) (by decide +kernel), am_gw 646 (by decide +kernel) (by decide +kernel), am_gw 647 (by decide +kernel) (by decide +kernel), am_m_59, TX6, 11, rfl⟩
theorem am_cv_11_121 : am_cvP (11, 121, 130, 963, 964, 965, 46, 966) := ⟨am_gw 963 (by decide +kernel) (by decide +kernel), am_gw 964 (by decide +kernel) (by decide +kernel), am_gw 965 (by decide +kernel) (by decide +kernel), am_m_130, TX7, 33, rfl⟩
set_option maxRecDepth 20000 in
theorem am_cvl_ok : ∀ q ∈ am_cvl, am_cvP q := List.forall_mem_cons.mpr ⟨am_cv_0_53, List.forall_mem_cons.mpr ⟨am_cv_0_63, List.forall_mem_cons.mpr ⟨am_cv_0_69, List.forall_mem_cons.mpr ⟨am_cv_2_77, List.forall_mem_cons.mpr ⟨am_cv_2_81, List.forall_mem_cons.mpr ⟨am_cv_2_85, List.forall_mem_cons.mpr ⟨am_cv_2_89, List.forall_mem_cons.mpr ⟨am_cv_2_92, List.forall_mem_cons.mpr ⟨am_cv_2_99, List.forall_mem_cons.mpr ⟨am_cv_2_103, List.forall_mem_cons.mpr ⟨am_cv_2_107, List.forall_mem_cons.mpr ⟨am_cv_3_32, List.forall_mem_cons.mpr ⟨am_cv_3_37, List.forall_mem_cons.mpr ⟨am_cv_3_45, List.forall_mem_cons.mpr ⟨am_cv_3_49, List.forall_mem_cons.mpr ⟨am_cv_3_53, List.forall_mem_cons.mpr ⟨am_cv_5_43, List.forall_mem_cons.mpr ⟨am_cv_5_47, List.forall_mem_cons.mpr ⟨am_cv_5_50, List.forall_mem_cons.mpr ⟨am_cv_5_54, List.forall_mem_cons.mpr ⟨am_cv_6_64, List.forall_mem_cons.mpr ⟨am_cv_6_71, List.forall_mem_cons.mpr ⟨am_cv_6_78, List.forall_mem_cons.mpr ⟨am_cv_6_91, List.forall_mem_cons.mpr ⟨am_cv_6_115, List.forall_mem_cons.mpr ⟨am_cv_6_140, List.forall_mem_cons.mpr ⟨am_cv_6_144, List.forall_mem_cons.mpr ⟨am_cv_6_153, List.forall_mem_cons.mpr ⟨am_cv_6_159, List.forall_mem_cons.mpr ⟨am_cv_6_163, List.forall_mem_cons.mpr ⟨am_cv_6_166, List.forall_mem_cons.mpr ⟨am_cv_6_169, List.forall_mem_cons.mpr ⟨am_cv_6_173, List.forall_mem_cons.mpr ⟨am_cv_6_179, List.forall_mem_cons.mpr ⟨am_cv_6_183, List.forall_mem_cons.mpr ⟨am_cv_6_195, List.forall_mem_cons.mpr ⟨am_cv_6_199, List.forall_mem_cons.mpr ⟨am_cv_6_202, List.forall_mem_cons.mpr ⟨am_cv_6_206, List.forall_mem_cons.mpr ⟨am_cv_6_209, List.forall_mem_cons.mpr ⟨am_cv_6_215, List.forall_mem_cons.mpr ⟨am_cv_6_221, List.forall_mem_cons.mpr ⟨am_cv_6_225, List.forall_mem_cons.mpr ⟨am_cv_6_232, List.forall_mem_cons.mpr ⟨am_cv_6_239, List.forall_mem_cons.mpr ⟨am_cv_6_243, List.forall_mem_cons.mpr ⟨am_cv_6_257, List.forall_mem_cons.mpr ⟨am_cv_7_81, List.forall_mem_cons.mpr ⟨am_cv_7_88, List.forall_mem_cons.mpr ⟨am_cv_7_94, List.forall_mem_cons.mpr ⟨am_cv_7_98, List.forall_mem_cons.mpr ⟨am_cv_7_102, List.forall_mem_cons.mpr ⟨am_cv_7_106, List.forall_mem_cons.mpr ⟨am_cv_7_109, List.forall_mem_cons.mpr ⟨am_cv_7_112, List.forall_mem_cons.mpr ⟨am_cv_7_136, List.forall_mem_cons.mpr ⟨am_cv_7_143, List.forall_mem_cons.mpr ⟨am_cv_7_150, List.forall_mem_cons.mpr ⟨am_cv_7_166, List.forall_mem_cons.mpr ⟨am_cv_7_169, List.forall_mem_cons.mpr ⟨am_cv_7_173, List.forall_mem_cons.mpr ⟨am_cv_7_176, List.forall_mem_cons.mpr ⟨am_cv_7_180, List.forall_mem_cons.mpr ⟨am_cv_7_184, List.forall_mem_cons.mpr ⟨am_cv_7_187, List.forall_mem_cons.mpr ⟨am_cv_7_190, List.forall_mem_cons.mpr ⟨am_cv_7_194, List.forall_mem_cons.mpr ⟨am_cv_7_197, List.forall_mem_cons.mpr ⟨am_cv_7_200, List.forall_mem_cons.mpr ⟨am_cv_7_206, List.forall_mem_cons.mpr ⟨am_cv_11_15, List.forall_mem_cons.mpr ⟨am_cv_11_19, List.forall_mem_cons.mpr ⟨am_cv_11_20, List.forall_mem_cons.mpr ⟨am_cv_11_24, List.forall_mem_cons.mpr ⟨am_cv_11_25, List.forall_mem_cons.mpr ⟨am_cv_11_28, List.forall_mem_cons.mpr ⟨am_cv_11_29, List.forall_mem_cons.mpr ⟨am_cv_11_32, List.forall_mem_cons.mpr ⟨am_cv_11_33, List.forall_mem_cons.mpr ⟨am_cv_11_37, List.forall_mem_cons.mpr ⟨am_cv_11_38, List.forall_mem_cons.mpr ⟨am_cv_11_41, List.forall_mem_cons.mpr ⟨am_cv_11_42, List.forall_mem_cons.mpr ⟨am_cv_11_46, List.forall_mem_cons.mpr ⟨am_cv_11_47, List.forall_mem_cons.mpr ⟨am_cv_11_50, List.forall_mem_cons.mpr ⟨am_cv_11_51, List.forall_mem_cons.mpr ⟨am_cv_11_55, List.forall_mem_cons.mpr ⟨am_cv_11_56, List.forall_mem_cons.mpr ⟨am_cv_11_59, List.forall_mem_cons.mpr ⟨am_cv_11_60, List.forall_mem_cons.mpr ⟨am_cv_11_63, List.forall_mem_cons.mpr ⟨am_cv_11_64, List.forall_mem_cons.mpr ⟨am_cv_11_67, List.forall_mem_cons.mpr ⟨am_cv_11_68, List.forall_mem_cons.mpr ⟨am_cv_11_71, List.forall_mem_cons.mpr ⟨am_cv_11_72, List.forall_mem_cons.mpr ⟨am_cv_11_75, List.forall_mem_cons.mpr ⟨am_cv_11_76, List.forall_mem_cons.mpr ⟨am_cv_11_79, List.forall_mem_cons.mpr ⟨am_cv_11_80, List.forall_mem_cons.mpr ⟨am_cv_11_84, List.forall_mem_cons.mpr ⟨am_cv_11_85, List.forall_mem_cons.mpr ⟨am_cv_11_89, List.forall_mem_cons.mpr ⟨am_cv_11_90, List.forall_mem_cons.mpr ⟨am_cv_11_93, List.forall_mem_cons.mpr ⟨am_cv_11_94, List.forall_mem_cons.mpr ⟨am_cv_11_97, List.forall_mem_cons.mpr ⟨am_cv_11_98, List.forall_mem_cons.mpr ⟨am_cv_11_101, List.forall_mem_cons.mpr ⟨am_cv_11_102, List.forall_mem_cons.mpr ⟨am_cv_11_105, List.forall_mem_cons.mpr ⟨am_cv_11_106, List.forall_mem_cons.mpr ⟨am_cv_11_109, List.forall_mem_cons.mpr ⟨am_cv_11_110, List.forall_mem_cons.mpr ⟨am_cv_11_113, List.forall_mem_cons.mpr ⟨am_cv_11_114, List.forall_mem_cons.mpr ⟨am_cv_11_117, List.forall_mem_cons.mpr ⟨am_cv_11_118, List.forall_mem_cons.mpr ⟨am_cv_11_121, fun _ h => absurd h List.not_mem_nil⟩⟩⟩⟩⟩⟩⟩⟩⟩⟩⟩⟩⟩⟩⟩⟩⟩⟩⟩⟩⟩⟩⟩⟩⟩⟩⟩⟩⟩⟩⟩⟩⟩⟩⟩⟩⟩⟩⟩⟩⟩⟩⟩⟩⟩⟩⟩⟩⟩⟩⟩⟩⟩⟩⟩⟩⟩⟩⟩⟩⟩⟩⟩⟩⟩⟩⟩⟩⟩⟩⟩⟩⟩⟩⟩⟩⟩⟩⟩⟩⟩⟩⟩⟩⟩⟩⟩⟩⟩⟩⟩⟩⟩⟩⟩⟩⟩⟩⟩⟩⟩⟩⟩⟩⟩⟩⟩⟩⟩⟩⟩⟩⟩⟩⟩⟩⟩⟩⟩⟩
theorem am_cv_ok {o i M : Nat} (h : am_cv o i = some M) : Cond.methodLink (am_cn o) i (am_y M) ∈ lw_g ∧ Cond.instanceMethod (am_y M) ∈ lw_g ∧ Cond.selects (am_cn (am_ow M)) (am_y M) (am_y M) ∈ lw_g ∧ am_mok M ∧ ∃ (T : u_T) (n : Nat), vwCl[am_ow M]? = some (am_cn (am_ow M), T, n) := by
  unfold am_cv at h
  obtain ⟨q, hq, he⟩ := Option.map_eq_some_iff.mp h
  have h1 := List.find?_some hq
  have h2 := am_cvl_ok q (List.mem_of_find?_eq_some hq)
  simp only [Bool.and_eq_true] at h1
  have e1 := Nat.eq_of_beq_eq_true h1.1
  have e2 := Nat.eq_of_beq_eq_true h1.2
  unfold am_cvP at h2
  rw [e1, e2, he] at h2
  exact h2
def am_csP (q : Nat × Nat × Nat × Nat × Nat × Nat × Nat × Nat) : Prop := (Cond.methodLink (am_cn q.1) q.2.1 (am_y q.2.2.1) ∈ lw_g ∨ Cond.methodLinkNest (am_cn q.1) q.2.1 (am_y q.2.2.1) "CaveBreath" ∈ am_nest) ∧ Cond.static (am_y q.2.2.1) ∈ lw_g ∧ am_mok q.2.2.1
theorem am_cs_0_46 : am_csP (0, 46, 64, 485, 438, 38, 439, 1) := ⟨Or.inr (List.mem_of_getElem? (i := 6) (by decide +kernel)), am_gw 438 (by decide +kernel) (by decide +kernel), am_m_64⟩
theorem am_cs_0_57 : am_csP (0, 57, 132, 490, 326, 45, 327, 0) := ⟨Or.inl (am_gw 490 (by decide +kernel) (by decide +kernel)), am_gw 326 (by decide +kernel) (by decide +kernel), am_m_132⟩
theorem am_cs_2_95 : am_csP (2, 95, 65, 291, 292, 38, 293, 1) := ⟨Or.inr (List.mem_of_getElem? (i := 8) (by decide +kernel)), am_gw 292 (by decide +kernel) (by decide +kernel), am_m_65⟩
theorem am_cs_3_41 : am_csP (3, 41, 19, 386, 387, 39, 388, 0) := ⟨Or.inl (am_gw 386 (by decide +kernel) (by decide +kernel)), am_gw 387 (by decide +kernel) (by decide +kernel), am_m_19⟩
theorem am_cs_3_57 : am_csP (3, 57, 23, 397, 398, 39, 399, 0) := ⟨Or.inl (am_gw 397 (by decide +kernel) (by decide +kernel)), am_gw 398 (by decide +kernel) (by decide +kernel), am_m_23⟩
theorem am_cs_4_28 : am_csP (4, 28, 132, 325, 326, 45, 327, 0) := ⟨Or.inl (am_gw 325 (by decide +kernel) (by decide +kernel)), am_gw 326 (by decide +kernel) (by decide +kernel), am_m_132⟩
theorem am_cs_4_68 : am_csP (4, 68, 27, 519, 520, 42, 521, 0) := ⟨Or.inl (am_gw 519 (by decide +kernel) (by decide +kernel)), am_gw 520 (by decide +kernel) (by decide +kernel), am_m_27⟩
theorem am_cs_5_66 : am_csP (5, 66, 33, 314, 315, 41, 316, 0) := ⟨Or.inl (am_gw 314 (by decide +kernel) (by decide +kernel)), am_gw 315 (by decide +kernel) (by decide +kernel), am_m_33⟩
theorem am_cs_6_111 : am_csP (6, 111, 64, 437, 438, 38, 439, 0) := ⟨Or.inl (am_gw 437 (by decide +kernel) (by decide +kernel)), am_gw 438 (by decide +kernel) (by decide +kernel), am_m_64⟩
theorem am_cs_6_133 : am_csP (6, 133, 65, 452, 292, 38, 293, 0) := ⟨Or.inl (am_gw 452 (by decide +kernel) (by decide +kernel)), am_gw 292 (by decide +kernel) (by decide +kernel), am_m_65⟩
theorem am_cs_6_137 : am_csP (6, 137, 62, 461, 462, 38, 463, 0) := ⟨Or.inl (am_gw 461 (by decide +kernel) (by decide +kernel)), am_gw 462 (by decide +kernel) (by decide +kernel), am_m_62⟩
theorem am_cs_6_176 : am_csP (6, 176, 63, 565, 566, 38, 567, 0) := ⟨Or.inl (am_gw 565 (by decide +kernel) (by decide +kernel)), am_gw 566 (by decide +kernel) (by decide +kernel), am_m_63⟩
theorem am_cs_6_247 : am_csP (6, 247, 131, 555, 556, 48, 557, 0) := ⟨Or.inl (am_gw 555 (by decide +kernel) (by decide +kernel)), am_gw 556 (by decide +kernel) (by decide +kernel), am_m_131⟩
theorem am_cs_7_62 : am_csP (7, 62, 80, 655, 656, 46, 657, 0) := ⟨Or.inl (am_gw 655 (by decide +kernel) (by decide +kernel)), am_gw 656 (by decide +kernel) (by decide +kernel), am_m_80⟩
theorem am_cs_7_66 : am_csP (7, 66, 78, 762, 763, 46, 764, 0) := ⟨Or.inl (am_gw 762 (by decide +kernel) (by decide +kernel)), am_gw 763 (by decide +kernel) (by decide +kernel), am_m_78⟩
theorem am_cs_7_140 : am_csP (7, 140, 79, 818, 819, 46, 820, 0) := ⟨Or.inl (am_gw 818 (by decide +kernel) (by decide +kernel)), am_gw 819 (by decide +kernel) (by decide +kernel), am_m_79⟩
theorem am_cs_7_147 : am_csP (7, 147, 100, 841, 842, 46, 843, 0) := ⟨Or.inl (am_gw 841 (by decide +kernel) (by decide +kernel)), am_gw 842 (by decide +kernel) (by decide +kernel), am_m_100⟩
theorem am_cs_7_203 : am_csP (7, 203, 118, 917, 918, 46, 919, 0) := ⟨Or.inl (am_gw 917 (by decide +kernel) (by decide +kernel)), am_gw 918 (by decide +kernel) (by decide +kernel), am_m_118⟩
theorem am_csl_ok : ∀ q ∈ am_csl, am_csP q := List.forall_mem_cons.mpr ⟨am_cs_0_46, List.forall_mem_cons.mpr ⟨am_cs_0_57, List.forall_mem_cons.mpr ⟨am_cs_2_95, List.forall_mem_cons.mpr ⟨am_cs_3_41, List.forall_mem_cons.mpr ⟨am_cs_3_57, List.forall_mem_cons.mpr ⟨am_cs_4_28, List.forall_mem_cons.mpr ⟨am_cs_4_68, List.forall_mem_cons.mpr ⟨am_cs_5_66, List.forall_mem_cons.mpr ⟨am_cs_6_111, List.forall_mem_cons.mpr ⟨am_cs_6_133, List.forall_mem_cons.mpr ⟨am_cs_6_137, List.forall_mem_cons.mpr ⟨am_cs_6_176, List.forall_mem_cons.mpr ⟨am_cs_6_247, List.forall_mem_cons.mpr ⟨am_cs_7_62, List.forall_mem_cons.mpr ⟨am_cs_7_66, List.forall_mem_cons.mpr ⟨am_cs_7_140, List.forall_mem_cons.mpr ⟨am_cs_7_147, List.forall_mem_cons.mpr ⟨am_cs_7_203, fun _ h => absurd h List.not_mem_nil⟩⟩⟩⟩⟩⟩⟩⟩⟩⟩⟩⟩⟩⟩⟩⟩⟩⟩
theorem am_cs_ok {o i M : Nat} (h : am_cs o i = some M) : (Cond.methodLink (am_cn o) i (am_y M) ∈ lw_g ∨ Cond.methodLinkNest (am_cn o) i (am_y M) "CaveBreath" ∈ am_nest) ∧ Cond.static (am_y M) ∈ lw_g ∧ am_mok M := by
  unfold am_cs at h
  obtain ⟨q, hq, he⟩ := Option.map_eq_some_iff.mp h
  have h1 := List.find?_some hq
  have h2 := am_csl_ok q (List.mem_of_find?_eq_some hq)
  simp only [Bool.and_eq_true] at h1
  have e1 := Nat.eq_of_beq_eq_true h1.1
  have e2 := Nat.eq_of_beq_eq_true h1.2
  unfold am_csP at h2
  rw [e1, e2, he] at h2
  exact h2
theorem am_cil_ok : ∀ q ∈ am_cil, Cond.constant (am_cn q.1) q.2.1 q.2.2.1 ∈ lw_g := List.forall_mem_cons.mpr ⟨am_gw 464 (by decide +kernel) (by decide +kernel), List.forall_mem_cons.mpr ⟨am_gw 844 (by decide +kernel) (by decide +kernel), List.forall_mem_cons.mpr ⟨am_gw 558 (by decide +kernel) (by decide +kernel), List.forall_mem_cons.mpr ⟨am_gw 559 (by decide +kernel) (by decide +kernel), List.forall_mem_cons.mpr ⟨am_gw 560 (by decide +kernel) (by decide +kernel), fun _ h => absurd h List.not_mem_nil⟩⟩⟩⟩⟩
theorem am_ci_ok {o i : Nat} {v : Int32} (h : am_ci o i = some v) : Cond.constant (am_cn o) i v ∈ lw_g := by
  unfold am_ci at h
  obtain ⟨q, hq, he⟩ := Option.map_eq_some_iff.mp h
  have h1 := List.find?_some hq
  have h2 := am_cil_ok q (List.mem_of_find?_eq_some hq)
  simp only [Bool.and_eq_true] at h1
  have e1 := Nat.eq_of_beq_eq_true h1.1
  have e2 := Nat.eq_of_beq_eq_true h1.2
  rw [e1, e2, he] at h2
  exact h2
theorem am_cjl_ok : ∀ q ∈ am_cjl, Cond.constantLong (am_cn q.1) q.2.1 q.2.2.1 ∈ lw_g := List.forall_mem_cons.mpr ⟨am_gw 625 (by decide +kernel) (by decide +kernel), List.forall_mem_cons.mpr ⟨am_gw 626 (by decide +kernel) (by decide +kernel), List.forall_mem_cons.mpr ⟨am_gw 627 (by decide +kernel) (by decide +kernel), List.forall_mem_cons.mpr ⟨am_gw 967 (by decide +kernel) (by decide +kernel), List.forall_mem_cons.mpr ⟨am_gw 765 (by decide +kernel) (by decide +kernel), List.forall_mem_cons.mpr ⟨am_gw 952 (by decide +kernel) (by decide +kernel), List.forall_mem_cons.mpr ⟨am_gw 953 (by decide +kernel) (by decide +kernel), List.forall_mem_cons.mpr ⟨am_gw 954 (by decide +kernel) (by decide +kernel), fun _ h => absurd h List.not_mem_nil⟩⟩⟩⟩⟩⟩⟩⟩
theorem am_cj_ok {o i : Nat} {v : Int64} (h : am_cj o i = some v) : Cond.constantLong (am_cn o) i v ∈ lw_g := by
  unfold am_cj at h
  obtain ⟨q, hq, he⟩ := Option.map_eq_some_iff.mp h
  have h1 := List.find?_some hq
  have h2 := am_cjl_ok q (List.mem_of_find?_eq_some hq)
  simp only [Bool.and_eq_true] at h1
  have e1 := Nat.eq_of_beq_eq_true h1.1
  have e2 := Nat.eq_of_beq_eq_true h1.2
  rw [e1, e2, he] at h2
  exact h2
theorem am_mnl_ok : ∀ q ∈ am_mnl, Cond.methodLink (am_cn q.1) q.2.1 Lib.Math.min.name ∈ lw_g := List.forall_mem_cons.mpr ⟨am_gw 608 (by decide +kernel) (by decide +kernel), List.forall_mem_cons.mpr ⟨am_gw 378 (by decide +kernel) (by decide +kernel), fun _ h => absurd h List.not_mem_nil⟩⟩
theorem am_mn_ok {o i : Nat} (h : am_mn o i = true) : Cond.methodLink (am_cn o) i Lib.Math.min.name ∈ lw_g := by
  unfold am_mn at h
  obtain ⟨q, hq, h1⟩ := List.any_eq_true.mp h
  have h2 := am_mnl_ok q hq
  simp only [Bool.and_eq_true] at h1
  rw [Nat.eq_of_beq_eq_true h1.1, Nat.eq_of_beq_eq_true h1.2] at h2
  exact h2
theorem am_mnn : Cond.static Lib.Math.min.name ∈ lw_g ∧ Cond.initialized "java/lang/Math" ∈ lw_g ∧ Cond.code Lib.Math.min.name Lib.Math.min.code 2 (some .int) ∈ lw_g := ⟨am_gw 379 (by decide +kernel) (by decide +kernel), am_gw 47 (by decide +kernel) (by decide +kernel), am_gw 380 (by decide +kernel) (by decide +kernel)⟩
theorem am_cpl_ok : ∀ q ∈ am_cpl, Cond.methodLink (am_cn q.1) q.2.1 arraycopyName ∈ lw_g := List.forall_mem_cons.mpr ⟨am_gw 596 (by decide +kernel) (by decide +kernel), List.forall_mem_cons.mpr ⟨am_gw 640 (by decide +kernel) (by decide +kernel), fun _ h => absurd h List.not_mem_nil⟩⟩
theorem am_cp_ok {o i : Nat} (h : am_cp o i = true) : Cond.methodLink (am_cn o) i arraycopyName ∈ lw_g := by
  unfold am_cp at h
  obtain ⟨q, hq, h1⟩ := List.any_eq_true.mp h
  have h2 := am_cpl_ok q hq
  simp only [Bool.and_eq_true] at h1
  rw [Nat.eq_of_beq_eq_true h1.1, Nat.eq_of_beq_eq_true h1.2] at h2
  exact h2
theorem am_cpn : Cond.native arraycopyName ∈ lw_g ∧ Cond.static arraycopyName ∈ lw_g ∧ Cond.initialized "java/lang/System" ∈ lw_g := ⟨am_gw 598 (by decide +kernel) (by decide +kernel), am_gw 597 (by decide +kernel) (by decide +kernel), am_gw 49 (by decide +kernel) (by decide +kernel)⟩
/-- what is asked of a field's type, by its kind -/
def am_tk (k : Nat) (t : FieldType) : Bool := match k, t with
  | 0, .int => true
  | 1, .object _ => true
  | 1, .array _ => true
  | 2, .object _ => true
  | 2, .array _ => true
  | _, _ => false
def am_clP (c : Nat) (q : vw_C) : Prop := (∀ w ∈ u_ws q.1 q.2.1 q.2.2, w ∈ lw_g) ∧ ∃ ty : Nat → FieldType, (∀ k, k < q.2.2 → parseFieldDescriptor (q.2.1 k).2.2.1 = some (ty k)) ∧ (∀ a, a < q.2.2 → ∀ b, b < q.2.2 → a ≠ b → (q.2.1 a).2.1 ≠ (q.2.1 b).2.1) ∧ ∀ k, k < q.2.2 → am_tk (am_fk c k) (ty k) = true
theorem am_cl_0 : am_clP 0 (RX0, TX0, 5) := ⟨fun w h => List.mem_filter.mpr ⟨inX0 w h, List.all_eq_true.mp (show (u_ws RX0 TX0 5).all goodWord = true by decide +kernel) w h⟩, tyX0, tyX0_ok, nmX0, by decide +kernel⟩
theorem am_cl_1 : am_clP 1 (RX1, TX1, 4) := ⟨fun w h => List.mem_filter.mpr ⟨inX1 w h, List.all_eq_true.mp (show (u_ws RX1 TX1 4).all goodWord = true by decide +kernel) w h⟩, tyX1, tyX1_ok, nmX1, by decide +kernel⟩
theorem am_cl_2 : am_clP 2 (RX2, TX2, 18) := ⟨fun w h => List.mem_filter.mpr ⟨inX2 w h, List.all_eq_true.mp (show (u_ws RX2 TX2 18).all goodWord = true by decide +kernel) w h⟩, tyX2, tyX2_ok, nmX2, by decide +kernel⟩
theorem am_cl_3 : am_clP 3 (RX3, TX3, 4) := ⟨fun w h => List.mem_filter.mpr ⟨inX3 w h, List.all_eq_true.mp (show (u_ws RX3 TX3 4).all goodWord = true by decide +kernel) w h⟩, tyX3, tyX3_ok, nmX3, by decide +kernel⟩
theorem am_cl_4 : am_clP 4 (RX4, TX4, 5) := ⟨fun w h => List.mem_filter.mpr ⟨inX4 w h, List.all_eq_true.mp (show (u_ws RX4 TX4 5).all goodWord = true by decide +kernel) w h⟩, tyX4, tyX4_ok, nmX4, by decide +kernel⟩
theorem am_cl_5 : am_clP 5 (RX5, TX5, 7) := ⟨fun w h => List.mem_filter.mpr ⟨inX5 w h, List.all_eq_true.mp (show (u_ws RX5 TX5 7).all goodWord = true by decide +kernel) w h⟩, tyX5, tyX5_ok, nmX5, by decide +kernel⟩
theorem am_cl_6 : am_clP 6 (RX6, TX6, 11) := ⟨fun w h => List.mem_filter.mpr ⟨inX6 w h, List.all_eq_true.mp (show (u_ws RX6 TX6 11).all goodWord = true by decide +kernel) w h⟩, tyX6, tyX6_ok, nmX6, by decide +kernel⟩
theorem am_cl_7 : am_clP 7 (RX7, TX7, 33) := ⟨fun w h => List.mem_filter.mpr ⟨inX7 w h, List.all_eq_true.mp (show (u_ws RX7 TX7 33).all goodWord = true by decide +kernel) w h⟩, tyX7, tyX7_ok, nmX7, by decide +kernel⟩
theorem am_cl_ok {c : Nat} {q : vw_C} (h : vwCl[c]? = some q) : am_clP c q := by
  match c, h with
  | 0, h => cases h; exact am_cl_0
  | 1, h => cases h; exact am_cl_1
  | 2, h => cases h; exact am_cl_2
  | 3, h => cases h; exact am_cl_3
  | 4, h => cases h; exact am_cl_4
  | 5, h => cases h; exact am_cl_5
  | 6, h => cases h; exact am_cl_6
  | 7, h => cases h; exact am_cl_7
  | c + 8, h => exact absurd h (by simp [vwCl])
