theorem wf_X8_44 : Cond.fieldLink "PictureJoin" 44 "PictureJoin$World" "seed" "I" ∈ jws := jm (List.mem_of_getElem? (i := 69) (by decide +kernel)) (by decide +kernel)
theorem wf_X7_11 : Cond.fieldLink "PictureJoin$World" 11 "PictureJoin$World" "seed" "I" ∈ jws := jm (List.mem_of_getElem? (i := 70) (by decide +kernel)) (by decide +kernel)
theorem wf_X1_9 : Cond.fieldLink "PictureJoin$Dots" 9 "PictureJoin$Dots" "values" "[I" ∈ jws := jm (List.mem_of_getElem? (i := 95) (by decide +kernel)) (by decide +kernel)
theorem wf_X1_15 : Cond.fieldLink "PictureJoin$Dots" 15 "PictureJoin$Dots" "scores" "[I" ∈ jws := jm (List.mem_of_getElem? (i := 96) (by decide +kernel)) (by decide +kernel)
theorem wf_X1_24 : Cond.fieldLink "PictureJoin$Dots" 24 "PictureJoin$Dots" "width" "I" ∈ jws := jm (List.mem_of_getElem? (i := 97) (by decide +kernel)) (by decide +kernel)
theorem wf_X2_33 : Cond.fieldLink "PictureJoin$Marks" 33 "PictureJoin$Dots" "width" "I" ∈ jws := jm (List.mem_of_getElem? (i := 98) (by decide +kernel)) (by decide +kernel)
theorem wf_X7_24 : Cond.fieldLink "PictureJoin$World" 24 "PictureJoin$Dots" "width" "I" ∈ jws := jm (List.mem_of_getElem? (i := 99) (by decide +kernel)) (by decide +kernel)
theorem wf_X5_39 : Cond.fieldLink "PictureJoin$Picture" 39 "PictureJoin$Dots" "width" "I" ∈ jws := jm (List.mem_of_getElem? (i := 100) (by decide +kernel)) (by decide +kernel)
theorem wf_X0_121 : Cond.fieldLink "PictureJoin$Album" 121 "PictureJoin$Dots" "width" "I" ∈ jws := jm (List.mem_of_getElem? (i := 101) (by decide +kernel)) (by decide +kernel)
theorem wf_X8_154 : Cond.fieldLink "PictureJoin" 154 "PictureJoin$Dots" "width" "I" ∈ jws := jm (List.mem_of_getElem? (i := 102) (by decide +kernel)) (by decide +kernel)
theorem wf_X2_28 : Cond.fieldLink "PictureJoin$Marks" 28 "PictureJoin$Dots" "height" "I" ∈ jws := jm (List.mem_of_getElem? (i := 103) (by decide +kernel)) (by decide +kernel)
theorem wf_X1_28 : Cond.fieldLink "PictureJoin$Dots" 28 "PictureJoin$Dots" "height" "I" ∈ jws := jm (List.mem_of_getElem? (i := 104) (by decide +kernel)) (by decide +kernel)
theorem wf_X7_19 : Cond.fieldLink "PictureJoin$World" 19 "PictureJoin$Dots" "height" "I" ∈ jws := jm (List.mem_of_getElem? (i := 105) (by decide +kernel)) (by decide +kernel)
theorem wf_X5_42 : Cond.fieldLink "PictureJoin$Picture" 42 "PictureJoin$Dots" "height" "I" ∈ jws := jm (List.mem_of_getElem? (i := 106) (by decide +kernel)) (by decide +kernel)
theorem wf_X0_118 : Cond.fieldLink "PictureJoin$Album" 118 "PictureJoin$Dots" "height" "I" ∈ jws := jm (List.mem_of_getElem? (i := 107) (by decide +kernel)) (by decide +kernel)
theorem wf_X8_157 : Cond.fieldLink "PictureJoin" 157 "PictureJoin$Dots" "height" "I" ∈ jws := jm (List.mem_of_getElem? (i := 108) (by decide +kernel)) (by decide +kernel)
theorem wf_X1_31 : Cond.fieldLink "PictureJoin$Dots" 31 "PictureJoin$Dots" "changed" "Z" ∈ jws := jm (List.mem_of_getElem? (i := 109) (by decide +kernel)) (by decide +kernel)
theorem wf_X2_9 : Cond.fieldLink "PictureJoin$Marks" 9 "PictureJoin$Marks" "columns" "[I" ∈ jws := jm (List.mem_of_getElem? (i := 128) (by decide +kernel)) (by decide +kernel)
theorem wf_X4_54 : Cond.fieldLink "PictureJoin$Pairing" 54 "PictureJoin$Marks" "columns" "[I" ∈ jws := jm (List.mem_of_getElem? (i := 129) (by decide +kernel)) (by decide +kernel)
theorem wf_X8_116 : Cond.fieldLink "PictureJoin" 116 "PictureJoin$Marks" "columns" "[I" ∈ jws := jm (List.mem_of_getElem? (i := 130) (by decide +kernel)) (by decide +kernel)
theorem wf_X2_15 : Cond.fieldLink "PictureJoin$Marks" 15 "PictureJoin$Marks" "rows" "[I" ∈ jws := jm (List.mem_of_getElem? (i := 131) (by decide +kernel)) (by decide +kernel)
theorem wf_X4_57 : Cond.fieldLink "PictureJoin$Pairing" 57 "PictureJoin$Marks" "rows" "[I" ∈ jws := jm (List.mem_of_getElem? (i := 132) (by decide +kernel)) (by decide +kernel)
theorem wf_X8_120 : Cond.fieldLink "PictureJoin" 120 "PictureJoin$Marks" "rows" "[I" ∈ jws := jm (List.mem_of_getElem? (i := 133) (by decide +kernel)) (by decide +kernel)
theorem wf_X2_18 : Cond.fieldLink "PictureJoin$Marks" 18 "PictureJoin$Marks" "heights" "[I" ∈ jws := jm (List.mem_of_getElem? (i := 134) (by decide +kernel)) (by decide +kernel)
theorem wf_X8_123 : Cond.fieldLink "PictureJoin" 123 "PictureJoin$Marks" "heights" "[I" ∈ jws := jm (List.mem_of_getElem? (i := 135) (by decide +kernel)) (by decide +kernel)
theorem wf_X2_21 : Cond.fieldLink "PictureJoin$Marks" 21 "PictureJoin$Marks" "signs" "[I" ∈ jws := jm (List.mem_of_getElem? (i := 136) (by decide +kernel)) (by decide +kernel)
theorem wf_X4_42 : Cond.fieldLink "PictureJoin$Pairing" 42 "PictureJoin$Marks" "signs" "[I" ∈ jws := jm (List.mem_of_getElem? (i := 137) (by decide +kernel)) (by decide +kernel)
theorem wf_X8_126 : Cond.fieldLink "PictureJoin" 126 "PictureJoin$Marks" "signs" "[I" ∈ jws := jm (List.mem_of_getElem? (i := 138) (by decide +kernel)) (by decide +kernel)
theorem wf_X2_24 : Cond.fieldLink "PictureJoin$Marks" 24 "PictureJoin$Marks" "count" "I" ∈ jws := jm (List.mem_of_getElem? (i := 139) (by decide +kernel)) (by decide +kernel)
theorem wf_X4_19 : Cond.fieldLink "PictureJoin$Pairing" 19 "PictureJoin$Marks" "count" "I" ∈ jws := jm (List.mem_of_getElem? (i := 140) (by decide +kernel)) (by decide +kernel)
theorem wf_X8_109 : Cond.fieldLink "PictureJoin" 109 "PictureJoin$Marks" "count" "I" ∈ jws := jm (List.mem_of_getElem? (i := 141) (by decide +kernel)) (by decide +kernel)
theorem wf_X5_12 : Cond.fieldLink "PictureJoin$Picture" 12 "PictureJoin$Picture" "dots" "LPictureJoin$Dots;" ∈ jws := jm (List.mem_of_getElem? (i := 153) (by decide +kernel)) (by decide +kernel)
theorem wf_X0_37 : Cond.fieldLink "PictureJoin$Album" 37 "PictureJoin$Picture" "dots" "LPictureJoin$Dots;" ∈ jws := jm (List.mem_of_getElem? (i := 154) (by decide +kernel)) (by decide +kernel)
theorem wf_X8_62 : Cond.fieldLink "PictureJoin" 62 "PictureJoin$Picture" "dots" "LPictureJoin$Dots;" ∈ jws := jm (List.mem_of_getElem? (i := 155) (by decide +kernel)) (by decide +kernel)
theorem wf_X5_21 : Cond.fieldLink "PictureJoin$Picture" 21 "PictureJoin$Picture" "marks" "LPictureJoin$Marks;" ∈ jws := jm (List.mem_of_getElem? (i := 156) (by decide +kernel)) (by decide +kernel)
theorem wf_X0_46 : Cond.fieldLink "PictureJoin$Album" 46 "PictureJoin$Picture" "marks" "LPictureJoin$Marks;" ∈ jws := jm (List.mem_of_getElem? (i := 157) (by decide +kernel)) (by decide +kernel)
theorem wf_X8_105 : Cond.fieldLink "PictureJoin" 105 "PictureJoin$Picture" "marks" "LPictureJoin$Marks;" ∈ jws := jm (List.mem_of_getElem? (i := 158) (by decide +kernel)) (by decide +kernel)
theorem wf_X5_29 : Cond.fieldLink "PictureJoin$Picture" 29 "PictureJoin$Picture" "x" "I" ∈ jws := jm (List.mem_of_getElem? (i := 159) (by decide +kernel)) (by decide +kernel)
theorem wf_X0_80 : Cond.fieldLink "PictureJoin$Album" 80 "PictureJoin$Picture" "x" "I" ∈ jws := jm (List.mem_of_getElem? (i := 160) (by decide +kernel)) (by decide +kernel)
theorem wf_X8_164 : Cond.fieldLink "PictureJoin" 164 "PictureJoin$Picture" "x" "I" ∈ jws := jm (List.mem_of_getElem? (i := 161) (by decide +kernel)) (by decide +kernel)
theorem wf_X5_32 : Cond.fieldLink "PictureJoin$Picture" 32 "PictureJoin$Picture" "y" "I" ∈ jws := jm (List.mem_of_getElem? (i := 162) (by decide +kernel)) (by decide +kernel)
theorem wf_X0_84 : Cond.fieldLink "PictureJoin$Album" 84 "PictureJoin$Picture" "y" "I" ∈ jws := jm (List.mem_of_getElem? (i := 163) (by decide +kernel)) (by decide +kernel)
theorem wf_X8_165 : Cond.fieldLink "PictureJoin" 165 "PictureJoin$Picture" "y" "I" ∈ jws := jm (List.mem_of_getElem? (i := 164) (by decide +kernel)) (by decide +kernel)
theorem wf_X0_88 : Cond.fieldLink "PictureJoin$Album" 88 "PictureJoin$Picture" "joiner" "I" ∈ jws := jm (List.mem_of_getElem? (i := 165) (by decide +kernel)) (by decide +kernel)
theorem wf_X8_166 : Cond.fieldLink "PictureJoin" 166 "PictureJoin$Picture" "joiner" "I" ∈ jws := jm (List.mem_of_getElem? (i := 166) (by decide +kernel)) (by decide +kernel)
theorem wf_X5_25 : Cond.fieldLink "PictureJoin$Picture" 25 "PictureJoin$Picture" "rank" "I" ∈ jws := jm (List.mem_of_getElem? (i := 167) (by decide +kernel)) (by decide +kernel)
theorem wf_X0_69 : Cond.fieldLink "PictureJoin$Album" 69 "PictureJoin$Picture" "rank" "I" ∈ jws := jm (List.mem_of_getElem? (i := 168) (by decide +kernel)) (by decide +kernel)
theorem wf_X8_169 : Cond.fieldLink "PictureJoin" 169 "PictureJoin$Picture" "rank" "I" ∈ jws := jm (List.mem_of_getElem? (i := 169) (by decide +kernel)) (by decide +kernel)
theorem wf_X4_9 : Cond.fieldLink "PictureJoin$Pairing" 9 "PictureJoin$Pairing" "partners" "[I" ∈ jws := jm (List.mem_of_getElem? (i := 188) (by decide +kernel)) (by decide +kernel)
theorem wf_X8_136 : Cond.fieldLink "PictureJoin" 136 "PictureJoin$Pairing" "partners" "[I" ∈ jws := jm (List.mem_of_getElem? (i := 189) (by decide +kernel)) (by decide +kernel)
theorem wf_X4_15 : Cond.fieldLink "PictureJoin$Pairing" 15 "PictureJoin$Pairing" "matches" "I" ∈ jws := jm (List.mem_of_getElem? (i := 190) (by decide +kernel)) (by decide +kernel)
theorem wf_X8_141 : Cond.fieldLink "PictureJoin" 141 "PictureJoin$Pairing" "matches" "I" ∈ jws := jm (List.mem_of_getElem? (i := 191) (by decide +kernel)) (by decide +kernel)
theorem wf_X4_28 : Cond.fieldLink "PictureJoin$Pairing" 28 "PictureJoin$Pairing" "votes" "I" ∈ jws := jm (List.mem_of_getElem? (i := 192) (by decide +kernel)) (by decide +kernel)
theorem wf_X0_95 : Cond.fieldLink "PictureJoin$Album" 95 "PictureJoin$Pairing" "votes" "I" ∈ jws := jm (List.mem_of_getElem? (i := 193) (by decide +kernel)) (by decide +kernel)
theorem wf_X8_144 : Cond.fieldLink "PictureJoin" 144 "PictureJoin$Pairing" "votes" "I" ∈ jws := jm (List.mem_of_getElem? (i := 194) (by decide +kernel)) (by decide +kernel)
theorem wf_X0_83 : Cond.fieldLink "PictureJoin$Album" 83 "PictureJoin$Pairing" "x" "I" ∈ jws := jm (List.mem_of_getElem? (i := 195) (by decide +kernel)) (by decide +kernel)
theorem wf_X4_60 : Cond.fieldLink "PictureJoin$Pairing" 60 "PictureJoin$Pairing" "x" "I" ∈ jws := jm (List.mem_of_getElem? (i := 196) (by decide +kernel)) (by decide +kernel)
theorem wf_X8_148 : Cond.fieldLink "PictureJoin" 148 "PictureJoin$Pairing" "x" "I" ∈ jws := jm (List.mem_of_getElem? (i := 197) (by decide +kernel)) (by decide +kernel)
theorem wf_X0_87 : Cond.fieldLink "PictureJoin$Album" 87 "PictureJoin$Pairing" "y" "I" ∈ jws := jm (List.mem_of_getElem? (i := 198) (by decide +kernel)) (by decide +kernel)
theorem wf_X4_63 : Cond.fieldLink "PictureJoin$Pairing" 63 "PictureJoin$Pairing" "y" "I" ∈ jws := jm (List.mem_of_getElem? (i := 199) (by decide +kernel)) (by decide +kernel)
theorem wf_X8_151 : Cond.fieldLink "PictureJoin" 151 "PictureJoin$Pairing" "y" "I" ∈ jws := jm (List.mem_of_getElem? (i := 200) (by decide +kernel)) (by decide +kernel)
theorem wf_X0_11 : Cond.fieldLink "PictureJoin$Album" 11 "PictureJoin$Album" "pictures" "[LPictureJoin$Picture;" ∈ jws := jm (List.mem_of_getElem? (i := 212) (by decide +kernel)) (by decide +kernel)
theorem wf_X8_58 : Cond.fieldLink "PictureJoin" 58 "PictureJoin$Album" "pictures" "[LPictureJoin$Picture;" ∈ jws := jm (List.mem_of_getElem? (i := 213) (by decide +kernel)) (by decide +kernel)
theorem wf_X0_19 : Cond.fieldLink "PictureJoin$Album" 19 "PictureJoin$Album" "pairings" "[LPictureJoin$Pairing;" ∈ jws := jm (List.mem_of_getElem? (i := 214) (by decide +kernel)) (by decide +kernel)
theorem wf_X0_23 : Cond.fieldLink "PictureJoin$Album" 23 "PictureJoin$Album" "order" "[I" ∈ jws := jm (List.mem_of_getElem? (i := 215) (by decide +kernel)) (by decide +kernel)
theorem wf_X0_33 : Cond.fieldLink "PictureJoin$Album" 33 "PictureJoin$Album" "count" "I" ∈ jws := jm (List.mem_of_getElem? (i := 216) (by decide +kernel)) (by decide +kernel)
theorem wf_X8_55 : Cond.fieldLink "PictureJoin" 55 "PictureJoin$Album" "count" "I" ∈ jws := jm (List.mem_of_getElem? (i := 217) (by decide +kernel)) (by decide +kernel)
theorem wf_X0_66 : Cond.fieldLink "PictureJoin$Album" 66 "PictureJoin$Album" "joinedCount" "I" ∈ jws := jm (List.mem_of_getElem? (i := 218) (by decide +kernel)) (by decide +kernel)
theorem wf_X8_176 : Cond.fieldLink "PictureJoin" 176 "PictureJoin$Album" "joinedCount" "I" ∈ jws := jm (List.mem_of_getElem? (i := 219) (by decide +kernel)) (by decide +kernel)
theorem wf_X0_29 : Cond.fieldLink "PictureJoin$Album" 29 "PictureJoin$Album" "stale" "Z" ∈ jws := jm (List.mem_of_getElem? (i := 220) (by decide +kernel)) (by decide +kernel)
theorem wf_X8_78 : Cond.fieldLink "PictureJoin" 78 "PictureJoin$Album" "stale" "Z" ∈ jws := jm (List.mem_of_getElem? (i := 221) (by decide +kernel)) (by decide +kernel)
theorem wf_X3_21 : Cond.fieldLink "PictureJoin$Overlap" 21 "PictureJoin$Overlap" "x" "I" ∈ jws := jm (List.mem_of_getElem? (i := 241) (by decide +kernel)) (by decide +kernel)
theorem wf_X6_27 : Cond.fieldLink "PictureJoin$Seam" 27 "PictureJoin$Overlap" "x" "I" ∈ jws := jm (List.mem_of_getElem? (i := 242) (by decide +kernel)) (by decide +kernel)
theorem wf_X8_188 : Cond.fieldLink "PictureJoin" 188 "PictureJoin$Overlap" "x" "I" ∈ jws := jm (List.mem_of_getElem? (i := 243) (by decide +kernel)) (by decide +kernel)
theorem wf_X3_27 : Cond.fieldLink "PictureJoin$Overlap" 27 "PictureJoin$Overlap" "y" "I" ∈ jws := jm (List.mem_of_getElem? (i := 244) (by decide +kernel)) (by decide +kernel)
theorem wf_X6_30 : Cond.fieldLink "PictureJoin$Seam" 30 "PictureJoin$Overlap" "y" "I" ∈ jws := jm (List.mem_of_getElem? (i := 245) (by decide +kernel)) (by decide +kernel)
theorem wf_X8_189 : Cond.fieldLink "PictureJoin" 189 "PictureJoin$Overlap" "y" "I" ∈ jws := jm (List.mem_of_getElem? (i := 246) (by decide +kernel)) (by decide +kernel)
theorem wf_X6_18 : Cond.fieldLink "PictureJoin$Seam" 18 "PictureJoin$Overlap" "width" "I" ∈ jws := jm (List.mem_of_getElem? (i := 247) (by decide +kernel)) (by decide +kernel)
theorem wf_X3_33 : Cond.fieldLink "PictureJoin$Overlap" 33 "PictureJoin$Overlap" "width" "I" ∈ jws := jm (List.mem_of_getElem? (i := 248) (by decide +kernel)) (by decide +kernel)
theorem wf_X8_190 : Cond.fieldLink "PictureJoin" 190 "PictureJoin$Overlap" "width" "I" ∈ jws := jm (List.mem_of_getElem? (i := 249) (by decide +kernel)) (by decide +kernel)
theorem wf_X6_24 : Cond.fieldLink "PictureJoin$Seam" 24 "PictureJoin$Overlap" "height" "I" ∈ jws := jm (List.mem_of_getElem? (i := 250) (by decide +kernel)) (by decide +kernel)
theorem wf_X3_36 : Cond.fieldLink "PictureJoin$Overlap" 36 "PictureJoin$Overlap" "height" "I" ∈ jws := jm (List.mem_of_getElem? (i := 251) (by decide +kernel)) (by decide +kernel)
theorem wf_X8_191 : Cond.fieldLink "PictureJoin" 191 "PictureJoin$Overlap" "height" "I" ∈ jws := jm (List.mem_of_getElem? (i := 252) (by decide +kernel)) (by decide +kernel)
theorem wf_X3_43 : Cond.fieldLink "PictureJoin$Overlap" 43 "PictureJoin$Overlap" "firstLight" "I" ∈ jws := jm (List.mem_of_getElem? (i := 253) (by decide +kernel)) (by decide +kernel)
theorem wf_X8_195 : Cond.fieldLink "PictureJoin" 195 "PictureJoin$Overlap" "firstLight" "I" ∈ jws := jm (List.mem_of_getElem? (i := 254) (by decide +kernel)) (by decide +kernel)
theorem wf_X3_46 : Cond.fieldLink "PictureJoin$Overlap" 46 "PictureJoin$Overlap" "secondLight" "I" ∈ jws := jm (List.mem_of_getElem? (i := 255) (by decide +kernel)) (by decide +kernel)
theorem wf_X8_198 : Cond.fieldLink "PictureJoin" 198 "PictureJoin$Overlap" "secondLight" "I" ∈ jws := jm (List.mem_of_getElem? (i := 256) (by decide +kernel)) (by decide +kernel)
theorem wf_X3_49 : Cond.fieldLink "PictureJoin$Overlap" 49 "PictureJoin$Overlap" "bothTold" "I" ∈ jws := jm (List.mem_of_getElem? (i := 257) (by decide +kernel)) (by decide +kernel)
theorem wf_X8_201 : Cond.fieldLink "PictureJoin" 201 "PictureJoin$Overlap" "bothTold" "I" ∈ jws := jm (List.mem_of_getElem? (i := 258) (by decide +kernel)) (by decide +kernel)
theorem wf_X6_9 : Cond.fieldLink "PictureJoin$Seam" 9 "PictureJoin$Seam" "costs" "[I" ∈ jws := jm (List.mem_of_getElem? (i := 280) (by decide +kernel)) (by decide +kernel)
theorem wf_X6_15 : Cond.fieldLink "PictureJoin$Seam" 15 "PictureJoin$Seam" "columns" "[I" ∈ jws := jm (List.mem_of_getElem? (i := 281) (by decide +kernel)) (by decide +kernel)
theorem wf_X8_213 : Cond.fieldLink "PictureJoin" 213 "PictureJoin$Seam" "columns" "[I" ∈ jws := jm (List.mem_of_getElem? (i := 282) (by decide +kernel)) (by decide +kernel)
theorem wf_X6_45 : Cond.fieldLink "PictureJoin$Seam" 45 "PictureJoin$Seam" "cost" "I" ∈ jws := jm (List.mem_of_getElem? (i := 283) (by decide +kernel)) (by decide +kernel)
theorem wf_X8_210 : Cond.fieldLink "PictureJoin" 210 "PictureJoin$Seam" "cost" "I" ∈ jws := jm (List.mem_of_getElem? (i := 284) (by decide +kernel)) (by decide +kernel)
theorem wf_X8_12 : Cond.fieldLink "PictureJoin" 12 "PictureJoin" "world" "LPictureJoin$World;" ∈ jws := jm (List.mem_of_getElem? (i := 292) (by decide +kernel)) (by decide +kernel)
theorem wf_X8_19 : Cond.fieldLink "PictureJoin" 19 "PictureJoin" "album" "LPictureJoin$Album;" ∈ jws := jm (List.mem_of_getElem? (i := 293) (by decide +kernel)) (by decide +kernel)
theorem wf_X8_26 : Cond.fieldLink "PictureJoin" 26 "PictureJoin" "common" "LPictureJoin$Overlap;" ∈ jws := jm (List.mem_of_getElem? (i := 294) (by decide +kernel)) (by decide +kernel)
theorem wf_X8_33 : Cond.fieldLink "PictureJoin" 33 "PictureJoin" "cut" "LPictureJoin$Seam;" ∈ jws := jm (List.mem_of_getElem? (i := 295) (by decide +kernel)) (by decide +kernel)
theorem wf_X8_37 : Cond.fieldLink "PictureJoin" 37 "PictureJoin" "bar" "I" ∈ jws := jm (List.mem_of_getElem? (i := 296) (by decide +kernel)) (by decide +kernel)
theorem wf_X8_41 : Cond.fieldLink "PictureJoin" 41 "PictureJoin" "near" "I" ∈ jws := jm (List.mem_of_getElem? (i := 297) (by decide +kernel)) (by decide +kernel)
theorem wf_X1_44 : Cond.fieldLink "PictureJoin$Dots" 44 "PictureJoin$Dots" "WAYS_X" "[I" ∈ jws := jm (List.mem_of_getElem? (i := 398) (by decide +kernel)) (by decide +kernel)
theorem wf_X1_47 : Cond.fieldLink "PictureJoin$Dots" 47 "PictureJoin$Dots" "WAYS_Y" "[I" ∈ jws := jm (List.mem_of_getElem? (i := 400) (by decide +kernel)) (by decide +kernel)
theorem wf_X9_75 : Cond.fieldLink "PictureJoinModel" 75 "PictureJoinModel" "seed" "I" ∈ jws := jm (List.mem_of_getElem? (i := 634) (by decide +kernel)) (by decide +kernel)
theorem wf_X9_68 : Cond.fieldLink "PictureJoinModel" 68 "PictureJoinModel" "pictures" "I" ∈ jws := jm (List.mem_of_getElem? (i := 635) (by decide +kernel)) (by decide +kernel)
theorem wf_X9_7 : Cond.fieldLink "PictureJoinModel" 7 "PictureJoinModel" "wide" "[I" ∈ jws := jm (List.mem_of_getElem? (i := 636) (by decide +kernel)) (by decide +kernel)
theorem wf_X9_13 : Cond.fieldLink "PictureJoinModel" 13 "PictureJoinModel" "high" "[I" ∈ jws := jm (List.mem_of_getElem? (i := 637) (by decide +kernel)) (by decide +kernel)
theorem wf_X9_16 : Cond.fieldLink "PictureJoinModel" 16 "PictureJoinModel" "dots" "[I" ∈ jws := jm (List.mem_of_getElem? (i := 638) (by decide +kernel)) (by decide +kernel)
theorem wf_X9_19 : Cond.fieldLink "PictureJoinModel" 19 "PictureJoinModel" "bar" "I" ∈ jws := jm (List.mem_of_getElem? (i := 639) (by decide +kernel)) (by decide +kernel)
theorem wf_X9_23 : Cond.fieldLink "PictureJoinModel" 23 "PictureJoinModel" "near" "I" ∈ jws := jm (List.mem_of_getElem? (i := 640) (by decide +kernel)) (by decide +kernel)
theorem wf_X9_86 : Cond.fieldLink "PictureJoinModel" 86 "PictureJoinModel" "isLaid" "Z" ∈ jws := jm (List.mem_of_getElem? (i := 641) (by decide +kernel)) (by decide +kernel)
theorem wf_X9_26 : Cond.fieldLink "PictureJoinModel" 26 "PictureJoinModel" "score" "[I" ∈ jws := jm (List.mem_of_getElem? (i := 642) (by decide +kernel)) (by decide +kernel)
theorem wf_X9_29 : Cond.fieldLink "PictureJoinModel" 29 "PictureJoinModel" "marks" "[I" ∈ jws := jm (List.mem_of_getElem? (i := 643) (by decide +kernel)) (by decide +kernel)
theorem wf_X9_32 : Cond.fieldLink "PictureJoinModel" 32 "PictureJoinModel" "markAt" "[I" ∈ jws := jm (List.mem_of_getElem? (i := 644) (by decide +kernel)) (by decide +kernel)
theorem wf_X9_35 : Cond.fieldLink "PictureJoinModel" 35 "PictureJoinModel" "sign" "[I" ∈ jws := jm (List.mem_of_getElem? (i := 645) (by decide +kernel)) (by decide +kernel)
theorem wf_X9_38 : Cond.fieldLink "PictureJoinModel" 38 "PictureJoinModel" "match" "[I" ∈ jws := jm (List.mem_of_getElem? (i := 646) (by decide +kernel)) (by decide +kernel)
theorem wf_X9_41 : Cond.fieldLink "PictureJoinModel" 41 "PictureJoinModel" "shiftX" "[I" ∈ jws := jm (List.mem_of_getElem? (i := 647) (by decide +kernel)) (by decide +kernel)
theorem wf_X9_44 : Cond.fieldLink "PictureJoinModel" 44 "PictureJoinModel" "shiftY" "[I" ∈ jws := jm (List.mem_of_getElem? (i := 648) (by decide +kernel)) (by decide +kernel)
theorem wf_X9_47 : Cond.fieldLink "PictureJoinModel" 47 "PictureJoinModel" "votes" "[I" ∈ jws := jm (List.mem_of_getElem? (i := 649) (by decide +kernel)) (by decide +kernel)
theorem wf_X9_50 : Cond.fieldLink "PictureJoinModel" 50 "PictureJoinModel" "matches" "[I" ∈ jws := jm (List.mem_of_getElem? (i := 650) (by decide +kernel)) (by decide +kernel)
theorem wf_X9_137 : Cond.fieldLink "PictureJoinModel" 137 "PictureJoinModel" "joined" "I" ∈ jws := jm (List.mem_of_getElem? (i := 651) (by decide +kernel)) (by decide +kernel)
theorem wf_X9_53 : Cond.fieldLink "PictureJoinModel" 53 "PictureJoinModel" "placeX" "[I" ∈ jws := jm (List.mem_of_getElem? (i := 652) (by decide +kernel)) (by decide +kernel)
theorem wf_X9_56 : Cond.fieldLink "PictureJoinModel" 56 "PictureJoinModel" "placeY" "[I" ∈ jws := jm (List.mem_of_getElem? (i := 653) (by decide +kernel)) (by decide +kernel)
theorem wf_X9_59 : Cond.fieldLink "PictureJoinModel" 59 "PictureJoinModel" "by" "[I" ∈ jws := jm (List.mem_of_getElem? (i := 654) (by decide +kernel)) (by decide +kernel)
theorem wf_X9_62 : Cond.fieldLink "PictureJoinModel" 62 "PictureJoinModel" "order" "[I" ∈ jws := jm (List.mem_of_getElem? (i := 655) (by decide +kernel)) (by decide +kernel)
theorem wf_X9_161 : Cond.fieldLink "PictureJoinModel" 161 "PictureJoinModel" "overX" "I" ∈ jws := jm (List.mem_of_getElem? (i := 656) (by decide +kernel)) (by decide +kernel)
theorem wf_X9_164 : Cond.fieldLink "PictureJoinModel" 164 "PictureJoinModel" "overY" "I" ∈ jws := jm (List.mem_of_getElem? (i := 657) (by decide +kernel)) (by decide +kernel)
theorem wf_X9_167 : Cond.fieldLink "PictureJoinModel" 167 "PictureJoinModel" "overWide" "I" ∈ jws := jm (List.mem_of_getElem? (i := 658) (by decide +kernel)) (by decide +kernel)
theorem wf_X9_170 : Cond.fieldLink "PictureJoinModel" 170 "PictureJoinModel" "overHigh" "I" ∈ jws := jm (List.mem_of_getElem? (i := 659) (by decide +kernel)) (by decide +kernel)
theorem wf_X9_65 : Cond.fieldLink "PictureJoinModel" 65 "PictureJoinModel" "least" "[I" ∈ jws := jm (List.mem_of_getElem? (i := 660) (by decide +kernel)) (by decide +kernel)
theorem wm_L_9 : Cond.methodLink "PictureJoinLaw" 9 ⟨"PictureJoin", "<init>", "()V"⟩ ∈ jws := jm (List.mem_of_getElem? (i := 57) (by decide +kernel)) (by decide +kernel)
theorem wm_X8_3 : Cond.methodLink "PictureJoin" 3 ⟨"java/lang/Object", "<init>", "()V"⟩ ∈ jws := jm (List.mem_of_getElem? (i := 60) (by decide +kernel)) (by decide +kernel)
theorem wm_X7_3 : Cond.methodLink "PictureJoin$World" 3 ⟨"java/lang/Object", "<init>", "()V"⟩ ∈ jws := jm (List.mem_of_getElem? (i := 68) (by decide +kernel)) (by decide +kernel)
theorem wm_X8_18 : Cond.methodLink "PictureJoin" 18 ⟨"PictureJoin$Album", "<init>", "()V"⟩ ∈ jws := jm (List.mem_of_getElem? (i := 76) (by decide +kernel)) (by decide +kernel)
theorem wm_X0_3 : Cond.methodLink "PictureJoin$Album" 3 ⟨"java/lang/Object", "<init>", "()V"⟩ ∈ jws := jm (List.mem_of_getElem? (i := 79) (by decide +kernel)) (by decide +kernel)
theorem wm_X5_3 : Cond.methodLink "PictureJoin$Picture" 3 ⟨"java/lang/Object", "<init>", "()V"⟩ ∈ jws := jm (List.mem_of_getElem? (i := 88) (by decide +kernel)) (by decide +kernel)
theorem wm_X1_3 : Cond.methodLink "PictureJoin$Dots" 3 ⟨"java/lang/Object", "<init>", "()V"⟩ ∈ jws := jm (List.mem_of_getElem? (i := 94) (by decide +kernel)) (by decide +kernel)
theorem wm_X2_3 : Cond.methodLink "PictureJoin$Marks" 3 ⟨"java/lang/Object", "<init>", "()V"⟩ ∈ jws := jm (List.mem_of_getElem? (i := 127) (by decide +kernel)) (by decide +kernel)
theorem wm_X4_3 : Cond.methodLink "PictureJoin$Pairing" 3 ⟨"java/lang/Object", "<init>", "()V"⟩ ∈ jws := jm (List.mem_of_getElem? (i := 187) (by decide +kernel)) (by decide +kernel)
theorem wm_X3_3 : Cond.methodLink "PictureJoin$Overlap" 3 ⟨"java/lang/Object", "<init>", "()V"⟩ ∈ jws := jm (List.mem_of_getElem? (i := 240) (by decide +kernel)) (by decide +kernel)
theorem wm_X6_3 : Cond.methodLink "PictureJoin$Seam" 3 ⟨"java/lang/Object", "<init>", "()V"⟩ ∈ jws := jm (List.mem_of_getElem? (i := 279) (by decide +kernel)) (by decide +kernel)
theorem wm_L_13 : Cond.methodLink "PictureJoinLaw" 13 ⟨"PictureJoin", "seed", "(I)I"⟩ ∈ jws := jm (List.mem_of_getElem? (i := 311) (by decide +kernel)) (by decide +kernel)
theorem wm_L_18 : Cond.methodLink "PictureJoinLaw" 18 ⟨"PictureJoin", "light", "(II)I"⟩ ∈ jws := jm (List.mem_of_getElem? (i := 315) (by decide +kernel)) (by decide +kernel)
theorem wm_X8_47 : Cond.methodLink "PictureJoin" 47 ⟨"PictureJoin", "within", "(III)Z"⟩ ∈ jws := jm (List.mem_of_getElem? (i := 319) (by decide +kernel)) (by decide +kernel)
theorem wm_X8_51 : Cond.methodLink "PictureJoin" 51 ⟨"PictureJoin$World", "lightAt", "(II)I"⟩ ∈ jws := jm (List.mem_of_getElem? (i := 322) (by decide +kernel)) (by decide +kernel)
theorem wm_L_23 : Cond.methodLink "PictureJoinLaw" 23 ⟨"PictureJoin", "shoot", "(IIIII)I"⟩ ∈ jws := jm (List.mem_of_getElem? (i := 330) (by decide +kernel)) (by decide +kernel)
theorem wm_X8_68 : Cond.methodLink "PictureJoin" 68 ⟨"PictureJoin$Dots", "resize", "(II)V"⟩ ∈ jws := jm (List.mem_of_getElem? (i := 334) (by decide +kernel)) (by decide +kernel)
theorem wm_X1_18 : Cond.methodLink "PictureJoin$Dots" 18 ⟨"java/lang/Math", "min", "(II)I"⟩ ∈ jws := jm (List.mem_of_getElem? (i := 338) (by decide +kernel)) (by decide +kernel)
theorem wm_X8_74 : Cond.methodLink "PictureJoin" 74 ⟨"PictureJoin$World", "shootInto", "(LPictureJoin$Dots;III)V"⟩ ∈ jws := jm (List.mem_of_getElem? (i := 341) (by decide +kernel)) (by decide +kernel)
theorem wm_X7_27 : Cond.methodLink "PictureJoin$World" 27 ⟨"PictureJoin$World", "lightAt", "(II)I"⟩ ∈ jws := jm (List.mem_of_getElem? (i := 345) (by decide +kernel)) (by decide +kernel)
theorem wm_X7_31 : Cond.methodLink "PictureJoin$World" 31 ⟨"java/lang/Math", "min", "(II)I"⟩ ∈ jws := jm (List.mem_of_getElem? (i := 346) (by decide +kernel)) (by decide +kernel)
theorem wm_X7_36 : Cond.methodLink "PictureJoin$World" 36 ⟨"PictureJoin$Dots", "put", "(III)V"⟩ ∈ jws := jm (List.mem_of_getElem? (i := 347) (by decide +kernel)) (by decide +kernel)
theorem wm_X1_35 : Cond.methodLink "PictureJoin$Dots" 35 ⟨"PictureJoin$Dots", "has", "(II)Z"⟩ ∈ jws := jm (List.mem_of_getElem? (i := 351) (by decide +kernel)) (by decide +kernel)
theorem wm_L_28 : Cond.methodLink "PictureJoinLaw" 28 ⟨"PictureJoin", "clear", "()I"⟩ ∈ jws := jm (List.mem_of_getElem? (i := 355) (by decide +kernel)) (by decide +kernel)
theorem wm_L_33 : Cond.methodLink "PictureJoinLaw" 33 ⟨"PictureJoin", "dot", "(IIII)I"⟩ ∈ jws := jm (List.mem_of_getElem? (i := 359) (by decide +kernel)) (by decide +kernel)
theorem wm_X8_82 : Cond.methodLink "PictureJoin" 82 ⟨"PictureJoin", "isDot", "(III)Z"⟩ ∈ jws := jm (List.mem_of_getElem? (i := 363) (by decide +kernel)) (by decide +kernel)
theorem wm_X8_98 : Cond.methodLink "PictureJoin" 98 ⟨"PictureJoin", "isPicture", "(I)Z"⟩ ∈ jws := jm (List.mem_of_getElem? (i := 367) (by decide +kernel)) (by decide +kernel)
theorem wm_X8_227 : Cond.methodLink "PictureJoin" 227 ⟨"PictureJoin$Dots", "has", "(II)Z"⟩ ∈ jws := jm (List.mem_of_getElem? (i := 371) (by decide +kernel)) (by decide +kernel)
theorem wm_X8_87 : Cond.methodLink "PictureJoin" 87 ⟨"PictureJoin$Dots", "get", "(II)I"⟩ ∈ jws := jm (List.mem_of_getElem? (i := 374) (by decide +kernel)) (by decide +kernel)
theorem wm_X8_90 : Cond.methodLink "PictureJoin" 90 ⟨"PictureJoin$Dots", "put", "(III)V"⟩ ∈ jws := jm (List.mem_of_getElem? (i := 378) (by decide +kernel)) (by decide +kernel)
theorem wm_L_38 : Cond.methodLink "PictureJoinLaw" 38 ⟨"PictureJoin", "at", "(III)I"⟩ ∈ jws := jm (List.mem_of_getElem? (i := 379) (by decide +kernel)) (by decide +kernel)
theorem wm_L_43 : Cond.methodLink "PictureJoinLaw" 43 ⟨"PictureJoin", "rules", "(II)I"⟩ ∈ jws := jm (List.mem_of_getElem? (i := 383) (by decide +kernel)) (by decide +kernel)
theorem wm_L_47 : Cond.methodLink "PictureJoinLaw" 47 ⟨"PictureJoin", "score", "(III)I"⟩ ∈ jws := jm (List.mem_of_getElem? (i := 388) (by decide +kernel)) (by decide +kernel)
theorem wm_X8_95 : Cond.methodLink "PictureJoin" 95 ⟨"PictureJoin$Dots", "scoreOf", "(II)I"⟩ ∈ jws := jm (List.mem_of_getElem? (i := 392) (by decide +kernel)) (by decide +kernel)
theorem wm_X1_50 : Cond.methodLink "PictureJoin$Dots" 50 ⟨"PictureJoin$Dots", "changeAbout", "(IIII)I"⟩ ∈ jws := jm (List.mem_of_getElem? (i := 402) (by decide +kernel)) (by decide +kernel)
theorem wm_X1_54 : Cond.methodLink "PictureJoin$Dots" 54 ⟨"PictureJoin$Dots", "get", "(II)I"⟩ ∈ jws := jm (List.mem_of_getElem? (i := 406) (by decide +kernel)) (by decide +kernel)
theorem wm_L_51 : Cond.methodLink "PictureJoinLaw" 51 ⟨"PictureJoin", "marks", "(I)I"⟩ ∈ jws := jm (List.mem_of_getElem? (i := 407) (by decide +kernel)) (by decide +kernel)
theorem wm_X8_102 : Cond.methodLink "PictureJoin" 102 ⟨"PictureJoin$Album", "settle", "(II)V"⟩ ∈ jws := jm (List.mem_of_getElem? (i := 411) (by decide +kernel)) (by decide +kernel)
theorem wm_X0_41 : Cond.methodLink "PictureJoin$Album" 41 ⟨"PictureJoin$Dots", "scoreAll", "()V"⟩ ∈ jws := jm (List.mem_of_getElem? (i := 415) (by decide +kernel)) (by decide +kernel)
theorem wm_X1_57 : Cond.methodLink "PictureJoin$Dots" 57 ⟨"PictureJoin$Dots", "scoreOf", "(II)I"⟩ ∈ jws := jm (List.mem_of_getElem? (i := 419) (by decide +kernel)) (by decide +kernel)
theorem wm_X0_50 : Cond.methodLink "PictureJoin$Album" 50 ⟨"PictureJoin$Marks", "find", "(LPictureJoin$Dots;I)V"⟩ ∈ jws := jm (List.mem_of_getElem? (i := 420) (by decide +kernel)) (by decide +kernel)
theorem wm_X2_36 : Cond.methodLink "PictureJoin$Marks" 36 ⟨"PictureJoin$Dots", "keptScore", "(II)I"⟩ ∈ jws := jm (List.mem_of_getElem? (i := 424) (by decide +kernel)) (by decide +kernel)
theorem wm_X2_40 : Cond.methodLink "PictureJoin$Marks" 40 ⟨"PictureJoin$Dots", "isPeak", "(II)Z"⟩ ∈ jws := jm (List.mem_of_getElem? (i := 428) (by decide +kernel)) (by decide +kernel)
theorem wm_X1_60 : Cond.methodLink "PictureJoin$Dots" 60 ⟨"PictureJoin$Dots", "keptScore", "(II)I"⟩ ∈ jws := jm (List.mem_of_getElem? (i := 432) (by decide +kernel)) (by decide +kernel)
theorem wm_X2_44 : Cond.methodLink "PictureJoin$Marks" 44 ⟨"PictureJoin$Marks", "insert", "(III)V"⟩ ∈ jws := jm (List.mem_of_getElem? (i := 433) (by decide +kernel)) (by decide +kernel)
theorem wm_X2_51 : Cond.methodLink "PictureJoin$Marks" 51 ⟨"java/lang/Math", "min", "(II)I"⟩ ∈ jws := jm (List.mem_of_getElem? (i := 437) (by decide +kernel)) (by decide +kernel)
theorem wm_X2_48 : Cond.methodLink "PictureJoin$Marks" 48 ⟨"PictureJoin$Dots", "signOf", "(II)I"⟩ ∈ jws := jm (List.mem_of_getElem? (i := 438) (by decide +kernel)) (by decide +kernel)
theorem wm_X0_56 : Cond.methodLink "PictureJoin$Album" 56 ⟨"PictureJoin$Album", "pairingOf", "(II)LPictureJoin$Pairing;"⟩ ∈ jws := jm (List.mem_of_getElem? (i := 442) (by decide +kernel)) (by decide +kernel)
theorem wm_X0_60 : Cond.methodLink "PictureJoin$Album" 60 ⟨"PictureJoin$Pairing", "find", "(LPictureJoin$Marks;LPictureJoin$Marks;I)V"⟩ ∈ jws := jm (List.mem_of_getElem? (i := 446) (by decide +kernel)) (by decide +kernel)
theorem wm_X4_24 : Cond.methodLink "PictureJoin$Pairing" 24 ⟨"PictureJoin$Pairing", "partnerOf", "(LPictureJoin$Marks;ILPictureJoin$Marks;I)I"⟩ ∈ jws := jm (List.mem_of_getElem? (i := 450) (by decide +kernel)) (by decide +kernel)
theorem wm_X4_45 : Cond.methodLink "PictureJoin$Pairing" 45 ⟨"PictureJoin$Marks", "nearestTo", "(I)I"⟩ ∈ jws := jm (List.mem_of_getElem? (i := 453) (by decide +kernel)) (by decide +kernel)
theorem wm_X2_56 : Cond.methodLink "PictureJoin$Marks" 56 ⟨"java/lang/Integer", "bitCount", "(I)I"⟩ ∈ jws := jm (List.mem_of_getElem? (i := 457) (by decide +kernel)) (by decide +kernel)
theorem wm_X4_49 : Cond.methodLink "PictureJoin$Pairing" 49 ⟨"java/lang/Integer", "bitCount", "(I)I"⟩ ∈ jws := jm (List.mem_of_getElem? (i := 463) (by decide +kernel)) (by decide +kernel)
theorem wm_X4_31 : Cond.methodLink "PictureJoin$Pairing" 31 ⟨"PictureJoin$Pairing", "shiftX", "(LPictureJoin$Marks;ILPictureJoin$Marks;)I"⟩ ∈ jws := jm (List.mem_of_getElem? (i := 464) (by decide +kernel)) (by decide +kernel)
theorem wm_X4_35 : Cond.methodLink "PictureJoin$Pairing" 35 ⟨"PictureJoin$Pairing", "shiftY", "(LPictureJoin$Marks;ILPictureJoin$Marks;)I"⟩ ∈ jws := jm (List.mem_of_getElem? (i := 468) (by decide +kernel)) (by decide +kernel)
theorem wm_X4_38 : Cond.methodLink "PictureJoin$Pairing" 38 ⟨"PictureJoin$Pairing", "propose", "(LPictureJoin$Marks;LPictureJoin$Marks;II)V"⟩ ∈ jws := jm (List.mem_of_getElem? (i := 472) (by decide +kernel)) (by decide +kernel)
theorem wm_X0_63 : Cond.methodLink "PictureJoin$Album" 63 ⟨"PictureJoin$Album", "joinAll", "()V"⟩ ∈ jws := jm (List.mem_of_getElem? (i := 476) (by decide +kernel)) (by decide +kernel)
theorem wm_X0_72 : Cond.methodLink "PictureJoin$Album" 72 ⟨"PictureJoin$Album", "put", "(IIII)V"⟩ ∈ jws := jm (List.mem_of_getElem? (i := 480) (by decide +kernel)) (by decide +kernel)
theorem wm_X0_76 : Cond.methodLink "PictureJoin$Album" 76 ⟨"PictureJoin$Album", "bestPair", "()I"⟩ ∈ jws := jm (List.mem_of_getElem? (i := 484) (by decide +kernel)) (by decide +kernel)
theorem wm_X0_91 : Cond.methodLink "PictureJoin$Album" 91 ⟨"PictureJoin$Picture", "isJoined", "()Z"⟩ ∈ jws := jm (List.mem_of_getElem? (i := 488) (by decide +kernel)) (by decide +kernel)
theorem wm_L_55 : Cond.methodLink "PictureJoinLaw" 55 ⟨"PictureJoin", "mark", "(III)I"⟩ ∈ jws := jm (List.mem_of_getElem? (i := 492) (by decide +kernel)) (by decide +kernel)
theorem wm_X8_112 : Cond.methodLink "PictureJoin" 112 ⟨"PictureJoin", "isMark", "(II)Z"⟩ ∈ jws := jm (List.mem_of_getElem? (i := 496) (by decide +kernel)) (by decide +kernel)
theorem wm_L_59 : Cond.methodLink "PictureJoinLaw" 59 ⟨"PictureJoin", "match", "(III)I"⟩ ∈ jws := jm (List.mem_of_getElem? (i := 500) (by decide +kernel)) (by decide +kernel)
theorem wm_X8_129 : Cond.methodLink "PictureJoin" 129 ⟨"PictureJoin", "areTwo", "(II)Z"⟩ ∈ jws := jm (List.mem_of_getElem? (i := 504) (by decide +kernel)) (by decide +kernel)
theorem wm_X8_132 : Cond.methodLink "PictureJoin" 132 ⟨"PictureJoin$Album", "pairingOf", "(II)LPictureJoin$Pairing;"⟩ ∈ jws := jm (List.mem_of_getElem? (i := 508) (by decide +kernel)) (by decide +kernel)
theorem wm_L_63 : Cond.methodLink "PictureJoinLaw" 63 ⟨"PictureJoin", "shift", "(III)I"⟩ ∈ jws := jm (List.mem_of_getElem? (i := 509) (by decide +kernel)) (by decide +kernel)
theorem wm_L_67 : Cond.methodLink "PictureJoinLaw" 67 ⟨"PictureJoin", "place", "(II)I"⟩ ∈ jws := jm (List.mem_of_getElem? (i := 514) (by decide +kernel)) (by decide +kernel)
theorem wm_X8_160 : Cond.methodLink "PictureJoin" 160 ⟨"PictureJoin$Picture", "isJoined", "()Z"⟩ ∈ jws := jm (List.mem_of_getElem? (i := 518) (by decide +kernel)) (by decide +kernel)
theorem wm_L_71 : Cond.methodLink "PictureJoinLaw" 71 ⟨"PictureJoin", "open", "()I"⟩ ∈ jws := jm (List.mem_of_getElem? (i := 519) (by decide +kernel)) (by decide +kernel)
theorem wm_X8_172 : Cond.methodLink "PictureJoin" 172 ⟨"PictureJoin$Album", "countOpen", "()I"⟩ ∈ jws := jm (List.mem_of_getElem? (i := 523) (by decide +kernel)) (by decide +kernel)
theorem wm_X0_98 : Cond.methodLink "PictureJoin$Album" 98 ⟨"PictureJoin$Album", "isOpen", "(II)Z"⟩ ∈ jws := jm (List.mem_of_getElem? (i := 527) (by decide +kernel)) (by decide +kernel)
theorem wm_L_75 : Cond.methodLink "PictureJoinLaw" 75 ⟨"PictureJoin", "joined", "()I"⟩ ∈ jws := jm (List.mem_of_getElem? (i := 531) (by decide +kernel)) (by decide +kernel)
theorem wm_L_79 : Cond.methodLink "PictureJoinLaw" 79 ⟨"PictureJoin", "overlap", "(III)I"⟩ ∈ jws := jm (List.mem_of_getElem? (i := 535) (by decide +kernel)) (by decide +kernel)
theorem wm_X8_179 : Cond.methodLink "PictureJoin" 179 ⟨"PictureJoin", "refusalOfTwo", "(IIZ)I"⟩ ∈ jws := jm (List.mem_of_getElem? (i := 539) (by decide +kernel)) (by decide +kernel)
theorem wm_X8_184 : Cond.methodLink "PictureJoin" 184 ⟨"PictureJoin$Overlap", "find", "(LPictureJoin$Picture;LPictureJoin$Picture;)V"⟩ ∈ jws := jm (List.mem_of_getElem? (i := 544) (by decide +kernel)) (by decide +kernel)
theorem wm_X3_9 : Cond.methodLink "PictureJoin$Overlap" 9 ⟨"PictureJoin$Picture", "edge", "(I)I"⟩ ∈ jws := jm (List.mem_of_getElem? (i := 548) (by decide +kernel)) (by decide +kernel)
theorem wm_X3_15 : Cond.methodLink "PictureJoin$Overlap" 15 ⟨"java/lang/Math", "max", "(II)I"⟩ ∈ jws := jm (List.mem_of_getElem? (i := 552) (by decide +kernel)) (by decide +kernel)
theorem wm_X3_30 : Cond.methodLink "PictureJoin$Overlap" 30 ⟨"java/lang/Math", "min", "(II)I"⟩ ∈ jws := jm (List.mem_of_getElem? (i := 555) (by decide +kernel)) (by decide +kernel)
theorem wm_X3_39 : Cond.methodLink "PictureJoin$Overlap" 39 ⟨"PictureJoin$Overlap", "isThere", "()Z"⟩ ∈ jws := jm (List.mem_of_getElem? (i := 556) (by decide +kernel)) (by decide +kernel)
theorem wm_L_83 : Cond.methodLink "PictureJoinLaw" 83 ⟨"PictureJoin", "lights", "(III)I"⟩ ∈ jws := jm (List.mem_of_getElem? (i := 560) (by decide +kernel)) (by decide +kernel)
theorem wm_X8_192 : Cond.methodLink "PictureJoin" 192 ⟨"PictureJoin$Overlap", "compare", "(LPictureJoin$Picture;LPictureJoin$Picture;)V"⟩ ∈ jws := jm (List.mem_of_getElem? (i := 564) (by decide +kernel)) (by decide +kernel)
theorem wm_X3_52 : Cond.methodLink "PictureJoin$Overlap" 52 ⟨"PictureJoin$Picture", "dotAt", "(II)I"⟩ ∈ jws := jm (List.mem_of_getElem? (i := 568) (by decide +kernel)) (by decide +kernel)
theorem wm_X5_35 : Cond.methodLink "PictureJoin$Picture" 35 ⟨"PictureJoin$Dots", "get", "(II)I"⟩ ∈ jws := jm (List.mem_of_getElem? (i := 572) (by decide +kernel)) (by decide +kernel)
theorem wm_L_87 : Cond.methodLink "PictureJoinLaw" 87 ⟨"PictureJoin", "seam", "(III)I"⟩ ∈ jws := jm (List.mem_of_getElem? (i := 573) (by decide +kernel)) (by decide +kernel)
theorem wm_X8_204 : Cond.methodLink "PictureJoin" 204 ⟨"PictureJoin$Overlap", "isThere", "()Z"⟩ ∈ jws := jm (List.mem_of_getElem? (i := 577) (by decide +kernel)) (by decide +kernel)
theorem wm_X8_207 : Cond.methodLink "PictureJoin" 207 ⟨"PictureJoin$Seam", "find", "(LPictureJoin$Overlap;LPictureJoin$Picture;LPictureJoin$Picture;)V"⟩ ∈ jws := jm (List.mem_of_getElem? (i := 578) (by decide +kernel)) (by decide +kernel)
theorem wm_X6_33 : Cond.methodLink "PictureJoin$Seam" 33 ⟨"PictureJoin$Seam", "unlikeness", "(LPictureJoin$Picture;LPictureJoin$Picture;II)I"⟩ ∈ jws := jm (List.mem_of_getElem? (i := 582) (by decide +kernel)) (by decide +kernel)
theorem wm_X6_48 : Cond.methodLink "PictureJoin$Seam" 48 ⟨"PictureJoin$Picture", "dotAt", "(II)I"⟩ ∈ jws := jm (List.mem_of_getElem? (i := 585) (by decide +kernel)) (by decide +kernel)
theorem wm_X6_53 : Cond.methodLink "PictureJoin$Seam" 53 ⟨"java/lang/Math", "abs", "(I)I"⟩ ∈ jws := jm (List.mem_of_getElem? (i := 586) (by decide +kernel)) (by decide +kernel)
theorem wm_X6_37 : Cond.methodLink "PictureJoin$Seam" 37 ⟨"PictureJoin$Seam", "cheapest", "(IIII)I"⟩ ∈ jws := jm (List.mem_of_getElem? (i := 589) (by decide +kernel)) (by decide +kernel)
theorem wm_X6_59 : Cond.methodLink "PictureJoin$Seam" 59 ⟨"java/lang/Math", "max", "(II)I"⟩ ∈ jws := jm (List.mem_of_getElem? (i := 593) (by decide +kernel)) (by decide +kernel)
theorem wm_X6_41 : Cond.methodLink "PictureJoin$Seam" 41 ⟨"PictureJoin$Seam", "costAt", "(II)I"⟩ ∈ jws := jm (List.mem_of_getElem? (i := 594) (by decide +kernel)) (by decide +kernel)
theorem wm_L_91 : Cond.methodLink "PictureJoinLaw" 91 ⟨"PictureJoin", "whole", "(III)I"⟩ ∈ jws := jm (List.mem_of_getElem? (i := 598) (by decide +kernel)) (by decide +kernel)
theorem wm_X8_214 : Cond.methodLink "PictureJoin" 214 ⟨"PictureJoin$Album", "firstAt", "(II)I"⟩ ∈ jws := jm (List.mem_of_getElem? (i := 602) (by decide +kernel)) (by decide +kernel)
theorem wm_X0_102 : Cond.methodLink "PictureJoin$Album" 102 ⟨"PictureJoin$Picture", "dotAt", "(II)I"⟩ ∈ jws := jm (List.mem_of_getElem? (i := 606) (by decide +kernel)) (by decide +kernel)
theorem wm_X8_217 : Cond.methodLink "PictureJoin" 217 ⟨"PictureJoin$Picture", "dotAt", "(II)I"⟩ ∈ jws := jm (List.mem_of_getElem? (i := 607) (by decide +kernel)) (by decide +kernel)
theorem wm_L_95 : Cond.methodLink "PictureJoinLaw" 95 ⟨"PictureJoin", "extent", "(I)I"⟩ ∈ jws := jm (List.mem_of_getElem? (i := 608) (by decide +kernel)) (by decide +kernel)
theorem wm_X8_220 : Cond.methodLink "PictureJoin" 220 ⟨"PictureJoin$Album", "countPlaces", "()I"⟩ ∈ jws := jm (List.mem_of_getElem? (i := 612) (by decide +kernel)) (by decide +kernel)
theorem wm_X0_124 : Cond.methodLink "PictureJoin$Album" 124 ⟨"PictureJoin$Album", "firstAt", "(II)I"⟩ ∈ jws := jm (List.mem_of_getElem? (i := 616) (by decide +kernel)) (by decide +kernel)
theorem wm_X8_223 : Cond.methodLink "PictureJoin" 223 ⟨"PictureJoin$Album", "edge", "(I)I"⟩ ∈ jws := jm (List.mem_of_getElem? (i := 617) (by decide +kernel)) (by decide +kernel)
theorem wm_X0_106 : Cond.methodLink "PictureJoin$Album" 106 ⟨"PictureJoin$Picture", "edge", "(I)I"⟩ ∈ jws := jm (List.mem_of_getElem? (i := 621) (by decide +kernel)) (by decide +kernel)
theorem wm_X0_110 : Cond.methodLink "PictureJoin$Album" 110 ⟨"java/lang/Math", "min", "(II)I"⟩ ∈ jws := jm (List.mem_of_getElem? (i := 622) (by decide +kernel)) (by decide +kernel)
theorem wm_X0_115 : Cond.methodLink "PictureJoin$Album" 115 ⟨"java/lang/Math", "max", "(II)I"⟩ ∈ jws := jm (List.mem_of_getElem? (i := 623) (by decide +kernel)) (by decide +kernel)
theorem wm_L_99 : Cond.methodLink "PictureJoinLaw" 99 ⟨"PictureJoin", "told", "(I)I"⟩ ∈ jws := jm (List.mem_of_getElem? (i := 624) (by decide +kernel)) (by decide +kernel)
theorem wm_L_12 : Cond.methodLink "PictureJoinLaw" 12 ⟨"PictureJoinModel", "<init>", "()V"⟩ ∈ jws := jm (List.mem_of_getElem? (i := 630) (by decide +kernel)) (by decide +kernel)
theorem wm_X9_1 : Cond.methodLink "PictureJoinModel" 1 ⟨"java/lang/Object", "<init>", "()V"⟩ ∈ jws := jm (List.mem_of_getElem? (i := 633) (by decide +kernel)) (by decide +kernel)
theorem wm_L_17 : Cond.methodLink "PictureJoinLaw" 17 ⟨"PictureJoinModel", "seed", "(I)I"⟩ ∈ jws := jm (List.mem_of_getElem? (i := 716) (by decide +kernel)) (by decide +kernel)
theorem wm_L_22 : Cond.methodLink "PictureJoinLaw" 22 ⟨"PictureJoinModel", "light", "(II)I"⟩ ∈ jws := jm (List.mem_of_getElem? (i := 720) (by decide +kernel)) (by decide +kernel)
theorem wm_X9_71 : Cond.methodLink "PictureJoinModel" 71 ⟨"PictureJoinModel", "in", "(III)Z"⟩ ∈ jws := jm (List.mem_of_getElem? (i := 724) (by decide +kernel)) (by decide +kernel)
theorem wm_X9_82 : Cond.methodLink "PictureJoinModel" 82 ⟨"PictureJoinModel", "lightAt", "(II)I"⟩ ∈ jws := jm (List.mem_of_getElem? (i := 727) (by decide +kernel)) (by decide +kernel)
theorem wm_L_27 : Cond.methodLink "PictureJoinLaw" 27 ⟨"PictureJoinModel", "shoot", "(IIIII)I"⟩ ∈ jws := jm (List.mem_of_getElem? (i := 735) (by decide +kernel)) (by decide +kernel)
theorem wm_L_32 : Cond.methodLink "PictureJoinLaw" 32 ⟨"PictureJoinModel", "clear", "()I"⟩ ∈ jws := jm (List.mem_of_getElem? (i := 739) (by decide +kernel)) (by decide +kernel)
theorem wm_L_37 : Cond.methodLink "PictureJoinLaw" 37 ⟨"PictureJoinModel", "dot", "(IIII)I"⟩ ∈ jws := jm (List.mem_of_getElem? (i := 743) (by decide +kernel)) (by decide +kernel)
theorem wm_X9_94 : Cond.methodLink "PictureJoinModel" 94 ⟨"PictureJoinModel", "isDot", "(III)Z"⟩ ∈ jws := jm (List.mem_of_getElem? (i := 747) (by decide +kernel)) (by decide +kernel)
theorem wm_X9_90 : Cond.methodLink "PictureJoinModel" 90 ⟨"PictureJoinModel", "isPicture", "(I)Z"⟩ ∈ jws := jm (List.mem_of_getElem? (i := 751) (by decide +kernel)) (by decide +kernel)
theorem wm_X9_99 : Cond.methodLink "PictureJoinModel" 99 ⟨"PictureJoinModel", "dotAt", "(III)I"⟩ ∈ jws := jm (List.mem_of_getElem? (i := 757) (by decide +kernel)) (by decide +kernel)
theorem wm_L_42 : Cond.methodLink "PictureJoinLaw" 42 ⟨"PictureJoinModel", "at", "(III)I"⟩ ∈ jws := jm (List.mem_of_getElem? (i := 761) (by decide +kernel)) (by decide +kernel)
theorem wm_L_46 : Cond.methodLink "PictureJoinLaw" 46 ⟨"PictureJoinModel", "rules", "(II)I"⟩ ∈ jws := jm (List.mem_of_getElem? (i := 765) (by decide +kernel)) (by decide +kernel)
theorem wm_L_50 : Cond.methodLink "PictureJoinLaw" 50 ⟨"PictureJoinModel", "score", "(III)I"⟩ ∈ jws := jm (List.mem_of_getElem? (i := 770) (by decide +kernel)) (by decide +kernel)
theorem wm_X9_104 : Cond.methodLink "PictureJoinModel" 104 ⟨"PictureJoinModel", "scoreOf", "(III)I"⟩ ∈ jws := jm (List.mem_of_getElem? (i := 774) (by decide +kernel)) (by decide +kernel)
theorem wm_L_54 : Cond.methodLink "PictureJoinLaw" 54 ⟨"PictureJoinModel", "marks", "(I)I"⟩ ∈ jws := jm (List.mem_of_getElem? (i := 778) (by decide +kernel)) (by decide +kernel)
theorem wm_X9_150 : Cond.methodLink "PictureJoinModel" 150 ⟨"PictureJoinModel", "lay", "()V"⟩ ∈ jws := jm (List.mem_of_getElem? (i := 782) (by decide +kernel)) (by decide +kernel)
theorem wm_X9_140 : Cond.methodLink "PictureJoinModel" 140 ⟨"PictureJoinModel", "layMarks", "(I)V"⟩ ∈ jws := jm (List.mem_of_getElem? (i := 786) (by decide +kernel)) (by decide +kernel)
theorem wm_X9_107 : Cond.methodLink "PictureJoinModel" 107 ⟨"PictureJoinModel", "isMark", "(III)Z"⟩ ∈ jws := jm (List.mem_of_getElem? (i := 790) (by decide +kernel)) (by decide +kernel)
theorem wm_X9_110 : Cond.methodLink "PictureJoinModel" 110 ⟨"PictureJoinModel", "putMark", "(II)V"⟩ ∈ jws := jm (List.mem_of_getElem? (i := 794) (by decide +kernel)) (by decide +kernel)
theorem wm_X9_114 : Cond.methodLink "PictureJoinModel" 114 ⟨"PictureJoinModel", "signOf", "(III)I"⟩ ∈ jws := jm (List.mem_of_getElem? (i := 798) (by decide +kernel)) (by decide +kernel)
theorem wm_X9_144 : Cond.methodLink "PictureJoinModel" 144 ⟨"PictureJoinModel", "layPair", "(II)V"⟩ ∈ jws := jm (List.mem_of_getElem? (i := 802) (by decide +kernel)) (by decide +kernel)
theorem wm_X9_125 : Cond.methodLink "PictureJoinModel" 125 ⟨"PictureJoinModel", "nearest", "(III)I"⟩ ∈ jws := jm (List.mem_of_getElem? (i := 806) (by decide +kernel)) (by decide +kernel)
theorem wm_X9_121 : Cond.methodLink "PictureJoinModel" 121 ⟨"PictureJoinModel", "distance", "(IIII)I"⟩ ∈ jws := jm (List.mem_of_getElem? (i := 810) (by decide +kernel)) (by decide +kernel)
theorem wm_X9_117 : Cond.methodLink "PictureJoinModel" 117 ⟨"PictureJoinModel", "bits", "(I)I"⟩ ∈ jws := jm (List.mem_of_getElem? (i := 814) (by decide +kernel)) (by decide +kernel)
theorem wm_X9_128 : Cond.methodLink "PictureJoinModel" 128 ⟨"PictureJoinModel", "markX", "(II)I"⟩ ∈ jws := jm (List.mem_of_getElem? (i := 817) (by decide +kernel)) (by decide +kernel)
theorem wm_X9_131 : Cond.methodLink "PictureJoinModel" 131 ⟨"PictureJoinModel", "markY", "(II)I"⟩ ∈ jws := jm (List.mem_of_getElem? (i := 821) (by decide +kernel)) (by decide +kernel)
theorem wm_X9_134 : Cond.methodLink "PictureJoinModel" 134 ⟨"PictureJoinModel", "votesFor", "(IIII)I"⟩ ∈ jws := jm (List.mem_of_getElem? (i := 825) (by decide +kernel)) (by decide +kernel)
theorem wm_X9_147 : Cond.methodLink "PictureJoinModel" 147 ⟨"PictureJoinModel", "layPlaces", "()V"⟩ ∈ jws := jm (List.mem_of_getElem? (i := 829) (by decide +kernel)) (by decide +kernel)
theorem wm_L_58 : Cond.methodLink "PictureJoinLaw" 58 ⟨"PictureJoinModel", "mark", "(III)I"⟩ ∈ jws := jm (List.mem_of_getElem? (i := 833) (by decide +kernel)) (by decide +kernel)
theorem wm_X9_153 : Cond.methodLink "PictureJoinModel" 153 ⟨"PictureJoinModel", "hasMark", "(II)Z"⟩ ∈ jws := jm (List.mem_of_getElem? (i := 837) (by decide +kernel)) (by decide +kernel)
theorem wm_L_62 : Cond.methodLink "PictureJoinLaw" 62 ⟨"PictureJoinModel", "match", "(III)I"⟩ ∈ jws := jm (List.mem_of_getElem? (i := 841) (by decide +kernel)) (by decide +kernel)
theorem wm_L_66 : Cond.methodLink "PictureJoinLaw" 66 ⟨"PictureJoinModel", "shift", "(III)I"⟩ ∈ jws := jm (List.mem_of_getElem? (i := 845) (by decide +kernel)) (by decide +kernel)
theorem wm_X9_157 : Cond.methodLink "PictureJoinModel" 157 ⟨"PictureJoinModel", "arePair", "(II)Z"⟩ ∈ jws := jm (List.mem_of_getElem? (i := 849) (by decide +kernel)) (by decide +kernel)
theorem wm_L_70 : Cond.methodLink "PictureJoinLaw" 70 ⟨"PictureJoinModel", "place", "(II)I"⟩ ∈ jws := jm (List.mem_of_getElem? (i := 854) (by decide +kernel)) (by decide +kernel)
theorem wm_L_74 : Cond.methodLink "PictureJoinLaw" 74 ⟨"PictureJoinModel", "open", "()I"⟩ ∈ jws := jm (List.mem_of_getElem? (i := 858) (by decide +kernel)) (by decide +kernel)
theorem wm_L_78 : Cond.methodLink "PictureJoinLaw" 78 ⟨"PictureJoinModel", "joined", "()I"⟩ ∈ jws := jm (List.mem_of_getElem? (i := 862) (by decide +kernel)) (by decide +kernel)
theorem wm_L_82 : Cond.methodLink "PictureJoinLaw" 82 ⟨"PictureJoinModel", "overlap", "(III)I"⟩ ∈ jws := jm (List.mem_of_getElem? (i := 866) (by decide +kernel)) (by decide +kernel)
theorem wm_X9_176 : Cond.methodLink "PictureJoinModel" 176 ⟨"PictureJoinModel", "barsOverlap", "(IIZ)I"⟩ ∈ jws := jm (List.mem_of_getElem? (i := 870) (by decide +kernel)) (by decide +kernel)
theorem wm_X9_173 : Cond.methodLink "PictureJoinModel" 173 ⟨"PictureJoinModel", "layOverlap", "(II)V"⟩ ∈ jws := jm (List.mem_of_getElem? (i := 874) (by decide +kernel)) (by decide +kernel)
theorem wm_L_86 : Cond.methodLink "PictureJoinLaw" 86 ⟨"PictureJoinModel", "lights", "(III)I"⟩ ∈ jws := jm (List.mem_of_getElem? (i := 879) (by decide +kernel)) (by decide +kernel)
theorem wm_X9_181 : Cond.methodLink "PictureJoinModel" 181 ⟨"PictureJoinModel", "dotOver", "(III)I"⟩ ∈ jws := jm (List.mem_of_getElem? (i := 883) (by decide +kernel)) (by decide +kernel)
theorem wm_L_90 : Cond.methodLink "PictureJoinLaw" 90 ⟨"PictureJoinModel", "seam", "(III)I"⟩ ∈ jws := jm (List.mem_of_getElem? (i := 887) (by decide +kernel)) (by decide +kernel)
theorem wm_X9_187 : Cond.methodLink "PictureJoinModel" 187 ⟨"PictureJoinModel", "below", "(II)I"⟩ ∈ jws := jm (List.mem_of_getElem? (i := 891) (by decide +kernel)) (by decide +kernel)
theorem wm_X9_184 : Cond.methodLink "PictureJoinModel" 184 ⟨"PictureJoinModel", "leastAt", "(II)I"⟩ ∈ jws := jm (List.mem_of_getElem? (i := 895) (by decide +kernel)) (by decide +kernel)
theorem wm_L_94 : Cond.methodLink "PictureJoinLaw" 94 ⟨"PictureJoinModel", "whole", "(III)I"⟩ ∈ jws := jm (List.mem_of_getElem? (i := 899) (by decide +kernel)) (by decide +kernel)
theorem wm_X9_190 : Cond.methodLink "PictureJoinModel" 190 ⟨"PictureJoinModel", "pictureAt", "(II)I"⟩ ∈ jws := jm (List.mem_of_getElem? (i := 903) (by decide +kernel)) (by decide +kernel)
theorem wm_L_98 : Cond.methodLink "PictureJoinLaw" 98 ⟨"PictureJoinModel", "extent", "(I)I"⟩ ∈ jws := jm (List.mem_of_getElem? (i := 907) (by decide +kernel)) (by decide +kernel)
theorem wm_X9_193 : Cond.methodLink "PictureJoinModel" 193 ⟨"PictureJoinModel", "edge", "(I)I"⟩ ∈ jws := jm (List.mem_of_getElem? (i := 911) (by decide +kernel)) (by decide +kernel)
theorem wm_L_102 : Cond.methodLink "PictureJoinLaw" 102 ⟨"PictureJoinModel", "told", "(I)I"⟩ ∈ jws := jm (List.mem_of_getElem? (i := 915) (by decide +kernel)) (by decide +kernel)
theorem wk_X7_9 : Cond.constant "PictureJoin$World" 9 (73856093) ∈ jws := jm (List.mem_of_getElem? (i := 326) (by decide +kernel)) (by decide +kernel)
theorem wk_X7_10 : Cond.constant "PictureJoin$World" 10 (19349663) ∈ jws := jm (List.mem_of_getElem? (i := 327) (by decide +kernel)) (by decide +kernel)
theorem wk_X7_17 : Cond.constant "PictureJoin$World" 17 (83492791) ∈ jws := jm (List.mem_of_getElem? (i := 328) (by decide +kernel)) (by decide +kernel)
theorem wk_X7_18 : Cond.constant "PictureJoin$World" 18 (739982445) ∈ jws := jm (List.mem_of_getElem? (i := 329) (by decide +kernel)) (by decide +kernel)
theorem wk_X8_85 : Cond.constant "PictureJoin" 85 (-1000001) ∈ jws := jm (List.mem_of_getElem? (i := 372) (by decide +kernel)) (by decide +kernel)
theorem wk_X8_86 : Cond.constant "PictureJoin" 86 (-1000002) ∈ jws := jm (List.mem_of_getElem? (i := 373) (by decide +kernel)) (by decide +kernel)
theorem wk_X8_94 : Cond.constant "PictureJoin" 94 (1000000) ∈ jws := jm (List.mem_of_getElem? (i := 387) (by decide +kernel)) (by decide +kernel)
theorem wk_X1_43 : Cond.constant "PictureJoin$Dots" 43 (585225) ∈ jws := jm (List.mem_of_getElem? (i := 397) (by decide +kernel)) (by decide +kernel)
theorem wk_J6_265 : Cond.constant "java/lang/Integer" 265 (1431655765) ∈ jws := jm (List.mem_of_getElem? (i := 460) (by decide +kernel)) (by decide +kernel)
theorem wk_J6_266 : Cond.constant "java/lang/Integer" 266 (858993459) ∈ jws := jm (List.mem_of_getElem? (i := 461) (by decide +kernel)) (by decide +kernel)
theorem wk_J6_267 : Cond.constant "java/lang/Integer" 267 (252645135) ∈ jws := jm (List.mem_of_getElem? (i := 462) (by decide +kernel)) (by decide +kernel)
theorem wk_X8_147 : Cond.constant "PictureJoin" 147 (-1000005) ∈ jws := jm (List.mem_of_getElem? (i := 513) (by decide +kernel)) (by decide +kernel)
theorem wk_X8_183 : Cond.constant "PictureJoin" 183 (-1000000) ∈ jws := jm (List.mem_of_getElem? (i := 543) (by decide +kernel)) (by decide +kernel)
theorem wk_X9_78 : Cond.constant "PictureJoinModel" 78 (73856093) ∈ jws := jm (List.mem_of_getElem? (i := 731) (by decide +kernel)) (by decide +kernel)
theorem wk_X9_79 : Cond.constant "PictureJoinModel" 79 (19349663) ∈ jws := jm (List.mem_of_getElem? (i := 732) (by decide +kernel)) (by decide +kernel)
theorem wk_X9_80 : Cond.constant "PictureJoinModel" 80 (83492791) ∈ jws := jm (List.mem_of_getElem? (i := 733) (by decide +kernel)) (by decide +kernel)
theorem wk_X9_81 : Cond.constant "PictureJoinModel" 81 (739982445) ∈ jws := jm (List.mem_of_getElem? (i := 734) (by decide +kernel)) (by decide +kernel)
theorem wk_X9_97 : Cond.constant "PictureJoinModel" 97 (-1000001) ∈ jws := jm (List.mem_of_getElem? (i := 755) (by decide +kernel)) (by decide +kernel)
theorem wk_X9_98 : Cond.constant "PictureJoinModel" 98 (-1000002) ∈ jws := jm (List.mem_of_getElem? (i := 756) (by decide +kernel)) (by decide +kernel)
theorem wk_X9_103 : Cond.constant "PictureJoinModel" 103 (1000000) ∈ jws := jm (List.mem_of_getElem? (i := 769) (by decide +kernel)) (by decide +kernel)
theorem wk_X9_160 : Cond.constant "PictureJoinModel" 160 (-1000005) ∈ jws := jm (List.mem_of_getElem? (i := 853) (by decide +kernel)) (by decide +kernel)
theorem wk_X9_180 : Cond.constant "PictureJoinModel" 180 (-1000000) ∈ jws := jm (List.mem_of_getElem? (i := 878) (by decide +kernel)) (by decide +kernel)
theorem wi_L : Cond.initialized "PictureJoinLaw" ∈ jws := jm (List.mem_of_getElem? (i := 42) (by decide +kernel)) (by decide +kernel)
theorem wi_X8 : Cond.initialized "PictureJoin" ∈ jws := jm (List.mem_of_getElem? (i := 43) (by decide +kernel)) (by decide +kernel)
theorem wi_X7 : Cond.initialized "PictureJoin$World" ∈ jws := jm (List.mem_of_getElem? (i := 44) (by decide +kernel)) (by decide +kernel)
theorem wi_X0 : Cond.initialized "PictureJoin$Album" ∈ jws := jm (List.mem_of_getElem? (i := 45) (by decide +kernel)) (by decide +kernel)
theorem wi_X5 : Cond.initialized "PictureJoin$Picture" ∈ jws := jm (List.mem_of_getElem? (i := 46) (by decide +kernel)) (by decide +kernel)
theorem wi_X1 : Cond.initialized "PictureJoin$Dots" ∈ jws := jm (List.mem_of_getElem? (i := 47) (by decide +kernel)) (by decide +kernel)
theorem wi_X2 : Cond.initialized "PictureJoin$Marks" ∈ jws := jm (List.mem_of_getElem? (i := 48) (by decide +kernel)) (by decide +kernel)
theorem wi_X4 : Cond.initialized "PictureJoin$Pairing" ∈ jws := jm (List.mem_of_getElem? (i := 49) (by decide +kernel)) (by decide +kernel)
theorem wi_X3 : Cond.initialized "PictureJoin$Overlap" ∈ jws := jm (List.mem_of_getElem? (i := 50) (by decide +kernel)) (by decide +kernel)
theorem wi_X6 : Cond.initialized "PictureJoin$Seam" ∈ jws := jm (List.mem_of_getElem? (i := 51) (by decide +kernel)) (by decide +kernel)
theorem wi_X9 : Cond.initialized "PictureJoinModel" ∈ jws := jm (List.mem_of_getElem? (i := 52) (by decide +kernel)) (by decide +kernel)
theorem wi_J9 : Cond.initialized "java/lang/Math" ∈ jws := jm (List.mem_of_getElem? (i := 53) (by decide +kernel)) (by decide +kernel)
theorem wi_J6 : Cond.initialized "java/lang/Integer" ∈ jws := jm (List.mem_of_getElem? (i := 54) (by decide +kernel)) (by decide +kernel)
theorem wi_Math : Cond.initialized "java/lang/Math" ∈ jws := jm (List.mem_of_getElem? (i := 53) (by decide +kernel)) (by decide +kernel)
theorem wn_X0_init : Cond.instanceMethod ⟨"PictureJoin$Album", "<init>", "()V"⟩ ∈ jws := jm (List.mem_of_getElem? (i := 77) (by decide +kernel)) (by decide +kernel)
set_option maxRecDepth 100000 in
theorem wc_X0_init : Cond.code yX0_init cX0_init 2 (none : Option FieldType) ∈ jws := jm (List.mem_of_getElem? (i := 78) (by rfl)) (by rfl)
theorem wn_X0_pairingOf : Cond.instanceMethod ⟨"PictureJoin$Album", "pairingOf", "(II)LPictureJoin$Pairing;"⟩ ∈ jws := jm (List.mem_of_getElem? (i := 443) (by decide +kernel)) (by decide +kernel)
theorem wv_X0_pairingOf : Cond.selects "PictureJoin$Album" ⟨"PictureJoin$Album", "pairingOf", "(II)LPictureJoin$Pairing;"⟩ ⟨"PictureJoin$Album", "pairingOf", "(II)LPictureJoin$Pairing;"⟩ ∈ jws := jm (List.mem_of_getElem? (i := 444) (by decide +kernel)) (by decide +kernel)
set_option maxRecDepth 100000 in
theorem wc_X0_pairingOf : Cond.code yX0_pairingOf cX0_pairingOf 3 (some (FieldType.object "PictureJoin$Pairing")) ∈ jws := jm (List.mem_of_getElem? (i := 445) (by rfl)) (by rfl)
theorem wn_X0_settle : Cond.instanceMethod ⟨"PictureJoin$Album", "settle", "(II)V"⟩ ∈ jws := jm (List.mem_of_getElem? (i := 412) (by decide +kernel)) (by decide +kernel)
theorem wv_X0_settle : Cond.selects "PictureJoin$Album" ⟨"PictureJoin$Album", "settle", "(II)V"⟩ ⟨"PictureJoin$Album", "settle", "(II)V"⟩ ∈ jws := jm (List.mem_of_getElem? (i := 413) (by decide +kernel)) (by decide +kernel)
set_option maxRecDepth 100000 in
theorem wc_X0_settle : Cond.code yX0_settle cX0_settle 5 (none : Option FieldType) ∈ jws := jm (List.mem_of_getElem? (i := 414) (by rfl)) (by rfl)
theorem wn_X0_joinAll : Cond.instanceMethod ⟨"PictureJoin$Album", "joinAll", "()V"⟩ ∈ jws := jm (List.mem_of_getElem? (i := 478) (by decide +kernel)) (by decide +kernel)
theorem wv_X0_joinAll : Cond.selects "PictureJoin$Album" ⟨"PictureJoin$Album", "joinAll", "()V"⟩ ⟨"PictureJoin$Album", "joinAll", "()V"⟩ ∈ jws := jm (List.mem_of_getElem? (i := 7) (by decide +kernel)) (by decide +kernel)
set_option maxRecDepth 100000 in
theorem wc_X0_joinAll : Cond.code yX0_joinAll cX0_joinAll 4 (none : Option FieldType) ∈ jws := jm (List.mem_of_getElem? (i := 479) (by rfl)) (by rfl)
theorem wn_X0_put : Cond.instanceMethod ⟨"PictureJoin$Album", "put", "(IIII)V"⟩ ∈ jws := jm (List.mem_of_getElem? (i := 482) (by decide +kernel)) (by decide +kernel)
theorem wv_X0_put : Cond.selects "PictureJoin$Album" ⟨"PictureJoin$Album", "put", "(IIII)V"⟩ ⟨"PictureJoin$Album", "put", "(IIII)V"⟩ ∈ jws := jm (List.mem_of_getElem? (i := 8) (by decide +kernel)) (by decide +kernel)
set_option maxRecDepth 100000 in
theorem wc_X0_put : Cond.code yX0_put cX0_put 6 (none : Option FieldType) ∈ jws := jm (List.mem_of_getElem? (i := 483) (by rfl)) (by rfl)
theorem wn_X0_bestPair : Cond.instanceMethod ⟨"PictureJoin$Album", "bestPair", "()I"⟩ ∈ jws := jm (List.mem_of_getElem? (i := 486) (by decide +kernel)) (by decide +kernel)
theorem wv_X0_bestPair : Cond.selects "PictureJoin$Album" ⟨"PictureJoin$Album", "bestPair", "()I"⟩ ⟨"PictureJoin$Album", "bestPair", "()I"⟩ ∈ jws := jm (List.mem_of_getElem? (i := 9) (by decide +kernel)) (by decide +kernel)
set_option maxRecDepth 100000 in
theorem wc_X0_bestPair : Cond.code yX0_bestPair cX0_bestPair 6 (some FieldType.int) ∈ jws := jm (List.mem_of_getElem? (i := 487) (by rfl)) (by rfl)
theorem wn_X0_countOpen : Cond.instanceMethod ⟨"PictureJoin$Album", "countOpen", "()I"⟩ ∈ jws := jm (List.mem_of_getElem? (i := 524) (by decide +kernel)) (by decide +kernel)
theorem wv_X0_countOpen : Cond.selects "PictureJoin$Album" ⟨"PictureJoin$Album", "countOpen", "()I"⟩ ⟨"PictureJoin$Album", "countOpen", "()I"⟩ ∈ jws := jm (List.mem_of_getElem? (i := 525) (by decide +kernel)) (by decide +kernel)
set_option maxRecDepth 100000 in
theorem wc_X0_countOpen : Cond.code yX0_countOpen cX0_countOpen 4 (some FieldType.int) ∈ jws := jm (List.mem_of_getElem? (i := 526) (by rfl)) (by rfl)
theorem wn_X0_isOpen : Cond.instanceMethod ⟨"PictureJoin$Album", "isOpen", "(II)Z"⟩ ∈ jws := jm (List.mem_of_getElem? (i := 529) (by decide +kernel)) (by decide +kernel)
theorem wv_X0_isOpen : Cond.selects "PictureJoin$Album" ⟨"PictureJoin$Album", "isOpen", "(II)Z"⟩ ⟨"PictureJoin$Album", "isOpen", "(II)Z"⟩ ∈ jws := jm (List.mem_of_getElem? (i := 12) (by decide +kernel)) (by decide +kernel)
set_option maxRecDepth 100000 in
theorem wc_X0_isOpen : Cond.code yX0_isOpen cX0_isOpen 6 (some FieldType.boolean) ∈ jws := jm (List.mem_of_getElem? (i := 530) (by rfl)) (by rfl)
theorem wn_X0_firstAt : Cond.instanceMethod ⟨"PictureJoin$Album", "firstAt", "(II)I"⟩ ∈ jws := jm (List.mem_of_getElem? (i := 603) (by decide +kernel)) (by decide +kernel)
theorem wv_X0_firstAt : Cond.selects "PictureJoin$Album" ⟨"PictureJoin$Album", "firstAt", "(II)I"⟩ ⟨"PictureJoin$Album", "firstAt", "(II)I"⟩ ∈ jws := jm (List.mem_of_getElem? (i := 604) (by decide +kernel)) (by decide +kernel)
set_option maxRecDepth 100000 in
theorem wc_X0_firstAt : Cond.code yX0_firstAt cX0_firstAt 4 (some FieldType.int) ∈ jws := jm (List.mem_of_getElem? (i := 605) (by rfl)) (by rfl)
theorem wn_X0_edge : Cond.instanceMethod ⟨"PictureJoin$Album", "edge", "(I)I"⟩ ∈ jws := jm (List.mem_of_getElem? (i := 618) (by decide +kernel)) (by decide +kernel)
theorem wv_X0_edge : Cond.selects "PictureJoin$Album" ⟨"PictureJoin$Album", "edge", "(I)I"⟩ ⟨"PictureJoin$Album", "edge", "(I)I"⟩ ∈ jws := jm (List.mem_of_getElem? (i := 619) (by decide +kernel)) (by decide +kernel)
set_option maxRecDepth 100000 in
theorem wc_X0_edge : Cond.code yX0_edge cX0_edge 5 (some FieldType.int) ∈ jws := jm (List.mem_of_getElem? (i := 620) (by rfl)) (by rfl)
theorem wn_X0_countPlaces : Cond.instanceMethod ⟨"PictureJoin$Album", "countPlaces", "()I"⟩ ∈ jws := jm (List.mem_of_getElem? (i := 613) (by decide +kernel)) (by decide +kernel)
theorem wv_X0_countPlaces : Cond.selects "PictureJoin$Album" ⟨"PictureJoin$Album", "countPlaces", "()I"⟩ ⟨"PictureJoin$Album", "countPlaces", "()I"⟩ ∈ jws := jm (List.mem_of_getElem? (i := 614) (by decide +kernel)) (by decide +kernel)
set_option maxRecDepth 100000 in
theorem wc_X0_countPlaces : Cond.code yX0_countPlaces cX0_countPlaces 6 (some FieldType.int) ∈ jws := jm (List.mem_of_getElem? (i := 615) (by rfl)) (by rfl)
theorem wn_X1_init : Cond.instanceMethod ⟨"PictureJoin$Dots", "<init>", "()V"⟩ ∈ jws := jm (List.mem_of_getElem? (i := 92) (by decide +kernel)) (by decide +kernel)
set_option maxRecDepth 100000 in
theorem wc_X1_init : Cond.code yX1_init cX1_init 1 (none : Option FieldType) ∈ jws := jm (List.mem_of_getElem? (i := 93) (by rfl)) (by rfl)
theorem wn_X1_resize : Cond.instanceMethod ⟨"PictureJoin$Dots", "resize", "(II)V"⟩ ∈ jws := jm (List.mem_of_getElem? (i := 335) (by decide +kernel)) (by decide +kernel)
theorem wv_X1_resize : Cond.selects "PictureJoin$Dots" ⟨"PictureJoin$Dots", "resize", "(II)V"⟩ ⟨"PictureJoin$Dots", "resize", "(II)V"⟩ ∈ jws := jm (List.mem_of_getElem? (i := 336) (by decide +kernel)) (by decide +kernel)
set_option maxRecDepth 100000 in
theorem wc_X1_resize : Cond.code yX1_resize cX1_resize 3 (none : Option FieldType) ∈ jws := jm (List.mem_of_getElem? (i := 337) (by rfl)) (by rfl)
theorem wn_X1_has : Cond.instanceMethod ⟨"PictureJoin$Dots", "has", "(II)Z"⟩ ∈ jws := jm (List.mem_of_getElem? (i := 352) (by decide +kernel)) (by decide +kernel)
theorem wv_X1_has : Cond.selects "PictureJoin$Dots" ⟨"PictureJoin$Dots", "has", "(II)Z"⟩ ⟨"PictureJoin$Dots", "has", "(II)Z"⟩ ∈ jws := jm (List.mem_of_getElem? (i := 353) (by decide +kernel)) (by decide +kernel)
set_option maxRecDepth 100000 in
theorem wc_X1_has : Cond.code yX1_has cX1_has 3 (some FieldType.boolean) ∈ jws := jm (List.mem_of_getElem? (i := 354) (by rfl)) (by rfl)
theorem wn_X1_get : Cond.instanceMethod ⟨"PictureJoin$Dots", "get", "(II)I"⟩ ∈ jws := jm (List.mem_of_getElem? (i := 375) (by decide +kernel)) (by decide +kernel)
theorem wv_X1_get : Cond.selects "PictureJoin$Dots" ⟨"PictureJoin$Dots", "get", "(II)I"⟩ ⟨"PictureJoin$Dots", "get", "(II)I"⟩ ∈ jws := jm (List.mem_of_getElem? (i := 376) (by decide +kernel)) (by decide +kernel)
set_option maxRecDepth 100000 in
theorem wc_X1_get : Cond.code yX1_get cX1_get 3 (some FieldType.int) ∈ jws := jm (List.mem_of_getElem? (i := 377) (by rfl)) (by rfl)
theorem wn_X1_put : Cond.instanceMethod ⟨"PictureJoin$Dots", "put", "(III)V"⟩ ∈ jws := jm (List.mem_of_getElem? (i := 348) (by decide +kernel)) (by decide +kernel)
theorem wv_X1_put : Cond.selects "PictureJoin$Dots" ⟨"PictureJoin$Dots", "put", "(III)V"⟩ ⟨"PictureJoin$Dots", "put", "(III)V"⟩ ∈ jws := jm (List.mem_of_getElem? (i := 349) (by decide +kernel)) (by decide +kernel)
set_option maxRecDepth 100000 in
theorem wc_X1_put : Cond.code yX1_put cX1_put 4 (none : Option FieldType) ∈ jws := jm (List.mem_of_getElem? (i := 350) (by rfl)) (by rfl)
theorem wn_X1_scoreOf : Cond.instanceMethod ⟨"PictureJoin$Dots", "scoreOf", "(II)I"⟩ ∈ jws := jm (List.mem_of_getElem? (i := 393) (by decide +kernel)) (by decide +kernel)
theorem wv_X1_scoreOf : Cond.selects "PictureJoin$Dots" ⟨"PictureJoin$Dots", "scoreOf", "(II)I"⟩ ⟨"PictureJoin$Dots", "scoreOf", "(II)I"⟩ ∈ jws := jm (List.mem_of_getElem? (i := 394) (by decide +kernel)) (by decide +kernel)
set_option maxRecDepth 100000 in
theorem wc_X1_scoreOf : Cond.code yX1_scoreOf cX1_scoreOf 6 (some FieldType.int) ∈ jws := jm (List.mem_of_getElem? (i := 395) (by rfl)) (by rfl)
theorem wn_X1_changeAbout : Cond.instanceMethod ⟨"PictureJoin$Dots", "changeAbout", "(IIII)I"⟩ ∈ jws := jm (List.mem_of_getElem? (i := 404) (by decide +kernel)) (by decide +kernel)
theorem wv_X1_changeAbout : Cond.selects "PictureJoin$Dots" ⟨"PictureJoin$Dots", "changeAbout", "(IIII)I"⟩ ⟨"PictureJoin$Dots", "changeAbout", "(IIII)I"⟩ ∈ jws := jm (List.mem_of_getElem? (i := 2) (by decide +kernel)) (by decide +kernel)
set_option maxRecDepth 100000 in
theorem wc_X1_changeAbout : Cond.code yX1_changeAbout cX1_changeAbout 10 (some FieldType.int) ∈ jws := jm (List.mem_of_getElem? (i := 405) (by rfl)) (by rfl)
theorem wn_X1_scoreAll : Cond.instanceMethod ⟨"PictureJoin$Dots", "scoreAll", "()V"⟩ ∈ jws := jm (List.mem_of_getElem? (i := 416) (by decide +kernel)) (by decide +kernel)
theorem wv_X1_scoreAll : Cond.selects "PictureJoin$Dots" ⟨"PictureJoin$Dots", "scoreAll", "()V"⟩ ⟨"PictureJoin$Dots", "scoreAll", "()V"⟩ ∈ jws := jm (List.mem_of_getElem? (i := 417) (by decide +kernel)) (by decide +kernel)
set_option maxRecDepth 100000 in
theorem wc_X1_scoreAll : Cond.code yX1_scoreAll cX1_scoreAll 3 (none : Option FieldType) ∈ jws := jm (List.mem_of_getElem? (i := 418) (by rfl)) (by rfl)
theorem wn_X1_keptScore : Cond.instanceMethod ⟨"PictureJoin$Dots", "keptScore", "(II)I"⟩ ∈ jws := jm (List.mem_of_getElem? (i := 425) (by decide +kernel)) (by decide +kernel)
theorem wv_X1_keptScore : Cond.selects "PictureJoin$Dots" ⟨"PictureJoin$Dots", "keptScore", "(II)I"⟩ ⟨"PictureJoin$Dots", "keptScore", "(II)I"⟩ ∈ jws := jm (List.mem_of_getElem? (i := 426) (by decide +kernel)) (by decide +kernel)
set_option maxRecDepth 100000 in
theorem wc_X1_keptScore : Cond.code yX1_keptScore cX1_keptScore 3 (some FieldType.int) ∈ jws := jm (List.mem_of_getElem? (i := 427) (by rfl)) (by rfl)
theorem wn_X1_isPeak : Cond.instanceMethod ⟨"PictureJoin$Dots", "isPeak", "(II)Z"⟩ ∈ jws := jm (List.mem_of_getElem? (i := 429) (by decide +kernel)) (by decide +kernel)
theorem wv_X1_isPeak : Cond.selects "PictureJoin$Dots" ⟨"PictureJoin$Dots", "isPeak", "(II)Z"⟩ ⟨"PictureJoin$Dots", "isPeak", "(II)Z"⟩ ∈ jws := jm (List.mem_of_getElem? (i := 430) (by decide +kernel)) (by decide +kernel)
set_option maxRecDepth 100000 in
theorem wc_X1_isPeak : Cond.code yX1_isPeak cX1_isPeak 8 (some FieldType.boolean) ∈ jws := jm (List.mem_of_getElem? (i := 431) (by rfl)) (by rfl)
theorem wn_X1_signOf : Cond.instanceMethod ⟨"PictureJoin$Dots", "signOf", "(II)I"⟩ ∈ jws := jm (List.mem_of_getElem? (i := 439) (by decide +kernel)) (by decide +kernel)
theorem wv_X1_signOf : Cond.selects "PictureJoin$Dots" ⟨"PictureJoin$Dots", "signOf", "(II)I"⟩ ⟨"PictureJoin$Dots", "signOf", "(II)I"⟩ ∈ jws := jm (List.mem_of_getElem? (i := 440) (by decide +kernel)) (by decide +kernel)
set_option maxRecDepth 100000 in
theorem wc_X1_signOf : Cond.code yX1_signOf cX1_signOf 7 (some FieldType.int) ∈ jws := jm (List.mem_of_getElem? (i := 441) (by rfl)) (by rfl)
theorem wn_X2_init : Cond.instanceMethod ⟨"PictureJoin$Marks", "<init>", "()V"⟩ ∈ jws := jm (List.mem_of_getElem? (i := 125) (by decide +kernel)) (by decide +kernel)
set_option maxRecDepth 100000 in
theorem wc_X2_init : Cond.code yX2_init cX2_init 1 (none : Option FieldType) ∈ jws := jm (List.mem_of_getElem? (i := 126) (by rfl)) (by rfl)
theorem wn_X2_find : Cond.instanceMethod ⟨"PictureJoin$Marks", "find", "(LPictureJoin$Dots;I)V"⟩ ∈ jws := jm (List.mem_of_getElem? (i := 421) (by decide +kernel)) (by decide +kernel)
theorem wv_X2_find : Cond.selects "PictureJoin$Marks" ⟨"PictureJoin$Marks", "find", "(LPictureJoin$Dots;I)V"⟩ ⟨"PictureJoin$Marks", "find", "(LPictureJoin$Dots;I)V"⟩ ∈ jws := jm (List.mem_of_getElem? (i := 422) (by decide +kernel)) (by decide +kernel)
set_option maxRecDepth 100000 in
theorem wc_X2_find : Cond.code yX2_find cX2_find 6 (none : Option FieldType) ∈ jws := jm (List.mem_of_getElem? (i := 423) (by rfl)) (by rfl)
theorem wn_X2_insert : Cond.instanceMethod ⟨"PictureJoin$Marks", "insert", "(III)V"⟩ ∈ jws := jm (List.mem_of_getElem? (i := 435) (by decide +kernel)) (by decide +kernel)
theorem wv_X2_insert : Cond.selects "PictureJoin$Marks" ⟨"PictureJoin$Marks", "insert", "(III)V"⟩ ⟨"PictureJoin$Marks", "insert", "(III)V"⟩ ∈ jws := jm (List.mem_of_getElem? (i := 3) (by decide +kernel)) (by decide +kernel)
set_option maxRecDepth 100000 in
theorem wc_X2_insert : Cond.code yX2_insert cX2_insert 6 (none : Option FieldType) ∈ jws := jm (List.mem_of_getElem? (i := 436) (by rfl)) (by rfl)
theorem wn_X2_nearestTo : Cond.instanceMethod ⟨"PictureJoin$Marks", "nearestTo", "(I)I"⟩ ∈ jws := jm (List.mem_of_getElem? (i := 454) (by decide +kernel)) (by decide +kernel)
theorem wv_X2_nearestTo : Cond.selects "PictureJoin$Marks" ⟨"PictureJoin$Marks", "nearestTo", "(I)I"⟩ ⟨"PictureJoin$Marks", "nearestTo", "(I)I"⟩ ∈ jws := jm (List.mem_of_getElem? (i := 455) (by decide +kernel)) (by decide +kernel)
set_option maxRecDepth 100000 in
theorem wc_X2_nearestTo : Cond.code yX2_nearestTo cX2_nearestTo 6 (some FieldType.int) ∈ jws := jm (List.mem_of_getElem? (i := 456) (by rfl)) (by rfl)
theorem wn_X3_init : Cond.instanceMethod ⟨"PictureJoin$Overlap", "<init>", "()V"⟩ ∈ jws := jm (List.mem_of_getElem? (i := 238) (by decide +kernel)) (by decide +kernel)
set_option maxRecDepth 100000 in
theorem wc_X3_init : Cond.code yX3_init cX3_init 1 (none : Option FieldType) ∈ jws := jm (List.mem_of_getElem? (i := 239) (by rfl)) (by rfl)
theorem wn_X3_find : Cond.instanceMethod ⟨"PictureJoin$Overlap", "find", "(LPictureJoin$Picture;LPictureJoin$Picture;)V"⟩ ∈ jws := jm (List.mem_of_getElem? (i := 545) (by decide +kernel)) (by decide +kernel)
theorem wv_X3_find : Cond.selects "PictureJoin$Overlap" ⟨"PictureJoin$Overlap", "find", "(LPictureJoin$Picture;LPictureJoin$Picture;)V"⟩ ⟨"PictureJoin$Overlap", "find", "(LPictureJoin$Picture;LPictureJoin$Picture;)V"⟩ ∈ jws := jm (List.mem_of_getElem? (i := 546) (by decide +kernel)) (by decide +kernel)
set_option maxRecDepth 100000 in
theorem wc_X3_find : Cond.code yX3_find cX3_find 3 (none : Option FieldType) ∈ jws := jm (List.mem_of_getElem? (i := 547) (by rfl)) (by rfl)
theorem wn_X3_isThere : Cond.instanceMethod ⟨"PictureJoin$Overlap", "isThere", "()Z"⟩ ∈ jws := jm (List.mem_of_getElem? (i := 557) (by decide +kernel)) (by decide +kernel)
theorem wv_X3_isThere : Cond.selects "PictureJoin$Overlap" ⟨"PictureJoin$Overlap", "isThere", "()Z"⟩ ⟨"PictureJoin$Overlap", "isThere", "()Z"⟩ ∈ jws := jm (List.mem_of_getElem? (i := 558) (by decide +kernel)) (by decide +kernel)
set_option maxRecDepth 100000 in
theorem wc_X3_isThere : Cond.code yX3_isThere cX3_isThere 1 (some FieldType.boolean) ∈ jws := jm (List.mem_of_getElem? (i := 559) (by rfl)) (by rfl)
theorem wn_X3_compare : Cond.instanceMethod ⟨"PictureJoin$Overlap", "compare", "(LPictureJoin$Picture;LPictureJoin$Picture;)V"⟩ ∈ jws := jm (List.mem_of_getElem? (i := 565) (by decide +kernel)) (by decide +kernel)
theorem wv_X3_compare : Cond.selects "PictureJoin$Overlap" ⟨"PictureJoin$Overlap", "compare", "(LPictureJoin$Picture;LPictureJoin$Picture;)V"⟩ ⟨"PictureJoin$Overlap", "compare", "(LPictureJoin$Picture;LPictureJoin$Picture;)V"⟩ ∈ jws := jm (List.mem_of_getElem? (i := 566) (by decide +kernel)) (by decide +kernel)
set_option maxRecDepth 100000 in
theorem wc_X3_compare : Cond.code yX3_compare cX3_compare 7 (none : Option FieldType) ∈ jws := jm (List.mem_of_getElem? (i := 567) (by rfl)) (by rfl)
theorem wn_X4_init : Cond.instanceMethod ⟨"PictureJoin$Pairing", "<init>", "()V"⟩ ∈ jws := jm (List.mem_of_getElem? (i := 185) (by decide +kernel)) (by decide +kernel)
set_option maxRecDepth 100000 in
theorem wc_X4_init : Cond.code yX4_init cX4_init 1 (none : Option FieldType) ∈ jws := jm (List.mem_of_getElem? (i := 186) (by rfl)) (by rfl)
theorem wn_X4_find : Cond.instanceMethod ⟨"PictureJoin$Pairing", "find", "(LPictureJoin$Marks;LPictureJoin$Marks;I)V"⟩ ∈ jws := jm (List.mem_of_getElem? (i := 447) (by decide +kernel)) (by decide +kernel)
theorem wv_X4_find : Cond.selects "PictureJoin$Pairing" ⟨"PictureJoin$Pairing", "find", "(LPictureJoin$Marks;LPictureJoin$Marks;I)V"⟩ ⟨"PictureJoin$Pairing", "find", "(LPictureJoin$Marks;LPictureJoin$Marks;I)V"⟩ ∈ jws := jm (List.mem_of_getElem? (i := 448) (by decide +kernel)) (by decide +kernel)
set_option maxRecDepth 100000 in
theorem wc_X4_find : Cond.code yX4_find cX4_find 5 (none : Option FieldType) ∈ jws := jm (List.mem_of_getElem? (i := 449) (by rfl)) (by rfl)
theorem ws_X4_partnerOf : Cond.static ⟨"PictureJoin$Pairing", "partnerOf", "(LPictureJoin$Marks;ILPictureJoin$Marks;I)I"⟩ ∈ jws := jm (List.mem_of_getElem? (i := 451) (by decide +kernel)) (by decide +kernel)
set_option maxRecDepth 100000 in
theorem wc_X4_partnerOf : Cond.code yX4_partnerOf cX4_partnerOf 5 (some FieldType.int) ∈ jws := jm (List.mem_of_getElem? (i := 452) (by rfl)) (by rfl)
theorem wn_X4_shiftX : Cond.instanceMethod ⟨"PictureJoin$Pairing", "shiftX", "(LPictureJoin$Marks;ILPictureJoin$Marks;)I"⟩ ∈ jws := jm (List.mem_of_getElem? (i := 466) (by decide +kernel)) (by decide +kernel)
theorem wv_X4_shiftX : Cond.selects "PictureJoin$Pairing" ⟨"PictureJoin$Pairing", "shiftX", "(LPictureJoin$Marks;ILPictureJoin$Marks;)I"⟩ ⟨"PictureJoin$Pairing", "shiftX", "(LPictureJoin$Marks;ILPictureJoin$Marks;)I"⟩ ∈ jws := jm (List.mem_of_getElem? (i := 4) (by decide +kernel)) (by decide +kernel)
set_option maxRecDepth 100000 in
theorem wc_X4_shiftX : Cond.code yX4_shiftX cX4_shiftX 4 (some FieldType.int) ∈ jws := jm (List.mem_of_getElem? (i := 467) (by rfl)) (by rfl)
theorem wn_X4_shiftY : Cond.instanceMethod ⟨"PictureJoin$Pairing", "shiftY", "(LPictureJoin$Marks;ILPictureJoin$Marks;)I"⟩ ∈ jws := jm (List.mem_of_getElem? (i := 470) (by decide +kernel)) (by decide +kernel)
theorem wv_X4_shiftY : Cond.selects "PictureJoin$Pairing" ⟨"PictureJoin$Pairing", "shiftY", "(LPictureJoin$Marks;ILPictureJoin$Marks;)I"⟩ ⟨"PictureJoin$Pairing", "shiftY", "(LPictureJoin$Marks;ILPictureJoin$Marks;)I"⟩ ∈ jws := jm (List.mem_of_getElem? (i := 5) (by decide +kernel)) (by decide +kernel)
set_option maxRecDepth 100000 in
theorem wc_X4_shiftY : Cond.code yX4_shiftY cX4_shiftY 4 (some FieldType.int) ∈ jws := jm (List.mem_of_getElem? (i := 471) (by rfl)) (by rfl)
theorem wn_X4_propose : Cond.instanceMethod ⟨"PictureJoin$Pairing", "propose", "(LPictureJoin$Marks;LPictureJoin$Marks;II)V"⟩ ∈ jws := jm (List.mem_of_getElem? (i := 474) (by decide +kernel)) (by decide +kernel)
theorem wv_X4_propose : Cond.selects "PictureJoin$Pairing" ⟨"PictureJoin$Pairing", "propose", "(LPictureJoin$Marks;LPictureJoin$Marks;II)V"⟩ ⟨"PictureJoin$Pairing", "propose", "(LPictureJoin$Marks;LPictureJoin$Marks;II)V"⟩ ∈ jws := jm (List.mem_of_getElem? (i := 6) (by decide +kernel)) (by decide +kernel)
set_option maxRecDepth 100000 in
theorem wc_X4_propose : Cond.code yX4_propose cX4_propose 7 (none : Option FieldType) ∈ jws := jm (List.mem_of_getElem? (i := 475) (by rfl)) (by rfl)
theorem wn_X5_init : Cond.instanceMethod ⟨"PictureJoin$Picture", "<init>", "()V"⟩ ∈ jws := jm (List.mem_of_getElem? (i := 86) (by decide +kernel)) (by decide +kernel)
set_option maxRecDepth 100000 in
theorem wc_X5_init : Cond.code yX5_init cX5_init 1 (none : Option FieldType) ∈ jws := jm (List.mem_of_getElem? (i := 87) (by rfl)) (by rfl)
theorem wn_X5_isJoined : Cond.instanceMethod ⟨"PictureJoin$Picture", "isJoined", "()Z"⟩ ∈ jws := jm (List.mem_of_getElem? (i := 489) (by decide +kernel)) (by decide +kernel)
theorem wv_X5_isJoined : Cond.selects "PictureJoin$Picture" ⟨"PictureJoin$Picture", "isJoined", "()Z"⟩ ⟨"PictureJoin$Picture", "isJoined", "()Z"⟩ ∈ jws := jm (List.mem_of_getElem? (i := 490) (by decide +kernel)) (by decide +kernel)
set_option maxRecDepth 100000 in
theorem wc_X5_isJoined : Cond.code yX5_isJoined cX5_isJoined 1 (some FieldType.boolean) ∈ jws := jm (List.mem_of_getElem? (i := 491) (by rfl)) (by rfl)
theorem wn_X5_dotAt : Cond.instanceMethod ⟨"PictureJoin$Picture", "dotAt", "(II)I"⟩ ∈ jws := jm (List.mem_of_getElem? (i := 569) (by decide +kernel)) (by decide +kernel)
theorem wv_X5_dotAt : Cond.selects "PictureJoin$Picture" ⟨"PictureJoin$Picture", "dotAt", "(II)I"⟩ ⟨"PictureJoin$Picture", "dotAt", "(II)I"⟩ ∈ jws := jm (List.mem_of_getElem? (i := 570) (by decide +kernel)) (by decide +kernel)
set_option maxRecDepth 100000 in
theorem wc_X5_dotAt : Cond.code yX5_dotAt cX5_dotAt 3 (some FieldType.int) ∈ jws := jm (List.mem_of_getElem? (i := 571) (by rfl)) (by rfl)
theorem wn_X5_edge : Cond.instanceMethod ⟨"PictureJoin$Picture", "edge", "(I)I"⟩ ∈ jws := jm (List.mem_of_getElem? (i := 549) (by decide +kernel)) (by decide +kernel)
theorem wv_X5_edge : Cond.selects "PictureJoin$Picture" ⟨"PictureJoin$Picture", "edge", "(I)I"⟩ ⟨"PictureJoin$Picture", "edge", "(I)I"⟩ ∈ jws := jm (List.mem_of_getElem? (i := 550) (by decide +kernel)) (by decide +kernel)
set_option maxRecDepth 100000 in
theorem wc_X5_edge : Cond.code yX5_edge cX5_edge 2 (some FieldType.int) ∈ jws := jm (List.mem_of_getElem? (i := 551) (by rfl)) (by rfl)
theorem wn_X6_init : Cond.instanceMethod ⟨"PictureJoin$Seam", "<init>", "()V"⟩ ∈ jws := jm (List.mem_of_getElem? (i := 277) (by decide +kernel)) (by decide +kernel)
set_option maxRecDepth 100000 in
theorem wc_X6_init : Cond.code yX6_init cX6_init 1 (none : Option FieldType) ∈ jws := jm (List.mem_of_getElem? (i := 278) (by rfl)) (by rfl)
theorem wn_X6_find : Cond.instanceMethod ⟨"PictureJoin$Seam", "find", "(LPictureJoin$Overlap;LPictureJoin$Picture;LPictureJoin$Picture;)V"⟩ ∈ jws := jm (List.mem_of_getElem? (i := 579) (by decide +kernel)) (by decide +kernel)
theorem wv_X6_find : Cond.selects "PictureJoin$Seam" ⟨"PictureJoin$Seam", "find", "(LPictureJoin$Overlap;LPictureJoin$Picture;LPictureJoin$Picture;)V"⟩ ⟨"PictureJoin$Seam", "find", "(LPictureJoin$Overlap;LPictureJoin$Picture;LPictureJoin$Picture;)V"⟩ ∈ jws := jm (List.mem_of_getElem? (i := 580) (by decide +kernel)) (by decide +kernel)
set_option maxRecDepth 100000 in
theorem wc_X6_find : Cond.code yX6_find cX6_find 10 (none : Option FieldType) ∈ jws := jm (List.mem_of_getElem? (i := 581) (by rfl)) (by rfl)
theorem ws_X6_unlikeness : Cond.static ⟨"PictureJoin$Seam", "unlikeness", "(LPictureJoin$Picture;LPictureJoin$Picture;II)I"⟩ ∈ jws := jm (List.mem_of_getElem? (i := 583) (by decide +kernel)) (by decide +kernel)
set_option maxRecDepth 100000 in
theorem wc_X6_unlikeness : Cond.code yX6_unlikeness cX6_unlikeness 6 (some FieldType.int) ∈ jws := jm (List.mem_of_getElem? (i := 584) (by rfl)) (by rfl)
theorem wn_X6_costAt : Cond.instanceMethod ⟨"PictureJoin$Seam", "costAt", "(II)I"⟩ ∈ jws := jm (List.mem_of_getElem? (i := 596) (by decide +kernel)) (by decide +kernel)
theorem wv_X6_costAt : Cond.selects "PictureJoin$Seam" ⟨"PictureJoin$Seam", "costAt", "(II)I"⟩ ⟨"PictureJoin$Seam", "costAt", "(II)I"⟩ ∈ jws := jm (List.mem_of_getElem? (i := 15) (by decide +kernel)) (by decide +kernel)
set_option maxRecDepth 100000 in
theorem wc_X6_costAt : Cond.code yX6_costAt cX6_costAt 3 (some FieldType.int) ∈ jws := jm (List.mem_of_getElem? (i := 597) (by rfl)) (by rfl)
theorem wn_X6_cheapest : Cond.instanceMethod ⟨"PictureJoin$Seam", "cheapest", "(IIII)I"⟩ ∈ jws := jm (List.mem_of_getElem? (i := 591) (by decide +kernel)) (by decide +kernel)
theorem wv_X6_cheapest : Cond.selects "PictureJoin$Seam" ⟨"PictureJoin$Seam", "cheapest", "(IIII)I"⟩ ⟨"PictureJoin$Seam", "cheapest", "(IIII)I"⟩ ∈ jws := jm (List.mem_of_getElem? (i := 14) (by decide +kernel)) (by decide +kernel)
set_option maxRecDepth 100000 in
theorem wc_X6_cheapest : Cond.code yX6_cheapest cX6_cheapest 7 (some FieldType.int) ∈ jws := jm (List.mem_of_getElem? (i := 592) (by rfl)) (by rfl)
theorem wn_X7_init : Cond.instanceMethod ⟨"PictureJoin$World", "<init>", "()V"⟩ ∈ jws := jm (List.mem_of_getElem? (i := 66) (by decide +kernel)) (by decide +kernel)
set_option maxRecDepth 100000 in
theorem wc_X7_init : Cond.code yX7_init cX7_init 1 (none : Option FieldType) ∈ jws := jm (List.mem_of_getElem? (i := 67) (by rfl)) (by rfl)
theorem wn_X7_lightAt : Cond.instanceMethod ⟨"PictureJoin$World", "lightAt", "(II)I"⟩ ∈ jws := jm (List.mem_of_getElem? (i := 323) (by decide +kernel)) (by decide +kernel)
theorem wv_X7_lightAt : Cond.selects "PictureJoin$World" ⟨"PictureJoin$World", "lightAt", "(II)I"⟩ ⟨"PictureJoin$World", "lightAt", "(II)I"⟩ ∈ jws := jm (List.mem_of_getElem? (i := 324) (by decide +kernel)) (by decide +kernel)
set_option maxRecDepth 100000 in
theorem wc_X7_lightAt : Cond.code yX7_lightAt cX7_lightAt 4 (some FieldType.int) ∈ jws := jm (List.mem_of_getElem? (i := 325) (by rfl)) (by rfl)
theorem wn_X7_shootInto : Cond.instanceMethod ⟨"PictureJoin$World", "shootInto", "(LPictureJoin$Dots;III)V"⟩ ∈ jws := jm (List.mem_of_getElem? (i := 342) (by decide +kernel)) (by decide +kernel)
theorem wv_X7_shootInto : Cond.selects "PictureJoin$World" ⟨"PictureJoin$World", "shootInto", "(LPictureJoin$Dots;III)V"⟩ ⟨"PictureJoin$World", "shootInto", "(LPictureJoin$Dots;III)V"⟩ ∈ jws := jm (List.mem_of_getElem? (i := 343) (by decide +kernel)) (by decide +kernel)
set_option maxRecDepth 100000 in
theorem wc_X7_shootInto : Cond.code yX7_shootInto cX7_shootInto 7 (none : Option FieldType) ∈ jws := jm (List.mem_of_getElem? (i := 344) (by rfl)) (by rfl)
theorem wn_X8_init : Cond.instanceMethod ⟨"PictureJoin", "<init>", "()V"⟩ ∈ jws := jm (List.mem_of_getElem? (i := 58) (by decide +kernel)) (by decide +kernel)
set_option maxRecDepth 100000 in
theorem wc_X8_init : Cond.code yX8_init cX8_init 1 (none : Option FieldType) ∈ jws := jm (List.mem_of_getElem? (i := 59) (by rfl)) (by rfl)
theorem wn_X8_seed : Cond.instanceMethod ⟨"PictureJoin", "seed", "(I)I"⟩ ∈ jws := jm (List.mem_of_getElem? (i := 312) (by decide +kernel)) (by decide +kernel)
theorem wv_X8_seed : Cond.selects "PictureJoin" ⟨"PictureJoin", "seed", "(I)I"⟩ ⟨"PictureJoin", "seed", "(I)I"⟩ ∈ jws := jm (List.mem_of_getElem? (i := 313) (by decide +kernel)) (by decide +kernel)
set_option maxRecDepth 100000 in
theorem wc_X8_seed : Cond.code yX8_seed cX8_seed 3 (some FieldType.int) ∈ jws := jm (List.mem_of_getElem? (i := 314) (by rfl)) (by rfl)
theorem wn_X8_light : Cond.instanceMethod ⟨"PictureJoin", "light", "(II)I"⟩ ∈ jws := jm (List.mem_of_getElem? (i := 316) (by decide +kernel)) (by decide +kernel)
theorem wv_X8_light : Cond.selects "PictureJoin" ⟨"PictureJoin", "light", "(II)I"⟩ ⟨"PictureJoin", "light", "(II)I"⟩ ∈ jws := jm (List.mem_of_getElem? (i := 317) (by decide +kernel)) (by decide +kernel)
set_option maxRecDepth 100000 in
theorem wc_X8_light : Cond.code yX8_light cX8_light 4 (some FieldType.int) ∈ jws := jm (List.mem_of_getElem? (i := 318) (by rfl)) (by rfl)
theorem wn_X8_shoot : Cond.instanceMethod ⟨"PictureJoin", "shoot", "(IIIII)I"⟩ ∈ jws := jm (List.mem_of_getElem? (i := 331) (by decide +kernel)) (by decide +kernel)
theorem wv_X8_shoot : Cond.selects "PictureJoin" ⟨"PictureJoin", "shoot", "(IIIII)I"⟩ ⟨"PictureJoin", "shoot", "(IIIII)I"⟩ ∈ jws := jm (List.mem_of_getElem? (i := 332) (by decide +kernel)) (by decide +kernel)
set_option maxRecDepth 100000 in
theorem wc_X8_shoot : Cond.code yX8_shoot cX8_shoot 8 (some FieldType.int) ∈ jws := jm (List.mem_of_getElem? (i := 333) (by rfl)) (by rfl)
theorem wn_X8_clear : Cond.instanceMethod ⟨"PictureJoin", "clear", "()I"⟩ ∈ jws := jm (List.mem_of_getElem? (i := 356) (by decide +kernel)) (by decide +kernel)
theorem wv_X8_clear : Cond.selects "PictureJoin" ⟨"PictureJoin", "clear", "()I"⟩ ⟨"PictureJoin", "clear", "()I"⟩ ∈ jws := jm (List.mem_of_getElem? (i := 357) (by decide +kernel)) (by decide +kernel)
set_option maxRecDepth 100000 in
theorem wc_X8_clear : Cond.code yX8_clear cX8_clear 2 (some FieldType.int) ∈ jws := jm (List.mem_of_getElem? (i := 358) (by rfl)) (by rfl)
theorem wn_X8_dot : Cond.instanceMethod ⟨"PictureJoin", "dot", "(IIII)I"⟩ ∈ jws := jm (List.mem_of_getElem? (i := 360) (by decide +kernel)) (by decide +kernel)
theorem wv_X8_dot : Cond.selects "PictureJoin" ⟨"PictureJoin", "dot", "(IIII)I"⟩ ⟨"PictureJoin", "dot", "(IIII)I"⟩ ∈ jws := jm (List.mem_of_getElem? (i := 361) (by decide +kernel)) (by decide +kernel)
set_option maxRecDepth 100000 in
theorem wc_X8_dot : Cond.code yX8_dot cX8_dot 7 (some FieldType.int) ∈ jws := jm (List.mem_of_getElem? (i := 362) (by rfl)) (by rfl)
theorem wn_X8_at : Cond.instanceMethod ⟨"PictureJoin", "at", "(III)I"⟩ ∈ jws := jm (List.mem_of_getElem? (i := 380) (by decide +kernel)) (by decide +kernel)
theorem wv_X8_at : Cond.selects "PictureJoin" ⟨"PictureJoin", "at", "(III)I"⟩ ⟨"PictureJoin", "at", "(III)I"⟩ ∈ jws := jm (List.mem_of_getElem? (i := 381) (by decide +kernel)) (by decide +kernel)
set_option maxRecDepth 100000 in
theorem wc_X8_at : Cond.code yX8_at cX8_at 4 (some FieldType.int) ∈ jws := jm (List.mem_of_getElem? (i := 382) (by rfl)) (by rfl)
theorem wn_X8_rules : Cond.instanceMethod ⟨"PictureJoin", "rules", "(II)I"⟩ ∈ jws := jm (List.mem_of_getElem? (i := 384) (by decide +kernel)) (by decide +kernel)
theorem wv_X8_rules : Cond.selects "PictureJoin" ⟨"PictureJoin", "rules", "(II)I"⟩ ⟨"PictureJoin", "rules", "(II)I"⟩ ∈ jws := jm (List.mem_of_getElem? (i := 385) (by decide +kernel)) (by decide +kernel)
set_option maxRecDepth 100000 in
theorem wc_X8_rules : Cond.code yX8_rules cX8_rules 3 (some FieldType.int) ∈ jws := jm (List.mem_of_getElem? (i := 386) (by rfl)) (by rfl)
theorem wn_X8_score : Cond.instanceMethod ⟨"PictureJoin", "score", "(III)I"⟩ ∈ jws := jm (List.mem_of_getElem? (i := 389) (by decide +kernel)) (by decide +kernel)
theorem wv_X8_score : Cond.selects "PictureJoin" ⟨"PictureJoin", "score", "(III)I"⟩ ⟨"PictureJoin", "score", "(III)I"⟩ ∈ jws := jm (List.mem_of_getElem? (i := 390) (by decide +kernel)) (by decide +kernel)
set_option maxRecDepth 100000 in
theorem wc_X8_score : Cond.code yX8_score cX8_score 4 (some FieldType.int) ∈ jws := jm (List.mem_of_getElem? (i := 391) (by rfl)) (by rfl)
theorem wn_X8_marks : Cond.instanceMethod ⟨"PictureJoin", "marks", "(I)I"⟩ ∈ jws := jm (List.mem_of_getElem? (i := 408) (by decide +kernel)) (by decide +kernel)
theorem wv_X8_marks : Cond.selects "PictureJoin" ⟨"PictureJoin", "marks", "(I)I"⟩ ⟨"PictureJoin", "marks", "(I)I"⟩ ∈ jws := jm (List.mem_of_getElem? (i := 409) (by decide +kernel)) (by decide +kernel)
set_option maxRecDepth 100000 in
theorem wc_X8_marks : Cond.code yX8_marks cX8_marks 2 (some FieldType.int) ∈ jws := jm (List.mem_of_getElem? (i := 410) (by rfl)) (by rfl)
theorem wn_X8_mark : Cond.instanceMethod ⟨"PictureJoin", "mark", "(III)I"⟩ ∈ jws := jm (List.mem_of_getElem? (i := 493) (by decide +kernel)) (by decide +kernel)
theorem wv_X8_mark : Cond.selects "PictureJoin" ⟨"PictureJoin", "mark", "(III)I"⟩ ⟨"PictureJoin", "mark", "(III)I"⟩ ∈ jws := jm (List.mem_of_getElem? (i := 494) (by decide +kernel)) (by decide +kernel)
set_option maxRecDepth 100000 in
theorem wc_X8_mark : Cond.code yX8_mark cX8_mark 5 (some FieldType.int) ∈ jws := jm (List.mem_of_getElem? (i := 495) (by rfl)) (by rfl)
theorem wn_X8_match : Cond.instanceMethod ⟨"PictureJoin", "match", "(III)I"⟩ ∈ jws := jm (List.mem_of_getElem? (i := 501) (by decide +kernel)) (by decide +kernel)
theorem wv_X8_match : Cond.selects "PictureJoin" ⟨"PictureJoin", "match", "(III)I"⟩ ⟨"PictureJoin", "match", "(III)I"⟩ ∈ jws := jm (List.mem_of_getElem? (i := 502) (by decide +kernel)) (by decide +kernel)
set_option maxRecDepth 100000 in
theorem wc_X8_match : Cond.code yX8_match cX8_match 4 (some FieldType.int) ∈ jws := jm (List.mem_of_getElem? (i := 503) (by rfl)) (by rfl)
theorem wn_X8_shift : Cond.instanceMethod ⟨"PictureJoin", "shift", "(III)I"⟩ ∈ jws := jm (List.mem_of_getElem? (i := 510) (by decide +kernel)) (by decide +kernel)
theorem wv_X8_shift : Cond.selects "PictureJoin" ⟨"PictureJoin", "shift", "(III)I"⟩ ⟨"PictureJoin", "shift", "(III)I"⟩ ∈ jws := jm (List.mem_of_getElem? (i := 511) (by decide +kernel)) (by decide +kernel)
set_option maxRecDepth 100000 in
theorem wc_X8_shift : Cond.code yX8_shift cX8_shift 5 (some FieldType.int) ∈ jws := jm (List.mem_of_getElem? (i := 512) (by rfl)) (by rfl)
theorem wn_X8_place : Cond.instanceMethod ⟨"PictureJoin", "place", "(II)I"⟩ ∈ jws := jm (List.mem_of_getElem? (i := 515) (by decide +kernel)) (by decide +kernel)
theorem wv_X8_place : Cond.selects "PictureJoin" ⟨"PictureJoin", "place", "(II)I"⟩ ⟨"PictureJoin", "place", "(II)I"⟩ ∈ jws := jm (List.mem_of_getElem? (i := 516) (by decide +kernel)) (by decide +kernel)
set_option maxRecDepth 100000 in
theorem wc_X8_place : Cond.code yX8_place cX8_place 4 (some FieldType.int) ∈ jws := jm (List.mem_of_getElem? (i := 517) (by rfl)) (by rfl)
theorem wn_X8_open : Cond.instanceMethod ⟨"PictureJoin", "open", "()I"⟩ ∈ jws := jm (List.mem_of_getElem? (i := 520) (by decide +kernel)) (by decide +kernel)
theorem wv_X8_open : Cond.selects "PictureJoin" ⟨"PictureJoin", "open", "()I"⟩ ⟨"PictureJoin", "open", "()I"⟩ ∈ jws := jm (List.mem_of_getElem? (i := 521) (by decide +kernel)) (by decide +kernel)
set_option maxRecDepth 100000 in
theorem wc_X8_open : Cond.code yX8_open cX8_open 1 (some FieldType.int) ∈ jws := jm (List.mem_of_getElem? (i := 522) (by rfl)) (by rfl)
theorem wn_X8_joined : Cond.instanceMethod ⟨"PictureJoin", "joined", "()I"⟩ ∈ jws := jm (List.mem_of_getElem? (i := 532) (by decide +kernel)) (by decide +kernel)
theorem wv_X8_joined : Cond.selects "PictureJoin" ⟨"PictureJoin", "joined", "()I"⟩ ⟨"PictureJoin", "joined", "()I"⟩ ∈ jws := jm (List.mem_of_getElem? (i := 533) (by decide +kernel)) (by decide +kernel)
set_option maxRecDepth 100000 in
theorem wc_X8_joined : Cond.code yX8_joined cX8_joined 1 (some FieldType.int) ∈ jws := jm (List.mem_of_getElem? (i := 534) (by rfl)) (by rfl)
theorem wn_X8_overlap : Cond.instanceMethod ⟨"PictureJoin", "overlap", "(III)I"⟩ ∈ jws := jm (List.mem_of_getElem? (i := 536) (by decide +kernel)) (by decide +kernel)
theorem wv_X8_overlap : Cond.selects "PictureJoin" ⟨"PictureJoin", "overlap", "(III)I"⟩ ⟨"PictureJoin", "overlap", "(III)I"⟩ ∈ jws := jm (List.mem_of_getElem? (i := 537) (by decide +kernel)) (by decide +kernel)
set_option maxRecDepth 100000 in
theorem wc_X8_overlap : Cond.code yX8_overlap cX8_overlap 5 (some FieldType.int) ∈ jws := jm (List.mem_of_getElem? (i := 538) (by rfl)) (by rfl)
theorem wn_X8_lights : Cond.instanceMethod ⟨"PictureJoin", "lights", "(III)I"⟩ ∈ jws := jm (List.mem_of_getElem? (i := 561) (by decide +kernel)) (by decide +kernel)
theorem wv_X8_lights : Cond.selects "PictureJoin" ⟨"PictureJoin", "lights", "(III)I"⟩ ⟨"PictureJoin", "lights", "(III)I"⟩ ∈ jws := jm (List.mem_of_getElem? (i := 562) (by decide +kernel)) (by decide +kernel)
set_option maxRecDepth 100000 in
theorem wc_X8_lights : Cond.code yX8_lights cX8_lights 5 (some FieldType.int) ∈ jws := jm (List.mem_of_getElem? (i := 563) (by rfl)) (by rfl)
theorem wn_X8_seam : Cond.instanceMethod ⟨"PictureJoin", "seam", "(III)I"⟩ ∈ jws := jm (List.mem_of_getElem? (i := 574) (by decide +kernel)) (by decide +kernel)
theorem wv_X8_seam : Cond.selects "PictureJoin" ⟨"PictureJoin", "seam", "(III)I"⟩ ⟨"PictureJoin", "seam", "(III)I"⟩ ∈ jws := jm (List.mem_of_getElem? (i := 575) (by decide +kernel)) (by decide +kernel)
set_option maxRecDepth 100000 in
theorem wc_X8_seam : Cond.code yX8_seam cX8_seam 5 (some FieldType.int) ∈ jws := jm (List.mem_of_getElem? (i := 576) (by rfl)) (by rfl)
theorem wn_X8_whole : Cond.instanceMethod ⟨"PictureJoin", "whole", "(III)I"⟩ ∈ jws := jm (List.mem_of_getElem? (i := 599) (by decide +kernel)) (by decide +kernel)
theorem wv_X8_whole : Cond.selects "PictureJoin" ⟨"PictureJoin", "whole", "(III)I"⟩ ⟨"PictureJoin", "whole", "(III)I"⟩ ∈ jws := jm (List.mem_of_getElem? (i := 600) (by decide +kernel)) (by decide +kernel)
set_option maxRecDepth 100000 in
theorem wc_X8_whole : Cond.code yX8_whole cX8_whole 5 (some FieldType.int) ∈ jws := jm (List.mem_of_getElem? (i := 601) (by rfl)) (by rfl)
theorem wn_X8_extent : Cond.instanceMethod ⟨"PictureJoin", "extent", "(I)I"⟩ ∈ jws := jm (List.mem_of_getElem? (i := 609) (by decide +kernel)) (by decide +kernel)
theorem wv_X8_extent : Cond.selects "PictureJoin" ⟨"PictureJoin", "extent", "(I)I"⟩ ⟨"PictureJoin", "extent", "(I)I"⟩ ∈ jws := jm (List.mem_of_getElem? (i := 610) (by decide +kernel)) (by decide +kernel)
set_option maxRecDepth 100000 in
theorem wc_X8_extent : Cond.code yX8_extent cX8_extent 2 (some FieldType.int) ∈ jws := jm (List.mem_of_getElem? (i := 611) (by rfl)) (by rfl)
theorem wn_X8_told : Cond.instanceMethod ⟨"PictureJoin", "told", "(I)I"⟩ ∈ jws := jm (List.mem_of_getElem? (i := 625) (by decide +kernel)) (by decide +kernel)
theorem wv_X8_told : Cond.selects "PictureJoin" ⟨"PictureJoin", "told", "(I)I"⟩ ⟨"PictureJoin", "told", "(I)I"⟩ ∈ jws := jm (List.mem_of_getElem? (i := 626) (by decide +kernel)) (by decide +kernel)
set_option maxRecDepth 100000 in
theorem wc_X8_told : Cond.code yX8_told cX8_told 2 (some FieldType.int) ∈ jws := jm (List.mem_of_getElem? (i := 627) (by rfl)) (by rfl)
theorem ws_X8_within : Cond.static ⟨"PictureJoin", "within", "(III)Z"⟩ ∈ jws := jm (List.mem_of_getElem? (i := 320) (by decide +kernel)) (by decide +kernel)
set_option maxRecDepth 100000 in
theorem wc_X8_within : Cond.code yX8_within cX8_within 3 (some FieldType.boolean) ∈ jws := jm (List.mem_of_getElem? (i := 321) (by rfl)) (by rfl)
theorem wn_X8_isPicture : Cond.instanceMethod ⟨"PictureJoin", "isPicture", "(I)Z"⟩ ∈ jws := jm (List.mem_of_getElem? (i := 369) (by decide +kernel)) (by decide +kernel)
theorem wv_X8_isPicture : Cond.selects "PictureJoin" ⟨"PictureJoin", "isPicture", "(I)Z"⟩ ⟨"PictureJoin", "isPicture", "(I)Z"⟩ ∈ jws := jm (List.mem_of_getElem? (i := 1) (by decide +kernel)) (by decide +kernel)
set_option maxRecDepth 100000 in
theorem wc_X8_isPicture : Cond.code yX8_isPicture cX8_isPicture 2 (some FieldType.boolean) ∈ jws := jm (List.mem_of_getElem? (i := 370) (by rfl)) (by rfl)
theorem wn_X8_isDot : Cond.instanceMethod ⟨"PictureJoin", "isDot", "(III)Z"⟩ ∈ jws := jm (List.mem_of_getElem? (i := 365) (by decide +kernel)) (by decide +kernel)
theorem wv_X8_isDot : Cond.selects "PictureJoin" ⟨"PictureJoin", "isDot", "(III)Z"⟩ ⟨"PictureJoin", "isDot", "(III)Z"⟩ ∈ jws := jm (List.mem_of_getElem? (i := 0) (by decide +kernel)) (by decide +kernel)
set_option maxRecDepth 100000 in
theorem wc_X8_isDot : Cond.code yX8_isDot cX8_isDot 4 (some FieldType.boolean) ∈ jws := jm (List.mem_of_getElem? (i := 366) (by rfl)) (by rfl)
theorem wn_X8_isMark : Cond.instanceMethod ⟨"PictureJoin", "isMark", "(II)Z"⟩ ∈ jws := jm (List.mem_of_getElem? (i := 498) (by decide +kernel)) (by decide +kernel)
theorem wv_X8_isMark : Cond.selects "PictureJoin" ⟨"PictureJoin", "isMark", "(II)Z"⟩ ⟨"PictureJoin", "isMark", "(II)Z"⟩ ∈ jws := jm (List.mem_of_getElem? (i := 10) (by decide +kernel)) (by decide +kernel)
set_option maxRecDepth 100000 in
theorem wc_X8_isMark : Cond.code yX8_isMark cX8_isMark 3 (some FieldType.boolean) ∈ jws := jm (List.mem_of_getElem? (i := 499) (by rfl)) (by rfl)
theorem wn_X8_areTwo : Cond.instanceMethod ⟨"PictureJoin", "areTwo", "(II)Z"⟩ ∈ jws := jm (List.mem_of_getElem? (i := 506) (by decide +kernel)) (by decide +kernel)
theorem wv_X8_areTwo : Cond.selects "PictureJoin" ⟨"PictureJoin", "areTwo", "(II)Z"⟩ ⟨"PictureJoin", "areTwo", "(II)Z"⟩ ∈ jws := jm (List.mem_of_getElem? (i := 11) (by decide +kernel)) (by decide +kernel)
set_option maxRecDepth 100000 in
theorem wc_X8_areTwo : Cond.code yX8_areTwo cX8_areTwo 3 (some FieldType.boolean) ∈ jws := jm (List.mem_of_getElem? (i := 507) (by rfl)) (by rfl)
theorem wn_X8_refusalOfTwo : Cond.instanceMethod ⟨"PictureJoin", "refusalOfTwo", "(IIZ)I"⟩ ∈ jws := jm (List.mem_of_getElem? (i := 541) (by decide +kernel)) (by decide +kernel)
theorem wv_X8_refusalOfTwo : Cond.selects "PictureJoin" ⟨"PictureJoin", "refusalOfTwo", "(IIZ)I"⟩ ⟨"PictureJoin", "refusalOfTwo", "(IIZ)I"⟩ ∈ jws := jm (List.mem_of_getElem? (i := 13) (by decide +kernel)) (by decide +kernel)
set_option maxRecDepth 100000 in
theorem wc_X8_refusalOfTwo : Cond.code yX8_refusalOfTwo cX8_refusalOfTwo 4 (some FieldType.int) ∈ jws := jm (List.mem_of_getElem? (i := 542) (by rfl)) (by rfl)
theorem wn_X9_init : Cond.instanceMethod ⟨"PictureJoinModel", "<init>", "()V"⟩ ∈ jws := jm (List.mem_of_getElem? (i := 631) (by decide +kernel)) (by decide +kernel)
set_option maxRecDepth 100000 in
theorem wc_X9_init : Cond.code yX9_init cX9_init 1 (none : Option FieldType) ∈ jws := jm (List.mem_of_getElem? (i := 632) (by rfl)) (by rfl)
theorem ws_X9_in : Cond.static ⟨"PictureJoinModel", "in", "(III)Z"⟩ ∈ jws := jm (List.mem_of_getElem? (i := 725) (by decide +kernel)) (by decide +kernel)
set_option maxRecDepth 100000 in
theorem wc_X9_in : Cond.code yX9_in cX9_in 3 (some FieldType.boolean) ∈ jws := jm (List.mem_of_getElem? (i := 726) (by rfl)) (by rfl)
theorem wn_X9_isPicture : Cond.instanceMethod ⟨"PictureJoinModel", "isPicture", "(I)Z"⟩ ∈ jws := jm (List.mem_of_getElem? (i := 753) (by decide +kernel)) (by decide +kernel)
theorem wv_X9_isPicture : Cond.selects "PictureJoinModel" ⟨"PictureJoinModel", "isPicture", "(I)Z"⟩ ⟨"PictureJoinModel", "isPicture", "(I)Z"⟩ ∈ jws := jm (List.mem_of_getElem? (i := 18) (by decide +kernel)) (by decide +kernel)
set_option maxRecDepth 100000 in
theorem wc_X9_isPicture : Cond.code yX9_isPicture cX9_isPicture 2 (some FieldType.boolean) ∈ jws := jm (List.mem_of_getElem? (i := 754) (by rfl)) (by rfl)
theorem wn_X9_seed : Cond.instanceMethod ⟨"PictureJoinModel", "seed", "(I)I"⟩ ∈ jws := jm (List.mem_of_getElem? (i := 717) (by decide +kernel)) (by decide +kernel)
theorem wv_X9_seed : Cond.selects "PictureJoinModel" ⟨"PictureJoinModel", "seed", "(I)I"⟩ ⟨"PictureJoinModel", "seed", "(I)I"⟩ ∈ jws := jm (List.mem_of_getElem? (i := 718) (by decide +kernel)) (by decide +kernel)
set_option maxRecDepth 100000 in
theorem wc_X9_seed : Cond.code yX9_seed cX9_seed 3 (some FieldType.int) ∈ jws := jm (List.mem_of_getElem? (i := 719) (by rfl)) (by rfl)
theorem wn_X9_lightAt : Cond.instanceMethod ⟨"PictureJoinModel", "lightAt", "(II)I"⟩ ∈ jws := jm (List.mem_of_getElem? (i := 729) (by decide +kernel)) (by decide +kernel)
theorem wv_X9_lightAt : Cond.selects "PictureJoinModel" ⟨"PictureJoinModel", "lightAt", "(II)I"⟩ ⟨"PictureJoinModel", "lightAt", "(II)I"⟩ ∈ jws := jm (List.mem_of_getElem? (i := 16) (by decide +kernel)) (by decide +kernel)
set_option maxRecDepth 100000 in
theorem wc_X9_lightAt : Cond.code yX9_lightAt cX9_lightAt 4 (some FieldType.int) ∈ jws := jm (List.mem_of_getElem? (i := 730) (by rfl)) (by rfl)
theorem wn_X9_light : Cond.instanceMethod ⟨"PictureJoinModel", "light", "(II)I"⟩ ∈ jws := jm (List.mem_of_getElem? (i := 721) (by decide +kernel)) (by decide +kernel)
theorem wv_X9_light : Cond.selects "PictureJoinModel" ⟨"PictureJoinModel", "light", "(II)I"⟩ ⟨"PictureJoinModel", "light", "(II)I"⟩ ∈ jws := jm (List.mem_of_getElem? (i := 722) (by decide +kernel)) (by decide +kernel)
set_option maxRecDepth 100000 in
theorem wc_X9_light : Cond.code yX9_light cX9_light 3 (some FieldType.int) ∈ jws := jm (List.mem_of_getElem? (i := 723) (by rfl)) (by rfl)
theorem wn_X9_shoot : Cond.instanceMethod ⟨"PictureJoinModel", "shoot", "(IIIII)I"⟩ ∈ jws := jm (List.mem_of_getElem? (i := 736) (by decide +kernel)) (by decide +kernel)
theorem wv_X9_shoot : Cond.selects "PictureJoinModel" ⟨"PictureJoinModel", "shoot", "(IIIII)I"⟩ ⟨"PictureJoinModel", "shoot", "(IIIII)I"⟩ ∈ jws := jm (List.mem_of_getElem? (i := 737) (by decide +kernel)) (by decide +kernel)
set_option maxRecDepth 100000 in
theorem wc_X9_shoot : Cond.code yX9_shoot cX9_shoot 9 (some FieldType.int) ∈ jws := jm (List.mem_of_getElem? (i := 738) (by rfl)) (by rfl)
theorem wn_X9_clear : Cond.instanceMethod ⟨"PictureJoinModel", "clear", "()I"⟩ ∈ jws := jm (List.mem_of_getElem? (i := 740) (by decide +kernel)) (by decide +kernel)
theorem wv_X9_clear : Cond.selects "PictureJoinModel" ⟨"PictureJoinModel", "clear", "()I"⟩ ⟨"PictureJoinModel", "clear", "()I"⟩ ∈ jws := jm (List.mem_of_getElem? (i := 741) (by decide +kernel)) (by decide +kernel)
set_option maxRecDepth 100000 in
theorem wc_X9_clear : Cond.code yX9_clear cX9_clear 2 (some FieldType.int) ∈ jws := jm (List.mem_of_getElem? (i := 742) (by rfl)) (by rfl)
theorem wn_X9_isDot : Cond.instanceMethod ⟨"PictureJoinModel", "isDot", "(III)Z"⟩ ∈ jws := jm (List.mem_of_getElem? (i := 749) (by decide +kernel)) (by decide +kernel)
theorem wv_X9_isDot : Cond.selects "PictureJoinModel" ⟨"PictureJoinModel", "isDot", "(III)Z"⟩ ⟨"PictureJoinModel", "isDot", "(III)Z"⟩ ∈ jws := jm (List.mem_of_getElem? (i := 17) (by decide +kernel)) (by decide +kernel)
set_option maxRecDepth 100000 in
theorem wc_X9_isDot : Cond.code yX9_isDot cX9_isDot 4 (some FieldType.boolean) ∈ jws := jm (List.mem_of_getElem? (i := 750) (by rfl)) (by rfl)
theorem wn_X9_dotAt : Cond.instanceMethod ⟨"PictureJoinModel", "dotAt", "(III)I"⟩ ∈ jws := jm (List.mem_of_getElem? (i := 759) (by decide +kernel)) (by decide +kernel)
theorem wv_X9_dotAt : Cond.selects "PictureJoinModel" ⟨"PictureJoinModel", "dotAt", "(III)I"⟩ ⟨"PictureJoinModel", "dotAt", "(III)I"⟩ ∈ jws := jm (List.mem_of_getElem? (i := 19) (by decide +kernel)) (by decide +kernel)
set_option maxRecDepth 100000 in
theorem wc_X9_dotAt : Cond.code yX9_dotAt cX9_dotAt 4 (some FieldType.int) ∈ jws := jm (List.mem_of_getElem? (i := 760) (by rfl)) (by rfl)
theorem wn_X9_dot : Cond.instanceMethod ⟨"PictureJoinModel", "dot", "(IIII)I"⟩ ∈ jws := jm (List.mem_of_getElem? (i := 744) (by decide +kernel)) (by decide +kernel)
theorem wv_X9_dot : Cond.selects "PictureJoinModel" ⟨"PictureJoinModel", "dot", "(IIII)I"⟩ ⟨"PictureJoinModel", "dot", "(IIII)I"⟩ ∈ jws := jm (List.mem_of_getElem? (i := 745) (by decide +kernel)) (by decide +kernel)
set_option maxRecDepth 100000 in
theorem wc_X9_dot : Cond.code yX9_dot cX9_dot 6 (some FieldType.int) ∈ jws := jm (List.mem_of_getElem? (i := 746) (by rfl)) (by rfl)
theorem wn_X9_at : Cond.instanceMethod ⟨"PictureJoinModel", "at", "(III)I"⟩ ∈ jws := jm (List.mem_of_getElem? (i := 762) (by decide +kernel)) (by decide +kernel)
theorem wv_X9_at : Cond.selects "PictureJoinModel" ⟨"PictureJoinModel", "at", "(III)I"⟩ ⟨"PictureJoinModel", "at", "(III)I"⟩ ∈ jws := jm (List.mem_of_getElem? (i := 763) (by decide +kernel)) (by decide +kernel)
set_option maxRecDepth 100000 in
theorem wc_X9_at : Cond.code yX9_at cX9_at 4 (some FieldType.int) ∈ jws := jm (List.mem_of_getElem? (i := 764) (by rfl)) (by rfl)
theorem wn_X9_rules : Cond.instanceMethod ⟨"PictureJoinModel", "rules", "(II)I"⟩ ∈ jws := jm (List.mem_of_getElem? (i := 766) (by decide +kernel)) (by decide +kernel)
theorem wv_X9_rules : Cond.selects "PictureJoinModel" ⟨"PictureJoinModel", "rules", "(II)I"⟩ ⟨"PictureJoinModel", "rules", "(II)I"⟩ ∈ jws := jm (List.mem_of_getElem? (i := 767) (by decide +kernel)) (by decide +kernel)
set_option maxRecDepth 100000 in
theorem wc_X9_rules : Cond.code yX9_rules cX9_rules 3 (some FieldType.int) ∈ jws := jm (List.mem_of_getElem? (i := 768) (by rfl)) (by rfl)
theorem wn_X9_scoreOf : Cond.instanceMethod ⟨"PictureJoinModel", "scoreOf", "(III)I"⟩ ∈ jws := jm (List.mem_of_getElem? (i := 776) (by decide +kernel)) (by decide +kernel)
theorem wv_X9_scoreOf : Cond.selects "PictureJoinModel" ⟨"PictureJoinModel", "scoreOf", "(III)I"⟩ ⟨"PictureJoinModel", "scoreOf", "(III)I"⟩ ∈ jws := jm (List.mem_of_getElem? (i := 20) (by decide +kernel)) (by decide +kernel)
set_option maxRecDepth 100000 in
theorem wc_X9_scoreOf : Cond.code yX9_scoreOf cX9_scoreOf 14 (some FieldType.int) ∈ jws := jm (List.mem_of_getElem? (i := 777) (by rfl)) (by rfl)
theorem wn_X9_signOf : Cond.instanceMethod ⟨"PictureJoinModel", "signOf", "(III)I"⟩ ∈ jws := jm (List.mem_of_getElem? (i := 800) (by decide +kernel)) (by decide +kernel)
theorem wv_X9_signOf : Cond.selects "PictureJoinModel" ⟨"PictureJoinModel", "signOf", "(III)I"⟩ ⟨"PictureJoinModel", "signOf", "(III)I"⟩ ∈ jws := jm (List.mem_of_getElem? (i := 25) (by decide +kernel)) (by decide +kernel)
set_option maxRecDepth 100000 in
theorem wc_X9_signOf : Cond.code yX9_signOf cX9_signOf 8 (some FieldType.int) ∈ jws := jm (List.mem_of_getElem? (i := 801) (by rfl)) (by rfl)
theorem wn_X9_isMark : Cond.instanceMethod ⟨"PictureJoinModel", "isMark", "(III)Z"⟩ ∈ jws := jm (List.mem_of_getElem? (i := 792) (by decide +kernel)) (by decide +kernel)
theorem wv_X9_isMark : Cond.selects "PictureJoinModel" ⟨"PictureJoinModel", "isMark", "(III)Z"⟩ ⟨"PictureJoinModel", "isMark", "(III)Z"⟩ ∈ jws := jm (List.mem_of_getElem? (i := 23) (by decide +kernel)) (by decide +kernel)
set_option maxRecDepth 100000 in
theorem wc_X9_isMark : Cond.code yX9_isMark cX9_isMark 10 (some FieldType.boolean) ∈ jws := jm (List.mem_of_getElem? (i := 793) (by rfl)) (by rfl)
theorem wn_X9_layMarks : Cond.instanceMethod ⟨"PictureJoinModel", "layMarks", "(I)V"⟩ ∈ jws := jm (List.mem_of_getElem? (i := 788) (by decide +kernel)) (by decide +kernel)
theorem wv_X9_layMarks : Cond.selects "PictureJoinModel" ⟨"PictureJoinModel", "layMarks", "(I)V"⟩ ⟨"PictureJoinModel", "layMarks", "(I)V"⟩ ∈ jws := jm (List.mem_of_getElem? (i := 22) (by decide +kernel)) (by decide +kernel)
set_option maxRecDepth 100000 in
theorem wc_X9_layMarks : Cond.code yX9_layMarks cX9_layMarks 4 (none : Option FieldType) ∈ jws := jm (List.mem_of_getElem? (i := 789) (by rfl)) (by rfl)
theorem wn_X9_putMark : Cond.instanceMethod ⟨"PictureJoinModel", "putMark", "(II)V"⟩ ∈ jws := jm (List.mem_of_getElem? (i := 796) (by decide +kernel)) (by decide +kernel)
theorem wv_X9_putMark : Cond.selects "PictureJoinModel" ⟨"PictureJoinModel", "putMark", "(II)V"⟩ ⟨"PictureJoinModel", "putMark", "(II)V"⟩ ∈ jws := jm (List.mem_of_getElem? (i := 24) (by decide +kernel)) (by decide +kernel)
set_option maxRecDepth 100000 in
theorem wc_X9_putMark : Cond.code yX9_putMark cX9_putMark 6 (none : Option FieldType) ∈ jws := jm (List.mem_of_getElem? (i := 797) (by rfl)) (by rfl)
theorem ws_X9_bits : Cond.static ⟨"PictureJoinModel", "bits", "(I)I"⟩ ∈ jws := jm (List.mem_of_getElem? (i := 815) (by decide +kernel)) (by decide +kernel)
set_option maxRecDepth 100000 in
theorem wc_X9_bits : Cond.code yX9_bits cX9_bits 3 (some FieldType.int) ∈ jws := jm (List.mem_of_getElem? (i := 816) (by rfl)) (by rfl)
theorem wn_X9_distance : Cond.instanceMethod ⟨"PictureJoinModel", "distance", "(IIII)I"⟩ ∈ jws := jm (List.mem_of_getElem? (i := 812) (by decide +kernel)) (by decide +kernel)
theorem wv_X9_distance : Cond.selects "PictureJoinModel" ⟨"PictureJoinModel", "distance", "(IIII)I"⟩ ⟨"PictureJoinModel", "distance", "(IIII)I"⟩ ∈ jws := jm (List.mem_of_getElem? (i := 28) (by decide +kernel)) (by decide +kernel)
set_option maxRecDepth 100000 in
theorem wc_X9_distance : Cond.code yX9_distance cX9_distance 5 (some FieldType.int) ∈ jws := jm (List.mem_of_getElem? (i := 813) (by rfl)) (by rfl)
theorem wn_X9_nearest : Cond.instanceMethod ⟨"PictureJoinModel", "nearest", "(III)I"⟩ ∈ jws := jm (List.mem_of_getElem? (i := 808) (by decide +kernel)) (by decide +kernel)
theorem wv_X9_nearest : Cond.selects "PictureJoinModel" ⟨"PictureJoinModel", "nearest", "(III)I"⟩ ⟨"PictureJoinModel", "nearest", "(III)I"⟩ ∈ jws := jm (List.mem_of_getElem? (i := 27) (by decide +kernel)) (by decide +kernel)
set_option maxRecDepth 100000 in
theorem wc_X9_nearest : Cond.code yX9_nearest cX9_nearest 6 (some FieldType.int) ∈ jws := jm (List.mem_of_getElem? (i := 809) (by rfl)) (by rfl)
theorem wn_X9_markX : Cond.instanceMethod ⟨"PictureJoinModel", "markX", "(II)I"⟩ ∈ jws := jm (List.mem_of_getElem? (i := 819) (by decide +kernel)) (by decide +kernel)
theorem wv_X9_markX : Cond.selects "PictureJoinModel" ⟨"PictureJoinModel", "markX", "(II)I"⟩ ⟨"PictureJoinModel", "markX", "(II)I"⟩ ∈ jws := jm (List.mem_of_getElem? (i := 29) (by decide +kernel)) (by decide +kernel)
set_option maxRecDepth 100000 in
theorem wc_X9_markX : Cond.code yX9_markX cX9_markX 3 (some FieldType.int) ∈ jws := jm (List.mem_of_getElem? (i := 820) (by rfl)) (by rfl)
theorem wn_X9_markY : Cond.instanceMethod ⟨"PictureJoinModel", "markY", "(II)I"⟩ ∈ jws := jm (List.mem_of_getElem? (i := 823) (by decide +kernel)) (by decide +kernel)
theorem wv_X9_markY : Cond.selects "PictureJoinModel" ⟨"PictureJoinModel", "markY", "(II)I"⟩ ⟨"PictureJoinModel", "markY", "(II)I"⟩ ∈ jws := jm (List.mem_of_getElem? (i := 30) (by decide +kernel)) (by decide +kernel)
set_option maxRecDepth 100000 in
theorem wc_X9_markY : Cond.code yX9_markY cX9_markY 3 (some FieldType.int) ∈ jws := jm (List.mem_of_getElem? (i := 824) (by rfl)) (by rfl)
theorem wn_X9_layPair : Cond.instanceMethod ⟨"PictureJoinModel", "layPair", "(II)V"⟩ ∈ jws := jm (List.mem_of_getElem? (i := 804) (by decide +kernel)) (by decide +kernel)
theorem wv_X9_layPair : Cond.selects "PictureJoinModel" ⟨"PictureJoinModel", "layPair", "(II)V"⟩ ⟨"PictureJoinModel", "layPair", "(II)V"⟩ ∈ jws := jm (List.mem_of_getElem? (i := 26) (by decide +kernel)) (by decide +kernel)
set_option maxRecDepth 100000 in
theorem wc_X9_layPair : Cond.code yX9_layPair cX9_layPair 9 (none : Option FieldType) ∈ jws := jm (List.mem_of_getElem? (i := 805) (by rfl)) (by rfl)
theorem wn_X9_votesFor : Cond.instanceMethod ⟨"PictureJoinModel", "votesFor", "(IIII)I"⟩ ∈ jws := jm (List.mem_of_getElem? (i := 827) (by decide +kernel)) (by decide +kernel)
theorem wv_X9_votesFor : Cond.selects "PictureJoinModel" ⟨"PictureJoinModel", "votesFor", "(IIII)I"⟩ ⟨"PictureJoinModel", "votesFor", "(IIII)I"⟩ ∈ jws := jm (List.mem_of_getElem? (i := 31) (by decide +kernel)) (by decide +kernel)
set_option maxRecDepth 100000 in
theorem wc_X9_votesFor : Cond.code yX9_votesFor cX9_votesFor 9 (some FieldType.int) ∈ jws := jm (List.mem_of_getElem? (i := 828) (by rfl)) (by rfl)
theorem wn_X9_layPlaces : Cond.instanceMethod ⟨"PictureJoinModel", "layPlaces", "()V"⟩ ∈ jws := jm (List.mem_of_getElem? (i := 831) (by decide +kernel)) (by decide +kernel)
theorem wv_X9_layPlaces : Cond.selects "PictureJoinModel" ⟨"PictureJoinModel", "layPlaces", "()V"⟩ ⟨"PictureJoinModel", "layPlaces", "()V"⟩ ∈ jws := jm (List.mem_of_getElem? (i := 32) (by decide +kernel)) (by decide +kernel)
set_option maxRecDepth 100000 in
theorem wc_X9_layPlaces : Cond.code yX9_layPlaces cX9_layPlaces 7 (none : Option FieldType) ∈ jws := jm (List.mem_of_getElem? (i := 832) (by rfl)) (by rfl)
theorem wn_X9_lay : Cond.instanceMethod ⟨"PictureJoinModel", "lay", "()V"⟩ ∈ jws := jm (List.mem_of_getElem? (i := 784) (by decide +kernel)) (by decide +kernel)
theorem wv_X9_lay : Cond.selects "PictureJoinModel" ⟨"PictureJoinModel", "lay", "()V"⟩ ⟨"PictureJoinModel", "lay", "()V"⟩ ∈ jws := jm (List.mem_of_getElem? (i := 21) (by decide +kernel)) (by decide +kernel)
set_option maxRecDepth 100000 in
theorem wc_X9_lay : Cond.code yX9_lay cX9_lay 2 (none : Option FieldType) ∈ jws := jm (List.mem_of_getElem? (i := 785) (by rfl)) (by rfl)
theorem wn_X9_score : Cond.instanceMethod ⟨"PictureJoinModel", "score", "(III)I"⟩ ∈ jws := jm (List.mem_of_getElem? (i := 771) (by decide +kernel)) (by decide +kernel)
theorem wv_X9_score : Cond.selects "PictureJoinModel" ⟨"PictureJoinModel", "score", "(III)I"⟩ ⟨"PictureJoinModel", "score", "(III)I"⟩ ∈ jws := jm (List.mem_of_getElem? (i := 772) (by decide +kernel)) (by decide +kernel)
set_option maxRecDepth 100000 in
theorem wc_X9_score : Cond.code yX9_score cX9_score 4 (some FieldType.int) ∈ jws := jm (List.mem_of_getElem? (i := 773) (by rfl)) (by rfl)
theorem wn_X9_marks : Cond.instanceMethod ⟨"PictureJoinModel", "marks", "(I)I"⟩ ∈ jws := jm (List.mem_of_getElem? (i := 779) (by decide +kernel)) (by decide +kernel)
theorem wv_X9_marks : Cond.selects "PictureJoinModel" ⟨"PictureJoinModel", "marks", "(I)I"⟩ ⟨"PictureJoinModel", "marks", "(I)I"⟩ ∈ jws := jm (List.mem_of_getElem? (i := 780) (by decide +kernel)) (by decide +kernel)
set_option maxRecDepth 100000 in
theorem wc_X9_marks : Cond.code yX9_marks cX9_marks 2 (some FieldType.int) ∈ jws := jm (List.mem_of_getElem? (i := 781) (by rfl)) (by rfl)
theorem wn_X9_hasMark : Cond.instanceMethod ⟨"PictureJoinModel", "hasMark", "(II)Z"⟩ ∈ jws := jm (List.mem_of_getElem? (i := 839) (by decide +kernel)) (by decide +kernel)
theorem wv_X9_hasMark : Cond.selects "PictureJoinModel" ⟨"PictureJoinModel", "hasMark", "(II)Z"⟩ ⟨"PictureJoinModel", "hasMark", "(II)Z"⟩ ∈ jws := jm (List.mem_of_getElem? (i := 33) (by decide +kernel)) (by decide +kernel)
set_option maxRecDepth 100000 in
theorem wc_X9_hasMark : Cond.code yX9_hasMark cX9_hasMark 3 (some FieldType.boolean) ∈ jws := jm (List.mem_of_getElem? (i := 840) (by rfl)) (by rfl)
theorem wn_X9_mark : Cond.instanceMethod ⟨"PictureJoinModel", "mark", "(III)I"⟩ ∈ jws := jm (List.mem_of_getElem? (i := 834) (by decide +kernel)) (by decide +kernel)
theorem wv_X9_mark : Cond.selects "PictureJoinModel" ⟨"PictureJoinModel", "mark", "(III)I"⟩ ⟨"PictureJoinModel", "mark", "(III)I"⟩ ∈ jws := jm (List.mem_of_getElem? (i := 835) (by decide +kernel)) (by decide +kernel)
set_option maxRecDepth 100000 in
theorem wc_X9_mark : Cond.code yX9_mark cX9_mark 4 (some FieldType.int) ∈ jws := jm (List.mem_of_getElem? (i := 836) (by rfl)) (by rfl)
theorem wn_X9_match : Cond.instanceMethod ⟨"PictureJoinModel", "match", "(III)I"⟩ ∈ jws := jm (List.mem_of_getElem? (i := 842) (by decide +kernel)) (by decide +kernel)
theorem wv_X9_match : Cond.selects "PictureJoinModel" ⟨"PictureJoinModel", "match", "(III)I"⟩ ⟨"PictureJoinModel", "match", "(III)I"⟩ ∈ jws := jm (List.mem_of_getElem? (i := 843) (by decide +kernel)) (by decide +kernel)
set_option maxRecDepth 100000 in
theorem wc_X9_match : Cond.code yX9_match cX9_match 4 (some FieldType.int) ∈ jws := jm (List.mem_of_getElem? (i := 844) (by rfl)) (by rfl)
theorem wn_X9_arePair : Cond.instanceMethod ⟨"PictureJoinModel", "arePair", "(II)Z"⟩ ∈ jws := jm (List.mem_of_getElem? (i := 851) (by decide +kernel)) (by decide +kernel)
theorem wv_X9_arePair : Cond.selects "PictureJoinModel" ⟨"PictureJoinModel", "arePair", "(II)Z"⟩ ⟨"PictureJoinModel", "arePair", "(II)Z"⟩ ∈ jws := jm (List.mem_of_getElem? (i := 34) (by decide +kernel)) (by decide +kernel)
set_option maxRecDepth 100000 in
theorem wc_X9_arePair : Cond.code yX9_arePair cX9_arePair 3 (some FieldType.boolean) ∈ jws := jm (List.mem_of_getElem? (i := 852) (by rfl)) (by rfl)
theorem wn_X9_shift : Cond.instanceMethod ⟨"PictureJoinModel", "shift", "(III)I"⟩ ∈ jws := jm (List.mem_of_getElem? (i := 846) (by decide +kernel)) (by decide +kernel)
theorem wv_X9_shift : Cond.selects "PictureJoinModel" ⟨"PictureJoinModel", "shift", "(III)I"⟩ ⟨"PictureJoinModel", "shift", "(III)I"⟩ ∈ jws := jm (List.mem_of_getElem? (i := 847) (by decide +kernel)) (by decide +kernel)
set_option maxRecDepth 100000 in
theorem wc_X9_shift : Cond.code yX9_shift cX9_shift 5 (some FieldType.int) ∈ jws := jm (List.mem_of_getElem? (i := 848) (by rfl)) (by rfl)
theorem wn_X9_place : Cond.instanceMethod ⟨"PictureJoinModel", "place", "(II)I"⟩ ∈ jws := jm (List.mem_of_getElem? (i := 855) (by decide +kernel)) (by decide +kernel)
theorem wv_X9_place : Cond.selects "PictureJoinModel" ⟨"PictureJoinModel", "place", "(II)I"⟩ ⟨"PictureJoinModel", "place", "(II)I"⟩ ∈ jws := jm (List.mem_of_getElem? (i := 856) (by decide +kernel)) (by decide +kernel)
set_option maxRecDepth 100000 in
theorem wc_X9_place : Cond.code yX9_place cX9_place 3 (some FieldType.int) ∈ jws := jm (List.mem_of_getElem? (i := 857) (by rfl)) (by rfl)
theorem wn_X9_open : Cond.instanceMethod ⟨"PictureJoinModel", "open", "()I"⟩ ∈ jws := jm (List.mem_of_getElem? (i := 859) (by decide +kernel)) (by decide +kernel)
theorem wv_X9_open : Cond.selects "PictureJoinModel" ⟨"PictureJoinModel", "open", "()I"⟩ ⟨"PictureJoinModel", "open", "()I"⟩ ∈ jws := jm (List.mem_of_getElem? (i := 860) (by decide +kernel)) (by decide +kernel)
set_option maxRecDepth 100000 in
theorem wc_X9_open : Cond.code yX9_open cX9_open 7 (some FieldType.int) ∈ jws := jm (List.mem_of_getElem? (i := 861) (by rfl)) (by rfl)
theorem wn_X9_joined : Cond.instanceMethod ⟨"PictureJoinModel", "joined", "()I"⟩ ∈ jws := jm (List.mem_of_getElem? (i := 863) (by decide +kernel)) (by decide +kernel)
theorem wv_X9_joined : Cond.selects "PictureJoinModel" ⟨"PictureJoinModel", "joined", "()I"⟩ ⟨"PictureJoinModel", "joined", "()I"⟩ ∈ jws := jm (List.mem_of_getElem? (i := 864) (by decide +kernel)) (by decide +kernel)
set_option maxRecDepth 100000 in
theorem wc_X9_joined : Cond.code yX9_joined cX9_joined 1 (some FieldType.int) ∈ jws := jm (List.mem_of_getElem? (i := 865) (by rfl)) (by rfl)
theorem wn_X9_layOverlap : Cond.instanceMethod ⟨"PictureJoinModel", "layOverlap", "(II)V"⟩ ∈ jws := jm (List.mem_of_getElem? (i := 876) (by decide +kernel)) (by decide +kernel)
theorem wv_X9_layOverlap : Cond.selects "PictureJoinModel" ⟨"PictureJoinModel", "layOverlap", "(II)V"⟩ ⟨"PictureJoinModel", "layOverlap", "(II)V"⟩ ∈ jws := jm (List.mem_of_getElem? (i := 36) (by decide +kernel)) (by decide +kernel)
set_option maxRecDepth 100000 in
theorem wc_X9_layOverlap : Cond.code yX9_layOverlap cX9_layOverlap 7 (none : Option FieldType) ∈ jws := jm (List.mem_of_getElem? (i := 877) (by rfl)) (by rfl)
theorem wn_X9_barsOverlap : Cond.instanceMethod ⟨"PictureJoinModel", "barsOverlap", "(IIZ)I"⟩ ∈ jws := jm (List.mem_of_getElem? (i := 872) (by decide +kernel)) (by decide +kernel)
theorem wv_X9_barsOverlap : Cond.selects "PictureJoinModel" ⟨"PictureJoinModel", "barsOverlap", "(IIZ)I"⟩ ⟨"PictureJoinModel", "barsOverlap", "(IIZ)I"⟩ ∈ jws := jm (List.mem_of_getElem? (i := 35) (by decide +kernel)) (by decide +kernel)
set_option maxRecDepth 100000 in
theorem wc_X9_barsOverlap : Cond.code yX9_barsOverlap cX9_barsOverlap 4 (some FieldType.int) ∈ jws := jm (List.mem_of_getElem? (i := 873) (by rfl)) (by rfl)
theorem wn_X9_overlap : Cond.instanceMethod ⟨"PictureJoinModel", "overlap", "(III)I"⟩ ∈ jws := jm (List.mem_of_getElem? (i := 867) (by decide +kernel)) (by decide +kernel)
theorem wv_X9_overlap : Cond.selects "PictureJoinModel" ⟨"PictureJoinModel", "overlap", "(III)I"⟩ ⟨"PictureJoinModel", "overlap", "(III)I"⟩ ∈ jws := jm (List.mem_of_getElem? (i := 868) (by decide +kernel)) (by decide +kernel)
set_option maxRecDepth 100000 in
theorem wc_X9_overlap : Cond.code yX9_overlap cX9_overlap 5 (some FieldType.int) ∈ jws := jm (List.mem_of_getElem? (i := 869) (by rfl)) (by rfl)
theorem wn_X9_dotOver : Cond.instanceMethod ⟨"PictureJoinModel", "dotOver", "(III)I"⟩ ∈ jws := jm (List.mem_of_getElem? (i := 885) (by decide +kernel)) (by decide +kernel)
theorem wv_X9_dotOver : Cond.selects "PictureJoinModel" ⟨"PictureJoinModel", "dotOver", "(III)I"⟩ ⟨"PictureJoinModel", "dotOver", "(III)I"⟩ ∈ jws := jm (List.mem_of_getElem? (i := 37) (by decide +kernel)) (by decide +kernel)
set_option maxRecDepth 100000 in
theorem wc_X9_dotOver : Cond.code yX9_dotOver cX9_dotOver 4 (some FieldType.int) ∈ jws := jm (List.mem_of_getElem? (i := 886) (by rfl)) (by rfl)
theorem wn_X9_lights : Cond.instanceMethod ⟨"PictureJoinModel", "lights", "(III)I"⟩ ∈ jws := jm (List.mem_of_getElem? (i := 880) (by decide +kernel)) (by decide +kernel)
theorem wv_X9_lights : Cond.selects "PictureJoinModel" ⟨"PictureJoinModel", "lights", "(III)I"⟩ ⟨"PictureJoinModel", "lights", "(III)I"⟩ ∈ jws := jm (List.mem_of_getElem? (i := 881) (by decide +kernel)) (by decide +kernel)
set_option maxRecDepth 100000 in
theorem wc_X9_lights : Cond.code yX9_lights cX9_lights 9 (some FieldType.int) ∈ jws := jm (List.mem_of_getElem? (i := 882) (by rfl)) (by rfl)
theorem wn_X9_leastAt : Cond.instanceMethod ⟨"PictureJoinModel", "leastAt", "(II)I"⟩ ∈ jws := jm (List.mem_of_getElem? (i := 897) (by decide +kernel)) (by decide +kernel)
theorem wv_X9_leastAt : Cond.selects "PictureJoinModel" ⟨"PictureJoinModel", "leastAt", "(II)I"⟩ ⟨"PictureJoinModel", "leastAt", "(II)I"⟩ ∈ jws := jm (List.mem_of_getElem? (i := 39) (by decide +kernel)) (by decide +kernel)
set_option maxRecDepth 100000 in
theorem wc_X9_leastAt : Cond.code yX9_leastAt cX9_leastAt 3 (some FieldType.int) ∈ jws := jm (List.mem_of_getElem? (i := 898) (by rfl)) (by rfl)
theorem wn_X9_below : Cond.instanceMethod ⟨"PictureJoinModel", "below", "(II)I"⟩ ∈ jws := jm (List.mem_of_getElem? (i := 893) (by decide +kernel)) (by decide +kernel)
theorem wv_X9_below : Cond.selects "PictureJoinModel" ⟨"PictureJoinModel", "below", "(II)I"⟩ ⟨"PictureJoinModel", "below", "(II)I"⟩ ∈ jws := jm (List.mem_of_getElem? (i := 38) (by decide +kernel)) (by decide +kernel)
set_option maxRecDepth 100000 in
theorem wc_X9_below : Cond.code yX9_below cX9_below 6 (some FieldType.int) ∈ jws := jm (List.mem_of_getElem? (i := 894) (by rfl)) (by rfl)
theorem wn_X9_seam : Cond.instanceMethod ⟨"PictureJoinModel", "seam", "(III)I"⟩ ∈ jws := jm (List.mem_of_getElem? (i := 888) (by decide +kernel)) (by decide +kernel)
theorem wv_X9_seam : Cond.selects "PictureJoinModel" ⟨"PictureJoinModel", "seam", "(III)I"⟩ ⟨"PictureJoinModel", "seam", "(III)I"⟩ ∈ jws := jm (List.mem_of_getElem? (i := 889) (by decide +kernel)) (by decide +kernel)
set_option maxRecDepth 100000 in
theorem wc_X9_seam : Cond.code yX9_seam cX9_seam 10 (some FieldType.int) ∈ jws := jm (List.mem_of_getElem? (i := 890) (by rfl)) (by rfl)
theorem wn_X9_pictureAt : Cond.instanceMethod ⟨"PictureJoinModel", "pictureAt", "(II)I"⟩ ∈ jws := jm (List.mem_of_getElem? (i := 905) (by decide +kernel)) (by decide +kernel)
theorem wv_X9_pictureAt : Cond.selects "PictureJoinModel" ⟨"PictureJoinModel", "pictureAt", "(II)I"⟩ ⟨"PictureJoinModel", "pictureAt", "(II)I"⟩ ∈ jws := jm (List.mem_of_getElem? (i := 40) (by decide +kernel)) (by decide +kernel)
set_option maxRecDepth 100000 in
theorem wc_X9_pictureAt : Cond.code yX9_pictureAt cX9_pictureAt 6 (some FieldType.int) ∈ jws := jm (List.mem_of_getElem? (i := 906) (by rfl)) (by rfl)
theorem wn_X9_whole : Cond.instanceMethod ⟨"PictureJoinModel", "whole", "(III)I"⟩ ∈ jws := jm (List.mem_of_getElem? (i := 900) (by decide +kernel)) (by decide +kernel)
theorem wv_X9_whole : Cond.selects "PictureJoinModel" ⟨"PictureJoinModel", "whole", "(III)I"⟩ ⟨"PictureJoinModel", "whole", "(III)I"⟩ ∈ jws := jm (List.mem_of_getElem? (i := 901) (by decide +kernel)) (by decide +kernel)
set_option maxRecDepth 100000 in
theorem wc_X9_whole : Cond.code yX9_whole cX9_whole 5 (some FieldType.int) ∈ jws := jm (List.mem_of_getElem? (i := 902) (by rfl)) (by rfl)
theorem wn_X9_edge : Cond.instanceMethod ⟨"PictureJoinModel", "edge", "(I)I"⟩ ∈ jws := jm (List.mem_of_getElem? (i := 913) (by decide +kernel)) (by decide +kernel)
theorem wv_X9_edge : Cond.selects "PictureJoinModel" ⟨"PictureJoinModel", "edge", "(I)I"⟩ ⟨"PictureJoinModel", "edge", "(I)I"⟩ ∈ jws := jm (List.mem_of_getElem? (i := 41) (by decide +kernel)) (by decide +kernel)
set_option maxRecDepth 100000 in
theorem wc_X9_edge : Cond.code yX9_edge cX9_edge 6 (some FieldType.int) ∈ jws := jm (List.mem_of_getElem? (i := 914) (by rfl)) (by rfl)
theorem wn_X9_extent : Cond.instanceMethod ⟨"PictureJoinModel", "extent", "(I)I"⟩ ∈ jws := jm (List.mem_of_getElem? (i := 908) (by decide +kernel)) (by decide +kernel)
theorem wv_X9_extent : Cond.selects "PictureJoinModel" ⟨"PictureJoinModel", "extent", "(I)I"⟩ ⟨"PictureJoinModel", "extent", "(I)I"⟩ ∈ jws := jm (List.mem_of_getElem? (i := 909) (by decide +kernel)) (by decide +kernel)
set_option maxRecDepth 100000 in
theorem wc_X9_extent : Cond.code yX9_extent cX9_extent 5 (some FieldType.int) ∈ jws := jm (List.mem_of_getElem? (i := 910) (by rfl)) (by rfl)
theorem wn_X9_told : Cond.instanceMethod ⟨"PictureJoinModel", "told", "(I)I"⟩ ∈ jws := jm (List.mem_of_getElem? (i := 916) (by decide +kernel)) (by decide +kernel)
theorem wv_X9_told : Cond.selects "PictureJoinModel" ⟨"PictureJoinModel", "told", "(I)I"⟩ ⟨"PictureJoinModel", "told", "(I)I"⟩ ∈ jws := jm (List.mem_of_getElem? (i := 917) (by decide +kernel)) (by decide +kernel)
set_option maxRecDepth 100000 in
theorem wc_X9_told : Cond.code yX9_told cX9_told 2 (some FieldType.int) ∈ jws := jm (List.mem_of_getElem? (i := 918) (by rfl)) (by rfl)
theorem ws_J6_bitCount_0f7a4 : Cond.static ⟨"java/lang/Integer", "bitCount", "(I)I"⟩ ∈ jws := jm (List.mem_of_getElem? (i := 458) (by decide +kernel)) (by decide +kernel)
set_option maxRecDepth 100000 in
theorem wc_J6_bitCount_0f7a4 : Cond.code yJ6_bitCount_0f7a4 cJ6_bitCount_0f7a4 1 (some FieldType.int) ∈ jws := jm (List.mem_of_getElem? (i := 459) (by rfl)) (by rfl)
theorem ws_J9_abs_0f7a4 : Cond.static ⟨"java/lang/Math", "abs", "(I)I"⟩ ∈ jws := jm (List.mem_of_getElem? (i := 587) (by decide +kernel)) (by decide +kernel)
set_option maxRecDepth 100000 in
theorem wc_J9_abs_0f7a4 : Cond.code yJ9_abs_0f7a4 cJ9_abs_0f7a4 1 (some FieldType.int) ∈ jws := jm (List.mem_of_getElem? (i := 588) (by rfl)) (by rfl)
theorem ws_J9_max_7cf53 : Cond.static ⟨"java/lang/Math", "max", "(II)I"⟩ ∈ jws := jm (List.mem_of_getElem? (i := 553) (by decide +kernel)) (by decide +kernel)
set_option maxRecDepth 100000 in
theorem wc_J9_max_7cf53 : Cond.code yJ9_max_7cf53 cJ9_max_7cf53 2 (some FieldType.int) ∈ jws := jm (List.mem_of_getElem? (i := 554) (by rfl)) (by rfl)
theorem ws_J9_min_7cf53 : Cond.static ⟨"java/lang/Math", "min", "(II)I"⟩ ∈ jws := jm (List.mem_of_getElem? (i := 339) (by decide +kernel)) (by decide +kernel)
set_option maxRecDepth 100000 in
theorem wc_J9_min_7cf53 : Cond.code yJ9_min_7cf53 cJ9_min_7cf53 2 (some FieldType.int) ∈ jws := jm (List.mem_of_getElem? (i := 340) (by rfl)) (by rfl)
theorem wl_X0_0 : Cond.laysFinal "PictureJoin$Album" "PictureJoin$Album" "pictures" "[LPictureJoin$Picture;" ∈ jws := jm (List.mem_of_getElem? (i := 222) (by decide +kernel)) (by decide +kernel)
theorem wl_X0_1 : Cond.laysFinal "PictureJoin$Album" "PictureJoin$Album" "pairings" "[LPictureJoin$Pairing;" ∈ jws := jm (List.mem_of_getElem? (i := 224) (by decide +kernel)) (by decide +kernel)
theorem wl_X0_2 : Cond.laysFinal "PictureJoin$Album" "PictureJoin$Album" "order" "[I" ∈ jws := jm (List.mem_of_getElem? (i := 226) (by decide +kernel)) (by decide +kernel)
theorem wl_X0_3 : Cond.lays "PictureJoin$Album" "PictureJoin$Album" "count" "I" ∈ jws := jm (List.mem_of_getElem? (i := 228) (by decide +kernel)) (by decide +kernel)
theorem wl_X0_4 : Cond.lays "PictureJoin$Album" "PictureJoin$Album" "joinedCount" "I" ∈ jws := jm (List.mem_of_getElem? (i := 230) (by decide +kernel)) (by decide +kernel)
theorem wl_X0_5 : Cond.lays "PictureJoin$Album" "PictureJoin$Album" "stale" "Z" ∈ jws := jm (List.mem_of_getElem? (i := 232) (by decide +kernel)) (by decide +kernel)
theorem ft_X0 : FT 0 RX0 TX0 6 tyX0 := ⟨rfl, fun w hw => by
  obtain ⟨j, hj, rfl⟩ := List.mem_map.mp hw
  have hj := List.mem_range.mp hj
  rcases (show j = 0 ∨ j = 1 ∨ j = 2 ∨ j = 3 ∨ j = 4 ∨ j = 5 by omega) with rfl | rfl | rfl | rfl | rfl | rfl
  · exact wl_X0_0
  · exact wl_X0_1
  · exact wl_X0_2
  · exact wl_X0_3
  · exact wl_X0_4
  · exact wl_X0_5, tyX0_ok, nmX0⟩
theorem wl_X1_0 : Cond.laysFinal "PictureJoin$Dots" "PictureJoin$Dots" "values" "[I" ∈ jws := jm (List.mem_of_getElem? (i := 110) (by decide +kernel)) (by decide +kernel)
theorem wl_X1_1 : Cond.laysFinal "PictureJoin$Dots" "PictureJoin$Dots" "scores" "[I" ∈ jws := jm (List.mem_of_getElem? (i := 112) (by decide +kernel)) (by decide +kernel)
theorem wl_X1_2 : Cond.lays "PictureJoin$Dots" "PictureJoin$Dots" "width" "I" ∈ jws := jm (List.mem_of_getElem? (i := 114) (by decide +kernel)) (by decide +kernel)
theorem wl_X1_3 : Cond.lays "PictureJoin$Dots" "PictureJoin$Dots" "height" "I" ∈ jws := jm (List.mem_of_getElem? (i := 116) (by decide +kernel)) (by decide +kernel)
theorem wl_X1_4 : Cond.lays "PictureJoin$Dots" "PictureJoin$Dots" "changed" "Z" ∈ jws := jm (List.mem_of_getElem? (i := 118) (by decide +kernel)) (by decide +kernel)
theorem ft_X1 : FT 1 RX1 TX1 5 tyX1 := ⟨rfl, fun w hw => by
  obtain ⟨j, hj, rfl⟩ := List.mem_map.mp hw
  have hj := List.mem_range.mp hj
  rcases (show j = 0 ∨ j = 1 ∨ j = 2 ∨ j = 3 ∨ j = 4 by omega) with rfl | rfl | rfl | rfl | rfl
  · exact wl_X1_0
  · exact wl_X1_1
  · exact wl_X1_2
  · exact wl_X1_3
  · exact wl_X1_4, tyX1_ok, nmX1⟩
theorem wl_X2_0 : Cond.laysFinal "PictureJoin$Marks" "PictureJoin$Marks" "columns" "[I" ∈ jws := jm (List.mem_of_getElem? (i := 142) (by decide +kernel)) (by decide +kernel)
theorem wl_X2_1 : Cond.laysFinal "PictureJoin$Marks" "PictureJoin$Marks" "rows" "[I" ∈ jws := jm (List.mem_of_getElem? (i := 144) (by decide +kernel)) (by decide +kernel)
theorem wl_X2_2 : Cond.laysFinal "PictureJoin$Marks" "PictureJoin$Marks" "heights" "[I" ∈ jws := jm (List.mem_of_getElem? (i := 146) (by decide +kernel)) (by decide +kernel)
theorem wl_X2_3 : Cond.laysFinal "PictureJoin$Marks" "PictureJoin$Marks" "signs" "[I" ∈ jws := jm (List.mem_of_getElem? (i := 148) (by decide +kernel)) (by decide +kernel)
theorem wl_X2_4 : Cond.lays "PictureJoin$Marks" "PictureJoin$Marks" "count" "I" ∈ jws := jm (List.mem_of_getElem? (i := 150) (by decide +kernel)) (by decide +kernel)
theorem ft_X2 : FT 2 RX2 TX2 5 tyX2 := ⟨rfl, fun w hw => by
  obtain ⟨j, hj, rfl⟩ := List.mem_map.mp hw
  have hj := List.mem_range.mp hj
  rcases (show j = 0 ∨ j = 1 ∨ j = 2 ∨ j = 3 ∨ j = 4 by omega) with rfl | rfl | rfl | rfl | rfl
  · exact wl_X2_0
  · exact wl_X2_1
  · exact wl_X2_2
  · exact wl_X2_3
  · exact wl_X2_4, tyX2_ok, nmX2⟩
theorem wl_X3_0 : Cond.lays "PictureJoin$Overlap" "PictureJoin$Overlap" "x" "I" ∈ jws := jm (List.mem_of_getElem? (i := 259) (by decide +kernel)) (by decide +kernel)
theorem wl_X3_1 : Cond.lays "PictureJoin$Overlap" "PictureJoin$Overlap" "y" "I" ∈ jws := jm (List.mem_of_getElem? (i := 261) (by decide +kernel)) (by decide +kernel)
theorem wl_X3_2 : Cond.lays "PictureJoin$Overlap" "PictureJoin$Overlap" "width" "I" ∈ jws := jm (List.mem_of_getElem? (i := 263) (by decide +kernel)) (by decide +kernel)
theorem wl_X3_3 : Cond.lays "PictureJoin$Overlap" "PictureJoin$Overlap" "height" "I" ∈ jws := jm (List.mem_of_getElem? (i := 265) (by decide +kernel)) (by decide +kernel)
theorem wl_X3_4 : Cond.lays "PictureJoin$Overlap" "PictureJoin$Overlap" "firstLight" "I" ∈ jws := jm (List.mem_of_getElem? (i := 267) (by decide +kernel)) (by decide +kernel)
theorem wl_X3_5 : Cond.lays "PictureJoin$Overlap" "PictureJoin$Overlap" "secondLight" "I" ∈ jws := jm (List.mem_of_getElem? (i := 269) (by decide +kernel)) (by decide +kernel)
theorem wl_X3_6 : Cond.lays "PictureJoin$Overlap" "PictureJoin$Overlap" "bothTold" "I" ∈ jws := jm (List.mem_of_getElem? (i := 271) (by decide +kernel)) (by decide +kernel)
theorem ft_X3 : FT 3 RX3 TX3 7 tyX3 := ⟨rfl, fun w hw => by
  obtain ⟨j, hj, rfl⟩ := List.mem_map.mp hw
  have hj := List.mem_range.mp hj
  rcases (show j = 0 ∨ j = 1 ∨ j = 2 ∨ j = 3 ∨ j = 4 ∨ j = 5 ∨ j = 6 by omega) with rfl | rfl | rfl | rfl | rfl | rfl | rfl
  · exact wl_X3_0
  · exact wl_X3_1
  · exact wl_X3_2
  · exact wl_X3_3
  · exact wl_X3_4
  · exact wl_X3_5
  · exact wl_X3_6, tyX3_ok, nmX3⟩
theorem wl_X4_0 : Cond.laysFinal "PictureJoin$Pairing" "PictureJoin$Pairing" "partners" "[I" ∈ jws := jm (List.mem_of_getElem? (i := 201) (by decide +kernel)) (by decide +kernel)
theorem wl_X4_1 : Cond.lays "PictureJoin$Pairing" "PictureJoin$Pairing" "matches" "I" ∈ jws := jm (List.mem_of_getElem? (i := 203) (by decide +kernel)) (by decide +kernel)
theorem wl_X4_2 : Cond.lays "PictureJoin$Pairing" "PictureJoin$Pairing" "votes" "I" ∈ jws := jm (List.mem_of_getElem? (i := 205) (by decide +kernel)) (by decide +kernel)
theorem wl_X4_3 : Cond.lays "PictureJoin$Pairing" "PictureJoin$Pairing" "x" "I" ∈ jws := jm (List.mem_of_getElem? (i := 207) (by decide +kernel)) (by decide +kernel)
theorem wl_X4_4 : Cond.lays "PictureJoin$Pairing" "PictureJoin$Pairing" "y" "I" ∈ jws := jm (List.mem_of_getElem? (i := 209) (by decide +kernel)) (by decide +kernel)
theorem ft_X4 : FT 4 RX4 TX4 5 tyX4 := ⟨rfl, fun w hw => by
  obtain ⟨j, hj, rfl⟩ := List.mem_map.mp hw
  have hj := List.mem_range.mp hj
  rcases (show j = 0 ∨ j = 1 ∨ j = 2 ∨ j = 3 ∨ j = 4 by omega) with rfl | rfl | rfl | rfl | rfl
  · exact wl_X4_0
  · exact wl_X4_1
  · exact wl_X4_2
  · exact wl_X4_3
  · exact wl_X4_4, tyX4_ok, nmX4⟩
theorem wl_X5_0 : Cond.laysFinal "PictureJoin$Picture" "PictureJoin$Picture" "dots" "LPictureJoin$Dots;" ∈ jws := jm (List.mem_of_getElem? (i := 170) (by decide +kernel)) (by decide +kernel)
theorem wl_X5_1 : Cond.laysFinal "PictureJoin$Picture" "PictureJoin$Picture" "marks" "LPictureJoin$Marks;" ∈ jws := jm (List.mem_of_getElem? (i := 172) (by decide +kernel)) (by decide +kernel)
theorem wl_X5_2 : Cond.lays "PictureJoin$Picture" "PictureJoin$Picture" "x" "I" ∈ jws := jm (List.mem_of_getElem? (i := 174) (by decide +kernel)) (by decide +kernel)
theorem wl_X5_3 : Cond.lays "PictureJoin$Picture" "PictureJoin$Picture" "y" "I" ∈ jws := jm (List.mem_of_getElem? (i := 176) (by decide +kernel)) (by decide +kernel)
theorem wl_X5_4 : Cond.lays "PictureJoin$Picture" "PictureJoin$Picture" "joiner" "I" ∈ jws := jm (List.mem_of_getElem? (i := 178) (by decide +kernel)) (by decide +kernel)
theorem wl_X5_5 : Cond.lays "PictureJoin$Picture" "PictureJoin$Picture" "rank" "I" ∈ jws := jm (List.mem_of_getElem? (i := 180) (by decide +kernel)) (by decide +kernel)
theorem ft_X5 : FT 5 RX5 TX5 6 tyX5 := ⟨rfl, fun w hw => by
  obtain ⟨j, hj, rfl⟩ := List.mem_map.mp hw
  have hj := List.mem_range.mp hj
  rcases (show j = 0 ∨ j = 1 ∨ j = 2 ∨ j = 3 ∨ j = 4 ∨ j = 5 by omega) with rfl | rfl | rfl | rfl | rfl | rfl
  · exact wl_X5_0
  · exact wl_X5_1
  · exact wl_X5_2
  · exact wl_X5_3
  · exact wl_X5_4
  · exact wl_X5_5, tyX5_ok, nmX5⟩
theorem wl_X6_0 : Cond.laysFinal "PictureJoin$Seam" "PictureJoin$Seam" "costs" "[I" ∈ jws := jm (List.mem_of_getElem? (i := 285) (by decide +kernel)) (by decide +kernel)
theorem wl_X6_1 : Cond.laysFinal "PictureJoin$Seam" "PictureJoin$Seam" "columns" "[I" ∈ jws := jm (List.mem_of_getElem? (i := 287) (by decide +kernel)) (by decide +kernel)
theorem wl_X6_2 : Cond.lays "PictureJoin$Seam" "PictureJoin$Seam" "cost" "I" ∈ jws := jm (List.mem_of_getElem? (i := 289) (by decide +kernel)) (by decide +kernel)
theorem ft_X6 : FT 6 RX6 TX6 3 tyX6 := ⟨rfl, fun w hw => by
  obtain ⟨j, hj, rfl⟩ := List.mem_map.mp hw
  have hj := List.mem_range.mp hj
  rcases (show j = 0 ∨ j = 1 ∨ j = 2 by omega) with rfl | rfl | rfl
  · exact wl_X6_0
  · exact wl_X6_1
  · exact wl_X6_2, tyX6_ok, nmX6⟩
theorem wl_X7_0 : Cond.lays "PictureJoin$World" "PictureJoin$World" "seed" "I" ∈ jws := jm (List.mem_of_getElem? (i := 71) (by decide +kernel)) (by decide +kernel)
theorem ft_X7 : FT 7 RX7 TX7 1 tyX7 := ⟨rfl, fun w hw => by
  obtain ⟨j, hj, rfl⟩ := List.mem_map.mp hw
  have hj := List.mem_range.mp hj
  rcases (show j = 0 by omega) with rfl
  · exact wl_X7_0, tyX7_ok, nmX7⟩
theorem wl_X8_0 : Cond.laysFinal "PictureJoin" "PictureJoin" "world" "LPictureJoin$World;" ∈ jws := jm (List.mem_of_getElem? (i := 298) (by decide +kernel)) (by decide +kernel)
theorem wl_X8_1 : Cond.laysFinal "PictureJoin" "PictureJoin" "album" "LPictureJoin$Album;" ∈ jws := jm (List.mem_of_getElem? (i := 300) (by decide +kernel)) (by decide +kernel)
theorem wl_X8_2 : Cond.laysFinal "PictureJoin" "PictureJoin" "common" "LPictureJoin$Overlap;" ∈ jws := jm (List.mem_of_getElem? (i := 302) (by decide +kernel)) (by decide +kernel)
theorem wl_X8_3 : Cond.laysFinal "PictureJoin" "PictureJoin" "cut" "LPictureJoin$Seam;" ∈ jws := jm (List.mem_of_getElem? (i := 304) (by decide +kernel)) (by decide +kernel)
theorem wl_X8_4 : Cond.lays "PictureJoin" "PictureJoin" "bar" "I" ∈ jws := jm (List.mem_of_getElem? (i := 306) (by decide +kernel)) (by decide +kernel)
theorem wl_X8_5 : Cond.lays "PictureJoin" "PictureJoin" "near" "I" ∈ jws := jm (List.mem_of_getElem? (i := 308) (by decide +kernel)) (by decide +kernel)
theorem ft_X8 : FT 8 RX8 TX8 6 tyX8 := ⟨rfl, fun w hw => by
  obtain ⟨j, hj, rfl⟩ := List.mem_map.mp hw
  have hj := List.mem_range.mp hj
  rcases (show j = 0 ∨ j = 1 ∨ j = 2 ∨ j = 3 ∨ j = 4 ∨ j = 5 by omega) with rfl | rfl | rfl | rfl | rfl | rfl
  · exact wl_X8_0
  · exact wl_X8_1
  · exact wl_X8_2
  · exact wl_X8_3
  · exact wl_X8_4
  · exact wl_X8_5, tyX8_ok, nmX8⟩
theorem wl_X9_0 : Cond.lays "PictureJoinModel" "PictureJoinModel" "seed" "I" ∈ jws := jm (List.mem_of_getElem? (i := 661) (by decide +kernel)) (by decide +kernel)
theorem wl_X9_1 : Cond.lays "PictureJoinModel" "PictureJoinModel" "pictures" "I" ∈ jws := jm (List.mem_of_getElem? (i := 663) (by decide +kernel)) (by decide +kernel)
theorem wl_X9_2 : Cond.laysFinal "PictureJoinModel" "PictureJoinModel" "wide" "[I" ∈ jws := jm (List.mem_of_getElem? (i := 665) (by decide +kernel)) (by decide +kernel)
theorem wl_X9_3 : Cond.laysFinal "PictureJoinModel" "PictureJoinModel" "high" "[I" ∈ jws := jm (List.mem_of_getElem? (i := 667) (by decide +kernel)) (by decide +kernel)
theorem wl_X9_4 : Cond.laysFinal "PictureJoinModel" "PictureJoinModel" "dots" "[I" ∈ jws := jm (List.mem_of_getElem? (i := 669) (by decide +kernel)) (by decide +kernel)
theorem wl_X9_5 : Cond.lays "PictureJoinModel" "PictureJoinModel" "bar" "I" ∈ jws := jm (List.mem_of_getElem? (i := 671) (by decide +kernel)) (by decide +kernel)
theorem wl_X9_6 : Cond.lays "PictureJoinModel" "PictureJoinModel" "near" "I" ∈ jws := jm (List.mem_of_getElem? (i := 673) (by decide +kernel)) (by decide +kernel)
theorem wl_X9_7 : Cond.lays "PictureJoinModel" "PictureJoinModel" "isLaid" "Z" ∈ jws := jm (List.mem_of_getElem? (i := 675) (by decide +kernel)) (by decide +kernel)
theorem wl_X9_8 : Cond.laysFinal "PictureJoinModel" "PictureJoinModel" "score" "[I" ∈ jws := jm (List.mem_of_getElem? (i := 677) (by decide +kernel)) (by decide +kernel)
theorem wl_X9_9 : Cond.laysFinal "PictureJoinModel" "PictureJoinModel" "marks" "[I" ∈ jws := jm (List.mem_of_getElem? (i := 679) (by decide +kernel)) (by decide +kernel)
theorem wl_X9_10 : Cond.laysFinal "PictureJoinModel" "PictureJoinModel" "markAt" "[I" ∈ jws := jm (List.mem_of_getElem? (i := 681) (by decide +kernel)) (by decide +kernel)
theorem wl_X9_11 : Cond.laysFinal "PictureJoinModel" "PictureJoinModel" "sign" "[I" ∈ jws := jm (List.mem_of_getElem? (i := 683) (by decide +kernel)) (by decide +kernel)
theorem wl_X9_12 : Cond.laysFinal "PictureJoinModel" "PictureJoinModel" "match" "[I" ∈ jws := jm (List.mem_of_getElem? (i := 685) (by decide +kernel)) (by decide +kernel)
theorem wl_X9_13 : Cond.laysFinal "PictureJoinModel" "PictureJoinModel" "shiftX" "[I" ∈ jws := jm (List.mem_of_getElem? (i := 687) (by decide +kernel)) (by decide +kernel)
theorem wl_X9_14 : Cond.laysFinal "PictureJoinModel" "PictureJoinModel" "shiftY" "[I" ∈ jws := jm (List.mem_of_getElem? (i := 689) (by decide +kernel)) (by decide +kernel)
theorem wl_X9_15 : Cond.laysFinal "PictureJoinModel" "PictureJoinModel" "votes" "[I" ∈ jws := jm (List.mem_of_getElem? (i := 691) (by decide +kernel)) (by decide +kernel)
theorem wl_X9_16 : Cond.laysFinal "PictureJoinModel" "PictureJoinModel" "matches" "[I" ∈ jws := jm (List.mem_of_getElem? (i := 693) (by decide +kernel)) (by decide +kernel)
theorem wl_X9_17 : Cond.lays "PictureJoinModel" "PictureJoinModel" "joined" "I" ∈ jws := jm (List.mem_of_getElem? (i := 695) (by decide +kernel)) (by decide +kernel)
theorem wl_X9_18 : Cond.laysFinal "PictureJoinModel" "PictureJoinModel" "placeX" "[I" ∈ jws := jm (List.mem_of_getElem? (i := 697) (by decide +kernel)) (by decide +kernel)
theorem wl_X9_19 : Cond.laysFinal "PictureJoinModel" "PictureJoinModel" "placeY" "[I" ∈ jws := jm (List.mem_of_getElem? (i := 699) (by decide +kernel)) (by decide +kernel)
theorem wl_X9_20 : Cond.laysFinal "PictureJoinModel" "PictureJoinModel" "by" "[I" ∈ jws := jm (List.mem_of_getElem? (i := 701) (by decide +kernel)) (by decide +kernel)
theorem wl_X9_21 : Cond.laysFinal "PictureJoinModel" "PictureJoinModel" "order" "[I" ∈ jws := jm (List.mem_of_getElem? (i := 703) (by decide +kernel)) (by decide +kernel)
theorem wl_X9_22 : Cond.lays "PictureJoinModel" "PictureJoinModel" "overX" "I" ∈ jws := jm (List.mem_of_getElem? (i := 705) (by decide +kernel)) (by decide +kernel)
theorem wl_X9_23 : Cond.lays "PictureJoinModel" "PictureJoinModel" "overY" "I" ∈ jws := jm (List.mem_of_getElem? (i := 707) (by decide +kernel)) (by decide +kernel)
theorem wl_X9_24 : Cond.lays "PictureJoinModel" "PictureJoinModel" "overWide" "I" ∈ jws := jm (List.mem_of_getElem? (i := 709) (by decide +kernel)) (by decide +kernel)
theorem wl_X9_25 : Cond.lays "PictureJoinModel" "PictureJoinModel" "overHigh" "I" ∈ jws := jm (List.mem_of_getElem? (i := 711) (by decide +kernel)) (by decide +kernel)
theorem wl_X9_26 : Cond.laysFinal "PictureJoinModel" "PictureJoinModel" "least" "[I" ∈ jws := jm (List.mem_of_getElem? (i := 713) (by decide +kernel)) (by decide +kernel)
theorem ft_X9 : FT 9 RX9 TX9 27 tyX9 := ⟨rfl, fun w hw => by
  obtain ⟨j, hj, rfl⟩ := List.mem_map.mp hw
  have hj := List.mem_range.mp hj
  rcases (show j = 0 ∨ j = 1 ∨ j = 2 ∨ j = 3 ∨ j = 4 ∨ j = 5 ∨ j = 6 ∨ j = 7 ∨ j = 8 ∨ j = 9 ∨ j = 10 ∨ j = 11 ∨ j = 12 ∨ j = 13 ∨ j = 14 ∨ j = 15 ∨ j = 16 ∨ j = 17 ∨ j = 18 ∨ j = 19 ∨ j = 20 ∨ j = 21 ∨ j = 22 ∨ j = 23 ∨ j = 24 ∨ j = 25 ∨ j = 26 by omega) with rfl | rfl | rfl | rfl | rfl | rfl | rfl | rfl | rfl | rfl | rfl | rfl | rfl | rfl | rfl | rfl | rfl | rfl | rfl | rfl | rfl | rfl | rfl | rfl | rfl | rfl | rfl
  · exact wl_X9_0
  · exact wl_X9_1
  · exact wl_X9_2
  · exact wl_X9_3
  · exact wl_X9_4
  · exact wl_X9_5
  · exact wl_X9_6
  · exact wl_X9_7
  · exact wl_X9_8
  · exact wl_X9_9
  · exact wl_X9_10
  · exact wl_X9_11
  · exact wl_X9_12
  · exact wl_X9_13
  · exact wl_X9_14
  · exact wl_X9_15
  · exact wl_X9_16
  · exact wl_X9_17
  · exact wl_X9_18
  · exact wl_X9_19
  · exact wl_X9_20
  · exact wl_X9_21
  · exact wl_X9_22
  · exact wl_X9_23
  · exact wl_X9_24
  · exact wl_X9_25
  · exact wl_X9_26, tyX9_ok, nmX9⟩
theorem yb_X0_init : YB yX0_init cX0_init 2 (none : Option FieldType) 0 := ⟨wc_X0_init, wi_X0, by decide +kernel, by decide +kernel, by decide +kernel⟩
theorem yb_X0_pairingOf : YB yX0_pairingOf cX0_pairingOf 3 (some (FieldType.object "PictureJoin$Pairing")) 2 := ⟨wc_X0_pairingOf, wi_X0, by decide +kernel, by decide +kernel, by decide +kernel⟩
theorem yv_X0_pairingOf : YV yX0_pairingOf := ⟨wn_X0_pairingOf, wv_X0_pairingOf⟩
theorem yb_X0_settle : YB yX0_settle cX0_settle 5 (none : Option FieldType) 2 := ⟨wc_X0_settle, wi_X0, by decide +kernel, by decide +kernel, by decide +kernel⟩
theorem yv_X0_settle : YV yX0_settle := ⟨wn_X0_settle, wv_X0_settle⟩
theorem yb_X0_joinAll : YB yX0_joinAll cX0_joinAll 4 (none : Option FieldType) 0 := ⟨wc_X0_joinAll, wi_X0, by decide +kernel, by decide +kernel, by decide +kernel⟩
theorem yv_X0_joinAll : YV yX0_joinAll := ⟨wn_X0_joinAll, wv_X0_joinAll⟩
theorem yb_X0_put : YB yX0_put cX0_put 6 (none : Option FieldType) 4 := ⟨wc_X0_put, wi_X0, by decide +kernel, by decide +kernel, by decide +kernel⟩
theorem yv_X0_put : YV yX0_put := ⟨wn_X0_put, wv_X0_put⟩
theorem yb_X0_bestPair : YB yX0_bestPair cX0_bestPair 6 (some FieldType.int) 0 := ⟨wc_X0_bestPair, wi_X0, by decide +kernel, by decide +kernel, by decide +kernel⟩
theorem yv_X0_bestPair : YV yX0_bestPair := ⟨wn_X0_bestPair, wv_X0_bestPair⟩
theorem yb_X0_countOpen : YB yX0_countOpen cX0_countOpen 4 (some FieldType.int) 0 := ⟨wc_X0_countOpen, wi_X0, by decide +kernel, by decide +kernel, by decide +kernel⟩
theorem yv_X0_countOpen : YV yX0_countOpen := ⟨wn_X0_countOpen, wv_X0_countOpen⟩
theorem yb_X0_isOpen : YB yX0_isOpen cX0_isOpen 6 (some FieldType.boolean) 2 := ⟨wc_X0_isOpen, wi_X0, by decide +kernel, by decide +kernel, by decide +kernel⟩
theorem yv_X0_isOpen : YV yX0_isOpen := ⟨wn_X0_isOpen, wv_X0_isOpen⟩
theorem yb_X0_firstAt : YB yX0_firstAt cX0_firstAt 4 (some FieldType.int) 2 := ⟨wc_X0_firstAt, wi_X0, by decide +kernel, by decide +kernel, by decide +kernel⟩
theorem yv_X0_firstAt : YV yX0_firstAt := ⟨wn_X0_firstAt, wv_X0_firstAt⟩
theorem yb_X0_edge : YB yX0_edge cX0_edge 5 (some FieldType.int) 1 := ⟨wc_X0_edge, wi_X0, by decide +kernel, by decide +kernel, by decide +kernel⟩
theorem yv_X0_edge : YV yX0_edge := ⟨wn_X0_edge, wv_X0_edge⟩
theorem yb_X0_countPlaces : YB yX0_countPlaces cX0_countPlaces 6 (some FieldType.int) 0 := ⟨wc_X0_countPlaces, wi_X0, by decide +kernel, by decide +kernel, by decide +kernel⟩
theorem yv_X0_countPlaces : YV yX0_countPlaces := ⟨wn_X0_countPlaces, wv_X0_countPlaces⟩
theorem yb_X1_init : YB yX1_init cX1_init 1 (none : Option FieldType) 0 := ⟨wc_X1_init, wi_X1, by decide +kernel, by decide +kernel, by decide +kernel⟩
theorem yb_X1_resize : YB yX1_resize cX1_resize 3 (none : Option FieldType) 2 := ⟨wc_X1_resize, wi_X1, by decide +kernel, by decide +kernel, by decide +kernel⟩
theorem yv_X1_resize : YV yX1_resize := ⟨wn_X1_resize, wv_X1_resize⟩
theorem yb_X1_has : YB yX1_has cX1_has 3 (some FieldType.boolean) 2 := ⟨wc_X1_has, wi_X1, by decide +kernel, by decide +kernel, by decide +kernel⟩
theorem yv_X1_has : YV yX1_has := ⟨wn_X1_has, wv_X1_has⟩
theorem yb_X1_get : YB yX1_get cX1_get 3 (some FieldType.int) 2 := ⟨wc_X1_get, wi_X1, by decide +kernel, by decide +kernel, by decide +kernel⟩
theorem yv_X1_get : YV yX1_get := ⟨wn_X1_get, wv_X1_get⟩
theorem yb_X1_put : YB yX1_put cX1_put 4 (none : Option FieldType) 3 := ⟨wc_X1_put, wi_X1, by decide +kernel, by decide +kernel, by decide +kernel⟩
theorem yv_X1_put : YV yX1_put := ⟨wn_X1_put, wv_X1_put⟩
theorem yb_X1_scoreOf : YB yX1_scoreOf cX1_scoreOf 6 (some FieldType.int) 2 := ⟨wc_X1_scoreOf, wi_X1, by decide +kernel, by decide +kernel, by decide +kernel⟩
theorem yv_X1_scoreOf : YV yX1_scoreOf := ⟨wn_X1_scoreOf, wv_X1_scoreOf⟩
theorem yb_X1_changeAbout : YB yX1_changeAbout cX1_changeAbout 10 (some FieldType.int) 4 := ⟨wc_X1_changeAbout, wi_X1, by decide +kernel, by decide +kernel, by decide +kernel⟩
theorem yv_X1_changeAbout : YV yX1_changeAbout := ⟨wn_X1_changeAbout, wv_X1_changeAbout⟩
theorem yb_X1_scoreAll : YB yX1_scoreAll cX1_scoreAll 3 (none : Option FieldType) 0 := ⟨wc_X1_scoreAll, wi_X1, by decide +kernel, by decide +kernel, by decide +kernel⟩
theorem yv_X1_scoreAll : YV yX1_scoreAll := ⟨wn_X1_scoreAll, wv_X1_scoreAll⟩
theorem yb_X1_keptScore : YB yX1_keptScore cX1_keptScore 3 (some FieldType.int) 2 := ⟨wc_X1_keptScore, wi_X1, by decide +kernel, by decide +kernel, by decide +kernel⟩
theorem yv_X1_keptScore : YV yX1_keptScore := ⟨wn_X1_keptScore, wv_X1_keptScore⟩
theorem yb_X1_isPeak : YB yX1_isPeak cX1_isPeak 8 (some FieldType.boolean) 2 := ⟨wc_X1_isPeak, wi_X1, by decide +kernel, by decide +kernel, by decide +kernel⟩
theorem yv_X1_isPeak : YV yX1_isPeak := ⟨wn_X1_isPeak, wv_X1_isPeak⟩
theorem yb_X1_signOf : YB yX1_signOf cX1_signOf 7 (some FieldType.int) 2 := ⟨wc_X1_signOf, wi_X1, by decide +kernel, by decide +kernel, by decide +kernel⟩
theorem yv_X1_signOf : YV yX1_signOf := ⟨wn_X1_signOf, wv_X1_signOf⟩
theorem yb_X2_init : YB yX2_init cX2_init 1 (none : Option FieldType) 0 := ⟨wc_X2_init, wi_X2, by decide +kernel, by decide +kernel, by decide +kernel⟩
theorem yb_X2_find : YB yX2_find cX2_find 6 (none : Option FieldType) 2 := ⟨wc_X2_find, wi_X2, by decide +kernel, by decide +kernel, by decide +kernel⟩
theorem yv_X2_find : YV yX2_find := ⟨wn_X2_find, wv_X2_find⟩
theorem yb_X2_insert : YB yX2_insert cX2_insert 6 (none : Option FieldType) 3 := ⟨wc_X2_insert, wi_X2, by decide +kernel, by decide +kernel, by decide +kernel⟩
theorem yv_X2_insert : YV yX2_insert := ⟨wn_X2_insert, wv_X2_insert⟩
theorem yb_X2_nearestTo : YB yX2_nearestTo cX2_nearestTo 6 (some FieldType.int) 1 := ⟨wc_X2_nearestTo, wi_X2, by decide +kernel, by decide +kernel, by decide +kernel⟩
theorem yv_X2_nearestTo : YV yX2_nearestTo := ⟨wn_X2_nearestTo, wv_X2_nearestTo⟩
theorem yb_X3_init : YB yX3_init cX3_init 1 (none : Option FieldType) 0 := ⟨wc_X3_init, wi_X3, by decide +kernel, by decide +kernel, by decide +kernel⟩
theorem yb_X3_find : YB yX3_find cX3_find 3 (none : Option FieldType) 2 := ⟨wc_X3_find, wi_X3, by decide +kernel, by decide +kernel, by decide +kernel⟩
theorem yv_X3_find : YV yX3_find := ⟨wn_X3_find, wv_X3_find⟩
theorem yb_X3_isThere : YB yX3_isThere cX3_isThere 1 (some FieldType.boolean) 0 := ⟨wc_X3_isThere, wi_X3, by decide +kernel, by decide +kernel, by decide +kernel⟩
theorem yv_X3_isThere : YV yX3_isThere := ⟨wn_X3_isThere, wv_X3_isThere⟩
theorem yb_X3_compare : YB yX3_compare cX3_compare 7 (none : Option FieldType) 2 := ⟨wc_X3_compare, wi_X3, by decide +kernel, by decide +kernel, by decide +kernel⟩
theorem yv_X3_compare : YV yX3_compare := ⟨wn_X3_compare, wv_X3_compare⟩
theorem yb_X4_init : YB yX4_init cX4_init 1 (none : Option FieldType) 0 := ⟨wc_X4_init, wi_X4, by decide +kernel, by decide +kernel, by decide +kernel⟩
theorem yb_X4_find : YB yX4_find cX4_find 5 (none : Option FieldType) 3 := ⟨wc_X4_find, wi_X4, by decide +kernel, by decide +kernel, by decide +kernel⟩
theorem yv_X4_find : YV yX4_find := ⟨wn_X4_find, wv_X4_find⟩
theorem yb_X4_partnerOf : YB yX4_partnerOf cX4_partnerOf 5 (some FieldType.int) 4 := ⟨wc_X4_partnerOf, wi_X4, by decide +kernel, by decide +kernel, by decide +kernel⟩
theorem yb_X4_shiftX : YB yX4_shiftX cX4_shiftX 4 (some FieldType.int) 3 := ⟨wc_X4_shiftX, wi_X4, by decide +kernel, by decide +kernel, by decide +kernel⟩
theorem yv_X4_shiftX : YV yX4_shiftX := ⟨wn_X4_shiftX, wv_X4_shiftX⟩
theorem yb_X4_shiftY : YB yX4_shiftY cX4_shiftY 4 (some FieldType.int) 3 := ⟨wc_X4_shiftY, wi_X4, by decide +kernel, by decide +kernel, by decide +kernel⟩
theorem yv_X4_shiftY : YV yX4_shiftY := ⟨wn_X4_shiftY, wv_X4_shiftY⟩
theorem yb_X4_propose : YB yX4_propose cX4_propose 7 (none : Option FieldType) 4 := ⟨wc_X4_propose, wi_X4, by decide +kernel, by decide +kernel, by decide +kernel⟩
theorem yv_X4_propose : YV yX4_propose := ⟨wn_X4_propose, wv_X4_propose⟩
theorem yb_X5_init : YB yX5_init cX5_init 1 (none : Option FieldType) 0 := ⟨wc_X5_init, wi_X5, by decide +kernel, by decide +kernel, by decide +kernel⟩
theorem yb_X5_isJoined : YB yX5_isJoined cX5_isJoined 1 (some FieldType.boolean) 0 := ⟨wc_X5_isJoined, wi_X5, by decide +kernel, by decide +kernel, by decide +kernel⟩
theorem yv_X5_isJoined : YV yX5_isJoined := ⟨wn_X5_isJoined, wv_X5_isJoined⟩
theorem yb_X5_dotAt : YB yX5_dotAt cX5_dotAt 3 (some FieldType.int) 2 := ⟨wc_X5_dotAt, wi_X5, by decide +kernel, by decide +kernel, by decide +kernel⟩
theorem yv_X5_dotAt : YV yX5_dotAt := ⟨wn_X5_dotAt, wv_X5_dotAt⟩
theorem yb_X5_edge : YB yX5_edge cX5_edge 2 (some FieldType.int) 1 := ⟨wc_X5_edge, wi_X5, by decide +kernel, by decide +kernel, by decide +kernel⟩
theorem yv_X5_edge : YV yX5_edge := ⟨wn_X5_edge, wv_X5_edge⟩
theorem yb_X6_init : YB yX6_init cX6_init 1 (none : Option FieldType) 0 := ⟨wc_X6_init, wi_X6, by decide +kernel, by decide +kernel, by decide +kernel⟩
theorem yb_X6_find : YB yX6_find cX6_find 10 (none : Option FieldType) 3 := ⟨wc_X6_find, wi_X6, by decide +kernel, by decide +kernel, by decide +kernel⟩
theorem yv_X6_find : YV yX6_find := ⟨wn_X6_find, wv_X6_find⟩
theorem yb_X6_unlikeness : YB yX6_unlikeness cX6_unlikeness 6 (some FieldType.int) 4 := ⟨wc_X6_unlikeness, wi_X6, by decide +kernel, by decide +kernel, by decide +kernel⟩
theorem yb_X6_costAt : YB yX6_costAt cX6_costAt 3 (some FieldType.int) 2 := ⟨wc_X6_costAt, wi_X6, by decide +kernel, by decide +kernel, by decide +kernel⟩
theorem yv_X6_costAt : YV yX6_costAt := ⟨wn_X6_costAt, wv_X6_costAt⟩
theorem yb_X6_cheapest : YB yX6_cheapest cX6_cheapest 7 (some FieldType.int) 4 := ⟨wc_X6_cheapest, wi_X6, by decide +kernel, by decide +kernel, by decide +kernel⟩
theorem yv_X6_cheapest : YV yX6_cheapest := ⟨wn_X6_cheapest, wv_X6_cheapest⟩
theorem yb_X7_init : YB yX7_init cX7_init 1 (none : Option FieldType) 0 := ⟨wc_X7_init, wi_X7, by decide +kernel, by decide +kernel, by decide +kernel⟩
theorem yb_X7_lightAt : YB yX7_lightAt cX7_lightAt 4 (some FieldType.int) 2 := ⟨wc_X7_lightAt, wi_X7, by decide +kernel, by decide +kernel, by decide +kernel⟩
theorem yv_X7_lightAt : YV yX7_lightAt := ⟨wn_X7_lightAt, wv_X7_lightAt⟩
theorem yb_X7_shootInto : YB yX7_shootInto cX7_shootInto 7 (none : Option FieldType) 4 := ⟨wc_X7_shootInto, wi_X7, by decide +kernel, by decide +kernel, by decide +kernel⟩
theorem yv_X7_shootInto : YV yX7_shootInto := ⟨wn_X7_shootInto, wv_X7_shootInto⟩
theorem yb_X8_init : YB yX8_init cX8_init 1 (none : Option FieldType) 0 := ⟨wc_X8_init, wi_X8, by decide +kernel, by decide +kernel, by decide +kernel⟩
theorem yb_X8_seed : YB yX8_seed cX8_seed 3 (some FieldType.int) 1 := ⟨wc_X8_seed, wi_X8, by decide +kernel, by decide +kernel, by decide +kernel⟩
theorem yv_X8_seed : YV yX8_seed := ⟨wn_X8_seed, wv_X8_seed⟩
theorem yb_X8_light : YB yX8_light cX8_light 4 (some FieldType.int) 2 := ⟨wc_X8_light, wi_X8, by decide +kernel, by decide +kernel, by decide +kernel⟩
theorem yv_X8_light : YV yX8_light := ⟨wn_X8_light, wv_X8_light⟩
theorem yb_X8_shoot : YB yX8_shoot cX8_shoot 8 (some FieldType.int) 5 := ⟨wc_X8_shoot, wi_X8, by decide +kernel, by decide +kernel, by decide +kernel⟩
theorem yv_X8_shoot : YV yX8_shoot := ⟨wn_X8_shoot, wv_X8_shoot⟩
theorem yb_X8_clear : YB yX8_clear cX8_clear 2 (some FieldType.int) 0 := ⟨wc_X8_clear, wi_X8, by decide +kernel, by decide +kernel, by decide +kernel⟩
theorem yv_X8_clear : YV yX8_clear := ⟨wn_X8_clear, wv_X8_clear⟩
theorem yb_X8_dot : YB yX8_dot cX8_dot 7 (some FieldType.int) 4 := ⟨wc_X8_dot, wi_X8, by decide +kernel, by decide +kernel, by decide +kernel⟩
theorem yv_X8_dot : YV yX8_dot := ⟨wn_X8_dot, wv_X8_dot⟩
theorem yb_X8_at : YB yX8_at cX8_at 4 (some FieldType.int) 3 := ⟨wc_X8_at, wi_X8, by decide +kernel, by decide +kernel, by decide +kernel⟩
theorem yv_X8_at : YV yX8_at := ⟨wn_X8_at, wv_X8_at⟩
theorem yb_X8_rules : YB yX8_rules cX8_rules 3 (some FieldType.int) 2 := ⟨wc_X8_rules, wi_X8, by decide +kernel, by decide +kernel, by decide +kernel⟩
theorem yv_X8_rules : YV yX8_rules := ⟨wn_X8_rules, wv_X8_rules⟩
theorem yb_X8_score : YB yX8_score cX8_score 4 (some FieldType.int) 3 := ⟨wc_X8_score, wi_X8, by decide +kernel, by decide +kernel, by decide +kernel⟩
theorem yv_X8_score : YV yX8_score := ⟨wn_X8_score, wv_X8_score⟩
theorem yb_X8_marks : YB yX8_marks cX8_marks 2 (some FieldType.int) 1 := ⟨wc_X8_marks, wi_X8, by decide +kernel, by decide +kernel, by decide +kernel⟩
theorem yv_X8_marks : YV yX8_marks := ⟨wn_X8_marks, wv_X8_marks⟩
theorem yb_X8_mark : YB yX8_mark cX8_mark 5 (some FieldType.int) 3 := ⟨wc_X8_mark, wi_X8, by decide +kernel, by decide +kernel, by decide +kernel⟩
theorem yv_X8_mark : YV yX8_mark := ⟨wn_X8_mark, wv_X8_mark⟩
theorem yb_X8_match : YB yX8_match cX8_match 4 (some FieldType.int) 3 := ⟨wc_X8_match, wi_X8, by decide +kernel, by decide +kernel, by decide +kernel⟩
theorem yv_X8_match : YV yX8_match := ⟨wn_X8_match, wv_X8_match⟩
theorem yb_X8_shift : YB yX8_shift cX8_shift 5 (some FieldType.int) 3 := ⟨wc_X8_shift, wi_X8, by decide +kernel, by decide +kernel, by decide +kernel⟩
theorem yv_X8_shift : YV yX8_shift := ⟨wn_X8_shift, wv_X8_shift⟩
theorem yb_X8_place : YB yX8_place cX8_place 4 (some FieldType.int) 2 := ⟨wc_X8_place, wi_X8, by decide +kernel, by decide +kernel, by decide +kernel⟩
theorem yv_X8_place : YV yX8_place := ⟨wn_X8_place, wv_X8_place⟩
theorem yb_X8_open : YB yX8_open cX8_open 1 (some FieldType.int) 0 := ⟨wc_X8_open, wi_X8, by decide +kernel, by decide +kernel, by decide +kernel⟩
theorem yv_X8_open : YV yX8_open := ⟨wn_X8_open, wv_X8_open⟩
theorem yb_X8_joined : YB yX8_joined cX8_joined 1 (some FieldType.int) 0 := ⟨wc_X8_joined, wi_X8, by decide +kernel, by decide +kernel, by decide +kernel⟩
theorem yv_X8_joined : YV yX8_joined := ⟨wn_X8_joined, wv_X8_joined⟩
theorem yb_X8_overlap : YB yX8_overlap cX8_overlap 5 (some FieldType.int) 3 := ⟨wc_X8_overlap, wi_X8, by decide +kernel, by decide +kernel, by decide +kernel⟩
theorem yv_X8_overlap : YV yX8_overlap := ⟨wn_X8_overlap, wv_X8_overlap⟩
theorem yb_X8_lights : YB yX8_lights cX8_lights 5 (some FieldType.int) 3 := ⟨wc_X8_lights, wi_X8, by decide +kernel, by decide +kernel, by decide +kernel⟩
theorem yv_X8_lights : YV yX8_lights := ⟨wn_X8_lights, wv_X8_lights⟩
theorem yb_X8_seam : YB yX8_seam cX8_seam 5 (some FieldType.int) 3 := ⟨wc_X8_seam, wi_X8, by decide +kernel, by decide +kernel, by decide +kernel⟩
theorem yv_X8_seam : YV yX8_seam := ⟨wn_X8_seam, wv_X8_seam⟩
theorem yb_X8_whole : YB yX8_whole cX8_whole 5 (some FieldType.int) 3 := ⟨wc_X8_whole, wi_X8, by decide +kernel, by decide +kernel, by decide +kernel⟩
theorem yv_X8_whole : YV yX8_whole := ⟨wn_X8_whole, wv_X8_whole⟩
theorem yb_X8_extent : YB yX8_extent cX8_extent 2 (some FieldType.int) 1 := ⟨wc_X8_extent, wi_X8, by decide +kernel, by decide +kernel, by decide +kernel⟩
theorem yv_X8_extent : YV yX8_extent := ⟨wn_X8_extent, wv_X8_extent⟩
theorem yb_X8_told : YB yX8_told cX8_told 2 (some FieldType.int) 1 := ⟨wc_X8_told, wi_X8, by decide +kernel, by decide +kernel, by decide +kernel⟩
theorem yv_X8_told : YV yX8_told := ⟨wn_X8_told, wv_X8_told⟩
theorem yb_X8_within : YB yX8_within cX8_within 3 (some FieldType.boolean) 3 := ⟨wc_X8_within, wi_X8, by decide +kernel, by decide +kernel, by decide +kernel⟩
theorem yb_X8_isPicture : YB yX8_isPicture cX8_isPicture 2 (some FieldType.boolean) 1 := ⟨wc_X8_isPicture, wi_X8, by decide +kernel, by decide +kernel, by decide +kernel⟩
theorem yv_X8_isPicture : YV yX8_isPicture := ⟨wn_X8_isPicture, wv_X8_isPicture⟩
theorem yb_X8_isDot : YB yX8_isDot cX8_isDot 4 (some FieldType.boolean) 3 := ⟨wc_X8_isDot, wi_X8, by decide +kernel, by decide +kernel, by decide +kernel⟩
theorem yv_X8_isDot : YV yX8_isDot := ⟨wn_X8_isDot, wv_X8_isDot⟩
theorem yb_X8_isMark : YB yX8_isMark cX8_isMark 3 (some FieldType.boolean) 2 := ⟨wc_X8_isMark, wi_X8, by decide +kernel, by decide +kernel, by decide +kernel⟩
theorem yv_X8_isMark : YV yX8_isMark := ⟨wn_X8_isMark, wv_X8_isMark⟩
theorem yb_X8_areTwo : YB yX8_areTwo cX8_areTwo 3 (some FieldType.boolean) 2 := ⟨wc_X8_areTwo, wi_X8, by decide +kernel, by decide +kernel, by decide +kernel⟩
theorem yv_X8_areTwo : YV yX8_areTwo := ⟨wn_X8_areTwo, wv_X8_areTwo⟩
theorem yb_X8_refusalOfTwo : YB yX8_refusalOfTwo cX8_refusalOfTwo 4 (some FieldType.int) 3 := ⟨wc_X8_refusalOfTwo, wi_X8, by decide +kernel, by decide +kernel, by decide +kernel⟩
theorem yv_X8_refusalOfTwo : YV yX8_refusalOfTwo := ⟨wn_X8_refusalOfTwo, wv_X8_refusalOfTwo⟩
theorem yb_X9_init : YB yX9_init cX9_init 1 (none : Option FieldType) 0 := ⟨wc_X9_init, wi_X9, by decide +kernel, by decide +kernel, by decide +kernel⟩
theorem yb_X9_in : YB yX9_in cX9_in 3 (some FieldType.boolean) 3 := ⟨wc_X9_in, wi_X9, by decide +kernel, by decide +kernel, by decide +kernel⟩
theorem yb_X9_isPicture : YB yX9_isPicture cX9_isPicture 2 (some FieldType.boolean) 1 := ⟨wc_X9_isPicture, wi_X9, by decide +kernel, by decide +kernel, by decide +kernel⟩
theorem yv_X9_isPicture : YV yX9_isPicture := ⟨wn_X9_isPicture, wv_X9_isPicture⟩
theorem yb_X9_seed : YB yX9_seed cX9_seed 3 (some FieldType.int) 1 := ⟨wc_X9_seed, wi_X9, by decide +kernel, by decide +kernel, by decide +kernel⟩
theorem yv_X9_seed : YV yX9_seed := ⟨wn_X9_seed, wv_X9_seed⟩
theorem yb_X9_lightAt : YB yX9_lightAt cX9_lightAt 4 (some FieldType.int) 2 := ⟨wc_X9_lightAt, wi_X9, by decide +kernel, by decide +kernel, by decide +kernel⟩
theorem yv_X9_lightAt : YV yX9_lightAt := ⟨wn_X9_lightAt, wv_X9_lightAt⟩
theorem yb_X9_light : YB yX9_light cX9_light 3 (some FieldType.int) 2 := ⟨wc_X9_light, wi_X9, by decide +kernel, by decide +kernel, by decide +kernel⟩
theorem yv_X9_light : YV yX9_light := ⟨wn_X9_light, wv_X9_light⟩
theorem yb_X9_shoot : YB yX9_shoot cX9_shoot 9 (some FieldType.int) 5 := ⟨wc_X9_shoot, wi_X9, by decide +kernel, by decide +kernel, by decide +kernel⟩
theorem yv_X9_shoot : YV yX9_shoot := ⟨wn_X9_shoot, wv_X9_shoot⟩
theorem yb_X9_clear : YB yX9_clear cX9_clear 2 (some FieldType.int) 0 := ⟨wc_X9_clear, wi_X9, by decide +kernel, by decide +kernel, by decide +kernel⟩
theorem yv_X9_clear : YV yX9_clear := ⟨wn_X9_clear, wv_X9_clear⟩
theorem yb_X9_isDot : YB yX9_isDot cX9_isDot 4 (some FieldType.boolean) 3 := ⟨wc_X9_isDot, wi_X9, by decide +kernel, by decide +kernel, by decide +kernel⟩
theorem yv_X9_isDot : YV yX9_isDot := ⟨wn_X9_isDot, wv_X9_isDot⟩
theorem yb_X9_dotAt : YB yX9_dotAt cX9_dotAt 4 (some FieldType.int) 3 := ⟨wc_X9_dotAt, wi_X9, by decide +kernel, by decide +kernel, by decide +kernel⟩
theorem yv_X9_dotAt : YV yX9_dotAt := ⟨wn_X9_dotAt, wv_X9_dotAt⟩
theorem yb_X9_dot : YB yX9_dot cX9_dot 6 (some FieldType.int) 4 := ⟨wc_X9_dot, wi_X9, by decide +kernel, by decide +kernel, by decide +kernel⟩
theorem yv_X9_dot : YV yX9_dot := ⟨wn_X9_dot, wv_X9_dot⟩
theorem yb_X9_at : YB yX9_at cX9_at 4 (some FieldType.int) 3 := ⟨wc_X9_at, wi_X9, by decide +kernel, by decide +kernel, by decide +kernel⟩
theorem yv_X9_at : YV yX9_at := ⟨wn_X9_at, wv_X9_at⟩
theorem yb_X9_rules : YB yX9_rules cX9_rules 3 (some FieldType.int) 2 := ⟨wc_X9_rules, wi_X9, by decide +kernel, by decide +kernel, by decide +kernel⟩
theorem yv_X9_rules : YV yX9_rules := ⟨wn_X9_rules, wv_X9_rules⟩
theorem yb_X9_scoreOf : YB yX9_scoreOf cX9_scoreOf 14 (some FieldType.int) 3 := ⟨wc_X9_scoreOf, wi_X9, by decide +kernel, by decide +kernel, by decide +kernel⟩
theorem yv_X9_scoreOf : YV yX9_scoreOf := ⟨wn_X9_scoreOf, wv_X9_scoreOf⟩
theorem yb_X9_signOf : YB yX9_signOf cX9_signOf 8 (some FieldType.int) 3 := ⟨wc_X9_signOf, wi_X9, by decide +kernel, by decide +kernel, by decide +kernel⟩
theorem yv_X9_signOf : YV yX9_signOf := ⟨wn_X9_signOf, wv_X9_signOf⟩
theorem yb_X9_isMark : YB yX9_isMark cX9_isMark 10 (some FieldType.boolean) 3 := ⟨wc_X9_isMark, wi_X9, by decide +kernel, by decide +kernel, by decide +kernel⟩
theorem yv_X9_isMark : YV yX9_isMark := ⟨wn_X9_isMark, wv_X9_isMark⟩
theorem yb_X9_layMarks : YB yX9_layMarks cX9_layMarks 4 (none : Option FieldType) 1 := ⟨wc_X9_layMarks, wi_X9, by decide +kernel, by decide +kernel, by decide +kernel⟩
theorem yv_X9_layMarks : YV yX9_layMarks := ⟨wn_X9_layMarks, wv_X9_layMarks⟩
theorem yb_X9_putMark : YB yX9_putMark cX9_putMark 6 (none : Option FieldType) 2 := ⟨wc_X9_putMark, wi_X9, by decide +kernel, by decide +kernel, by decide +kernel⟩
theorem yv_X9_putMark : YV yX9_putMark := ⟨wn_X9_putMark, wv_X9_putMark⟩
theorem yb_X9_bits : YB yX9_bits cX9_bits 3 (some FieldType.int) 1 := ⟨wc_X9_bits, wi_X9, by decide +kernel, by decide +kernel, by decide +kernel⟩
theorem yb_X9_distance : YB yX9_distance cX9_distance 5 (some FieldType.int) 4 := ⟨wc_X9_distance, wi_X9, by decide +kernel, by decide +kernel, by decide +kernel⟩
theorem yv_X9_distance : YV yX9_distance := ⟨wn_X9_distance, wv_X9_distance⟩
theorem yb_X9_nearest : YB yX9_nearest cX9_nearest 6 (some FieldType.int) 3 := ⟨wc_X9_nearest, wi_X9, by decide +kernel, by decide +kernel, by decide +kernel⟩
theorem yv_X9_nearest : YV yX9_nearest := ⟨wn_X9_nearest, wv_X9_nearest⟩
theorem yb_X9_markX : YB yX9_markX cX9_markX 3 (some FieldType.int) 2 := ⟨wc_X9_markX, wi_X9, by decide +kernel, by decide +kernel, by decide +kernel⟩
theorem yv_X9_markX : YV yX9_markX := ⟨wn_X9_markX, wv_X9_markX⟩
theorem yb_X9_markY : YB yX9_markY cX9_markY 3 (some FieldType.int) 2 := ⟨wc_X9_markY, wi_X9, by decide +kernel, by decide +kernel, by decide +kernel⟩
theorem yv_X9_markY : YV yX9_markY := ⟨wn_X9_markY, wv_X9_markY⟩
theorem yb_X9_layPair : YB yX9_layPair cX9_layPair 9 (none : Option FieldType) 2 := ⟨wc_X9_layPair, wi_X9, by decide +kernel, by decide +kernel, by decide +kernel⟩
theorem yv_X9_layPair : YV yX9_layPair := ⟨wn_X9_layPair, wv_X9_layPair⟩
theorem yb_X9_votesFor : YB yX9_votesFor cX9_votesFor 9 (some FieldType.int) 4 := ⟨wc_X9_votesFor, wi_X9, by decide +kernel, by decide +kernel, by decide +kernel⟩
theorem yv_X9_votesFor : YV yX9_votesFor := ⟨wn_X9_votesFor, wv_X9_votesFor⟩
theorem yb_X9_layPlaces : YB yX9_layPlaces cX9_layPlaces 7 (none : Option FieldType) 0 := ⟨wc_X9_layPlaces, wi_X9, by decide +kernel, by decide +kernel, by decide +kernel⟩
theorem yv_X9_layPlaces : YV yX9_layPlaces := ⟨wn_X9_layPlaces, wv_X9_layPlaces⟩
theorem yb_X9_lay : YB yX9_lay cX9_lay 2 (none : Option FieldType) 0 := ⟨wc_X9_lay, wi_X9, by decide +kernel, by decide +kernel, by decide +kernel⟩
theorem yv_X9_lay : YV yX9_lay := ⟨wn_X9_lay, wv_X9_lay⟩
theorem yb_X9_score : YB yX9_score cX9_score 4 (some FieldType.int) 3 := ⟨wc_X9_score, wi_X9, by decide +kernel, by decide +kernel, by decide +kernel⟩
theorem yv_X9_score : YV yX9_score := ⟨wn_X9_score, wv_X9_score⟩
theorem yb_X9_marks : YB yX9_marks cX9_marks 2 (some FieldType.int) 1 := ⟨wc_X9_marks, wi_X9, by decide +kernel, by decide +kernel, by decide +kernel⟩
theorem yv_X9_marks : YV yX9_marks := ⟨wn_X9_marks, wv_X9_marks⟩
theorem yb_X9_hasMark : YB yX9_hasMark cX9_hasMark 3 (some FieldType.boolean) 2 := ⟨wc_X9_hasMark, wi_X9, by decide +kernel, by decide +kernel, by decide +kernel⟩
theorem yv_X9_hasMark : YV yX9_hasMark := ⟨wn_X9_hasMark, wv_X9_hasMark⟩
theorem yb_X9_mark : YB yX9_mark cX9_mark 4 (some FieldType.int) 3 := ⟨wc_X9_mark, wi_X9, by decide +kernel, by decide +kernel, by decide +kernel⟩
theorem yv_X9_mark : YV yX9_mark := ⟨wn_X9_mark, wv_X9_mark⟩
theorem yb_X9_match : YB yX9_match cX9_match 4 (some FieldType.int) 3 := ⟨wc_X9_match, wi_X9, by decide +kernel, by decide +kernel, by decide +kernel⟩
theorem yv_X9_match : YV yX9_match := ⟨wn_X9_match, wv_X9_match⟩
theorem yb_X9_arePair : YB yX9_arePair cX9_arePair 3 (some FieldType.boolean) 2 := ⟨wc_X9_arePair, wi_X9, by decide +kernel, by decide +kernel, by decide +kernel⟩
theorem yv_X9_arePair : YV yX9_arePair := ⟨wn_X9_arePair, wv_X9_arePair⟩
theorem yb_X9_shift : YB yX9_shift cX9_shift 5 (some FieldType.int) 3 := ⟨wc_X9_shift, wi_X9, by decide +kernel, by decide +kernel, by decide +kernel⟩
theorem yv_X9_shift : YV yX9_shift := ⟨wn_X9_shift, wv_X9_shift⟩
theorem yb_X9_place : YB yX9_place cX9_place 3 (some FieldType.int) 2 := ⟨wc_X9_place, wi_X9, by decide +kernel, by decide +kernel, by decide +kernel⟩
theorem yv_X9_place : YV yX9_place := ⟨wn_X9_place, wv_X9_place⟩
theorem yb_X9_open : YB yX9_open cX9_open 7 (some FieldType.int) 0 := ⟨wc_X9_open, wi_X9, by decide +kernel, by decide +kernel, by decide +kernel⟩
theorem yv_X9_open : YV yX9_open := ⟨wn_X9_open, wv_X9_open⟩
theorem yb_X9_joined : YB yX9_joined cX9_joined 1 (some FieldType.int) 0 := ⟨wc_X9_joined, wi_X9, by decide +kernel, by decide +kernel, by decide +kernel⟩
theorem yv_X9_joined : YV yX9_joined := ⟨wn_X9_joined, wv_X9_joined⟩
theorem yb_X9_layOverlap : YB yX9_layOverlap cX9_layOverlap 7 (none : Option FieldType) 2 := ⟨wc_X9_layOverlap, wi_X9, by decide +kernel, by decide +kernel, by decide +kernel⟩
theorem yv_X9_layOverlap : YV yX9_layOverlap := ⟨wn_X9_layOverlap, wv_X9_layOverlap⟩
theorem yb_X9_barsOverlap : YB yX9_barsOverlap cX9_barsOverlap 4 (some FieldType.int) 3 := ⟨wc_X9_barsOverlap, wi_X9, by decide +kernel, by decide +kernel, by decide +kernel⟩
theorem yv_X9_barsOverlap : YV yX9_barsOverlap := ⟨wn_X9_barsOverlap, wv_X9_barsOverlap⟩
theorem yb_X9_overlap : YB yX9_overlap cX9_overlap 5 (some FieldType.int) 3 := ⟨wc_X9_overlap, wi_X9, by decide +kernel, by decide +kernel, by decide +kernel⟩
theorem yv_X9_overlap : YV yX9_overlap := ⟨wn_X9_overlap, wv_X9_overlap⟩
theorem yb_X9_dotOver : YB yX9_dotOver cX9_dotOver 4 (some FieldType.int) 3 := ⟨wc_X9_dotOver, wi_X9, by decide +kernel, by decide +kernel, by decide +kernel⟩
theorem yv_X9_dotOver : YV yX9_dotOver := ⟨wn_X9_dotOver, wv_X9_dotOver⟩
theorem yb_X9_lights : YB yX9_lights cX9_lights 9 (some FieldType.int) 3 := ⟨wc_X9_lights, wi_X9, by decide +kernel, by decide +kernel, by decide +kernel⟩
theorem yv_X9_lights : YV yX9_lights := ⟨wn_X9_lights, wv_X9_lights⟩
theorem yb_X9_leastAt : YB yX9_leastAt cX9_leastAt 3 (some FieldType.int) 2 := ⟨wc_X9_leastAt, wi_X9, by decide +kernel, by decide +kernel, by decide +kernel⟩
theorem yv_X9_leastAt : YV yX9_leastAt := ⟨wn_X9_leastAt, wv_X9_leastAt⟩
theorem yb_X9_below : YB yX9_below cX9_below 6 (some FieldType.int) 2 := ⟨wc_X9_below, wi_X9, by decide +kernel, by decide +kernel, by decide +kernel⟩
theorem yv_X9_below : YV yX9_below := ⟨wn_X9_below, wv_X9_below⟩
theorem yb_X9_seam : YB yX9_seam cX9_seam 10 (some FieldType.int) 3 := ⟨wc_X9_seam, wi_X9, by decide +kernel, by decide +kernel, by decide +kernel⟩
theorem yv_X9_seam : YV yX9_seam := ⟨wn_X9_seam, wv_X9_seam⟩
theorem yb_X9_pictureAt : YB yX9_pictureAt cX9_pictureAt 6 (some FieldType.int) 2 := ⟨wc_X9_pictureAt, wi_X9, by decide +kernel, by decide +kernel, by decide +kernel⟩
theorem yv_X9_pictureAt : YV yX9_pictureAt := ⟨wn_X9_pictureAt, wv_X9_pictureAt⟩
theorem yb_X9_whole : YB yX9_whole cX9_whole 5 (some FieldType.int) 3 := ⟨wc_X9_whole, wi_X9, by decide +kernel, by decide +kernel, by decide +kernel⟩
theorem yv_X9_whole : YV yX9_whole := ⟨wn_X9_whole, wv_X9_whole⟩
theorem yb_X9_edge : YB yX9_edge cX9_edge 6 (some FieldType.int) 1 := ⟨wc_X9_edge, wi_X9, by decide +kernel, by decide +kernel, by decide +kernel⟩
theorem yv_X9_edge : YV yX9_edge := ⟨wn_X9_edge, wv_X9_edge⟩
theorem yb_X9_extent : YB yX9_extent cX9_extent 5 (some FieldType.int) 1 := ⟨wc_X9_extent, wi_X9, by decide +kernel, by decide +kernel, by decide +kernel⟩
theorem yv_X9_extent : YV yX9_extent := ⟨wn_X9_extent, wv_X9_extent⟩
theorem yb_X9_told : YB yX9_told cX9_told 2 (some FieldType.int) 1 := ⟨wc_X9_told, wi_X9, by decide +kernel, by decide +kernel, by decide +kernel⟩
theorem yv_X9_told : YV yX9_told := ⟨wn_X9_told, wv_X9_told⟩
theorem yb_J6_bitCount_0f7a4 : YB yJ6_bitCount_0f7a4 cJ6_bitCount_0f7a4 1 (some FieldType.int) 1 := ⟨wc_J6_bitCount_0f7a4, wi_J6, by decide +kernel, by decide +kernel, by decide +kernel⟩
theorem yb_J9_abs_0f7a4 : YB yJ9_abs_0f7a4 cJ9_abs_0f7a4 1 (some FieldType.int) 1 := ⟨wc_J9_abs_0f7a4, wi_J9, by decide +kernel, by decide +kernel, by decide +kernel⟩
theorem yb_J9_max_7cf53 : YB yJ9_max_7cf53 cJ9_max_7cf53 2 (some FieldType.int) 2 := ⟨wc_J9_max_7cf53, wi_J9, by decide +kernel, by decide +kernel, by decide +kernel⟩
theorem yb_J9_min_7cf53 : YB yJ9_min_7cf53 cJ9_min_7cf53 2 (some FieldType.int) 2 := ⟨wc_J9_min_7cf53, wi_J9, by decide +kernel, by decide +kernel, by decide +kernel⟩
