theorem s_0 : SH 0 = (0, 8) := rfl
theorem s_1 : SH 1 = (1, 7) := rfl
theorem s_2 : SH 2 = (22, 2) := rfl
theorem s_3 : SH 3 = (23, 6) := rfl
theorem s_4 : SH 4 = (24, 6) := rfl
theorem s_5 : SH 5 = (25, 12) := rfl
theorem s_6 : SH 6 = (2, 3) := rfl
theorem s_7 : SH 7 = (20, 59) := rfl
theorem s_8 : SH 8 = (2, 3) := rfl
theorem s_9 : SH 9 = (20, 23) := rfl
theorem s_10 : SH 10 = (3, 2) := rfl
theorem s_11 : SH 11 = (20, 40) := rfl
theorem s_12 : SH 12 = (3, 2) := rfl
theorem s_13 : SH 13 = (20, 40) := rfl
theorem s_14 : SH 14 = (3, 2) := rfl
theorem s_15 : SH 15 = (20, 40) := rfl
theorem s_16 : SH 16 = (3, 2) := rfl
theorem s_17 : SH 17 = (20, 40) := rfl
theorem s_18 : SH 18 = (3, 2) := rfl
theorem s_19 : SH 19 = (20, 40) := rfl
theorem s_20 : SH 20 = (3, 2) := rfl
theorem s_21 : SH 21 = (20, 40) := rfl
theorem s_22 : SH 22 = (4, 3) := rfl
theorem s_23 : SH 23 = (4, 3) := rfl
theorem s_24 : SH 24 = (4, 3) := rfl
theorem s_25 : SH 25 = (4, 3) := rfl
theorem s_26 : SH 26 = (4, 3) := rfl
theorem s_27 : SH 27 = (4, 3) := rfl
theorem s_28 : SH 28 = (5, 7) := rfl
theorem s_29 : SH 29 = (5, 7) := rfl
theorem s_30 : SH 30 = (5, 7) := rfl
theorem s_31 : SH 31 = (5, 7) := rfl
theorem s_32 : SH 32 = (5, 7) := rfl
theorem s_33 : SH 33 = (5, 7) := rfl
theorem s_34 : SH 34 = (5, 7) := rfl
theorem s_35 : SH 35 = (5, 7) := rfl
theorem s_36 : SH 36 = (5, 7) := rfl
theorem s_37 : SH 37 = (5, 7) := rfl
theorem s_38 : SH 38 = (5, 7) := rfl
theorem s_39 : SH 39 = (5, 7) := rfl
theorem s_40 : SH 40 = (6, 8) := rfl
theorem s_41 : SH 41 = (23, 6) := rfl
theorem s_42 : SH 42 = (23, 6) := rfl
theorem s_43 : SH 43 = (20, 6) := rfl
theorem s_44 : SH 44 = (3, 2) := rfl
theorem s_45 : SH 45 = (20, 40) := rfl
theorem s_46 : SH 46 = (20, 9600) := rfl
theorem s_47 : SH 47 = (20, 240) := rfl
theorem s_48 : SH 48 = (20, 240) := rfl
theorem s_49 : SH 49 = (3, 2) := rfl
theorem s_50 : SH 50 = (20, 40) := rfl
theorem s_51 : SH 51 = (3, 2) := rfl
theorem s_52 : SH 52 = (20, 40) := rfl
theorem s_53 : SH 53 = (3, 2) := rfl
theorem s_54 : SH 54 = (20, 40) := rfl
theorem s_55 : SH 55 = (3, 2) := rfl
theorem s_56 : SH 56 = (20, 40) := rfl
theorem s_57 : SH 57 = (3, 2) := rfl
theorem s_58 : SH 58 = (20, 40) := rfl
theorem s_59 : SH 59 = (3, 2) := rfl
theorem s_60 : SH 60 = (20, 40) := rfl
theorem s_61 : SH 61 = (3, 2) := rfl
theorem s_62 : SH 62 = (20, 40) := rfl
theorem s_63 : SH 63 = (3, 2) := rfl
theorem s_64 : SH 64 = (20, 40) := rfl
theorem s_65 : SH 65 = (3, 2) := rfl
theorem s_66 : SH 66 = (20, 40) := rfl
theorem s_67 : SH 67 = (3, 2) := rfl
theorem s_68 : SH 68 = (20, 40) := rfl
theorem s_69 : SH 69 = (3, 2) := rfl
theorem s_70 : SH 70 = (20, 40) := rfl
theorem s_71 : SH 71 = (3, 2) := rfl
theorem s_72 : SH 72 = (20, 40) := rfl
theorem s_73 : SH 73 = (7, 3) := rfl
theorem s_74 : SH 74 = (23, 4) := rfl
theorem s_75 : SH 75 = (20, 3) := rfl
theorem s_76 : SH 76 = (3, 2) := rfl
theorem s_77 : SH 77 = (20, 40) := rfl
theorem s_78 : SH 78 = (3, 2) := rfl
theorem s_79 : SH 79 = (20, 40) := rfl
theorem s_80 : SH 80 = (3, 2) := rfl
theorem s_81 : SH 81 = (20, 40) := rfl
theorem s_82 : SH 82 = (3, 2) := rfl
theorem s_83 : SH 83 = (20, 40) := rfl
theorem s_84 : SH 84 = (8, 1) := rfl
theorem s_85 : SH 85 = (21, 7) := rfl
theorem s_86 : SH 86 = (9, 4) := rfl
theorem s_87 : SH 87 = (3, 2) := rfl
theorem s_88 : SH 88 = (20, 40) := rfl
theorem s_89 : SH 89 = (3, 2) := rfl
theorem s_90 : SH 90 = (20, 40) := rfl
theorem s_91 : SH 91 = (21, 10) := rfl
theorem s_92 : SH 92 = (26, 4) := rfl
theorem s_93 : SH 93 = (10, 3) := rfl
theorem s_94 : SH 94 = (20, 60) := rfl
theorem s_95 : SH 95 = (10, 3) := rfl
theorem s_96 : SH 96 = (20, 60) := rfl
theorem s_97 : SH 97 = (10, 3) := rfl
theorem s_98 : SH 98 = (20, 60) := rfl
theorem s_99 : SH 99 = (10, 3) := rfl
theorem s_100 : SH 100 = (20, 60) := rfl
theorem s_101 : SH 101 = (11, 26) := rfl
theorem s_102 : SH 102 = (20, 4) := rfl
theorem s_103 : SH 103 = (20, 4) := rfl
theorem s_104 : SH 104 = (20, 240) := rfl
theorem s_105 : SH 105 = (20, 60) := rfl
theorem s_106 : SH 106 = (20, 120) := rfl
theorem s_107 : SH 107 = (20, 2) := rfl
theorem s_108 : SH 108 = (20, 240) := rfl
theorem s_109 : SH 109 = (20, 6) := rfl
theorem s_110 : SH 110 = (20, 18) := rfl
theorem s_111 : SH 111 = (20, 48) := rfl
theorem s_112 : SH 112 = (20, 280) := rfl
theorem s_113 : SH 113 = (20, 7) := rfl
theorem s_114 : SH 114 = (20, 240) := rfl
theorem s_115 : SH 115 = (20, 6) := rfl
theorem s_116 : SH 116 = (20, 6) := rfl
theorem s_117 : SH 117 = (20, 6) := rfl
theorem s_118 : SH 118 = (20, 12) := rfl
theorem s_119 : SH 119 = (20, 12) := rfl
theorem s_120 : SH 120 = (20, 12) := rfl
theorem s_121 : SH 121 = (20, 80) := rfl
theorem s_122 : SH 122 = (20, 41) := rfl
theorem lk_tl_10 : Cond.fieldLink "TuneLoans" 10 "TuneLoans" "book" "LTuneLoans$Book;" ∈ TB := mem_tb 342 (by decide +kernel) (by decide +kernel)
theorem lk_tl_19 : Cond.fieldLink "TuneLoans" 19 "TuneLoans" "years" "LTuneLoans$Years;" ∈ TB := mem_tb 343 (by decide +kernel) (by decide +kernel)
theorem lk_tl_26 : Cond.fieldLink "TuneLoans" 26 "TuneLoans" "turns" "LTuneLoans$Turns;" ∈ TB := mem_tb 344 (by decide +kernel) (by decide +kernel)
theorem lk_tl_33 : Cond.fieldLink "TuneLoans" 33 "TuneLoans" "likeness" "LTuneLoans$Likeness;" ∈ TB := mem_tb 345 (by decide +kernel) (by decide +kernel)
theorem lk_tl_40 : Cond.fieldLink "TuneLoans" 40 "TuneLoans" "chance" "LTuneLoans$Chance;" ∈ TB := mem_tb 346 (by decide +kernel) (by decide +kernel)
theorem lk_tl_46 : Cond.fieldLink "TuneLoans" 46 "TuneLoans" "sheets" "[LTuneLoans$Sheet;" ∈ TB := mem_tb 347 (by decide +kernel) (by decide +kernel)
theorem lk_tl_51 : Cond.fieldLink "TuneLoans" 51 "TuneLoans" "ear" "I" ∈ TB := mem_tb 348 (by decide +kernel) (by decide +kernel)
theorem lk_tl_55 : Cond.methodLink "TuneLoans" 55 ⟨"TuneLoans", "isText", "(I)Z"⟩ ∈ TB := mem_tb 371 (by decide +kernel) (by decide +kernel)
theorem lk_tl_59 : Cond.methodLink "TuneLoans" 59 ⟨"TuneLoans", "within", "(III)Z"⟩ ∈ TB := mem_tb 374 (by decide +kernel) (by decide +kernel)
theorem lk_tl_63 : Cond.fieldLink "TuneLoans" 63 "TuneLoans$Book" "texts" "[LTuneLoans$Text;" ∈ TB := mem_tb 199 (by decide +kernel) (by decide +kernel)
theorem lk_tl_67 : Cond.fieldLink "TuneLoans" 67 "TuneLoans$Text" "size" "I" ∈ TB := mem_tb 110 (by decide +kernel) (by decide +kernel)
theorem lk_tl_72 : Cond.fieldLink "TuneLoans" 72 "TuneLoans$Text" "bytes" "[I" ∈ TB := mem_tb 108 (by decide +kernel) (by decide +kernel)
theorem lk_tl_76 : Cond.methodLink "TuneLoans" 76 ⟨"TuneLoans", "resized", "(II)I"⟩ ∈ TB := mem_tb 377 (by decide +kernel) (by decide +kernel)
theorem lk_tl_80 : Cond.fieldLink "TuneLoans" 80 "TuneLoans$Text" "faultAt" "I" ∈ TB := mem_tb 114 (by decide +kernel) (by decide +kernel)
theorem lk_tl_83 : Cond.methodLink "TuneLoans" 83 ⟨"TuneLoans", "isTune", "(I)Z"⟩ ∈ TB := mem_tb 510 (by decide +kernel) (by decide +kernel)
theorem lk_tl_86 : Cond.fieldLink "TuneLoans" 86 "TuneLoans$Book" "tunes" "[LTuneLoans$Tune;" ∈ TB := mem_tb 202 (by decide +kernel) (by decide +kernel)
theorem lk_tl_90 : Cond.fieldLink "TuneLoans" 90 "TuneLoans$Tune" "size" "I" ∈ TB := mem_tb 135 (by decide +kernel) (by decide +kernel)
theorem lk_tl_93 : Cond.methodLink "TuneLoans" 93 ⟨"TuneLoans$Tune", "at", "(I)I"⟩ ∈ TB := mem_tb 514 (by decide +kernel) (by decide +kernel)
theorem lk_tl_97 : Cond.methodLink "TuneLoans" 97 ⟨"TuneLoans", "isBorrower", "(I)Z"⟩ ∈ TB := mem_tb 522 (by decide +kernel) (by decide +kernel)
theorem lk_tl_100 : Cond.fieldLink "TuneLoans" 100 "TuneLoans$Book" "borrowers" "[LTuneLoans$Borrower;" ∈ TB := mem_tb 207 (by decide +kernel) (by decide +kernel)
theorem lk_tl_104 : Cond.fieldLink "TuneLoans" 104 "TuneLoans$Borrower" "x" "I" ∈ TB := mem_tb 149 (by decide +kernel) (by decide +kernel)
theorem lk_tl_109 : Cond.fieldLink "TuneLoans" 109 "TuneLoans$Borrower" "how" "I" ∈ TB := mem_tb 152 (by decide +kernel) (by decide +kernel)
theorem lk_tl_112 : Cond.fieldLink "TuneLoans" 112 "TuneLoans$Borrower" "y" "I" ∈ TB := mem_tb 155 (by decide +kernel) (by decide +kernel)
theorem lk_tl_115 : Cond.methodLink "TuneLoans" 115 ⟨"TuneLoans", "isYear", "(I)Z"⟩ ∈ TB := mem_tb 530 (by decide +kernel) (by decide +kernel)
theorem lk_tl_118 : Cond.fieldLink "TuneLoans" 118 "TuneLoans$Book" "loanCount" "I" ∈ TB := mem_tb 223 (by decide +kernel) (by decide +kernel)
theorem lk_tl_121 : Cond.fieldLink "TuneLoans" 121 "TuneLoans$Book" "loans" "[LTuneLoans$Loan;" ∈ TB := mem_tb 211 (by decide +kernel) (by decide +kernel)
theorem lk_tl_125 : Cond.fieldLink "TuneLoans" 125 "TuneLoans$Loan" "year" "I" ∈ TB := mem_tb 168 (by decide +kernel) (by decide +kernel)
theorem lk_tl_130 : Cond.fieldLink "TuneLoans" 130 "TuneLoans$Loan" "tune" "I" ∈ TB := mem_tb 170 (by decide +kernel) (by decide +kernel)
theorem lk_tl_133 : Cond.fieldLink "TuneLoans" 133 "TuneLoans$Loan" "borrower" "I" ∈ TB := mem_tb 172 (by decide +kernel) (by decide +kernel)
theorem lk_tl_136 : Cond.fieldLink "TuneLoans" 136 "TuneLoans$Loan" "years" "I" ∈ TB := mem_tb 174 (by decide +kernel) (by decide +kernel)
theorem lk_tl_138 : Cond.methodLink "TuneLoans" 138 ⟨"TuneLoans$Years", "forget", "()V"⟩ ∈ TB := mem_tb 489 (by decide +kernel) (by decide +kernel)
theorem lk_tl_141 : Cond.methodLink "TuneLoans" 141 ⟨"TuneLoans", "isSheet", "(I)Z"⟩ ∈ TB := mem_tb 541 (by decide +kernel) (by decide +kernel)
theorem lk_tl_144 : Cond.methodLink "TuneLoans" 144 ⟨"TuneLoans$Sheet", "isLost", "()Z"⟩ ∈ TB := mem_tb 544 (by decide +kernel) (by decide +kernel)
theorem lk_tl_148 : Cond.methodLink "TuneLoans" 148 ⟨"TuneLoans", "found", "(I)I"⟩ ∈ TB := mem_tb 548 (by decide +kernel) (by decide +kernel)
theorem lk_tl_151 : Cond.fieldLink "TuneLoans" 151 "TuneLoans$Sheet" "size" "I" ∈ TB := mem_tb 334 (by decide +kernel) (by decide +kernel)
theorem lk_tl_152 : Cond.fieldLink "TuneLoans" 152 "TuneLoans$Sheet" "items" "[I" ∈ TB := mem_tb 330 (by decide +kernel) (by decide +kernel)
theorem lk_tl_155 : Cond.methodLink "TuneLoans" 155 ⟨"TuneLoans", "loan", "(IIII)I"⟩ ∈ TB := mem_tb 552 (by decide +kernel) (by decide +kernel)
theorem lk_tl_159 : Cond.methodLink "TuneLoans" 159 ⟨"TuneLoans", "isEar", "(I)Z"⟩ ∈ TB := mem_tb 557 (by decide +kernel) (by decide +kernel)
theorem lk_tl_162 : Cond.methodLink "TuneLoans" 162 ⟨"TuneLoans$Years", "live", "(LTuneLoans$Book;ILTuneLoans$Likeness;)V"⟩ ∈ TB := mem_tb 564 (by decide +kernel) (by decide +kernel)
theorem lk_tl_166 : Cond.methodLink "TuneLoans" 166 ⟨"TuneLoans$Years", "sizeOf", "(II)I"⟩ ∈ TB := mem_tb 612 (by decide +kernel) (by decide +kernel)
theorem lk_tl_169 : Cond.methodLink "TuneLoans" 169 ⟨"TuneLoans$Years", "noteOf", "(III)I"⟩ ∈ TB := mem_tb 616 (by decide +kernel) (by decide +kernel)
theorem lk_tl_173 : Cond.methodLink "TuneLoans" 173 ⟨"TuneLoans$Years", "holderOf", "(II)I"⟩ ∈ TB := mem_tb 624 (by decide +kernel) (by decide +kernel)
theorem lk_tl_176 : Cond.fieldLink "TuneLoans" 176 "TuneLoans$Loan" "more" "I" ∈ TB := mem_tb 182 (by decide +kernel) (by decide +kernel)
theorem lk_tl_179 : Cond.fieldLink "TuneLoans" 179 "TuneLoans$Loan" "counts" "Z" ∈ TB := mem_tb 178 (by decide +kernel) (by decide +kernel)
theorem lk_tl_183 : Cond.fieldLink "TuneLoans" 183 "TuneLoans$Loan" "bad" "Z" ∈ TB := mem_tb 180 (by decide +kernel) (by decide +kernel)
theorem lk_tl_186 : Cond.methodLink "TuneLoans" 186 ⟨"TuneLoans", "interestBy", "(II)I"⟩ ∈ TB := mem_tb 636 (by decide +kernel) (by decide +kernel)
theorem lk_tl_189 : Cond.methodLink "TuneLoans" 189 ⟨"TuneLoans$Years", "allAtBank", "(LTuneLoans$Book;I)Z"⟩ ∈ TB := mem_tb 648 (by decide +kernel) (by decide +kernel)
theorem lk_tl_193 : Cond.methodLink "TuneLoans" 193 ⟨"TuneLoans$Turns", "begin", "(LTuneLoans$Tune;)V"⟩ ∈ TB := mem_tb 657 (by decide +kernel) (by decide +kernel)
theorem lk_tl_197 : Cond.methodLink "TuneLoans" 197 ⟨"TuneLoans$Turns", "rowsOf", "(LTuneLoans$Book;I)I"⟩ ∈ TB := mem_tb 662 (by decide +kernel) (by decide +kernel)
theorem lk_tl_201 : Cond.methodLink "TuneLoans" 201 ⟨"TuneLoans$Turns", "after", "(LTuneLoans$Book;II)LTuneLoans$Tune;"⟩ ∈ TB := mem_tb 666 (by decide +kernel) (by decide +kernel)
theorem lk_tl_205 : Cond.methodLink "TuneLoans" 205 ⟨"TuneLoans$Tune", "bits", "()I"⟩ ∈ TB := mem_tb 676 (by decide +kernel) (by decide +kernel)
theorem lk_tl_209 : Cond.methodLink "TuneLoans" 209 ⟨"TuneLoans$Turns", "turnOf", "(LTuneLoans$Book;III)I"⟩ ∈ TB := mem_tb 680 (by decide +kernel) (by decide +kernel)
theorem lk_tl_213 : Cond.methodLink "TuneLoans" 213 ⟨"TuneLoans$Tune", "isLike", "(LTuneLoans$Tune;)Z"⟩ ∈ TB := mem_tb 689 (by decide +kernel) (by decide +kernel)
theorem lk_tl_217 : Cond.methodLink "TuneLoans" 217 ⟨"TuneLoans$Turns", "figures", "(LTuneLoans$Book;II)I"⟩ ∈ TB := mem_tb 693 (by decide +kernel) (by decide +kernel)
theorem lk_tl_221 : Cond.methodLink "TuneLoans" 221 ⟨"TuneLoans$Likeness", "of", "(LTuneLoans$Tune;LTuneLoans$Tune;)I"⟩ ∈ TB := mem_tb 701 (by decide +kernel) (by decide +kernel)
theorem lk_tl_225 : Cond.fieldLink "TuneLoans" 225 "TuneLoans$Book" "tuneCount" "I" ∈ TB := mem_tb 215 (by decide +kernel) (by decide +kernel)
theorem lk_tl_228 : Cond.methodLink "TuneLoans" 228 ⟨"TuneLoans", "far", "(II)I"⟩ ∈ TB := mem_tb 710 (by decide +kernel) (by decide +kernel)
theorem lk_tl_231 : Cond.methodLink "TuneLoans" 231 ⟨"java/lang/Integer", "bitCount", "(I)I"⟩ ∈ TB := mem_tb 719 (by decide +kernel) (by decide +kernel)
theorem lk_tl_236 : Cond.methodLink "TuneLoans" 236 ⟨"TuneLoans", "tellFromAll", "(II)Z"⟩ ∈ TB := mem_tb 725 (by decide +kernel) (by decide +kernel)
theorem lk_tl_240 : Cond.constantLong "TuneLoans" 240 (Int64.ofInt (-9223372036854775806)) ∈ TB := mem_tb 744 (by decide +kernel) (by decide +kernel)
theorem lk_tl_242 : Cond.methodLink "TuneLoans" 242 ⟨"TuneLoans$Chance", "weigh", "(II)V"⟩ ∈ TB := mem_tb 745 (by decide +kernel) (by decide +kernel)
theorem lk_tl_246 : Cond.methodLink "TuneLoans" 246 ⟨"TuneLoans$Chance", "weightOf", "(LTuneLoans$Tune;LTuneLoans$Borrower;II)J"⟩ ∈ TB := mem_tb 749 (by decide +kernel) (by decide +kernel)
theorem lk_tl_250 : Cond.constantLong "TuneLoans" 250 (Int64.ofInt (2)) ∈ TB := mem_tb 759 (by decide +kernel) (by decide +kernel)
theorem lk_tl_252 : Cond.methodLink "TuneLoans" 252 ⟨"TuneLoans$Chance", "fairSize", "(LTuneLoans$Book;III)I"⟩ ∈ TB := mem_tb 764 (by decide +kernel) (by decide +kernel)
theorem lk_tl_255 : Cond.methodLink "TuneLoans" 255 ⟨"TuneLoans", "isForm", "(I)Z"⟩ ∈ TB := mem_tb 777 (by decide +kernel) (by decide +kernel)
theorem lk_tl_258 : Cond.methodLink "TuneLoans" 258 ⟨"TuneLoans$Sheet", "begin", "(II)V"⟩ ∈ TB := mem_tb 780 (by decide +kernel) (by decide +kernel)
theorem lk_tl_260 : Cond.fieldLink "TuneLoans" 260 "TuneLoans$Sheet" "form" "I" ∈ TB := mem_tb 332 (by decide +kernel) (by decide +kernel)
theorem lk_tl_263 : Cond.methodLink "TuneLoans" 263 ⟨"TuneLoans", "refusalOfItem", "(III)I"⟩ ∈ TB := mem_tb 792 (by decide +kernel) (by decide +kernel)
theorem lk_tl_266 : Cond.methodLink "TuneLoans" 266 ⟨"TuneLoans$Sheet", "put", "(II)V"⟩ ∈ TB := mem_tb 796 (by decide +kernel) (by decide +kernel)
theorem lk_tl_269 : Cond.constant "TuneLoans" 269 (Int32.ofInt (-2147483648)) ∈ TB := mem_tb 804 (by decide +kernel) (by decide +kernel)
theorem lk_tl_270 : Cond.methodLink "TuneLoans" 270 ⟨"TuneLoans$Sheet", "hasSpan", "(II)Z"⟩ ∈ TB := mem_tb 809 (by decide +kernel) (by decide +kernel)
theorem lk_tl_273 : Cond.methodLink "TuneLoans" 273 arraycopyName ∈ TB := mem_tb 813 (by decide +kernel) (by decide +kernel)
theorem lk_tl_279 : Cond.methodLink "TuneLoans" 279 ⟨"java/lang/Math", "min", "(II)I"⟩ ∈ TB := mem_tb 818 (by decide +kernel) (by decide +kernel)
theorem lk_tl_284 : Cond.fieldLink "TuneLoans" 284 "TuneLoans$Book" "borrowerCount" "I" ∈ TB := mem_tb 220 (by decide +kernel) (by decide +kernel)
theorem lk_tl_287 : Cond.methodLink "TuneLoans" 287 ⟨"TuneLoans$Book", "countingLoans", "()I"⟩ ∈ TB := mem_tb 823 (by decide +kernel) (by decide +kernel)
theorem lk_tl_290 : Cond.methodLink "TuneLoans" 290 ⟨"TuneLoans$Book", "toldNotes", "()I"⟩ ∈ TB := mem_tb 640 (by decide +kernel) (by decide +kernel)
theorem lk_tl_293 : Cond.fieldLink "TuneLoans" 293 "TuneLoans" "finding" "I" ∈ TB := mem_tb 349 (by decide +kernel) (by decide +kernel)
theorem lk_tl_296 : Cond.constantLong "TuneLoans" 296 (Int64.ofInt (17)) ∈ TB := mem_tb 831 (by decide +kernel) (by decide +kernel)
theorem lk_tl_298 : Cond.constantLong "TuneLoans" 298 (Int64.ofInt (31)) ∈ TB := mem_tb 832 (by decide +kernel) (by decide +kernel)
theorem lk_tl_300 : Cond.methodLink "TuneLoans" 300 ⟨"TuneLoans", "count", "(I)I"⟩ ∈ TB := mem_tb 833 (by decide +kernel) (by decide +kernel)
theorem lk_tl_303 : Cond.methodLink "TuneLoans" 303 ⟨"TuneLoans", "fault", "(I)I"⟩ ∈ TB := mem_tb 834 (by decide +kernel) (by decide +kernel)
theorem lk_tl_306 : Cond.methodLink "TuneLoans" 306 ⟨"TuneLoans", "digestAlone", "(JI)J"⟩ ∈ TB := mem_tb 835 (by decide +kernel) (by decide +kernel)
theorem lk_tl_310 : Cond.methodLink "TuneLoans" 310 ⟨"TuneLoans", "digestTogether", "(JI)J"⟩ ∈ TB := mem_tb 844 (by decide +kernel) (by decide +kernel)
theorem lk_tl_313 : Cond.methodLink "TuneLoans" 313 ⟨"TuneLoans", "borrower", "(II)I"⟩ ∈ TB := mem_tb 854 (by decide +kernel) (by decide +kernel)
theorem lk_tl_315 : Cond.methodLink "TuneLoans" 315 ⟨"TuneLoans", "came", "(II)I"⟩ ∈ TB := mem_tb 855 (by decide +kernel) (by decide +kernel)
theorem lk_tl_318 : Cond.methodLink "TuneLoans" 318 ⟨"TuneLoans", "interest", "(I)I"⟩ ∈ TB := mem_tb 856 (by decide +kernel) (by decide +kernel)
theorem lk_tl_321 : Cond.methodLink "TuneLoans" 321 ⟨"TuneLoans", "home", "(I)I"⟩ ∈ TB := mem_tb 857 (by decide +kernel) (by decide +kernel)
theorem lk_tl_324 : Cond.methodLink "TuneLoans" 324 ⟨"TuneLoans", "loses", "(I)I"⟩ ∈ TB := mem_tb 858 (by decide +kernel) (by decide +kernel)
theorem lk_tl_327 : Cond.methodLink "TuneLoans" 327 ⟨"TuneLoans", "best", "(I)I"⟩ ∈ TB := mem_tb 859 (by decide +kernel) (by decide +kernel)
theorem lk_tl_330 : Cond.methodLink "TuneLoans" 330 ⟨"TuneLoans", "tune", "(II)I"⟩ ∈ TB := mem_tb 839 (by decide +kernel) (by decide +kernel)
theorem lk_tl_332 : Cond.methodLink "TuneLoans" 332 ⟨"TuneLoans", "notes", "(III)I"⟩ ∈ TB := mem_tb 840 (by decide +kernel) (by decide +kernel)
theorem lk_tl_335 : Cond.methodLink "TuneLoans" 335 ⟨"TuneLoans", "has", "(II)I"⟩ ∈ TB := mem_tb 841 (by decide +kernel) (by decide +kernel)
theorem lk_tl_338 : Cond.methodLink "TuneLoans" 338 ⟨"TuneLoans", "lend", "(III)I"⟩ ∈ TB := mem_tb 842 (by decide +kernel) (by decide +kernel)
theorem lk_tl_341 : Cond.methodLink "TuneLoans" 341 ⟨"TuneLoans", "longest", "(III)I"⟩ ∈ TB := mem_tb 843 (by decide +kernel) (by decide +kernel)
theorem lk_tl_344 : Cond.methodLink "TuneLoans" 344 ⟨"TuneLoans", "who", "(III)I"⟩ ∈ TB := mem_tb 848 (by decide +kernel) (by decide +kernel)
theorem lk_tl_347 : Cond.methodLink "TuneLoans" 347 ⟨"TuneLoans", "nearest", "(I)I"⟩ ∈ TB := mem_tb 849 (by decide +kernel) (by decide +kernel)
theorem lk_tl_350 : Cond.methodLink "TuneLoans" 350 ⟨"TuneLoans", "mothers", "(I)I"⟩ ∈ TB := mem_tb 850 (by decide +kernel) (by decide +kernel)
theorem lk_tl_353 : Cond.methodLink "TuneLoans" 353 ⟨"TuneLoans", "tells", "(II)I"⟩ ∈ TB := mem_tb 851 (by decide +kernel) (by decide +kernel)
theorem lk_tl_356 : Cond.methodLink "TuneLoans" 356 ⟨"TuneLoans", "fair", "(III)I"⟩ ∈ TB := mem_tb 852 (by decide +kernel) (by decide +kernel)
theorem lk_tl_359 : Cond.methodLink "TuneLoans" 359 ⟨"TuneLoans", "hums", "(IIIIII)J"⟩ ∈ TB := mem_tb 853 (by decide +kernel) (by decide +kernel)
theorem lk_tl_363 : Cond.methodLink "TuneLoans" 363 ⟨"TuneLoans$Book", "readTunes", "()V"⟩ ∈ TB := mem_tb 381 (by decide +kernel) (by decide +kernel)
theorem lk_tl_366 : Cond.methodLink "TuneLoans" 366 ⟨"TuneLoans$Book", "readBorrowers", "()V"⟩ ∈ TB := mem_tb 394 (by decide +kernel) (by decide +kernel)
theorem lk_tl_369 : Cond.methodLink "TuneLoans" 369 ⟨"TuneLoans", "tellFrom", "(LTuneLoans$Tune;LTuneLoans$Tune;I)Z"⟩ ∈ TB := mem_tb 729 (by decide +kernel) (by decide +kernel)
theorem lk_bk_11 : Cond.fieldLink "TuneLoans$Book" 11 "TuneLoans$Book" "texts" "[LTuneLoans$Text;" ∈ TB := mem_tb 198 (by decide +kernel) (by decide +kernel)
theorem lk_bk_19 : Cond.fieldLink "TuneLoans$Book" 19 "TuneLoans$Book" "tunes" "[LTuneLoans$Tune;" ∈ TB := mem_tb 200 (by decide +kernel) (by decide +kernel)
theorem lk_bk_31 : Cond.fieldLink "TuneLoans$Book" 31 "TuneLoans$Book" "loans" "[LTuneLoans$Loan;" ∈ TB := mem_tb 209 (by decide +kernel) (by decide +kernel)
theorem lk_bk_41 : Cond.fieldLink "TuneLoans$Book" 41 "TuneLoans$Tune" "size" "I" ∈ TB := mem_tb 132 (by decide +kernel) (by decide +kernel)
theorem lk_bk_45 : Cond.fieldLink "TuneLoans$Book" 45 "TuneLoans$Text" "size" "I" ∈ TB := mem_tb 111 (by decide +kernel) (by decide +kernel)
theorem lk_bk_46 : Cond.methodLink "TuneLoans$Book" 46 ⟨"TuneLoans$Text", "noteAt", "(I)I"⟩ ∈ TB := mem_tb 385 (by decide +kernel) (by decide +kernel)
theorem lk_bk_50 : Cond.methodLink "TuneLoans$Book" 50 ⟨"TuneLoans$Tune", "add", "(I)V"⟩ ∈ TB := mem_tb 390 (by decide +kernel) (by decide +kernel)
theorem lk_bk_53 : Cond.fieldLink "TuneLoans$Book" 53 "TuneLoans$Text" "bytes" "[I" ∈ TB := mem_tb 109 (by decide +kernel) (by decide +kernel)
theorem lk_bk_57 : Cond.fieldLink "TuneLoans$Book" 57 "TuneLoans$Text" "faultAt" "I" ∈ TB := mem_tb 113 (by decide +kernel) (by decide +kernel)
theorem lk_bk_60 : Cond.fieldLink "TuneLoans$Book" 60 "TuneLoans$Book" "tuneCount" "I" ∈ TB := mem_tb 212 (by decide +kernel) (by decide +kernel)
theorem lk_bk_63 : Cond.methodLink "TuneLoans$Book" 63 ⟨"TuneLoans$Book", "goesOn", "(LTuneLoans$Text;I)Z"⟩ ∈ TB := mem_tb 398 (by decide +kernel) (by decide +kernel)
theorem lk_bk_67 : Cond.fieldLink "TuneLoans$Book" 67 "TuneLoans$Book" "borrowerCount" "I" ∈ TB := mem_tb 217 (by decide +kernel) (by decide +kernel)
theorem lk_bk_86 : Cond.fieldLink "TuneLoans$Book" 86 "TuneLoans$Book" "loanCount" "I" ∈ TB := mem_tb 221 (by decide +kernel) (by decide +kernel)
theorem lk_bk_89 : Cond.fieldLink "TuneLoans$Book" 89 "TuneLoans$Loan" "counts" "Z" ∈ TB := mem_tb 176 (by decide +kernel) (by decide +kernel)
theorem lk_ch_12 : Cond.fieldLink "TuneLoans$Chance" 12 "TuneLoans$Chance" "now" "LTuneLoans$Tune;" ∈ TB := mem_tb 309 (by decide +kernel) (by decide +kernel)
theorem lk_ch_18 : Cond.fieldLink "TuneLoans$Chance" 18 "TuneLoans$Chance" "spare" "LTuneLoans$Tune;" ∈ TB := mem_tb 310 (by decide +kernel) (by decide +kernel)
theorem lk_ch_21 : Cond.fieldLink "TuneLoans$Chance" 21 "TuneLoans$Chance" "weights" "[J" ∈ TB := mem_tb 311 (by decide +kernel) (by decide +kernel)
theorem lk_ch_25 : Cond.methodLink "TuneLoans$Chance" 25 ⟨"TuneLoans$Tune", "become", "(LTuneLoans$Tune;)V"⟩ ∈ TB := mem_tb 753 (by decide +kernel) (by decide +kernel)
theorem lk_ch_29 : Cond.fieldLink "TuneLoans$Chance" 29 "TuneLoans$Tune" "size" "I" ∈ TB := mem_tb 134 (by decide +kernel) (by decide +kernel)
theorem lk_ch_33 : Cond.methodLink "TuneLoans$Chance" 33 ⟨"TuneLoans$Chance", "hum", "(LTuneLoans$Borrower;)V"⟩ ∈ TB := mem_tb 754 (by decide +kernel) (by decide +kernel)
theorem lk_ch_37 : Cond.fieldLink "TuneLoans$Chance" 37 "TuneLoans$Chance" "seed" "I" ∈ TB := mem_tb 312 (by decide +kernel) (by decide +kernel)
theorem lk_ch_40 : Cond.fieldLink "TuneLoans$Chance" 40 "TuneLoans$Book" "tunes" "[LTuneLoans$Tune;" ∈ TB := mem_tb 201 (by decide +kernel) (by decide +kernel)
theorem lk_ch_46 : Cond.fieldLink "TuneLoans$Chance" 46 "TuneLoans$Book" "borrowerCount" "I" ∈ TB := mem_tb 218 (by decide +kernel) (by decide +kernel)
theorem lk_ch_49 : Cond.fieldLink "TuneLoans$Chance" 49 "TuneLoans$Book" "tuneCount" "I" ∈ TB := mem_tb 213 (by decide +kernel) (by decide +kernel)
theorem lk_ch_52 : Cond.methodLink "TuneLoans$Chance" 52 ⟨"TuneLoans$Chance", "lot", "(I)I"⟩ ∈ TB := mem_tb 768 (by decide +kernel) (by decide +kernel)
theorem lk_ch_56 : Cond.fieldLink "TuneLoans$Chance" 56 "TuneLoans$Book" "borrowers" "[LTuneLoans$Borrower;" ∈ TB := mem_tb 205 (by decide +kernel) (by decide +kernel)
theorem lk_ch_60 : Cond.constant "TuneLoans$Chance" 60 (Int32.ofInt (1103515245)) ∈ TB := mem_tb 772 (by decide +kernel) (by decide +kernel)
theorem lk_ch_61 : Cond.methodLink "TuneLoans$Chance" 61 ⟨"TuneLoans$Tune", "becomeHummed", "(LTuneLoans$Tune;LTuneLoans$Borrower;)V"⟩ ∈ TB := mem_tb 758 (by decide +kernel) (by decide +kernel)
theorem lk_li_9 : Cond.fieldLink "TuneLoans$Likeness" 9 "TuneLoans$Likeness" "places" "[J" ∈ TB := mem_tb 296 (by decide +kernel) (by decide +kernel)
theorem lk_li_15 : Cond.fieldLink "TuneLoans$Likeness" 15 "TuneLoans$Tune" "size" "I" ∈ TB := mem_tb 133 (by decide +kernel) (by decide +kernel)
theorem lk_li_21 : Cond.fieldLink "TuneLoans$Likeness" 21 "TuneLoans$Tune" "notes" "[I" ∈ TB := mem_tb 129 (by decide +kernel) (by decide +kernel)
theorem lk_li_25 : Cond.constantLong "TuneLoans$Likeness" 25 (Int64.ofInt (-1)) ∈ TB := mem_tb 600 (by decide +kernel) (by decide +kernel)
theorem lk_li_27 : Cond.methodLink "TuneLoans$Likeness" 27 ⟨"java/lang/Long", "bitCount", "(J)I"⟩ ∈ TB := mem_tb 601 (by decide +kernel) (by decide +kernel)
theorem lk_sh_9 : Cond.fieldLink "TuneLoans$Sheet" 9 "TuneLoans$Sheet" "items" "[I" ∈ TB := mem_tb 329 (by decide +kernel) (by decide +kernel)
theorem lk_sh_15 : Cond.fieldLink "TuneLoans$Sheet" 15 "TuneLoans$Sheet" "form" "I" ∈ TB := mem_tb 331 (by decide +kernel) (by decide +kernel)
theorem lk_sh_19 : Cond.fieldLink "TuneLoans$Sheet" 19 "TuneLoans$Sheet" "size" "I" ∈ TB := mem_tb 333 (by decide +kernel) (by decide +kernel)
theorem lk_tx_15 : Cond.fieldLink "TuneLoans$Text" 15 "TuneLoans$Text" "bytes" "[I" ∈ TB := mem_tb 107 (by decide +kernel) (by decide +kernel)
theorem lk_tx_19 : ("TuneLoans$Text", 19, (⟨"TuneLoans", "within", "(III)Z"⟩ : MethodName), "TuneLoans") ∈ NWL := by decide +kernel
theorem lk_tu_9 : Cond.fieldLink "TuneLoans$Tune" 9 "TuneLoans$Tune" "notes" "[I" ∈ TB := mem_tb 128 (by decide +kernel) (by decide +kernel)
theorem lk_tu_15 : Cond.fieldLink "TuneLoans$Tune" 15 "TuneLoans$Tune" "size" "I" ∈ TB := mem_tb 131 (by decide +kernel) (by decide +kernel)
theorem lk_tu_19 : Cond.methodLink "TuneLoans$Tune" 19 arraycopyName ∈ TB := mem_tb 576 (by decide +kernel) (by decide +kernel)
theorem lk_tu_25 : Cond.fieldLink "TuneLoans$Tune" 25 "TuneLoans$Borrower" "x" "I" ∈ TB := mem_tb 148 (by decide +kernel) (by decide +kernel)
theorem lk_tu_30 : Cond.fieldLink "TuneLoans$Tune" 30 "TuneLoans$Borrower" "how" "I" ∈ TB := mem_tb 151 (by decide +kernel) (by decide +kernel)
theorem lk_tu_33 : Cond.methodLink "TuneLoans$Tune" 33 ⟨"TuneLoans$Tune", "add", "(I)V"⟩ ∈ TB := mem_tb 591 (by decide +kernel) (by decide +kernel)
theorem lk_tu_37 : Cond.fieldLink "TuneLoans$Tune" 37 "TuneLoans$Borrower" "y" "I" ∈ TB := mem_tb 154 (by decide +kernel) (by decide +kernel)
theorem lk_tr_11 : Cond.fieldLink "TuneLoans$Turns" 11 "TuneLoans$Turns" "hummed" "[LTuneLoans$Tune;" ∈ TB := mem_tb 280 (by decide +kernel) (by decide +kernel)
theorem lk_tr_22 : Cond.methodLink "TuneLoans$Turns" 22 ⟨"TuneLoans$Tune", "become", "(LTuneLoans$Tune;)V"⟩ ∈ TB := mem_tb 661 (by decide +kernel) (by decide +kernel)
theorem lk_tr_26 : Cond.fieldLink "TuneLoans$Turns" 26 "TuneLoans$Turns" "known" "I" ∈ TB := mem_tb 282 (by decide +kernel) (by decide +kernel)
theorem lk_tr_30 : Cond.fieldLink "TuneLoans$Turns" 30 "TuneLoans$Book" "borrowerCount" "I" ∈ TB := mem_tb 216 (by decide +kernel) (by decide +kernel)
theorem lk_tr_35 : Cond.methodLink "TuneLoans$Turns" 35 ⟨"TuneLoans$Turns", "rowsOf", "(LTuneLoans$Book;I)I"⟩ ∈ TB := mem_tb 674 (by decide +kernel) (by decide +kernel)
theorem lk_tr_39 : Cond.methodLink "TuneLoans$Turns" 39 ⟨"TuneLoans$Turns", "turnOf", "(LTuneLoans$Book;III)I"⟩ ∈ TB := mem_tb 670 (by decide +kernel) (by decide +kernel)
theorem lk_ye_11 : Cond.fieldLink "TuneLoans$Years" 11 "TuneLoans$Years" "now" "[LTuneLoans$Tune;" ∈ TB := mem_tb 247 (by decide +kernel) (by decide +kernel)
theorem lk_ye_17 : Cond.fieldLink "TuneLoans$Years" 17 "TuneLoans$Years" "lent" "[LTuneLoans$Tune;" ∈ TB := mem_tb 248 (by decide +kernel) (by decide +kernel)
theorem lk_ye_20 : Cond.fieldLink "TuneLoans$Years" 20 "TuneLoans$Years" "loanOf" "[I" ∈ TB := mem_tb 249 (by decide +kernel) (by decide +kernel)
theorem lk_ye_25 : Cond.fieldLink "TuneLoans$Years" 25 "TuneLoans$Years" "spare" "LTuneLoans$Tune;" ∈ TB := mem_tb 250 (by decide +kernel) (by decide +kernel)
theorem lk_ye_29 : Cond.fieldLink "TuneLoans$Years" 29 "TuneLoans$Years" "keptNotes" "[I" ∈ TB := mem_tb 251 (by decide +kernel) (by decide +kernel)
theorem lk_ye_32 : Cond.fieldLink "TuneLoans$Years" 32 "TuneLoans$Years" "keptSizes" "[I" ∈ TB := mem_tb 252 (by decide +kernel) (by decide +kernel)
theorem lk_ye_35 : Cond.fieldLink "TuneLoans$Years" 35 "TuneLoans$Years" "keptHolders" "[I" ∈ TB := mem_tb 253 (by decide +kernel) (by decide +kernel)
theorem lk_ye_38 : Cond.fieldLink "TuneLoans$Years" 38 "TuneLoans$Years" "livedEar" "I" ∈ TB := mem_tb 254 (by decide +kernel) (by decide +kernel)
theorem lk_ye_42 : Cond.methodLink "TuneLoans$Years" 42 ⟨"TuneLoans$Years", "begin", "(LTuneLoans$Book;)V"⟩ ∈ TB := mem_tb 568 (by decide +kernel) (by decide +kernel)
theorem lk_ye_46 : Cond.methodLink "TuneLoans$Years" 46 ⟨"TuneLoans$Years", "lendOut", "(LTuneLoans$Book;I)V"⟩ ∈ TB := mem_tb 579 (by decide +kernel) (by decide +kernel)
theorem lk_ye_50 : Cond.methodLink "TuneLoans$Years" 50 ⟨"TuneLoans$Years", "humLent", "(LTuneLoans$Book;)V"⟩ ∈ TB := mem_tb 583 (by decide +kernel) (by decide +kernel)
theorem lk_ye_53 : Cond.methodLink "TuneLoans$Years" 53 ⟨"TuneLoans$Years", "comeBack", "(LTuneLoans$Book;IILTuneLoans$Likeness;)V"⟩ ∈ TB := mem_tb 592 (by decide +kernel) (by decide +kernel)
theorem lk_ye_57 : Cond.methodLink "TuneLoans$Years" 57 ⟨"TuneLoans$Years", "keep", "(LTuneLoans$Book;I)V"⟩ ∈ TB := mem_tb 607 (by decide +kernel) (by decide +kernel)
theorem lk_ye_60 : Cond.fieldLink "TuneLoans$Years" 60 "TuneLoans$Book" "tuneCount" "I" ∈ TB := mem_tb 214 (by decide +kernel) (by decide +kernel)
theorem lk_ye_65 : Cond.methodLink "TuneLoans$Years" 65 ⟨"TuneLoans$Years", "holderOf", "(II)I"⟩ ∈ TB := mem_tb 652 (by decide +kernel) (by decide +kernel)
theorem lk_ye_69 : Cond.fieldLink "TuneLoans$Years" 69 "TuneLoans$Book" "tunes" "[LTuneLoans$Tune;" ∈ TB := mem_tb 203 (by decide +kernel) (by decide +kernel)
theorem lk_ye_72 : Cond.methodLink "TuneLoans$Years" 72 ⟨"TuneLoans$Tune", "become", "(LTuneLoans$Tune;)V"⟩ ∈ TB := mem_tb 572 (by decide +kernel) (by decide +kernel)
theorem lk_ye_76 : Cond.fieldLink "TuneLoans$Years" 76 "TuneLoans$Book" "loanCount" "I" ∈ TB := mem_tb 222 (by decide +kernel) (by decide +kernel)
theorem lk_ye_79 : Cond.fieldLink "TuneLoans$Years" 79 "TuneLoans$Book" "loans" "[LTuneLoans$Loan;" ∈ TB := mem_tb 210 (by decide +kernel) (by decide +kernel)
theorem lk_ye_83 : Cond.fieldLink "TuneLoans$Years" 83 "TuneLoans$Loan" "counts" "Z" ∈ TB := mem_tb 177 (by decide +kernel) (by decide +kernel)
theorem lk_ye_89 : Cond.fieldLink "TuneLoans$Years" 89 "TuneLoans$Loan" "bad" "Z" ∈ TB := mem_tb 179 (by decide +kernel) (by decide +kernel)
theorem lk_ye_92 : Cond.fieldLink "TuneLoans$Years" 92 "TuneLoans$Loan" "more" "I" ∈ TB := mem_tb 181 (by decide +kernel) (by decide +kernel)
theorem lk_ye_95 : Cond.fieldLink "TuneLoans$Years" 95 "TuneLoans$Loan" "tune" "I" ∈ TB := mem_tb 171 (by decide +kernel) (by decide +kernel)
theorem lk_ye_98 : Cond.fieldLink "TuneLoans$Years" 98 "TuneLoans$Loan" "borrower" "I" ∈ TB := mem_tb 173 (by decide +kernel) (by decide +kernel)
theorem lk_ye_101 : Cond.fieldLink "TuneLoans$Years" 101 "TuneLoans$Book" "borrowerCount" "I" ∈ TB := mem_tb 219 (by decide +kernel) (by decide +kernel)
theorem lk_ye_104 : Cond.fieldLink "TuneLoans$Years" 104 "TuneLoans$Loan" "year" "I" ∈ TB := mem_tb 169 (by decide +kernel) (by decide +kernel)
theorem lk_ye_107 : Cond.fieldLink "TuneLoans$Years" 107 "TuneLoans$Book" "borrowers" "[LTuneLoans$Borrower;" ∈ TB := mem_tb 208 (by decide +kernel) (by decide +kernel)
theorem lk_ye_111 : Cond.methodLink "TuneLoans$Years" 111 ⟨"TuneLoans$Tune", "becomeHummed", "(LTuneLoans$Tune;LTuneLoans$Borrower;)V"⟩ ∈ TB := mem_tb 587 (by decide +kernel) (by decide +kernel)
theorem lk_ye_115 : Cond.fieldLink "TuneLoans$Years" 115 "TuneLoans$Loan" "years" "I" ∈ TB := mem_tb 175 (by decide +kernel) (by decide +kernel)
theorem lk_ye_118 : Cond.fieldLink "TuneLoans$Years" 118 "TuneLoans$Tune" "size" "I" ∈ TB := mem_tb 136 (by decide +kernel) (by decide +kernel)
theorem lk_ye_121 : Cond.methodLink "TuneLoans$Years" 121 ⟨"TuneLoans$Likeness", "of", "(LTuneLoans$Tune;LTuneLoans$Tune;)I"⟩ ∈ TB := mem_tb 596 (by decide +kernel) (by decide +kernel)
theorem lk_ye_127 : Cond.fieldLink "TuneLoans$Years" 127 "TuneLoans$Tune" "notes" "[I" ∈ TB := mem_tb 130 (by decide +kernel) (by decide +kernel)
theorem lk_ye_130 : Cond.methodLink "TuneLoans$Years" 130 arraycopyName ∈ TB := mem_tb 611 (by decide +kernel) (by decide +kernel)
theorem lk_mo_7 : Cond.fieldLink "TuneLoansModel" 7 "TuneLoansModel" "forms" "[I" ∈ TB := mem_tb 866 (by decide +kernel) (by decide +kernel)
theorem lk_mo_13 : Cond.fieldLink "TuneLoansModel" 13 "TuneLoansModel" "sizes" "[I" ∈ TB := mem_tb 867 (by decide +kernel) (by decide +kernel)
theorem lk_mo_16 : Cond.fieldLink "TuneLoansModel" 16 "TuneLoansModel" "items" "[I" ∈ TB := mem_tb 868 (by decide +kernel) (by decide +kernel)
theorem lk_mo_19 : Cond.fieldLink "TuneLoansModel" 19 "TuneLoansModel" "moved" "[I" ∈ TB := mem_tb 869 (by decide +kernel) (by decide +kernel)
theorem lk_mo_22 : Cond.fieldLink "TuneLoansModel" 22 "TuneLoansModel" "bytes" "[I" ∈ TB := mem_tb 871 (by decide +kernel) (by decide +kernel)
theorem lk_mo_25 : Cond.fieldLink "TuneLoansModel" 25 "TuneLoansModel" "typed" "[I" ∈ TB := mem_tb 872 (by decide +kernel) (by decide +kernel)
theorem lk_mo_28 : Cond.fieldLink "TuneLoansModel" 28 "TuneLoansModel" "told" "[I" ∈ TB := mem_tb 874 (by decide +kernel) (by decide +kernel)
theorem lk_mo_31 : Cond.fieldLink "TuneLoansModel" 31 "TuneLoansModel" "toldLong" "[I" ∈ TB := mem_tb 875 (by decide +kernel) (by decide +kernel)
theorem lk_mo_34 : Cond.fieldLink "TuneLoansModel" 34 "TuneLoansModel" "hummer" "[I" ∈ TB := mem_tb 877 (by decide +kernel) (by decide +kernel)
theorem lk_mo_37 : Cond.fieldLink "TuneLoansModel" 37 "TuneLoansModel" "loan" "[I" ∈ TB := mem_tb 879 (by decide +kernel) (by decide +kernel)
theorem lk_mo_40 : Cond.fieldLink "TuneLoansModel" 40 "TuneLoansModel" "now" "[I" ∈ TB := mem_tb 881 (by decide +kernel) (by decide +kernel)
theorem lk_mo_43 : Cond.fieldLink "TuneLoansModel" 43 "TuneLoansModel" "nowLong" "[I" ∈ TB := mem_tb 882 (by decide +kernel) (by decide +kernel)
theorem lk_mo_46 : Cond.fieldLink "TuneLoansModel" 46 "TuneLoansModel" "lent" "[I" ∈ TB := mem_tb 883 (by decide +kernel) (by decide +kernel)
theorem lk_mo_49 : Cond.fieldLink "TuneLoansModel" 49 "TuneLoansModel" "lentLong" "[I" ∈ TB := mem_tb 884 (by decide +kernel) (by decide +kernel)
theorem lk_mo_52 : Cond.fieldLink "TuneLoansModel" 52 "TuneLoansModel" "holder" "[I" ∈ TB := mem_tb 885 (by decide +kernel) (by decide +kernel)
theorem lk_mo_55 : Cond.fieldLink "TuneLoansModel" 55 "TuneLoansModel" "heldBy" "[I" ∈ TB := mem_tb 886 (by decide +kernel) (by decide +kernel)
theorem lk_mo_58 : Cond.fieldLink "TuneLoansModel" 58 "TuneLoansModel" "counts" "[I" ∈ TB := mem_tb 887 (by decide +kernel) (by decide +kernel)
theorem lk_mo_61 : Cond.fieldLink "TuneLoansModel" 61 "TuneLoansModel" "bads" "[I" ∈ TB := mem_tb 888 (by decide +kernel) (by decide +kernel)
theorem lk_mo_64 : Cond.fieldLink "TuneLoansModel" 64 "TuneLoansModel" "mores" "[I" ∈ TB := mem_tb 889 (by decide +kernel) (by decide +kernel)
theorem lk_mo_67 : Cond.fieldLink "TuneLoansModel" 67 "TuneLoansModel" "changed" "[I" ∈ TB := mem_tb 890 (by decide +kernel) (by decide +kernel)
theorem lk_mo_70 : Cond.fieldLink "TuneLoansModel" 70 "TuneLoansModel" "row" "[I" ∈ TB := mem_tb 891 (by decide +kernel) (by decide +kernel)
theorem lk_mo_73 : Cond.fieldLink "TuneLoansModel" 73 "TuneLoansModel" "hears" "I" ∈ TB := mem_tb 880 (by decide +kernel) (by decide +kernel)
theorem lk_mo_77 : Cond.constantLong "TuneLoansModel" 77 (Int64.ofInt (-9223372036854775808)) ∈ TB := mem_tb 1281 (by decide +kernel) (by decide +kernel)
theorem lk_mo_79 : Cond.methodLink "TuneLoansModel" 79 ⟨"TuneLoansModel", "in", "(JJJ)Z"⟩ ∈ TB := mem_tb 953 (by decide +kernel) (by decide +kernel)
theorem lk_mo_83 : Cond.fieldLink "TuneLoansModel" 83 "TuneLoansModel" "latest" "I" ∈ TB := mem_tb 870 (by decide +kernel) (by decide +kernel)
theorem lk_mo_86 : Cond.constantLong "TuneLoansModel" 86 (Int64.ofInt (3)) ∈ TB := mem_tb 952 (by decide +kernel) (by decide +kernel)
theorem lk_mo_88 : Cond.methodLink "TuneLoansModel" 88 ⟨"TuneLoansModel", "isSheet", "(I)Z"⟩ ∈ TB := mem_tb 949 (by decide +kernel) (by decide +kernel)
theorem lk_mo_92 : Cond.constantLong "TuneLoansModel" 92 (Int64.ofInt (2)) ∈ TB := mem_tb 956 (by decide +kernel) (by decide +kernel)
theorem lk_mo_94 : Cond.methodLink "TuneLoansModel" 94 ⟨"TuneLoansModel", "finds", "(I)I"⟩ ∈ TB := mem_tb 957 (by decide +kernel) (by decide +kernel)
theorem lk_mo_98 : Cond.methodLink "TuneLoansModel" 98 ⟨"TuneLoansModel", "lacks", "(III)I"⟩ ∈ TB := mem_tb 969 (by decide +kernel) (by decide +kernel)
theorem lk_mo_102 : Cond.methodLink "TuneLoansModel" 102 ⟨"TuneLoansModel", "cut", "(II)I"⟩ ∈ TB := mem_tb 973 (by decide +kernel) (by decide +kernel)
theorem lk_mo_106 : Cond.constant "TuneLoansModel" 106 (Int32.ofInt (-2147483648)) ∈ TB := mem_tb 980 (by decide +kernel) (by decide +kernel)
theorem lk_mo_107 : Cond.methodLink "TuneLoansModel" 107 ⟨"TuneLoansModel", "isTwo", "(I)Z"⟩ ∈ TB := mem_tb 989 (by decide +kernel) (by decide +kernel)
theorem lk_mo_110 : Cond.constantLong "TuneLoansModel" 110 (Int64.ofInt (255)) ∈ TB := mem_tb 992 (by decide +kernel) (by decide +kernel)
theorem lk_mo_112 : Cond.fieldLink "TuneLoansModel" 112 "TuneLoansModel" "tunes" "I" ∈ TB := mem_tb 873 (by decide +kernel) (by decide +kernel)
theorem lk_mo_115 : Cond.methodLink "TuneLoansModel" 115 ⟨"TuneLoansModel", "tunesFault", "(I)I"⟩ ∈ TB := mem_tb 1009 (by decide +kernel) (by decide +kernel)
theorem lk_mo_118 : Cond.constantLong "TuneLoansModel" 118 (Int64.ofInt (97)) ∈ TB := mem_tb 1013 (by decide +kernel) (by decide +kernel)
theorem lk_mo_120 : Cond.constantLong "TuneLoansModel" 120 (Int64.ofInt (103)) ∈ TB := mem_tb 1014 (by decide +kernel) (by decide +kernel)
theorem lk_mo_122 : Cond.fieldLink "TuneLoansModel" 122 "TuneLoansModel" "borrowers" "I" ∈ TB := mem_tb 876 (by decide +kernel) (by decide +kernel)
theorem lk_mo_125 : Cond.methodLink "TuneLoansModel" 125 ⟨"TuneLoansModel", "howOf", "(I)I"⟩ ∈ TB := mem_tb 1019 (by decide +kernel) (by decide +kernel)
theorem lk_mo_128 : Cond.methodLink "TuneLoansModel" 128 ⟨"TuneLoansModel", "readsTunes", "()I"⟩ ∈ TB := mem_tb 1005 (by decide +kernel) (by decide +kernel)
theorem lk_mo_132 : Cond.methodLink "TuneLoansModel" 132 ⟨"TuneLoansModel", "readsBorrowers", "()I"⟩ ∈ TB := mem_tb 1015 (by decide +kernel) (by decide +kernel)
theorem lk_mo_135 : Cond.constantLong "TuneLoansModel" 135 (Int64.ofInt (39)) ∈ TB := mem_tb 1051 (by decide +kernel) (by decide +kernel)
theorem lk_mo_137 : Cond.methodLink "TuneLoansModel" 137 ⟨"TuneLoansModel", "reads", "()V"⟩ ∈ TB := mem_tb 1026 (by decide +kernel) (by decide +kernel)
theorem lk_mo_140 : Cond.methodLink "TuneLoansModel" 140 ⟨"TuneLoansModel", "isTune", "(I)Z"⟩ ∈ TB := mem_tb 1030 (by decide +kernel) (by decide +kernel)
theorem lk_mo_143 : Cond.constantLong "TuneLoansModel" 143 (Int64.ofInt (-1)) ∈ TB := mem_tb 1034 (by decide +kernel) (by decide +kernel)
theorem lk_mo_145 : Cond.constantLong "TuneLoansModel" 145 (Int64.ofInt (11)) ∈ TB := mem_tb 1035 (by decide +kernel) (by decide +kernel)
theorem lk_mo_147 : Cond.methodLink "TuneLoansModel" 147 ⟨"TuneLoansModel", "isBorrower", "(I)Z"⟩ ∈ TB := mem_tb 1040 (by decide +kernel) (by decide +kernel)
theorem lk_mo_150 : Cond.methodLink "TuneLoansModel" 150 ⟨"TuneLoansModel", "isYear", "(I)Z"⟩ ∈ TB := mem_tb 1048 (by decide +kernel) (by decide +kernel)
theorem lk_mo_153 : Cond.constantLong "TuneLoansModel" 153 (Int64.ofInt (5)) ∈ TB := mem_tb 1052 (by decide +kernel) (by decide +kernel)
theorem lk_mo_155 : Cond.constantLong "TuneLoansModel" 155 (Int64.ofInt (9)) ∈ TB := mem_tb 1053 (by decide +kernel) (by decide +kernel)
theorem lk_mo_157 : Cond.fieldLink "TuneLoansModel" 157 "TuneLoansModel" "loans" "I" ∈ TB := mem_tb 878 (by decide +kernel) (by decide +kernel)
theorem lk_mo_160 : Cond.methodLink "TuneLoansModel" 160 ⟨"TuneLoansModel", "loan", "(IIII)I"⟩ ∈ TB := mem_tb 1062 (by decide +kernel) (by decide +kernel)
theorem lk_mo_163 : Cond.constantLong "TuneLoansModel" 163 (Int64.ofInt (12)) ∈ TB := mem_tb 1067 (by decide +kernel) (by decide +kernel)
theorem lk_mo_165 : Cond.methodLink "TuneLoansModel" 165 ⟨"TuneLoansModel", "lesser", "(II)I"⟩ ∈ TB := mem_tb 1100 (by decide +kernel) (by decide +kernel)
theorem lk_mo_168 : Cond.methodLink "TuneLoansModel" 168 ⟨"TuneLoansModel", "greater", "(II)I"⟩ ∈ TB := mem_tb 1111 (by decide +kernel) (by decide +kernel)
theorem lk_mo_171 : Cond.methodLink "TuneLoansModel" 171 ⟨"TuneLoansModel", "begins", "(II)V"⟩ ∈ TB := mem_tb 1084 (by decide +kernel) (by decide +kernel)
theorem lk_mo_175 : Cond.methodLink "TuneLoansModel" 175 ⟨"TuneLoansModel", "commonOf", "([III[III)I"⟩ ∈ TB := mem_tb 1107 (by decide +kernel) (by decide +kernel)
theorem lk_mo_179 : Cond.methodLink "TuneLoansModel" 179 ⟨"TuneLoansModel", "lends", "(I)V"⟩ ∈ TB := mem_tb 1092 (by decide +kernel) (by decide +kernel)
theorem lk_mo_183 : Cond.methodLink "TuneLoansModel" 183 ⟨"TuneLoansModel", "hummed", "(II)V"⟩ ∈ TB := mem_tb 1096 (by decide +kernel) (by decide +kernel)
theorem lk_mo_186 : Cond.methodLink "TuneLoansModel" 186 ⟨"TuneLoansModel", "returns", "(II)V"⟩ ∈ TB := mem_tb 1103 (by decide +kernel) (by decide +kernel)
theorem lk_mo_189 : Cond.methodLink "TuneLoansModel" 189 ⟨"TuneLoansModel", "startsAll", "()V"⟩ ∈ TB := mem_tb 1080 (by decide +kernel) (by decide +kernel)
theorem lk_mo_192 : Cond.methodLink "TuneLoansModel" 192 ⟨"TuneLoansModel", "goesOn", "(II)V"⟩ ∈ TB := mem_tb 1088 (by decide +kernel) (by decide +kernel)
theorem lk_mo_195 : Cond.methodLink "TuneLoansModel" 195 ⟨"TuneLoansModel", "lives", "(II)V"⟩ ∈ TB := mem_tb 1076 (by decide +kernel) (by decide +kernel)
theorem lk_mo_198 : Cond.methodLink "TuneLoansModel" 198 ⟨"TuneLoansModel", "notesOf", "(III)I"⟩ ∈ TB := mem_tb 1072 (by decide +kernel) (by decide +kernel)
theorem lk_mo_201 : Cond.methodLink "TuneLoansModel" 201 ⟨"TuneLoansModel", "hasOf", "(II)I"⟩ ∈ TB := mem_tb 1118 (by decide +kernel) (by decide +kernel)
theorem lk_mo_204 : Cond.methodLink "TuneLoansModel" 204 ⟨"TuneLoansModel", "cameOf", "(II)I"⟩ ∈ TB := mem_tb 1126 (by decide +kernel) (by decide +kernel)
theorem lk_mo_207 : Cond.methodLink "TuneLoansModel" 207 ⟨"TuneLoansModel", "interestBy", "(II)I"⟩ ∈ TB := mem_tb 1134 (by decide +kernel) (by decide +kernel)
theorem lk_mo_210 : Cond.methodLink "TuneLoansModel" 210 ⟨"TuneLoansModel", "homeOf", "(I)I"⟩ ∈ TB := mem_tb 1142 (by decide +kernel) (by decide +kernel)
theorem lk_mo_213 : Cond.methodLink "TuneLoansModel" 213 ⟨"TuneLoansModel", "figureOf", "(III)I"⟩ ∈ TB := mem_tb 1163 (by decide +kernel) (by decide +kernel)
theorem lk_mo_216 : Cond.methodLink "TuneLoansModel" 216 ⟨"TuneLoansModel", "codes", "(I)I"⟩ ∈ TB := mem_tb 1155 (by decide +kernel) (by decide +kernel)
theorem lk_mo_219 : Cond.methodLink "TuneLoansModel" 219 ⟨"TuneLoansModel", "turns", "(III)V"⟩ ∈ TB := mem_tb 1159 (by decide +kernel) (by decide +kernel)
theorem lk_mo_223 : Cond.methodLink "TuneLoansModel" 223 ⟨"TuneLoansModel", "notesNow", "()I"⟩ ∈ TB := mem_tb 1167 (by decide +kernel) (by decide +kernel)
theorem lk_mo_226 : Cond.constantLong "TuneLoansModel" 226 (Int64.ofInt (127)) ∈ TB := mem_tb 1150 (by decide +kernel) (by decide +kernel)
theorem lk_mo_228 : Cond.methodLink "TuneLoansModel" 228 ⟨"TuneLoansModel", "lendOf", "(III)I"⟩ ∈ TB := mem_tb 1151 (by decide +kernel) (by decide +kernel)
theorem lk_mo_231 : Cond.methodLink "TuneLoansModel" 231 ⟨"TuneLoansModel", "longestOf", "(III)I"⟩ ∈ TB := mem_tb 1175 (by decide +kernel) (by decide +kernel)
theorem lk_mo_234 : Cond.methodLink "TuneLoansModel" 234 ⟨"TuneLoansModel", "isNow", "(I)Z"⟩ ∈ TB := mem_tb 1187 (by decide +kernel) (by decide +kernel)
theorem lk_mo_237 : Cond.methodLink "TuneLoansModel" 237 ⟨"TuneLoansModel", "rowOf", "(II)I"⟩ ∈ TB := mem_tb 1191 (by decide +kernel) (by decide +kernel)
theorem lk_mo_240 : Cond.methodLink "TuneLoansModel" 240 ⟨"TuneLoansModel", "whoOf", "(III)I"⟩ ∈ TB := mem_tb 1183 (by decide +kernel) (by decide +kernel)
theorem lk_mo_243 : Cond.methodLink "TuneLoansModel" 243 ⟨"TuneLoansModel", "commonBoth", "(II)I"⟩ ∈ TB := mem_tb 1199 (by decide +kernel) (by decide +kernel)
theorem lk_mo_246 : Cond.methodLink "TuneLoansModel" 246 ⟨"TuneLoansModel", "farOf", "(II)I"⟩ ∈ TB := mem_tb 1207 (by decide +kernel) (by decide +kernel)
theorem lk_mo_249 : Cond.methodLink "TuneLoansModel" 249 ⟨"TuneLoansModel", "nearestOf", "(I)I"⟩ ∈ TB := mem_tb 1215 (by decide +kernel) (by decide +kernel)
theorem lk_mo_252 : Cond.methodLink "TuneLoansModel" 252 ⟨"TuneLoansModel", "mothersOf", "(I)I"⟩ ∈ TB := mem_tb 1223 (by decide +kernel) (by decide +kernel)
theorem lk_mo_255 : Cond.methodLink "TuneLoansModel" 255 ⟨"TuneLoansModel", "ones", "(I)I"⟩ ∈ TB := mem_tb 1235 (by decide +kernel) (by decide +kernel)
theorem lk_mo_258 : Cond.methodLink "TuneLoansModel" 258 ⟨"TuneLoansModel", "isIn", "(II)Z"⟩ ∈ TB := mem_tb 1238 (by decide +kernel) (by decide +kernel)
theorem lk_mo_262 : Cond.methodLink "TuneLoansModel" 262 ⟨"TuneLoansModel", "noteAt", "(II)I"⟩ ∈ TB := mem_tb 1241 (by decide +kernel) (by decide +kernel)
theorem lk_mo_265 : Cond.methodLink "TuneLoansModel" 265 ⟨"TuneLoansModel", "tellsOf", "(I)I"⟩ ∈ TB := mem_tb 1231 (by decide +kernel) (by decide +kernel)
theorem lk_mo_268 : Cond.methodLink "TuneLoansModel" 268 ⟨"TuneLoansModel", "tellsBits", "(II)I"⟩ ∈ TB := mem_tb 1245 (by decide +kernel) (by decide +kernel)
theorem lk_mo_271 : Cond.methodLink "TuneLoansModel" 271 ⟨"TuneLoansModel", "losesOf", "(I)I"⟩ ∈ TB := mem_tb 1252 (by decide +kernel) (by decide +kernel)
theorem lk_mo_274 : Cond.constantLong "TuneLoansModel" 274 (Int64.ofInt (240)) ∈ TB := mem_tb 1260 (by decide +kernel) (by decide +kernel)
theorem lk_mo_276 : Cond.methodLink "TuneLoansModel" 276 ⟨"TuneLoansModel", "bestOf", "(I)I"⟩ ∈ TB := mem_tb 1261 (by decide +kernel) (by decide +kernel)
theorem lk_mo_279 : Cond.constantLong "TuneLoansModel" 279 (Int64.ofInt (16)) ∈ TB := mem_tb 1269 (by decide +kernel) (by decide +kernel)
theorem lk_mo_281 : Cond.methodLink "TuneLoansModel" 281 ⟨"TuneLoansModel", "part", "(JJI)J"⟩ ∈ TB := mem_tb 1275 (by decide +kernel) (by decide +kernel)
theorem lk_mo_285 : Cond.constantLong "TuneLoansModel" 285 (Int64.ofInt (40)) ∈ TB := mem_tb 1270 (by decide +kernel) (by decide +kernel)
theorem lk_mo_287 : Cond.methodLink "TuneLoansModel" 287 ⟨"TuneLoansModel", "humsOf", "(IIIIII)J"⟩ ∈ TB := mem_tb 1271 (by decide +kernel) (by decide +kernel)
theorem lk_mo_291 : Cond.methodLink "TuneLoansModel" 291 ⟨"TuneLoansModel", "no", "(I)J"⟩ ∈ TB := mem_tb 1278 (by decide +kernel) (by decide +kernel)
theorem lk_mo_295 : Cond.constant "TuneLoansModel" 295 (Int32.ofInt (1103515245)) ∈ TB := mem_tb 1290 (by decide +kernel) (by decide +kernel)
theorem lk_mo_296 : Cond.methodLink "TuneLoansModel" 296 ⟨"TuneLoansModel", "fairOf", "(III)I"⟩ ∈ TB := mem_tb 1286 (by decide +kernel) (by decide +kernel)
theorem lk_mo_299 : Cond.constantLong "TuneLoansModel" 299 (Int64.ofInt (31)) ∈ TB := mem_tb 1304 (by decide +kernel) (by decide +kernel)
theorem lk_mo_301 : Cond.methodLink "TuneLoansModel" 301 ⟨"TuneLoansModel", "hums", "(IIIIII)J"⟩ ∈ TB := mem_tb 1310 (by decide +kernel) (by decide +kernel)
theorem lk_mo_304 : Cond.constantLong "TuneLoansModel" 304 (Int64.ofInt (17)) ∈ TB := mem_tb 1303 (by decide +kernel) (by decide +kernel)
theorem lk_mo_306 : Cond.methodLink "TuneLoansModel" 306 ⟨"TuneLoansModel", "count", "(I)I"⟩ ∈ TB := mem_tb 1305 (by decide +kernel) (by decide +kernel)
theorem lk_mo_309 : Cond.methodLink "TuneLoansModel" 309 ⟨"TuneLoansModel", "tellsTune", "(JI)J"⟩ ∈ TB := mem_tb 1306 (by decide +kernel) (by decide +kernel)
theorem lk_ji_265 : Cond.constant "java/lang/Integer" 265 (Int32.ofInt (1431655765)) ∈ TB := mem_tb 722 (by decide +kernel) (by decide +kernel)
theorem lk_ji_266 : Cond.constant "java/lang/Integer" 266 (Int32.ofInt (858993459)) ∈ TB := mem_tb 723 (by decide +kernel) (by decide +kernel)
theorem lk_ji_267 : Cond.constant "java/lang/Integer" 267 (Int32.ofInt (252645135)) ∈ TB := mem_tb 724 (by decide +kernel) (by decide +kernel)
theorem lk_jl_314 : Cond.constantLong "java/lang/Long" 314 (Int64.ofInt (6148914691236517205)) ∈ TB := mem_tb 604 (by decide +kernel) (by decide +kernel)
theorem lk_jl_316 : Cond.constantLong "java/lang/Long" 316 (Int64.ofInt (3689348814741910323)) ∈ TB := mem_tb 605 (by decide +kernel) (by decide +kernel)
theorem lk_jl_318 : Cond.constantLong "java/lang/Long" 318 (Int64.ofInt (1085102592571150095)) ∈ TB := mem_tb 606 (by decide +kernel) (by decide +kernel)
theorem w_acn : Cond.native arraycopyName ∈ TB := mem_tb 578 (by decide +kernel) (by decide +kernel)
theorem w_acs : Cond.static arraycopyName ∈ TB := mem_tb 577 (by decide +kernel) (by decide +kernel)
theorem w_acy : Cond.initialized "java/lang/System" ∈ TB := mem_tb 77 (by decide +kernel) (by decide +kernel)
theorem jd_bk_countingLoans : JV J_bk_countingLoans 0 := ⟨⟨by decide +kernel, ⟨by decide +kernel, by decide +kernel, by decide +kernel⟩, mem_tb 826 (by decide +kernel) (by decide +kernel), mem_tb 60 (by decide +kernel) (by decide +kernel)⟩, mem_tb 824 (by decide +kernel) (by decide +kernel), mem_tb 825 (by decide +kernel) (by decide +kernel)⟩
theorem jd_bk_goesOn : JV J_bk_goesOn 2 := ⟨⟨by decide +kernel, ⟨by decide +kernel, by decide +kernel, by decide +kernel⟩, mem_tb 401 (by decide +kernel) (by decide +kernel), mem_tb 60 (by decide +kernel) (by decide +kernel)⟩, mem_tb 400 (by decide +kernel) (by decide +kernel), mem_tb 1 (by decide +kernel) (by decide +kernel)⟩
theorem jd_bk_readBorrowers : JV J_bk_readBorrowers 0 := ⟨⟨by decide +kernel, ⟨by decide +kernel, by decide +kernel, by decide +kernel⟩, mem_tb 397 (by decide +kernel) (by decide +kernel), mem_tb 60 (by decide +kernel) (by decide +kernel)⟩, mem_tb 395 (by decide +kernel) (by decide +kernel), mem_tb 396 (by decide +kernel) (by decide +kernel)⟩
theorem jd_bk_readTunes : JV J_bk_readTunes 0 := ⟨⟨by decide +kernel, ⟨by decide +kernel, by decide +kernel, by decide +kernel⟩, mem_tb 384 (by decide +kernel) (by decide +kernel), mem_tb 60 (by decide +kernel) (by decide +kernel)⟩, mem_tb 382 (by decide +kernel) (by decide +kernel), mem_tb 383 (by decide +kernel) (by decide +kernel)⟩
theorem jd_bk_toldNotes : JV J_bk_toldNotes 0 := ⟨⟨by decide +kernel, ⟨by decide +kernel, by decide +kernel, by decide +kernel⟩, mem_tb 643 (by decide +kernel) (by decide +kernel), mem_tb 60 (by decide +kernel) (by decide +kernel)⟩, mem_tb 641 (by decide +kernel) (by decide +kernel), mem_tb 642 (by decide +kernel) (by decide +kernel)⟩
theorem jd_ch_fairSize : JV J_ch_fairSize 4 := ⟨⟨by decide +kernel, ⟨by decide +kernel, by decide +kernel, by decide +kernel⟩, mem_tb 767 (by decide +kernel) (by decide +kernel), mem_tb 68 (by decide +kernel) (by decide +kernel)⟩, mem_tb 765 (by decide +kernel) (by decide +kernel), mem_tb 766 (by decide +kernel) (by decide +kernel)⟩
theorem jd_ch_hum : JV J_ch_hum 1 := ⟨⟨by decide +kernel, ⟨by decide +kernel, by decide +kernel, by decide +kernel⟩, mem_tb 757 (by decide +kernel) (by decide +kernel), mem_tb 68 (by decide +kernel) (by decide +kernel)⟩, mem_tb 756 (by decide +kernel) (by decide +kernel), mem_tb 12 (by decide +kernel) (by decide +kernel)⟩
theorem jd_ch_lot : JV J_ch_lot 1 := ⟨⟨by decide +kernel, ⟨by decide +kernel, by decide +kernel, by decide +kernel⟩, mem_tb 771 (by decide +kernel) (by decide +kernel), mem_tb 68 (by decide +kernel) (by decide +kernel)⟩, mem_tb 770 (by decide +kernel) (by decide +kernel), mem_tb 13 (by decide +kernel) (by decide +kernel)⟩
theorem jd_ch_weigh : JV J_ch_weigh 2 := ⟨⟨by decide +kernel, ⟨by decide +kernel, by decide +kernel, by decide +kernel⟩, mem_tb 748 (by decide +kernel) (by decide +kernel), mem_tb 68 (by decide +kernel) (by decide +kernel)⟩, mem_tb 746 (by decide +kernel) (by decide +kernel), mem_tb 747 (by decide +kernel) (by decide +kernel)⟩
theorem jd_ch_weightOf : JV J_ch_weightOf 4 := ⟨⟨by decide +kernel, ⟨by decide +kernel, by decide +kernel, by decide +kernel⟩, mem_tb 752 (by decide +kernel) (by decide +kernel), mem_tb 68 (by decide +kernel) (by decide +kernel)⟩, mem_tb 750 (by decide +kernel) (by decide +kernel), mem_tb 751 (by decide +kernel) (by decide +kernel)⟩
theorem jd_ji_bitCount : JS J_ji_bitCount 1 := ⟨⟨by decide +kernel, ⟨by decide +kernel, by decide +kernel, by decide +kernel⟩, mem_tb 721 (by decide +kernel) (by decide +kernel), mem_tb 79 (by decide +kernel) (by decide +kernel)⟩, mem_tb 720 (by decide +kernel) (by decide +kernel)⟩
theorem jd_jl_bitCount : JS J_jl_bitCount 1 := ⟨⟨by decide +kernel, ⟨by decide +kernel, by decide +kernel, by decide +kernel⟩, mem_tb 603 (by decide +kernel) (by decide +kernel), mem_tb 78 (by decide +kernel) (by decide +kernel)⟩, mem_tb 602 (by decide +kernel) (by decide +kernel)⟩
theorem jd_js_indexOf1 : JV J_js_indexOf1 1 := ⟨⟨by decide +kernel, ⟨by decide +kernel, by decide +kernel, by decide +kernel⟩, mem_tb 406 (by decide +kernel) (by decide +kernel), mem_tb 71 (by decide +kernel) (by decide +kernel)⟩, mem_tb 404 (by decide +kernel) (by decide +kernel), mem_tb 405 (by decide +kernel) (by decide +kernel)⟩
theorem jd_li_of : JV J_li_of 2 := ⟨⟨by decide +kernel, ⟨by decide +kernel, by decide +kernel, by decide +kernel⟩, mem_tb 599 (by decide +kernel) (by decide +kernel), mem_tb 67 (by decide +kernel) (by decide +kernel)⟩, mem_tb 597 (by decide +kernel) (by decide +kernel), mem_tb 598 (by decide +kernel) (by decide +kernel)⟩
theorem jd_mo_back : JV J_mo_back 0 := ⟨⟨by decide +kernel, ⟨by decide +kernel, by decide +kernel, by decide +kernel⟩, mem_tb 1057 (by decide +kernel) (by decide +kernel), mem_tb 70 (by decide +kernel) (by decide +kernel)⟩, mem_tb 1055 (by decide +kernel) (by decide +kernel), mem_tb 1056 (by decide +kernel) (by decide +kernel)⟩
theorem jd_mo_begins : JV J_mo_begins 2 := ⟨⟨by decide +kernel, ⟨by decide +kernel, by decide +kernel, by decide +kernel⟩, mem_tb 1087 (by decide +kernel) (by decide +kernel), mem_tb 70 (by decide +kernel) (by decide +kernel)⟩, mem_tb 1086 (by decide +kernel) (by decide +kernel), mem_tb 28 (by decide +kernel) (by decide +kernel)⟩
theorem jd_mo_best : JV J_mo_best 1 := ⟨⟨by decide +kernel, ⟨by decide +kernel, by decide +kernel, by decide +kernel⟩, mem_tb 1259 (by decide +kernel) (by decide +kernel), mem_tb 70 (by decide +kernel) (by decide +kernel)⟩, mem_tb 1257 (by decide +kernel) (by decide +kernel), mem_tb 1258 (by decide +kernel) (by decide +kernel)⟩
theorem jd_mo_bestOf : JV J_mo_bestOf 1 := ⟨⟨by decide +kernel, ⟨by decide +kernel, by decide +kernel, by decide +kernel⟩, mem_tb 1264 (by decide +kernel) (by decide +kernel), mem_tb 70 (by decide +kernel) (by decide +kernel)⟩, mem_tb 1263 (by decide +kernel) (by decide +kernel), mem_tb 54 (by decide +kernel) (by decide +kernel)⟩
theorem jd_mo_borrower : JV J_mo_borrower 2 := ⟨⟨by decide +kernel, ⟨by decide +kernel, by decide +kernel, by decide +kernel⟩, mem_tb 1039 (by decide +kernel) (by decide +kernel), mem_tb 70 (by decide +kernel) (by decide +kernel)⟩, mem_tb 1037 (by decide +kernel) (by decide +kernel), mem_tb 1038 (by decide +kernel) (by decide +kernel)⟩
theorem jd_mo_came : JV J_mo_came 2 := ⟨⟨by decide +kernel, ⟨by decide +kernel, by decide +kernel, by decide +kernel⟩, mem_tb 1125 (by decide +kernel) (by decide +kernel), mem_tb 70 (by decide +kernel) (by decide +kernel)⟩, mem_tb 1123 (by decide +kernel) (by decide +kernel), mem_tb 1124 (by decide +kernel) (by decide +kernel)⟩
theorem jd_mo_cameOf : JV J_mo_cameOf 2 := ⟨⟨by decide +kernel, ⟨by decide +kernel, by decide +kernel, by decide +kernel⟩, mem_tb 1129 (by decide +kernel) (by decide +kernel), mem_tb 70 (by decide +kernel) (by decide +kernel)⟩, mem_tb 1128 (by decide +kernel) (by decide +kernel), mem_tb 35 (by decide +kernel) (by decide +kernel)⟩
theorem jd_mo_codes : JV J_mo_codes 1 := ⟨⟨by decide +kernel, ⟨by decide +kernel, by decide +kernel, by decide +kernel⟩, mem_tb 1158 (by decide +kernel) (by decide +kernel), mem_tb 70 (by decide +kernel) (by decide +kernel)⟩, mem_tb 1157 (by decide +kernel) (by decide +kernel), mem_tb 39 (by decide +kernel) (by decide +kernel)⟩
theorem jd_mo_common : JV J_mo_common 2 := ⟨⟨by decide +kernel, ⟨by decide +kernel, by decide +kernel, by decide +kernel⟩, mem_tb 1198 (by decide +kernel) (by decide +kernel), mem_tb 70 (by decide +kernel) (by decide +kernel)⟩, mem_tb 1196 (by decide +kernel) (by decide +kernel), mem_tb 1197 (by decide +kernel) (by decide +kernel)⟩
theorem jd_mo_commonBoth : JV J_mo_commonBoth 2 := ⟨⟨by decide +kernel, ⟨by decide +kernel, by decide +kernel, by decide +kernel⟩, mem_tb 1202 (by decide +kernel) (by decide +kernel), mem_tb 70 (by decide +kernel) (by decide +kernel)⟩, mem_tb 1201 (by decide +kernel) (by decide +kernel), mem_tb 47 (by decide +kernel) (by decide +kernel)⟩
theorem jd_mo_commonOf : JV J_mo_commonOf 6 := ⟨⟨by decide +kernel, ⟨by decide +kernel, by decide +kernel, by decide +kernel⟩, mem_tb 1110 (by decide +kernel) (by decide +kernel), mem_tb 70 (by decide +kernel) (by decide +kernel)⟩, mem_tb 1109 (by decide +kernel) (by decide +kernel), mem_tb 33 (by decide +kernel) (by decide +kernel)⟩
theorem jd_mo_copy : JV J_mo_copy 5 := ⟨⟨by decide +kernel, ⟨by decide +kernel, by decide +kernel, by decide +kernel⟩, mem_tb 984 (by decide +kernel) (by decide +kernel), mem_tb 70 (by decide +kernel) (by decide +kernel)⟩, mem_tb 982 (by decide +kernel) (by decide +kernel), mem_tb 983 (by decide +kernel) (by decide +kernel)⟩
theorem jd_mo_count : JV J_mo_count 1 := ⟨⟨by decide +kernel, ⟨by decide +kernel, by decide +kernel, by decide +kernel⟩, mem_tb 1298 (by decide +kernel) (by decide +kernel), mem_tb 70 (by decide +kernel) (by decide +kernel)⟩, mem_tb 1296 (by decide +kernel) (by decide +kernel), mem_tb 1297 (by decide +kernel) (by decide +kernel)⟩
theorem jd_mo_cut : JS J_mo_cut 2 := ⟨⟨by decide +kernel, ⟨by decide +kernel, by decide +kernel, by decide +kernel⟩, mem_tb 975 (by decide +kernel) (by decide +kernel), mem_tb 70 (by decide +kernel) (by decide +kernel)⟩, mem_tb 974 (by decide +kernel) (by decide +kernel)⟩
theorem jd_mo_digest : JV J_mo_digest 0 := ⟨⟨by decide +kernel, ⟨by decide +kernel, by decide +kernel, by decide +kernel⟩, mem_tb 1302 (by decide +kernel) (by decide +kernel), mem_tb 70 (by decide +kernel) (by decide +kernel)⟩, mem_tb 1300 (by decide +kernel) (by decide +kernel), mem_tb 1301 (by decide +kernel) (by decide +kernel)⟩
theorem jd_mo_ear : JV J_mo_ear 1 := ⟨⟨by decide +kernel, ⟨by decide +kernel, by decide +kernel, by decide +kernel⟩, mem_tb 1066 (by decide +kernel) (by decide +kernel), mem_tb 70 (by decide +kernel) (by decide +kernel)⟩, mem_tb 1064 (by decide +kernel) (by decide +kernel), mem_tb 1065 (by decide +kernel) (by decide +kernel)⟩
theorem jd_mo_fair : JV J_mo_fair 3 := ⟨⟨by decide +kernel, ⟨by decide +kernel, by decide +kernel, by decide +kernel⟩, mem_tb 1285 (by decide +kernel) (by decide +kernel), mem_tb 70 (by decide +kernel) (by decide +kernel)⟩, mem_tb 1283 (by decide +kernel) (by decide +kernel), mem_tb 1284 (by decide +kernel) (by decide +kernel)⟩
theorem jd_mo_fairOf : JV J_mo_fairOf 3 := ⟨⟨by decide +kernel, ⟨by decide +kernel, by decide +kernel, by decide +kernel⟩, mem_tb 1289 (by decide +kernel) (by decide +kernel), mem_tb 70 (by decide +kernel) (by decide +kernel)⟩, mem_tb 1288 (by decide +kernel) (by decide +kernel), mem_tb 56 (by decide +kernel) (by decide +kernel)⟩
theorem jd_mo_far : JV J_mo_far 2 := ⟨⟨by decide +kernel, ⟨by decide +kernel, by decide +kernel, by decide +kernel⟩, mem_tb 1206 (by decide +kernel) (by decide +kernel), mem_tb 70 (by decide +kernel) (by decide +kernel)⟩, mem_tb 1204 (by decide +kernel) (by decide +kernel), mem_tb 1205 (by decide +kernel) (by decide +kernel)⟩
theorem jd_mo_farOf : JV J_mo_farOf 2 := ⟨⟨by decide +kernel, ⟨by decide +kernel, by decide +kernel, by decide +kernel⟩, mem_tb 1210 (by decide +kernel) (by decide +kernel), mem_tb 70 (by decide +kernel) (by decide +kernel)⟩, mem_tb 1209 (by decide +kernel) (by decide +kernel), mem_tb 48 (by decide +kernel) (by decide +kernel)⟩
theorem jd_mo_fault : JV J_mo_fault 1 := ⟨⟨by decide +kernel, ⟨by decide +kernel, by decide +kernel, by decide +kernel⟩, mem_tb 1004 (by decide +kernel) (by decide +kernel), mem_tb 70 (by decide +kernel) (by decide +kernel)⟩, mem_tb 1002 (by decide +kernel) (by decide +kernel), mem_tb 1003 (by decide +kernel) (by decide +kernel)⟩
theorem jd_mo_figureOf : JV J_mo_figureOf 3 := ⟨⟨by decide +kernel, ⟨by decide +kernel, by decide +kernel, by decide +kernel⟩, mem_tb 1166 (by decide +kernel) (by decide +kernel), mem_tb 70 (by decide +kernel) (by decide +kernel)⟩, mem_tb 1165 (by decide +kernel) (by decide +kernel), mem_tb 41 (by decide +kernel) (by decide +kernel)⟩
theorem jd_mo_finds : JV J_mo_finds 1 := ⟨⟨by decide +kernel, ⟨by decide +kernel, by decide +kernel, by decide +kernel⟩, mem_tb 960 (by decide +kernel) (by decide +kernel), mem_tb 70 (by decide +kernel) (by decide +kernel)⟩, mem_tb 959 (by decide +kernel) (by decide +kernel), mem_tb 17 (by decide +kernel) (by decide +kernel)⟩
theorem jd_mo_get : JV J_mo_get 3 := ⟨⟨by decide +kernel, ⟨by decide +kernel, by decide +kernel, by decide +kernel⟩, mem_tb 979 (by decide +kernel) (by decide +kernel), mem_tb 70 (by decide +kernel) (by decide +kernel)⟩, mem_tb 977 (by decide +kernel) (by decide +kernel), mem_tb 978 (by decide +kernel) (by decide +kernel)⟩
theorem jd_mo_goesOn : JV J_mo_goesOn 2 := ⟨⟨by decide +kernel, ⟨by decide +kernel, by decide +kernel, by decide +kernel⟩, mem_tb 1091 (by decide +kernel) (by decide +kernel), mem_tb 70 (by decide +kernel) (by decide +kernel)⟩, mem_tb 1090 (by decide +kernel) (by decide +kernel), mem_tb 29 (by decide +kernel) (by decide +kernel)⟩
theorem jd_mo_greater : JS J_mo_greater 2 := ⟨⟨by decide +kernel, ⟨by decide +kernel, by decide +kernel, by decide +kernel⟩, mem_tb 1113 (by decide +kernel) (by decide +kernel), mem_tb 70 (by decide +kernel) (by decide +kernel)⟩, mem_tb 1112 (by decide +kernel) (by decide +kernel)⟩
theorem jd_mo_has : JV J_mo_has 2 := ⟨⟨by decide +kernel, ⟨by decide +kernel, by decide +kernel, by decide +kernel⟩, mem_tb 1117 (by decide +kernel) (by decide +kernel), mem_tb 70 (by decide +kernel) (by decide +kernel)⟩, mem_tb 1115 (by decide +kernel) (by decide +kernel), mem_tb 1116 (by decide +kernel) (by decide +kernel)⟩
theorem jd_mo_hasOf : JV J_mo_hasOf 2 := ⟨⟨by decide +kernel, ⟨by decide +kernel, by decide +kernel, by decide +kernel⟩, mem_tb 1121 (by decide +kernel) (by decide +kernel), mem_tb 70 (by decide +kernel) (by decide +kernel)⟩, mem_tb 1120 (by decide +kernel) (by decide +kernel), mem_tb 34 (by decide +kernel) (by decide +kernel)⟩
theorem jd_mo_home : JV J_mo_home 1 := ⟨⟨by decide +kernel, ⟨by decide +kernel, by decide +kernel, by decide +kernel⟩, mem_tb 1141 (by decide +kernel) (by decide +kernel), mem_tb 70 (by decide +kernel) (by decide +kernel)⟩, mem_tb 1139 (by decide +kernel) (by decide +kernel), mem_tb 1140 (by decide +kernel) (by decide +kernel)⟩
theorem jd_mo_homeOf : JV J_mo_homeOf 1 := ⟨⟨by decide +kernel, ⟨by decide +kernel, by decide +kernel, by decide +kernel⟩, mem_tb 1145 (by decide +kernel) (by decide +kernel), mem_tb 70 (by decide +kernel) (by decide +kernel)⟩, mem_tb 1144 (by decide +kernel) (by decide +kernel), mem_tb 37 (by decide +kernel) (by decide +kernel)⟩
theorem jd_mo_howOf : JS J_mo_howOf 1 := ⟨⟨by decide +kernel, ⟨by decide +kernel, by decide +kernel, by decide +kernel⟩, mem_tb 1021 (by decide +kernel) (by decide +kernel), mem_tb 70 (by decide +kernel) (by decide +kernel)⟩, mem_tb 1020 (by decide +kernel) (by decide +kernel)⟩
theorem jd_mo_hummed : JV J_mo_hummed 2 := ⟨⟨by decide +kernel, ⟨by decide +kernel, by decide +kernel, by decide +kernel⟩, mem_tb 1099 (by decide +kernel) (by decide +kernel), mem_tb 70 (by decide +kernel) (by decide +kernel)⟩, mem_tb 1098 (by decide +kernel) (by decide +kernel), mem_tb 31 (by decide +kernel) (by decide +kernel)⟩
theorem jd_mo_hums : JV J_mo_hums 6 := ⟨⟨by decide +kernel, ⟨by decide +kernel, by decide +kernel, by decide +kernel⟩, mem_tb 1268 (by decide +kernel) (by decide +kernel), mem_tb 70 (by decide +kernel) (by decide +kernel)⟩, mem_tb 1266 (by decide +kernel) (by decide +kernel), mem_tb 1267 (by decide +kernel) (by decide +kernel)⟩
theorem jd_mo_humsOf : JV J_mo_humsOf 6 := ⟨⟨by decide +kernel, ⟨by decide +kernel, by decide +kernel, by decide +kernel⟩, mem_tb 1274 (by decide +kernel) (by decide +kernel), mem_tb 70 (by decide +kernel) (by decide +kernel)⟩, mem_tb 1273 (by decide +kernel) (by decide +kernel), mem_tb 55 (by decide +kernel) (by decide +kernel)⟩
theorem jd_mo_in : JS J_mo_in 3 := ⟨⟨by decide +kernel, ⟨by decide +kernel, by decide +kernel, by decide +kernel⟩, mem_tb 955 (by decide +kernel) (by decide +kernel), mem_tb 70 (by decide +kernel) (by decide +kernel)⟩, mem_tb 954 (by decide +kernel) (by decide +kernel)⟩
theorem jd_mo_interest : JV J_mo_interest 1 := ⟨⟨by decide +kernel, ⟨by decide +kernel, by decide +kernel, by decide +kernel⟩, mem_tb 1133 (by decide +kernel) (by decide +kernel), mem_tb 70 (by decide +kernel) (by decide +kernel)⟩, mem_tb 1131 (by decide +kernel) (by decide +kernel), mem_tb 1132 (by decide +kernel) (by decide +kernel)⟩
theorem jd_mo_interestBy : JV J_mo_interestBy 2 := ⟨⟨by decide +kernel, ⟨by decide +kernel, by decide +kernel, by decide +kernel⟩, mem_tb 1137 (by decide +kernel) (by decide +kernel), mem_tb 70 (by decide +kernel) (by decide +kernel)⟩, mem_tb 1136 (by decide +kernel) (by decide +kernel), mem_tb 36 (by decide +kernel) (by decide +kernel)⟩
theorem jd_mo_isBorrower : JV J_mo_isBorrower 1 := ⟨⟨by decide +kernel, ⟨by decide +kernel, by decide +kernel, by decide +kernel⟩, mem_tb 1043 (by decide +kernel) (by decide +kernel), mem_tb 70 (by decide +kernel) (by decide +kernel)⟩, mem_tb 1042 (by decide +kernel) (by decide +kernel), mem_tb 24 (by decide +kernel) (by decide +kernel)⟩
theorem jd_mo_isIn : JS J_mo_isIn 2 := ⟨⟨by decide +kernel, ⟨by decide +kernel, by decide +kernel, by decide +kernel⟩, mem_tb 1240 (by decide +kernel) (by decide +kernel), mem_tb 70 (by decide +kernel) (by decide +kernel)⟩, mem_tb 1239 (by decide +kernel) (by decide +kernel)⟩
theorem jd_mo_isNow : JV J_mo_isNow 1 := ⟨⟨by decide +kernel, ⟨by decide +kernel, by decide +kernel, by decide +kernel⟩, mem_tb 1190 (by decide +kernel) (by decide +kernel), mem_tb 70 (by decide +kernel) (by decide +kernel)⟩, mem_tb 1189 (by decide +kernel) (by decide +kernel), mem_tb 45 (by decide +kernel) (by decide +kernel)⟩
theorem jd_mo_isSheet : JS J_mo_isSheet 1 := ⟨⟨by decide +kernel, ⟨by decide +kernel, by decide +kernel, by decide +kernel⟩, mem_tb 951 (by decide +kernel) (by decide +kernel), mem_tb 70 (by decide +kernel) (by decide +kernel)⟩, mem_tb 950 (by decide +kernel) (by decide +kernel)⟩
theorem jd_mo_isTune : JV J_mo_isTune 1 := ⟨⟨by decide +kernel, ⟨by decide +kernel, by decide +kernel, by decide +kernel⟩, mem_tb 1033 (by decide +kernel) (by decide +kernel), mem_tb 70 (by decide +kernel) (by decide +kernel)⟩, mem_tb 1032 (by decide +kernel) (by decide +kernel), mem_tb 23 (by decide +kernel) (by decide +kernel)⟩
theorem jd_mo_isTwo : JS J_mo_isTwo 1 := ⟨⟨by decide +kernel, ⟨by decide +kernel, by decide +kernel, by decide +kernel⟩, mem_tb 991 (by decide +kernel) (by decide +kernel), mem_tb 70 (by decide +kernel) (by decide +kernel)⟩, mem_tb 990 (by decide +kernel) (by decide +kernel)⟩
theorem jd_mo_isYear : JS J_mo_isYear 1 := ⟨⟨by decide +kernel, ⟨by decide +kernel, by decide +kernel, by decide +kernel⟩, mem_tb 1050 (by decide +kernel) (by decide +kernel), mem_tb 70 (by decide +kernel) (by decide +kernel)⟩, mem_tb 1049 (by decide +kernel) (by decide +kernel)⟩
theorem jd_mo_lacks : JV J_mo_lacks 3 := ⟨⟨by decide +kernel, ⟨by decide +kernel, by decide +kernel, by decide +kernel⟩, mem_tb 972 (by decide +kernel) (by decide +kernel), mem_tb 70 (by decide +kernel) (by decide +kernel)⟩, mem_tb 971 (by decide +kernel) (by decide +kernel), mem_tb 18 (by decide +kernel) (by decide +kernel)⟩
theorem jd_mo_lay : JV J_mo_lay 4 := ⟨⟨by decide +kernel, ⟨by decide +kernel, by decide +kernel, by decide +kernel⟩, mem_tb 968 (by decide +kernel) (by decide +kernel), mem_tb 70 (by decide +kernel) (by decide +kernel)⟩, mem_tb 966 (by decide +kernel) (by decide +kernel), mem_tb 967 (by decide +kernel) (by decide +kernel)⟩
theorem jd_mo_lend : JV J_mo_lend 3 := ⟨⟨by decide +kernel, ⟨by decide +kernel, by decide +kernel, by decide +kernel⟩, mem_tb 1149 (by decide +kernel) (by decide +kernel), mem_tb 70 (by decide +kernel) (by decide +kernel)⟩, mem_tb 1147 (by decide +kernel) (by decide +kernel), mem_tb 1148 (by decide +kernel) (by decide +kernel)⟩
theorem jd_mo_lendOf : JV J_mo_lendOf 3 := ⟨⟨by decide +kernel, ⟨by decide +kernel, by decide +kernel, by decide +kernel⟩, mem_tb 1154 (by decide +kernel) (by decide +kernel), mem_tb 70 (by decide +kernel) (by decide +kernel)⟩, mem_tb 1153 (by decide +kernel) (by decide +kernel), mem_tb 38 (by decide +kernel) (by decide +kernel)⟩
theorem jd_mo_lends : JV J_mo_lends 1 := ⟨⟨by decide +kernel, ⟨by decide +kernel, by decide +kernel, by decide +kernel⟩, mem_tb 1095 (by decide +kernel) (by decide +kernel), mem_tb 70 (by decide +kernel) (by decide +kernel)⟩, mem_tb 1094 (by decide +kernel) (by decide +kernel), mem_tb 30 (by decide +kernel) (by decide +kernel)⟩
theorem jd_mo_lesser : JS J_mo_lesser 2 := ⟨⟨by decide +kernel, ⟨by decide +kernel, by decide +kernel, by decide +kernel⟩, mem_tb 1102 (by decide +kernel) (by decide +kernel), mem_tb 70 (by decide +kernel) (by decide +kernel)⟩, mem_tb 1101 (by decide +kernel) (by decide +kernel)⟩
theorem jd_mo_lives : JV J_mo_lives 2 := ⟨⟨by decide +kernel, ⟨by decide +kernel, by decide +kernel, by decide +kernel⟩, mem_tb 1079 (by decide +kernel) (by decide +kernel), mem_tb 70 (by decide +kernel) (by decide +kernel)⟩, mem_tb 1078 (by decide +kernel) (by decide +kernel), mem_tb 26 (by decide +kernel) (by decide +kernel)⟩
theorem jd_mo_loan : JV J_mo_loan 4 := ⟨⟨by decide +kernel, ⟨by decide +kernel, by decide +kernel, by decide +kernel⟩, mem_tb 1047 (by decide +kernel) (by decide +kernel), mem_tb 70 (by decide +kernel) (by decide +kernel)⟩, mem_tb 1045 (by decide +kernel) (by decide +kernel), mem_tb 1046 (by decide +kernel) (by decide +kernel)⟩
theorem jd_mo_longest : JV J_mo_longest 3 := ⟨⟨by decide +kernel, ⟨by decide +kernel, by decide +kernel, by decide +kernel⟩, mem_tb 1174 (by decide +kernel) (by decide +kernel), mem_tb 70 (by decide +kernel) (by decide +kernel)⟩, mem_tb 1172 (by decide +kernel) (by decide +kernel), mem_tb 1173 (by decide +kernel) (by decide +kernel)⟩
theorem jd_mo_longestOf : JV J_mo_longestOf 3 := ⟨⟨by decide +kernel, ⟨by decide +kernel, by decide +kernel, by decide +kernel⟩, mem_tb 1178 (by decide +kernel) (by decide +kernel), mem_tb 70 (by decide +kernel) (by decide +kernel)⟩, mem_tb 1177 (by decide +kernel) (by decide +kernel), mem_tb 43 (by decide +kernel) (by decide +kernel)⟩
theorem jd_mo_lose : JV J_mo_lose 1 := ⟨⟨by decide +kernel, ⟨by decide +kernel, by decide +kernel, by decide +kernel⟩, mem_tb 964 (by decide +kernel) (by decide +kernel), mem_tb 70 (by decide +kernel) (by decide +kernel)⟩, mem_tb 962 (by decide +kernel) (by decide +kernel), mem_tb 963 (by decide +kernel) (by decide +kernel)⟩
theorem jd_mo_loses : JV J_mo_loses 1 := ⟨⟨by decide +kernel, ⟨by decide +kernel, by decide +kernel, by decide +kernel⟩, mem_tb 1251 (by decide +kernel) (by decide +kernel), mem_tb 70 (by decide +kernel) (by decide +kernel)⟩, mem_tb 1249 (by decide +kernel) (by decide +kernel), mem_tb 1250 (by decide +kernel) (by decide +kernel)⟩
theorem jd_mo_losesOf : JV J_mo_losesOf 1 := ⟨⟨by decide +kernel, ⟨by decide +kernel, by decide +kernel, by decide +kernel⟩, mem_tb 1255 (by decide +kernel) (by decide +kernel), mem_tb 70 (by decide +kernel) (by decide +kernel)⟩, mem_tb 1254 (by decide +kernel) (by decide +kernel), mem_tb 53 (by decide +kernel) (by decide +kernel)⟩
theorem jd_mo_mothers : JV J_mo_mothers 1 := ⟨⟨by decide +kernel, ⟨by decide +kernel, by decide +kernel, by decide +kernel⟩, mem_tb 1222 (by decide +kernel) (by decide +kernel), mem_tb 70 (by decide +kernel) (by decide +kernel)⟩, mem_tb 1220 (by decide +kernel) (by decide +kernel), mem_tb 1221 (by decide +kernel) (by decide +kernel)⟩
theorem jd_mo_mothersOf : JV J_mo_mothersOf 1 := ⟨⟨by decide +kernel, ⟨by decide +kernel, by decide +kernel, by decide +kernel⟩, mem_tb 1226 (by decide +kernel) (by decide +kernel), mem_tb 70 (by decide +kernel) (by decide +kernel)⟩, mem_tb 1225 (by decide +kernel) (by decide +kernel), mem_tb 50 (by decide +kernel) (by decide +kernel)⟩
theorem jd_mo_nearest : JV J_mo_nearest 1 := ⟨⟨by decide +kernel, ⟨by decide +kernel, by decide +kernel, by decide +kernel⟩, mem_tb 1214 (by decide +kernel) (by decide +kernel), mem_tb 70 (by decide +kernel) (by decide +kernel)⟩, mem_tb 1212 (by decide +kernel) (by decide +kernel), mem_tb 1213 (by decide +kernel) (by decide +kernel)⟩
theorem jd_mo_nearestOf : JV J_mo_nearestOf 1 := ⟨⟨by decide +kernel, ⟨by decide +kernel, by decide +kernel, by decide +kernel⟩, mem_tb 1218 (by decide +kernel) (by decide +kernel), mem_tb 70 (by decide +kernel) (by decide +kernel)⟩, mem_tb 1217 (by decide +kernel) (by decide +kernel), mem_tb 49 (by decide +kernel) (by decide +kernel)⟩
theorem jd_mo_no : JS J_mo_no 1 := ⟨⟨by decide +kernel, ⟨by decide +kernel, by decide +kernel, by decide +kernel⟩, mem_tb 1280 (by decide +kernel) (by decide +kernel), mem_tb 70 (by decide +kernel) (by decide +kernel)⟩, mem_tb 1279 (by decide +kernel) (by decide +kernel)⟩
theorem jd_mo_noteAt : JV J_mo_noteAt 2 := ⟨⟨by decide +kernel, ⟨by decide +kernel, by decide +kernel, by decide +kernel⟩, mem_tb 1244 (by decide +kernel) (by decide +kernel), mem_tb 70 (by decide +kernel) (by decide +kernel)⟩, mem_tb 1243 (by decide +kernel) (by decide +kernel), mem_tb 52 (by decide +kernel) (by decide +kernel)⟩
theorem jd_mo_notes : JV J_mo_notes 3 := ⟨⟨by decide +kernel, ⟨by decide +kernel, by decide +kernel, by decide +kernel⟩, mem_tb 1071 (by decide +kernel) (by decide +kernel), mem_tb 70 (by decide +kernel) (by decide +kernel)⟩, mem_tb 1069 (by decide +kernel) (by decide +kernel), mem_tb 1070 (by decide +kernel) (by decide +kernel)⟩
theorem jd_mo_notesNow : JV J_mo_notesNow 0 := ⟨⟨by decide +kernel, ⟨by decide +kernel, by decide +kernel, by decide +kernel⟩, mem_tb 1170 (by decide +kernel) (by decide +kernel), mem_tb 70 (by decide +kernel) (by decide +kernel)⟩, mem_tb 1169 (by decide +kernel) (by decide +kernel), mem_tb 42 (by decide +kernel) (by decide +kernel)⟩
theorem jd_mo_notesOf : JV J_mo_notesOf 3 := ⟨⟨by decide +kernel, ⟨by decide +kernel, by decide +kernel, by decide +kernel⟩, mem_tb 1075 (by decide +kernel) (by decide +kernel), mem_tb 70 (by decide +kernel) (by decide +kernel)⟩, mem_tb 1074 (by decide +kernel) (by decide +kernel), mem_tb 25 (by decide +kernel) (by decide +kernel)⟩
theorem jd_mo_ones : JS J_mo_ones 1 := ⟨⟨by decide +kernel, ⟨by decide +kernel, by decide +kernel, by decide +kernel⟩, mem_tb 1237 (by decide +kernel) (by decide +kernel), mem_tb 70 (by decide +kernel) (by decide +kernel)⟩, mem_tb 1236 (by decide +kernel) (by decide +kernel)⟩
theorem jd_mo_part : JS J_mo_part 3 := ⟨⟨by decide +kernel, ⟨by decide +kernel, by decide +kernel, by decide +kernel⟩, mem_tb 1277 (by decide +kernel) (by decide +kernel), mem_tb 70 (by decide +kernel) (by decide +kernel)⟩, mem_tb 1276 (by decide +kernel) (by decide +kernel)⟩
theorem jd_mo_read : JV J_mo_read 1 := ⟨⟨by decide +kernel, ⟨by decide +kernel, by decide +kernel, by decide +kernel⟩, mem_tb 1061 (by decide +kernel) (by decide +kernel), mem_tb 70 (by decide +kernel) (by decide +kernel)⟩, mem_tb 1059 (by decide +kernel) (by decide +kernel), mem_tb 1060 (by decide +kernel) (by decide +kernel)⟩
theorem jd_mo_reads : JV J_mo_reads 0 := ⟨⟨by decide +kernel, ⟨by decide +kernel, by decide +kernel, by decide +kernel⟩, mem_tb 1029 (by decide +kernel) (by decide +kernel), mem_tb 70 (by decide +kernel) (by decide +kernel)⟩, mem_tb 1028 (by decide +kernel) (by decide +kernel), mem_tb 22 (by decide +kernel) (by decide +kernel)⟩
theorem jd_mo_readsBorrowers : JV J_mo_readsBorrowers 0 := ⟨⟨by decide +kernel, ⟨by decide +kernel, by decide +kernel, by decide +kernel⟩, mem_tb 1018 (by decide +kernel) (by decide +kernel), mem_tb 70 (by decide +kernel) (by decide +kernel)⟩, mem_tb 1017 (by decide +kernel) (by decide +kernel), mem_tb 21 (by decide +kernel) (by decide +kernel)⟩
theorem jd_mo_readsTunes : JV J_mo_readsTunes 0 := ⟨⟨by decide +kernel, ⟨by decide +kernel, by decide +kernel, by decide +kernel⟩, mem_tb 1008 (by decide +kernel) (by decide +kernel), mem_tb 70 (by decide +kernel) (by decide +kernel)⟩, mem_tb 1007 (by decide +kernel) (by decide +kernel), mem_tb 19 (by decide +kernel) (by decide +kernel)⟩
theorem jd_mo_returns : JV J_mo_returns 2 := ⟨⟨by decide +kernel, ⟨by decide +kernel, by decide +kernel, by decide +kernel⟩, mem_tb 1106 (by decide +kernel) (by decide +kernel), mem_tb 70 (by decide +kernel) (by decide +kernel)⟩, mem_tb 1105 (by decide +kernel) (by decide +kernel), mem_tb 32 (by decide +kernel) (by decide +kernel)⟩
theorem jd_mo_rowOf : JV J_mo_rowOf 2 := ⟨⟨by decide +kernel, ⟨by decide +kernel, by decide +kernel, by decide +kernel⟩, mem_tb 1194 (by decide +kernel) (by decide +kernel), mem_tb 70 (by decide +kernel) (by decide +kernel)⟩, mem_tb 1193 (by decide +kernel) (by decide +kernel), mem_tb 46 (by decide +kernel) (by decide +kernel)⟩
theorem jd_mo_sheet : JV J_mo_sheet 3 := ⟨⟨by decide +kernel, ⟨by decide +kernel, by decide +kernel, by decide +kernel⟩, mem_tb 948 (by decide +kernel) (by decide +kernel), mem_tb 70 (by decide +kernel) (by decide +kernel)⟩, mem_tb 946 (by decide +kernel) (by decide +kernel), mem_tb 947 (by decide +kernel) (by decide +kernel)⟩
theorem jd_mo_startsAll : JV J_mo_startsAll 0 := ⟨⟨by decide +kernel, ⟨by decide +kernel, by decide +kernel, by decide +kernel⟩, mem_tb 1083 (by decide +kernel) (by decide +kernel), mem_tb 70 (by decide +kernel) (by decide +kernel)⟩, mem_tb 1082 (by decide +kernel) (by decide +kernel), mem_tb 27 (by decide +kernel) (by decide +kernel)⟩
theorem jd_mo_tells : JV J_mo_tells 2 := ⟨⟨by decide +kernel, ⟨by decide +kernel, by decide +kernel, by decide +kernel⟩, mem_tb 1230 (by decide +kernel) (by decide +kernel), mem_tb 70 (by decide +kernel) (by decide +kernel)⟩, mem_tb 1228 (by decide +kernel) (by decide +kernel), mem_tb 1229 (by decide +kernel) (by decide +kernel)⟩
theorem jd_mo_tellsBits : JS J_mo_tellsBits 2 := ⟨⟨by decide +kernel, ⟨by decide +kernel, by decide +kernel, by decide +kernel⟩, mem_tb 1247 (by decide +kernel) (by decide +kernel), mem_tb 70 (by decide +kernel) (by decide +kernel)⟩, mem_tb 1246 (by decide +kernel) (by decide +kernel)⟩
theorem jd_mo_tellsOf : JV J_mo_tellsOf 1 := ⟨⟨by decide +kernel, ⟨by decide +kernel, by decide +kernel, by decide +kernel⟩, mem_tb 1234 (by decide +kernel) (by decide +kernel), mem_tb 70 (by decide +kernel) (by decide +kernel)⟩, mem_tb 1233 (by decide +kernel) (by decide +kernel), mem_tb 51 (by decide +kernel) (by decide +kernel)⟩
theorem jd_mo_tellsTune : JV J_mo_tellsTune 2 := ⟨⟨by decide +kernel, ⟨by decide +kernel, by decide +kernel, by decide +kernel⟩, mem_tb 1309 (by decide +kernel) (by decide +kernel), mem_tb 70 (by decide +kernel) (by decide +kernel)⟩, mem_tb 1308 (by decide +kernel) (by decide +kernel), mem_tb 57 (by decide +kernel) (by decide +kernel)⟩
theorem jd_mo_tune : JV J_mo_tune 2 := ⟨⟨by decide +kernel, ⟨by decide +kernel, by decide +kernel, by decide +kernel⟩, mem_tb 1025 (by decide +kernel) (by decide +kernel), mem_tb 70 (by decide +kernel) (by decide +kernel)⟩, mem_tb 1023 (by decide +kernel) (by decide +kernel), mem_tb 1024 (by decide +kernel) (by decide +kernel)⟩
theorem jd_mo_tunesFault : JV J_mo_tunesFault 1 := ⟨⟨by decide +kernel, ⟨by decide +kernel, by decide +kernel, by decide +kernel⟩, mem_tb 1012 (by decide +kernel) (by decide +kernel), mem_tb 70 (by decide +kernel) (by decide +kernel)⟩, mem_tb 1011 (by decide +kernel) (by decide +kernel), mem_tb 20 (by decide +kernel) (by decide +kernel)⟩
theorem jd_mo_turns : JV J_mo_turns 3 := ⟨⟨by decide +kernel, ⟨by decide +kernel, by decide +kernel, by decide +kernel⟩, mem_tb 1162 (by decide +kernel) (by decide +kernel), mem_tb 70 (by decide +kernel) (by decide +kernel)⟩, mem_tb 1161 (by decide +kernel) (by decide +kernel), mem_tb 40 (by decide +kernel) (by decide +kernel)⟩
theorem jd_mo_type : JV J_mo_type 2 := ⟨⟨by decide +kernel, ⟨by decide +kernel, by decide +kernel, by decide +kernel⟩, mem_tb 988 (by decide +kernel) (by decide +kernel), mem_tb 70 (by decide +kernel) (by decide +kernel)⟩, mem_tb 986 (by decide +kernel) (by decide +kernel), mem_tb 987 (by decide +kernel) (by decide +kernel)⟩
theorem jd_mo_undo : JV J_mo_undo 1 := ⟨⟨by decide +kernel, ⟨by decide +kernel, by decide +kernel, by decide +kernel⟩, mem_tb 1000 (by decide +kernel) (by decide +kernel), mem_tb 70 (by decide +kernel) (by decide +kernel)⟩, mem_tb 998 (by decide +kernel) (by decide +kernel), mem_tb 999 (by decide +kernel) (by decide +kernel)⟩
theorem jd_mo_who : JV J_mo_who 3 := ⟨⟨by decide +kernel, ⟨by decide +kernel, by decide +kernel, by decide +kernel⟩, mem_tb 1182 (by decide +kernel) (by decide +kernel), mem_tb 70 (by decide +kernel) (by decide +kernel)⟩, mem_tb 1180 (by decide +kernel) (by decide +kernel), mem_tb 1181 (by decide +kernel) (by decide +kernel)⟩
theorem jd_mo_whoOf : JV J_mo_whoOf 3 := ⟨⟨by decide +kernel, ⟨by decide +kernel, by decide +kernel, by decide +kernel⟩, mem_tb 1186 (by decide +kernel) (by decide +kernel), mem_tb 70 (by decide +kernel) (by decide +kernel)⟩, mem_tb 1185 (by decide +kernel) (by decide +kernel), mem_tb 44 (by decide +kernel) (by decide +kernel)⟩
theorem jd_mo_wipe : JV J_mo_wipe 1 := ⟨⟨by decide +kernel, ⟨by decide +kernel, by decide +kernel, by decide +kernel⟩, mem_tb 996 (by decide +kernel) (by decide +kernel), mem_tb 70 (by decide +kernel) (by decide +kernel)⟩, mem_tb 994 (by decide +kernel) (by decide +kernel), mem_tb 995 (by decide +kernel) (by decide +kernel)⟩
theorem jd_mo_write : JV J_mo_write 3 := ⟨⟨by decide +kernel, ⟨by decide +kernel, by decide +kernel, by decide +kernel⟩, mem_tb 1294 (by decide +kernel) (by decide +kernel), mem_tb 70 (by decide +kernel) (by decide +kernel)⟩, mem_tb 1292 (by decide +kernel) (by decide +kernel), mem_tb 1293 (by decide +kernel) (by decide +kernel)⟩
theorem jd_sh_begin : JV J_sh_begin 2 := ⟨⟨by decide +kernel, ⟨by decide +kernel, by decide +kernel, by decide +kernel⟩, mem_tb 783 (by decide +kernel) (by decide +kernel), mem_tb 69 (by decide +kernel) (by decide +kernel)⟩, mem_tb 781 (by decide +kernel) (by decide +kernel), mem_tb 782 (by decide +kernel) (by decide +kernel)⟩
theorem jd_sh_hasSpan : JV J_sh_hasSpan 2 := ⟨⟨by decide +kernel, ⟨by decide +kernel, by decide +kernel, by decide +kernel⟩, mem_tb 812 (by decide +kernel) (by decide +kernel), mem_tb 69 (by decide +kernel) (by decide +kernel)⟩, mem_tb 810 (by decide +kernel) (by decide +kernel), mem_tb 811 (by decide +kernel) (by decide +kernel)⟩
theorem jd_sh_isLost : JV J_sh_isLost 0 := ⟨⟨by decide +kernel, ⟨by decide +kernel, by decide +kernel, by decide +kernel⟩, mem_tb 547 (by decide +kernel) (by decide +kernel), mem_tb 69 (by decide +kernel) (by decide +kernel)⟩, mem_tb 545 (by decide +kernel) (by decide +kernel), mem_tb 546 (by decide +kernel) (by decide +kernel)⟩
theorem jd_sh_put : JV J_sh_put 2 := ⟨⟨by decide +kernel, ⟨by decide +kernel, by decide +kernel, by decide +kernel⟩, mem_tb 799 (by decide +kernel) (by decide +kernel), mem_tb 69 (by decide +kernel) (by decide +kernel)⟩, mem_tb 797 (by decide +kernel) (by decide +kernel), mem_tb 798 (by decide +kernel) (by decide +kernel)⟩
theorem jd_tl_back : JV J_tl_back 0 := ⟨⟨by decide +kernel, ⟨by decide +kernel, by decide +kernel, by decide +kernel⟩, mem_tb 536 (by decide +kernel) (by decide +kernel), mem_tb 59 (by decide +kernel) (by decide +kernel)⟩, mem_tb 534 (by decide +kernel) (by decide +kernel), mem_tb 535 (by decide +kernel) (by decide +kernel)⟩
theorem jd_tl_best : JV J_tl_best 1 := ⟨⟨by decide +kernel, ⟨by decide +kernel, by decide +kernel, by decide +kernel⟩, mem_tb 739 (by decide +kernel) (by decide +kernel), mem_tb 59 (by decide +kernel) (by decide +kernel)⟩, mem_tb 737 (by decide +kernel) (by decide +kernel), mem_tb 738 (by decide +kernel) (by decide +kernel)⟩
theorem jd_tl_borrower : JV J_tl_borrower 2 := ⟨⟨by decide +kernel, ⟨by decide +kernel, by decide +kernel, by decide +kernel⟩, mem_tb 521 (by decide +kernel) (by decide +kernel), mem_tb 59 (by decide +kernel) (by decide +kernel)⟩, mem_tb 519 (by decide +kernel) (by decide +kernel), mem_tb 520 (by decide +kernel) (by decide +kernel)⟩
theorem jd_tl_came : JV J_tl_came 2 := ⟨⟨by decide +kernel, ⟨by decide +kernel, by decide +kernel, by decide +kernel⟩, mem_tb 631 (by decide +kernel) (by decide +kernel), mem_tb 59 (by decide +kernel) (by decide +kernel)⟩, mem_tb 629 (by decide +kernel) (by decide +kernel), mem_tb 630 (by decide +kernel) (by decide +kernel)⟩
theorem jd_tl_common : JV J_tl_common 2 := ⟨⟨by decide +kernel, ⟨by decide +kernel, by decide +kernel, by decide +kernel⟩, mem_tb 700 (by decide +kernel) (by decide +kernel), mem_tb 59 (by decide +kernel) (by decide +kernel)⟩, mem_tb 698 (by decide +kernel) (by decide +kernel), mem_tb 699 (by decide +kernel) (by decide +kernel)⟩
theorem jd_tl_copy : JV J_tl_copy 5 := ⟨⟨by decide +kernel, ⟨by decide +kernel, by decide +kernel, by decide +kernel⟩, mem_tb 808 (by decide +kernel) (by decide +kernel), mem_tb 59 (by decide +kernel) (by decide +kernel)⟩, mem_tb 806 (by decide +kernel) (by decide +kernel), mem_tb 807 (by decide +kernel) (by decide +kernel)⟩
theorem jd_tl_count : JV J_tl_count 1 := ⟨⟨by decide +kernel, ⟨by decide +kernel, by decide +kernel, by decide +kernel⟩, mem_tb 822 (by decide +kernel) (by decide +kernel), mem_tb 59 (by decide +kernel) (by decide +kernel)⟩, mem_tb 820 (by decide +kernel) (by decide +kernel), mem_tb 821 (by decide +kernel) (by decide +kernel)⟩
theorem jd_tl_digest : JV J_tl_digest 0 := ⟨⟨by decide +kernel, ⟨by decide +kernel, by decide +kernel, by decide +kernel⟩, mem_tb 830 (by decide +kernel) (by decide +kernel), mem_tb 59 (by decide +kernel) (by decide +kernel)⟩, mem_tb 828 (by decide +kernel) (by decide +kernel), mem_tb 829 (by decide +kernel) (by decide +kernel)⟩
theorem jd_tl_digestAlone : JV J_tl_digestAlone 2 := ⟨⟨by decide +kernel, ⟨by decide +kernel, by decide +kernel, by decide +kernel⟩, mem_tb 838 (by decide +kernel) (by decide +kernel), mem_tb 59 (by decide +kernel) (by decide +kernel)⟩, mem_tb 837 (by decide +kernel) (by decide +kernel), mem_tb 15 (by decide +kernel) (by decide +kernel)⟩
theorem jd_tl_digestTogether : JV J_tl_digestTogether 2 := ⟨⟨by decide +kernel, ⟨by decide +kernel, by decide +kernel, by decide +kernel⟩, mem_tb 847 (by decide +kernel) (by decide +kernel), mem_tb 59 (by decide +kernel) (by decide +kernel)⟩, mem_tb 846 (by decide +kernel) (by decide +kernel), mem_tb 16 (by decide +kernel) (by decide +kernel)⟩
theorem jd_tl_ear : JV J_tl_ear 1 := ⟨⟨by decide +kernel, ⟨by decide +kernel, by decide +kernel, by decide +kernel⟩, mem_tb 556 (by decide +kernel) (by decide +kernel), mem_tb 59 (by decide +kernel) (by decide +kernel)⟩, mem_tb 554 (by decide +kernel) (by decide +kernel), mem_tb 555 (by decide +kernel) (by decide +kernel)⟩
theorem jd_tl_fair : JV J_tl_fair 3 := ⟨⟨by decide +kernel, ⟨by decide +kernel, by decide +kernel, by decide +kernel⟩, mem_tb 763 (by decide +kernel) (by decide +kernel), mem_tb 59 (by decide +kernel) (by decide +kernel)⟩, mem_tb 761 (by decide +kernel) (by decide +kernel), mem_tb 762 (by decide +kernel) (by decide +kernel)⟩
theorem jd_tl_far : JV J_tl_far 2 := ⟨⟨by decide +kernel, ⟨by decide +kernel, by decide +kernel, by decide +kernel⟩, mem_tb 705 (by decide +kernel) (by decide +kernel), mem_tb 59 (by decide +kernel) (by decide +kernel)⟩, mem_tb 703 (by decide +kernel) (by decide +kernel), mem_tb 704 (by decide +kernel) (by decide +kernel)⟩
theorem jd_tl_fault : JV J_tl_fault 1 := ⟨⟨by decide +kernel, ⟨by decide +kernel, by decide +kernel, by decide +kernel⟩, mem_tb 505 (by decide +kernel) (by decide +kernel), mem_tb 59 (by decide +kernel) (by decide +kernel)⟩, mem_tb 503 (by decide +kernel) (by decide +kernel), mem_tb 504 (by decide +kernel) (by decide +kernel)⟩
theorem jd_tl_found : JV J_tl_found 1 := ⟨⟨by decide +kernel, ⟨by decide +kernel, by decide +kernel, by decide +kernel⟩, mem_tb 551 (by decide +kernel) (by decide +kernel), mem_tb 59 (by decide +kernel) (by decide +kernel)⟩, mem_tb 550 (by decide +kernel) (by decide +kernel), mem_tb 4 (by decide +kernel) (by decide +kernel)⟩
theorem jd_tl_get : JV J_tl_get 3 := ⟨⟨by decide +kernel, ⟨by decide +kernel, by decide +kernel, by decide +kernel⟩, mem_tb 803 (by decide +kernel) (by decide +kernel), mem_tb 59 (by decide +kernel) (by decide +kernel)⟩, mem_tb 801 (by decide +kernel) (by decide +kernel), mem_tb 802 (by decide +kernel) (by decide +kernel)⟩
theorem jd_tl_has : JV J_tl_has 2 := ⟨⟨by decide +kernel, ⟨by decide +kernel, by decide +kernel, by decide +kernel⟩, mem_tb 623 (by decide +kernel) (by decide +kernel), mem_tb 59 (by decide +kernel) (by decide +kernel)⟩, mem_tb 621 (by decide +kernel) (by decide +kernel), mem_tb 622 (by decide +kernel) (by decide +kernel)⟩
theorem jd_tl_home : JV J_tl_home 1 := ⟨⟨by decide +kernel, ⟨by decide +kernel, by decide +kernel, by decide +kernel⟩, mem_tb 647 (by decide +kernel) (by decide +kernel), mem_tb 59 (by decide +kernel) (by decide +kernel)⟩, mem_tb 645 (by decide +kernel) (by decide +kernel), mem_tb 646 (by decide +kernel) (by decide +kernel)⟩
theorem jd_tl_hums : JV J_tl_hums 6 := ⟨⟨by decide +kernel, ⟨by decide +kernel, by decide +kernel, by decide +kernel⟩, mem_tb 743 (by decide +kernel) (by decide +kernel), mem_tb 59 (by decide +kernel) (by decide +kernel)⟩, mem_tb 741 (by decide +kernel) (by decide +kernel), mem_tb 742 (by decide +kernel) (by decide +kernel)⟩
theorem jd_tl_interest : JV J_tl_interest 1 := ⟨⟨by decide +kernel, ⟨by decide +kernel, by decide +kernel, by decide +kernel⟩, mem_tb 635 (by decide +kernel) (by decide +kernel), mem_tb 59 (by decide +kernel) (by decide +kernel)⟩, mem_tb 633 (by decide +kernel) (by decide +kernel), mem_tb 634 (by decide +kernel) (by decide +kernel)⟩
theorem jd_tl_interestBy : JV J_tl_interestBy 2 := ⟨⟨by decide +kernel, ⟨by decide +kernel, by decide +kernel, by decide +kernel⟩, mem_tb 639 (by decide +kernel) (by decide +kernel), mem_tb 59 (by decide +kernel) (by decide +kernel)⟩, mem_tb 638 (by decide +kernel) (by decide +kernel), mem_tb 10 (by decide +kernel) (by decide +kernel)⟩
theorem jd_tl_isBorrower : JV J_tl_isBorrower 1 := ⟨⟨by decide +kernel, ⟨by decide +kernel, by decide +kernel, by decide +kernel⟩, mem_tb 525 (by decide +kernel) (by decide +kernel), mem_tb 59 (by decide +kernel) (by decide +kernel)⟩, mem_tb 524 (by decide +kernel) (by decide +kernel), mem_tb 3 (by decide +kernel) (by decide +kernel)⟩
theorem jd_tl_isEar : JS J_tl_isEar 1 := ⟨⟨by decide +kernel, ⟨by decide +kernel, by decide +kernel, by decide +kernel⟩, mem_tb 559 (by decide +kernel) (by decide +kernel), mem_tb 59 (by decide +kernel) (by decide +kernel)⟩, mem_tb 558 (by decide +kernel) (by decide +kernel)⟩
theorem jd_tl_isForm : JS J_tl_isForm 1 := ⟨⟨by decide +kernel, ⟨by decide +kernel, by decide +kernel, by decide +kernel⟩, mem_tb 779 (by decide +kernel) (by decide +kernel), mem_tb 59 (by decide +kernel) (by decide +kernel)⟩, mem_tb 778 (by decide +kernel) (by decide +kernel)⟩
theorem jd_tl_isSheet : JS J_tl_isSheet 1 := ⟨⟨by decide +kernel, ⟨by decide +kernel, by decide +kernel, by decide +kernel⟩, mem_tb 543 (by decide +kernel) (by decide +kernel), mem_tb 59 (by decide +kernel) (by decide +kernel)⟩, mem_tb 542 (by decide +kernel) (by decide +kernel)⟩
theorem jd_tl_isText : JS J_tl_isText 1 := ⟨⟨by decide +kernel, ⟨by decide +kernel, by decide +kernel, by decide +kernel⟩, mem_tb 373 (by decide +kernel) (by decide +kernel), mem_tb 59 (by decide +kernel) (by decide +kernel)⟩, mem_tb 372 (by decide +kernel) (by decide +kernel)⟩
theorem jd_tl_isTune : JV J_tl_isTune 1 := ⟨⟨by decide +kernel, ⟨by decide +kernel, by decide +kernel, by decide +kernel⟩, mem_tb 513 (by decide +kernel) (by decide +kernel), mem_tb 59 (by decide +kernel) (by decide +kernel)⟩, mem_tb 512 (by decide +kernel) (by decide +kernel), mem_tb 2 (by decide +kernel) (by decide +kernel)⟩
theorem jd_tl_isYear : JS J_tl_isYear 1 := ⟨⟨by decide +kernel, ⟨by decide +kernel, by decide +kernel, by decide +kernel⟩, mem_tb 532 (by decide +kernel) (by decide +kernel), mem_tb 59 (by decide +kernel) (by decide +kernel)⟩, mem_tb 531 (by decide +kernel) (by decide +kernel)⟩
theorem jd_tl_lay : JV J_tl_lay 4 := ⟨⟨by decide +kernel, ⟨by decide +kernel, by decide +kernel, by decide +kernel⟩, mem_tb 791 (by decide +kernel) (by decide +kernel), mem_tb 59 (by decide +kernel) (by decide +kernel)⟩, mem_tb 789 (by decide +kernel) (by decide +kernel), mem_tb 790 (by decide +kernel) (by decide +kernel)⟩
theorem jd_tl_lend : JV J_tl_lend 3 := ⟨⟨by decide +kernel, ⟨by decide +kernel, by decide +kernel, by decide +kernel⟩, mem_tb 656 (by decide +kernel) (by decide +kernel), mem_tb 59 (by decide +kernel) (by decide +kernel)⟩, mem_tb 654 (by decide +kernel) (by decide +kernel), mem_tb 655 (by decide +kernel) (by decide +kernel)⟩
theorem jd_tl_loan : JV J_tl_loan 4 := ⟨⟨by decide +kernel, ⟨by decide +kernel, by decide +kernel, by decide +kernel⟩, mem_tb 529 (by decide +kernel) (by decide +kernel), mem_tb 59 (by decide +kernel) (by decide +kernel)⟩, mem_tb 527 (by decide +kernel) (by decide +kernel), mem_tb 528 (by decide +kernel) (by decide +kernel)⟩
theorem jd_tl_longest : JV J_tl_longest 3 := ⟨⟨by decide +kernel, ⟨by decide +kernel, by decide +kernel, by decide +kernel⟩, mem_tb 684 (by decide +kernel) (by decide +kernel), mem_tb 59 (by decide +kernel) (by decide +kernel)⟩, mem_tb 682 (by decide +kernel) (by decide +kernel), mem_tb 683 (by decide +kernel) (by decide +kernel)⟩
theorem jd_tl_lose : JV J_tl_lose 1 := ⟨⟨by decide +kernel, ⟨by decide +kernel, by decide +kernel, by decide +kernel⟩, mem_tb 787 (by decide +kernel) (by decide +kernel), mem_tb 59 (by decide +kernel) (by decide +kernel)⟩, mem_tb 785 (by decide +kernel) (by decide +kernel), mem_tb 786 (by decide +kernel) (by decide +kernel)⟩
theorem jd_tl_loses : JV J_tl_loses 1 := ⟨⟨by decide +kernel, ⟨by decide +kernel, by decide +kernel, by decide +kernel⟩, mem_tb 735 (by decide +kernel) (by decide +kernel), mem_tb 59 (by decide +kernel) (by decide +kernel)⟩, mem_tb 733 (by decide +kernel) (by decide +kernel), mem_tb 734 (by decide +kernel) (by decide +kernel)⟩
theorem jd_tl_mothers : JV J_tl_mothers 1 := ⟨⟨by decide +kernel, ⟨by decide +kernel, by decide +kernel, by decide +kernel⟩, mem_tb 714 (by decide +kernel) (by decide +kernel), mem_tb 59 (by decide +kernel) (by decide +kernel)⟩, mem_tb 712 (by decide +kernel) (by decide +kernel), mem_tb 713 (by decide +kernel) (by decide +kernel)⟩
theorem jd_tl_nearest : JV J_tl_nearest 1 := ⟨⟨by decide +kernel, ⟨by decide +kernel, by decide +kernel, by decide +kernel⟩, mem_tb 709 (by decide +kernel) (by decide +kernel), mem_tb 59 (by decide +kernel) (by decide +kernel)⟩, mem_tb 707 (by decide +kernel) (by decide +kernel), mem_tb 708 (by decide +kernel) (by decide +kernel)⟩
theorem jd_tl_notes : JV J_tl_notes 3 := ⟨⟨by decide +kernel, ⟨by decide +kernel, by decide +kernel, by decide +kernel⟩, mem_tb 563 (by decide +kernel) (by decide +kernel), mem_tb 59 (by decide +kernel) (by decide +kernel)⟩, mem_tb 561 (by decide +kernel) (by decide +kernel), mem_tb 562 (by decide +kernel) (by decide +kernel)⟩
theorem jd_tl_read : JV J_tl_read 1 := ⟨⟨by decide +kernel, ⟨by decide +kernel, by decide +kernel, by decide +kernel⟩, mem_tb 540 (by decide +kernel) (by decide +kernel), mem_tb 59 (by decide +kernel) (by decide +kernel)⟩, mem_tb 538 (by decide +kernel) (by decide +kernel), mem_tb 539 (by decide +kernel) (by decide +kernel)⟩
theorem jd_tl_refusalOfItem : JV J_tl_refusalOfItem 3 := ⟨⟨by decide +kernel, ⟨by decide +kernel, by decide +kernel, by decide +kernel⟩, mem_tb 795 (by decide +kernel) (by decide +kernel), mem_tb 59 (by decide +kernel) (by decide +kernel)⟩, mem_tb 794 (by decide +kernel) (by decide +kernel), mem_tb 14 (by decide +kernel) (by decide +kernel)⟩
theorem jd_tl_resized : JV J_tl_resized 2 := ⟨⟨by decide +kernel, ⟨by decide +kernel, by decide +kernel, by decide +kernel⟩, mem_tb 380 (by decide +kernel) (by decide +kernel), mem_tb 59 (by decide +kernel) (by decide +kernel)⟩, mem_tb 379 (by decide +kernel) (by decide +kernel), mem_tb 0 (by decide +kernel) (by decide +kernel)⟩
theorem jd_tl_sheet : JV J_tl_sheet 3 := ⟨⟨by decide +kernel, ⟨by decide +kernel, by decide +kernel, by decide +kernel⟩, mem_tb 776 (by decide +kernel) (by decide +kernel), mem_tb 59 (by decide +kernel) (by decide +kernel)⟩, mem_tb 774 (by decide +kernel) (by decide +kernel), mem_tb 775 (by decide +kernel) (by decide +kernel)⟩
theorem jd_tl_tellFrom : JS J_tl_tellFrom 3 := ⟨⟨by decide +kernel, ⟨by decide +kernel, by decide +kernel, by decide +kernel⟩, mem_tb 731 (by decide +kernel) (by decide +kernel), mem_tb 59 (by decide +kernel) (by decide +kernel)⟩, mem_tb 730 (by decide +kernel) (by decide +kernel)⟩
theorem jd_tl_tellFromAll : JV J_tl_tellFromAll 2 := ⟨⟨by decide +kernel, ⟨by decide +kernel, by decide +kernel, by decide +kernel⟩, mem_tb 728 (by decide +kernel) (by decide +kernel), mem_tb 59 (by decide +kernel) (by decide +kernel)⟩, mem_tb 727 (by decide +kernel) (by decide +kernel), mem_tb 11 (by decide +kernel) (by decide +kernel)⟩
theorem jd_tl_tells : JV J_tl_tells 2 := ⟨⟨by decide +kernel, ⟨by decide +kernel, by decide +kernel, by decide +kernel⟩, mem_tb 718 (by decide +kernel) (by decide +kernel), mem_tb 59 (by decide +kernel) (by decide +kernel)⟩, mem_tb 716 (by decide +kernel) (by decide +kernel), mem_tb 717 (by decide +kernel) (by decide +kernel)⟩
theorem jd_tl_tune : JV J_tl_tune 2 := ⟨⟨by decide +kernel, ⟨by decide +kernel, by decide +kernel, by decide +kernel⟩, mem_tb 509 (by decide +kernel) (by decide +kernel), mem_tb 59 (by decide +kernel) (by decide +kernel)⟩, mem_tb 507 (by decide +kernel) (by decide +kernel), mem_tb 508 (by decide +kernel) (by decide +kernel)⟩
theorem jd_tl_type : JV J_tl_type 2 := ⟨⟨by decide +kernel, ⟨by decide +kernel, by decide +kernel, by decide +kernel⟩, mem_tb 370 (by decide +kernel) (by decide +kernel), mem_tb 59 (by decide +kernel) (by decide +kernel)⟩, mem_tb 368 (by decide +kernel) (by decide +kernel), mem_tb 369 (by decide +kernel) (by decide +kernel)⟩
theorem jd_tl_undo : JV J_tl_undo 1 := ⟨⟨by decide +kernel, ⟨by decide +kernel, by decide +kernel, by decide +kernel⟩, mem_tb 501 (by decide +kernel) (by decide +kernel), mem_tb 59 (by decide +kernel) (by decide +kernel)⟩, mem_tb 499 (by decide +kernel) (by decide +kernel), mem_tb 500 (by decide +kernel) (by decide +kernel)⟩
theorem jd_tl_who : JV J_tl_who 3 := ⟨⟨by decide +kernel, ⟨by decide +kernel, by decide +kernel, by decide +kernel⟩, mem_tb 688 (by decide +kernel) (by decide +kernel), mem_tb 59 (by decide +kernel) (by decide +kernel)⟩, mem_tb 686 (by decide +kernel) (by decide +kernel), mem_tb 687 (by decide +kernel) (by decide +kernel)⟩
theorem jd_tl_wipe : JV J_tl_wipe 1 := ⟨⟨by decide +kernel, ⟨by decide +kernel, by decide +kernel, by decide +kernel⟩, mem_tb 497 (by decide +kernel) (by decide +kernel), mem_tb 59 (by decide +kernel) (by decide +kernel)⟩, mem_tb 495 (by decide +kernel) (by decide +kernel), mem_tb 496 (by decide +kernel) (by decide +kernel)⟩
theorem jd_tl_within : JS J_tl_within 3 := ⟨⟨by decide +kernel, ⟨by decide +kernel, by decide +kernel, by decide +kernel⟩, mem_tb 376 (by decide +kernel) (by decide +kernel), mem_tb 59 (by decide +kernel) (by decide +kernel)⟩, mem_tb 375 (by decide +kernel) (by decide +kernel)⟩
theorem jd_tl_write : JV J_tl_write 3 := ⟨⟨by decide +kernel, ⟨by decide +kernel, by decide +kernel, by decide +kernel⟩, mem_tb 817 (by decide +kernel) (by decide +kernel), mem_tb 59 (by decide +kernel) (by decide +kernel)⟩, mem_tb 815 (by decide +kernel) (by decide +kernel), mem_tb 816 (by decide +kernel) (by decide +kernel)⟩
theorem jd_tr_after : JV J_tr_after 3 := ⟨⟨by decide +kernel, ⟨by decide +kernel, by decide +kernel, by decide +kernel⟩, mem_tb 669 (by decide +kernel) (by decide +kernel), mem_tb 66 (by decide +kernel) (by decide +kernel)⟩, mem_tb 667 (by decide +kernel) (by decide +kernel), mem_tb 668 (by decide +kernel) (by decide +kernel)⟩
theorem jd_tr_begin : JV J_tr_begin 1 := ⟨⟨by decide +kernel, ⟨by decide +kernel, by decide +kernel, by decide +kernel⟩, mem_tb 660 (by decide +kernel) (by decide +kernel), mem_tb 66 (by decide +kernel) (by decide +kernel)⟩, mem_tb 658 (by decide +kernel) (by decide +kernel), mem_tb 659 (by decide +kernel) (by decide +kernel)⟩
theorem jd_tr_figures : JV J_tr_figures 3 := ⟨⟨by decide +kernel, ⟨by decide +kernel, by decide +kernel, by decide +kernel⟩, mem_tb 696 (by decide +kernel) (by decide +kernel), mem_tb 66 (by decide +kernel) (by decide +kernel)⟩, mem_tb 694 (by decide +kernel) (by decide +kernel), mem_tb 695 (by decide +kernel) (by decide +kernel)⟩
theorem jd_tr_rowsOf : JV J_tr_rowsOf 2 := ⟨⟨by decide +kernel, ⟨by decide +kernel, by decide +kernel, by decide +kernel⟩, mem_tb 665 (by decide +kernel) (by decide +kernel), mem_tb 66 (by decide +kernel) (by decide +kernel)⟩, mem_tb 663 (by decide +kernel) (by decide +kernel), mem_tb 664 (by decide +kernel) (by decide +kernel)⟩
theorem jd_tr_turnOf : JV J_tr_turnOf 4 := ⟨⟨by decide +kernel, ⟨by decide +kernel, by decide +kernel, by decide +kernel⟩, mem_tb 673 (by decide +kernel) (by decide +kernel), mem_tb 66 (by decide +kernel) (by decide +kernel)⟩, mem_tb 671 (by decide +kernel) (by decide +kernel), mem_tb 672 (by decide +kernel) (by decide +kernel)⟩
theorem jd_tu_add : JV J_tu_add 1 := ⟨⟨by decide +kernel, ⟨by decide +kernel, by decide +kernel, by decide +kernel⟩, mem_tb 393 (by decide +kernel) (by decide +kernel), mem_tb 62 (by decide +kernel) (by decide +kernel)⟩, mem_tb 391 (by decide +kernel) (by decide +kernel), mem_tb 392 (by decide +kernel) (by decide +kernel)⟩
theorem jd_tu_at : JV J_tu_at 1 := ⟨⟨by decide +kernel, ⟨by decide +kernel, by decide +kernel, by decide +kernel⟩, mem_tb 517 (by decide +kernel) (by decide +kernel), mem_tb 62 (by decide +kernel) (by decide +kernel)⟩, mem_tb 515 (by decide +kernel) (by decide +kernel), mem_tb 516 (by decide +kernel) (by decide +kernel)⟩
theorem jd_tu_become : JV J_tu_become 1 := ⟨⟨by decide +kernel, ⟨by decide +kernel, by decide +kernel, by decide +kernel⟩, mem_tb 575 (by decide +kernel) (by decide +kernel), mem_tb 62 (by decide +kernel) (by decide +kernel)⟩, mem_tb 573 (by decide +kernel) (by decide +kernel), mem_tb 574 (by decide +kernel) (by decide +kernel)⟩
theorem jd_tu_becomeHummed : JV J_tu_becomeHummed 2 := ⟨⟨by decide +kernel, ⟨by decide +kernel, by decide +kernel, by decide +kernel⟩, mem_tb 590 (by decide +kernel) (by decide +kernel), mem_tb 62 (by decide +kernel) (by decide +kernel)⟩, mem_tb 588 (by decide +kernel) (by decide +kernel), mem_tb 589 (by decide +kernel) (by decide +kernel)⟩
theorem jd_tu_bits : JV J_tu_bits 0 := ⟨⟨by decide +kernel, ⟨by decide +kernel, by decide +kernel, by decide +kernel⟩, mem_tb 679 (by decide +kernel) (by decide +kernel), mem_tb 62 (by decide +kernel) (by decide +kernel)⟩, mem_tb 677 (by decide +kernel) (by decide +kernel), mem_tb 678 (by decide +kernel) (by decide +kernel)⟩
theorem jd_tu_isLike : JV J_tu_isLike 1 := ⟨⟨by decide +kernel, ⟨by decide +kernel, by decide +kernel, by decide +kernel⟩, mem_tb 692 (by decide +kernel) (by decide +kernel), mem_tb 62 (by decide +kernel) (by decide +kernel)⟩, mem_tb 690 (by decide +kernel) (by decide +kernel), mem_tb 691 (by decide +kernel) (by decide +kernel)⟩
theorem jd_tx_noteAt : JV J_tx_noteAt 1 := ⟨⟨by decide +kernel, ⟨by decide +kernel, by decide +kernel, by decide +kernel⟩, mem_tb 388 (by decide +kernel) (by decide +kernel), mem_tb 61 (by decide +kernel) (by decide +kernel)⟩, mem_tb 386 (by decide +kernel) (by decide +kernel), mem_tb 387 (by decide +kernel) (by decide +kernel)⟩
theorem jd_ye_allAtBank : JV J_ye_allAtBank 2 := ⟨⟨by decide +kernel, ⟨by decide +kernel, by decide +kernel, by decide +kernel⟩, mem_tb 651 (by decide +kernel) (by decide +kernel), mem_tb 65 (by decide +kernel) (by decide +kernel)⟩, mem_tb 649 (by decide +kernel) (by decide +kernel), mem_tb 650 (by decide +kernel) (by decide +kernel)⟩
theorem jd_ye_begin : JV J_ye_begin 1 := ⟨⟨by decide +kernel, ⟨by decide +kernel, by decide +kernel, by decide +kernel⟩, mem_tb 571 (by decide +kernel) (by decide +kernel), mem_tb 65 (by decide +kernel) (by decide +kernel)⟩, mem_tb 570 (by decide +kernel) (by decide +kernel), mem_tb 5 (by decide +kernel) (by decide +kernel)⟩
theorem jd_ye_comeBack : JV J_ye_comeBack 4 := ⟨⟨by decide +kernel, ⟨by decide +kernel, by decide +kernel, by decide +kernel⟩, mem_tb 595 (by decide +kernel) (by decide +kernel), mem_tb 65 (by decide +kernel) (by decide +kernel)⟩, mem_tb 594 (by decide +kernel) (by decide +kernel), mem_tb 8 (by decide +kernel) (by decide +kernel)⟩
theorem jd_ye_forget : JV J_ye_forget 0 := ⟨⟨by decide +kernel, ⟨by decide +kernel, by decide +kernel, by decide +kernel⟩, mem_tb 492 (by decide +kernel) (by decide +kernel), mem_tb 65 (by decide +kernel) (by decide +kernel)⟩, mem_tb 490 (by decide +kernel) (by decide +kernel), mem_tb 491 (by decide +kernel) (by decide +kernel)⟩
theorem jd_ye_holderOf : JV J_ye_holderOf 2 := ⟨⟨by decide +kernel, ⟨by decide +kernel, by decide +kernel, by decide +kernel⟩, mem_tb 627 (by decide +kernel) (by decide +kernel), mem_tb 65 (by decide +kernel) (by decide +kernel)⟩, mem_tb 625 (by decide +kernel) (by decide +kernel), mem_tb 626 (by decide +kernel) (by decide +kernel)⟩
theorem jd_ye_humLent : JV J_ye_humLent 1 := ⟨⟨by decide +kernel, ⟨by decide +kernel, by decide +kernel, by decide +kernel⟩, mem_tb 586 (by decide +kernel) (by decide +kernel), mem_tb 65 (by decide +kernel) (by decide +kernel)⟩, mem_tb 585 (by decide +kernel) (by decide +kernel), mem_tb 7 (by decide +kernel) (by decide +kernel)⟩
theorem jd_ye_keep : JV J_ye_keep 2 := ⟨⟨by decide +kernel, ⟨by decide +kernel, by decide +kernel, by decide +kernel⟩, mem_tb 610 (by decide +kernel) (by decide +kernel), mem_tb 65 (by decide +kernel) (by decide +kernel)⟩, mem_tb 609 (by decide +kernel) (by decide +kernel), mem_tb 9 (by decide +kernel) (by decide +kernel)⟩
theorem jd_ye_lendOut : JV J_ye_lendOut 2 := ⟨⟨by decide +kernel, ⟨by decide +kernel, by decide +kernel, by decide +kernel⟩, mem_tb 582 (by decide +kernel) (by decide +kernel), mem_tb 65 (by decide +kernel) (by decide +kernel)⟩, mem_tb 581 (by decide +kernel) (by decide +kernel), mem_tb 6 (by decide +kernel) (by decide +kernel)⟩
theorem jd_ye_live : JV J_ye_live 3 := ⟨⟨by decide +kernel, ⟨by decide +kernel, by decide +kernel, by decide +kernel⟩, mem_tb 567 (by decide +kernel) (by decide +kernel), mem_tb 65 (by decide +kernel) (by decide +kernel)⟩, mem_tb 565 (by decide +kernel) (by decide +kernel), mem_tb 566 (by decide +kernel) (by decide +kernel)⟩
theorem jd_ye_noteOf : JV J_ye_noteOf 3 := ⟨⟨by decide +kernel, ⟨by decide +kernel, by decide +kernel, by decide +kernel⟩, mem_tb 619 (by decide +kernel) (by decide +kernel), mem_tb 65 (by decide +kernel) (by decide +kernel)⟩, mem_tb 617 (by decide +kernel) (by decide +kernel), mem_tb 618 (by decide +kernel) (by decide +kernel)⟩
theorem jd_ye_sizeOf : JV J_ye_sizeOf 2 := ⟨⟨by decide +kernel, ⟨by decide +kernel, by decide +kernel, by decide +kernel⟩, mem_tb 615 (by decide +kernel) (by decide +kernel), mem_tb 65 (by decide +kernel) (by decide +kernel)⟩, mem_tb 613 (by decide +kernel) (by decide +kernel), mem_tb 614 (by decide +kernel) (by decide +kernel)⟩
