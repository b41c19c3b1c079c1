theorem s_0 : SH 0 = (0, 8) := rfl
theorem s_1 : SH 1 = (1, 7) := rfl
theorem s_2 : SH 2 = (22, 2) := rfl
theorem s_3 : SH 3 = (23, 6) := rfl
theorem s_4 : SH 4 = (24, 6) := rfl
theorem s_5 : SH 5 = (25, 12) := rfl
theorem s_6 : SH 6 = (2, 3) := rfl
theorem s_7 : SH 7 = (20, 59) := rfl
theorem s_8 : SH 8 = (2, 3) := rfl
theorem s_9 : SH 9 = (20, 23) := rfl
theorem s_10 : SH 10 = (3, 2) := rfl
theorem s_11 : SH 11 = (20, 40) := rfl
theorem s_12 : SH 12 = (3, 2) := rfl
theorem s_13 : SH 13 = (20, 40) := rfl
theorem s_14 : SH 14 = (3, 2) := rfl
theorem s_15 : SH 15 = (20, 40) := rfl
theorem s_16 : SH 16 = (3, 2) := rfl
theorem s_17 : SH 17 = (20, 40) := rfl
theorem s_18 : SH 18 = (3, 2) := rfl
theorem s_19 : SH 19 = (20, 40) := rfl
theorem s_20 : SH 20 = (3, 2) := rfl
theorem s_21 : SH 21 = (20, 40) := rfl
theorem s_22 : SH 22 = (4, 3) := rfl
theorem s_23 : SH 23 = (4, 3) := rfl
theorem s_24 : SH 24 = (4, 3) := rfl
theorem s_25 : SH 25 = (4, 3) := rfl
theorem s_26 : SH 26 = (4, 3) := rfl
theorem s_27 : SH 27 = (4, 3) := rfl
theorem s_28 : SH 28 = (5, 7) := rfl
theorem s_29 : SH 29 = (5, 7) := rfl
theorem s_30 : SH 30 = (5, 7) := rfl
theorem s_31 : SH 31 = (5, 7) := rfl
theorem s_32 : SH 32 = (5, 7) := rfl
theorem s_33 : SH 33 = (5, 7) := rfl
theorem s_34 : SH 34 = (5, 7) := rfl
theorem s_35 : SH 35 = (5, 7) := rfl
theorem s_36 : SH 36 = (5, 7) := rfl
theorem s_37 : SH 37 = (5, 7) := rfl
theorem s_38 : SH 38 = (5, 7) := rfl
theorem s_39 : SH 39 = (5, 7) := rfl
theorem s_40 : SH 40 = (6, 8) := rfl
theorem s_41 : SH 41 = (23, 6) := rfl
theorem s_42 : SH 42 = (23, 6) := rfl
theorem s_43 : SH 43 = (20, 6) := rfl
theorem s_44 : SH 44 = (3, 2) := rfl
theorem s_45 : SH 45 = (20, 40) := rfl
theorem s_46 : SH 46 = (20, 9600) := rfl
theorem s_47 : SH 47 = (20, 240) := rfl
theorem s_48 : SH 48 = (20, 240) := rfl
theorem s_49 : SH 49 = (3, 2) := rfl
theorem s_50 : SH 50 = (20, 40) := rfl
theorem s_51 : SH 51 = (3, 2) := rfl
theorem s_52 : SH 52 = (20, 40) := rfl
theorem s_53 : SH 53 = (3, 2) := rfl
theorem s_54 : SH 54 = (20, 40) := rfl
theorem s_55 : SH 55 = (3, 2) := rfl
theorem s_56 : SH 56 = (20, 40) := rfl
theorem s_57 : SH 57 = (3, 2) := rfl
theorem s_58 : SH 58 = (20, 40) := rfl
theorem s_59 : SH 59 = (3, 2) := rfl
theorem s_60 : SH 60 = (20, 40) := rfl
theorem s_61 : SH 61 = (3, 2) := rfl
theorem s_62 : SH 62 = (20, 40) := rfl
theorem s_63 : SH 63 = (3, 2) := rfl
theorem s_64 : SH 64 = (20, 40) := rfl
theorem s_65 : SH 65 = (3, 2) := rfl
theorem s_66 : SH 66 = (20, 40) := rfl
theorem s_67 : SH 67 = (3, 2) := rfl
theorem s_68 : SH 68 = (20, 40) := rfl
theorem s_69 : SH 69 = (3, 2) := rfl
theorem s_70 : SH 70 = (20, 40) := rfl
theorem s_71 : SH 71 = (3, 2) := rfl
theorem s_72 : SH 72 = (20, 40) := rfl
theorem s_73 : SH 73 = (7, 3) := rfl
theorem s_74 : SH 74 = (23, 4) := rfl
theorem s_75 : SH 75 = (20, 3) := rfl
theorem s_76 : SH 76 = (3, 2) := rfl
theorem s_77 : SH 77 = (20, 40) := rfl
theorem s_78 : SH 78 = (3, 2) := rfl
theorem s_79 : SH 79 = (20, 40) := rfl
theorem s_80 : SH 80 = (3, 2) := rfl
theorem s_81 : SH 81 = (20, 40) := rfl
theorem s_82 : SH 82 = (3, 2) := rfl
theorem s_83 : SH 83 = (20, 40) := rfl
theorem s_84 : SH 84 = (8, 1) := rfl
theorem s_85 : SH 85 = (21, 7) := rfl
theorem s_86 : SH 86 = (9, 4) := rfl
theorem s_87 : SH 87 = (3, 2) := rfl
theorem s_88 : SH 88 = (20, 40) := rfl
theorem s_89 : SH 89 = (3, 2) := rfl
theorem s_90 : SH 90 = (20, 40) := rfl
theorem s_91 : SH 91 = (21, 10) := rfl
theorem s_92 : SH 92 = (26, 4) := rfl
theorem s_93 : SH 93 = (10, 3) := rfl
theorem s_94 : SH 94 = (20, 60) := rfl
theorem s_95 : SH 95 = (10, 3) := rfl
theorem s_96 : SH 96 = (20, 60) := rfl
theorem s_97 : SH 97 = (10, 3) := rfl
theorem s_98 : SH 98 = (20, 60) := rfl
theorem s_99 : SH 99 = (10, 3) := rfl
theorem s_100 : SH 100 = (20, 60) := rfl
theorem s_101 : SH 101 = (11, 26) := rfl
theorem s_102 : SH 102 = (20, 4) := rfl
theorem s_103 : SH 103 = (20, 4) := rfl
theorem s_104 : SH 104 = (20, 240) := rfl
theorem s_105 : SH 105 = (20, 60) := rfl
theorem s_106 : SH 106 = (20, 120) := rfl
theorem s_107 : SH 107 = (20, 2) := rfl
theorem s_108 : SH 108 = (20, 240) := rfl
theorem s_109 : SH 109 = (20, 6) := rfl
theorem s_110 : SH 110 = (20, 18) := rfl
theorem s_111 : SH 111 = (20, 48) := rfl
theorem s_112 : SH 112 = (20, 280) := rfl
theorem s_113 : SH 113 = (20, 7) := rfl
theorem s_114 : SH 114 = (20, 240) := rfl
theorem s_115 : SH 115 = (20, 6) := rfl
theorem s_116 : SH 116 = (20, 6) := rfl
theorem s_117 : SH 117 = (20, 6) := rfl
theorem s_118 : SH 118 = (20, 12) := rfl
theorem s_119 : SH 119 = (20, 12) := rfl
theorem s_120 : SH 120 = (20, 12) := rfl
theorem s_121 : SH 121 = (20, 80) := rfl
theorem s_122 : SH 122 = (20, 41) := rfl
theorem jd_bk_countingLoans : JV J_bk_countingLoans 0 := ⟨⟨by decide +kernel, ⟨by decide +kernel, by decide +kernel, by decide +kernel⟩, wc_bk_countingLoans, wi_bk⟩, wn_bk_countingLoans, wl_bk_countingLoans⟩
theorem jd_bk_goesOn : JV J_bk_goesOn 2 := ⟨⟨by decide +kernel, ⟨by decide +kernel, by decide +kernel, by decide +kernel⟩, wc_bk_goesOn, wi_bk⟩, wn_bk_goesOn, wl_bk_goesOn⟩
theorem jd_bk_readBorrowers : JV J_bk_readBorrowers 0 := ⟨⟨by decide +kernel, ⟨by decide +kernel, by decide +kernel, by decide +kernel⟩, wc_bk_readBorrowers, wi_bk⟩, wn_bk_readBorrowers, wl_bk_readBorrowers⟩
theorem jd_bk_readTunes : JV J_bk_readTunes 0 := ⟨⟨by decide +kernel, ⟨by decide +kernel, by decide +kernel, by decide +kernel⟩, wc_bk_readTunes, wi_bk⟩, wn_bk_readTunes, wl_bk_readTunes⟩
theorem jd_bk_toldNotes : JV J_bk_toldNotes 0 := ⟨⟨by decide +kernel, ⟨by decide +kernel, by decide +kernel, by decide +kernel⟩, wc_bk_toldNotes, wi_bk⟩, wn_bk_toldNotes, wl_bk_toldNotes⟩
theorem jd_ch_fairSize : JV J_ch_fairSize 4 := ⟨⟨by decide +kernel, ⟨by decide +kernel, by decide +kernel, by decide +kernel⟩, wc_ch_fairSize, wi_ch⟩, wn_ch_fairSize, wl_ch_fairSize⟩
theorem jd_ch_hum : JV J_ch_hum 1 := ⟨⟨by decide +kernel, ⟨by decide +kernel, by decide +kernel, by decide +kernel⟩, wc_ch_hum, wi_ch⟩, wn_ch_hum, wl_ch_hum⟩
theorem jd_ch_lot : JV J_ch_lot 1 := ⟨⟨by decide +kernel, ⟨by decide +kernel, by decide +kernel, by decide +kernel⟩, wc_ch_lot, wi_ch⟩, wn_ch_lot, wl_ch_lot⟩
theorem jd_ch_weigh : JV J_ch_weigh 2 := ⟨⟨by decide +kernel, ⟨by decide +kernel, by decide +kernel, by decide +kernel⟩, wc_ch_weigh, wi_ch⟩, wn_ch_weigh, wl_ch_weigh⟩
theorem jd_ch_weightOf : JV J_ch_weightOf 4 := ⟨⟨by decide +kernel, ⟨by decide +kernel, by decide +kernel, by decide +kernel⟩, wc_ch_weightOf, wi_ch⟩, wn_ch_weightOf, wl_ch_weightOf⟩
theorem jd_j1_canEncode : JS J_j1_canEncode 1 := ⟨⟨by decide +kernel, ⟨by decide +kernel, by decide +kernel, by decide +kernel⟩, wc_j1_canEncode, wi_j1⟩, ws_j1_canEncode⟩
theorem jd_j1_indexOf3 : JS J_j1_indexOf3 4 := ⟨⟨by decide +kernel, ⟨by decide +kernel, by decide +kernel, by decide +kernel⟩, wc_j1_indexOf3, wi_j1⟩, ws_j1_indexOf3⟩
theorem jd_j1_indexOfChar : JS J_j1_indexOfChar 4 := ⟨⟨by decide +kernel, ⟨by decide +kernel, by decide +kernel, by decide +kernel⟩, wc_j1_indexOfChar, wi_j1⟩, ws_j1_indexOfChar⟩
theorem jd_ji_bitCount : JS J_ji_bitCount 1 := ⟨⟨by decide +kernel, ⟨by decide +kernel, by decide +kernel, by decide +kernel⟩, wc_ji_bitCount, wi_ji⟩, ws_ji_bitCount⟩
theorem jd_jl_bitCount : JS J_jl_bitCount 1 := ⟨⟨by decide +kernel, ⟨by decide +kernel, by decide +kernel, by decide +kernel⟩, wc_jl_bitCount, wi_jl⟩, ws_jl_bitCount⟩
theorem jd_js_coder : JV J_js_coder 0 := ⟨⟨by decide +kernel, ⟨by decide +kernel, by decide +kernel, by decide +kernel⟩, wc_js_coder, wi_js⟩, wn_js_coder, wl_js_coder⟩
theorem jd_js_indexOf1 : JV J_js_indexOf1 1 := ⟨⟨by decide +kernel, ⟨by decide +kernel, by decide +kernel, by decide +kernel⟩, wc_js_indexOf1, wi_js⟩, wn_js_indexOf1, wl_js_indexOf1⟩
theorem jd_js_indexOf2 : JV J_js_indexOf2 2 := ⟨⟨by decide +kernel, ⟨by decide +kernel, by decide +kernel, by decide +kernel⟩, wc_js_indexOf2, wi_js⟩, wn_js_indexOf2, wl_js_indexOf2⟩
theorem jd_js_isLatin1 : JV J_js_isLatin1 0 := ⟨⟨by decide +kernel, ⟨by decide +kernel, by decide +kernel, by decide +kernel⟩, wc_js_isLatin1, wi_js⟩, wn_js_isLatin1, wl_js_isLatin1⟩
theorem jd_js_length : JV J_js_length 0 := ⟨⟨by decide +kernel, ⟨by decide +kernel, by decide +kernel, by decide +kernel⟩, wc_js_length, wi_js⟩, wn_js_length, wl_js_length⟩
theorem jd_li_of : JV J_li_of 2 := ⟨⟨by decide +kernel, ⟨by decide +kernel, by decide +kernel, by decide +kernel⟩, wc_li_of, wi_li⟩, wn_li_of, wl_li_of⟩
theorem jd_mo_back : JV J_mo_back 0 := ⟨⟨by decide +kernel, ⟨by decide +kernel, by decide +kernel, by decide +kernel⟩, wc_mo_back, wi_mo⟩, wn_mo_back, wl_mo_back⟩
theorem jd_mo_begins : JV J_mo_begins 2 := ⟨⟨by decide +kernel, ⟨by decide +kernel, by decide +kernel, by decide +kernel⟩, wc_mo_begins, wi_mo⟩, wn_mo_begins, wl_mo_begins⟩
theorem jd_mo_best : JV J_mo_best 1 := ⟨⟨by decide +kernel, ⟨by decide +kernel, by decide +kernel, by decide +kernel⟩, wc_mo_best, wi_mo⟩, wn_mo_best, wl_mo_best⟩
theorem jd_mo_bestOf : JV J_mo_bestOf 1 := ⟨⟨by decide +kernel, ⟨by decide +kernel, by decide +kernel, by decide +kernel⟩, wc_mo_bestOf, wi_mo⟩, wn_mo_bestOf, wl_mo_bestOf⟩
theorem jd_mo_borrower : JV J_mo_borrower 2 := ⟨⟨by decide +kernel, ⟨by decide +kernel, by decide +kernel, by decide +kernel⟩, wc_mo_borrower, wi_mo⟩, wn_mo_borrower, wl_mo_borrower⟩
theorem jd_mo_came : JV J_mo_came 2 := ⟨⟨by decide +kernel, ⟨by decide +kernel, by decide +kernel, by decide +kernel⟩, wc_mo_came, wi_mo⟩, wn_mo_came, wl_mo_came⟩
theorem jd_mo_cameOf : JV J_mo_cameOf 2 := ⟨⟨by decide +kernel, ⟨by decide +kernel, by decide +kernel, by decide +kernel⟩, wc_mo_cameOf, wi_mo⟩, wn_mo_cameOf, wl_mo_cameOf⟩
theorem jd_mo_codes : JV J_mo_codes 1 := ⟨⟨by decide +kernel, ⟨by decide +kernel, by decide +kernel, by decide +kernel⟩, wc_mo_codes, wi_mo⟩, wn_mo_codes, wl_mo_codes⟩
theorem jd_mo_common : JV J_mo_common 2 := ⟨⟨by decide +kernel, ⟨by decide +kernel, by decide +kernel, by decide +kernel⟩, wc_mo_common, wi_mo⟩, wn_mo_common, wl_mo_common⟩
theorem jd_mo_commonBoth : JV J_mo_commonBoth 2 := ⟨⟨by decide +kernel, ⟨by decide +kernel, by decide +kernel, by decide +kernel⟩, wc_mo_commonBoth, wi_mo⟩, wn_mo_commonBoth, wl_mo_commonBoth⟩
theorem jd_mo_commonOf : JV J_mo_commonOf 6 := ⟨⟨by decide +kernel, ⟨by decide +kernel, by decide +kernel, by decide +kernel⟩, wc_mo_commonOf, wi_mo⟩, wn_mo_commonOf, wl_mo_commonOf⟩
theorem jd_mo_copy : JV J_mo_copy 5 := ⟨⟨by decide +kernel, ⟨by decide +kernel, by decide +kernel, by decide +kernel⟩, wc_mo_copy, wi_mo⟩, wn_mo_copy, wl_mo_copy⟩
theorem jd_mo_count : JV J_mo_count 1 := ⟨⟨by decide +kernel, ⟨by decide +kernel, by decide +kernel, by decide +kernel⟩, wc_mo_count, wi_mo⟩, wn_mo_count, wl_mo_count⟩
theorem jd_mo_cut : JS J_mo_cut 2 := ⟨⟨by decide +kernel, ⟨by decide +kernel, by decide +kernel, by decide +kernel⟩, wc_mo_cut, wi_mo⟩, ws_mo_cut⟩
theorem jd_mo_digest : JV J_mo_digest 0 := ⟨⟨by decide +kernel, ⟨by decide +kernel, by decide +kernel, by decide +kernel⟩, wc_mo_digest, wi_mo⟩, wn_mo_digest, wl_mo_digest⟩
theorem jd_mo_ear : JV J_mo_ear 1 := ⟨⟨by decide +kernel, ⟨by decide +kernel, by decide +kernel, by decide +kernel⟩, wc_mo_ear, wi_mo⟩, wn_mo_ear, wl_mo_ear⟩
theorem jd_mo_fair : JV J_mo_fair 3 := ⟨⟨by decide +kernel, ⟨by decide +kernel, by decide +kernel, by decide +kernel⟩, wc_mo_fair, wi_mo⟩, wn_mo_fair, wl_mo_fair⟩
theorem jd_mo_fairOf : JV J_mo_fairOf 3 := ⟨⟨by decide +kernel, ⟨by decide +kernel, by decide +kernel, by decide +kernel⟩, wc_mo_fairOf, wi_mo⟩, wn_mo_fairOf, wl_mo_fairOf⟩
theorem jd_mo_far : JV J_mo_far 2 := ⟨⟨by decide +kernel, ⟨by decide +kernel, by decide +kernel, by decide +kernel⟩, wc_mo_far, wi_mo⟩, wn_mo_far, wl_mo_far⟩
theorem jd_mo_farOf : JV J_mo_farOf 2 := ⟨⟨by decide +kernel, ⟨by decide +kernel, by decide +kernel, by decide +kernel⟩, wc_mo_farOf, wi_mo⟩, wn_mo_farOf, wl_mo_farOf⟩
theorem jd_mo_fault : JV J_mo_fault 1 := ⟨⟨by decide +kernel, ⟨by decide +kernel, by decide +kernel, by decide +kernel⟩, wc_mo_fault, wi_mo⟩, wn_mo_fault, wl_mo_fault⟩
theorem jd_mo_figureOf : JV J_mo_figureOf 3 := ⟨⟨by decide +kernel, ⟨by decide +kernel, by decide +kernel, by decide +kernel⟩, wc_mo_figureOf, wi_mo⟩, wn_mo_figureOf, wl_mo_figureOf⟩
theorem jd_mo_finds : JV J_mo_finds 1 := ⟨⟨by decide +kernel, ⟨by decide +kernel, by decide +kernel, by decide +kernel⟩, wc_mo_finds, wi_mo⟩, wn_mo_finds, wl_mo_finds⟩
theorem jd_mo_get : JV J_mo_get 3 := ⟨⟨by decide +kernel, ⟨by decide +kernel, by decide +kernel, by decide +kernel⟩, wc_mo_get, wi_mo⟩, wn_mo_get, wl_mo_get⟩
theorem jd_mo_goesOn : JV J_mo_goesOn 2 := ⟨⟨by decide +kernel, ⟨by decide +kernel, by decide +kernel, by decide +kernel⟩, wc_mo_goesOn, wi_mo⟩, wn_mo_goesOn, wl_mo_goesOn⟩
theorem jd_mo_greater : JS J_mo_greater 2 := ⟨⟨by decide +kernel, ⟨by decide +kernel, by decide +kernel, by decide +kernel⟩, wc_mo_greater, wi_mo⟩, ws_mo_greater⟩
theorem jd_mo_has : JV J_mo_has 2 := ⟨⟨by decide +kernel, ⟨by decide +kernel, by decide +kernel, by decide +kernel⟩, wc_mo_has, wi_mo⟩, wn_mo_has, wl_mo_has⟩
theorem jd_mo_hasOf : JV J_mo_hasOf 2 := ⟨⟨by decide +kernel, ⟨by decide +kernel, by decide +kernel, by decide +kernel⟩, wc_mo_hasOf, wi_mo⟩, wn_mo_hasOf, wl_mo_hasOf⟩
theorem jd_mo_home : JV J_mo_home 1 := ⟨⟨by decide +kernel, ⟨by decide +kernel, by decide +kernel, by decide +kernel⟩, wc_mo_home, wi_mo⟩, wn_mo_home, wl_mo_home⟩
theorem jd_mo_homeOf : JV J_mo_homeOf 1 := ⟨⟨by decide +kernel, ⟨by decide +kernel, by decide +kernel, by decide +kernel⟩, wc_mo_homeOf, wi_mo⟩, wn_mo_homeOf, wl_mo_homeOf⟩
theorem jd_mo_howOf : JS J_mo_howOf 1 := ⟨⟨by decide +kernel, ⟨by decide +kernel, by decide +kernel, by decide +kernel⟩, wc_mo_howOf, wi_mo⟩, ws_mo_howOf⟩
theorem jd_mo_hummed : JV J_mo_hummed 2 := ⟨⟨by decide +kernel, ⟨by decide +kernel, by decide +kernel, by decide +kernel⟩, wc_mo_hummed, wi_mo⟩, wn_mo_hummed, wl_mo_hummed⟩
theorem jd_mo_hums : JV J_mo_hums 6 := ⟨⟨by decide +kernel, ⟨by decide +kernel, by decide +kernel, by decide +kernel⟩, wc_mo_hums, wi_mo⟩, wn_mo_hums, wl_mo_hums⟩
theorem jd_mo_humsOf : JV J_mo_humsOf 6 := ⟨⟨by decide +kernel, ⟨by decide +kernel, by decide +kernel, by decide +kernel⟩, wc_mo_humsOf, wi_mo⟩, wn_mo_humsOf, wl_mo_humsOf⟩
theorem jd_mo_in : JS J_mo_in 3 := ⟨⟨by decide +kernel, ⟨by decide +kernel, by decide +kernel, by decide +kernel⟩, wc_mo_in, wi_mo⟩, ws_mo_in⟩
theorem jd_mo_interest : JV J_mo_interest 1 := ⟨⟨by decide +kernel, ⟨by decide +kernel, by decide +kernel, by decide +kernel⟩, wc_mo_interest, wi_mo⟩, wn_mo_interest, wl_mo_interest⟩
theorem jd_mo_interestBy : JV J_mo_interestBy 2 := ⟨⟨by decide +kernel, ⟨by decide +kernel, by decide +kernel, by decide +kernel⟩, wc_mo_interestBy, wi_mo⟩, wn_mo_interestBy, wl_mo_interestBy⟩
theorem jd_mo_isBorrower : JV J_mo_isBorrower 1 := ⟨⟨by decide +kernel, ⟨by decide +kernel, by decide +kernel, by decide +kernel⟩, wc_mo_isBorrower, wi_mo⟩, wn_mo_isBorrower, wl_mo_isBorrower⟩
theorem jd_mo_isIn : JS J_mo_isIn 2 := ⟨⟨by decide +kernel, ⟨by decide +kernel, by decide +kernel, by decide +kernel⟩, wc_mo_isIn, wi_mo⟩, ws_mo_isIn⟩
theorem jd_mo_isNow : JV J_mo_isNow 1 := ⟨⟨by decide +kernel, ⟨by decide +kernel, by decide +kernel, by decide +kernel⟩, wc_mo_isNow, wi_mo⟩, wn_mo_isNow, wl_mo_isNow⟩
theorem jd_mo_isSheet : JS J_mo_isSheet 1 := ⟨⟨by decide +kernel, ⟨by decide +kernel, by decide +kernel, by decide +kernel⟩, wc_mo_isSheet, wi_mo⟩, ws_mo_isSheet⟩
theorem jd_mo_isTune : JV J_mo_isTune 1 := ⟨⟨by decide +kernel, ⟨by decide +kernel, by decide +kernel, by decide +kernel⟩, wc_mo_isTune, wi_mo⟩, wn_mo_isTune, wl_mo_isTune⟩
theorem jd_mo_isTwo : JS J_mo_isTwo 1 := ⟨⟨by decide +kernel, ⟨by decide +kernel, by decide +kernel, by decide +kernel⟩, wc_mo_isTwo, wi_mo⟩, ws_mo_isTwo⟩
theorem jd_mo_isYear : JS J_mo_isYear 1 := ⟨⟨by decide +kernel, ⟨by decide +kernel, by decide +kernel, by decide +kernel⟩, wc_mo_isYear, wi_mo⟩, ws_mo_isYear⟩
theorem jd_mo_lacks : JV J_mo_lacks 3 := ⟨⟨by decide +kernel, ⟨by decide +kernel, by decide +kernel, by decide +kernel⟩, wc_mo_lacks, wi_mo⟩, wn_mo_lacks, wl_mo_lacks⟩
theorem jd_mo_lay : JV J_mo_lay 4 := ⟨⟨by decide +kernel, ⟨by decide +kernel, by decide +kernel, by decide +kernel⟩, wc_mo_lay, wi_mo⟩, wn_mo_lay, wl_mo_lay⟩
theorem jd_mo_lend : JV J_mo_lend 3 := ⟨⟨by decide +kernel, ⟨by decide +kernel, by decide +kernel, by decide +kernel⟩, wc_mo_lend, wi_mo⟩, wn_mo_lend, wl_mo_lend⟩
theorem jd_mo_lendOf : JV J_mo_lendOf 3 := ⟨⟨by decide +kernel, ⟨by decide +kernel, by decide +kernel, by decide +kernel⟩, wc_mo_lendOf, wi_mo⟩, wn_mo_lendOf, wl_mo_lendOf⟩
theorem jd_mo_lends : JV J_mo_lends 1 := ⟨⟨by decide +kernel, ⟨by decide +kernel, by decide +kernel, by decide +kernel⟩, wc_mo_lends, wi_mo⟩, wn_mo_lends, wl_mo_lends⟩
theorem jd_mo_lesser : JS J_mo_lesser 2 := ⟨⟨by decide +kernel, ⟨by decide +kernel, by decide +kernel, by decide +kernel⟩, wc_mo_lesser, wi_mo⟩, ws_mo_lesser⟩
theorem jd_mo_lives : JV J_mo_lives 2 := ⟨⟨by decide +kernel, ⟨by decide +kernel, by decide +kernel, by decide +kernel⟩, wc_mo_lives, wi_mo⟩, wn_mo_lives, wl_mo_lives⟩
theorem jd_mo_loan : JV J_mo_loan 4 := ⟨⟨by decide +kernel, ⟨by decide +kernel, by decide +kernel, by decide +kernel⟩, wc_mo_loan, wi_mo⟩, wn_mo_loan, wl_mo_loan⟩
theorem jd_mo_longest : JV J_mo_longest 3 := ⟨⟨by decide +kernel, ⟨by decide +kernel, by decide +kernel, by decide +kernel⟩, wc_mo_longest, wi_mo⟩, wn_mo_longest, wl_mo_longest⟩
theorem jd_mo_longestOf : JV J_mo_longestOf 3 := ⟨⟨by decide +kernel, ⟨by decide +kernel, by decide +kernel, by decide +kernel⟩, wc_mo_longestOf, wi_mo⟩, wn_mo_longestOf, wl_mo_longestOf⟩
theorem jd_mo_lose : JV J_mo_lose 1 := ⟨⟨by decide +kernel, ⟨by decide +kernel, by decide +kernel, by decide +kernel⟩, wc_mo_lose, wi_mo⟩, wn_mo_lose, wl_mo_lose⟩
theorem jd_mo_loses : JV J_mo_loses 1 := ⟨⟨by decide +kernel, ⟨by decide +kernel, by decide +kernel, by decide +kernel⟩, wc_mo_loses, wi_mo⟩, wn_mo_loses, wl_mo_loses⟩
theorem jd_mo_losesOf : JV J_mo_losesOf 1 := ⟨⟨by decide +kernel, ⟨by decide +kernel, by decide +kernel, by decide +kernel⟩, wc_mo_losesOf, wi_mo⟩, wn_mo_losesOf, wl_mo_losesOf⟩
theorem jd_mo_mothers : JV J_mo_mothers 1 := ⟨⟨by decide +kernel, ⟨by decide +kernel, by decide +kernel, by decide +kernel⟩, wc_mo_mothers, wi_mo⟩, wn_mo_mothers, wl_mo_mothers⟩
theorem jd_mo_mothersOf : JV J_mo_mothersOf 1 := ⟨⟨by decide +kernel, ⟨by decide +kernel, by decide +kernel, by decide +kernel⟩, wc_mo_mothersOf, wi_mo⟩, wn_mo_mothersOf, wl_mo_mothersOf⟩
theorem jd_mo_nearest : JV J_mo_nearest 1 := ⟨⟨by decide +kernel, ⟨by decide +kernel, by decide +kernel, by decide +kernel⟩, wc_mo_nearest, wi_mo⟩, wn_mo_nearest, wl_mo_nearest⟩
theorem jd_mo_nearestOf : JV J_mo_nearestOf 1 := ⟨⟨by decide +kernel, ⟨by decide +kernel, by decide +kernel, by decide +kernel⟩, wc_mo_nearestOf, wi_mo⟩, wn_mo_nearestOf, wl_mo_nearestOf⟩
theorem jd_mo_no : JS J_mo_no 1 := ⟨⟨by decide +kernel, ⟨by decide +kernel, by decide +kernel, by decide +kernel⟩, wc_mo_no, wi_mo⟩, ws_mo_no⟩
theorem jd_mo_noteAt : JV J_mo_noteAt 2 := ⟨⟨by decide +kernel, ⟨by decide +kernel, by decide +kernel, by decide +kernel⟩, wc_mo_noteAt, wi_mo⟩, wn_mo_noteAt, wl_mo_noteAt⟩
theorem jd_mo_notes : JV J_mo_notes 3 := ⟨⟨by decide +kernel, ⟨by decide +kernel, by decide +kernel, by decide +kernel⟩, wc_mo_notes, wi_mo⟩, wn_mo_notes, wl_mo_notes⟩
theorem jd_mo_notesNow : JV J_mo_notesNow 0 := ⟨⟨by decide +kernel, ⟨by decide +kernel, by decide +kernel, by decide +kernel⟩, wc_mo_notesNow, wi_mo⟩, wn_mo_notesNow, wl_mo_notesNow⟩
theorem jd_mo_notesOf : JV J_mo_notesOf 3 := ⟨⟨by decide +kernel, ⟨by decide +kernel, by decide +kernel, by decide +kernel⟩, wc_mo_notesOf, wi_mo⟩, wn_mo_notesOf, wl_mo_notesOf⟩
theorem jd_mo_ones : JS J_mo_ones 1 := ⟨⟨by decide +kernel, ⟨by decide +kernel, by decide +kernel, by decide +kernel⟩, wc_mo_ones, wi_mo⟩, ws_mo_ones⟩
theorem jd_mo_part : JS J_mo_part 3 := ⟨⟨by decide +kernel, ⟨by decide +kernel, by decide +kernel, by decide +kernel⟩, wc_mo_part, wi_mo⟩, ws_mo_part⟩
theorem jd_mo_read : JV J_mo_read 1 := ⟨⟨by decide +kernel, ⟨by decide +kernel, by decide +kernel, by decide +kernel⟩, wc_mo_read, wi_mo⟩, wn_mo_read, wl_mo_read⟩
theorem jd_mo_reads : JV J_mo_reads 0 := ⟨⟨by decide +kernel, ⟨by decide +kernel, by decide +kernel, by decide +kernel⟩, wc_mo_reads, wi_mo⟩, wn_mo_reads, wl_mo_reads⟩
theorem jd_mo_readsBorrowers : JV J_mo_readsBorrowers 0 := ⟨⟨by decide +kernel, ⟨by decide +kernel, by decide +kernel, by decide +kernel⟩, wc_mo_readsBorrowers, wi_mo⟩, wn_mo_readsBorrowers, wl_mo_readsBorrowers⟩
theorem jd_mo_readsTunes : JV J_mo_readsTunes 0 := ⟨⟨by decide +kernel, ⟨by decide +kernel, by decide +kernel, by decide +kernel⟩, wc_mo_readsTunes, wi_mo⟩, wn_mo_readsTunes, wl_mo_readsTunes⟩
theorem jd_mo_returns : JV J_mo_returns 2 := ⟨⟨by decide +kernel, ⟨by decide +kernel, by decide +kernel, by decide +kernel⟩, wc_mo_returns, wi_mo⟩, wn_mo_returns, wl_mo_returns⟩
theorem jd_mo_rowOf : JV J_mo_rowOf 2 := ⟨⟨by decide +kernel, ⟨by decide +kernel, by decide +kernel, by decide +kernel⟩, wc_mo_rowOf, wi_mo⟩, wn_mo_rowOf, wl_mo_rowOf⟩
theorem jd_mo_sheet : JV J_mo_sheet 3 := ⟨⟨by decide +kernel, ⟨by decide +kernel, by decide +kernel, by decide +kernel⟩, wc_mo_sheet, wi_mo⟩, wn_mo_sheet, wl_mo_sheet⟩
theorem jd_mo_startsAll : JV J_mo_startsAll 0 := ⟨⟨by decide +kernel, ⟨by decide +kernel, by decide +kernel, by decide +kernel⟩, wc_mo_startsAll, wi_mo⟩, wn_mo_startsAll, wl_mo_startsAll⟩
theorem jd_mo_tells : JV J_mo_tells 2 := ⟨⟨by decide +kernel, ⟨by decide +kernel, by decide +kernel, by decide +kernel⟩, wc_mo_tells, wi_mo⟩, wn_mo_tells, wl_mo_tells⟩
theorem jd_mo_tellsBits : JS J_mo_tellsBits 2 := ⟨⟨by decide +kernel, ⟨by decide +kernel, by decide +kernel, by decide +kernel⟩, wc_mo_tellsBits, wi_mo⟩, ws_mo_tellsBits⟩
theorem jd_mo_tellsOf : JV J_mo_tellsOf 1 := ⟨⟨by decide +kernel, ⟨by decide +kernel, by decide +kernel, by decide +kernel⟩, wc_mo_tellsOf, wi_mo⟩, wn_mo_tellsOf, wl_mo_tellsOf⟩
theorem jd_mo_tellsTune : JV J_mo_tellsTune 2 := ⟨⟨by decide +kernel, ⟨by decide +kernel, by decide +kernel, by decide +kernel⟩, wc_mo_tellsTune, wi_mo⟩, wn_mo_tellsTune, wl_mo_tellsTune⟩
theorem jd_mo_tune : JV J_mo_tune 2 := ⟨⟨by decide +kernel, ⟨by decide +kernel, by decide +kernel, by decide +kernel⟩, wc_mo_tune, wi_mo⟩, wn_mo_tune, wl_mo_tune⟩
theorem jd_mo_tunesFault : JV J_mo_tunesFault 1 := ⟨⟨by decide +kernel, ⟨by decide +kernel, by decide +kernel, by decide +kernel⟩, wc_mo_tunesFault, wi_mo⟩, wn_mo_tunesFault, wl_mo_tunesFault⟩
theorem jd_mo_turns : JV J_mo_turns 3 := ⟨⟨by decide +kernel, ⟨by decide +kernel, by decide +kernel, by decide +kernel⟩, wc_mo_turns, wi_mo⟩, wn_mo_turns, wl_mo_turns⟩
theorem jd_mo_type : JV J_mo_type 2 := ⟨⟨by decide +kernel, ⟨by decide +kernel, by decide +kernel, by decide +kernel⟩, wc_mo_type, wi_mo⟩, wn_mo_type, wl_mo_type⟩
theorem jd_mo_undo : JV J_mo_undo 1 := ⟨⟨by decide +kernel, ⟨by decide +kernel, by decide +kernel, by decide +kernel⟩, wc_mo_undo, wi_mo⟩, wn_mo_undo, wl_mo_undo⟩
theorem jd_mo_who : JV J_mo_who 3 := ⟨⟨by decide +kernel, ⟨by decide +kernel, by decide +kernel, by decide +kernel⟩, wc_mo_who, wi_mo⟩, wn_mo_who, wl_mo_who⟩
theorem jd_mo_whoOf : JV J_mo_whoOf 3 := ⟨⟨by decide +kernel, ⟨by decide +kernel, by decide +kernel, by decide +kernel⟩, wc_mo_whoOf, wi_mo⟩, wn_mo_whoOf, wl_mo_whoOf⟩
theorem jd_mo_wipe : JV J_mo_wipe 1 := ⟨⟨by decide +kernel, ⟨by decide +kernel, by decide +kernel, by decide +kernel⟩, wc_mo_wipe, wi_mo⟩, wn_mo_wipe, wl_mo_wipe⟩
theorem jd_mo_write : JV J_mo_write 3 := ⟨⟨by decide +kernel, ⟨by decide +kernel, by decide +kernel, by decide +kernel⟩, wc_mo_write, wi_mo⟩, wn_mo_write, wl_mo_write⟩
theorem jd_sh_begin : JV J_sh_begin 2 := ⟨⟨by decide +kernel, ⟨by decide +kernel, by decide +kernel, by decide +kernel⟩, wc_sh_begin, wi_sh⟩, wn_sh_begin, wl_sh_begin⟩
theorem jd_sh_hasSpan : JV J_sh_hasSpan 2 := ⟨⟨by decide +kernel, ⟨by decide +kernel, by decide +kernel, by decide +kernel⟩, wc_sh_hasSpan, wi_sh⟩, wn_sh_hasSpan, wl_sh_hasSpan⟩
theorem jd_sh_isLost : JV J_sh_isLost 0 := ⟨⟨by decide +kernel, ⟨by decide +kernel, by decide +kernel, by decide +kernel⟩, wc_sh_isLost, wi_sh⟩, wn_sh_isLost, wl_sh_isLost⟩
theorem jd_sh_put : JV J_sh_put 2 := ⟨⟨by decide +kernel, ⟨by decide +kernel, by decide +kernel, by decide +kernel⟩, wc_sh_put, wi_sh⟩, wn_sh_put, wl_sh_put⟩
theorem jd_tl_back : JV J_tl_back 0 := ⟨⟨by decide +kernel, ⟨by decide +kernel, by decide +kernel, by decide +kernel⟩, wc_tl_back, wi_tl⟩, wn_tl_back, wl_tl_back⟩
theorem jd_tl_best : JV J_tl_best 1 := ⟨⟨by decide +kernel, ⟨by decide +kernel, by decide +kernel, by decide +kernel⟩, wc_tl_best, wi_tl⟩, wn_tl_best, wl_tl_best⟩
theorem jd_tl_borrower : JV J_tl_borrower 2 := ⟨⟨by decide +kernel, ⟨by decide +kernel, by decide +kernel, by decide +kernel⟩, wc_tl_borrower, wi_tl⟩, wn_tl_borrower, wl_tl_borrower⟩
theorem jd_tl_came : JV J_tl_came 2 := ⟨⟨by decide +kernel, ⟨by decide +kernel, by decide +kernel, by decide +kernel⟩, wc_tl_came, wi_tl⟩, wn_tl_came, wl_tl_came⟩
theorem jd_tl_common : JV J_tl_common 2 := ⟨⟨by decide +kernel, ⟨by decide +kernel, by decide +kernel, by decide +kernel⟩, wc_tl_common, wi_tl⟩, wn_tl_common, wl_tl_common⟩
theorem jd_tl_copy : JV J_tl_copy 5 := ⟨⟨by decide +kernel, ⟨by decide +kernel, by decide +kernel, by decide +kernel⟩, wc_tl_copy, wi_tl⟩, wn_tl_copy, wl_tl_copy⟩
theorem jd_tl_count : JV J_tl_count 1 := ⟨⟨by decide +kernel, ⟨by decide +kernel, by decide +kernel, by decide +kernel⟩, wc_tl_count, wi_tl⟩, wn_tl_count, wl_tl_count⟩
theorem jd_tl_digest : JV J_tl_digest 0 := ⟨⟨by decide +kernel, ⟨by decide +kernel, by decide +kernel, by decide +kernel⟩, wc_tl_digest, wi_tl⟩, wn_tl_digest, wl_tl_digest⟩
theorem jd_tl_digestAlone : JV J_tl_digestAlone 2 := ⟨⟨by decide +kernel, ⟨by decide +kernel, by decide +kernel, by decide +kernel⟩, wc_tl_digestAlone, wi_tl⟩, wn_tl_digestAlone, wl_tl_digestAlone⟩
theorem jd_tl_digestTogether : JV J_tl_digestTogether 2 := ⟨⟨by decide +kernel, ⟨by decide +kernel, by decide +kernel, by decide +kernel⟩, wc_tl_digestTogether, wi_tl⟩, wn_tl_digestTogether, wl_tl_digestTogether⟩
theorem jd_tl_ear : JV J_tl_ear 1 := ⟨⟨by decide +kernel, ⟨by decide +kernel, by decide +kernel, by decide +kernel⟩, wc_tl_ear, wi_tl⟩, wn_tl_ear, wl_tl_ear⟩
theorem jd_tl_fair : JV J_tl_fair 3 := ⟨⟨by decide +kernel, ⟨by decide +kernel, by decide +kernel, by decide +kernel⟩, wc_tl_fair, wi_tl⟩, wn_tl_fair, wl_tl_fair⟩
theorem jd_tl_far : JV J_tl_far 2 := ⟨⟨by decide +kernel, ⟨by decide +kernel, by decide +kernel, by decide +kernel⟩, wc_tl_far, wi_tl⟩, wn_tl_far, wl_tl_far⟩
theorem jd_tl_fault : JV J_tl_fault 1 := ⟨⟨by decide +kernel, ⟨by decide +kernel, by decide +kernel, by decide +kernel⟩, wc_tl_fault, wi_tl⟩, wn_tl_fault, wl_tl_fault⟩
theorem jd_tl_found : JV J_tl_found 1 := ⟨⟨by decide +kernel, ⟨by decide +kernel, by decide +kernel, by decide +kernel⟩, wc_tl_found, wi_tl⟩, wn_tl_found, wl_tl_found⟩
theorem jd_tl_get : JV J_tl_get 3 := ⟨⟨by decide +kernel, ⟨by decide +kernel, by decide +kernel, by decide +kernel⟩, wc_tl_get, wi_tl⟩, wn_tl_get, wl_tl_get⟩
theorem jd_tl_has : JV J_tl_has 2 := ⟨⟨by decide +kernel, ⟨by decide +kernel, by decide +kernel, by decide +kernel⟩, wc_tl_has, wi_tl⟩, wn_tl_has, wl_tl_has⟩
theorem jd_tl_home : JV J_tl_home 1 := ⟨⟨by decide +kernel, ⟨by decide +kernel, by decide +kernel, by decide +kernel⟩, wc_tl_home, wi_tl⟩, wn_tl_home, wl_tl_home⟩
theorem jd_tl_hums : JV J_tl_hums 6 := ⟨⟨by decide +kernel, ⟨by decide +kernel, by decide +kernel, by decide +kernel⟩, wc_tl_hums, wi_tl⟩, wn_tl_hums, wl_tl_hums⟩
theorem jd_tl_interest : JV J_tl_interest 1 := ⟨⟨by decide +kernel, ⟨by decide +kernel, by decide +kernel, by decide +kernel⟩, wc_tl_interest, wi_tl⟩, wn_tl_interest, wl_tl_interest⟩
theorem jd_tl_interestBy : JV J_tl_interestBy 2 := ⟨⟨by decide +kernel, ⟨by decide +kernel, by decide +kernel, by decide +kernel⟩, wc_tl_interestBy, wi_tl⟩, wn_tl_interestBy, wl_tl_interestBy⟩
theorem jd_tl_isBorrower : JV J_tl_isBorrower 1 := ⟨⟨by decide +kernel, ⟨by decide +kernel, by decide +kernel, by decide +kernel⟩, wc_tl_isBorrower, wi_tl⟩, wn_tl_isBorrower, wl_tl_isBorrower⟩
theorem jd_tl_isEar : JS J_tl_isEar 1 := ⟨⟨by decide +kernel, ⟨by decide +kernel, by decide +kernel, by decide +kernel⟩, wc_tl_isEar, wi_tl⟩, ws_tl_isEar⟩
theorem jd_tl_isForm : JS J_tl_isForm 1 := ⟨⟨by decide +kernel, ⟨by decide +kernel, by decide +kernel, by decide +kernel⟩, wc_tl_isForm, wi_tl⟩, ws_tl_isForm⟩
theorem jd_tl_isSheet : JS J_tl_isSheet 1 := ⟨⟨by decide +kernel, ⟨by decide +kernel, by decide +kernel, by decide +kernel⟩, wc_tl_isSheet, wi_tl⟩, ws_tl_isSheet⟩
theorem jd_tl_isText : JS J_tl_isText 1 := ⟨⟨by decide +kernel, ⟨by decide +kernel, by decide +kernel, by decide +kernel⟩, wc_tl_isText, wi_tl⟩, ws_tl_isText⟩
theorem jd_tl_isTune : JV J_tl_isTune 1 := ⟨⟨by decide +kernel, ⟨by decide +kernel, by decide +kernel, by decide +kernel⟩, wc_tl_isTune, wi_tl⟩, wn_tl_isTune, wl_tl_isTune⟩
theorem jd_tl_isYear : JS J_tl_isYear 1 := ⟨⟨by decide +kernel, ⟨by decide +kernel, by decide +kernel, by decide +kernel⟩, wc_tl_isYear, wi_tl⟩, ws_tl_isYear⟩
theorem jd_tl_lay : JV J_tl_lay 4 := ⟨⟨by decide +kernel, ⟨by decide +kernel, by decide +kernel, by decide +kernel⟩, wc_tl_lay, wi_tl⟩, wn_tl_lay, wl_tl_lay⟩
theorem jd_tl_lend : JV J_tl_lend 3 := ⟨⟨by decide +kernel, ⟨by decide +kernel, by decide +kernel, by decide +kernel⟩, wc_tl_lend, wi_tl⟩, wn_tl_lend, wl_tl_lend⟩
theorem jd_tl_loan : JV J_tl_loan 4 := ⟨⟨by decide +kernel, ⟨by decide +kernel, by decide +kernel, by decide +kernel⟩, wc_tl_loan, wi_tl⟩, wn_tl_loan, wl_tl_loan⟩
theorem jd_tl_longest : JV J_tl_longest 3 := ⟨⟨by decide +kernel, ⟨by decide +kernel, by decide +kernel, by decide +kernel⟩, wc_tl_longest, wi_tl⟩, wn_tl_longest, wl_tl_longest⟩
theorem jd_tl_lose : JV J_tl_lose 1 := ⟨⟨by decide +kernel, ⟨by decide +kernel, by decide +kernel, by decide +kernel⟩, wc_tl_lose, wi_tl⟩, wn_tl_lose, wl_tl_lose⟩
theorem jd_tl_loses : JV J_tl_loses 1 := ⟨⟨by decide +kernel, ⟨by decide +kernel, by decide +kernel, by decide +kernel⟩, wc_tl_loses, wi_tl⟩, wn_tl_loses, wl_tl_loses⟩
theorem jd_tl_mothers : JV J_tl_mothers 1 := ⟨⟨by decide +kernel, ⟨by decide +kernel, by decide +kernel, by decide +kernel⟩, wc_tl_mothers, wi_tl⟩, wn_tl_mothers, wl_tl_mothers⟩
theorem jd_tl_nearest : JV J_tl_nearest 1 := ⟨⟨by decide +kernel, ⟨by decide +kernel, by decide +kernel, by decide +kernel⟩, wc_tl_nearest, wi_tl⟩, wn_tl_nearest, wl_tl_nearest⟩
theorem jd_tl_notes : JV J_tl_notes 3 := ⟨⟨by decide +kernel, ⟨by decide +kernel, by decide +kernel, by decide +kernel⟩, wc_tl_notes, wi_tl⟩, wn_tl_notes, wl_tl_notes⟩
theorem jd_tl_read : JV J_tl_read 1 := ⟨⟨by decide +kernel, ⟨by decide +kernel, by decide +kernel, by decide +kernel⟩, wc_tl_read, wi_tl⟩, wn_tl_read, wl_tl_read⟩
theorem jd_tl_refusalOfItem : JV J_tl_refusalOfItem 3 := ⟨⟨by decide +kernel, ⟨by decide +kernel, by decide +kernel, by decide +kernel⟩, wc_tl_refusalOfItem, wi_tl⟩, wn_tl_refusalOfItem, wl_tl_refusalOfItem⟩
theorem jd_tl_resized : JV J_tl_resized 2 := ⟨⟨by decide +kernel, ⟨by decide +kernel, by decide +kernel, by decide +kernel⟩, wc_tl_resized, wi_tl⟩, wn_tl_resized, wl_tl_resized⟩
theorem jd_tl_sheet : JV J_tl_sheet 3 := ⟨⟨by decide +kernel, ⟨by decide +kernel, by decide +kernel, by decide +kernel⟩, wc_tl_sheet, wi_tl⟩, wn_tl_sheet, wl_tl_sheet⟩
theorem jd_tl_tellFrom : JS J_tl_tellFrom 3 := ⟨⟨by decide +kernel, ⟨by decide +kernel, by decide +kernel, by decide +kernel⟩, wc_tl_tellFrom, wi_tl⟩, ws_tl_tellFrom⟩
theorem jd_tl_tellFromAll : JV J_tl_tellFromAll 2 := ⟨⟨by decide +kernel, ⟨by decide +kernel, by decide +kernel, by decide +kernel⟩, wc_tl_tellFromAll, wi_tl⟩, wn_tl_tellFromAll, wl_tl_tellFromAll⟩
theorem jd_tl_tells : JV J_tl_tells 2 := ⟨⟨by decide +kernel, ⟨by decide +kernel, by decide +kernel, by decide +kernel⟩, wc_tl_tells, wi_tl⟩, wn_tl_tells, wl_tl_tells⟩
theorem jd_tl_tune : JV J_tl_tune 2 := ⟨⟨by decide +kernel, ⟨by decide +kernel, by decide +kernel, by decide +kernel⟩, wc_tl_tune, wi_tl⟩, wn_tl_tune, wl_tl_tune⟩
theorem jd_tl_type : JV J_tl_type 2 := ⟨⟨by decide +kernel, ⟨by decide +kernel, by decide +kernel, by decide +kernel⟩, wc_tl_type, wi_tl⟩, wn_tl_type, wl_tl_type⟩
theorem jd_tl_undo : JV J_tl_undo 1 := ⟨⟨by decide +kernel, ⟨by decide +kernel, by decide +kernel, by decide +kernel⟩, wc_tl_undo, wi_tl⟩, wn_tl_undo, wl_tl_undo⟩
theorem jd_tl_who : JV J_tl_who 3 := ⟨⟨by decide +kernel, ⟨by decide +kernel, by decide +kernel, by decide +kernel⟩, wc_tl_who, wi_tl⟩, wn_tl_who, wl_tl_who⟩
theorem jd_tl_wipe : JV J_tl_wipe 1 := ⟨⟨by decide +kernel, ⟨by decide +kernel, by decide +kernel, by decide +kernel⟩, wc_tl_wipe, wi_tl⟩, wn_tl_wipe, wl_tl_wipe⟩
theorem jd_tl_within : JS J_tl_within 3 := ⟨⟨by decide +kernel, ⟨by decide +kernel, by decide +kernel, by decide +kernel⟩, wc_tl_within, wi_tl⟩, ws_tl_within⟩
theorem jd_tl_write : JV J_tl_write 3 := ⟨⟨by decide +kernel, ⟨by decide +kernel, by decide +kernel, by decide +kernel⟩, wc_tl_write, wi_tl⟩, wn_tl_write, wl_tl_write⟩
theorem jd_tr_after : JV J_tr_after 3 := ⟨⟨by decide +kernel, ⟨by decide +kernel, by decide +kernel, by decide +kernel⟩, wc_tr_after, wi_tr⟩, wn_tr_after, wl_tr_after⟩
theorem jd_tr_begin : JV J_tr_begin 1 := ⟨⟨by decide +kernel, ⟨by decide +kernel, by decide +kernel, by decide +kernel⟩, wc_tr_begin, wi_tr⟩, wn_tr_begin, wl_tr_begin⟩
theorem jd_tr_figures : JV J_tr_figures 3 := ⟨⟨by decide +kernel, ⟨by decide +kernel, by decide +kernel, by decide +kernel⟩, wc_tr_figures, wi_tr⟩, wn_tr_figures, wl_tr_figures⟩
theorem jd_tr_rowsOf : JV J_tr_rowsOf 2 := ⟨⟨by decide +kernel, ⟨by decide +kernel, by decide +kernel, by decide +kernel⟩, wc_tr_rowsOf, wi_tr⟩, wn_tr_rowsOf, wl_tr_rowsOf⟩
theorem jd_tr_turnOf : JV J_tr_turnOf 4 := ⟨⟨by decide +kernel, ⟨by decide +kernel, by decide +kernel, by decide +kernel⟩, wc_tr_turnOf, wi_tr⟩, wn_tr_turnOf, wl_tr_turnOf⟩
theorem jd_tu_add : JV J_tu_add 1 := ⟨⟨by decide +kernel, ⟨by decide +kernel, by decide +kernel, by decide +kernel⟩, wc_tu_add, wi_tu⟩, wn_tu_add, wl_tu_add⟩
theorem jd_tu_at : JV J_tu_at 1 := ⟨⟨by decide +kernel, ⟨by decide +kernel, by decide +kernel, by decide +kernel⟩, wc_tu_at, wi_tu⟩, wn_tu_at, wl_tu_at⟩
theorem jd_tu_become : JV J_tu_become 1 := ⟨⟨by decide +kernel, ⟨by decide +kernel, by decide +kernel, by decide +kernel⟩, wc_tu_become, wi_tu⟩, wn_tu_become, wl_tu_become⟩
theorem jd_tu_becomeHummed : JV J_tu_becomeHummed 2 := ⟨⟨by decide +kernel, ⟨by decide +kernel, by decide +kernel, by decide +kernel⟩, wc_tu_becomeHummed, wi_tu⟩, wn_tu_becomeHummed, wl_tu_becomeHummed⟩
theorem jd_tu_bits : JV J_tu_bits 0 := ⟨⟨by decide +kernel, ⟨by decide +kernel, by decide +kernel, by decide +kernel⟩, wc_tu_bits, wi_tu⟩, wn_tu_bits, wl_tu_bits⟩
theorem jd_tu_isLike : JV J_tu_isLike 1 := ⟨⟨by decide +kernel, ⟨by decide +kernel, by decide +kernel, by decide +kernel⟩, wc_tu_isLike, wi_tu⟩, wn_tu_isLike, wl_tu_isLike⟩
theorem jd_tx_noteAt : JV J_tx_noteAt 1 := ⟨⟨by decide +kernel, ⟨by decide +kernel, by decide +kernel, by decide +kernel⟩, wc_tx_noteAt, wi_tx⟩, wn_tx_noteAt, wl_tx_noteAt⟩
theorem jd_ye_allAtBank : JV J_ye_allAtBank 2 := ⟨⟨by decide +kernel, ⟨by decide +kernel, by decide +kernel, by decide +kernel⟩, wc_ye_allAtBank, wi_ye⟩, wn_ye_allAtBank, wl_ye_allAtBank⟩
theorem jd_ye_begin : JV J_ye_begin 1 := ⟨⟨by decide +kernel, ⟨by decide +kernel, by decide +kernel, by decide +kernel⟩, wc_ye_begin, wi_ye⟩, wn_ye_begin, wl_ye_begin⟩
theorem jd_ye_comeBack : JV J_ye_comeBack 4 := ⟨⟨by decide +kernel, ⟨by decide +kernel, by decide +kernel, by decide +kernel⟩, wc_ye_comeBack, wi_ye⟩, wn_ye_comeBack, wl_ye_comeBack⟩
theorem jd_ye_forget : JV J_ye_forget 0 := ⟨⟨by decide +kernel, ⟨by decide +kernel, by decide +kernel, by decide +kernel⟩, wc_ye_forget, wi_ye⟩, wn_ye_forget, wl_ye_forget⟩
theorem jd_ye_holderOf : JV J_ye_holderOf 2 := ⟨⟨by decide +kernel, ⟨by decide +kernel, by decide +kernel, by decide +kernel⟩, wc_ye_holderOf, wi_ye⟩, wn_ye_holderOf, wl_ye_holderOf⟩
theorem jd_ye_humLent : JV J_ye_humLent 1 := ⟨⟨by decide +kernel, ⟨by decide +kernel, by decide +kernel, by decide +kernel⟩, wc_ye_humLent, wi_ye⟩, wn_ye_humLent, wl_ye_humLent⟩
theorem jd_ye_keep : JV J_ye_keep 2 := ⟨⟨by decide +kernel, ⟨by decide +kernel, by decide +kernel, by decide +kernel⟩, wc_ye_keep, wi_ye⟩, wn_ye_keep, wl_ye_keep⟩
theorem jd_ye_lendOut : JV J_ye_lendOut 2 := ⟨⟨by decide +kernel, ⟨by decide +kernel, by decide +kernel, by decide +kernel⟩, wc_ye_lendOut, wi_ye⟩, wn_ye_lendOut, wl_ye_lendOut⟩
theorem jd_ye_live : JV J_ye_live 3 := ⟨⟨by decide +kernel, ⟨by decide +kernel, by decide +kernel, by decide +kernel⟩, wc_ye_live, wi_ye⟩, wn_ye_live, wl_ye_live⟩
theorem jd_ye_noteOf : JV J_ye_noteOf 3 := ⟨⟨by decide +kernel, ⟨by decide +kernel, by decide +kernel, by decide +kernel⟩, wc_ye_noteOf, wi_ye⟩, wn_ye_noteOf, wl_ye_noteOf⟩
theorem jd_ye_sizeOf : JV J_ye_sizeOf 2 := ⟨⟨by decide +kernel, ⟨by decide +kernel, by decide +kernel, by decide +kernel⟩, wc_ye_sizeOf, wi_ye⟩, wn_ye_sizeOf, wl_ye_sizeOf⟩
