section
-- ===== PART A: goes FIRST, ahead of the names: the tables' words, and 'selects' of the private methods out of them =====
/-- a private method of a class that the tables say can be made, by its rows of tables_1 -/
def lw_okq (q : MethodName × Nat) : Prop := (q.1.cls ≠ "java/lang/invoke/MethodHandle" ∧ q.1.cls ≠ "java/lang/invoke/VarHandle") ∧ Cond.instantiable q.1.cls q.2 ∈ tables_1 ∧ Cond.privateMethod q.1 ∈ tables_1 ∧ Cond.instanceMethod q.1 ∈ tables_1
theorem lw_p0 : lw_okq (⟨"TuneLoans", "resized", "(II)I"⟩, 8) := ⟨⟨by decide +kernel, by decide +kernel⟩, List.mem_of_getElem? (i := 23) (by decide +kernel), List.mem_of_getElem? (i := 320) (by decide +kernel), List.mem_of_getElem? (i := 321) (by decide +kernel)⟩
theorem lw_p1 : lw_okq (⟨"TuneLoans$Book", "goesOn", "(LTuneLoans$Text;I)Z"⟩, 7) := ⟨⟨by decide +kernel, by decide +kernel⟩, List.mem_of_getElem? (i := 31) (by decide +kernel), List.mem_of_getElem? (i := 341) (by decide +kernel), List.mem_of_getElem? (i := 342) (by decide +kernel)⟩
theorem lw_p2 : lw_okq (⟨"TuneLoans", "isTune", "(I)Z"⟩, 8) := ⟨⟨by decide +kernel, by decide +kernel⟩, List.mem_of_getElem? (i := 23) (by decide +kernel), List.mem_of_getElem? (i := 453) (by decide +kernel), List.mem_of_getElem? (i := 454) (by decide +kernel)⟩
theorem lw_p3 : lw_okq (⟨"TuneLoans", "isBorrower", "(I)Z"⟩, 8) := ⟨⟨by decide +kernel, by decide +kernel⟩, List.mem_of_getElem? (i := 23) (by decide +kernel), List.mem_of_getElem? (i := 465) (by decide +kernel), List.mem_of_getElem? (i := 466) (by decide +kernel)⟩
theorem lw_p4 : lw_okq (⟨"TuneLoans", "found", "(I)I"⟩, 8) := ⟨⟨by decide +kernel, by decide +kernel⟩, List.mem_of_getElem? (i := 23) (by decide +kernel), List.mem_of_getElem? (i := 491) (by decide +kernel), List.mem_of_getElem? (i := 492) (by decide +kernel)⟩
theorem lw_p5 : lw_okq (⟨"TuneLoans$Years", "begin", "(LTuneLoans$Book;)V"⟩, 8) := ⟨⟨by decide +kernel, by decide +kernel⟩, List.mem_of_getElem? (i := 182) (by decide +kernel), List.mem_of_getElem? (i := 511) (by decide +kernel), List.mem_of_getElem? (i := 512) (by decide +kernel)⟩
theorem lw_p6 : lw_okq (⟨"TuneLoans$Years", "lendOut", "(LTuneLoans$Book;I)V"⟩, 8) := ⟨⟨by decide +kernel, by decide +kernel⟩, List.mem_of_getElem? (i := 182) (by decide +kernel), List.mem_of_getElem? (i := 522) (by decide +kernel), List.mem_of_getElem? (i := 523) (by decide +kernel)⟩
theorem lw_p7 : lw_okq (⟨"TuneLoans$Years", "humLent", "(LTuneLoans$Book;)V"⟩, 8) := ⟨⟨by decide +kernel, by decide +kernel⟩, List.mem_of_getElem? (i := 182) (by decide +kernel), List.mem_of_getElem? (i := 526) (by decide +kernel), List.mem_of_getElem? (i := 527) (by decide +kernel)⟩
theorem lw_p8 : lw_okq (⟨"TuneLoans$Years", "comeBack", "(LTuneLoans$Book;IILTuneLoans$Likeness;)V"⟩, 8) := ⟨⟨by decide +kernel, by decide +kernel⟩, List.mem_of_getElem? (i := 182) (by decide +kernel), List.mem_of_getElem? (i := 535) (by decide +kernel), List.mem_of_getElem? (i := 536) (by decide +kernel)⟩
theorem lw_p9 : lw_okq (⟨"TuneLoans$Years", "keep", "(LTuneLoans$Book;I)V"⟩, 8) := ⟨⟨by decide +kernel, by decide +kernel⟩, List.mem_of_getElem? (i := 182) (by decide +kernel), List.mem_of_getElem? (i := 550) (by decide +kernel), List.mem_of_getElem? (i := 551) (by decide +kernel)⟩
theorem lw_p10 : lw_okq (⟨"TuneLoans", "interestBy", "(II)I"⟩, 8) := ⟨⟨by decide +kernel, by decide +kernel⟩, List.mem_of_getElem? (i := 23) (by decide +kernel), List.mem_of_getElem? (i := 579) (by decide +kernel), List.mem_of_getElem? (i := 580) (by decide +kernel)⟩
theorem lw_p11 : lw_okq (⟨"TuneLoans", "tellFromAll", "(II)Z"⟩, 8) := ⟨⟨by decide +kernel, by decide +kernel⟩, List.mem_of_getElem? (i := 23) (by decide +kernel), List.mem_of_getElem? (i := 668) (by decide +kernel), List.mem_of_getElem? (i := 669) (by decide +kernel)⟩
theorem lw_p12 : lw_okq (⟨"TuneLoans$Chance", "hum", "(LTuneLoans$Borrower;)V"⟩, 4) := ⟨⟨by decide +kernel, by decide +kernel⟩, List.mem_of_getElem? (i := 244) (by decide +kernel), List.mem_of_getElem? (i := 697) (by decide +kernel), List.mem_of_getElem? (i := 698) (by decide +kernel)⟩
theorem lw_p13 : lw_okq (⟨"TuneLoans$Chance", "lot", "(I)I"⟩, 4) := ⟨⟨by decide +kernel, by decide +kernel⟩, List.mem_of_getElem? (i := 244) (by decide +kernel), List.mem_of_getElem? (i := 711) (by decide +kernel), List.mem_of_getElem? (i := 712) (by decide +kernel)⟩
theorem lw_p14 : lw_okq (⟨"TuneLoans", "refusalOfItem", "(III)I"⟩, 8) := ⟨⟨by decide +kernel, by decide +kernel⟩, List.mem_of_getElem? (i := 23) (by decide +kernel), List.mem_of_getElem? (i := 735) (by decide +kernel), List.mem_of_getElem? (i := 736) (by decide +kernel)⟩
theorem lw_p15 : lw_okq (⟨"TuneLoans", "digestAlone", "(JI)J"⟩, 8) := ⟨⟨by decide +kernel, by decide +kernel⟩, List.mem_of_getElem? (i := 23) (by decide +kernel), List.mem_of_getElem? (i := 778) (by decide +kernel), List.mem_of_getElem? (i := 779) (by decide +kernel)⟩
def lw_privs_1 : List (MethodName × Nat) := [(⟨"TuneLoans", "resized", "(II)I"⟩, 8), (⟨"TuneLoans$Book", "goesOn", "(LTuneLoans$Text;I)Z"⟩, 7), (⟨"TuneLoans", "isTune", "(I)Z"⟩, 8), (⟨"TuneLoans", "isBorrower", "(I)Z"⟩, 8), (⟨"TuneLoans", "found", "(I)I"⟩, 8), (⟨"TuneLoans$Years", "begin", "(LTuneLoans$Book;)V"⟩, 8), (⟨"TuneLoans$Years", "lendOut", "(LTuneLoans$Book;I)V"⟩, 8), (⟨"TuneLoans$Years", "humLent", "(LTuneLoans$Book;)V"⟩, 8), (⟨"TuneLoans$Years", "comeBack", "(LTuneLoans$Book;IILTuneLoans$Likeness;)V"⟩, 8), (⟨"TuneLoans$Years", "keep", "(LTuneLoans$Book;I)V"⟩, 8), (⟨"TuneLoans", "interestBy", "(II)I"⟩, 8), (⟨"TuneLoans", "tellFromAll", "(II)Z"⟩, 8), (⟨"TuneLoans$Chance", "hum", "(LTuneLoans$Borrower;)V"⟩, 4), (⟨"TuneLoans$Chance", "lot", "(I)I"⟩, 4), (⟨"TuneLoans", "refusalOfItem", "(III)I"⟩, 8), (⟨"TuneLoans", "digestAlone", "(JI)J"⟩, 8)]
theorem lw_r1 : ∀ q ∈ lw_privs_1, lw_okq q := List.forall_mem_cons.mpr ⟨lw_p0, List.forall_mem_cons.mpr ⟨lw_p1, List.forall_mem_cons.mpr ⟨lw_p2, List.forall_mem_cons.mpr ⟨lw_p3, List.forall_mem_cons.mpr ⟨lw_p4, List.forall_mem_cons.mpr ⟨lw_p5, List.forall_mem_cons.mpr ⟨lw_p6, List.forall_mem_cons.mpr ⟨lw_p7, List.forall_mem_cons.mpr ⟨lw_p8, List.forall_mem_cons.mpr ⟨lw_p9, List.forall_mem_cons.mpr ⟨lw_p10, List.forall_mem_cons.mpr ⟨lw_p11, List.forall_mem_cons.mpr ⟨lw_p12, List.forall_mem_cons.mpr ⟨lw_p13, List.forall_mem_cons.mpr ⟨lw_p14, List.forall_mem_cons.mpr ⟨lw_p15, fun _ h => absurd h List.not_mem_nil⟩⟩⟩⟩⟩⟩⟩⟩⟩⟩⟩⟩⟩⟩⟩⟩
theorem lw_p16 : lw_okq (⟨"TuneLoans", "digestTogether", "(JI)J"⟩, 8) := ⟨⟨by decide +kernel, by decide +kernel⟩, List.mem_of_getElem? (i := 23) (by decide +kernel), List.mem_of_getElem? (i := 787) (by decide +kernel), List.mem_of_getElem? (i := 788) (by decide +kernel)⟩
theorem lw_p17 : lw_okq (⟨"TuneLoansModel", "finds", "(I)I"⟩, 26) := ⟨⟨by decide +kernel, by decide +kernel⟩, List.mem_of_getElem? (i := 803) (by decide +kernel), List.mem_of_getElem? (i := 900) (by decide +kernel), List.mem_of_getElem? (i := 901) (by decide +kernel)⟩
theorem lw_p18 : lw_okq (⟨"TuneLoansModel", "lacks", "(III)I"⟩, 26) := ⟨⟨by decide +kernel, by decide +kernel⟩, List.mem_of_getElem? (i := 803) (by decide +kernel), List.mem_of_getElem? (i := 912) (by decide +kernel), List.mem_of_getElem? (i := 913) (by decide +kernel)⟩
theorem lw_p19 : lw_okq (⟨"TuneLoansModel", "readsTunes", "()I"⟩, 26) := ⟨⟨by decide +kernel, by decide +kernel⟩, List.mem_of_getElem? (i := 803) (by decide +kernel), List.mem_of_getElem? (i := 948) (by decide +kernel), List.mem_of_getElem? (i := 949) (by decide +kernel)⟩
theorem lw_p20 : lw_okq (⟨"TuneLoansModel", "tunesFault", "(I)I"⟩, 26) := ⟨⟨by decide +kernel, by decide +kernel⟩, List.mem_of_getElem? (i := 803) (by decide +kernel), List.mem_of_getElem? (i := 952) (by decide +kernel), List.mem_of_getElem? (i := 953) (by decide +kernel)⟩
theorem lw_p21 : lw_okq (⟨"TuneLoansModel", "readsBorrowers", "()I"⟩, 26) := ⟨⟨by decide +kernel, by decide +kernel⟩, List.mem_of_getElem? (i := 803) (by decide +kernel), List.mem_of_getElem? (i := 958) (by decide +kernel), List.mem_of_getElem? (i := 959) (by decide +kernel)⟩
theorem lw_p22 : lw_okq (⟨"TuneLoansModel", "reads", "()V"⟩, 26) := ⟨⟨by decide +kernel, by decide +kernel⟩, List.mem_of_getElem? (i := 803) (by decide +kernel), List.mem_of_getElem? (i := 969) (by decide +kernel), List.mem_of_getElem? (i := 970) (by decide +kernel)⟩
theorem lw_p23 : lw_okq (⟨"TuneLoansModel", "isTune", "(I)Z"⟩, 26) := ⟨⟨by decide +kernel, by decide +kernel⟩, List.mem_of_getElem? (i := 803) (by decide +kernel), List.mem_of_getElem? (i := 973) (by decide +kernel), List.mem_of_getElem? (i := 974) (by decide +kernel)⟩
theorem lw_p24 : lw_okq (⟨"TuneLoansModel", "isBorrower", "(I)Z"⟩, 26) := ⟨⟨by decide +kernel, by decide +kernel⟩, List.mem_of_getElem? (i := 803) (by decide +kernel), List.mem_of_getElem? (i := 983) (by decide +kernel), List.mem_of_getElem? (i := 984) (by decide +kernel)⟩
theorem lw_p25 : lw_okq (⟨"TuneLoansModel", "notesOf", "(III)I"⟩, 26) := ⟨⟨by decide +kernel, by decide +kernel⟩, List.mem_of_getElem? (i := 803) (by decide +kernel), List.mem_of_getElem? (i := 1015) (by decide +kernel), List.mem_of_getElem? (i := 1016) (by decide +kernel)⟩
theorem lw_p26 : lw_okq (⟨"TuneLoansModel", "lives", "(II)V"⟩, 26) := ⟨⟨by decide +kernel, by decide +kernel⟩, List.mem_of_getElem? (i := 803) (by decide +kernel), List.mem_of_getElem? (i := 1019) (by decide +kernel), List.mem_of_getElem? (i := 1020) (by decide +kernel)⟩
theorem lw_p27 : lw_okq (⟨"TuneLoansModel", "startsAll", "()V"⟩, 26) := ⟨⟨by decide +kernel, by decide +kernel⟩, List.mem_of_getElem? (i := 803) (by decide +kernel), List.mem_of_getElem? (i := 1023) (by decide +kernel), List.mem_of_getElem? (i := 1024) (by decide +kernel)⟩
theorem lw_p28 : lw_okq (⟨"TuneLoansModel", "begins", "(II)V"⟩, 26) := ⟨⟨by decide +kernel, by decide +kernel⟩, List.mem_of_getElem? (i := 803) (by decide +kernel), List.mem_of_getElem? (i := 1027) (by decide +kernel), List.mem_of_getElem? (i := 1028) (by decide +kernel)⟩
theorem lw_p29 : lw_okq (⟨"TuneLoansModel", "goesOn", "(II)V"⟩, 26) := ⟨⟨by decide +kernel, by decide +kernel⟩, List.mem_of_getElem? (i := 803) (by decide +kernel), List.mem_of_getElem? (i := 1031) (by decide +kernel), List.mem_of_getElem? (i := 1032) (by decide +kernel)⟩
theorem lw_p30 : lw_okq (⟨"TuneLoansModel", "lends", "(I)V"⟩, 26) := ⟨⟨by decide +kernel, by decide +kernel⟩, List.mem_of_getElem? (i := 803) (by decide +kernel), List.mem_of_getElem? (i := 1035) (by decide +kernel), List.mem_of_getElem? (i := 1036) (by decide +kernel)⟩
theorem lw_p31 : lw_okq (⟨"TuneLoansModel", "hummed", "(II)V"⟩, 26) := ⟨⟨by decide +kernel, by decide +kernel⟩, List.mem_of_getElem? (i := 803) (by decide +kernel), List.mem_of_getElem? (i := 1039) (by decide +kernel), List.mem_of_getElem? (i := 1040) (by decide +kernel)⟩
def lw_privs_2 : List (MethodName × Nat) := [(⟨"TuneLoans", "digestTogether", "(JI)J"⟩, 8), (⟨"TuneLoansModel", "finds", "(I)I"⟩, 26), (⟨"TuneLoansModel", "lacks", "(III)I"⟩, 26), (⟨"TuneLoansModel", "readsTunes", "()I"⟩, 26), (⟨"TuneLoansModel", "tunesFault", "(I)I"⟩, 26), (⟨"TuneLoansModel", "readsBorrowers", "()I"⟩, 26), (⟨"TuneLoansModel", "reads", "()V"⟩, 26), (⟨"TuneLoansModel", "isTune", "(I)Z"⟩, 26), (⟨"TuneLoansModel", "isBorrower", "(I)Z"⟩, 26), (⟨"TuneLoansModel", "notesOf", "(III)I"⟩, 26), (⟨"TuneLoansModel", "lives", "(II)V"⟩, 26), (⟨"TuneLoansModel", "startsAll", "()V"⟩, 26), (⟨"TuneLoansModel", "begins", "(II)V"⟩, 26), (⟨"TuneLoansModel", "goesOn", "(II)V"⟩, 26), (⟨"TuneLoansModel", "lends", "(I)V"⟩, 26), (⟨"TuneLoansModel", "hummed", "(II)V"⟩, 26)]
theorem lw_r2 : ∀ q ∈ lw_privs_2, lw_okq q := List.forall_mem_cons.mpr ⟨lw_p16, List.forall_mem_cons.mpr ⟨lw_p17, List.forall_mem_cons.mpr ⟨lw_p18, List.forall_mem_cons.mpr ⟨lw_p19, List.forall_mem_cons.mpr ⟨lw_p20, List.forall_mem_cons.mpr ⟨lw_p21, List.forall_mem_cons.mpr ⟨lw_p22, List.forall_mem_cons.mpr ⟨lw_p23, List.forall_mem_cons.mpr ⟨lw_p24, List.forall_mem_cons.mpr ⟨lw_p25, List.forall_mem_cons.mpr ⟨lw_p26, List.forall_mem_cons.mpr ⟨lw_p27, List.forall_mem_cons.mpr ⟨lw_p28, List.forall_mem_cons.mpr ⟨lw_p29, List.forall_mem_cons.mpr ⟨lw_p30, List.forall_mem_cons.mpr ⟨lw_p31, fun _ h => absurd h List.not_mem_nil⟩⟩⟩⟩⟩⟩⟩⟩⟩⟩⟩⟩⟩⟩⟩⟩
theorem lw_p32 : lw_okq (⟨"TuneLoansModel", "returns", "(II)V"⟩, 26) := ⟨⟨by decide +kernel, by decide +kernel⟩, List.mem_of_getElem? (i := 803) (by decide +kernel), List.mem_of_getElem? (i := 1046) (by decide +kernel), List.mem_of_getElem? (i := 1047) (by decide +kernel)⟩
theorem lw_p33 : lw_okq (⟨"TuneLoansModel", "commonOf", "([III[III)I"⟩, 26) := ⟨⟨by decide +kernel, by decide +kernel⟩, List.mem_of_getElem? (i := 803) (by decide +kernel), List.mem_of_getElem? (i := 1050) (by decide +kernel), List.mem_of_getElem? (i := 1051) (by decide +kernel)⟩
theorem lw_p34 : lw_okq (⟨"TuneLoansModel", "hasOf", "(II)I"⟩, 26) := ⟨⟨by decide +kernel, by decide +kernel⟩, List.mem_of_getElem? (i := 803) (by decide +kernel), List.mem_of_getElem? (i := 1061) (by decide +kernel), List.mem_of_getElem? (i := 1062) (by decide +kernel)⟩
theorem lw_p35 : lw_okq (⟨"TuneLoansModel", "cameOf", "(II)I"⟩, 26) := ⟨⟨by decide +kernel, by decide +kernel⟩, List.mem_of_getElem? (i := 803) (by decide +kernel), List.mem_of_getElem? (i := 1069) (by decide +kernel), List.mem_of_getElem? (i := 1070) (by decide +kernel)⟩
theorem lw_p36 : lw_okq (⟨"TuneLoansModel", "interestBy", "(II)I"⟩, 26) := ⟨⟨by decide +kernel, by decide +kernel⟩, List.mem_of_getElem? (i := 803) (by decide +kernel), List.mem_of_getElem? (i := 1077) (by decide +kernel), List.mem_of_getElem? (i := 1078) (by decide +kernel)⟩
theorem lw_p37 : lw_okq (⟨"TuneLoansModel", "homeOf", "(I)I"⟩, 26) := ⟨⟨by decide +kernel, by decide +kernel⟩, List.mem_of_getElem? (i := 803) (by decide +kernel), List.mem_of_getElem? (i := 1085) (by decide +kernel), List.mem_of_getElem? (i := 1086) (by decide +kernel)⟩
theorem lw_p38 : lw_okq (⟨"TuneLoansModel", "lendOf", "(III)I"⟩, 26) := ⟨⟨by decide +kernel, by decide +kernel⟩, List.mem_of_getElem? (i := 803) (by decide +kernel), List.mem_of_getElem? (i := 1094) (by decide +kernel), List.mem_of_getElem? (i := 1095) (by decide +kernel)⟩
theorem lw_p39 : lw_okq (⟨"TuneLoansModel", "codes", "(I)I"⟩, 26) := ⟨⟨by decide +kernel, by decide +kernel⟩, List.mem_of_getElem? (i := 803) (by decide +kernel), List.mem_of_getElem? (i := 1098) (by decide +kernel), List.mem_of_getElem? (i := 1099) (by decide +kernel)⟩
theorem lw_p40 : lw_okq (⟨"TuneLoansModel", "turns", "(III)V"⟩, 26) := ⟨⟨by decide +kernel, by decide +kernel⟩, List.mem_of_getElem? (i := 803) (by decide +kernel), List.mem_of_getElem? (i := 1102) (by decide +kernel), List.mem_of_getElem? (i := 1103) (by decide +kernel)⟩
theorem lw_p41 : lw_okq (⟨"TuneLoansModel", "figureOf", "(III)I"⟩, 26) := ⟨⟨by decide +kernel, by decide +kernel⟩, List.mem_of_getElem? (i := 803) (by decide +kernel), List.mem_of_getElem? (i := 1106) (by decide +kernel), List.mem_of_getElem? (i := 1107) (by decide +kernel)⟩
theorem lw_p42 : lw_okq (⟨"TuneLoansModel", "notesNow", "()I"⟩, 26) := ⟨⟨by decide +kernel, by decide +kernel⟩, List.mem_of_getElem? (i := 803) (by decide +kernel), List.mem_of_getElem? (i := 1110) (by decide +kernel), List.mem_of_getElem? (i := 1111) (by decide +kernel)⟩
theorem lw_p43 : lw_okq (⟨"TuneLoansModel", "longestOf", "(III)I"⟩, 26) := ⟨⟨by decide +kernel, by decide +kernel⟩, List.mem_of_getElem? (i := 803) (by decide +kernel), List.mem_of_getElem? (i := 1118) (by decide +kernel), List.mem_of_getElem? (i := 1119) (by decide +kernel)⟩
theorem lw_p44 : lw_okq (⟨"TuneLoansModel", "whoOf", "(III)I"⟩, 26) := ⟨⟨by decide +kernel, by decide +kernel⟩, List.mem_of_getElem? (i := 803) (by decide +kernel), List.mem_of_getElem? (i := 1126) (by decide +kernel), List.mem_of_getElem? (i := 1127) (by decide +kernel)⟩
theorem lw_p45 : lw_okq (⟨"TuneLoansModel", "isNow", "(I)Z"⟩, 26) := ⟨⟨by decide +kernel, by decide +kernel⟩, List.mem_of_getElem? (i := 803) (by decide +kernel), List.mem_of_getElem? (i := 1130) (by decide +kernel), List.mem_of_getElem? (i := 1131) (by decide +kernel)⟩
theorem lw_p46 : lw_okq (⟨"TuneLoansModel", "rowOf", "(II)I"⟩, 26) := ⟨⟨by decide +kernel, by decide +kernel⟩, List.mem_of_getElem? (i := 803) (by decide +kernel), List.mem_of_getElem? (i := 1134) (by decide +kernel), List.mem_of_getElem? (i := 1135) (by decide +kernel)⟩
theorem lw_p47 : lw_okq (⟨"TuneLoansModel", "commonBoth", "(II)I"⟩, 26) := ⟨⟨by decide +kernel, by decide +kernel⟩, List.mem_of_getElem? (i := 803) (by decide +kernel), List.mem_of_getElem? (i := 1142) (by decide +kernel), List.mem_of_getElem? (i := 1143) (by decide +kernel)⟩
def lw_privs_3 : List (MethodName × Nat) := [(⟨"TuneLoansModel", "returns", "(II)V"⟩, 26), (⟨"TuneLoansModel", "commonOf", "([III[III)I"⟩, 26), (⟨"TuneLoansModel", "hasOf", "(II)I"⟩, 26), (⟨"TuneLoansModel", "cameOf", "(II)I"⟩, 26), (⟨"TuneLoansModel", "interestBy", "(II)I"⟩, 26), (⟨"TuneLoansModel", "homeOf", "(I)I"⟩, 26), (⟨"TuneLoansModel", "lendOf", "(III)I"⟩, 26), (⟨"TuneLoansModel", "codes", "(I)I"⟩, 26), (⟨"TuneLoansModel", "turns", "(III)V"⟩, 26), (⟨"TuneLoansModel", "figureOf", "(III)I"⟩, 26), (⟨"TuneLoansModel", "notesNow", "()I"⟩, 26), (⟨"TuneLoansModel", "longestOf", "(III)I"⟩, 26), (⟨"TuneLoansModel", "whoOf", "(III)I"⟩, 26), (⟨"TuneLoansModel", "isNow", "(I)Z"⟩, 26), (⟨"TuneLoansModel", "rowOf", "(II)I"⟩, 26), (⟨"TuneLoansModel", "commonBoth", "(II)I"⟩, 26)]
theorem lw_r3 : ∀ q ∈ lw_privs_3, lw_okq q := List.forall_mem_cons.mpr ⟨lw_p32, List.forall_mem_cons.mpr ⟨lw_p33, List.forall_mem_cons.mpr ⟨lw_p34, List.forall_mem_cons.mpr ⟨lw_p35, List.forall_mem_cons.mpr ⟨lw_p36, List.forall_mem_cons.mpr ⟨lw_p37, List.forall_mem_cons.mpr ⟨lw_p38, List.forall_mem_cons.mpr ⟨lw_p39, List.forall_mem_cons.mpr ⟨lw_p40, List.forall_mem_cons.mpr ⟨lw_p41, List.forall_mem_cons.mpr ⟨lw_p42, List.forall_mem_cons.mpr ⟨lw_p43, List.forall_mem_cons.mpr ⟨lw_p44, List.forall_mem_cons.mpr ⟨lw_p45, List.forall_mem_cons.mpr ⟨lw_p46, List.forall_mem_cons.mpr ⟨lw_p47, fun _ h => absurd h List.not_mem_nil⟩⟩⟩⟩⟩⟩⟩⟩⟩⟩⟩⟩⟩⟩⟩⟩
theorem lw_p48 : lw_okq (⟨"TuneLoansModel", "farOf", "(II)I"⟩, 26) := ⟨⟨by decide +kernel, by decide +kernel⟩, List.mem_of_getElem? (i := 803) (by decide +kernel), List.mem_of_getElem? (i := 1150) (by decide +kernel), List.mem_of_getElem? (i := 1151) (by decide +kernel)⟩
theorem lw_p49 : lw_okq (⟨"TuneLoansModel", "nearestOf", "(I)I"⟩, 26) := ⟨⟨by decide +kernel, by decide +kernel⟩, List.mem_of_getElem? (i := 803) (by decide +kernel), List.mem_of_getElem? (i := 1158) (by decide +kernel), List.mem_of_getElem? (i := 1159) (by decide +kernel)⟩
theorem lw_p50 : lw_okq (⟨"TuneLoansModel", "mothersOf", "(I)I"⟩, 26) := ⟨⟨by decide +kernel, by decide +kernel⟩, List.mem_of_getElem? (i := 803) (by decide +kernel), List.mem_of_getElem? (i := 1166) (by decide +kernel), List.mem_of_getElem? (i := 1167) (by decide +kernel)⟩
theorem lw_p51 : lw_okq (⟨"TuneLoansModel", "tellsOf", "(I)I"⟩, 26) := ⟨⟨by decide +kernel, by decide +kernel⟩, List.mem_of_getElem? (i := 803) (by decide +kernel), List.mem_of_getElem? (i := 1174) (by decide +kernel), List.mem_of_getElem? (i := 1175) (by decide +kernel)⟩
theorem lw_p52 : lw_okq (⟨"TuneLoansModel", "noteAt", "(II)I"⟩, 26) := ⟨⟨by decide +kernel, by decide +kernel⟩, List.mem_of_getElem? (i := 803) (by decide +kernel), List.mem_of_getElem? (i := 1184) (by decide +kernel), List.mem_of_getElem? (i := 1185) (by decide +kernel)⟩
theorem lw_p53 : lw_okq (⟨"TuneLoansModel", "losesOf", "(I)I"⟩, 26) := ⟨⟨by decide +kernel, by decide +kernel⟩, List.mem_of_getElem? (i := 803) (by decide +kernel), List.mem_of_getElem? (i := 1195) (by decide +kernel), List.mem_of_getElem? (i := 1196) (by decide +kernel)⟩
theorem lw_p54 : lw_okq (⟨"TuneLoansModel", "bestOf", "(I)I"⟩, 26) := ⟨⟨by decide +kernel, by decide +kernel⟩, List.mem_of_getElem? (i := 803) (by decide +kernel), List.mem_of_getElem? (i := 1204) (by decide +kernel), List.mem_of_getElem? (i := 1205) (by decide +kernel)⟩
theorem lw_p55 : lw_okq (⟨"TuneLoansModel", "humsOf", "(IIIIII)J"⟩, 26) := ⟨⟨by decide +kernel, by decide +kernel⟩, List.mem_of_getElem? (i := 803) (by decide +kernel), List.mem_of_getElem? (i := 1214) (by decide +kernel), List.mem_of_getElem? (i := 1215) (by decide +kernel)⟩
theorem lw_p56 : lw_okq (⟨"TuneLoansModel", "fairOf", "(III)I"⟩, 26) := ⟨⟨by decide +kernel, by decide +kernel⟩, List.mem_of_getElem? (i := 803) (by decide +kernel), List.mem_of_getElem? (i := 1229) (by decide +kernel), List.mem_of_getElem? (i := 1230) (by decide +kernel)⟩
theorem lw_p57 : lw_okq (⟨"TuneLoansModel", "tellsTune", "(JI)J"⟩, 26) := ⟨⟨by decide +kernel, by decide +kernel⟩, List.mem_of_getElem? (i := 803) (by decide +kernel), List.mem_of_getElem? (i := 1249) (by decide +kernel), List.mem_of_getElem? (i := 1250) (by decide +kernel)⟩
def lw_privs_4 : List (MethodName × Nat) := [(⟨"TuneLoansModel", "farOf", "(II)I"⟩, 26), (⟨"TuneLoansModel", "nearestOf", "(I)I"⟩, 26), (⟨"TuneLoansModel", "mothersOf", "(I)I"⟩, 26), (⟨"TuneLoansModel", "tellsOf", "(I)I"⟩, 26), (⟨"TuneLoansModel", "noteAt", "(II)I"⟩, 26), (⟨"TuneLoansModel", "losesOf", "(I)I"⟩, 26), (⟨"TuneLoansModel", "bestOf", "(I)I"⟩, 26), (⟨"TuneLoansModel", "humsOf", "(IIIIII)J"⟩, 26), (⟨"TuneLoansModel", "fairOf", "(III)I"⟩, 26), (⟨"TuneLoansModel", "tellsTune", "(JI)J"⟩, 26)]
theorem lw_r4 : ∀ q ∈ lw_privs_4, lw_okq q := List.forall_mem_cons.mpr ⟨lw_p48, List.forall_mem_cons.mpr ⟨lw_p49, List.forall_mem_cons.mpr ⟨lw_p50, List.forall_mem_cons.mpr ⟨lw_p51, List.forall_mem_cons.mpr ⟨lw_p52, List.forall_mem_cons.mpr ⟨lw_p53, List.forall_mem_cons.mpr ⟨lw_p54, List.forall_mem_cons.mpr ⟨lw_p55, List.forall_mem_cons.mpr ⟨lw_p56, List.forall_mem_cons.mpr ⟨lw_p57, fun _ h => absurd h List.not_mem_nil⟩⟩⟩⟩⟩⟩⟩⟩⟩⟩
def lw_privs : List (MethodName × Nat) := lw_privs_1 ++ (lw_privs_2 ++ (lw_privs_3 ++ (lw_privs_4)))
def lw_tbl : List Cond := k2_sels lw_privs ++ tables_1
theorem lw_privs_ok : ∀ q ∈ lw_privs, lw_okq q := by
  show ∀ q ∈ lw_privs_1 ++ (lw_privs_2 ++ (lw_privs_3 ++ (lw_privs_4))), lw_okq q
  exact List.forall_mem_append.mpr ⟨lw_r1, List.forall_mem_append.mpr ⟨lw_r2, List.forall_mem_append.mpr ⟨lw_r3, lw_r4⟩⟩⟩
-- ===== end of PART A; then your names; then what follows =====
end
section
/-! names: the classes and their fields, the methods -/
def TB : List Cond := lw_tbl.filter goodWord
theorem mem_tb (i : Nat) {w : Cond} (h : lw_tbl[i]? = some w) (g : goodWord w = true) : w ∈ TB := List.mem_filter.mpr ⟨List.mem_of_getElem? h, g⟩
theorem tb_goodIn : GoodIn TB TB := fun w h => ⟨h, good_of_word (List.mem_filter.mp h).2⟩
def F_tl : u_T := fun k => match k with
  | 0 => ("TuneLoans", "book", "LTuneLoans$Book;", true)
  | 1 => ("TuneLoans", "years", "LTuneLoans$Years;", true)
  | 2 => ("TuneLoans", "turns", "LTuneLoans$Turns;", true)
  | 3 => ("TuneLoans", "likeness", "LTuneLoans$Likeness;", true)
  | 4 => ("TuneLoans", "chance", "LTuneLoans$Chance;", true)
  | 5 => ("TuneLoans", "sheets", "[LTuneLoans$Sheet;", true)
  | 6 => ("TuneLoans", "ear", "I", false)
  | _ => ("TuneLoans", "finding", "I", false)
def fy_tl : Nat → FieldType := fun k => match k with
  | 0 => .object "TuneLoans$Book"
  | 1 => .object "TuneLoans$Years"
  | 2 => .object "TuneLoans$Turns"
  | 3 => .object "TuneLoans$Likeness"
  | 4 => .object "TuneLoans$Chance"
  | 5 => .array (.object "TuneLoans$Sheet")
  | 6 => .int
  | _ => .int
def F_bk : u_T := fun k => match k with
  | 0 => ("TuneLoans$Book", "texts", "[LTuneLoans$Text;", true)
  | 1 => ("TuneLoans$Book", "tunes", "[LTuneLoans$Tune;", true)
  | 2 => ("TuneLoans$Book", "borrowers", "[LTuneLoans$Borrower;", true)
  | 3 => ("TuneLoans$Book", "loans", "[LTuneLoans$Loan;", true)
  | 4 => ("TuneLoans$Book", "tuneCount", "I", false)
  | 5 => ("TuneLoans$Book", "borrowerCount", "I", false)
  | _ => ("TuneLoans$Book", "loanCount", "I", false)
def fy_bk : Nat → FieldType := fun k => match k with
  | 0 => .array (.object "TuneLoans$Text")
  | 1 => .array (.object "TuneLoans$Tune")
  | 2 => .array (.object "TuneLoans$Borrower")
  | 3 => .array (.object "TuneLoans$Loan")
  | 4 => .int
  | 5 => .int
  | _ => .int
def F_tx : u_T := fun k => match k with
  | 0 => ("TuneLoans$Text", "bytes", "[I", true)
  | 1 => ("TuneLoans$Text", "size", "I", false)
  | _ => ("TuneLoans$Text", "faultAt", "I", false)
def fy_tx : Nat → FieldType := fun k => match k with
  | 0 => .array .int
  | 1 => .int
  | _ => .int
def F_tu : u_T := fun k => match k with
  | 0 => ("TuneLoans$Tune", "notes", "[I", true)
  | _ => ("TuneLoans$Tune", "size", "I", false)
def fy_tu : Nat → FieldType := fun k => match k with
  | 0 => .array .int
  | _ => .int
def F_bo : u_T := fun k => match k with
  | 0 => ("TuneLoans$Borrower", "x", "I", false)
  | 1 => ("TuneLoans$Borrower", "how", "I", false)
  | _ => ("TuneLoans$Borrower", "y", "I", false)
def fy_bo : Nat → FieldType := fun k => match k with
  | 0 => .int
  | 1 => .int
  | _ => .int
def F_lo : u_T := fun k => match k with
  | 0 => ("TuneLoans$Loan", "year", "I", false)
  | 1 => ("TuneLoans$Loan", "tune", "I", false)
  | 2 => ("TuneLoans$Loan", "borrower", "I", false)
  | 3 => ("TuneLoans$Loan", "years", "I", false)
  | 4 => ("TuneLoans$Loan", "counts", "Z", false)
  | 5 => ("TuneLoans$Loan", "bad", "Z", false)
  | _ => ("TuneLoans$Loan", "more", "I", false)
def fy_lo : Nat → FieldType := fun k => match k with
  | 0 => .int
  | 1 => .int
  | 2 => .int
  | 3 => .int
  | 4 => .boolean
  | 5 => .boolean
  | _ => .int
def F_ye : u_T := fun k => match k with
  | 0 => ("TuneLoans$Years", "now", "[LTuneLoans$Tune;", true)
  | 1 => ("TuneLoans$Years", "lent", "[LTuneLoans$Tune;", true)
  | 2 => ("TuneLoans$Years", "loanOf", "[I", true)
  | 3 => ("TuneLoans$Years", "spare", "LTuneLoans$Tune;", true)
  | 4 => ("TuneLoans$Years", "keptNotes", "[I", true)
  | 5 => ("TuneLoans$Years", "keptSizes", "[I", true)
  | 6 => ("TuneLoans$Years", "keptHolders", "[I", true)
  | _ => ("TuneLoans$Years", "livedEar", "I", false)
def fy_ye : Nat → FieldType := fun k => match k with
  | 0 => .array (.object "TuneLoans$Tune")
  | 1 => .array (.object "TuneLoans$Tune")
  | 2 => .array .int
  | 3 => .object "TuneLoans$Tune"
  | 4 => .array .int
  | 5 => .array .int
  | 6 => .array .int
  | _ => .int
def F_tr : u_T := fun k => match k with
  | 0 => ("TuneLoans$Turns", "hummed", "[LTuneLoans$Tune;", true)
  | 1 => ("TuneLoans$Turns", "row", "[I", true)
  | _ => ("TuneLoans$Turns", "known", "I", false)
def fy_tr : Nat → FieldType := fun k => match k with
  | 0 => .array (.object "TuneLoans$Tune")
  | 1 => .array .int
  | _ => .int
def F_li : u_T := fun k => match k with
  | _ => ("TuneLoans$Likeness", "places", "[J", true)
def fy_li : Nat → FieldType := fun k => match k with
  | _ => .array .long
def F_ch : u_T := fun k => match k with
  | 0 => ("TuneLoans$Chance", "now", "LTuneLoans$Tune;", true)
  | 1 => ("TuneLoans$Chance", "spare", "LTuneLoans$Tune;", true)
  | 2 => ("TuneLoans$Chance", "weights", "[J", true)
  | _ => ("TuneLoans$Chance", "seed", "I", false)
def fy_ch : Nat → FieldType := fun k => match k with
  | 0 => .object "TuneLoans$Tune"
  | 1 => .object "TuneLoans$Tune"
  | 2 => .array .long
  | _ => .int
def F_sh : u_T := fun k => match k with
  | 0 => ("TuneLoans$Sheet", "items", "[I", true)
  | 1 => ("TuneLoans$Sheet", "form", "I", false)
  | _ => ("TuneLoans$Sheet", "size", "I", false)
def fy_sh : Nat → FieldType := fun k => match k with
  | 0 => .array .int
  | 1 => .int
  | _ => .int
def F_mo : u_T := fun k => match k with
  | 0 => ("TuneLoansModel", "forms", "[I", true)
  | 1 => ("TuneLoansModel", "sizes", "[I", true)
  | 2 => ("TuneLoansModel", "items", "[I", true)
  | 3 => ("TuneLoansModel", "moved", "[I", true)
  | 4 => ("TuneLoansModel", "latest", "I", false)
  | 5 => ("TuneLoansModel", "bytes", "[I", true)
  | 6 => ("TuneLoansModel", "typed", "[I", true)
  | 7 => ("TuneLoansModel", "tunes", "I", false)
  | 8 => ("TuneLoansModel", "told", "[I", true)
  | 9 => ("TuneLoansModel", "toldLong", "[I", true)
  | 10 => ("TuneLoansModel", "borrowers", "I", false)
  | 11 => ("TuneLoansModel", "hummer", "[I", true)
  | 12 => ("TuneLoansModel", "loans", "I", false)
  | 13 => ("TuneLoansModel", "loan", "[I", true)
  | 14 => ("TuneLoansModel", "hears", "I", false)
  | 15 => ("TuneLoansModel", "now", "[I", true)
  | 16 => ("TuneLoansModel", "nowLong", "[I", true)
  | 17 => ("TuneLoansModel", "lent", "[I", true)
  | 18 => ("TuneLoansModel", "lentLong", "[I", true)
  | 19 => ("TuneLoansModel", "holder", "[I", true)
  | 20 => ("TuneLoansModel", "heldBy", "[I", true)
  | 21 => ("TuneLoansModel", "counts", "[I", true)
  | 22 => ("TuneLoansModel", "bads", "[I", true)
  | 23 => ("TuneLoansModel", "mores", "[I", true)
  | 24 => ("TuneLoansModel", "changed", "[I", true)
  | _ => ("TuneLoansModel", "row", "[I", true)
def fy_mo : Nat → FieldType := fun k => match k with
  | 0 => .array .int
  | 1 => .array .int
  | 2 => .array .int
  | 3 => .array .int
  | 4 => .int
  | 5 => .array .int
  | 6 => .array .int
  | 7 => .int
  | 8 => .array .int
  | 9 => .array .int
  | 10 => .int
  | 11 => .array .int
  | 12 => .int
  | 13 => .array .int
  | 14 => .int
  | 15 => .array .int
  | 16 => .array .int
  | 17 => .array .int
  | 18 => .array .int
  | 19 => .array .int
  | 20 => .array .int
  | 21 => .array .int
  | 22 => .array .int
  | 23 => .array .int
  | 24 => .array .int
  | _ => .array .int
def CL : List vw_C := [("TuneLoans", F_tl, 8), ("TuneLoans$Book", F_bk, 7), ("TuneLoans$Text", F_tx, 3), ("TuneLoans$Tune", F_tu, 2), ("TuneLoans$Borrower", F_bo, 3), ("TuneLoans$Loan", F_lo, 7), ("TuneLoans$Years", F_ye, 8), ("TuneLoans$Turns", F_tr, 3), ("TuneLoans$Likeness", F_li, 1), ("TuneLoans$Chance", F_ch, 4), ("TuneLoans$Sheet", F_sh, 3), ("TuneLoansModel", F_mo, 26)]
def fyc : Nat → Nat → FieldType := fun ci => match ci with
  | 0 => fy_tl
  | 1 => fy_bk
  | 2 => fy_tx
  | 3 => fy_tu
  | 4 => fy_bo
  | 5 => fy_lo
  | 6 => fy_ye
  | 7 => fy_tr
  | 8 => fy_li
  | 9 => fy_ch
  | 10 => fy_sh
  | _ => fy_mo
theorem cw_tl : ∀ w ∈ u_ws "TuneLoans" F_tl 8, w ∈ TB := by
  intro w h
  obtain ⟨k, hk, rfl⟩ := List.mem_map.mp h
  have hk := List.mem_range.mp hk
  match k, hk with
  | 0, _ => exact mem_tb 350 (by decide +kernel) (by decide +kernel)
  | 1, _ => exact mem_tb 352 (by decide +kernel) (by decide +kernel)
  | 2, _ => exact mem_tb 354 (by decide +kernel) (by decide +kernel)
  | 3, _ => exact mem_tb 356 (by decide +kernel) (by decide +kernel)
  | 4, _ => exact mem_tb 358 (by decide +kernel) (by decide +kernel)
  | 5, _ => exact mem_tb 360 (by decide +kernel) (by decide +kernel)
  | 6, _ => exact mem_tb 362 (by decide +kernel) (by decide +kernel)
  | 7, _ => exact mem_tb 364 (by decide +kernel) (by decide +kernel)
theorem cn_tl : ∀ a, a < 8 → ∀ b, b < 8 → a ≠ b → (F_tl a).2.1 ≠ (F_tl b).2.1 := by decide +kernel
theorem ct_tl : ∀ k, k < 8 → parseFieldDescriptor (F_tl k).2.2.1 = some (fy_tl k) := by decide +kernel
theorem cw_bk : ∀ w ∈ u_ws "TuneLoans$Book" F_bk 7, w ∈ TB := by
  intro w h
  obtain ⟨k, hk, rfl⟩ := List.mem_map.mp h
  have hk := List.mem_range.mp hk
  match k, hk with
  | 0, _ => exact mem_tb 224 (by decide +kernel) (by decide +kernel)
  | 1, _ => exact mem_tb 226 (by decide +kernel) (by decide +kernel)
  | 2, _ => exact mem_tb 228 (by decide +kernel) (by decide +kernel)
  | 3, _ => exact mem_tb 230 (by decide +kernel) (by decide +kernel)
  | 4, _ => exact mem_tb 232 (by decide +kernel) (by decide +kernel)
  | 5, _ => exact mem_tb 234 (by decide +kernel) (by decide +kernel)
  | 6, _ => exact mem_tb 236 (by decide +kernel) (by decide +kernel)
theorem cn_bk : ∀ a, a < 7 → ∀ b, b < 7 → a ≠ b → (F_bk a).2.1 ≠ (F_bk b).2.1 := by decide +kernel
theorem ct_bk : ∀ k, k < 7 → parseFieldDescriptor (F_bk k).2.2.1 = some (fy_bk k) := by decide +kernel
theorem cw_tx : ∀ w ∈ u_ws "TuneLoans$Text" F_tx 3, w ∈ TB := by
  intro w h
  obtain ⟨k, hk, rfl⟩ := List.mem_map.mp h
  have hk := List.mem_range.mp hk
  match k, hk with
  | 0, _ => exact mem_tb 115 (by decide +kernel) (by decide +kernel)
  | 1, _ => exact mem_tb 117 (by decide +kernel) (by decide +kernel)
  | 2, _ => exact mem_tb 119 (by decide +kernel) (by decide +kernel)
theorem cn_tx : ∀ a, a < 3 → ∀ b, b < 3 → a ≠ b → (F_tx a).2.1 ≠ (F_tx b).2.1 := by decide +kernel
theorem ct_tx : ∀ k, k < 3 → parseFieldDescriptor (F_tx k).2.2.1 = some (fy_tx k) := by decide +kernel
theorem cw_tu : ∀ w ∈ u_ws "TuneLoans$Tune" F_tu 2, w ∈ TB := by
  intro w h
  obtain ⟨k, hk, rfl⟩ := List.mem_map.mp h
  have hk := List.mem_range.mp hk
  match k, hk with
  | 0, _ => exact mem_tb 137 (by decide +kernel) (by decide +kernel)
  | 1, _ => exact mem_tb 139 (by decide +kernel) (by decide +kernel)
theorem cn_tu : ∀ a, a < 2 → ∀ b, b < 2 → a ≠ b → (F_tu a).2.1 ≠ (F_tu b).2.1 := by decide +kernel
theorem ct_tu : ∀ k, k < 2 → parseFieldDescriptor (F_tu k).2.2.1 = some (fy_tu k) := by decide +kernel
theorem cw_bo : ∀ w ∈ u_ws "TuneLoans$Borrower" F_bo 3, w ∈ TB := by
  intro w h
  obtain ⟨k, hk, rfl⟩ := List.mem_map.mp h
  have hk := List.mem_range.mp hk
  match k, hk with
  | 0, _ => exact mem_tb 156 (by decide +kernel) (by decide +kernel)
  | 1, _ => exact mem_tb 158 (by decide +kernel) (by decide +kernel)
  | 2, _ => exact mem_tb 160 (by decide +kernel) (by decide +kernel)
theorem cn_bo : ∀ a, a < 3 → ∀ b, b < 3 → a ≠ b → (F_bo a).2.1 ≠ (F_bo b).2.1 := by decide +kernel
theorem ct_bo : ∀ k, k < 3 → parseFieldDescriptor (F_bo k).2.2.1 = some (fy_bo k) := by decide +kernel
theorem cw_lo : ∀ w ∈ u_ws "TuneLoans$Loan" F_lo 7, w ∈ TB := by
  intro w h
  obtain ⟨k, hk, rfl⟩ := List.mem_map.mp h
  have hk := List.mem_range.mp hk
  match k, hk with
  | 0, _ => exact mem_tb 183 (by decide +kernel) (by decide +kernel)
  | 1, _ => exact mem_tb 185 (by decide +kernel) (by decide +kernel)
  | 2, _ => exact mem_tb 187 (by decide +kernel) (by decide +kernel)
  | 3, _ => exact mem_tb 189 (by decide +kernel) (by decide +kernel)
  | 4, _ => exact mem_tb 191 (by decide +kernel) (by decide +kernel)
  | 5, _ => exact mem_tb 193 (by decide +kernel) (by decide +kernel)
  | 6, _ => exact mem_tb 195 (by decide +kernel) (by decide +kernel)
theorem cn_lo : ∀ a, a < 7 → ∀ b, b < 7 → a ≠ b → (F_lo a).2.1 ≠ (F_lo b).2.1 := by decide +kernel
theorem ct_lo : ∀ k, k < 7 → parseFieldDescriptor (F_lo k).2.2.1 = some (fy_lo k) := by decide +kernel
theorem cw_ye : ∀ w ∈ u_ws "TuneLoans$Years" F_ye 8, w ∈ TB := by
  intro w h
  obtain ⟨k, hk, rfl⟩ := List.mem_map.mp h
  have hk := List.mem_range.mp hk
  match k, hk with
  | 0, _ => exact mem_tb 255 (by decide +kernel) (by decide +kernel)
  | 1, _ => exact mem_tb 257 (by decide +kernel) (by decide +kernel)
  | 2, _ => exact mem_tb 259 (by decide +kernel) (by decide +kernel)
  | 3, _ => exact mem_tb 261 (by decide +kernel) (by decide +kernel)
  | 4, _ => exact mem_tb 263 (by decide +kernel) (by decide +kernel)
  | 5, _ => exact mem_tb 265 (by decide +kernel) (by decide +kernel)
  | 6, _ => exact mem_tb 267 (by decide +kernel) (by decide +kernel)
  | 7, _ => exact mem_tb 269 (by decide +kernel) (by decide +kernel)
theorem cn_ye : ∀ a, a < 8 → ∀ b, b < 8 → a ≠ b → (F_ye a).2.1 ≠ (F_ye b).2.1 := by decide +kernel
theorem ct_ye : ∀ k, k < 8 → parseFieldDescriptor (F_ye k).2.2.1 = some (fy_ye k) := by decide +kernel
theorem cw_tr : ∀ w ∈ u_ws "TuneLoans$Turns" F_tr 3, w ∈ TB := by
  intro w h
  obtain ⟨k, hk, rfl⟩ := List.mem_map.mp h
  have hk := List.mem_range.mp hk
  match k, hk with
  | 0, _ => exact mem_tb 283 (by decide +kernel) (by decide +kernel)
  | 1, _ => exact mem_tb 285 (by decide +kernel) (by decide +kernel)
  | 2, _ => exact mem_tb 287 (by decide +kernel) (by decide +kernel)
theorem cn_tr : ∀ a, a < 3 → ∀ b, b < 3 → a ≠ b → (F_tr a).2.1 ≠ (F_tr b).2.1 := by decide +kernel
theorem ct_tr : ∀ k, k < 3 → parseFieldDescriptor (F_tr k).2.2.1 = some (fy_tr k) := by decide +kernel
theorem cw_li : ∀ w ∈ u_ws "TuneLoans$Likeness" F_li 1, w ∈ TB := by
  intro w h
  obtain ⟨k, hk, rfl⟩ := List.mem_map.mp h
  have hk := List.mem_range.mp hk
  match k, hk with
  | 0, _ => exact mem_tb 297 (by decide +kernel) (by decide +kernel)
theorem cn_li : ∀ a, a < 1 → ∀ b, b < 1 → a ≠ b → (F_li a).2.1 ≠ (F_li b).2.1 := by decide +kernel
theorem ct_li : ∀ k, k < 1 → parseFieldDescriptor (F_li k).2.2.1 = some (fy_li k) := by decide +kernel
theorem cw_ch : ∀ w ∈ u_ws "TuneLoans$Chance" F_ch 4, w ∈ TB := by
  intro w h
  obtain ⟨k, hk, rfl⟩ := List.mem_map.mp h
  have hk := List.mem_range.mp hk
  match k, hk with
  | 0, _ => exact mem_tb 313 (by decide +kernel) (by decide +kernel)
  | 1, _ => exact mem_tb 315 (by decide +kernel) (by decide +kernel)
  | 2, _ => exact mem_tb 317 (by decide +kernel) (by decide +kernel)
  | 3, _ => exact mem_tb 319 (by decide +kernel) (by decide +kernel)
theorem cn_ch : ∀ a, a < 4 → ∀ b, b < 4 → a ≠ b → (F_ch a).2.1 ≠ (F_ch b).2.1 := by decide +kernel
theorem ct_ch : ∀ k, k < 4 → parseFieldDescriptor (F_ch k).2.2.1 = some (fy_ch k) := by decide +kernel
theorem cw_sh : ∀ w ∈ u_ws "TuneLoans$Sheet" F_sh 3, w ∈ TB := by
  intro w h
  obtain ⟨k, hk, rfl⟩ := List.mem_map.mp h
  have hk := List.mem_range.mp hk
  match k, hk with
  | 0, _ => exact mem_tb 335 (by decide +kernel) (by decide +kernel)
  | 1, _ => exact mem_tb 337 (by decide +kernel) (by decide +kernel)
  | 2, _ => exact mem_tb 339 (by decide +kernel) (by decide +kernel)
theorem cn_sh : ∀ a, a < 3 → ∀ b, b < 3 → a ≠ b → (F_sh a).2.1 ≠ (F_sh b).2.1 := by decide +kernel
theorem ct_sh : ∀ k, k < 3 → parseFieldDescriptor (F_sh k).2.2.1 = some (fy_sh k) := by decide +kernel
theorem cw_mo : ∀ w ∈ u_ws "TuneLoansModel" F_mo 26, w ∈ TB := by
  intro w h
  obtain ⟨k, hk, rfl⟩ := List.mem_map.mp h
  have hk := List.mem_range.mp hk
  match k, hk with
  | 0, _ => exact mem_tb 892 (by decide +kernel) (by decide +kernel)
  | 1, _ => exact mem_tb 894 (by decide +kernel) (by decide +kernel)
  | 2, _ => exact mem_tb 896 (by decide +kernel) (by decide +kernel)
  | 3, _ => exact mem_tb 898 (by decide +kernel) (by decide +kernel)
  | 4, _ => exact mem_tb 900 (by decide +kernel) (by decide +kernel)
  | 5, _ => exact mem_tb 902 (by decide +kernel) (by decide +kernel)
  | 6, _ => exact mem_tb 904 (by decide +kernel) (by decide +kernel)
  | 7, _ => exact mem_tb 906 (by decide +kernel) (by decide +kernel)
  | 8, _ => exact mem_tb 908 (by decide +kernel) (by decide +kernel)
  | 9, _ => exact mem_tb 910 (by decide +kernel) (by decide +kernel)
  | 10, _ => exact mem_tb 912 (by decide +kernel) (by decide +kernel)
  | 11, _ => exact mem_tb 914 (by decide +kernel) (by decide +kernel)
  | 12, _ => exact mem_tb 916 (by decide +kernel) (by decide +kernel)
  | 13, _ => exact mem_tb 918 (by decide +kernel) (by decide +kernel)
  | 14, _ => exact mem_tb 920 (by decide +kernel) (by decide +kernel)
  | 15, _ => exact mem_tb 922 (by decide +kernel) (by decide +kernel)
  | 16, _ => exact mem_tb 924 (by decide +kernel) (by decide +kernel)
  | 17, _ => exact mem_tb 926 (by decide +kernel) (by decide +kernel)
  | 18, _ => exact mem_tb 928 (by decide +kernel) (by decide +kernel)
  | 19, _ => exact mem_tb 930 (by decide +kernel) (by decide +kernel)
  | 20, _ => exact mem_tb 932 (by decide +kernel) (by decide +kernel)
  | 21, _ => exact mem_tb 934 (by decide +kernel) (by decide +kernel)
  | 22, _ => exact mem_tb 936 (by decide +kernel) (by decide +kernel)
  | 23, _ => exact mem_tb 938 (by decide +kernel) (by decide +kernel)
  | 24, _ => exact mem_tb 940 (by decide +kernel) (by decide +kernel)
  | 25, _ => exact mem_tb 942 (by decide +kernel) (by decide +kernel)
  | k + 26, hk => exact absurd hk (by omega)
theorem cn_mo : ∀ a, a < 26 → ∀ b, b < 26 → a ≠ b → (F_mo a).2.1 ≠ (F_mo b).2.1 := by decide +kernel
theorem ct_mo : ∀ k, k < 26 → parseFieldDescriptor (F_mo k).2.2.1 = some (fy_mo k) := by decide +kernel
theorem cl_ok : ∀ (ci : Nat) (C : String) (T : u_T) (N : Nat), CL[ci]? = some (C, T, N) → (∀ w ∈ u_ws C T N, w ∈ TB) ∧ (∀ a, a < N → ∀ b, b < N → a ≠ b → (T a).2.1 ≠ (T b).2.1) ∧ ∀ k, k < N → parseFieldDescriptor (T k).2.2.1 = some (fyc ci k) := by
  intro ci C T N h
  match ci, h with
  | 0, h => cases h; exact ⟨cw_tl, cn_tl, ct_tl⟩
  | 1, h => cases h; exact ⟨cw_bk, cn_bk, ct_bk⟩
  | 2, h => cases h; exact ⟨cw_tx, cn_tx, ct_tx⟩
  | 3, h => cases h; exact ⟨cw_tu, cn_tu, ct_tu⟩
  | 4, h => cases h; exact ⟨cw_bo, cn_bo, ct_bo⟩
  | 5, h => cases h; exact ⟨cw_lo, cn_lo, ct_lo⟩
  | 6, h => cases h; exact ⟨cw_ye, cn_ye, ct_ye⟩
  | 7, h => cases h; exact ⟨cw_tr, cn_tr, ct_tr⟩
  | 8, h => cases h; exact ⟨cw_li, cn_li, ct_li⟩
  | 9, h => cases h; exact ⟨cw_ch, cn_ch, ct_ch⟩
  | 10, h => cases h; exact ⟨cw_sh, cn_sh, ct_sh⟩
  | 11, h => cases h; exact ⟨cw_mo, cn_mo, ct_mo⟩
  | ci + 12, h => simp [CL] at h
/-- a method: its name, its bytes, its locals, its answer, its room (frames, cells, slots, locals) -/
abbrev MD : Type := MethodName × ByteArray × Nat × Option FieldType × Nat × Nat × Nat × Nat
abbrev J_bk_init : MD := (⟨"TuneLoans$Book", "<init>", "()V"⟩, prog_2_method_1_code, 2, none, 2, 38, 504, 61)
abbrev J_bk_readTunes : MD := (⟨"TuneLoans$Book", "readTunes", "()V"⟩, prog_2_method_2_code, 7, none, 2, 0, 0, 43)
abbrev J_bk_readBorrowers : MD := (⟨"TuneLoans$Book", "readBorrowers", "()V"⟩, prog_2_method_3_code, 4, none, 5, 0, 0, 149)
abbrev J_bk_goesOn : MD := (⟨"TuneLoans$Book", "goesOn", "(LTuneLoans$Text;I)Z"⟩, prog_2_method_4_code, 4, (some .boolean), 4, 0, 0, 126)
abbrev J_bk_toldNotes : MD := (⟨"TuneLoans$Book", "toldNotes", "()I"⟩, prog_2_method_5_code, 3, (some .int), 0, 0, 0, 0)
abbrev J_bk_countingLoans : MD := (⟨"TuneLoans$Book", "countingLoans", "()I"⟩, prog_2_method_6_code, 3, (some .int), 0, 0, 0, 0)
abbrev J_bo_init : MD := (⟨"TuneLoans$Borrower", "<init>", "()V"⟩, prog_3_method_1_code, 1, none, 1, 0, 0, 40)
abbrev J_ch_init : MD := (⟨"TuneLoans$Chance", "<init>", "()V"⟩, prog_4_method_1_code, 1, none, 2, 5, 94, 60)
abbrev J_ch_weigh : MD := (⟨"TuneLoans$Chance", "weigh", "(II)V"⟩, prog_4_method_2_code, 5, none, 0, 0, 0, 0)
abbrev J_ch_weightOf : MD := (⟨"TuneLoans$Chance", "weightOf", "(LTuneLoans$Tune;LTuneLoans$Borrower;II)J"⟩, prog_4_method_3_code, 8, (some .long), 3, 0, 0, 102)
abbrev J_ch_fairSize : MD := (⟨"TuneLoans$Chance", "fairSize", "(LTuneLoans$Book;III)I"⟩, prog_4_method_4_code, 8, (some .int), 3, 0, 0, 102)
abbrev J_ch_lot : MD := (⟨"TuneLoans$Chance", "lot", "(I)I"⟩, prog_4_method_5_code, 2, (some .int), 0, 0, 0, 0)
abbrev J_ch_hum : MD := (⟨"TuneLoans$Chance", "hum", "(LTuneLoans$Borrower;)V"⟩, prog_4_method_6_code, 2, none, 2, 0, 0, 81)
abbrev J_li_init : MD := (⟨"TuneLoans$Likeness", "<init>", "()V"⟩, prog_5_method_1_code, 1, none, 1, 1, 7, 40)
abbrev J_li_of : MD := (⟨"TuneLoans$Likeness", "of", "(LTuneLoans$Tune;LTuneLoans$Tune;)I"⟩, prog_5_method_2_code, 8, (some .int), 1, 0, 0, 21)
abbrev J_lo_init : MD := (⟨"TuneLoans$Loan", "<init>", "()V"⟩, prog_6_method_1_code, 1, none, 1, 0, 0, 40)
abbrev J_sh_init : MD := (⟨"TuneLoans$Sheet", "<init>", "()V"⟩, prog_7_method_1_code, 1, none, 1, 1, 60, 40)
abbrev J_sh_isLost : MD := (⟨"TuneLoans$Sheet", "isLost", "()Z"⟩, prog_7_method_2_code, 1, (some .boolean), 0, 0, 0, 0)
abbrev J_sh_begin : MD := (⟨"TuneLoans$Sheet", "begin", "(II)V"⟩, prog_7_method_3_code, 4, none, 0, 0, 0, 0)
abbrev J_sh_put : MD := (⟨"TuneLoans$Sheet", "put", "(II)V"⟩, prog_7_method_4_code, 3, none, 0, 0, 0, 0)
abbrev J_sh_hasSpan : MD := (⟨"TuneLoans$Sheet", "hasSpan", "(II)Z"⟩, prog_7_method_5_code, 3, (some .boolean), 0, 0, 0, 0)
abbrev J_tx_init : MD := (⟨"TuneLoans$Text", "<init>", "(I)V"⟩, prog_8_method_1_code, 2, none, 1, 1, 59, 40)
abbrev J_tx_noteAt : MD := (⟨"TuneLoans$Text", "noteAt", "(I)I"⟩, prog_8_method_2_code, 2, (some .int), 1, 0, 0, 22)
abbrev J_tu_init : MD := (⟨"TuneLoans$Tune", "<init>", "()V"⟩, prog_9_method_1_code, 1, none, 1, 1, 40, 40)
abbrev J_tu_at : MD := (⟨"TuneLoans$Tune", "at", "(I)I"⟩, prog_9_method_2_code, 2, (some .int), 0, 0, 0, 0)
abbrev J_tu_add : MD := (⟨"TuneLoans$Tune", "add", "(I)V"⟩, prog_9_method_3_code, 2, none, 0, 0, 0, 0)
abbrev J_tu_become : MD := (⟨"TuneLoans$Tune", "become", "(LTuneLoans$Tune;)V"⟩, prog_9_method_4_code, 2, none, 1, 0, 0, 60)
abbrev J_tu_becomeHummed : MD := (⟨"TuneLoans$Tune", "becomeHummed", "(LTuneLoans$Tune;LTuneLoans$Borrower;)V"⟩, prog_9_method_5_code, 6, none, 1, 0, 0, 21)
abbrev J_tu_bits : MD := (⟨"TuneLoans$Tune", "bits", "()I"⟩, prog_9_method_6_code, 3, (some .int), 0, 0, 0, 0)
abbrev J_tu_isLike : MD := (⟨"TuneLoans$Tune", "isLike", "(LTuneLoans$Tune;)Z"⟩, prog_9_method_7_code, 3, (some .boolean), 0, 0, 0, 0)
abbrev J_tr_init : MD := (⟨"TuneLoans$Turns", "<init>", "()V"⟩, prog_10_method_1_code, 2, none, 2, 10, 175, 60)
abbrev J_tr_begin : MD := (⟨"TuneLoans$Turns", "begin", "(LTuneLoans$Tune;)V"⟩, prog_10_method_2_code, 2, none, 2, 0, 0, 81)
abbrev J_tr_rowsOf : MD := (⟨"TuneLoans$Turns", "rowsOf", "(LTuneLoans$Book;I)I"⟩, prog_10_method_3_code, 5, (some .int), 0, 0, 0, 0)
abbrev J_tr_turnOf : MD := (⟨"TuneLoans$Turns", "turnOf", "(LTuneLoans$Book;III)I"⟩, prog_10_method_4_code, 7, (some .int), 1, 0, 0, 24)
abbrev J_tr_after : MD := (⟨"TuneLoans$Turns", "after", "(LTuneLoans$Book;II)LTuneLoans$Tune;"⟩, prog_10_method_5_code, 6, (some (.object "TuneLoans$Tune")), 2, 0, 0, 50)
abbrev J_tr_figures : MD := (⟨"TuneLoans$Turns", "figures", "(LTuneLoans$Book;II)I"⟩, prog_10_method_6_code, 6, (some .int), 2, 0, 0, 50)
abbrev J_ye_init : MD := (⟨"TuneLoans$Years", "<init>", "()V"⟩, prog_11_method_1_code, 2, none, 2, 32, 10644, 60)
abbrev J_ye_forget : MD := (⟨"TuneLoans$Years", "forget", "()V"⟩, prog_11_method_2_code, 1, none, 0, 0, 0, 0)
abbrev J_ye_live : MD := (⟨"TuneLoans$Years", "live", "(LTuneLoans$Book;ILTuneLoans$Likeness;)V"⟩, prog_11_method_3_code, 5, none, 3, 0, 0, 108)
abbrev J_ye_sizeOf : MD := (⟨"TuneLoans$Years", "sizeOf", "(II)I"⟩, prog_11_method_4_code, 3, (some .int), 0, 0, 0, 0)
abbrev J_ye_noteOf : MD := (⟨"TuneLoans$Years", "noteOf", "(III)I"⟩, prog_11_method_5_code, 5, (some .int), 0, 0, 0, 0)
abbrev J_ye_holderOf : MD := (⟨"TuneLoans$Years", "holderOf", "(II)I"⟩, prog_11_method_6_code, 3, (some .int), 0, 0, 0, 0)
abbrev J_ye_allAtBank : MD := (⟨"TuneLoans$Years", "allAtBank", "(LTuneLoans$Book;I)Z"⟩, prog_11_method_7_code, 4, (some .boolean), 1, 0, 0, 22)
abbrev J_ye_begin : MD := (⟨"TuneLoans$Years", "begin", "(LTuneLoans$Book;)V"⟩, prog_11_method_8_code, 4, none, 2, 0, 0, 81)
abbrev J_ye_lendOut : MD := (⟨"TuneLoans$Years", "lendOut", "(LTuneLoans$Book;I)V"⟩, prog_11_method_9_code, 6, none, 2, 0, 0, 81)
abbrev J_ye_humLent : MD := (⟨"TuneLoans$Years", "humLent", "(LTuneLoans$Book;)V"⟩, prog_11_method_10_code, 3, none, 2, 0, 0, 81)
abbrev J_ye_comeBack : MD := (⟨"TuneLoans$Years", "comeBack", "(LTuneLoans$Book;IILTuneLoans$Likeness;)V"⟩, prog_11_method_11_code, 8, none, 2, 0, 0, 81)
abbrev J_ye_keep : MD := (⟨"TuneLoans$Years", "keep", "(LTuneLoans$Book;I)V"⟩, prog_11_method_12_code, 5, none, 1, 0, 0, 60)
abbrev J_tl_init : MD := (⟨"TuneLoans", "<init>", "()V"⟩, prog_1_method_1_code, 2, none, 3, 200, 20000, 82)
abbrev J_tl_type : MD := (⟨"TuneLoans", "type", "(II)I"⟩, prog_1_method_2_code, 4, (some .int), 7, 0, 0, 194)
abbrev J_tl_wipe : MD := (⟨"TuneLoans", "wipe", "(I)I"⟩, prog_1_method_3_code, 3, (some .int), 7, 0, 0, 194)
abbrev J_tl_undo : MD := (⟨"TuneLoans", "undo", "(I)I"⟩, prog_1_method_4_code, 3, (some .int), 7, 0, 0, 194)
abbrev J_tl_fault : MD := (⟨"TuneLoans", "fault", "(I)I"⟩, prog_1_method_5_code, 2, (some .int), 2, 0, 0, 42)
abbrev J_tl_tune : MD := (⟨"TuneLoans", "tune", "(II)I"⟩, prog_1_method_6_code, 4, (some .int), 2, 0, 0, 43)
abbrev J_tl_borrower : MD := (⟨"TuneLoans", "borrower", "(II)I"⟩, prog_1_method_7_code, 4, (some .int), 2, 0, 0, 43)
abbrev J_tl_loan : MD := (⟨"TuneLoans", "loan", "(IIII)I"⟩, prog_1_method_8_code, 6, (some .int), 2, 0, 0, 42)
abbrev J_tl_back : MD := (⟨"TuneLoans", "back", "()I"⟩, prog_1_method_9_code, 1, (some .int), 1, 0, 0, 20)
abbrev J_tl_read : MD := (⟨"TuneLoans", "read", "(I)I"⟩, prog_1_method_10_code, 7, (some .int), 3, 0, 0, 67)
abbrev J_tl_ear : MD := (⟨"TuneLoans", "ear", "(I)I"⟩, prog_1_method_11_code, 3, (some .int), 2, 0, 0, 42)
abbrev J_tl_notes : MD := (⟨"TuneLoans", "notes", "(III)I"⟩, prog_1_method_12_code, 4, (some .int), 4, 0, 0, 132)
abbrev J_tl_has : MD := (⟨"TuneLoans", "has", "(II)I"⟩, prog_1_method_13_code, 3, (some .int), 4, 0, 0, 132)
abbrev J_tl_came : MD := (⟨"TuneLoans", "came", "(II)I"⟩, prog_1_method_14_code, 5, (some .int), 4, 0, 0, 132)
abbrev J_tl_interest : MD := (⟨"TuneLoans", "interest", "(I)I"⟩, prog_1_method_15_code, 2, (some .int), 5, 0, 0, 156)
abbrev J_tl_home : MD := (⟨"TuneLoans", "home", "(I)I"⟩, prog_1_method_16_code, 3, (some .int), 4, 0, 0, 132)
abbrev J_tl_lend : MD := (⟨"TuneLoans", "lend", "(III)I"⟩, prog_1_method_17_code, 7, (some .int), 3, 0, 0, 102)
abbrev J_tl_longest : MD := (⟨"TuneLoans", "longest", "(III)I"⟩, prog_1_method_18_code, 9, (some .int), 3, 0, 0, 102)
abbrev J_tl_who : MD := (⟨"TuneLoans", "who", "(III)I"⟩, prog_1_method_19_code, 10, (some .int), 3, 0, 0, 102)
abbrev J_tl_common : MD := (⟨"TuneLoans", "common", "(II)I"⟩, prog_1_method_20_code, 3, (some .int), 2, 0, 0, 48)
abbrev J_tl_far : MD := (⟨"TuneLoans", "far", "(II)I"⟩, prog_1_method_21_code, 3, (some .int), 2, 0, 0, 48)
abbrev J_tl_nearest : MD := (⟨"TuneLoans", "nearest", "(I)I"⟩, prog_1_method_22_code, 6, (some .int), 3, 0, 0, 70)
abbrev J_tl_mothers : MD := (⟨"TuneLoans", "mothers", "(I)I"⟩, prog_1_method_23_code, 5, (some .int), 2, 0, 0, 48)
abbrev J_tl_tells : MD := (⟨"TuneLoans", "tells", "(II)I"⟩, prog_1_method_24_code, 7, (some .int), 3, 0, 0, 67)
abbrev J_tl_loses : MD := (⟨"TuneLoans", "loses", "(I)I"⟩, prog_1_method_25_code, 2, (some .int), 5, 0, 0, 156)
abbrev J_tl_best : MD := (⟨"TuneLoans", "best", "(I)I"⟩, prog_1_method_26_code, 3, (some .int), 5, 0, 0, 156)
abbrev J_tl_hums : MD := (⟨"TuneLoans", "hums", "(IIIIII)J"⟩, prog_1_method_27_code, 13, (some .long), 4, 0, 0, 129)
abbrev J_tl_fair : MD := (⟨"TuneLoans", "fair", "(III)I"⟩, prog_1_method_28_code, 4, (some .int), 4, 0, 0, 129)
abbrev J_tl_sheet : MD := (⟨"TuneLoans", "sheet", "(III)I"⟩, prog_1_method_29_code, 4, (some .int), 2, 0, 0, 42)
abbrev J_tl_lose : MD := (⟨"TuneLoans", "lose", "(I)I"⟩, prog_1_method_30_code, 3, (some .int), 2, 0, 0, 42)
abbrev J_tl_lay : MD := (⟨"TuneLoans", "lay", "(IIII)I"⟩, prog_1_method_31_code, 6, (some .int), 3, 0, 0, 66)
abbrev J_tl_get : MD := (⟨"TuneLoans", "get", "(III)I"⟩, prog_1_method_32_code, 4, (some .int), 3, 0, 0, 66)
abbrev J_tl_copy : MD := (⟨"TuneLoans", "copy", "(IIIII)I"⟩, prog_1_method_33_code, 8, (some .int), 2, 0, 0, 60)
abbrev J_tl_write : MD := (⟨"TuneLoans", "write", "(III)I"⟩, prog_1_method_34_code, 7, (some .int), 4, 0, 0, 132)
abbrev J_tl_count : MD := (⟨"TuneLoans", "count", "(I)I"⟩, prog_1_method_35_code, 2, (some .int), 4, 0, 0, 132)
abbrev J_tl_digest : MD := (⟨"TuneLoans", "digest", "()J"⟩, prog_1_method_36_code, 5, (some .long), 6, 0, 0, 186)
abbrev J_tl_digestAlone : MD := (⟨"TuneLoans", "digestAlone", "(JI)J"⟩, prog_1_method_37_code, 6, (some .long), 5, 0, 0, 155)
abbrev J_tl_digestTogether : MD := (⟨"TuneLoans", "digestTogether", "(JI)J"⟩, prog_1_method_38_code, 6, (some .long), 5, 0, 0, 161)
abbrev J_tl_within : MD := (⟨"TuneLoans", "within", "(III)Z"⟩, prog_1_method_39_code, 3, (some .boolean), 0, 0, 0, 0)
abbrev J_tl_isText : MD := (⟨"TuneLoans", "isText", "(I)Z"⟩, prog_1_method_40_code, 1, (some .boolean), 1, 0, 0, 22)
abbrev J_tl_isYear : MD := (⟨"TuneLoans", "isYear", "(I)Z"⟩, prog_1_method_41_code, 1, (some .boolean), 1, 0, 0, 22)
abbrev J_tl_isEar : MD := (⟨"TuneLoans", "isEar", "(I)Z"⟩, prog_1_method_42_code, 1, (some .boolean), 1, 0, 0, 22)
abbrev J_tl_isSheet : MD := (⟨"TuneLoans", "isSheet", "(I)Z"⟩, prog_1_method_43_code, 1, (some .boolean), 1, 0, 0, 22)
abbrev J_tl_isForm : MD := (⟨"TuneLoans", "isForm", "(I)Z"⟩, prog_1_method_44_code, 1, (some .boolean), 1, 0, 0, 22)
abbrev J_tl_isTune : MD := (⟨"TuneLoans", "isTune", "(I)Z"⟩, prog_1_method_45_code, 2, (some .boolean), 1, 0, 0, 22)
abbrev J_tl_isBorrower : MD := (⟨"TuneLoans", "isBorrower", "(I)Z"⟩, prog_1_method_46_code, 2, (some .boolean), 1, 0, 0, 22)
abbrev J_tl_found : MD := (⟨"TuneLoans", "found", "(I)I"⟩, prog_1_method_47_code, 2, (some .int), 0, 0, 0, 0)
abbrev J_tl_resized : MD := (⟨"TuneLoans", "resized", "(II)I"⟩, prog_1_method_48_code, 3, (some .int), 6, 0, 0, 172)
abbrev J_tl_interestBy : MD := (⟨"TuneLoans", "interestBy", "(II)I"⟩, prog_1_method_49_code, 5, (some .int), 4, 0, 0, 132)
abbrev J_tl_tellFromAll : MD := (⟨"TuneLoans", "tellFromAll", "(II)Z"⟩, prog_1_method_50_code, 4, (some .boolean), 2, 0, 0, 44)
abbrev J_tl_tellFrom : MD := (⟨"TuneLoans", "tellFrom", "(LTuneLoans$Tune;LTuneLoans$Tune;I)Z"⟩, prog_1_method_51_code, 4, (some .boolean), 1, 0, 0, 21)
abbrev J_tl_refusalOfItem : MD := (⟨"TuneLoans", "refusalOfItem", "(III)I"⟩, prog_1_method_52_code, 5, (some .int), 2, 0, 0, 42)
abbrev J_mo_init : MD := (⟨"TuneLoansModel", "<init>", "()V"⟩, prog_13_method_1_code, 2, none, 1, 40, 4000, 40)
abbrev J_mo_in : MD := (⟨"TuneLoansModel", "in", "(JJJ)Z"⟩, prog_13_method_3_code, 6, (some .boolean), 0, 0, 0, 0)
abbrev J_mo_no : MD := (⟨"TuneLoansModel", "no", "(I)J"⟩, prog_13_method_4_code, 1, (some .long), 0, 0, 0, 0)
abbrev J_mo_isTwo : MD := (⟨"TuneLoansModel", "isTwo", "(I)Z"⟩, prog_13_method_5_code, 1, (some .boolean), 1, 0, 0, 25)
abbrev J_mo_isIn : MD := (⟨"TuneLoansModel", "isIn", "(II)Z"⟩, prog_13_method_6_code, 2, (some .boolean), 0, 0, 0, 0)
abbrev J_mo_ones : MD := (⟨"TuneLoansModel", "ones", "(I)I"⟩, prog_13_method_7_code, 3, (some .int), 0, 0, 0, 0)
abbrev J_mo_lesser : MD := (⟨"TuneLoansModel", "lesser", "(II)I"⟩, prog_13_method_8_code, 2, (some .int), 0, 0, 0, 0)
abbrev J_mo_greater : MD := (⟨"TuneLoansModel", "greater", "(II)I"⟩, prog_13_method_9_code, 2, (some .int), 0, 0, 0, 0)
abbrev J_mo_part : MD := (⟨"TuneLoansModel", "part", "(JJI)J"⟩, prog_13_method_10_code, 11, (some .long), 0, 0, 0, 0)
abbrev J_mo_finds : MD := (⟨"TuneLoansModel", "finds", "(I)I"⟩, prog_13_method_11_code, 2, (some .int), 0, 0, 0, 0)
abbrev J_mo_isSheet : MD := (⟨"TuneLoansModel", "isSheet", "(I)Z"⟩, prog_13_method_12_code, 1, (some .boolean), 1, 0, 0, 25)
abbrev J_mo_sheet : MD := (⟨"TuneLoansModel", "sheet", "(III)I"⟩, prog_13_method_13_code, 5, (some .int), 2, 0, 0, 45)
abbrev J_mo_lose : MD := (⟨"TuneLoansModel", "lose", "(I)I"⟩, prog_13_method_14_code, 2, (some .int), 2, 0, 0, 45)
abbrev J_mo_lacks : MD := (⟨"TuneLoansModel", "lacks", "(III)I"⟩, prog_13_method_15_code, 4, (some .int), 1, 0, 0, 25)
abbrev J_mo_cut : MD := (⟨"TuneLoansModel", "cut", "(II)I"⟩, prog_13_method_16_code, 2, (some .int), 0, 0, 0, 0)
abbrev J_mo_lay : MD := (⟨"TuneLoansModel", "lay", "(IIII)I"⟩, prog_13_method_17_code, 6, (some .int), 2, 0, 0, 48)
abbrev J_mo_get : MD := (⟨"TuneLoansModel", "get", "(III)I"⟩, prog_13_method_18_code, 4, (some .int), 2, 0, 0, 48)
abbrev J_mo_copy : MD := (⟨"TuneLoansModel", "copy", "(IIIII)I"⟩, prog_13_method_19_code, 7, (some .int), 2, 0, 0, 45)
abbrev J_mo_type : MD := (⟨"TuneLoansModel", "type", "(II)I"⟩, prog_13_method_20_code, 3, (some .int), 2, 0, 0, 45)
abbrev J_mo_wipe : MD := (⟨"TuneLoansModel", "wipe", "(I)I"⟩, prog_13_method_21_code, 3, (some .int), 2, 0, 0, 45)
abbrev J_mo_undo : MD := (⟨"TuneLoansModel", "undo", "(I)I"⟩, prog_13_method_22_code, 2, (some .int), 2, 0, 0, 45)
abbrev J_mo_tunesFault : MD := (⟨"TuneLoansModel", "tunesFault", "(I)I"⟩, prog_13_method_23_code, 2, (some .int), 0, 0, 0, 0)
abbrev J_mo_readsTunes : MD := (⟨"TuneLoansModel", "readsTunes", "()I"⟩, prog_13_method_24_code, 4, (some .int), 1, 0, 0, 25)
abbrev J_mo_howOf : MD := (⟨"TuneLoansModel", "howOf", "(I)I"⟩, prog_13_method_25_code, 1, (some .int), 0, 0, 0, 0)
abbrev J_mo_readsBorrowers : MD := (⟨"TuneLoansModel", "readsBorrowers", "()I"⟩, prog_13_method_26_code, 6, (some .int), 1, 0, 0, 25)
abbrev J_mo_reads : MD := (⟨"TuneLoansModel", "reads", "()V"⟩, prog_13_method_27_code, 1, none, 2, 0, 0, 50)
abbrev J_mo_fault : MD := (⟨"TuneLoansModel", "fault", "(I)I"⟩, prog_13_method_28_code, 2, (some .int), 2, 0, 0, 50)
abbrev J_mo_isTune : MD := (⟨"TuneLoansModel", "isTune", "(I)Z"⟩, prog_13_method_29_code, 2, (some .boolean), 1, 0, 0, 25)
abbrev J_mo_isBorrower : MD := (⟨"TuneLoansModel", "isBorrower", "(I)Z"⟩, prog_13_method_30_code, 2, (some .boolean), 1, 0, 0, 25)
abbrev J_mo_isYear : MD := (⟨"TuneLoansModel", "isYear", "(I)Z"⟩, prog_13_method_31_code, 1, (some .boolean), 1, 0, 0, 25)
abbrev J_mo_tune : MD := (⟨"TuneLoansModel", "tune", "(II)I"⟩, prog_13_method_32_code, 3, (some .int), 3, 0, 0, 70)
abbrev J_mo_borrower : MD := (⟨"TuneLoansModel", "borrower", "(II)I"⟩, prog_13_method_33_code, 3, (some .int), 3, 0, 0, 70)
abbrev J_mo_loan : MD := (⟨"TuneLoansModel", "loan", "(IIII)I"⟩, prog_13_method_34_code, 5, (some .int), 2, 0, 0, 45)
abbrev J_mo_back : MD := (⟨"TuneLoansModel", "back", "()I"⟩, prog_13_method_35_code, 1, (some .int), 0, 0, 0, 0)
abbrev J_mo_read : MD := (⟨"TuneLoansModel", "read", "(I)I"⟩, prog_13_method_36_code, 5, (some .int), 3, 0, 0, 69)
abbrev J_mo_ear : MD := (⟨"TuneLoansModel", "ear", "(I)I"⟩, prog_13_method_37_code, 3, (some .int), 1, 0, 0, 25)
abbrev J_mo_begins : MD := (⟨"TuneLoansModel", "begins", "(II)V"⟩, prog_13_method_38_code, 4, none, 0, 0, 0, 0)
abbrev J_mo_hummed : MD := (⟨"TuneLoansModel", "hummed", "(II)V"⟩, prog_13_method_39_code, 10, none, 1, 0, 0, 21)
abbrev J_mo_commonOf : MD := (⟨"TuneLoansModel", "commonOf", "([III[III)I"⟩, prog_13_method_40_code, 11, (some .int), 1, 0, 0, 21)
abbrev J_mo_startsAll : MD := (⟨"TuneLoansModel", "startsAll", "()V"⟩, prog_13_method_41_code, 2, none, 1, 0, 0, 23)
abbrev J_mo_lends : MD := (⟨"TuneLoansModel", "lends", "(I)V"⟩, prog_13_method_42_code, 4, none, 2, 0, 0, 46)
abbrev J_mo_returns : MD := (⟨"TuneLoansModel", "returns", "(II)V"⟩, prog_13_method_43_code, 6, none, 2, 0, 0, 51)
abbrev J_mo_goesOn : MD := (⟨"TuneLoansModel", "goesOn", "(II)V"⟩, prog_13_method_44_code, 5, none, 3, 0, 0, 76)
abbrev J_mo_lives : MD := (⟨"TuneLoansModel", "lives", "(II)V"⟩, prog_13_method_45_code, 4, none, 4, 0, 0, 100)
abbrev J_mo_notesOf : MD := (⟨"TuneLoansModel", "notesOf", "(III)I"⟩, prog_13_method_46_code, 4, (some .int), 5, 0, 0, 123)
abbrev J_mo_notes : MD := (⟨"TuneLoansModel", "notes", "(III)I"⟩, prog_13_method_47_code, 4, (some .int), 6, 0, 0, 146)
abbrev J_mo_hasOf : MD := (⟨"TuneLoansModel", "hasOf", "(II)I"⟩, prog_13_method_48_code, 3, (some .int), 5, 0, 0, 123)
abbrev J_mo_has : MD := (⟨"TuneLoansModel", "has", "(II)I"⟩, prog_13_method_49_code, 3, (some .int), 6, 0, 0, 145)
abbrev J_mo_cameOf : MD := (⟨"TuneLoansModel", "cameOf", "(II)I"⟩, prog_13_method_50_code, 3, (some .int), 5, 0, 0, 123)
abbrev J_mo_came : MD := (⟨"TuneLoansModel", "came", "(II)I"⟩, prog_13_method_51_code, 3, (some .int), 6, 0, 0, 145)
abbrev J_mo_interestBy : MD := (⟨"TuneLoansModel", "interestBy", "(II)I"⟩, prog_13_method_52_code, 5, (some .int), 5, 0, 0, 123)
abbrev J_mo_interest : MD := (⟨"TuneLoansModel", "interest", "(I)I"⟩, prog_13_method_53_code, 2, (some .int), 6, 0, 0, 147)
abbrev J_mo_homeOf : MD := (⟨"TuneLoansModel", "homeOf", "(I)I"⟩, prog_13_method_54_code, 5, (some .int), 4, 0, 0, 100)
abbrev J_mo_home : MD := (⟨"TuneLoansModel", "home", "(I)I"⟩, prog_13_method_55_code, 2, (some .int), 5, 0, 0, 124)
abbrev J_mo_codes : MD := (⟨"TuneLoansModel", "codes", "(I)I"⟩, prog_13_method_56_code, 4, (some .int), 0, 0, 0, 0)
abbrev J_mo_figureOf : MD := (⟨"TuneLoansModel", "figureOf", "(III)I"⟩, prog_13_method_57_code, 6, (some .int), 0, 0, 0, 0)
abbrev J_mo_turns : MD := (⟨"TuneLoansModel", "turns", "(III)V"⟩, prog_13_method_58_code, 5, none, 2, 0, 0, 50)
abbrev J_mo_notesNow : MD := (⟨"TuneLoansModel", "notesNow", "()I"⟩, prog_13_method_59_code, 3, (some .int), 0, 0, 0, 0)
abbrev J_mo_lendOf : MD := (⟨"TuneLoansModel", "lendOf", "(III)I"⟩, prog_13_method_60_code, 6, (some .int), 3, 0, 0, 74)
abbrev J_mo_lend : MD := (⟨"TuneLoansModel", "lend", "(III)I"⟩, prog_13_method_61_code, 4, (some .int), 4, 0, 0, 99)
abbrev J_mo_longestOf : MD := (⟨"TuneLoansModel", "longestOf", "(III)I"⟩, prog_13_method_62_code, 7, (some .int), 3, 0, 0, 74)
abbrev J_mo_longest : MD := (⟨"TuneLoansModel", "longest", "(III)I"⟩, prog_13_method_63_code, 4, (some .int), 4, 0, 0, 100)
abbrev J_mo_isNow : MD := (⟨"TuneLoansModel", "isNow", "(I)Z"⟩, prog_13_method_64_code, 4, (some .boolean), 0, 0, 0, 0)
abbrev J_mo_rowOf : MD := (⟨"TuneLoansModel", "rowOf", "(II)I"⟩, prog_13_method_65_code, 5, (some .int), 1, 0, 0, 25)
abbrev J_mo_whoOf : MD := (⟨"TuneLoansModel", "whoOf", "(III)I"⟩, prog_13_method_66_code, 8, (some .int), 3, 0, 0, 74)
abbrev J_mo_who : MD := (⟨"TuneLoansModel", "who", "(III)I"⟩, prog_13_method_67_code, 4, (some .int), 4, 0, 0, 101)
abbrev J_mo_commonBoth : MD := (⟨"TuneLoansModel", "commonBoth", "(II)I"⟩, prog_13_method_68_code, 3, (some .int), 2, 0, 0, 51)
abbrev J_mo_common : MD := (⟨"TuneLoansModel", "common", "(II)I"⟩, prog_13_method_69_code, 3, (some .int), 3, 0, 0, 73)
abbrev J_mo_farOf : MD := (⟨"TuneLoansModel", "farOf", "(II)I"⟩, prog_13_method_70_code, 3, (some .int), 3, 0, 0, 73)
abbrev J_mo_far : MD := (⟨"TuneLoansModel", "far", "(II)I"⟩, prog_13_method_71_code, 3, (some .int), 4, 0, 0, 95)
abbrev J_mo_nearestOf : MD := (⟨"TuneLoansModel", "nearestOf", "(I)I"⟩, prog_13_method_72_code, 4, (some .int), 4, 0, 0, 95)
abbrev J_mo_nearest : MD := (⟨"TuneLoansModel", "nearest", "(I)I"⟩, prog_13_method_73_code, 2, (some .int), 5, 0, 0, 118)
abbrev J_mo_mothersOf : MD := (⟨"TuneLoansModel", "mothersOf", "(I)I"⟩, prog_13_method_74_code, 4, (some .int), 3, 0, 0, 73)
abbrev J_mo_mothers : MD := (⟨"TuneLoansModel", "mothers", "(I)I"⟩, prog_13_method_75_code, 2, (some .int), 4, 0, 0, 96)
abbrev J_mo_noteAt : MD := (⟨"TuneLoansModel", "noteAt", "(II)I"⟩, prog_13_method_76_code, 3, (some .int), 0, 0, 0, 0)
abbrev J_mo_tellsOf : MD := (⟨"TuneLoansModel", "tellsOf", "(I)I"⟩, prog_13_method_77_code, 8, (some .int), 1, 0, 0, 22)
abbrev J_mo_tellsBits : MD := (⟨"TuneLoansModel", "tellsBits", "(II)I"⟩, prog_13_method_78_code, 2, (some .int), 1, 0, 0, 22)
abbrev J_mo_tells : MD := (⟨"TuneLoansModel", "tells", "(II)I"⟩, prog_13_method_79_code, 3, (some .int), 3, 0, 0, 70)
abbrev J_mo_losesOf : MD := (⟨"TuneLoansModel", "losesOf", "(I)I"⟩, prog_13_method_80_code, 2, (some .int), 6, 0, 0, 147)
abbrev J_mo_loses : MD := (⟨"TuneLoansModel", "loses", "(I)I"⟩, prog_13_method_81_code, 2, (some .int), 7, 0, 0, 168)
abbrev J_mo_bestOf : MD := (⟨"TuneLoansModel", "bestOf", "(I)I"⟩, prog_13_method_82_code, 3, (some .int), 6, 0, 0, 147)
abbrev J_mo_best : MD := (⟨"TuneLoansModel", "best", "(I)I"⟩, prog_13_method_83_code, 2, (some .int), 7, 0, 0, 169)
abbrev J_mo_humsOf : MD := (⟨"TuneLoansModel", "humsOf", "(IIIIII)J"⟩, prog_13_method_84_code, 17, (some .long), 2, 0, 0, 50)
abbrev J_mo_hums : MD := (⟨"TuneLoansModel", "hums", "(IIIIII)J"⟩, prog_13_method_85_code, 8, (some .long), 3, 0, 0, 86)
abbrev J_mo_fairOf : MD := (⟨"TuneLoansModel", "fairOf", "(III)I"⟩, prog_13_method_86_code, 7, (some .int), 2, 0, 0, 50)
abbrev J_mo_fair : MD := (⟨"TuneLoansModel", "fair", "(III)I"⟩, prog_13_method_87_code, 4, (some .int), 3, 0, 0, 76)
abbrev J_mo_write : MD := (⟨"TuneLoansModel", "write", "(III)I"⟩, prog_13_method_88_code, 6, (some .int), 5, 0, 0, 123)
abbrev J_mo_count : MD := (⟨"TuneLoansModel", "count", "(I)I"⟩, prog_13_method_89_code, 4, (some .int), 5, 0, 0, 123)
abbrev J_mo_tellsTune : MD := (⟨"TuneLoansModel", "tellsTune", "(JI)J"⟩, prog_13_method_90_code, 7, (some .long), 6, 0, 0, 146)
abbrev J_mo_digest : MD := (⟨"TuneLoansModel", "digest", "()J"⟩, prog_13_method_91_code, 5, (some .long), 7, 0, 0, 172)
abbrev J_ji_bitCount : MD := (⟨"java/lang/Integer", "bitCount", "(I)I"⟩, prog_15_method_49_code, 1, (some .int), 0, 0, 0, 0)
abbrev J_jl_bitCount : MD := (⟨"java/lang/Long", "bitCount", "(J)I"⟩, prog_16_method_50_code, 2, (some .int), 0, 0, 0, 0)
abbrev J_js_indexOf1 : MD := (⟨"java/lang/String", "indexOf", "(I)I"⟩, prog_18_method_79_code, 2, (some .int), 3, 0, 0, 105)
abbrev J_jx_checkFromToIndex : MD := (⟨"jdk/internal/util/Preconditions", "checkFromToIndex", "(IIILjava/util/function/BiFunction;)I"⟩, prog_22_method_12_code, 4, (some .int), 0, 0, 0, 0)
abbrev J_lw_law : MD := (⟨"TuneLoansLaw", "law", "([I)Z"⟩, code, 4, (some .boolean), 13, 600000, 7302250, 506)
end
section
/-! a plain machine: values are whole numbers and offsets, memory is a table of numbers and a table of offsets; each law here turns a step of it into a step of the real machine -/
abbrev PV : Type := Int ⊕ Int ⊕ Option Nat
abbrev pI (x : Int) : PV := .inl x
abbrev pL (x : Int) : PV := .inr (.inl x)
abbrev pR (o : Nat) : PV := .inr (.inr (some o))
abbrev pN : PV := .inr (.inr none)
abbrev RT : Type := Nat → Nat → Option Nat
abbrev MT : Type := Nat → Nat → Int
abbrev LT : Type := List (Nat × PV)
/-- offsets from here on are not the program's own cells -/
def XO : Nat := 1000
def cv (ad : Nat → Nat) (v : PV) : Value := match v with
  | .inl x => .int (Int32.ofInt x)
  | .inr (.inl x) => .long (Int64.ofInt x)
  | .inr (.inr r) => va_rf (r.map ad)
def cat (v : PV) : Nat := match v with
  | .inr (.inl _) => 2
  | _ => 1
theorem cat_cv (ad : Nat → Nat) (v : PV) : (cv ad v).category = cat v := by
  rcases v with x | x | _ | o <;> rfl
def R32 (x : Int) : Prop := -2147483648 ≤ x ∧ x < 2147483648
def R64 (x : Int) : Prop := -9223372036854775808 ≤ x ∧ x < 9223372036854775808
def okV (n : Nat) (v : PV) : Prop := match v with
  | .inl x => R32 x
  | .inr (.inl x) => R64 x
  | .inr (.inr none) => True
  | .inr (.inr (some o)) => o < n ∨ XO ≤ o
theorem okV_mono {n n' : Nat} (h : n ≤ n') {v : PV} (hv : okV n v) : okV n' v := by
  rcases v with x | x | _ | o
  · exact hv
  · exact hv
  · exact hv
  · rcases hv with h1 | h1
    · exact Or.inl (by omega)
    · exact Or.inr h1
theorem cv_ag {n : Nat} {ad ad' : Nat → Nat} (h : ∀ o, o < n ∨ XO ≤ o → ad' o = ad o) {v : PV} (hv : okV n v) : cv ad' v = cv ad v := by
  rcases v with x | x | _ | o
  · rfl
  · rfl
  · rfl
  · show va_rf (some (ad' o)) = va_rf (some (ad o))
    rw [h o hv]
/-- the kind of a cell by its offset: a class' number and how many fields it has, or 20 ints, 21 longs, 22 to 26 references of a class, and how many places -/
def mu (M : MT) (o k : Nat) (v : Int) : MT := fun o' k' => if o' = o ∧ k' = k then v else M o' k'
def ru (R : RT) (o k : Nat) (v : Option Nat) : RT := fun o' k' => if o' = o ∧ k' = k then v else R o' k'
def mz (M : MT) (n : Nat) : MT := fun o k => if o = n then 0 else M o k
def rz (R : RT) (n : Nat) : RT := fun o k => if o = n then none else R o k
def w32 (x : Int) : Int := (Int32.ofInt x).toInt
def w64 (x : Int) : Int := (Int64.ofInt x).toInt
theorem r32 (x : Int32) : R32 x.toInt := by
  have h1 := Int32.le_toInt x
  have h2 := Int32.toInt_lt x
  unfold R32
  omega
theorem r64 (x : Int64) : R64 x.toInt := by
  have h1 := Int64.le_toInt x
  have h2 := Int64.toInt_lt x
  unfold R64
  omega
theorem w32_of {x : Int} (h : R32 x) : w32 x = x := by
  unfold w32
  unfold R32 at h
  rw [Int32.toInt_ofInt]
  exact (show Int.bmod x 4294967296 = x from Int.bmod_eq_of_le (by omega) (by omega))
theorem w64_of {x : Int} (h : R64 x) : w64 x = x := by
  unfold w64
  unfold R64 at h
  rw [Int64.toInt_ofInt]
  exact (show Int.bmod x 18446744073709551616 = x from Int.bmod_eq_of_le (by omega) (by omega))
theorem r32_w (x : Int) : R32 (w32 x) := r32 _
theorem r64_w (x : Int) : R64 (w64 x) := r64 _
theorem o32 (x : Int32) : Int32.ofInt x.toInt = x := Int32.ofInt_toInt x
theorem o64 (x : Int64) : Int64.ofInt x.toInt = x := Int64.ofInt_toInt x
theorem t32 {x : Int} (h : R32 x) : (Int32.ofInt x).toInt = x := w32_of h
theorem t64 {x : Int} (h : R64 x) : (Int64.ofInt x).toInt = x := w64_of h
theorem o32_w (x : Int) : Int32.ofInt (w32 x) = Int32.ofInt x := o32 _
theorem o64_w (x : Int) : Int64.ofInt (w64 x) = Int64.ofInt x := o64 _
theorem e32 {x y : Int} (hx : R32 x) (hy : R32 y) : Int32.ofInt x = Int32.ofInt y ↔ x = y := ⟨fun h => by rw [← t32 hx, ← t32 hy, h], fun h => by rw [h]⟩
theorem l32 {x y : Int} (hx : R32 x) (hy : R32 y) : Int32.ofInt x < Int32.ofInt y ↔ x < y := by rw [Int32.lt_iff_toInt_lt, t32 hx, t32 hy]
theorem le32 {x y : Int} (hx : R32 x) (hy : R32 y) : Int32.ofInt x ≤ Int32.ofInt y ↔ x ≤ y := by rw [Int32.le_iff_toInt_le, t32 hx, t32 hy]
theorem l64 {x y : Int} (hx : R64 x) (hy : R64 y) : Int64.ofInt x < Int64.ofInt y ↔ x < y := by rw [Int64.lt_iff_toInt_lt, t64 hx, t64 hy]
theorem e64 {x y : Int} (hx : R64 x) (hy : R64 y) : Int64.ofInt x = Int64.ofInt y ↔ x = y := ⟨fun h => by rw [← t64 hx, ← t64 hy, h], fun h => by rw [h]⟩
theorem z32 : R32 0 := by unfold R32; omega
/-- what the program stands on: the launch, its classes' numbers, its arrays' classes, addresses that are not its own, the first of its own, the script -/
abbrev GT : Type := Launch × va_G × (Nat → ClassId) × (Nat → Nat) × Nat × Nat × (Nat → Int32)
def AB (G : GT) : Nat → Prop := fun q => G.2.2.2.2.1 ≤ q
def TYS (G : GT) : List (ClassId × FieldType) := [(G.2.2.1 0, .int), (G.2.2.1 1, .long), (G.2.2.1 2, .object "TuneLoans$Text"), (G.2.2.1 3, .object "TuneLoans$Tune"), (G.2.2.1 4, .object "TuneLoans$Borrower"), (G.2.2.1 5, .object "TuneLoans$Loan"), (G.2.2.1 6, .object "TuneLoans$Sheet")]

def SH (o : Nat) : Nat × Nat := if o < 61 then if o < 30 then if o < 15 then if o < 7 then if o < 3 then if o < 1 then (0, 8) else if o < 2 then (1, 7) else (22, 2) else if o < 5 then if o < 4 then (23, 6) else (24, 6) else if o < 6 then (25, 12) else (2, 3) else if o < 11 then if o < 9 then if o < 8 then (20, 59) else (2, 3) else if o < 10 then (20, 23) else (3, 2) else if o < 13 then if o < 12 then (20, 40) else (3, 2) else if o < 14 then (20, 40) else (3, 2) else if o < 22 then if o < 18 then if o < 16 then (20, 40) else if o < 17 then (3, 2) else (20, 40) else if o < 20 then if o < 19 then (3, 2) else (20, 40) else if o < 21 then (3, 2) else (20, 40) else if o < 26 then (4, 3) else if o < 28 then (4, 3) else (5, 7) else if o < 45 then if o < 37 then (5, 7) else if o < 41 then if o < 39 then (5, 7) else if o < 40 then (5, 7) else (6, 8) else if o < 43 then (23, 6) else if o < 44 then (20, 6) else (3, 2) else if o < 53 then if o < 49 then if o < 47 then if o < 46 then (20, 40) else (20, 9600) else (20, 240) else if o < 51 then if o < 50 then (3, 2) else (20, 40) else if o < 52 then (3, 2) else (20, 40) else if o < 57 then if o < 55 then if o < 54 then (3, 2) else (20, 40) else if o < 56 then (3, 2) else (20, 40) else if o < 59 then if o < 58 then (3, 2) else (20, 40) else if o < 60 then (3, 2) else (20, 40) else if o < 92 then if o < 76 then if o < 68 then if o < 64 then if o < 62 then (3, 2) else if o < 63 then (20, 40) else (3, 2) else if o < 66 then if o < 65 then (20, 40) else (3, 2) else if o < 67 then (20, 40) else (3, 2) else if o < 72 then if o < 70 then if o < 69 then (20, 40) else (3, 2) else if o < 71 then (20, 40) else (3, 2) else if o < 74 then if o < 73 then (20, 40) else (7, 3) else if o < 75 then (23, 4) else (20, 3) else if o < 84 then if o < 80 then if o < 78 then if o < 77 then (3, 2) else (20, 40) else if o < 79 then (3, 2) else (20, 40) else if o < 82 then if o < 81 then (3, 2) else (20, 40) else if o < 83 then (3, 2) else (20, 40) else if o < 88 then if o < 86 then if o < 85 then (8, 1) else (21, 7) else if o < 87 then (9, 4) else (3, 2) else if o < 90 then if o < 89 then (20, 40) else (3, 2) else if o < 91 then (20, 40) else (21, 10) else if o < 107 then if o < 99 then if o < 95 then if o < 93 then (26, 4) else if o < 94 then (10, 3) else (20, 60) else if o < 97 then if o < 96 then (10, 3) else (20, 60) else if o < 98 then (10, 3) else (20, 60) else if o < 103 then if o < 101 then if o < 100 then (10, 3) else (20, 60) else if o < 102 then (11, 26) else (20, 4) else if o < 105 then if o < 104 then (20, 4) else (20, 240) else if o < 106 then (20, 60) else (20, 120) else if o < 115 then if o < 111 then if o < 109 then if o < 108 then (20, 2) else (20, 240) else if o < 110 then (20, 6) else (20, 18) else if o < 113 then if o < 112 then (20, 48) else (20, 280) else if o < 114 then (20, 7) else (20, 240) else if o < 119 then if o < 117 then (20, 6) else if o < 118 then (20, 6) else (20, 12) else if o < 121 then (20, 12) else if o < 122 then (20, 80) else (20, 41)
def NN : Nat := 123
/-- is the k-th field of a class a reference -/
def isRf (ci k : Nat) : Bool := match fyc ci k with
  | .int => false
  | .boolean => false
  | _ => true
def fldv (ad : Nat → Nat) (R : RT) (M : MT) (ci o k : Nat) : Value := if isRf ci k = true then va_rf ((R o k).map ad) else .int (Int32.ofInt (M o k))
def cont (G : GT) (ad : Nat → Nat) (R : RT) (M : MT) (o : Nat) : va_E :=
  if (SH o).1 < 20 then .inr ((SH o).1, (List.range (SH o).2).map (fldv ad R M (SH o).1 o))
  else if (SH o).1 = 20 then .inl (G.2.2.1 0, (SH o).2, .inl (fun k => Int32.ofInt (M o k)))
  else if (SH o).1 = 21 then .inl (G.2.2.1 1, (SH o).2, .inr (.inl (fun k => Int64.ofInt (M o k))))
  else .inl (G.2.2.1 ((SH o).1 - 20), (SH o).2, .inr (.inr (.inr (.inr (fun k => (R o k).map ad)))))
def wsOf (G : GT) (ad : Nat → Nat) (n : Nat) (R : RT) (M : MT) : va_W := (List.range n).map fun o => (ad o, cont G ad R M o)
def okM (n : Nat) (R : RT) (M : MT) : Prop := (∀ o, o < n → ∀ k, ((SH o).1 = 21 → R64 (M o k)) ∧ ((SH o).1 ≠ 21 → R32 (M o k))) ∧ ∀ o, o < n → ∀ k r, R o k = some r → r < n
def ExtS (G : GT) (U : State) : Prop := vk_S 1 [3] [[43, 45, 47]] (fun _ => G.2.2.2.1 0) (fun _ => G.2.2.2.1 2) (AB G) U U.heap ∧ va_Z "java/lang/String" "COMPACT_STRINGS" "Z" (.int 1) (AB G) U U.heap
theorem ExtS_kept {G : GT} {u U : State} (hvm : u.vm.Alike U.vm) (hq : ∀ q : Nat, q < G.2.2.2.2.1 → U.heap[q]? = u.heap[q]?) (h : ExtS G u) : ExtS G U :=
  ⟨(h.1.moved hvm).kept (fun a _ ha => hq a (Nat.not_le.mp ha)), (h.2.moved hvm).kept (fun a _ ha => hq a (Nat.not_le.mp ha))⟩
def NWL : List (String × Nat × MethodName × String) := [("TuneLoans$Book", 38, ⟨"TuneLoans$Tune", "<init>", "()V"⟩, "TuneLoans"), ("TuneLoans$Book", 39, ⟨"TuneLoans$Borrower", "<init>", "()V"⟩, "TuneLoans"), ("TuneLoans$Book", 40, ⟨"TuneLoans$Loan", "<init>", "()V"⟩, "TuneLoans"), ("TuneLoans$Years", 24, ⟨"TuneLoans$Tune", "<init>", "()V"⟩, "TuneLoans"), ("TuneLoans$Turns", 21, ⟨"TuneLoans$Tune", "<init>", "()V"⟩, "TuneLoans"), ("TuneLoans", 32, ⟨"TuneLoans$Likeness", "<init>", "()V"⟩, "TuneLoans"), ("TuneLoans", 39, ⟨"TuneLoans$Chance", "<init>", "()V"⟩, "TuneLoans"), ("TuneLoans$Chance", 11, ⟨"TuneLoans$Tune", "<init>", "()V"⟩, "TuneLoans"), ("TuneLoans", 50, ⟨"TuneLoans$Sheet", "<init>", "()V"⟩, "TuneLoans"), ("TuneLoans$Text", 19, ⟨"TuneLoans", "within", "(III)Z"⟩, "TuneLoans")]
/-- what lies outside of the program's cells and doesn't change: the script, what the tables say that isn't kept by itself -/
def Ext (G : GT) (U : State) : Prop :=
  (va_X (G.2.2.2.1 1) G.2.2.2.2.2.1 G.2.2.2.2.2.2 U U.heap ∧ G.2.2.2.1 1 < G.2.2.2.2.1) ∧ (va_AO "TuneLoans$Text" U ∧ va_AO "TuneLoans$Tune" U ∧ va_AO "TuneLoans$Borrower" U ∧ va_AO "TuneLoans$Loan" U ∧ va_AO "TuneLoans$Sheet" U) ∧ (∀ q ∈ NWL, va_Nw (.methodLinkNest q.1 q.2.1 q.2.2.1 q.2.2.2) U) ∧ ExtS G U ∧ vk_R "TuneLoans$Book" 73 "+-/" (G.2.2.2.1 0) U
theorem Ext_warm {G : GT} {u U : State} (hW : u.WarmedH U.vm) (hq : ∀ q : Nat, q < G.2.2.2.2.1 → U.heap[q]? = u.heap[q]?) (h : Ext G u) : Ext G U := by
  obtain ⟨⟨h1, h2⟩, ⟨a1, a2, a3, a4, a5⟩, h3, h4, h5⟩ := h
  have hvm := hW.alike
  exact ⟨⟨(h1.moved hvm).kept (hq _ h2), h2⟩, ⟨a1.moved hvm, a2.moved hvm, a3.moved hvm, a4.moved hvm, a5.moved hvm⟩, fun q hq => va_Nw.warmM hW (h3 q hq), ExtS_kept hvm hq h4, h5.warm hW⟩
theorem Ext_same {G : GT} {u U : State} (hv : u.vm = U.vm) (hq : U.heap = u.heap) (h : Ext G u) : Ext G U := by
  obtain ⟨⟨h1, h2⟩, ⟨a1, a2, a3, a4, a5⟩, h3, h4, h5⟩ := h
  have hvm : u.vm.Alike U.vm := by rw [hv]; exact Vm.Alike.refl _
  have hq2 : ∀ q : Nat, q < G.2.2.2.2.1 → U.heap[q]? = u.heap[q]? := fun q _ => by rw [hq]
  exact ⟨⟨(h1.moved hvm).kept (hq2 _ h2), h2⟩, ⟨a1.moved hvm, a2.moved hvm, a3.moved hvm, a4.moved hvm, a5.moved hvm⟩, fun q hq => (h3 q hq).same rfl hv, ExtS_kept hvm hq2 h4, h5.same hv.symm⟩
def rmOf (J : MD) : Room := { frames := J.2.2.2.2.1, cells := J.2.2.2.2.2.1, slots := J.2.2.2.2.2.2.1, locals := J.2.2.2.2.2.2.2 }
abbrev QT : Type := Option PV → Nat → RT → MT → Prop
/-- what a method leaves -/
def QP (G : GT) (ad0 : Nat → Nat) (n0 : Nat) (Q : QT) : Array Value → State → Outcome → State → Prop := fun _ st oc t =>
  (∃ (r : Option PV) (ad : Nat → Nat) (n : Nat) (R : RT) (M : MT), oc = .returned (r.map (cv ad)) ∧ Q r n R M ∧ (∀ v, r = some v → okV n v) ∧ n0 ≤ n ∧ n ≤ XO ∧ (∀ o, o < n0 ∨ XO ≤ o → ad o = ad0 o) ∧ okM n R M ∧ va_P G.2.1 CL (wsOf G ad n R M) t.heap ∧ va_D (AB G) (wsOf G ad n R M)) ∧ va_F (AB G) st t
def Cx (G : GT) (J : MD) (p : Program) (s : State) (m : MethodId) (args : Array Value) (meth : Method) (c : Code) : Prop :=
  p.tables.exec = Jvm.exec ∧ c.code = J.2.1 ∧ meth.sig.returnType = J.2.2.2.1 ∧ c.maxLocals = J.2.2.1 ∧ s.vm.findClass J.1.cls = some m.cls ∧ meth.locks = false ∧ meth.name = J.1.name ∧ (∀ w ∈ TB, w.before args s = true) ∧ va_K G.2.1 CL (TYS G) s ∧ Ext G s ∧ G.2.2.2.2.1 ≤ s.heap.size
def Mx (G : GT) (n0 : Nat) (ad0 ad : Nat → Nat) (n : Nat) (R : RT) (M : MT) (s : State) (H : Heap) (locs : List Loc) : Prop :=
  n0 ≤ n ∧ n ≤ XO ∧ (∀ o, o < n0 ∨ XO ≤ o → ad o = ad0 o) ∧ (∀ i, ad (XO + i) = G.2.2.2.1 i) ∧ okM n R M ∧ va_P G.2.1 CL (wsOf G ad n R M) H ∧ va_D (AB G) (wsOf G ad n R M) ∧ va_S (AB G) s.heap H locs
def lmap (ad : Nat → Nat) (L : LT) : List (Nat × Value) := L.map (fun q => (q.1, cv ad q.2))
def okS (n : Nat) (L : LT) (st : List PV) : Prop := (∀ q ∈ L, okV n q.2) ∧ ∀ v ∈ st, okV n v
def Wp (G : GT) (J : MD) (k z pc : Nat) (L : LT) (st : List PV) (n : Nat) (R : RT) (M : MT) (Q : QT) : Prop :=
  ∀ (p : Program) (e : Env) (s : State) (m : MethodId) (args : Array Value) (below : List Frame) (meth : Method) (c : Code), Cx G J p s m args meth c →
    ∀ (ad0 : Nat → Nat) (n0 : Nat) (ad : Nat → Nat) (H : Heap) (locs : List Loc) (ls : Array Slot), Mx G n0 ad0 ad n R M s H locs → lv_has ls J.2.2.1 (lmap ad L) → okS n L st →
      W p G.1 e (rmOf J) s m args below meth c H locs k z (MQ below (QP G ad0 n0 Q) args s J.2.2.2.2.2.1 J.2.2.2.2.2.2.1 (AB G)) (F0 m pc ls (st.map (cv ad)))
/-- a call of a method: its body from its entry, with these arguments -/
def entL : Nat → List PV → LT
  | _, [] => []
  | i, v :: vs => (i, v) :: entL (if cat v = 2 then i + 2 else i + 1) vs
def Cl (G : GT) (J : MD) (as : List PV) (n : Nat) (R : RT) (M : MT) (Q : QT) : Prop := Wp G J 0 0 0 (entL 0 as) [] n R M Q
theorem Wp_mono {G : GT} {J : MD} {k z pc : Nat} {L : LT} {st : List PV} {n : Nat} {R : RT} {M : MT} {Q Q' : QT} (h : Wp G J k z pc L st n R M Q) (hq : ∀ r n R M, Q r n R M → Q' r n R M) : Wp G J k z pc L st n R M Q' := by
  intro p e s m args below meth c C ad0 n0 ad H locs ls X hl ok T hT Y
  obtain ⟨t, a, b⟩ := h p e s m args below meth c C ad0 n0 ad H locs ls X hl ok T hT Y
  refine ⟨t, a, ?_⟩
  obtain ⟨o, b1, b2, b3, b4⟩ := b
  refine ⟨o, b1, b2, ?_, b4⟩
  obtain ⟨⟨r, ad', n', R', M', c1, c2, c3⟩, c4⟩ := b3
  exact ⟨⟨r, ad', n', R', M', c1, hq _ _ _ _ c2, c3⟩, c4⟩
theorem okS_push {n : Nat} {L : LT} {st : List PV} {v : PV} (h : okS n L st) (hv : okV n v) : okS n L (v :: st) := ⟨h.1, fun x hx => by
  rcases List.mem_cons.mp hx with rfl | hx
  · exact hv
  · exact h.2 x hx⟩
theorem okS_pop {n : Nat} {L : LT} {st : List PV} {v : PV} (h : okS n L (v :: st)) : okV n v ∧ okS n L st := ⟨h.2 v List.mem_cons_self, h.1, fun x hx => h.2 x (List.mem_cons_of_mem _ hx)⟩
/-- locals: chosen ones, by their places -/
def pk (L : LT) (ks : List Nat) : LT := ks.filterMap (fun k => L[k]?)
theorem lmap_get {ad : Nat → Nat} {L : LT} {k i : Nat} {v : PV} (h : L[k]? = some (i, v)) : (lmap ad L)[k]? = some (i, cv ad v) := by
  unfold lmap
  rw [List.getElem?_map, h]
  rfl
theorem pk_mem {L : LT} {ks : List Nat} {q : Nat × PV} (h : q ∈ pk L ks) : q ∈ L := by
  obtain ⟨k, -, hk⟩ := List.mem_filterMap.mp h
  exact List.mem_of_getElem? hk
theorem pk_has {ad : Nat → Nat} {ls : Array Slot} {N : Nat} {L L' : LT} {ks : List Nat} (h : lv_has ls N (lmap ad L)) (hl : pk L ks = L') : lv_has ls N (lmap ad L') := by
  refine ⟨h.1, h.2.1, fun q hq => ?_⟩
  obtain ⟨x, hx, rfl⟩ := List.mem_map.mp hq
  rw [← hl] at hx
  exact h.2.2 _ (List.mem_map.mpr ⟨x, pk_mem hx, rfl⟩)
def st1 (L : LT) (i : Nat) (v : PV) : LT := (i, v) :: L.filter (fun q => !(q.1 == i) && !(q.1 + 1 == i && cat q.2 == 2))
def st2 (L : LT) (i : Nat) (v : PV) : LT := (i, v) :: L.filter (fun q => !(q.1 == i) && (!(q.1 == i + 1) && !(q.1 + 1 == i && cat q.2 == 2)))
theorem lmap_st1 (ad : Nat → Nat) (L : LT) (i : Nat) (v : PV) : (i, cv ad v) :: (lmap ad L).filter (fun q => !(q.1 == i) && !(q.1 + 1 == i && q.2.category == 2)) = lmap ad (st1 L i v) := by
  unfold st1 lmap
  rw [List.map_cons, List.filter_map]
  congr 2
  refine congrArg (fun f => List.filter f L) (funext fun q => ?_)
  show _ = _
  simp only [Function.comp, cat_cv]
theorem lmap_st2 (ad : Nat → Nat) (L : LT) (i : Nat) (v : PV) : (i, cv ad v) :: (lmap ad L).filter (fun q => !(q.1 == i) && (!(q.1 == i + 1) && !(q.1 + 1 == i && q.2.category == 2))) = lmap ad (st2 L i v) := by
  unfold st2 lmap
  rw [List.map_cons, List.filter_map]
  congr 2
  refine congrArg (fun f => List.filter f L) (funext fun q => ?_)
  show _ = _
  simp only [Function.comp, cat_cv]
theorem ok_st1 {n : Nat} {L L' : LT} {st : List PV} {i : Nat} {v : PV} {ks : List Nat} (h : okS n L (v :: st)) (hl : pk (st1 L i v) ks = L') : okS n L' st := by
  obtain ⟨h1, h2⟩ := okS_pop h
  refine ⟨fun q hq => ?_, h2.2⟩
  rw [← hl] at hq
  rcases List.mem_cons.mp (pk_mem hq) with rfl | hq
  · exact h1
  · exact h.1 q (List.mem_filter.mp hq).1
theorem ok_st2 {n : Nat} {L L' : LT} {st : List PV} {i : Nat} {v : PV} {ks : List Nat} (h : okS n L (v :: st)) (hl : pk (st2 L i v) ks = L') : okS n L' st := by
  obtain ⟨h1, h2⟩ := okS_pop h
  refine ⟨fun q hq => ?_, h2.2⟩
  rw [← hl] at hq
  rcases List.mem_cons.mp (pk_mem hq) with rfl | hq
  · exact h1
  · exact h.1 q (List.mem_filter.mp hq).1
end
section
section PS
variable {G : GT} {J : MD} {k z pc : Nat} {L : LT} {st : List PV} {n : Nat} {R : RT} {M : MT} {Q : QT}

theorem ia_add (x y : Int) : Int32.ofInt x + Int32.ofInt y = Int32.ofInt (w32 (x + y)) := by rw [o32_w]; exact (Int32.ofInt_add x y).symm
theorem ia_sub (x y : Int) : Int32.ofInt x - Int32.ofInt y = Int32.ofInt (w32 (x - y)) := by
  rw [o32_w]
  apply Int32.toInt_inj.mp
  rw [Int32.toInt_sub, Int32.toInt_ofInt, Int32.toInt_ofInt, Int32.toInt_ofInt]
  show ((x.bmod 4294967296) - (y.bmod 4294967296)).bmod 4294967296 = (x - y).bmod 4294967296
  rw [Int.bmod_sub_bmod, Int.sub_bmod_bmod]
theorem ia_mul (x y : Int) : Int32.ofInt x * Int32.ofInt y = Int32.ofInt (w32 (x * y)) := by rw [o32_w]; exact (Int32.ofInt_mul x y).symm
theorem la_add (x y : Int) : Int64.ofInt x + Int64.ofInt y = Int64.ofInt (w64 (x + y)) := by rw [o64_w]; exact (Int64.ofInt_add x y).symm
theorem la_mul (x y : Int) : Int64.ofInt x * Int64.ofInt y = Int64.ofInt (w64 (x * y)) := by rw [o64_w]; exact (Int64.ofInt_mul x y).symm
theorem la_sub (x y : Int) : Int64.ofInt x - Int64.ofInt y = Int64.ofInt (w64 (x - y)) := by
  rw [o64_w]
  apply Int64.toInt_inj.mp
  rw [Int64.toInt_sub, Int64.toInt_ofInt, Int64.toInt_ofInt, Int64.toInt_ofInt]
  show ((x.bmod 18446744073709551616) - (y.bmod 18446744073709551616)).bmod 18446744073709551616 = (x - y).bmod 18446744073709551616
  rw [Int.bmod_sub_bmod, Int.sub_bmod_bmod]
theorem ia_div {x y : Int} (hx : R32 x) (hy : R32 y) : Int32.ofInt x / Int32.ofInt y = Int32.ofInt (w32 (x.tdiv y)) := by
  rw [o32_w]
  apply Int32.toInt_inj.mp
  rw [Int32.toInt_div, t32 hx, t32 hy, Int32.toInt_ofInt]
theorem la_div {x y : Int} (hx : R64 x) (hy : R64 y) : Int64.ofInt x / Int64.ofInt y = Int64.ofInt (w64 (x.tdiv y)) := by
  rw [o64_w]
  apply Int64.toInt_inj.mp
  rw [Int64.toInt_div, t64 hx, t64 hy, Int64.toInt_ofInt]
theorem ia_rem {x y : Int} (hx : R32 x) (hy : R32 y) : Int32.ofInt x - Int32.ofInt x / Int32.ofInt y * Int32.ofInt y = Int32.ofInt (w32 (x.tmod y)) := by
  rw [ia_div hx hy, ia_mul, ia_sub, o32_w, o32_w, Int.tmod_def]
  apply Int32.toInt_inj.mp
  rw [Int32.toInt_ofInt, Int32.toInt_ofInt]
  unfold w32
  rw [Int32.toInt_ofInt, Int32.toInt_ofInt, Int.sub_bmod_bmod]
  show (x - (x.tdiv y).bmod 4294967296 * y).bmod 4294967296 = (x - y * x.tdiv y).bmod 4294967296
  calc (x - (x.tdiv y).bmod 4294967296 * y).bmod 4294967296 = (x - ((x.tdiv y).bmod 4294967296 * y).bmod 4294967296).bmod 4294967296 := (Int.sub_bmod_bmod).symm
    _ = (x - (x.tdiv y * y).bmod 4294967296).bmod 4294967296 := by rw [Int.bmod_mul_bmod]
    _ = (x - x.tdiv y * y).bmod 4294967296 := Int.sub_bmod_bmod
    _ = (x - y * x.tdiv y).bmod 4294967296 := by rw [Int.mul_comm]
theorem la_rem {x y : Int} (hx : R64 x) (hy : R64 y) : Int64.ofInt x - Int64.ofInt x / Int64.ofInt y * Int64.ofInt y = Int64.ofInt (w64 (x.tmod y)) := by
  rw [la_div hx hy, la_mul, la_sub, o64_w, o64_w, Int.tmod_def]
  apply Int64.toInt_inj.mp
  rw [Int64.toInt_ofInt, Int64.toInt_ofInt]
  unfold w64
  rw [Int64.toInt_ofInt, Int64.toInt_ofInt, Int.sub_bmod_bmod]
  show (x - (x.tdiv y).bmod 18446744073709551616 * y).bmod 18446744073709551616 = (x - y * x.tdiv y).bmod 18446744073709551616
  calc (x - (x.tdiv y).bmod 18446744073709551616 * y).bmod 18446744073709551616 = (x - ((x.tdiv y).bmod 18446744073709551616 * y).bmod 18446744073709551616).bmod 18446744073709551616 := (Int.sub_bmod_bmod).symm
    _ = (x - (x.tdiv y * y).bmod 18446744073709551616).bmod 18446744073709551616 := by rw [Int.bmod_mul_bmod]
    _ = (x - x.tdiv y * y).bmod 18446744073709551616 := Int.sub_bmod_bmod
    _ = (x - y * x.tdiv y).bmod 18446744073709551616 := by rw [Int.mul_comm]
def iand (x y : Int) : Int := (Int32.ofInt x &&& Int32.ofInt y).toInt
def ior (x y : Int) : Int := (Int32.ofInt x ||| Int32.ofInt y).toInt
def ixor (x y : Int) : Int := (Int32.ofInt x ^^^ Int32.ofInt y).toInt
def ishl (x y : Int) : Int := (Int32.ofInt x <<< (Int32.ofInt y &&& 31)).toInt
def ishr (x y : Int) : Int := (Int32.ofInt x >>> (Int32.ofInt y &&& 31)).toInt
def iushr (x y : Int) : Int := ((Int32.ofInt x).toUInt32 >>> ((Int32.ofInt y).toUInt32 &&& Int32.toUInt32 31)).toInt32.toInt
def land (x y : Int) : Int := (Int64.ofInt x &&& Int64.ofInt y).toInt
def lor (x y : Int) : Int := (Int64.ofInt x ||| Int64.ofInt y).toInt
def lxor (x y : Int) : Int := (Int64.ofInt x ^^^ Int64.ofInt y).toInt
def lshl (x y : Int) : Int := (Int64.ofInt x <<< ((Int32.ofInt y).toInt64 &&& 63)).toInt
def lushr (x y : Int) : Int := ((Int64.ofInt x).toUInt64 >>> ((Int32.ofInt y).toInt64.toUInt64 &&& Int64.toUInt64 63)).toInt64.toInt
def i2b (x : Int) : Int := (Int32.ofInt x).toInt8.toInt32.toInt
def i2s (x : Int) : Int := (Int32.ofInt x).toInt16.toInt32.toInt
def lcm (x y : Int) : Int := if x > y then 1 else if x = y then 0 else -1
theorem lcm_ge (x y : Int) : 0 ≤ lcm x y ↔ y ≤ x := by unfold lcm; split <;> (try split) <;> omega
theorem lcm_gt (x y : Int) : 0 < lcm x y ↔ y < x := by unfold lcm; split <;> (try split) <;> omega
theorem lcm_le (x y : Int) : lcm x y ≤ 0 ↔ x ≤ y := by unfold lcm; split <;> (try split) <;> omega
theorem lcm_lt (x y : Int) : lcm x y < 0 ↔ x < y := by unfold lcm; split <;> (try split) <;> omega
theorem lcm_eq (x y : Int) : lcm x y = 0 ↔ x = y := by unfold lcm; split <;> (try split) <;> omega

theorem wp_iconst {v : Int} (hd : decode J.2.1 pc = .ok (.iconst v, 1)) (hr : R32 v) (kk : Wp G J k z (pc + 1) L (pI v :: st) n R M Q) : Wp G J k z pc L st n R M Q := by
  intro p e s m args below meth c C ad0 n0 ad H locs ls X hl ok
  exact lv_iconst C.1 C.2.1 hd rfl (kk p e s m args below meth c C ad0 n0 ad H locs ls X hl (okS_push ok hr))
theorem wp_bipush {v : Int} (hd : decode J.2.1 pc = .ok (.bipush v, 2)) (hr : R32 v) (hv : (Int8.ofInt v).toInt32 = Int32.ofInt v) (kk : Wp G J k z (pc + 2) L (pI v :: st) n R M Q) : Wp G J k z pc L st n R M Q := by
  intro p e s m args below meth c C ad0 n0 ad H locs ls X hl ok
  exact lv_bipush C.1 C.2.1 hd hv (kk p e s m args below meth c C ad0 n0 ad H locs ls X hl (okS_push ok hr))
theorem wp_sipush {v : Int} (hd : decode J.2.1 pc = .ok (.sipush v, 3)) (hr : R32 v) (hv : (Int16.ofInt v).toInt32 = Int32.ofInt v) (kk : Wp G J k z (pc + 3) L (pI v :: st) n R M Q) : Wp G J k z pc L st n R M Q := by
  intro p e s m args below meth c C ad0 n0 ad H locs ls X hl ok
  exact lv_sipush C.1 C.2.1 hd hv (kk p e s m args below meth c C ad0 n0 ad H locs ls X hl (okS_push ok hr))
theorem wp_lconst {f : Fin 2} {v : Int} (hd : decode J.2.1 pc = .ok (.lconst f, 1)) (hv : ((f : Nat) : Int) = v) (kk : Wp G J k z (pc + 1) L (pL v :: st) n R M Q) : Wp G J k z pc L st n R M Q := by
  subst hv
  intro p e s m args below meth c C ad0 n0 ad H locs ls X hl ok
  exact lv_lconst C.1 C.2.1 hd (by rcases f with ⟨_ | _ | _, h⟩ <;> first | rfl | omega) (kk p e s m args below meth c C ad0 n0 ad H locs ls X hl (okS_push ok (show R64 _ by unfold R64; omega)))
theorem wp_ldc {i : Nat} {v : Int} (hw : Cond.constant J.1.cls i (Int32.ofInt v) ∈ TB) (hd : decode J.2.1 pc = .ok (.ldc i, 2)) (hr : R32 v) (kk : Wp G J k z (pc + 2) L (pI v :: st) n R M Q) : Wp G J k z pc L st n R M Q := by
  intro p e s m args below meth c C ad0 n0 ad H locs ls X hl ok
  exact lv_ldc C.1 C.2.1 C.2.2.2.2.1 (C.2.2.2.2.2.2.2.1 _ hw) hd (kk p e s m args below meth c C ad0 n0 ad H locs ls X hl (okS_push ok hr))
theorem wp_ldcw {i : Nat} {v : Int} (hw : Cond.constant J.1.cls i (Int32.ofInt v) ∈ TB) (hd : decode J.2.1 pc = .ok (.ldc_w i, 3)) (hr : R32 v) (kk : Wp G J k z (pc + 3) L (pI v :: st) n R M Q) : Wp G J k z pc L st n R M Q := by
  intro p e s m args below meth c C ad0 n0 ad H locs ls X hl ok
  exact lv_ldcw C.1 C.2.1 C.2.2.2.2.1 (C.2.2.2.2.2.2.2.1 _ hw) hd (kk p e s m args below meth c C ad0 n0 ad H locs ls X hl (okS_push ok hr))
theorem wp_ldc2 {i : Nat} {v : Int} (hw : Cond.constantLong J.1.cls i (Int64.ofInt v) ∈ TB) (hd : decode J.2.1 pc = .ok (.ldc2_w i, 3)) (hr : R64 v) (kk : Wp G J k z (pc + 3) L (pL v :: st) n R M Q) : Wp G J k z pc L st n R M Q := by
  intro p e s m args below meth c C ad0 n0 ad H locs ls X hl ok
  exact lv_ldc2 C.1 C.2.1 C.2.2.2.2.1 (C.2.2.2.2.2.2.2.1 _ hw) hd (kk p e s m args below meth c C ad0 n0 ad H locs ls X hl (okS_push ok hr))
theorem wp_null (hd : decode J.2.1 pc = .ok (.aconst_null, 1)) (kk : Wp G J k z (pc + 1) L (pN :: st) n R M Q) : Wp G J k z pc L st n R M Q := by
  intro p e s m args below meth c C ad0 n0 ad H locs ls X hl ok
  exact lv_null C.1 C.2.1 hd (kk p e s m args below meth c C ad0 n0 ad H locs ls X hl (okS_push ok trivial))
theorem wp_iload_n {f : Fin 4} {i : Nat} {x : Int} (hd : decode J.2.1 pc = .ok (.iload_n f, 1)) (hi : (f : Nat) = i) (k0 : Nat) (hk : L[k0]? = some (i, pI x)) (kk : Wp G J k z (pc + 1) L (pI x :: st) n R M Q) : Wp G J k z pc L st n R M Q := by
  intro p e s m args below meth c C ad0 n0 ad H locs ls X hl ok
  exact lv_iload_n C.1 C.2.1 hd hi (lv_at hl k0 (lmap_get hk)) (kk p e s m args below meth c C ad0 n0 ad H locs ls X hl (okS_push ok (ok.1 _ (List.mem_of_getElem? hk))))
theorem wp_iload {i : Nat} {x : Int} (hd : decode J.2.1 pc = .ok (.iload i, 2)) (k0 : Nat) (hk : L[k0]? = some (i, pI x)) (kk : Wp G J k z (pc + 2) L (pI x :: st) n R M Q) : Wp G J k z pc L st n R M Q := by
  intro p e s m args below meth c C ad0 n0 ad H locs ls X hl ok
  exact lv_iload C.1 C.2.1 hd (lv_at hl k0 (lmap_get hk)) (kk p e s m args below meth c C ad0 n0 ad H locs ls X hl (okS_push ok (ok.1 _ (List.mem_of_getElem? hk))))
theorem wp_lload_n {f : Fin 4} {i : Nat} {x : Int} (hd : decode J.2.1 pc = .ok (.lload_n f, 1)) (hi : (f : Nat) = i) (k0 : Nat) (hk : L[k0]? = some (i, pL x)) (kk : Wp G J k z (pc + 1) L (pL x :: st) n R M Q) : Wp G J k z pc L st n R M Q := by
  intro p e s m args below meth c C ad0 n0 ad H locs ls X hl ok
  exact lv_lload_n C.1 C.2.1 hd hi (lv_at hl k0 (lmap_get hk)) (kk p e s m args below meth c C ad0 n0 ad H locs ls X hl (okS_push ok (ok.1 _ (List.mem_of_getElem? hk))))
theorem wp_lload {i : Nat} {x : Int} (hd : decode J.2.1 pc = .ok (.lload i, 2)) (k0 : Nat) (hk : L[k0]? = some (i, pL x)) (kk : Wp G J k z (pc + 2) L (pL x :: st) n R M Q) : Wp G J k z pc L st n R M Q := by
  intro p e s m args below meth c C ad0 n0 ad H locs ls X hl ok
  exact lv_lload C.1 C.2.1 hd (lv_at hl k0 (lmap_get hk)) (kk p e s m args below meth c C ad0 n0 ad H locs ls X hl (okS_push ok (ok.1 _ (List.mem_of_getElem? hk))))
theorem wp_aload_n {f : Fin 4} {i : Nat} {x : Nat} (hd : decode J.2.1 pc = .ok (.aload_n f, 1)) (hi : (f : Nat) = i) (k0 : Nat) (hk : L[k0]? = some (i, pR x)) (kk : Wp G J k z (pc + 1) L (pR x :: st) n R M Q) : Wp G J k z pc L st n R M Q := by
  intro p e s m args below meth c C ad0 n0 ad H locs ls X hl ok
  exact lv_aload_n C.1 C.2.1 hd hi (lv_at hl k0 (lmap_get hk)) (kk p e s m args below meth c C ad0 n0 ad H locs ls X hl (okS_push ok (ok.1 _ (List.mem_of_getElem? hk))))
theorem wp_aload {i : Nat} {x : Nat} (hd : decode J.2.1 pc = .ok (.aload i, 2)) (k0 : Nat) (hk : L[k0]? = some (i, pR x)) (kk : Wp G J k z (pc + 2) L (pR x :: st) n R M Q) : Wp G J k z pc L st n R M Q := by
  intro p e s m args below meth c C ad0 n0 ad H locs ls X hl ok
  exact lv_aload C.1 C.2.1 hd (lv_at hl k0 (lmap_get hk)) (kk p e s m args below meth c C ad0 n0 ad H locs ls X hl (okS_push ok (ok.1 _ (List.mem_of_getElem? hk))))
theorem wp_aloadN {i : Nat} (hd : decode J.2.1 pc = .ok (.aload i, 2)) (k0 : Nat) (hk : L[k0]? = some (i, pN)) (kk : Wp G J k z (pc + 2) L (pN :: st) n R M Q) : Wp G J k z pc L st n R M Q := by
  intro p e s m args below meth c C ad0 n0 ad H locs ls X hl ok
  exact lv_aloadN C.1 C.2.1 hd (lv_at hl k0 (lmap_get hk)) (kk p e s m args below meth c C ad0 n0 ad H locs ls X hl (okS_push ok trivial))
theorem wp_istore_n {f : Fin 4} {i : Nat} {x : Int} {L2 : LT} (hd : decode J.2.1 pc = .ok (.istore_n f, 1)) (hi : (f : Nat) = i) (hn : i < J.2.2.1) (ks : List Nat) (hp : pk (st1 L i (pI x)) ks = L2) (kk : Wp G J k z (pc + 1) L2 st n R M Q) : Wp G J k z pc L ((pI x) :: st) n R M Q := by
  intro p e s m args below meth c C ad0 n0 ad H locs ls X hl ok
  exact lv_istore_n C.1 C.2.1 hd hi hl hn (lmap_st1 ad L i (pI x)) (fun ls2 hl2 => kk p e s m args below meth c C ad0 n0 ad H locs ls2 X (pk_has hl2 hp) (ok_st1 ok hp))
theorem wp_istore {i : Nat} {x : Int} {L2 : LT} (hd : decode J.2.1 pc = .ok (.istore i, 2)) (hn : i < J.2.2.1) (ks : List Nat) (hp : pk (st1 L i (pI x)) ks = L2) (kk : Wp G J k z (pc + 2) L2 st n R M Q) : Wp G J k z pc L ((pI x) :: st) n R M Q := by
  intro p e s m args below meth c C ad0 n0 ad H locs ls X hl ok
  exact lv_istore C.1 C.2.1 hd hl hn (lmap_st1 ad L i (pI x)) (fun ls2 hl2 => kk p e s m args below meth c C ad0 n0 ad H locs ls2 X (pk_has hl2 hp) (ok_st1 ok hp))
theorem wp_lstore_n {f : Fin 4} {i : Nat} {x : Int} {L2 : LT} (hd : decode J.2.1 pc = .ok (.lstore_n f, 1)) (hi : (f : Nat) = i) (hn : i + 1 < J.2.2.1) (ks : List Nat) (hp : pk (st2 L i (pL x)) ks = L2) (kk : Wp G J k z (pc + 1) L2 st n R M Q) : Wp G J k z pc L ((pL x) :: st) n R M Q := by
  intro p e s m args below meth c C ad0 n0 ad H locs ls X hl ok
  exact lv_lstore_n C.1 C.2.1 hd hi hl hn (lmap_st2 ad L i (pL x)) (fun ls2 hl2 => kk p e s m args below meth c C ad0 n0 ad H locs ls2 X (pk_has hl2 hp) (ok_st2 ok hp))
theorem wp_lstore {i : Nat} {x : Int} {L2 : LT} (hd : decode J.2.1 pc = .ok (.lstore i, 2)) (hn : i + 1 < J.2.2.1) (ks : List Nat) (hp : pk (st2 L i (pL x)) ks = L2) (kk : Wp G J k z (pc + 2) L2 st n R M Q) : Wp G J k z pc L ((pL x) :: st) n R M Q := by
  intro p e s m args below meth c C ad0 n0 ad H locs ls X hl ok
  exact lv_lstore C.1 C.2.1 hd hl hn (lmap_st2 ad L i (pL x)) (fun ls2 hl2 => kk p e s m args below meth c C ad0 n0 ad H locs ls2 X (pk_has hl2 hp) (ok_st2 ok hp))
theorem wp_astore_n {f : Fin 4} {i : Nat} {x : Nat} {L2 : LT} (hd : decode J.2.1 pc = .ok (.astore_n f, 1)) (hi : (f : Nat) = i) (hn : i < J.2.2.1) (ks : List Nat) (hp : pk (st1 L i (pR x)) ks = L2) (kk : Wp G J k z (pc + 1) L2 st n R M Q) : Wp G J k z pc L ((pR x) :: st) n R M Q := by
  intro p e s m args below meth c C ad0 n0 ad H locs ls X hl ok
  exact lv_astore_n C.1 C.2.1 hd hi hl hn (lmap_st1 ad L i (pR x)) (fun ls2 hl2 => kk p e s m args below meth c C ad0 n0 ad H locs ls2 X (pk_has hl2 hp) (ok_st1 ok hp))
theorem wp_astore {i : Nat} {x : Nat} {L2 : LT} (hd : decode J.2.1 pc = .ok (.astore i, 2)) (hn : i < J.2.2.1) (ks : List Nat) (hp : pk (st1 L i (pR x)) ks = L2) (kk : Wp G J k z (pc + 2) L2 st n R M Q) : Wp G J k z pc L ((pR x) :: st) n R M Q := by
  intro p e s m args below meth c C ad0 n0 ad H locs ls X hl ok
  exact lv_astore C.1 C.2.1 hd hl hn (lmap_st1 ad L i (pR x)) (fun ls2 hl2 => kk p e s m args below meth c C ad0 n0 ad H locs ls2 X (pk_has hl2 hp) (ok_st1 ok hp))
theorem wp_astoreN_n {f : Fin 4} {i : Nat} {L2 : LT} (hd : decode J.2.1 pc = .ok (.astore_n f, 1)) (hi : (f : Nat) = i) (hn : i < J.2.2.1) (ks : List Nat) (hp : pk (st1 L i pN) ks = L2) (kk : Wp G J k z (pc + 1) L2 st n R M Q) : Wp G J k z pc L (pN :: st) n R M Q := by
  intro p e s m args below meth c C ad0 n0 ad H locs ls X hl ok
  exact lv_astore_nN C.1 C.2.1 hd hi hl hn (lmap_st1 ad L i pN) (fun ls2 hl2 => kk p e s m args below meth c C ad0 n0 ad H locs ls2 X (pk_has hl2 hp) (ok_st1 ok hp))
theorem wp_astoreN {i : Nat} {L2 : LT} (hd : decode J.2.1 pc = .ok (.astore i, 2)) (hn : i < J.2.2.1) (ks : List Nat) (hp : pk (st1 L i pN) ks = L2) (kk : Wp G J k z (pc + 2) L2 st n R M Q) : Wp G J k z pc L (pN :: st) n R M Q := by
  intro p e s m args below meth c C ad0 n0 ad H locs ls X hl ok
  exact lv_astoreN C.1 C.2.1 hd hl hn (lmap_st1 ad L i pN) (fun ls2 hl2 => kk p e s m args below meth c C ad0 n0 ad H locs ls2 X (pk_has hl2 hp) (ok_st1 ok hp))
theorem wp_iinc {i : Nat} {d x : Int} {L2 : LT} (hd : decode J.2.1 pc = .ok (.iinc i d, 3)) (k0 : Nat) (hk : L[k0]? = some (i, pI x)) (hn : i < J.2.2.1) (ks : List Nat) (hp : pk (st1 L i (pI (w32 (x + d)))) ks = L2) (kk : Wp G J k z (pc + 3) L2 st n R M Q) : Wp G J k z pc L st n R M Q := by
  intro p e s m args below meth c C ad0 n0 ad H locs ls X hl ok
  exact lv_iinc C.1 C.2.1 hd hl (lmap_get hk) (ia_add x d) hn (lmap_st1 ad L i (pI (w32 (x + d)))) (fun ls2 hl2 => kk p e s m args below meth c C ad0 n0 ad H locs ls2 X (pk_has hl2 hp) (ok_st1 (okS_push (v := pI (w32 (x + d))) ok (r32_w _)) hp))
theorem wp_sub {L2 : LT} (ks : List Nat) (hp : pk L ks = L2) (kk : Wp G J k z pc L2 st n R M Q) : Wp G J k z pc L st n R M Q := by
  intro p e s m args below meth c C ad0 n0 ad H locs ls X hl ok
  exact kk p e s m args below meth c C ad0 n0 ad H locs ls X (pk_has hl hp) ⟨fun q hq => ok.1 q (pk_mem (by rw [hp]; exact hq)), ok.2⟩
theorem wp_dup {v : PV} (hd : decode J.2.1 pc = .ok (.dup, 1)) (hc : cat v = 1) (kk : Wp G J k z (pc + 1) L (v :: v :: st) n R M Q) : Wp G J k z pc L (v :: st) n R M Q := by
  intro p e s m args below meth c C ad0 n0 ad H locs ls X hl ok
  exact lv_dup C.1 C.2.1 hd ((cat_cv ad v).trans hc) (kk p e s m args below meth c C ad0 n0 ad H locs ls X hl (okS_push ok (okS_pop ok).1))
theorem wp_dup2 {v u : PV} (hd : decode J.2.1 pc = .ok (.dup2, 1)) (hc : cat v = 1) (hc2 : cat u = 1) (kk : Wp G J k z (pc + 1) L (v :: u :: v :: u :: st) n R M Q) : Wp G J k z pc L (v :: u :: st) n R M Q := by
  intro p e s m args below meth c C ad0 n0 ad H locs ls X hl ok
  exact lv_dup2_11 C.1 C.2.1 hd ((cat_cv ad v).trans hc) ((cat_cv ad u).trans hc2) (kk p e s m args below meth c C ad0 n0 ad H locs ls X hl (okS_push (okS_push ok (okS_pop (okS_pop ok).2).1) (okS_pop ok).1))
theorem wp_pop {v : PV} (hd : decode J.2.1 pc = .ok (.pop, 1)) (hc : cat v = 1) (kk : Wp G J k z (pc + 1) L st n R M Q) : Wp G J k z pc L (v :: st) n R M Q := by
  intro p e s m args below meth c C ad0 n0 ad H locs ls X hl ok
  exact lv_pop C.1 C.2.1 hd ((cat_cv ad v).trans hc) (kk p e s m args below meth c C ad0 n0 ad H locs ls X hl (okS_pop ok).2)
theorem wp_iadd {x y : Int} (hd : decode J.2.1 pc = .ok (.iadd, 1)) (kk : Wp G J k z (pc + 1) L (pI (w32 (x + y)) :: st) n R M Q) : Wp G J k z pc L (pI y :: pI x :: st) n R M Q := by
  intro p e s m args below meth c C ad0 n0 ad H locs ls X hl ok
  obtain ⟨oy, ok1⟩ := okS_pop ok
  obtain ⟨ox, ok2⟩ := okS_pop ok1
  refine lv_iadd C.1 C.2.1 hd ?_
  rw [ia_add]
  exact kk p e s m args below meth c C ad0 n0 ad H locs ls X hl (okS_push ok2 (r32_w _))
theorem wp_isub {x y : Int} (hd : decode J.2.1 pc = .ok (.isub, 1)) (kk : Wp G J k z (pc + 1) L (pI (w32 (x - y)) :: st) n R M Q) : Wp G J k z pc L (pI y :: pI x :: st) n R M Q := by
  intro p e s m args below meth c C ad0 n0 ad H locs ls X hl ok
  obtain ⟨oy, ok1⟩ := okS_pop ok
  obtain ⟨ox, ok2⟩ := okS_pop ok1
  refine lv_isub C.1 C.2.1 hd ?_
  rw [ia_sub]
  exact kk p e s m args below meth c C ad0 n0 ad H locs ls X hl (okS_push ok2 (r32_w _))
theorem wp_imul {x y : Int} (hd : decode J.2.1 pc = .ok (.imul, 1)) (kk : Wp G J k z (pc + 1) L (pI (w32 (x * y)) :: st) n R M Q) : Wp G J k z pc L (pI y :: pI x :: st) n R M Q := by
  intro p e s m args below meth c C ad0 n0 ad H locs ls X hl ok
  obtain ⟨oy, ok1⟩ := okS_pop ok
  obtain ⟨ox, ok2⟩ := okS_pop ok1
  refine lv_imul C.1 C.2.1 hd ?_
  rw [ia_mul]
  exact kk p e s m args below meth c C ad0 n0 ad H locs ls X hl (okS_push ok2 (r32_w _))
theorem wp_ladd {x y : Int} (hd : decode J.2.1 pc = .ok (.ladd, 1)) (kk : Wp G J k z (pc + 1) L (pL (w64 (x + y)) :: st) n R M Q) : Wp G J k z pc L (pL y :: pL x :: st) n R M Q := by
  intro p e s m args below meth c C ad0 n0 ad H locs ls X hl ok
  obtain ⟨oy, ok1⟩ := okS_pop ok
  obtain ⟨ox, ok2⟩ := okS_pop ok1
  refine lv_ladd C.1 C.2.1 hd ?_
  rw [la_add]
  exact kk p e s m args below meth c C ad0 n0 ad H locs ls X hl (okS_push ok2 (r64_w _))
theorem wp_lsub {x y : Int} (hd : decode J.2.1 pc = .ok (.lsub, 1)) (kk : Wp G J k z (pc + 1) L (pL (w64 (x - y)) :: st) n R M Q) : Wp G J k z pc L (pL y :: pL x :: st) n R M Q := by
  intro p e s m args below meth c C ad0 n0 ad H locs ls X hl ok
  obtain ⟨oy, ok1⟩ := okS_pop ok
  obtain ⟨ox, ok2⟩ := okS_pop ok1
  refine lv_lsub C.1 C.2.1 hd ?_
  rw [la_sub]
  exact kk p e s m args below meth c C ad0 n0 ad H locs ls X hl (okS_push ok2 (r64_w _))
theorem wp_lmul {x y : Int} (hd : decode J.2.1 pc = .ok (.lmul, 1)) (kk : Wp G J k z (pc + 1) L (pL (w64 (x * y)) :: st) n R M Q) : Wp G J k z pc L (pL y :: pL x :: st) n R M Q := by
  intro p e s m args below meth c C ad0 n0 ad H locs ls X hl ok
  obtain ⟨oy, ok1⟩ := okS_pop ok
  obtain ⟨ox, ok2⟩ := okS_pop ok1
  refine lv_lmul C.1 C.2.1 hd ?_
  rw [la_mul]
  exact kk p e s m args below meth c C ad0 n0 ad H locs ls X hl (okS_push ok2 (r64_w _))
theorem wp_idiv {x y : Int} (hd : decode J.2.1 pc = .ok (.idiv, 1)) (h0 : ¬ y = 0) (kk : Wp G J k z (pc + 1) L (pI (w32 (x.tdiv y)) :: st) n R M Q) : Wp G J k z pc L (pI y :: pI x :: st) n R M Q := by
  intro p e s m args below meth c C ad0 n0 ad H locs ls X hl ok
  obtain ⟨oy, ok1⟩ := okS_pop ok
  obtain ⟨ox, ok2⟩ := okS_pop ok1
  have hne : ¬ Int32.ofInt y = 0 := fun h => h0 ((e32 oy (show R32 0 by unfold R32; omega)).mp h)
  refine lv_idiv C.1 C.2.1 hd hne ?_
  rw [ia_div ox oy]
  exact kk p e s m args below meth c C ad0 n0 ad H locs ls X hl (okS_push ok2 (r32_w _))
theorem wp_irem {x y : Int} (hd : decode J.2.1 pc = .ok (.irem, 1)) (h0 : ¬ y = 0) (kk : Wp G J k z (pc + 1) L (pI (w32 (x.tmod y)) :: st) n R M Q) : Wp G J k z pc L (pI y :: pI x :: st) n R M Q := by
  intro p e s m args below meth c C ad0 n0 ad H locs ls X hl ok
  obtain ⟨oy, ok1⟩ := okS_pop ok
  obtain ⟨ox, ok2⟩ := okS_pop ok1
  have hne : ¬ Int32.ofInt y = 0 := fun h => h0 ((e32 oy (show R32 0 by unfold R32; omega)).mp h)
  refine lv_irem C.1 C.2.1 hd hne ?_
  rw [ia_rem ox oy]
  exact kk p e s m args below meth c C ad0 n0 ad H locs ls X hl (okS_push ok2 (r32_w _))
theorem wp_ldiv {x y : Int} (hd : decode J.2.1 pc = .ok (.ldiv, 1)) (h0 : ¬ y = 0) (kk : Wp G J k z (pc + 1) L (pL (w64 (x.tdiv y)) :: st) n R M Q) : Wp G J k z pc L (pL y :: pL x :: st) n R M Q := by
  intro p e s m args below meth c C ad0 n0 ad H locs ls X hl ok
  obtain ⟨oy, ok1⟩ := okS_pop ok
  obtain ⟨ox, ok2⟩ := okS_pop ok1
  have hne : ¬ Int64.ofInt y = 0 := fun h => h0 ((e64 oy (show R64 0 by unfold R64; omega)).mp h)
  refine lv_ldiv C.1 C.2.1 hd hne ?_
  rw [la_div ox oy]
  exact kk p e s m args below meth c C ad0 n0 ad H locs ls X hl (okS_push ok2 (r64_w _))
theorem wp_lrem {x y : Int} (hd : decode J.2.1 pc = .ok (.lrem, 1)) (h0 : ¬ y = 0) (kk : Wp G J k z (pc + 1) L (pL (w64 (x.tmod y)) :: st) n R M Q) : Wp G J k z pc L (pL y :: pL x :: st) n R M Q := by
  intro p e s m args below meth c C ad0 n0 ad H locs ls X hl ok
  obtain ⟨oy, ok1⟩ := okS_pop ok
  obtain ⟨ox, ok2⟩ := okS_pop ok1
  have hne : ¬ Int64.ofInt y = 0 := fun h => h0 ((e64 oy (show R64 0 by unfold R64; omega)).mp h)
  refine lv_lrem C.1 C.2.1 hd hne ?_
  rw [la_rem ox oy]
  exact kk p e s m args below meth c C ad0 n0 ad H locs ls X hl (okS_push ok2 (r64_w _))
theorem wp_iand {x y : Int} (hd : decode J.2.1 pc = .ok (.iand, 1)) (kk : Wp G J k z (pc + 1) L (pI (iand x y) :: st) n R M Q) : Wp G J k z pc L (pI y :: pI x :: st) n R M Q := by
  intro p e s m args below meth c C ad0 n0 ad H locs ls X hl ok
  obtain ⟨oy, ok1⟩ := okS_pop ok
  obtain ⟨ox, ok2⟩ := okS_pop ok1
  refine lv_iand C.1 C.2.1 hd ?_
  rw [show Int32.ofInt x &&& Int32.ofInt y = Int32.ofInt (iand x y) from (o32 _).symm]
  exact kk p e s m args below meth c C ad0 n0 ad H locs ls X hl (okS_push ok2 (r32 _))
theorem wp_ior {x y : Int} (hd : decode J.2.1 pc = .ok (.ior, 1)) (kk : Wp G J k z (pc + 1) L (pI (ior x y) :: st) n R M Q) : Wp G J k z pc L (pI y :: pI x :: st) n R M Q := by
  intro p e s m args below meth c C ad0 n0 ad H locs ls X hl ok
  obtain ⟨oy, ok1⟩ := okS_pop ok
  obtain ⟨ox, ok2⟩ := okS_pop ok1
  refine lv_ior C.1 C.2.1 hd ?_
  rw [show Int32.ofInt x ||| Int32.ofInt y = Int32.ofInt (ior x y) from (o32 _).symm]
  exact kk p e s m args below meth c C ad0 n0 ad H locs ls X hl (okS_push ok2 (r32 _))
theorem wp_ixor {x y : Int} (hd : decode J.2.1 pc = .ok (.ixor, 1)) (kk : Wp G J k z (pc + 1) L (pI (ixor x y) :: st) n R M Q) : Wp G J k z pc L (pI y :: pI x :: st) n R M Q := by
  intro p e s m args below meth c C ad0 n0 ad H locs ls X hl ok
  obtain ⟨oy, ok1⟩ := okS_pop ok
  obtain ⟨ox, ok2⟩ := okS_pop ok1
  refine lv_ixor C.1 C.2.1 hd ?_
  rw [show Int32.ofInt x ^^^ Int32.ofInt y = Int32.ofInt (ixor x y) from (o32 _).symm]
  exact kk p e s m args below meth c C ad0 n0 ad H locs ls X hl (okS_push ok2 (r32 _))
theorem wp_ishl {x y : Int} (hd : decode J.2.1 pc = .ok (.ishl, 1)) (kk : Wp G J k z (pc + 1) L (pI (ishl x y) :: st) n R M Q) : Wp G J k z pc L (pI y :: pI x :: st) n R M Q := by
  intro p e s m args below meth c C ad0 n0 ad H locs ls X hl ok
  obtain ⟨oy, ok1⟩ := okS_pop ok
  obtain ⟨ox, ok2⟩ := okS_pop ok1
  refine lv_ishl C.1 C.2.1 hd ?_
  rw [show Int32.ofInt x <<< (Int32.ofInt y &&& 31) = Int32.ofInt (ishl x y) from (o32 _).symm]
  exact kk p e s m args below meth c C ad0 n0 ad H locs ls X hl (okS_push ok2 (r32 _))
theorem wp_ishr {x y : Int} (hd : decode J.2.1 pc = .ok (.ishr, 1)) (kk : Wp G J k z (pc + 1) L (pI (ishr x y) :: st) n R M Q) : Wp G J k z pc L (pI y :: pI x :: st) n R M Q := by
  intro p e s m args below meth c C ad0 n0 ad H locs ls X hl ok
  obtain ⟨oy, ok1⟩ := okS_pop ok
  obtain ⟨ox, ok2⟩ := okS_pop ok1
  refine lv_ishr C.1 C.2.1 hd ?_
  rw [show Int32.ofInt x >>> (Int32.ofInt y &&& 31) = Int32.ofInt (ishr x y) from (o32 _).symm]
  exact kk p e s m args below meth c C ad0 n0 ad H locs ls X hl (okS_push ok2 (r32 _))
theorem wp_iushr {x y : Int} (hd : decode J.2.1 pc = .ok (.iushr, 1)) (kk : Wp G J k z (pc + 1) L (pI (iushr x y) :: st) n R M Q) : Wp G J k z pc L (pI y :: pI x :: st) n R M Q := by
  intro p e s m args below meth c C ad0 n0 ad H locs ls X hl ok
  obtain ⟨oy, ok1⟩ := okS_pop ok
  obtain ⟨ox, ok2⟩ := okS_pop ok1
  refine lv_iushr C.1 C.2.1 hd (o32 _).symm ?_
  exact kk p e s m args below meth c C ad0 n0 ad H locs ls X hl (okS_push ok2 (r32 _))
theorem wp_land {x y : Int} (hd : decode J.2.1 pc = .ok (.land, 1)) (kk : Wp G J k z (pc + 1) L (pL (land x y) :: st) n R M Q) : Wp G J k z pc L (pL y :: pL x :: st) n R M Q := by
  intro p e s m args below meth c C ad0 n0 ad H locs ls X hl ok
  obtain ⟨oy, ok1⟩ := okS_pop ok
  obtain ⟨ox, ok2⟩ := okS_pop ok1
  refine lv_land C.1 C.2.1 hd ?_
  rw [show Int64.ofInt x &&& Int64.ofInt y = Int64.ofInt (land x y) from (o64 _).symm]
  exact kk p e s m args below meth c C ad0 n0 ad H locs ls X hl (okS_push ok2 (r64 _))
theorem wp_lor {x y : Int} (hd : decode J.2.1 pc = .ok (.lor, 1)) (kk : Wp G J k z (pc + 1) L (pL (lor x y) :: st) n R M Q) : Wp G J k z pc L (pL y :: pL x :: st) n R M Q := by
  intro p e s m args below meth c C ad0 n0 ad H locs ls X hl ok
  obtain ⟨oy, ok1⟩ := okS_pop ok
  obtain ⟨ox, ok2⟩ := okS_pop ok1
  refine lv_lor C.1 C.2.1 hd ?_
  rw [show Int64.ofInt x ||| Int64.ofInt y = Int64.ofInt (lor x y) from (o64 _).symm]
  exact kk p e s m args below meth c C ad0 n0 ad H locs ls X hl (okS_push ok2 (r64 _))
theorem wp_lxor {x y : Int} (hd : decode J.2.1 pc = .ok (.lxor, 1)) (kk : Wp G J k z (pc + 1) L (pL (lxor x y) :: st) n R M Q) : Wp G J k z pc L (pL y :: pL x :: st) n R M Q := by
  intro p e s m args below meth c C ad0 n0 ad H locs ls X hl ok
  obtain ⟨oy, ok1⟩ := okS_pop ok
  obtain ⟨ox, ok2⟩ := okS_pop ok1
  refine lv_lxor C.1 C.2.1 hd ?_
  rw [show Int64.ofInt x ^^^ Int64.ofInt y = Int64.ofInt (lxor x y) from (o64 _).symm]
  exact kk p e s m args below meth c C ad0 n0 ad H locs ls X hl (okS_push ok2 (r64 _))
theorem wp_lshl {x y : Int} (hd : decode J.2.1 pc = .ok (.lshl, 1)) (kk : Wp G J k z (pc + 1) L (pL (lshl x y) :: st) n R M Q) : Wp G J k z pc L (pI y :: pL x :: st) n R M Q := by
  intro p e s m args below meth c C ad0 n0 ad H locs ls X hl ok
  obtain ⟨oy, ok1⟩ := okS_pop ok
  obtain ⟨ox, ok2⟩ := okS_pop ok1
  refine lv_lshl C.1 C.2.1 hd (o64 _).symm ?_
  exact kk p e s m args below meth c C ad0 n0 ad H locs ls X hl (okS_push ok2 (r64 _))
theorem wp_lushr {x y : Int} (hd : decode J.2.1 pc = .ok (.lushr, 1)) (kk : Wp G J k z (pc + 1) L (pL (lushr x y) :: st) n R M Q) : Wp G J k z pc L (pI y :: pL x :: st) n R M Q := by
  intro p e s m args below meth c C ad0 n0 ad H locs ls X hl ok
  obtain ⟨oy, ok1⟩ := okS_pop ok
  obtain ⟨ox, ok2⟩ := okS_pop ok1
  refine lv_lushr C.1 C.2.1 hd (o64 _).symm ?_
  exact kk p e s m args below meth c C ad0 n0 ad H locs ls X hl (okS_push ok2 (r64 _))
theorem wp_i2l {x : Int} (hd : decode J.2.1 pc = .ok (.i2l, 1)) (kk : Wp G J k z (pc + 1) L (pL x :: st) n R M Q) : Wp G J k z pc L (pI x :: st) n R M Q := by
  intro p e s m args below meth c C ad0 n0 ad H locs ls X hl ok
  obtain ⟨ox, ok1⟩ := okS_pop ok
  refine lv_i2l C.1 C.2.1 hd ?_ (kk p e s m args below meth c C ad0 n0 ad H locs ls X hl (okS_push ok1 (show R64 x by
    have h : R32 x := ox
    unfold R32 at h
    unfold R64
    omega)))
  apply Int64.toInt_inj.mp
  rw [Int32.toInt_toInt64, t32 ox, t64]
  have h : R32 x := ox
  unfold R32 at h
  unfold R64
  omega
theorem wp_i2b {x : Int} (hd : decode J.2.1 pc = .ok (.i2b, 1)) (kk : Wp G J k z (pc + 1) L (pI (i2b x) :: st) n R M Q) : Wp G J k z pc L (pI x :: st) n R M Q := by
  intro p e s m args below meth c C ad0 n0 ad H locs ls X hl ok
  exact lv_i2b C.1 C.2.1 hd (o32 _).symm (kk p e s m args below meth c C ad0 n0 ad H locs ls X hl (okS_push (okS_pop ok).2 (r32 _)))
theorem wp_i2s {x : Int} (hd : decode J.2.1 pc = .ok (.i2s, 1)) (kk : Wp G J k z (pc + 1) L (pI (i2s x) :: st) n R M Q) : Wp G J k z pc L (pI x :: st) n R M Q := by
  intro p e s m args below meth c C ad0 n0 ad H locs ls X hl ok
  exact lv_i2s C.1 C.2.1 hd (o32 _).symm (kk p e s m args below meth c C ad0 n0 ad H locs ls X hl (okS_push (okS_pop ok).2 (r32 _)))
theorem wp_l2i {x : Int} (hd : decode J.2.1 pc = .ok (.l2i, 1)) (kk : Wp G J k z (pc + 1) L (pI (w32 x) :: st) n R M Q) : Wp G J k z pc L (pL x :: st) n R M Q := by
  intro p e s m args below meth c C ad0 n0 ad H locs ls X hl ok
  obtain ⟨ox, ok1⟩ := okS_pop ok
  refine lv_l2i C.1 C.2.1 hd ?_ (kk p e s m args below meth c C ad0 n0 ad H locs ls X hl (okS_push ok1 (r32_w _)))
  rw [o32_w]
  apply Int32.toInt_inj.mp
  rw [Int64.toInt_toInt32, t64 ox, Int32.toInt_ofInt]
theorem lg_of {x y : Int} (hx : R64 x) (hy : R64 y) : lg_cmp (Int64.ofInt x) (Int64.ofInt y) = Int32.ofInt (lcm x y) := by
  unfold lg_cmp lcm
  simp only [gt_iff_lt, l64 hy hx, e64 hx hy]
  split
  · rfl
  · split <;> rfl
theorem wp_lcmp {x y : Int} (hd : decode J.2.1 pc = .ok (.lcmp, 1)) (kk : Wp G J k z (pc + 1) L (pI (lcm x y) :: st) n R M Q) : Wp G J k z pc L (pL y :: pL x :: st) n R M Q := by
  intro p e s m args below meth c C ad0 n0 ad H locs ls X hl ok
  obtain ⟨oy, ok1⟩ := okS_pop ok
  obtain ⟨ox, ok2⟩ := okS_pop ok1
  refine W.lcmp C.1 C.2.1 hd ?_
  rw [lg_of ox oy]
  exact kk p e s m args below meth c C ad0 n0 ad H locs ls X hl (okS_push ok2 (show R32 (lcm x y) by unfold lcm R32; split <;> (try split) <;> omega))
theorem wp_if_eq {x off : Int} (tgt : Nat) (hd : decode J.2.1 pc = .ok (.ifCond .eq off, 3)) (ht : (pc : Int) + off = (tgt : Int)) (kt : x = 0 → Wp G J k z tgt L st n R M Q) (kf : ¬ x = 0 → Wp G J k z (pc + 3) L st n R M Q) : Wp G J k z pc L (pI x :: st) n R M Q := by
  intro p e s m args below meth c C ad0 n0 ad H locs ls X hl ok
  obtain ⟨ox, ok1⟩ := okS_pop ok
  exact lv_if_eq C.1 C.2.1 hd ht (fun hc => kt ((e32 ox z32).mp hc) p e s m args below meth c C ad0 n0 ad H locs ls X hl ok1) (fun hc => have hc : ¬ (x = 0) := fun h => hc ((e32 ox z32).mpr h); kf (hc) p e s m args below meth c C ad0 n0 ad H locs ls X hl ok1)
theorem wp_if_ne {x off : Int} (tgt : Nat) (hd : decode J.2.1 pc = .ok (.ifCond .ne off, 3)) (ht : (pc : Int) + off = (tgt : Int)) (kt : ¬ x = 0 → Wp G J k z tgt L st n R M Q) (kf : x = 0 → Wp G J k z (pc + 3) L st n R M Q) : Wp G J k z pc L (pI x :: st) n R M Q := by
  intro p e s m args below meth c C ad0 n0 ad H locs ls X hl ok
  obtain ⟨ox, ok1⟩ := okS_pop ok
  exact lv_if_ne C.1 C.2.1 hd ht (fun hc => kt ((not_congr (e32 ox z32)).mp hc) p e s m args below meth c C ad0 n0 ad H locs ls X hl ok1) (fun hc => kf ((e32 ox z32).mp hc) p e s m args below meth c C ad0 n0 ad H locs ls X hl ok1)
theorem wp_if_lt {x off : Int} (tgt : Nat) (hd : decode J.2.1 pc = .ok (.ifCond .lt off, 3)) (ht : (pc : Int) + off = (tgt : Int)) (kt : x < 0 → Wp G J k z tgt L st n R M Q) (kf : 0 ≤ x → Wp G J k z (pc + 3) L st n R M Q) : Wp G J k z pc L (pI x :: st) n R M Q := by
  intro p e s m args below meth c C ad0 n0 ad H locs ls X hl ok
  obtain ⟨ox, ok1⟩ := okS_pop ok
  exact lv_if_lt C.1 C.2.1 hd ht (fun hc => kt ((l32 ox z32).mp hc) p e s m args below meth c C ad0 n0 ad H locs ls X hl ok1) (fun hc => have hc : ¬ (x < 0) := fun h => hc ((l32 ox z32).mpr h); kf (Int.not_lt.mp hc) p e s m args below meth c C ad0 n0 ad H locs ls X hl ok1)
theorem wp_if_ge {x off : Int} (tgt : Nat) (hd : decode J.2.1 pc = .ok (.ifCond .ge off, 3)) (ht : (pc : Int) + off = (tgt : Int)) (kt : 0 ≤ x → Wp G J k z tgt L st n R M Q) (kf : x < 0 → Wp G J k z (pc + 3) L st n R M Q) : Wp G J k z pc L (pI x :: st) n R M Q := by
  intro p e s m args below meth c C ad0 n0 ad H locs ls X hl ok
  obtain ⟨ox, ok1⟩ := okS_pop ok
  exact lv_if_ge C.1 C.2.1 hd ht (fun hc => kt ((le32 z32 ox).mp hc) p e s m args below meth c C ad0 n0 ad H locs ls X hl ok1) (fun hc => have hc : ¬ (0 ≤ x) := fun h => hc ((le32 z32 ox).mpr h); kf (Int.not_le.mp hc) p e s m args below meth c C ad0 n0 ad H locs ls X hl ok1)
theorem wp_if_gt {x off : Int} (tgt : Nat) (hd : decode J.2.1 pc = .ok (.ifCond .gt off, 3)) (ht : (pc : Int) + off = (tgt : Int)) (kt : 0 < x → Wp G J k z tgt L st n R M Q) (kf : x ≤ 0 → Wp G J k z (pc + 3) L st n R M Q) : Wp G J k z pc L (pI x :: st) n R M Q := by
  intro p e s m args below meth c C ad0 n0 ad H locs ls X hl ok
  obtain ⟨ox, ok1⟩ := okS_pop ok
  exact lv_if_gt C.1 C.2.1 hd ht (fun hc => kt ((l32 z32 ox).mp hc) p e s m args below meth c C ad0 n0 ad H locs ls X hl ok1) (fun hc => have hc : ¬ (0 < x) := fun h => hc ((l32 z32 ox).mpr h); kf (Int.not_lt.mp hc) p e s m args below meth c C ad0 n0 ad H locs ls X hl ok1)
theorem wp_if_le {x off : Int} (tgt : Nat) (hd : decode J.2.1 pc = .ok (.ifCond .le off, 3)) (ht : (pc : Int) + off = (tgt : Int)) (kt : x ≤ 0 → Wp G J k z tgt L st n R M Q) (kf : 0 < x → Wp G J k z (pc + 3) L st n R M Q) : Wp G J k z pc L (pI x :: st) n R M Q := by
  intro p e s m args below meth c C ad0 n0 ad H locs ls X hl ok
  obtain ⟨ox, ok1⟩ := okS_pop ok
  exact lv_if_le C.1 C.2.1 hd ht (fun hc => kt ((le32 ox z32).mp hc) p e s m args below meth c C ad0 n0 ad H locs ls X hl ok1) (fun hc => have hc : ¬ (x ≤ 0) := fun h => hc ((le32 ox z32).mpr h); kf (Int.not_le.mp hc) p e s m args below meth c C ad0 n0 ad H locs ls X hl ok1)
theorem wp_icmp_eq {x y off : Int} (tgt : Nat) (hd : decode J.2.1 pc = .ok (.if_icmp .eq off, 3)) (ht : (pc : Int) + off = (tgt : Int)) (kt : x = y → Wp G J k z tgt L st n R M Q) (kf : ¬ x = y → Wp G J k z (pc + 3) L st n R M Q) : Wp G J k z pc L (pI y :: pI x :: st) n R M Q := by
  intro p e s m args below meth c C ad0 n0 ad H locs ls X hl ok
  obtain ⟨oy, ok1⟩ := okS_pop ok
  obtain ⟨ox, ok2⟩ := okS_pop ok1
  exact lv_icmp_eq C.1 C.2.1 hd ht (fun hc => kt ((e32 ox oy).mp hc) p e s m args below meth c C ad0 n0 ad H locs ls X hl ok2) (fun hc => have hc : ¬ (x = y) := fun h => hc ((e32 ox oy).mpr h); kf (hc) p e s m args below meth c C ad0 n0 ad H locs ls X hl ok2)
theorem wp_icmp_ne {x y off : Int} (tgt : Nat) (hd : decode J.2.1 pc = .ok (.if_icmp .ne off, 3)) (ht : (pc : Int) + off = (tgt : Int)) (kt : ¬ x = y → Wp G J k z tgt L st n R M Q) (kf : x = y → Wp G J k z (pc + 3) L st n R M Q) : Wp G J k z pc L (pI y :: pI x :: st) n R M Q := by
  intro p e s m args below meth c C ad0 n0 ad H locs ls X hl ok
  obtain ⟨oy, ok1⟩ := okS_pop ok
  obtain ⟨ox, ok2⟩ := okS_pop ok1
  exact lv_icmp_ne C.1 C.2.1 hd ht (fun hc => kt ((not_congr (e32 ox oy)).mp hc) p e s m args below meth c C ad0 n0 ad H locs ls X hl ok2) (fun hc => kf ((e32 ox oy).mp hc) p e s m args below meth c C ad0 n0 ad H locs ls X hl ok2)
theorem wp_icmp_lt {x y off : Int} (tgt : Nat) (hd : decode J.2.1 pc = .ok (.if_icmp .lt off, 3)) (ht : (pc : Int) + off = (tgt : Int)) (kt : x < y → Wp G J k z tgt L st n R M Q) (kf : y ≤ x → Wp G J k z (pc + 3) L st n R M Q) : Wp G J k z pc L (pI y :: pI x :: st) n R M Q := by
  intro p e s m args below meth c C ad0 n0 ad H locs ls X hl ok
  obtain ⟨oy, ok1⟩ := okS_pop ok
  obtain ⟨ox, ok2⟩ := okS_pop ok1
  exact lv_icmp_lt C.1 C.2.1 hd ht (fun hc => kt ((l32 ox oy).mp hc) p e s m args below meth c C ad0 n0 ad H locs ls X hl ok2) (fun hc => have hc : ¬ (x < y) := fun h => hc ((l32 ox oy).mpr h); kf (Int.not_lt.mp hc) p e s m args below meth c C ad0 n0 ad H locs ls X hl ok2)
theorem wp_icmp_ge {x y off : Int} (tgt : Nat) (hd : decode J.2.1 pc = .ok (.if_icmp .ge off, 3)) (ht : (pc : Int) + off = (tgt : Int)) (kt : y ≤ x → Wp G J k z tgt L st n R M Q) (kf : x < y → Wp G J k z (pc + 3) L st n R M Q) : Wp G J k z pc L (pI y :: pI x :: st) n R M Q := by
  intro p e s m args below meth c C ad0 n0 ad H locs ls X hl ok
  obtain ⟨oy, ok1⟩ := okS_pop ok
  obtain ⟨ox, ok2⟩ := okS_pop ok1
  exact lv_icmp_ge C.1 C.2.1 hd ht (fun hc => kt ((le32 oy ox).mp hc) p e s m args below meth c C ad0 n0 ad H locs ls X hl ok2) (fun hc => have hc : ¬ (y ≤ x) := fun h => hc ((le32 oy ox).mpr h); kf (Int.not_le.mp hc) p e s m args below meth c C ad0 n0 ad H locs ls X hl ok2)
theorem wp_icmp_gt {x y off : Int} (tgt : Nat) (hd : decode J.2.1 pc = .ok (.if_icmp .gt off, 3)) (ht : (pc : Int) + off = (tgt : Int)) (kt : y < x → Wp G J k z tgt L st n R M Q) (kf : x ≤ y → Wp G J k z (pc + 3) L st n R M Q) : Wp G J k z pc L (pI y :: pI x :: st) n R M Q := by
  intro p e s m args below meth c C ad0 n0 ad H locs ls X hl ok
  obtain ⟨oy, ok1⟩ := okS_pop ok
  obtain ⟨ox, ok2⟩ := okS_pop ok1
  exact lv_icmp_gt C.1 C.2.1 hd ht (fun hc => kt ((l32 oy ox).mp hc) p e s m args below meth c C ad0 n0 ad H locs ls X hl ok2) (fun hc => have hc : ¬ (y < x) := fun h => hc ((l32 oy ox).mpr h); kf (Int.not_lt.mp hc) p e s m args below meth c C ad0 n0 ad H locs ls X hl ok2)
theorem wp_icmp_le {x y off : Int} (tgt : Nat) (hd : decode J.2.1 pc = .ok (.if_icmp .le off, 3)) (ht : (pc : Int) + off = (tgt : Int)) (kt : x ≤ y → Wp G J k z tgt L st n R M Q) (kf : y < x → Wp G J k z (pc + 3) L st n R M Q) : Wp G J k z pc L (pI y :: pI x :: st) n R M Q := by
  intro p e s m args below meth c C ad0 n0 ad H locs ls X hl ok
  obtain ⟨oy, ok1⟩ := okS_pop ok
  obtain ⟨ox, ok2⟩ := okS_pop ok1
  exact lv_icmp_le C.1 C.2.1 hd ht (fun hc => kt ((le32 ox oy).mp hc) p e s m args below meth c C ad0 n0 ad H locs ls X hl ok2) (fun hc => have hc : ¬ (x ≤ y) := fun h => hc ((le32 ox oy).mpr h); kf (Int.not_le.mp hc) p e s m args below meth c C ad0 n0 ad H locs ls X hl ok2)
theorem wp_goto {off : Int} (tgt : Nat) (hd : decode J.2.1 pc = .ok (.goto off, 3)) (ht : (pc : Int) + off = (tgt : Int)) (kk : Wp G J k z tgt L st n R M Q) : Wp G J k z pc L st n R M Q := by
  intro p e s m args below meth c C ad0 n0 ad H locs ls X hl ok
  exact lv_goto C.1 C.2.1 hd ht (kk p e s m args below meth c C ad0 n0 ad H locs ls X hl ok)
theorem wp_ifnull {x : Nat} {off : Int} (hd : decode J.2.1 pc = .ok (.ifnull off, 3)) (kk : Wp G J k z (pc + 3) L st n R M Q) : Wp G J k z pc L (pR x :: st) n R M Q := by
  intro p e s m args below meth c C ad0 n0 ad H locs ls X hl ok
  exact lv_ifnull C.1 C.2.1 hd (kk p e s m args below meth c C ad0 n0 ad H locs ls X hl (okS_pop ok).2)
theorem wp_ifnullN {off : Int} (tgt : Nat) (hd : decode J.2.1 pc = .ok (.ifnull off, 3)) (ht : (pc : Int) + off = (tgt : Int)) (kk : Wp G J k z tgt L st n R M Q) : Wp G J k z pc L (pN :: st) n R M Q := by
  intro p e s m args below meth c C ad0 n0 ad H locs ls X hl ok
  exact lv_ifnullN C.1 C.2.1 hd ht (kk p e s m args below meth c C ad0 n0 ad H locs ls X hl (okS_pop ok).2)
theorem wp_tabOut {dflt lo hi : Int} {offs : Array Int} {len : Nat} {x : Int} (tgt : Nat) (hd : decode J.2.1 pc = .ok (.tableswitch dflt lo hi offs, len)) (h : x < lo ∨ hi < x) (ht : (pc : Int) + dflt = (tgt : Int)) (kk : Wp G J k z tgt L st n R M Q) : Wp G J k z pc L (pI x :: st) n R M Q := by
  intro p e s m args below meth c C ad0 n0 ad H locs ls X hl ok
  exact lv_tableOut C.1 C.2.1 hd (by rw [t32 (okS_pop ok).1]; exact h) ht (kk p e s m args below meth c C ad0 n0 ad H locs ls X hl (okS_pop ok).2)
theorem wp_tabIn {dflt lo hi : Int} {offs : Array Int} {len : Nat} {x off : Int} (tgt : Nat) (hd : decode J.2.1 pc = .ok (.tableswitch dflt lo hi offs, len)) (h1 : lo ≤ x) (h2 : x ≤ hi) (ho : offs[(x - lo).toNat]? = some off) (ht : (pc : Int) + off = (tgt : Int)) (kk : Wp G J k z tgt L st n R M Q) : Wp G J k z pc L (pI x :: st) n R M Q := by
  intro p e s m args below meth c C ad0 n0 ad H locs ls X hl ok
  have e9 := t32 (show R32 x from (okS_pop ok).1)
  exact lv_tableIn C.1 C.2.1 hd (by rw [e9]; exact Int.not_lt.mpr h1) (by rw [e9]; exact Int.not_lt.mpr h2) (by rw [e9]; exact ho) ht (kk p e s m args below meth c C ad0 n0 ad H locs ls X hl (okS_pop ok).2)
end PS
end
section
theorem cl_lt {ci : Nat} {q : vw_C} (h : CL[ci]? = some q) : ci < 12 := by
  have h1 := (List.getElem?_eq_some_iff.mp h).1
  simpa [CL] using h1
theorem ws_get {G : GT} {ad : Nat → Nat} {n : Nat} {R : RT} {M : MT} {o : Nat} (h : o < n) : (wsOf G ad n R M)[o]? = some (ad o, cont G ad R M o) := by
  unfold wsOf
  rw [List.getElem?_map, List.getElem?_range h]
  rfl
theorem cont_ob {G : GT} {ad : Nat → Nat} {R : RT} {M : MT} {o ci N : Nat} (hs : SH o = (ci, N)) (h : ci < 12) : cont G ad R M o = .inr (ci, (List.range N).map (fldv ad R M ci o)) := by
  unfold cont
  rw [if_pos (by rw [hs]; exact (by omega : ci < 20)), hs]
theorem cont_i {G : GT} {ad : Nat → Nat} {R : RT} {M : MT} {o N : Nat} (hs : SH o = (20, N)) : cont G ad R M o = .inl (G.2.2.1 0, N, .inl (fun k => Int32.ofInt (M o k))) := by
  unfold cont
  rw [if_neg (by rw [hs]; exact (by decide : ¬ (20 : Nat) < 20)), if_pos (by rw [hs]), hs]
theorem cont_l {G : GT} {ad : Nat → Nat} {R : RT} {M : MT} {o N : Nat} (hs : SH o = (21, N)) : cont G ad R M o = .inl (G.2.2.1 1, N, .inr (.inl (fun k => Int64.ofInt (M o k)))) := by
  unfold cont
  rw [if_neg (by rw [hs]; exact (by decide : ¬ (21 : Nat) < 20)), if_neg (by rw [hs]; exact (by decide : ¬ (21 : Nat) = 20)), if_pos (by rw [hs]), hs]
theorem cont_r {G : GT} {ad : Nat → Nat} {R : RT} {M : MT} {o N t : Nat} (hs : SH o = (22 + t, N)) : cont G ad R M o = .inl (G.2.2.1 (2 + t), N, .inr (.inr (.inr (.inr (fun k => (R o k).map ad))))) := by
  unfold cont
  rw [if_neg (by rw [hs]; show ¬ 22 + t < 20; omega), if_neg (by rw [hs]; show ¬ 22 + t = 20; omega), if_neg (by rw [hs]; show ¬ 22 + t = 21; omega), hs]
  show (Sum.inl (G.2.2.1 (22 + t - 20), _) : va_E) = _
  rw [show 22 + t - 20 = 2 + t by omega]
theorem fld_get (ad : Nat → Nat) (R : RT) (M : MT) (ci o : Nat) {N f : Nat} (hf : f < N) : ((List.range N).map (fldv ad R M ci o))[f]? = some (fldv ad R M ci o f) := by
  rw [List.getElem?_map, List.getElem?_range hf]
  rfl
theorem cont_eq {G : GT} {ad ad' : Nat → Nat} {R R' : RT} {M M' : MT} {o : Nat} (h1 : ∀ k, (R' o k).map ad' = (R o k).map ad) (h2 : ∀ k, M' o k = M o k) : cont G ad' R' M' o = cont G ad R M o := by
  unfold cont
  have e1 : fldv ad' R' M' (SH o).1 o = fldv ad R M (SH o).1 o := by
    funext k
    unfold fldv
    rw [h1, h2]
  rw [e1]
  simp only [h1, h2]
theorem ws_set {G : GT} {ad : Nat → Nat} {n : Nat} {R R' : RT} {M M' : MT} {o : Nat} {E : va_E} (ho : o < n) (h1 : ∀ o' k, o' ≠ o → R' o' k = R o' k) (h2 : ∀ o' k, o' ≠ o → M' o' k = M o' k) (hE : cont G ad R' M' o = E) : (wsOf G ad n R M).set o (ad o, E) = wsOf G ad n R' M' := by
  apply List.ext_getElem?
  intro j
  by_cases hj : j = o
  · subst hj
    rw [List.getElem?_set_self (by unfold wsOf; simpa using ho), ws_get ho, hE]
  · rw [List.getElem?_set_ne (Ne.symm hj)]
    by_cases hn : j < n
    · rw [ws_get hn, ws_get hn, cont_eq (fun k => by rw [h1 j k hj]) (fun k => h2 j k hj)]
    · have e1 : (wsOf G ad n R M).length ≤ j := by unfold wsOf; simpa using hn
      have e2 : (wsOf G ad n R' M').length ≤ j := by unfold wsOf; simpa using hn
      rw [List.getElem?_eq_none e1, List.getElem?_eq_none e2]
theorem ws_push {G : GT} {ad ad' : Nat → Nat} {n : Nat} {R R' : RT} {M M' : MT} {E : va_E} {q : Nat} (hok : okM n R M) (ha : ∀ o, o < n → ad' o = ad o) (hq : ad' n = q) (h1 : ∀ o' k, o' < n → R' o' k = R o' k) (h2 : ∀ o' k, o' < n → M' o' k = M o' k) (hE : cont G ad' R' M' n = E) : wsOf G ad n R M ++ [(q, E)] = wsOf G ad' (n + 1) R' M' := by
  unfold wsOf
  rw [List.range_succ, List.map_append, List.map_singleton, hq, hE]
  congr 1
  apply List.map_congr_left
  intro o ho
  have ho := List.mem_range.mp ho
  rw [ha o ho, cont_eq (G := G) (ad := ad) (R := R) (M := M) (fun k => ?_) (fun k => h2 o k ho)]
  rw [h1 o k ho]
  cases hr : R o k with
  | none => rfl
  | some r => simp [ha r (hok.2 o ho k r hr)]
theorem vin {x : Int} {N : Nat} (hx : R32 x) (h0 : 0 ≤ x) (h1 : x < (N : Int)) : vp_in (Int32.ofInt x) N ∧ (Int32.ofInt x).toNatClampNeg = x.toNat := by
  have e : (Int32.ofInt x).toNatClampNeg = x.toNat := by
    show (Int32.ofInt x).toInt.toNat = x.toNat
    rw [t32 hx]
  refine ⟨fun h => ?_, e⟩
  rcases h with h | h
  · have : x < 0 := (l32 hx z32).mp h
    omega
  · rw [e] at h
    omega
theorem lmap_ag {n : Nat} {ad ad' : Nat → Nat} (h : ∀ o, o < n ∨ XO ≤ o → ad' o = ad o) {L : LT} (hL : ∀ q ∈ L, okV n q.2) : lmap ad' L = lmap ad L := by
  unfold lmap
  apply List.map_congr_left
  intro q hq
  rw [cv_ag h (hL q hq)]
theorem smap_ag {n : Nat} {ad ad' : Nat → Nat} (h : ∀ o, o < n ∨ XO ≤ o → ad' o = ad o) {st : List PV} (hL : ∀ q ∈ st, okV n q) : st.map (cv ad') = st.map (cv ad) := by
  apply List.map_congr_left
  intro q hq
  rw [cv_ag h (hL q hq)]
theorem scat (ad : Nat → Nat) (st : List PV) : ((st.map (cv ad)).map fun v => v.category).sum = (st.map cat).sum := by
  rw [List.map_map]
  congr 1
  apply List.map_congr_left
  intro v _
  exact cat_cv ad v
theorem okM_mu {n : Nat} {R : RT} {M : MT} {o k : Nat} {v : Int} (h : okM n R M) (h1 : (SH o).1 = 21 → R64 v) (h2 : (SH o).1 ≠ 21 → R32 v) : okM n R (mu M o k v) := by
  refine ⟨fun o' ho' k' => ?_, h.2⟩
  unfold mu
  by_cases hc : o' = o ∧ k' = k
  · rw [if_pos hc, hc.1]
    exact ⟨h1, h2⟩
  · rw [if_neg hc]
    exact h.1 o' ho' k'
section PMEM
variable {G : GT} {J : MD} {k z pc : Nat} {L : LT} {st : List PV} {n : Nat} {R : RT} {M : MT} {Q : QT}
theorem wp_geti {o ci N i : Nat} {C : String} {T : u_T} (hd : decode J.2.1 pc = .ok (.getfield i, 3)) (f : Nat) (hs : SH o = (ci, N)) (hc : CL[ci]? = some (C, T, N)) (ho : o < n) (hf : f < N) (hr : isRf ci f = false) (hk : Cond.fieldLink J.1.cls i (T f).1 (T f).2.1 (T f).2.2.1 ∈ TB)
    (kk : Wp G J k z (pc + 3) L (pI (M o f) :: st) n R M Q) : Wp G J k z pc L (pR o :: st) n R M Q := by

  intro p e s m args below meth c cx ad0 n0 ad H locs ls X hl ok
  obtain ⟨x1, x2, x3, x4, x5, x6, x7, x8⟩ := id X
  have he := ws_get (G := G) (ad := ad) (R := R) (M := M) ho
  rw [cont_ob hs (cl_lt hc)] at he
  refine va_get cx.1 cx.2.1 cx.2.2.2.2.2.2.2.1 (cl_ok ci _ _ _ hc).1 cx.2.2.2.2.1 cx.2.2.2.2.2.2.2.2.1 x6 o he hc f hf (cx.2.2.2.2.2.2.2.1 _ hk) (fun _ h => h) (v := .int (Int32.ofInt (M o f))) ?_ hd (kk p e s m args below meth c cx ad0 n0 ad H locs ls X hl (okS_push (okS_pop ok).2 ((x5.1 o ho f).2 (by rw [hs]; have := cl_lt hc; show ci ≠ 21; omega))))
  rw [fld_get ad R M ci o hf]
  simp [fldv, hr]
theorem wp_getr {o ci N i : Nat} {C : String} {T : u_T} (hd : decode J.2.1 pc = .ok (.getfield i, 3)) (f : Nat) (hs : SH o = (ci, N)) (hc : CL[ci]? = some (C, T, N)) (ho : o < n) (hf : f < N) (hr : isRf ci f = true) {r : Nat} (hv : R o f = some r) (hk : Cond.fieldLink J.1.cls i (T f).1 (T f).2.1 (T f).2.2.1 ∈ TB)
    (kk : Wp G J k z (pc + 3) L (pR r :: st) n R M Q) : Wp G J k z pc L (pR o :: st) n R M Q := by
  intro p e s m args below meth c cx ad0 n0 ad H locs ls X hl ok
  obtain ⟨x1, x2, x3, x4, x5, x6, x7, x8⟩ := id X
  have he := ws_get (G := G) (ad := ad) (R := R) (M := M) ho
  rw [cont_ob hs (cl_lt hc)] at he
  refine va_get cx.1 cx.2.1 cx.2.2.2.2.2.2.2.1 (cl_ok ci _ _ _ hc).1 cx.2.2.2.2.1 cx.2.2.2.2.2.2.2.2.1 x6 o he hc f hf (cx.2.2.2.2.2.2.2.1 _ hk) (fun _ h => h) (v := .ref (ad r)) ?_ hd (kk p e s m args below meth c cx ad0 n0 ad H locs ls X hl (okS_push (okS_pop ok).2 (Or.inl (x5.2 o ho f r hv))))
  rw [fld_get ad R M ci o hf]
  simp [fldv, hr, hv, va_rf]
/-- behind a write of a number -/
theorem Mx_mu {n0 : Nat} {ad0 ad : Nat → Nat} {s : State} {H H1 : Heap} {locs locs1 : List Loc} {o f : Nat} {v : Int} (X : Mx G n0 ad0 ad n R M s H locs) (h1 : (SH o).1 = 21 → R64 v) (h2 : (SH o).1 ≠ 21 → R32 v) (hP : va_P G.2.1 CL (wsOf G ad n R (mu M o f v)) H1) (hD : va_D (AB G) (wsOf G ad n R (mu M o f v))) (hS : va_S (AB G) s.heap H1 locs1) : Mx G n0 ad0 ad n R (mu M o f v) s H1 locs1 := by
  obtain ⟨x1, x2, x3, x4, x5, x6, x7, x8⟩ := X
  exact ⟨x1, x2, x3, x4, okM_mu x5 h1 h2, hP, hD, hS⟩
theorem wp_puti {o ci N i : Nat} {C : String} {T : u_T} {v : Int} (hd : decode J.2.1 pc = .ok (.putfield i, 3)) (f : Nat) (hs : SH o = (ci, N)) (hc : CL[ci]? = some (C, T, N)) (ho : o < n) (hf : f < N) (hr : fyc ci f = .int ∨ (fyc ci f = .boolean ∧ (v = 0 ∨ v = 1))) (hfin : (T f).2.2.2 = false) (hk : Cond.fieldLink J.1.cls i (T f).1 (T f).2.1 (T f).2.2.1 ∈ TB)
    (kk : Wp G J k z (pc + 3) L st n R (mu M o f v) Q) : Wp G J k z pc L (pI v :: pR o :: st) n R M Q := by
  intro p e s m args below meth c cx ad0 n0 ad H locs ls X hl ok
  obtain ⟨x1, x2, x3, x4, x5, x6, x7, x8⟩ := id X
  have ov : R32 v := (okS_pop ok).1
  have ok2 := (okS_pop (okS_pop ok).2).2
  have he := ws_get (G := G) (ad := ad) (R := R) (M := M) ho
  rw [cont_ob hs (cl_lt hc)] at he
  obtain ⟨c1, c2, c3⟩ := cl_ok ci _ _ _ hc
  have hrf : isRf ci f = false := by
    rcases hr with h | h
    · simp [isRf, h]
    · simp [isRf, h.1]
  have hn : narrow (fyc ci f) (.int (Int32.ofInt v)) = .int (Int32.ofInt v) := by
    rcases hr with h | ⟨h, h2⟩
    · rw [h]; rfl
    · rw [h]
      rcases h2 with rfl | rfl <;> rfl
  have hfit : fits (fyc ci f) (.int (Int32.ofInt v)) = true := by
    rcases hr with h | ⟨h, h2⟩
    · rw [h]; rfl
    · rw [h]
      rcases h2 with rfl | rfl <;> rfl
  have hE : cont G ad R (mu M o f v) o = .inr (ci, ((List.range N).map (fldv ad R M ci o)).set f (.int (Int32.ofInt v))) := by
    rw [cont_ob hs (cl_lt hc)]
    congr 2
    apply List.ext_getElem?
    intro j
    by_cases hj : j = f
    · subst hj
      rw [List.getElem?_set_self (by simpa using hf), fld_get _ _ _ _ _ hf]
      simp [fldv, hrf, mu]
    · rw [List.getElem?_set_ne (Ne.symm hj)]
      by_cases hjN : j < N
      · rw [fld_get _ _ _ _ _ hjN, fld_get _ _ _ _ _ hjN]
        simp [fldv, mu, hj]
      · rw [List.getElem?_eq_none (by simpa using hjN), List.getElem?_eq_none (by simpa using hjN)]
  refine va_put cx.1 cx.2.1 cx.2.2.2.2.2.2.2.1 c1 (fyc ci) c3 c2 cx.2.2.2.2.1 cx.2.2.2.2.2.2.2.2.1 x6 x7 x8 o he hc f hf (cx.2.2.2.2.2.2.2.1 _ hk) (fun _ h => h) hfin (c3 f hf) (v := .int (Int32.ofInt v)) hn hfit (by simpa using hf) hd (fun H1 locs1 hP hD hS => ?_)
  rw [ws_set ho (fun _ _ _ => rfl) (fun o' k' h => by simp [mu, h]) hE] at hP hD
  have n21 : (SH o).1 ≠ 21 := by rw [hs]; have := cl_lt hc; show ci ≠ 21; omega
  exact kk p e s m args below meth c cx ad0 n0 ad H1 locs1 ls (Mx_mu X (fun h => absurd h n21) (fun _ => ov) hP hD hS) hl ok2
theorem wp_putr {o ci N i r : Nat} {C : String} {T : u_T} (hd : decode J.2.1 pc = .ok (.putfield i, 3)) (f : Nat) (hs : SH o = (ci, N)) (hc : CL[ci]? = some (C, T, N)) (ho : o < n) (hrn : r < n) (hf : f < N) (hr : isRf ci f = true) (hft : ∀ a : Nat, narrow (fyc ci f) (.ref a) = .ref a ∧ fits (fyc ci f) (.ref a) = true) (hfin : (T f).2.2.2 = true) (hin : J.1.name = "<init>") (hdc : (T f).1 = J.1.cls) (hk : Cond.fieldLink J.1.cls i (T f).1 (T f).2.1 (T f).2.2.1 ∈ TB)
    (kk : Wp G J k z (pc + 3) L st n (ru R o f (some r)) M Q) : Wp G J k z pc L (pR r :: pR o :: st) n R M Q := by
  intro p e s m args below meth c cx ad0 n0 ad H locs ls X hl ok
  obtain ⟨x1, x2, x3, x4, x5, x6, x7, x8⟩ := id X
  have ok2 := (okS_pop (okS_pop ok).2).2
  have he := ws_get (G := G) (ad := ad) (R := R) (M := M) ho
  rw [cont_ob hs (cl_lt hc)] at he
  obtain ⟨c1, c2, c3⟩ := cl_ok ci _ _ _ hc
  have hE : cont G ad (ru R o f (some r)) M o = .inr (ci, ((List.range N).map (fldv ad R M ci o)).set f (.ref (ad r))) := by
    rw [cont_ob hs (cl_lt hc)]
    congr 2
    apply List.ext_getElem?
    intro j
    by_cases hj : j = f
    · subst hj
      rw [List.getElem?_set_self (by simpa using hf), fld_get _ _ _ _ _ hf]
      simp [fldv, hr, ru, va_rf]
    · rw [List.getElem?_set_ne (Ne.symm hj)]
      by_cases hjN : j < N
      · rw [fld_get _ _ _ _ _ hjN, fld_get _ _ _ _ _ hjN]
        simp [fldv, ru, hj]
      · rw [List.getElem?_eq_none (by simpa using hjN), List.getElem?_eq_none (by simpa using hjN)]
  refine va_putF cx.1 cx.2.1 cx.2.2.2.2.2.2.2.1 c1 (fyc ci) c3 c2 cx.2.2.2.2.1 cx.2.2.2.2.2.2.2.2.1 x6 x7 x8 o he hc f hf (cx.2.2.2.2.2.2.2.1 _ hk) (fun _ h => h) hfin (cx.2.2.2.2.2.2.1.trans hin) hdc (c3 f hf) (v := .ref (ad r)) (hft _).1 (hft _).2 (by simpa using hf) hd (fun H1 locs1 hP hD hS => ?_)
  rw [ws_set ho (fun o' k' h => by simp [ru, h]) (fun _ _ _ => rfl) hE] at hP hD
  refine kk p e s m args below meth c cx ad0 n0 ad H1 locs1 ls ⟨x1, x2, x3, x4, ⟨x5.1, fun o' ho' k' r' h => ?_⟩, hP, hD, hS⟩ hl ok2
  unfold ru at h
  by_cases hc2 : o' = o ∧ k' = f
  · rw [if_pos hc2] at h
    cases h
    exact hrn
  · rw [if_neg hc2] at h
    exact x5.2 o' ho' k' r' h
theorem wp_iald {o N : Nat} {i : Int} (hd : decode J.2.1 pc = .ok (.iaload, 1)) (hs : SH o = (20, N)) (ho : o < n) (h0 : 0 ≤ i) (h1 : i < (N : Int)) (kk : Wp G J k z (pc + 1) L (pI (M o i.toNat) :: st) n R M Q) : Wp G J k z pc L (pI i :: pR o :: st) n R M Q := by
  intro p e s m args below meth c cx ad0 n0 ad H locs ls X hl ok
  obtain ⟨x1, x2, x3, x4, x5, x6, x7, x8⟩ := id X
  have he := ws_get (G := G) (ad := ad) (R := R) (M := M) ho
  rw [cont_i hs] at he
  obtain ⟨g1, g2⟩ := vin (okS_pop ok).1 h0 h1
  refine va_iald cx.1 cx.2.1 cx.2.2.2.2.2.2.2.2.1 x6 o 0 he rfl g1 hd ?_
  rw [g2]
  exact kk p e s m args below meth c cx ad0 n0 ad H locs ls X hl (okS_push (okS_pop (okS_pop ok).2).2 ((x5.1 o ho _).2 (by rw [hs]; exact (by decide : (20 : Nat) ≠ 21))))
theorem wp_lald {o N : Nat} {i : Int} (hd : decode J.2.1 pc = .ok (.laload, 1)) (hs : SH o = (21, N)) (ho : o < n) (h0 : 0 ≤ i) (h1 : i < (N : Int)) (kk : Wp G J k z (pc + 1) L (pL (M o i.toNat) :: st) n R M Q) : Wp G J k z pc L (pI i :: pR o :: st) n R M Q := by
  intro p e s m args below meth c cx ad0 n0 ad H locs ls X hl ok
  obtain ⟨x1, x2, x3, x4, x5, x6, x7, x8⟩ := id X
  have he := ws_get (G := G) (ad := ad) (R := R) (M := M) ho
  rw [cont_l hs] at he
  obtain ⟨g1, g2⟩ := vin (okS_pop ok).1 h0 h1
  refine va_lald cx.1 cx.2.1 cx.2.2.2.2.2.2.2.2.1 x6 o 1 he rfl g1 hd ?_
  rw [g2]
  exact kk p e s m args below meth c cx ad0 n0 ad H locs ls X hl (okS_push (okS_pop (okS_pop ok).2).2 ((x5.1 o ho _).1 (by rw [hs])))
theorem wp_aald {o N t r : Nat} {C : String} {i : Int} (hd : decode J.2.1 pc = .ok (.aaload, 1)) (hs : SH o = (22 + t, N)) (ht : (TYS G)[2 + t]? = some (G.2.2.1 (2 + t), .object C)) (ho : o < n) (h0 : 0 ≤ i) (h1 : i < (N : Int)) (hv : R o i.toNat = some r) (kk : Wp G J k z (pc + 1) L (pR r :: st) n R M Q) : Wp G J k z pc L (pI i :: pR o :: st) n R M Q := by
  intro p e s m args below meth c cx ad0 n0 ad H locs ls X hl ok
  obtain ⟨x1, x2, x3, x4, x5, x6, x7, x8⟩ := id X
  have he := ws_get (G := G) (ad := ad) (R := R) (M := M) ho
  rw [cont_r hs] at he
  obtain ⟨g1, g2⟩ := vin (okS_pop ok).1 h0 h1
  refine va_aldq cx.1 cx.2.1 cx.2.2.2.2.2.2.2.2.1 x6 o (2 + t) he ht g1 hd ?_
  rw [g2, hv]
  exact kk p e s m args below meth c cx ad0 n0 ad H locs ls X hl (okS_push (okS_pop (okS_pop ok).2).2 (Or.inl (x5.2 o ho _ _ hv)))
theorem wp_iast {o N : Nat} {i v : Int} (hd : decode J.2.1 pc = .ok (.iastore, 1)) (hs : SH o = (20, N)) (ho : o < n) (h0 : 0 ≤ i) (h1 : i < (N : Int)) (kk : Wp G J k z (pc + 1) L st n R (mu M o i.toNat v) Q) : Wp G J k z pc L (pI v :: pI i :: pR o :: st) n R M Q := by
  intro p e s m args below meth c cx ad0 n0 ad H locs ls X hl ok
  obtain ⟨x1, x2, x3, x4, x5, x6, x7, x8⟩ := id X
  have he := ws_get (G := G) (ad := ad) (R := R) (M := M) ho
  rw [cont_i hs] at he
  have ov : R32 v := (okS_pop ok).1
  obtain ⟨g1, g2⟩ := vin (okS_pop (okS_pop ok).2).1 h0 h1
  refine va_iast cx.1 cx.2.1 cx.2.2.2.2.2.2.2.2.1 x6 x7 x8 o 0 he rfl g1 hd (fun H1 locs1 hP hD hS => ?_)
  have hE : cont G ad R (mu M o i.toNat v) o = .inl (G.2.2.1 0, N, .inl (upd (fun k => Int32.ofInt (M o k)) (Int32.ofInt i).toNatClampNeg (Int32.ofInt v))) := by
    rw [cont_i hs, g2]
    congr 4
    funext j
    by_cases hj : j = i.toNat <;> simp [mu, upd, hj]
  rw [ws_set ho (fun _ _ _ => rfl) (fun o' k' h => by simp [mu, h]) hE] at hP hD
  exact kk p e s m args below meth c cx ad0 n0 ad H1 locs1 ls (Mx_mu X (fun h => absurd h (by rw [hs]; exact (by decide : ¬ (20 : Nat) = 21))) (fun _ => ov) hP hD hS) hl (okS_pop (okS_pop (okS_pop ok).2).2).2
theorem wp_last {o N : Nat} {i v : Int} (hd : decode J.2.1 pc = .ok (.lastore, 1)) (hs : SH o = (21, N)) (ho : o < n) (h0 : 0 ≤ i) (h1 : i < (N : Int)) (kk : Wp G J k z (pc + 1) L st n R (mu M o i.toNat v) Q) : Wp G J k z pc L (pL v :: pI i :: pR o :: st) n R M Q := by
  intro p e s m args below meth c cx ad0 n0 ad H locs ls X hl ok
  obtain ⟨x1, x2, x3, x4, x5, x6, x7, x8⟩ := id X
  have he := ws_get (G := G) (ad := ad) (R := R) (M := M) ho
  rw [cont_l hs] at he
  have ov : R64 v := (okS_pop ok).1
  obtain ⟨g1, g2⟩ := vin (okS_pop (okS_pop ok).2).1 h0 h1
  refine va_last cx.1 cx.2.1 cx.2.2.2.2.2.2.2.2.1 x6 x7 x8 o 1 he rfl g1 hd (fun H1 locs1 hP hD hS => ?_)
  have hE : cont G ad R (mu M o i.toNat v) o = .inl (G.2.2.1 1, N, .inr (.inl (vp_updL (fun k => Int64.ofInt (M o k)) (Int32.ofInt i).toNatClampNeg (Int64.ofInt v)))) := by
    rw [cont_l hs, g2]
    congr 5
    funext j
    by_cases hj : j = i.toNat <;> simp [mu, vp_updL, hj]
  rw [ws_set ho (fun _ _ _ => rfl) (fun o' k' h => by simp [mu, h]) hE] at hP hD
  exact kk p e s m args below meth c cx ad0 n0 ad H1 locs1 ls (Mx_mu X (fun _ => ov) (fun h => absurd (by rw [hs]) h) hP hD hS) hl (okS_pop (okS_pop (okS_pop ok).2).2).2
theorem wp_aast {o N t r ci Nr : Nat} {C : String} {T : u_T} {i : Int} (hd : decode J.2.1 pc = .ok (.aastore, 1)) (hs : SH o = (22 + t, N)) (ht : (TYS G)[2 + t]? = some (G.2.2.1 (2 + t), .object C)) (hrs : SH r = (ci, Nr)) (hc : CL[ci]? = some (C, T, Nr)) (ho : o < n) (hrn : r < n) (h0 : 0 ≤ i) (h1 : i < (N : Int)) (kk : Wp G J k z (pc + 1) L st n (ru R o i.toNat (some r)) M Q) : Wp G J k z pc L (pR r :: pI i :: pR o :: st) n R M Q := by
  intro p e s m args below meth c cx ad0 n0 ad H locs ls X hl ok
  obtain ⟨x1, x2, x3, x4, x5, x6, x7, x8⟩ := id X
  have he := ws_get (G := G) (ad := ad) (R := R) (M := M) ho
  rw [cont_r hs] at he
  have hv := ws_get (G := G) (ad := ad) (R := R) (M := M) hrn
  rw [cont_ob hrs (cl_lt hc)] at hv
  obtain ⟨g1, g2⟩ := vin (okS_pop (okS_pop ok).2).1 h0 h1
  refine va_astq cx.1 cx.2.1 cx.2.2.2.2.2.2.2.2.1 x6 x7 x8 o (2 + t) r ci he (r := (C, T, Nr)) ht hv hc g1 hd (fun H1 locs1 hP hD hS => ?_)
  have hE : cont G ad (ru R o i.toNat (some r)) M o = .inl (G.2.2.1 (2 + t), N, .inr (.inr (.inr (.inr (va_up (fun k => (R o k).map ad) (Int32.ofInt i).toNatClampNeg (some (ad r))))))) := by
    rw [cont_r hs, g2]
    congr 7
    funext j
    by_cases hj : j = i.toNat <;> simp [ru, va_up, hj]
  rw [ws_set ho (fun o' k' h => by simp [ru, h]) (fun _ _ _ => rfl) hE] at hP hD
  refine kk p e s m args below meth c cx ad0 n0 ad H1 locs1 ls ⟨x1, x2, x3, x4, ⟨x5.1, fun o' ho' k' r' h => ?_⟩, hP, hD, hS⟩ hl (okS_pop (okS_pop (okS_pop ok).2).2).2
  unfold ru at h
  by_cases hc2 : o' = o ∧ k' = i.toNat
  · rw [if_pos hc2] at h
    cases h
    exact hrn
  · rw [if_neg hc2] at h
    exact x5.2 o' ho' k' r' h
theorem wp_alen {o N : Nat} (hd : decode J.2.1 pc = .ok (.arraylength, 1)) (hs : SH o = (20, N)) (ho : o < n) (hN : R32 (N : Int)) (kk : Wp G J k z (pc + 1) L (pI (N : Int) :: st) n R M Q) : Wp G J k z pc L (pR o :: st) n R M Q := by
  intro p e s m args below meth c cx ad0 n0 ad H locs ls X hl ok
  obtain ⟨x1, x2, x3, x4, x5, x6, x7, x8⟩ := id X
  have he := ws_get (G := G) (ad := ad) (R := R) (M := M) ho
  rw [cont_i hs] at he
  exact va_alen cx.1 cx.2.1 cx.2.2.2.2.2.2.2.2.1 x6 o 0 he rfl rfl hd (kk p e s m args below meth c cx ad0 n0 ad H locs ls X hl (okS_push (okS_pop ok).2 hN))
theorem wp_sld {i : Int} (hd : decode J.2.1 pc = .ok (.iaload, 1)) (h0 : 0 ≤ i) (h1 : i < (G.2.2.2.2.2.1 : Int)) (kk : Wp G J k z (pc + 1) L (pI (G.2.2.2.2.2.2 i.toNat).toInt :: st) n R M Q) : Wp G J k z pc L (pI i :: pR (XO + 1) :: st) n R M Q := by
  intro p e s m args below meth c cx ad0 n0 ad H locs ls X hl ok
  obtain ⟨x1, x2, x3, x4, x5, x6, x7, x8⟩ := id X
  obtain ⟨g1, g2⟩ := vin (okS_pop ok).1 h0 h1
  obtain ⟨⟨e1, e2⟩, -⟩ := cx.2.2.2.2.2.2.2.2.2.1
  show W p G.1 e (rmOf J) s m args below meth c H locs k z _ (F0 m pc ls (.int (Int32.ofInt i) :: .ref (ad (XO + 1)) :: st.map (cv ad)))
  rw [x4 1]
  refine va_sld cx.1 cx.2.1 e1 (Nat.lt_of_lt_of_le e2 cx.2.2.2.2.2.2.2.2.2.2) (Nat.not_le.mpr e2) x8 g1 hd ?_
  rw [g2, ← o32 (G.2.2.2.2.2.2 i.toNat)]
  exact kk p e s m args below meth c cx ad0 n0 ad H locs ls X hl (okS_push (okS_pop (okS_pop ok).2).2 (r32 _))
theorem wp_slen (hd : decode J.2.1 pc = .ok (.arraylength, 1)) (hL : R32 (G.2.2.2.2.2.1 : Int)) (kk : Wp G J k z (pc + 1) L (pI (G.2.2.2.2.2.1 : Int) :: st) n R M Q) : Wp G J k z pc L (pR (XO + 1) :: st) n R M Q := by
  intro p e s m args below meth c cx ad0 n0 ad H locs ls X hl ok
  obtain ⟨x1, x2, x3, x4, x5, x6, x7, x8⟩ := id X
  obtain ⟨⟨e1, e2⟩, -⟩ := cx.2.2.2.2.2.2.2.2.2.1
  show W p G.1 e (rmOf J) s m args below meth c H locs k z _ (F0 m pc ls (.ref (ad (XO + 1)) :: st.map (cv ad)))
  rw [x4 1]
  exact va_slen cx.1 cx.2.1 e1 (Nat.lt_of_lt_of_le e2 cx.2.2.2.2.2.2.2.2.2.2) (Nat.not_le.mpr e2) x8 hd (kk p e s m args below meth c cx ad0 n0 ad H locs ls X hl (okS_push (okS_pop ok).2 hL))

end PMEM
end
section
theorem lmap_ent (ad : Nat → Nat) : ∀ (vs : List PV) (i : Nat), lmap ad (entL i vs) = lv_args i (vs.map (cv ad))
  | [], _ => rfl
  | v :: vs, i => by
    show (i, cv ad v) :: lmap ad (entL _ vs) = (i, cv ad v) :: lv_args _ _
    rw [lmap_ent ad vs, cat_cv]
theorem ent_ok {n : Nat} : ∀ (vs : List PV) (i : Nat), (∀ v ∈ vs, okV n v) → ∀ q ∈ entL i vs, okV n q.2
  | [], _, _, q, h => absurd h List.not_mem_nil
  | v :: vs, i, h, q, hq => by
    rcases List.mem_cons.mp hq with rfl | hq
    · exact h v List.mem_cons_self
    · exact ent_ok vs _ (fun x hx => h x (List.mem_cons_of_mem _ hx)) q hq
theorem sl_len (ad : Nat → Nat) : ∀ (vs : List PV), (lg_sl (vs.map (cv ad))).length = (vs.map cat).sum
  | [] => rfl
  | v :: vs => by
    have ih := sl_len ad vs
    unfold lg_sl at ih ⊢
    rw [List.map_cons, List.flatMap_cons, List.length_append, ih, List.map_cons, List.sum_cons]
    congr 1
    rw [cat_cv]
    rcases v with x | x | _ | o <;> rfl
/-- what is known of a method that is called -/
def JB (J : MD) (na : Nat) : Prop := plainName J.1.cls = true ∧ (J.1.cls ≠ "java/lang/invoke/MethodHandle" ∧ J.1.cls ≠ "java/lang/invoke/VarHandle" ∧ (parseMethodDescriptor J.1.desc).map (fun d => d.parameters.length) = some na) ∧ Cond.code J.1 J.2.1 J.2.2.1 J.2.2.2.1 ∈ TB ∧ Cond.initialized J.1.cls ∈ TB
def JV (J : MD) (na : Nat) : Prop := JB J na ∧ Cond.instanceMethod J.1 ∈ TB ∧ Cond.selects J.1.cls J.1 J.1 ∈ TB
def JS (J : MD) (na : Nat) : Prop := JB J na ∧ Cond.static J.1 ∈ TB
def JI (J : MD) (na : Nat) : Prop := JB J na ∧ Cond.instanceMethod J.1 ∈ TB ∧ J.1.name = "<init>"
/-- the state that a call finds -/
def PreW (G : GT) (ad : Nat → Nat) (n : Nat) (R : RT) (M : MT) (U : State) : Prop := va_P G.2.1 CL (wsOf G ad n R M) U.heap ∧ va_D (AB G) (wsOf G ad n R M) ∧ va_K G.2.1 CL (TYS G) U ∧ Ext G U ∧ G.2.2.2.2.1 ≤ U.heap.size
theorem PreW_blind {G : GT} {ad : Nat → Nat} {n : Nat} {R : RT} {M : MT} (as : List Value) : FrameBlind (va_Pc as (PreW G ad n R M)) := by
  intro a U g mk q
  obtain ⟨q0, q1, q2, q3, q4, q5⟩ := q
  exact ⟨q0, q1, q2, va_K.moved (u := U) (U := U.calling g mk a) (Vm.Alike.refl U.vm) q3, Ext_same (u := U) (U := U.calling g mk a) rfl rfl q4, q5⟩
theorem Met_of {G : GT} {J : MD} {na : Nat} (hJ : JB J na) {as : List PV} {n : Nat} {R : RT} {M : MT} {Q : QT} {ad : Nat → Nat} (hlen : (as.map cat).sum ≤ J.2.2.1) (h : Cl G J as n R M Q) (hn : n ≤ XO) (hx : ∀ i, ad (XO + i) = G.2.2.2.1 i) (hok : okM n R M) (ha : ∀ v ∈ as, okV n v) :
    Met G.1 J.1 (Cond.code J.1 J.2.1 J.2.2.1 J.2.2.2.1 :: TB) (rmOf J) (va_Pc (as.map (cv ad)) (PreW G ad n R M)) (QP G ad n Q) J.2.2.2.2.2.1 J.2.2.2.2.2.2.1 (AB G) := by
  refine Met.ofW (cc := J.2.1) (maxL := J.2.2.1) (ret := J.2.2.2.1) hJ.1 rfl ?_
  intro p e s m args below meth c s₁ B hml hv
  obtain ⟨rfl, hP, hD, hK, hE, hsz⟩ := hv
  have hts := atoms_spec (ws := Cond.code J.1 J.2.1 J.2.2.1 J.2.2.2.1 :: TB) B.pre
  have hl := lv_entry (as.map (cv ad)) (n := J.2.2.1) (by rw [sl_len]; exact hlen)
  rw [lg_entry_eq]
  generalize (lg_sl (as.map (cv ad)) ++ List.replicate (J.2.2.1 - (lg_sl (as.map (cv ad))).length) Slot.unset).toArray = ls at hl ⊢
  rw [← lmap_ent] at hl
  exact h p e s m _ below meth c ⟨B.exec, B.bytes, B.returns, hml, findClass_of_methodNamed B.named, B.notSynchronized, (name_of_methodNamed B.named B.method).1, fun w hw => hts w (List.mem_cons_of_mem _ hw), hK, hE, hsz⟩ ad n ad s.heap [] ls ⟨Nat.le_refl _, hn, fun _ _ => rfl, hx, hok, hP, hD, va_S.rf⟩ hl ⟨ent_ok as 0 ha, fun v hv => absurd hv List.not_mem_nil⟩
section PCALL
variable {G : GT} {J : MD} {k z pc : Nat} {L : LT} {st : List PV} {n : Nat} {R : RT} {M : MT} {Q : QT}
/-- the room of a call -/
def rmOk (J J' : MD) (k z : Nat) (st : List PV) : Bool := Nat.ble (J'.2.2.2.2.1 + 1) J.2.2.2.2.1 && Nat.ble (8 + (J'.2.2.1 + 11) + J'.2.2.2.2.2.2.2) J.2.2.2.2.2.2.2 && Nat.ble (k + J'.2.2.2.2.2.1) J.2.2.2.2.2.1 && Nat.ble (z + J'.2.2.2.2.2.2.1) J.2.2.2.2.2.2.1 && Nat.ble (st.map cat).sum 8
theorem rmOk_of {J J' : MD} {k z : Nat} {st : List PV} (h : rmOk J J' k z st = true) : ((rmOf J').frames + 1 ≤ (rmOf J).frames ∧ 8 + (J'.2.2.1 + 11) + (rmOf J').locals ≤ (rmOf J).locals) ∧ (k + J'.2.2.2.2.2.1 ≤ (rmOf J).cells ∧ z + J'.2.2.2.2.2.2.1 ≤ (rmOf J).slots) ∧ (st.map cat).sum ≤ 8 := by
  simp only [rmOk, Bool.and_eq_true, Nat.ble_eq] at h
  obtain ⟨⟨⟨⟨h1, h2⟩, h3⟩, h4⟩, h5⟩ := h
  exact ⟨⟨h1, h2⟩, ⟨h3, h4⟩, h5⟩
theorem wp_back {J' : MD} {as : List PV} {p : Program} {e : Env} {s : State} {m : MethodId} {args : Array Value} {below : List Frame} {meth : Method} {c : Code} (cx : Cx G J p s m args meth c) {ad0 : Nat → Nat} {n0 : Nat} {ad : Nat → Nat} {H : Heap} {locs : List Loc} {ls : Array Slot} (X : Mx G n0 ad0 ad n R M s H locs) (hl : lv_has ls J.2.2.1 (lmap ad L)) (ok : okS n L st) {stk : List Value} {a : Array Value} {mc ms : Nat}
    (hr : va_Run p G.1 e (rmOf J) s m args below meth c H locs k z mc ms (F0 m pc ls stk) (st.map (cv ad)) (QP G ad n (fun r n' R' M' => Wp G J (k + mc) (z + ms) (pc + 3) L (r.toList ++ st) n' R' M' Q) a) (AB G)) :
    W p G.1 e (rmOf J) s m args below meth c H locs k z (MQ below (QP G ad0 n0 Q) args s J.2.2.2.2.2.1 J.2.2.2.2.2.2.1 (AB G)) (F0 m pc ls stk) := by
  obtain ⟨x1, x2, x3, x4, x5, x6, x7, x8⟩ := id X
  intro T hT Y
  obtain ⟨v, st₀, t, T', Lc, h0, Y', hLc, e1, e2, ⟨⟨r, ad', n', R', M', c1, c2, c3, c4, c5, c6, c7, c8, c9⟩, hF1, hF2⟩, go⟩ := hr T hT Y
  cases c1
  have ag : ∀ o, o < n ∨ XO ≤ o → ad' o = ad o := c6
  have hS : va_S (AB G) s.heap T'.heap (locs ++ Lc) := by
    rw [h0] at hF1 hF2
    refine ⟨Nat.le_trans x8.1 (by rw [e1]; exact hF1), fun q h1 h2 => ?_, fun q hq => ?_⟩
    · rw [e1, hF2 q (Nat.lt_of_lt_of_le h1 x8.1) h2]
      exact x8.2.1 q h1 h2
    · rcases List.mem_append.mp hq with h | h
      · exact x8.2.2 q h
      · exact hLc q h
  have hl' : lv_has ls J.2.2.1 (lmap ad' L) := by rw [lmap_ag ag ok.1]; exact hl
  have g1 : ∀ o, o < n0 ∨ XO ≤ o → ad' o = ad0 o := fun o ho => by
    rw [← x3 o ho]
    apply ag
    rcases ho with h | h
    · exact Or.inl (by omega)
    · exact Or.inr h
  have g2 : okS n' L (r.toList ++ st) := by
    refine ⟨fun q hq => okV_mono c4 (ok.1 q hq), fun v hv => ?_⟩
    rcases List.mem_append.mp hv with h | h
    · cases r with
      | none => exact absurd h List.not_mem_nil
      | some r0 =>
        have e3 : v = r0 := by simpa using h
        rw [e3]
        exact c3 r0 rfl
    · exact okV_mono c4 (ok.2 v h)
  have hlast := c2 p e s m args below meth c cx ad0 n0 ad' T'.heap (locs ++ Lc) ls ⟨Nat.le_trans x1 c4, c5, g1, fun i => (ag _ (Or.inr (by omega))).trans (x4 i), c7, by rw [e1]; exact c8, c9, hS⟩ hl' g2 T' rfl Y'
  obtain ⟨t2, a1, b1⟩ := hlast
  refine ⟨t2, go t2 ?_, b1⟩
  have hfe : (r.toList ++ st).map (cv ad') = (r.map (cv ad')).toList ++ st.map (cv ad) := by
    rw [List.map_append, smap_ag ag ok.2]
    cases r <;> rfl
  rw [hfe] at a1
  exact a1
theorem PreW_at {p : Program} {s : State} {m : MethodId} {args : Array Value} {meth : Method} {c : Code} (cx : Cx G J p s m args meth c) {ad0 : Nat → Nat} {n0 : Nat} {ad : Nat → Nat} {H : Heap} {locs : List Loc} (X : Mx G n0 ad0 ad n R M s H locs) (U : State) (hU : U.heap = H) (hW : s.WarmedH U.vm) : PreW G ad n R M U := by
  obtain ⟨x1, x2, x3, x4, x5, x6, x7, x8⟩ := X
  have hsz := cx.2.2.2.2.2.2.2.2.2.2
  refine ⟨by rw [hU]; exact x6, x7, va_K.moved hW.alike cx.2.2.2.2.2.2.2.2.1, Ext_warm hW (fun q hq => ?_) cx.2.2.2.2.2.2.2.2.2.1, by rw [hU]; exact Nat.le_trans hsz x8.1⟩
  rw [hU]
  exact x8.2.1 q (Nat.lt_of_lt_of_le hq hsz) (Nat.not_le.mpr hq)
theorem recv_at {s : State} {H : Heap} {ad : Nat → Nat} {o ci N : Nat} {C : String} {T : u_T} (hK : va_K G.2.1 CL (TYS G) s) (hP : va_P G.2.1 CL (wsOf G ad n R M) H) (hs : SH o = (ci, N)) (hc : CL[ci]? = some (C, T, N)) (ho : o < n) : ∃ cell : Cell, H[ad o]? = some cell ∧ cell.vm.isStatics = false ∧ s.vm.findClass C = some cell.cls := by
  have he := ws_get (G := G) (ad := ad) (R := R) (M := M) ho
  rw [cont_ob hs (cl_lt hc)] at he
  exact va_recv hK hP hc he
theorem gin {J' : MD} {na : Nat} (h : JB J' na) : GoodIn TB (Cond.code J'.1 J'.2.1 J'.2.2.1 J'.2.2.2.1 :: TB) := fun w hw => by
  rcases List.mem_cons.mp hw with rfl | hw
  · exact tb_goodIn _ h.2.2.1
  · exact tb_goodIn w hw
theorem wp_callV {J' : MD} {stk : List PV} (as : List PV) (o : Nat) {i ci N : Nat} {T : u_T} (hd : decode J.2.1 pc = .ok (.invokevirtual i, 3)) (hJ : JV J' as.length) (hlk : Cond.methodLink J.1.cls i J'.1 ∈ TB) (hst : stk = as.reverse ++ pR o :: st) (hs : SH o = (ci, N)) (hc : CL[ci]? = some (J'.1.cls, T, N)) (ho : o < n) (hlen : ((pR o :: as).map cat).sum ≤ J'.2.2.1) (hrm : rmOk J J' k z st = true)
    (kk : Cl G J' (pR o :: as) n R M (fun r n' R' M' => Wp G J (k + J'.2.2.2.2.2.1) (z + J'.2.2.2.2.2.2.1) (pc + 3) L (r.toList ++ st) n' R' M' Q)) : Wp G J k z pc L stk n R M Q := by
  subst hst
  intro p e s m args below meth c cx ad0 n0 ad H locs ls X hl ok
  obtain ⟨x1, x2, x3, x4, x5, x6, x7, x8⟩ := id X
  obtain ⟨r1, r2, r3⟩ := rmOk_of hrm
  have ok1 : ∀ v ∈ pR o :: as, okV n v := fun v hv => ok.2 v (by
    rcases List.mem_cons.mp hv with rfl | hv
    · exact List.mem_append_right _ List.mem_cons_self
    · exact List.mem_append_left _ (List.mem_reverse.mpr hv))
  have ok2 : okS n L st := ⟨ok.1, fun v hv => ok.2 v (List.mem_append_right _ (List.mem_cons_of_mem _ hv))⟩
  have hM := Met_of (ad := ad) hJ.1 hlen kk x2 x4 x5 ok1
  have ts := cx.2.2.2.2.2.2.2.1
  refine wp_back (J' := J') (as := as) cx X hl ok2 (va_runV (As := as.map (cv ad)) (rest := st.map (cv ad)) (b := ad o) ⟨cx.1, cx.2.1, cx.2.2.2.1, cx.2.2.2.2.1, ts⟩ hM ⟨callB_of as.length ts (gin hJ.1) rfl rfl rfl (ts _ hJ.1.2.2.2) (ts _ hlk) hJ.1.2.1 r1, ts _ hJ.2.1, ts _ hJ.2.2⟩ ⟨PreW_blind _, recv_at cx.2.2.2.2.2.2.2.2.1 x6 hs hc ho, fun U hU hW => ⟨rfl, PreW_at cx X U hU hW⟩⟩ rfl (by simp) hl.1 ?_ (lv_room (by rw [scat]; exact r3)) hd r2)
  simp [cv, va_rf]
theorem wp_callVS {J' : MD} {stk : List PV} (as : List PV) {i : Nat} (hd : decode J.2.1 pc = .ok (.invokevirtual i, 3)) (hJ : JV J' as.length) (hcl : J'.1.cls = "java/lang/String") (hlk : Cond.methodLink J.1.cls i J'.1 ∈ TB) (hst : stk = as.reverse ++ pR 1000 :: st) (hlen : ((pR 1000 :: as).map cat).sum ≤ J'.2.2.1) (hrm : rmOk J J' k z st = true)
    (kk : Cl G J' (pR 1000 :: as) n R M (fun r n' R' M' => Wp G J (k + J'.2.2.2.2.2.1) (z + J'.2.2.2.2.2.2.1) (pc + 3) L (r.toList ++ st) n' R' M' Q)) : Wp G J k z pc L stk n R M Q := by
  subst hst
  intro p e s m args below meth c cx ad0 n0 ad H locs ls X hl ok
  obtain ⟨x1, x2, x3, x4, x5, x6, x7, x8⟩ := id X
  obtain ⟨r1, r2, r3⟩ := rmOk_of hrm
  have ok1 : ∀ v ∈ pR 1000 :: as, okV n v := fun v hv => ok.2 v (by
    rcases List.mem_cons.mp hv with rfl | hv
    · exact List.mem_append_right _ List.mem_cons_self
    · exact List.mem_append_left _ (List.mem_reverse.mpr hv))
  have ok2 : okS n L st := ⟨ok.1, fun v hv => ok.2 v (List.mem_append_right _ (List.mem_cons_of_mem _ hv))⟩
  have hM := Met_of (ad := ad) hJ.1 hlen kk x2 x4 x5 ok1
  have ts := cx.2.2.2.2.2.2.2.1
  have ha : ad 1000 = G.2.2.2.1 0 := x4 0
  have hrc := vk_recv (i := 0) cx.2.2.2.2.2.2.2.2.2.1.2.2.2.1.1 (by decide) x8
  refine wp_back (J' := J') (as := as) cx X hl ok2 (va_runV (As := as.map (cv ad)) (rest := st.map (cv ad)) (b := ad 1000) ⟨cx.1, cx.2.1, cx.2.2.2.1, cx.2.2.2.2.1, ts⟩ hM ⟨callB_of as.length ts (gin hJ.1) rfl rfl rfl (ts _ hJ.1.2.2.2) (ts _ hlk) hJ.1.2.1 r1, ts _ hJ.2.1, ts _ hJ.2.2⟩ ⟨PreW_blind _, by rw [ha, hcl]; exact hrc, fun U hU hW => ⟨rfl, PreW_at cx X U hU hW⟩⟩ rfl (by simp) hl.1 ?_ (lv_room (by rw [scat]; exact r3)) hd r2)
  simp [cv, va_rf]
theorem wp_callS {J' : MD} {stk : List PV} (as : List PV) {i : Nat} (hd : decode J.2.1 pc = .ok (.invokestatic i, 3)) (hJ : JS J' as.length) (hlk : Cond.methodLink J.1.cls i J'.1 ∈ TB) (hst : stk = as.reverse ++ st) (hlen : (as.map cat).sum ≤ J'.2.2.1) (hrm : rmOk J J' k z st = true)
    (kk : Cl G J' as n R M (fun r n' R' M' => Wp G J (k + J'.2.2.2.2.2.1) (z + J'.2.2.2.2.2.2.1) (pc + 3) L (r.toList ++ st) n' R' M' Q)) : Wp G J k z pc L stk n R M Q := by
  subst hst
  intro p e s m args below meth c cx ad0 n0 ad H locs ls X hl ok
  obtain ⟨x1, x2, x3, x4, x5, x6, x7, x8⟩ := id X
  obtain ⟨r1, r2, r3⟩ := rmOk_of hrm
  have ok1 : ∀ v ∈ as, okV n v := fun v hv => ok.2 v (List.mem_append_left _ (List.mem_reverse.mpr hv))
  have ok2 : okS n L st := ⟨ok.1, fun v hv => ok.2 v (List.mem_append_right _ hv)⟩
  have hM := Met_of (ad := ad) hJ.1 hlen kk x2 x4 x5 ok1
  have ts := cx.2.2.2.2.2.2.2.1
  refine wp_back (J' := J') (as := as) cx X hl ok2 (va_runS (As := as.map (cv ad)) (rest := st.map (cv ad)) ⟨cx.1, cx.2.1, cx.2.2.2.1, cx.2.2.2.2.1, ts⟩ hM ⟨callB_of as.length ts (gin hJ.1) rfl rfl rfl (ts _ hJ.1.2.2.2) (ts _ hlk) hJ.1.2.1 r1, ts _ hJ.2⟩ ⟨PreW_blind _, fun U hU hW => ⟨rfl, PreW_at cx X U hU hW⟩⟩ rfl (by simp) hl.1 ?_ (lv_room (by rw [scat]; exact r3)) hd r2)
  simp
theorem wp_callI {J' : MD} {stk : List PV} (as : List PV) (o : Nat) {i : Nat} (hd : decode J.2.1 pc = .ok (.invokespecial i, 3)) (hJ : JI J' as.length) (hret : J'.2.2.2.1 = none) (hlk : Cond.methodLink J.1.cls i J'.1 ∈ TB) (hst : stk = as.reverse ++ pR o :: st) (hlen : ((pR o :: as).map cat).sum ≤ J'.2.2.1) (hrm : rmOk J J' k z st = true)
    (kk : Cl G J' (pR o :: as) n R M (fun r n' R' M' => Wp G J (k + J'.2.2.2.2.2.1) (z + J'.2.2.2.2.2.2.1) (pc + 3) L (r.toList ++ st) n' R' M' Q)) : Wp G J k z pc L stk n R M Q := by
  subst hst
  intro p e s m args below meth c cx ad0 n0 ad H locs ls X hl ok
  obtain ⟨x1, x2, x3, x4, x5, x6, x7, x8⟩ := id X
  obtain ⟨r1, r2, r3⟩ := rmOk_of hrm
  have ok1 : ∀ v ∈ pR o :: as, okV n v := fun v hv => ok.2 v (by
    rcases List.mem_cons.mp hv with rfl | hv
    · exact List.mem_append_right _ List.mem_cons_self
    · exact List.mem_append_left _ (List.mem_reverse.mpr hv))
  have ok2 : okS n L st := ⟨ok.1, fun v hv => ok.2 v (List.mem_append_right _ (List.mem_cons_of_mem _ hv))⟩
  have hM := Met_of (ad := ad) hJ.1 hlen kk x2 x4 x5 ok1
  have ts := cx.2.2.2.2.2.2.2.1
  have hg := gin hJ.1
  rw [hret] at hM hg
  refine wp_back (J' := J') (as := as) cx X hl ok2 (va_runI (As := as.map (cv ad)) (rest := st.map (cv ad)) (b := ad o) ⟨cx.1, cx.2.1, cx.2.2.2.1, cx.2.2.2.2.1, ts⟩ hM (cwI as.length ts hg rfl rfl rfl (ts _ hJ.1.2.2.2) (ts _ hlk) (ts _ hJ.2.1) hJ.2.2 hJ.1.2.1 r1) ⟨PreW_blind _, fun U hU hW => ⟨rfl, PreW_at cx X U hU hW⟩⟩ rfl (by simp) hl.1 ?_ (lv_room (by rw [scat]; exact r3)) hd r2)
  simp [cv, va_rf]
theorem wp_callIN {J' : MD} {stk : List PV} (as : List PV) (o : Nat) {i : Nat} {host : String} (hd : decode J.2.1 pc = .ok (.invokespecial i, 3)) (hJ : JI J' as.length) (hret : J'.2.2.2.1 = none) (hlk : (J.1.cls, i, J'.1, host) ∈ NWL) (hst : stk = as.reverse ++ pR o :: st) (hlen : ((pR o :: as).map cat).sum ≤ J'.2.2.1) (hrm : rmOk J J' k z st = true)
    (kk : Cl G J' (pR o :: as) n R M (fun r n' R' M' => Wp G J (k + J'.2.2.2.2.2.1) (z + J'.2.2.2.2.2.2.1) (pc + 3) L (r.toList ++ st) n' R' M' Q)) : Wp G J k z pc L stk n R M Q := by
  subst hst
  intro p e s m args below meth c cx ad0 n0 ad H locs ls X hl ok
  obtain ⟨x1, x2, x3, x4, x5, x6, x7, x8⟩ := id X
  obtain ⟨r1, r2, r3⟩ := rmOk_of hrm
  have ok1 : ∀ v ∈ pR o :: as, okV n v := fun v hv => ok.2 v (by
    rcases List.mem_cons.mp hv with rfl | hv
    · exact List.mem_append_right _ List.mem_cons_self
    · exact List.mem_append_left _ (List.mem_reverse.mpr hv))
  have ok2 : okS n L st := ⟨ok.1, fun v hv => ok.2 v (List.mem_append_right _ (List.mem_cons_of_mem _ hv))⟩
  have hM := Met_of (ad := ad) hJ.1 hlen kk x2 x4 x5 ok1
  have ts := cx.2.2.2.2.2.2.2.1
  have hg := gin hJ.1
  rw [hret] at hM hg
  refine wp_back (J' := J') (as := as) cx X hl ok2 (va_runIN (As := as.map (cv ad)) (rest := st.map (cv ad)) (b := ad o) ⟨cx.1, cx.2.1, cx.2.2.2.1, cx.2.2.2.2.1, ts⟩ hM ⟨va_cnB as.length ts hg rfl rfl rfl (cx.2.2.2.2.2.2.2.2.2.1.2.2.1 _ hlk) (ts _ hJ.1.2.2.2) hJ.1.2.1 r1, hJ.2.2, ts _ hJ.2.1⟩ ⟨PreW_blind _, fun U hU hW => ⟨rfl, PreW_at cx X U hU hW⟩⟩ rfl (by simp) hl.1 ?_ (lv_room (by rw [scat]; exact r3)) hd r2)
  simp [cv, va_rf]
theorem wp_callSN {J' : MD} {stk : List PV} (as : List PV) {i : Nat} {host : String} (hd : decode J.2.1 pc = .ok (.invokestatic i, 3)) (hJ : JS J' as.length) (hlk : (J.1.cls, i, J'.1, host) ∈ NWL) (hst : stk = as.reverse ++ st) (hlen : (as.map cat).sum ≤ J'.2.2.1) (hrm : rmOk J J' k z st = true)
    (kk : Cl G J' as n R M (fun r n' R' M' => Wp G J (k + J'.2.2.2.2.2.1) (z + J'.2.2.2.2.2.2.1) (pc + 3) L (r.toList ++ st) n' R' M' Q)) : Wp G J k z pc L stk n R M Q := by
  subst hst
  intro p e s m args below meth c cx ad0 n0 ad H locs ls X hl ok
  obtain ⟨x1, x2, x3, x4, x5, x6, x7, x8⟩ := id X
  obtain ⟨r1, r2, r3⟩ := rmOk_of hrm
  have ok1 : ∀ v ∈ as, okV n v := fun v hv => ok.2 v (List.mem_append_left _ (List.mem_reverse.mpr hv))
  have ok2 : okS n L st := ⟨ok.1, fun v hv => ok.2 v (List.mem_append_right _ hv)⟩
  have hM := Met_of (ad := ad) hJ.1 hlen kk x2 x4 x5 ok1
  have ts := cx.2.2.2.2.2.2.2.1
  refine wp_back (J' := J') (as := as) cx X hl ok2 (va_runSN (As := as.map (cv ad)) (rest := st.map (cv ad)) ⟨cx.1, cx.2.1, cx.2.2.2.1, cx.2.2.2.2.1, ts⟩ hM ⟨va_cnB as.length ts (gin hJ.1) rfl rfl rfl (cx.2.2.2.2.2.2.2.2.2.1.2.2.1 _ hlk) (ts _ hJ.1.2.2.2) hJ.1.2.1 r1, ts _ hJ.2, trivial⟩ ⟨PreW_blind _, fun U hU hW => ⟨rfl, PreW_at cx X U hU hW⟩⟩ rfl (by simp) hl.1 ?_ (lv_room (by rw [scat]; exact r3)) hd r2)
  simp
theorem wp_objInit {i : Nat} {o : Nat} (hd : decode J.2.1 pc = .ok (.invokespecial i, 3)) (hlk : Cond.methodLink J.1.cls i objectInit ∈ TB) (h1 : 1 ≤ J.2.2.2.2.1) (h2 : (st.map cat).sum + 12 ≤ J.2.2.2.2.2.2.2) (hin : Cond.instanceMethod objectInit ∈ TB) (hco : Cond.code objectInit ⟨#[0xb1]⟩ 1 none ∈ TB) (kk : Wp G J k z (pc + 3) L st n R M Q) : Wp G J k z pc L (pR o :: st) n R M Q := by
  intro p e s m args below meth c cx ad0 n0 ad H locs ls X hl ok
  have ts := cx.2.2.2.2.2.2.2.1
  refine W.objInit cx.1 cx.2.1 cx.2.2.2.2.1 (ts _ hlk) (ts _ hin) (ts _ hco) rfl (hl.1.trans cx.2.2.2.1.symm) (rest := st.map (cv ad)) rfl hd h1 (by
    rw [scat]
    show 2 * 0 + _ + 12 ≤ _
    rw [Nat.mul_zero, Nat.zero_add]
    exact h2) ?_
  exact kk p e s m args below meth c cx ad0 n0 ad H locs ls X hl (okS_pop ok).2
end PCALL
end
section
theorem cd_tl : ∀ k, k < 8 → defaultValue (fyc 0 k) = (if isRf 0 k = true then .null else .int 0) := by
  intro k hk
  match k, hk with
  | 0, _ => rfl
  | 1, _ => rfl
  | 2, _ => rfl
  | 3, _ => rfl
  | 4, _ => rfl
  | 5, _ => rfl
  | 6, _ => rfl
  | 7, _ => rfl
theorem cd_bk : ∀ k, k < 7 → defaultValue (fyc 1 k) = (if isRf 1 k = true then .null else .int 0) := by
  intro k hk
  match k, hk with
  | 0, _ => rfl
  | 1, _ => rfl
  | 2, _ => rfl
  | 3, _ => rfl
  | 4, _ => rfl
  | 5, _ => rfl
  | 6, _ => rfl
theorem cd_tx : ∀ k, k < 3 → defaultValue (fyc 2 k) = (if isRf 2 k = true then .null else .int 0) := by
  intro k hk
  match k, hk with
  | 0, _ => rfl
  | 1, _ => rfl
  | 2, _ => rfl
theorem cd_tu : ∀ k, k < 2 → defaultValue (fyc 3 k) = (if isRf 3 k = true then .null else .int 0) := by
  intro k hk
  match k, hk with
  | 0, _ => rfl
  | 1, _ => rfl
theorem cd_bo : ∀ k, k < 3 → defaultValue (fyc 4 k) = (if isRf 4 k = true then .null else .int 0) := by
  intro k hk
  match k, hk with
  | 0, _ => rfl
  | 1, _ => rfl
  | 2, _ => rfl
theorem cd_lo : ∀ k, k < 7 → defaultValue (fyc 5 k) = (if isRf 5 k = true then .null else .int 0) := by
  intro k hk
  match k, hk with
  | 0, _ => rfl
  | 1, _ => rfl
  | 2, _ => rfl
  | 3, _ => rfl
  | 4, _ => rfl
  | 5, _ => rfl
  | 6, _ => rfl
theorem cd_ye : ∀ k, k < 8 → defaultValue (fyc 6 k) = (if isRf 6 k = true then .null else .int 0) := by
  intro k hk
  match k, hk with
  | 0, _ => rfl
  | 1, _ => rfl
  | 2, _ => rfl
  | 3, _ => rfl
  | 4, _ => rfl
  | 5, _ => rfl
  | 6, _ => rfl
  | 7, _ => rfl
theorem cd_tr : ∀ k, k < 3 → defaultValue (fyc 7 k) = (if isRf 7 k = true then .null else .int 0) := by
  intro k hk
  match k, hk with
  | 0, _ => rfl
  | 1, _ => rfl
  | 2, _ => rfl
theorem cd_li : ∀ k, k < 1 → defaultValue (fyc 8 k) = (if isRf 8 k = true then .null else .int 0) := by
  intro k hk
  match k, hk with
  | 0, _ => rfl
theorem cd_ch : ∀ k, k < 4 → defaultValue (fyc 9 k) = (if isRf 9 k = true then .null else .int 0) := by
  intro k hk
  match k, hk with
  | 0, _ => rfl
  | 1, _ => rfl
  | 2, _ => rfl
  | 3, _ => rfl
theorem cd_sh : ∀ k, k < 3 → defaultValue (fyc 10 k) = (if isRf 10 k = true then .null else .int 0) := by
  intro k hk
  match k, hk with
  | 0, _ => rfl
  | 1, _ => rfl
  | 2, _ => rfl
theorem cd_mo : ∀ k, k < 26 → defaultValue (fyc 11 k) = (if isRf 11 k = true then .null else .int 0) := by
  intro k hk
  match k, hk with
  | 0, _ => rfl
  | 1, _ => rfl
  | 2, _ => rfl
  | 3, _ => rfl
  | 4, _ => rfl
  | 5, _ => rfl
  | 6, _ => rfl
  | 7, _ => rfl
  | 8, _ => rfl
  | 9, _ => rfl
  | 10, _ => rfl
  | 11, _ => rfl
  | 12, _ => rfl
  | 13, _ => rfl
  | 14, _ => rfl
  | 15, _ => rfl
  | 16, _ => rfl
  | 17, _ => rfl
  | 18, _ => rfl
  | 19, _ => rfl
  | 20, _ => rfl
  | 21, _ => rfl
  | 22, _ => rfl
  | 23, _ => rfl
  | 24, _ => rfl
  | 25, _ => rfl
  | k + 26, hk => exact absurd hk (by omega)
theorem cl_def : ∀ (ci : Nat) (C : String) (T : u_T) (N : Nat), CL[ci]? = some (C, T, N) → ∀ k, k < N → defaultValue (fyc ci k) = (if isRf ci k = true then .null else .int 0) := by
  intro ci C T N h
  match ci, h with
  | 0, h => cases h; exact cd_tl
  | 1, h => cases h; exact cd_bk
  | 2, h => cases h; exact cd_tx
  | 3, h => cases h; exact cd_tu
  | 4, h => cases h; exact cd_bo
  | 5, h => cases h; exact cd_lo
  | 6, h => cases h; exact cd_ye
  | 7, h => cases h; exact cd_tr
  | 8, h => cases h; exact cd_li
  | 9, h => cases h; exact cd_ch
  | 10, h => cases h; exact cd_sh
  | 11, h => cases h; exact cd_mo
  | ci + 12, h => simp [CL] at h
section PNEW
variable {G : GT} {J : MD} {k z pc : Nat} {L : LT} {st : List PV} {n : Nat} {R : RT} {M : MT} {Q : QT}
theorem okM_z {n : Nat} {R : RT} {M : MT} (h : okM n R M) : okM (n + 1) (rz R n) (mz M n) := by
  refine ⟨fun o ho k => ?_, fun o ho k r hr => ?_⟩
  · unfold mz
    by_cases hc : o = n
    · rw [if_pos hc]
      exact ⟨fun _ => by unfold R64; omega, fun _ => z32⟩
    · rw [if_neg hc]
      exact h.1 o (by omega) k
  · unfold rz at hr
    by_cases hc : o = n
    · rw [if_pos hc] at hr
      cases hr
    · rw [if_neg hc] at hr
      have := h.2 o (by omega) k r hr
      omega
/-- behind a new cell -/
theorem wp_grown {p : Program} {e : Env} {s : State} {m : MethodId} {args : Array Value} {below : List Frame} {meth : Method} {c : Code} (cx : Cx G J p s m args meth c) {ad0 : Nat → Nat} {n0 : Nat} {ad : Nat → Nat} {H H1 : Heap} {locs : List Loc} {ls : Array Slot} (X : Mx G n0 ad0 ad n R M s H locs) (hl : lv_has ls J.2.2.1 (lmap ad L)) (ok : okS n L st) {q k' z' pc' : Nat} {E : va_E} (hx : n + 1 ≤ XO)
    (hE : cont G (fun o => if o = n then q else ad o) (rz R n) (mz M n) n = E) (hP : va_P G.2.1 CL (wsOf G ad n R M ++ [(q, E)]) H1) (hD : va_D (AB G) (wsOf G ad n R M ++ [(q, E)])) (hS : va_S (AB G) s.heap H1 locs) (kk : Wp G J k' z' pc' L (pR n :: st) (n + 1) (rz R n) (mz M n) Q) :
    W p G.1 e (rmOf J) s m args below meth c H1 locs k' z' (MQ below (QP G ad0 n0 Q) args s J.2.2.2.2.2.1 J.2.2.2.2.2.2.1 (AB G)) (F0 m pc' ls (.ref q :: st.map (cv ad))) := by
  obtain ⟨x1, x2, x3, x4, x5, x6, x7, x8⟩ := X
  have hxo : XO = 1000 := rfl
  rw [ws_push x5 (ad' := fun o => if o = n then q else ad o) (R' := rz R n) (M' := mz M n) (fun o ho => by simp [Nat.ne_of_lt ho]) (by simp) (fun o' k ho => by simp [rz, Nat.ne_of_lt ho]) (fun o' k ho => by simp [mz, Nat.ne_of_lt ho]) hE] at hP hD
  have ag : ∀ o, o < n ∨ XO ≤ o → (fun o => if o = n then q else ad o) o = ad o := fun o ho => by
    show (if o = n then q else ad o) = ad o
    rw [if_neg (by omega)]
  have h1 := kk p e s m args below meth c cx ad0 n0 (fun o => if o = n then q else ad o) H1 locs ls ⟨by omega, hx, fun o ho => (ag o (by omega)).trans (x3 o ho), fun i => (ag _ (Or.inr (by omega))).trans (x4 i), okM_z x5, hP, hD, hS⟩ (by rw [lmap_ag ag ok.1]; exact hl) (okS_push ⟨fun q hq => okV_mono (Nat.le_succ n) (ok.1 q hq), fun q hq => okV_mono (Nat.le_succ n) (ok.2 q hq)⟩ (Or.inl (Nat.lt_succ_self n)))
  have e1 : (pR n :: st).map (cv (fun o => if o = n then q else ad o)) = .ref q :: st.map (cv ad) := by
    rw [List.map_cons, smap_ag ag ok.2]
    simp [cv, va_rf]
  rw [e1] at h1
  exact h1
theorem hA_of {p : Program} {s : State} {m : MethodId} {args : Array Value} {meth : Method} {c : Code} (cx : Cx G J p s m args meth c) : ∀ q : Nat, s.heap.size ≤ q → AB G q := fun q h => Nat.le_trans cx.2.2.2.2.2.2.2.2.2.2 h
theorem wp_new {i ci N : Nat} {C : String} {T : u_T} (hd : decode J.2.1 pc = .ok (.new i, 3)) (hs : SH n = (ci, N)) (hc : CL[ci]? = some (C, T, N)) (hx : n + 1 ≤ XO) (hk : Cond.classLink J.1.cls i C ∈ TB) (h1 : Cond.instantiable C N ∈ TB) (h2 : Cond.initialized C ∈ TB) (hr : k + 1 ≤ J.2.2.2.2.2.1 ∧ z + N ≤ J.2.2.2.2.2.2.1)
    (kk : Wp G J (k + 1) (z + N) (pc + 3) L (pR n :: st) (n + 1) (rz R n) (mz M n) Q) : Wp G J k z pc L st n R M Q := by
  intro p e s m args below meth c cx ad0 n0 ad H locs ls X hl ok
  obtain ⟨x1, x2, x3, x4, x5, x6, x7, x8⟩ := id X
  obtain ⟨c1, c2, c3⟩ := cl_ok ci _ _ _ hc
  have ts := cx.2.2.2.2.2.2.2.1
  refine va_new (ci := ci) (fs := (List.range N).map (fldv ad (rz R n) (mz M n) ci n)) cx.1 cx.2.1 ts c1 (fyc ci) c3 cx.2.2.2.2.1 (ts _ hk) (ts _ h1) (ts _ h2) cx.2.2.2.2.2.2.2.2.1 x6 x7 x8 (hA_of cx) hc (fun j hj => ?_) hr.1 hr.2 hd (fun q H1 hP hD hS => ?_)
  · rw [cl_def ci _ _ _ hc j hj]
    unfold vp_V
    rw [List.getD_eq_getElem?_getD, fld_get _ _ _ _ _ hj]
    cases hb : isRf ci j <;> simp [fldv, hb, rz, mz, va_rf]
  · refine wp_grown cx X hl ok hx ?_ hP hD hS kk
    rw [cont_ob hs (cl_lt hc)]
    congr 2
    apply List.map_congr_left
    intro j hj
    cases hb : isRf ci j <;> simp [fldv, hb, rz, mz]
theorem wp_newai {N : Nat} {len : Int} (hd : decode J.2.1 pc = .ok (.newarray .int, 2)) (hs : SH n = (20, N)) (hlen : len = (N : Int)) (hN : N ≤ 100000) (hx : n + 1 ≤ XO) (hk : Cond.arrayClass .int ∈ TB) (hr : k + 1 ≤ J.2.2.2.2.2.1 ∧ z + N ≤ J.2.2.2.2.2.2.1)
    (kk : Wp G J (k + 1) (z + N) (pc + 2) L (pR n :: st) (n + 1) (rz R n) (mz M n) Q) : Wp G J k z pc L (pI len :: st) n R M Q := by
  subst hlen
  intro p e s m args below meth c cx ad0 n0 ad H locs ls X hl ok
  obtain ⟨x1, x2, x3, x4, x5, x6, x7, x8⟩ := id X
  have ts := cx.2.2.2.2.2.2.2.1
  have hK := cx.2.2.2.2.2.2.2.2.1
  have oN : R32 (N : Int) := (okS_pop ok).1
  refine va_newa (atype := .int) (ty := .int) (a0 := (N, .inl (fun _ => 0))) (N' := N) cx.1 cx.2.1 (ts _ hk) rfl hK x6 x7 x8 (hA_of cx) (fun cA => rfl) (fun h => ?_) ?_ (by show N * 4 ≤ 536870912; omega) hr.1 hr.2 hd (fun q cA H1 hK1 hP hD hS => ?_)
  · have := (l32 oN z32).mp h
    omega
  · show (Int32.ofInt (N : Int)).toInt.toNat = N
    rw [t32 oN]
    rfl
  · have e1 : va_RA s cA .int := (hK1.2 7 (cA, .int) rfl).2
    have e2 : va_RA s (G.2.2.1 0) .int := (hK.2 0 (G.2.2.1 0, .int) rfl).2
    have e3 : cA = G.2.2.1 0 := Option.some.inj (e1.symm.trans e2)
    subst e3
    refine wp_grown cx X hl (okS_pop ok).2 hx ?_ hP hD hS kk
    rw [cont_i hs]
    congr 4
    funext j
    simp [mz]
theorem wp_newal {N : Nat} {len : Int} (hd : decode J.2.1 pc = .ok (.newarray .long, 2)) (hs : SH n = (21, N)) (hlen : len = (N : Int)) (hN : N ≤ 100000) (hx : n + 1 ≤ XO) (hk : Cond.arrayClass .long ∈ TB) (hr : k + 1 ≤ J.2.2.2.2.2.1 ∧ z + N ≤ J.2.2.2.2.2.2.1)
    (kk : Wp G J (k + 1) (z + N) (pc + 2) L (pR n :: st) (n + 1) (rz R n) (mz M n) Q) : Wp G J k z pc L (pI len :: st) n R M Q := by
  subst hlen
  intro p e s m args below meth c cx ad0 n0 ad H locs ls X hl ok
  obtain ⟨x1, x2, x3, x4, x5, x6, x7, x8⟩ := id X
  have ts := cx.2.2.2.2.2.2.2.1
  have hK := cx.2.2.2.2.2.2.2.2.1
  have oN : R32 (N : Int) := (okS_pop ok).1
  refine va_newa (atype := .long) (ty := .long) (a0 := (N, .inr (.inl (fun _ => 0)))) (N' := N) cx.1 cx.2.1 (ts _ hk) rfl hK x6 x7 x8 (hA_of cx) (fun cA => rfl) (fun h => ?_) ?_ (by show N * 8 ≤ 536870912; omega) hr.1 hr.2 hd (fun q cA H1 hK1 hP hD hS => ?_)
  · have := (l32 oN z32).mp h
    omega
  · show (Int32.ofInt (N : Int)).toInt.toNat = N
    rw [t32 oN]
    rfl
  · have e1 : va_RA s cA .long := (hK1.2 7 (cA, .long) rfl).2
    have e2 : va_RA s (G.2.2.1 1) .long := (hK.2 1 (G.2.2.1 1, .long) rfl).2
    have e3 : cA = G.2.2.1 1 := Option.some.inj (e1.symm.trans e2)
    subst e3
    refine wp_grown cx X hl (okS_pop ok).2 hx ?_ hP hD hS kk
    rw [cont_l hs]
    congr 5
    funext j
    simp [mz]
theorem wp_newq {N t i : Nat} {C : String} {len : Int} (hd : decode J.2.1 pc = .ok (.anewarray i, 3)) (hs : SH n = (22 + t, N)) (ht : (TYS G)[2 + t]? = some (G.2.2.1 (2 + t), .object C)) (hlen : len = (N : Int)) (hN : N ≤ 100000) (hx : n + 1 ≤ XO) (hk : Cond.classLink J.1.cls i C ∈ TB) (hAO : ∀ U, Ext G U → va_AO C U) (hr : k + 1 ≤ J.2.2.2.2.2.1 ∧ z + N ≤ J.2.2.2.2.2.2.1)
    (kk : Wp G J (k + 1) (z + N) (pc + 3) L (pR n :: st) (n + 1) (rz R n) (mz M n) Q) : Wp G J k z pc L (pI len :: st) n R M Q := by
  subst hlen
  intro p e s m args below meth c cx ad0 n0 ad H locs ls X hl ok
  obtain ⟨x1, x2, x3, x4, x5, x6, x7, x8⟩ := id X
  have ts := cx.2.2.2.2.2.2.2.1
  have hK := cx.2.2.2.2.2.2.2.2.1
  have oN : R32 (N : Int) := (okS_pop ok).1
  refine va_newq (N' := N) cx.1 cx.2.1 cx.2.2.2.2.1 (ts _ hk) (hAO s cx.2.2.2.2.2.2.2.2.2.1) hK x6 x7 x8 (hA_of cx) (fun h => ?_) ?_ (by omega) hr.1 hr.2 hd (fun q cA H1 hK1 hP hD hS => ?_)
  · have := (l32 oN z32).mp h
    omega
  · show (Int32.ofInt (N : Int)).toInt.toNat = N
    rw [t32 oN]
    rfl
  · obtain ⟨_, _, _, _, _, e1⟩ := (hK1.2 7 (cA, .object C) rfl).2
    obtain ⟨_, _, _, _, _, e2⟩ := (hK.2 (2 + t) _ ht).2
    have e3 : cA = G.2.2.1 (2 + t) := Option.some.inj (e1.symm.trans e2)
    subst e3
    refine wp_grown cx X hl (okS_pop ok).2 hx ?_ hP hD hS kk
    rw [cont_r hs]
    congr 7
    funext j
    simp [rz]
/-- a stretch of ints, copied -/
def mcp (M : MT) (o o2 : Nat) (sp dp len : Int) : MT := fun o' k' => if o' = o2 ∧ dp.toNat ≤ k' ∧ k' < dp.toNat + len.toNat then M o (sp.toNat + (k' - dp.toNat)) else M o' k'
theorem wp_copy {i o o2 N N2 : Nat} {sp dp len : Int} (hd : decode J.2.1 pc = .ok (.invokestatic i, 3)) (hlk : Cond.methodLink J.1.cls i arraycopyName ∈ TB) (hna : Cond.native arraycopyName ∈ TB) (hst : Cond.static arraycopyName ∈ TB) (hin : Cond.initialized "java/lang/System" ∈ TB) (hs : SH o = (20, N)) (hs2 : SH o2 = (20, N2)) (ho : o < n) (ho2 : o2 < n) (h1 : 0 ≤ sp) (h2 : 0 ≤ dp) (h3 : 0 ≤ len) (h4 : sp + len ≤ (N : Int)) (h5 : dp + len ≤ (N2 : Int)) (hf : 1 ≤ J.2.2.2.2.1) (hlo : (st.map cat).sum + (nativeFrameWords "java/lang/System" "arraycopy" 5 + 11) ≤ J.2.2.2.2.2.2.2)
    (kk : Wp G J k z (pc + 3) L st n R (mcp M o o2 sp dp len) Q) : Wp G J k z pc L (pI len :: pI dp :: pR o2 :: pI sp :: pR o :: st) n R M Q := by
  intro p e s m args below meth c cx ad0 n0 ad H locs ls X hl ok
  obtain ⟨x1, x2, x3, x4, x5, x6, x7, x8⟩ := id X
  have ts := cx.2.2.2.2.2.2.2.1
  have he := ws_get (G := G) (ad := ad) (R := R) (M := M) ho
  rw [cont_i hs] at he
  have he2 := ws_get (G := G) (ad := ad) (R := R) (M := M) ho2
  rw [cont_i hs2] at he2
  obtain ⟨o1, ok1⟩ := okS_pop ok
  obtain ⟨o3, ok2⟩ := okS_pop ok1
  obtain ⟨-, ok3⟩ := okS_pop ok2
  obtain ⟨o4, ok4⟩ := okS_pop ok3
  obtain ⟨-, ok5⟩ := okS_pop ok4
  have nn : ∀ x : Int, R32 x → 0 ≤ x → ¬ Int32.ofInt x < 0 ∧ (Int32.ofInt x).toNatClampNeg = x.toNat := fun x hx h => by
    refine ⟨fun q => ?_, ?_⟩
    · have := (l32 hx z32).mp q
      omega
    · show (Int32.ofInt x).toInt.toNat = x.toNat
      rw [t32 hx]
  obtain ⟨a1, b1⟩ := nn len o1 h3
  obtain ⟨a2, b2⟩ := nn dp o3 h2
  obtain ⟨a3, b3⟩ := nn sp o4 h1
  refine va_copyi cx.1 cx.2.1 (cx.2.2.2.1.trans hl.1.symm) cx.2.2.2.2.1 (ts _ hlk) (ts _ hna) (ts _ hst) (ts _ hin) cx.2.2.2.2.2.2.2.2.1 x6 x7 x8 o o2 0 0 he he2 rfl rfl rfl a3 a2 a1 (by rw [b3, b1]; omega) (by rw [b2, b1]; omega) (fun _ _ => rfl) hf (by rw [scat]; exact hlo) hd (fun H1 locs1 hP hD hS => ?_)
  have hE : cont G ad R (mcp M o o2 sp dp len) o2 = .inl (G.2.2.1 0, N2, .inl (va_cpy (fun k => Int32.ofInt (M o k)) (fun k => Int32.ofInt (M o2 k)) (Int32.ofInt sp).toNatClampNeg (Int32.ofInt dp).toNatClampNeg (Int32.ofInt len).toNatClampNeg)) := by
    rw [cont_i hs2, b1, b2, b3]
    congr 4
    funext j
    unfold mcp va_cpy
    by_cases hj : dp.toNat ≤ j ∧ j < dp.toNat + len.toNat
    · rw [if_pos ⟨rfl, hj⟩, if_pos hj]
    · rw [if_neg (fun h => hj h.2), if_neg hj]
  rw [ws_set ho2 (fun _ _ _ => rfl) (fun o' k' h => by simp [mcp, h]) hE] at hP hD
  refine kk p e s m args below meth c cx ad0 n0 ad H1 locs1 ls ⟨x1, x2, x3, x4, ⟨fun o' ho' k' => ?_, x5.2⟩, hP, hD, hS⟩ hl ok5
  unfold mcp
  by_cases hc : o' = o2 ∧ dp.toNat ≤ k' ∧ k' < dp.toNat + len.toNat
  · rw [if_pos hc]
    have h6 := (x5.1 o ho (sp.toNat + (k' - dp.toNat))).2 (by rw [hs]; exact (by decide : (20 : Nat) ≠ 21))
    rw [hc.1, hs2]
    exact ⟨fun h => absurd h (by exact (by decide : ¬ (20 : Nat) = 21)), fun _ => h6⟩
  · rw [if_neg hc]
    exact x5.1 o' ho' k'
theorem QP_of {s : State} {args : Array Value} {n0 : Nat} {ad0 ad : Nat → Nat} {H : Heap} {locs : List Loc} (X : Mx G n0 ad0 ad n R M s H locs) {r : Option PV} (hq : Q r n R M) (hr : ∀ v, r = some v → okV n v) {t : State} (ht : t.heap = H) : QP G ad0 n0 Q args s (.returned (r.map (cv ad))) t := by
  obtain ⟨x1, x2, x3, x4, x5, x6, x7, x8⟩ := X
  exact ⟨⟨r, ad, n, R, M, rfl, hq, hr, x1, x2, x3, x5, by rw [ht]; exact x6, x7⟩, x8.F ht⟩
theorem wp_iret {x : Int} (hd : decode J.2.1 pc = .ok (.ireturn, 1)) (hr : J.2.2.2.1 = some .int) (hm : k ≤ J.2.2.2.2.2.1 ∧ z ≤ J.2.2.2.2.2.2.1) (hq : Q (some (pI x)) n R M) : Wp G J k z pc L [pI x] n R M Q := by
  intro p e s m args below meth c cx ad0 n0 ad H locs ls X hl ok
  refine W.widen hm.1 hm.2 ?_
  exact W.iret (hlocks := cx.2.2.2.2.2.1) cx.1 cx.2.1 (cx.2.2.1.trans hr) (fun t ht hW => QP_of X hq (fun v hv => by cases hv; exact (okS_pop ok).1) ht) X.2.2.2.2.2.2.2.2.2 hd
theorem wp_zret {x : Int} (hd : decode J.2.1 pc = .ok (.ireturn, 1)) (hr : J.2.2.2.1 = some .boolean) (hm : k ≤ J.2.2.2.2.2.1 ∧ z ≤ J.2.2.2.2.2.2.1) (hx : x = 0 ∨ x = 1) (hq : Q (some (pI x)) n R M) : Wp G J k z pc L [pI x] n R M Q := by
  intro p e s m args below meth c cx ad0 n0 ad H locs ls X hl ok
  refine W.widen hm.1 hm.2 ?_
  exact W.zret (ty := .boolean) (hlocks := cx.2.2.2.2.2.1) cx.1 cx.2.1 (cx.2.2.1.trans hr) (by rcases hx with rfl | rfl <;> rfl) (fun t ht hW => QP_of X hq (fun v hv => by cases hv; exact (okS_pop ok).1) ht) X.2.2.2.2.2.2.2.2.2 hd
theorem wp_lret {x : Int} (hd : decode J.2.1 pc = .ok (.lreturn, 1)) (hr : J.2.2.2.1 = some .long) (hm : k ≤ J.2.2.2.2.2.1 ∧ z ≤ J.2.2.2.2.2.2.1) (hq : Q (some (pL x)) n R M) : Wp G J k z pc L [pL x] n R M Q := by
  intro p e s m args below meth c cx ad0 n0 ad H locs ls X hl ok
  refine W.widen hm.1 hm.2 ?_
  exact W.lret (hlocks := cx.2.2.2.2.2.1) cx.1 cx.2.1 (cx.2.2.1.trans hr) (fun t ht hW => QP_of X hq (fun v hv => by cases hv; exact (okS_pop ok).1) ht) X.2.2.2.2.2.2.2.2.2 hd
theorem wp_aret {o : Nat} {nm : String} (hd : decode J.2.1 pc = .ok (.areturn, 1)) (hr : J.2.2.2.1 = some (.object nm)) (hm : k ≤ J.2.2.2.2.2.1 ∧ z ≤ J.2.2.2.2.2.2.1) (hq : Q (some (pR o)) n R M) : Wp G J k z pc L [pR o] n R M Q := by
  intro p e s m args below meth c cx ad0 n0 ad H locs ls X hl ok
  refine W.widen hm.1 hm.2 ?_
  exact W.aret (v := .ref (ad o)) (hlocks := cx.2.2.2.2.2.1) cx.1 cx.2.1 (cx.2.2.1.trans hr) (Or.inl ⟨nm, rfl⟩) (Or.inr ⟨_, rfl⟩) (fun t ht hW => QP_of X hq (fun v hv => by cases hv; exact (okS_pop ok).1) ht) X.2.2.2.2.2.2.2.2.2 hd
theorem wp_vret (hd : decode J.2.1 pc = .ok (.return_, 1)) (hr : J.2.2.2.1 = none) (hm : k ≤ J.2.2.2.2.2.1 ∧ z ≤ J.2.2.2.2.2.2.1) (hq : Q none n R M) : Wp G J k z pc L [] n R M Q := by
  intro p e s m args below meth c cx ad0 n0 ad H locs ls X hl ok
  refine W.widen hm.1 hm.2 ?_
  exact W.vret (hlocks := cx.2.2.2.2.2.1) cx.1 cx.2.1 (cx.2.2.1.trans hr) (fun t ht hW => QP_of X hq (fun v hv => by cases hv) ht) X.2.2.2.2.2.2.2.2.2 hd
def sbyt (j : Nat) : Int := if j = 0 then 43 else if j = 1 then 45 else 47
theorem wp_ldcS (hd : decode J.2.1 pc = .ok (.ldc 73, 2)) (hJ : J.1.cls = "TuneLoans$Book") (kk : Wp G J k z (pc + 2) L (pR 1000 :: st) n R M Q) : Wp G J k z pc L st n R M Q := by
  intro p e s m args below meth c cx ad0 n0 ad H locs ls X hl ok
  obtain ⟨x1, x2, x3, x4, x5, x6, x7, x8⟩ := id X
  have h0 := kk p e s m args below meth c cx ad0 n0 ad H locs ls X hl (okS_push ok (Or.inr (Nat.le_refl _)))
  have ha : ad 1000 = G.2.2.2.1 0 := x4 0
  have h1 : (pR 1000 :: st).map (cv ad) = .ref (G.2.2.2.1 0) :: st.map (cv ad) := by rw [← ha]; rfl
  rw [h1] at h0
  exact va_ldcS cx.1 cx.2.1 (by rw [← hJ]; exact cx.2.2.2.2.1) cx.2.2.2.2.2.2.2.2.2.1.2.2.2.2 hd h0
theorem wp_getcoder {i : Nat} (hd : decode J.2.1 pc = .ok (.getfield i, 3)) (hk : Cond.fieldLink J.1.cls i "java/lang/String" "coder" "B" ∈ TB) (kk : Wp G J k z (pc + 3) L (pI 0 :: st) n R M Q) : Wp G J k z pc L (pR 1000 :: st) n R M Q := by
  intro p e s m args below meth c cx ad0 n0 ad H locs ls X hl ok
  obtain ⟨x1, x2, x3, x4, x5, x6, x7, x8⟩ := id X
  have ha : ad 1000 = G.2.2.2.1 0 := x4 0
  have h1 : (pR 1000 :: st).map (cv ad) = .ref (G.2.2.2.1 0) :: st.map (cv ad) := by rw [← ha]; rfl
  rw [h1]
  exact vk_getf cx.1 cx.2.1 (cx.2.2.2.2.2.2.2.2.2.1.2.2.2.1.1.1 0 (by decide)).2.1 x8 cx.2.2.2.2.1 (cx.2.2.2.2.2.2.2.1 _ hk) (fun _ h => h) hd (kk p e s m args below meth c cx ad0 n0 ad H locs ls X hl (okS_push (okS_pop ok).2 z32))
theorem wp_getvalue {i : Nat} (hd : decode J.2.1 pc = .ok (.getfield i, 3)) (hk : Cond.fieldLink J.1.cls i "java/lang/String" "value" "[B" ∈ TB) (kk : Wp G J k z (pc + 3) L (pR 1002 :: st) n R M Q) : Wp G J k z pc L (pR 1000 :: st) n R M Q := by
  intro p e s m args below meth c cx ad0 n0 ad H locs ls X hl ok
  obtain ⟨x1, x2, x3, x4, x5, x6, x7, x8⟩ := id X
  have ha : ad 1000 = G.2.2.2.1 0 := x4 0
  have hb : ad 1002 = G.2.2.2.1 2 := x4 2
  have h1 : (pR 1000 :: st).map (cv ad) = .ref (G.2.2.2.1 0) :: st.map (cv ad) := by rw [← ha]; rfl
  rw [h1]
  have h0 := kk p e s m args below meth c cx ad0 n0 ad H locs ls X hl (okS_push (okS_pop ok).2 (Or.inr (by decide)))
  have h2 : (pR 1002 :: st).map (cv ad) = .ref (G.2.2.2.1 2) :: st.map (cv ad) := by rw [← hb]; rfl
  rw [h2] at h0
  exact vk_getf cx.1 cx.2.1 (cx.2.2.2.2.2.2.2.2.2.1.2.2.2.1.1.1 0 (by decide)).2.2.1 x8 cx.2.2.2.2.1 (cx.2.2.2.2.2.2.2.1 _ hk) (fun _ h => h) hd h0
theorem wp_tb {i : Int} (hd : decode J.2.1 pc = .ok (.baload, 1)) (h0 : 0 ≤ i) (h1 : i < 3) (kk : Wp G J k z (pc + 1) L (pI (sbyt i.toNat) :: st) n R M Q) : Wp G J k z pc L (pI i :: pR 1002 :: st) n R M Q := by
  intro p e s m args below meth c cx ad0 n0 ad H locs ls X hl ok
  obtain ⟨x1, x2, x3, x4, x5, x6, x7, x8⟩ := id X
  have hb : ad 1002 = G.2.2.2.1 2 := x4 2
  have e1 : (pI i :: pR 1002 :: st).map (cv ad) = .int (Int32.ofInt i) :: .ref (G.2.2.2.1 2) :: st.map (cv ad) := by rw [← hb]; rfl
  rw [e1]
  obtain ⟨g1, g2⟩ := vin (N := 3) (okS_pop ok).1 h0 h1
  refine va_tb cx.1 cx.2.1 (cx.2.2.2.2.2.2.2.2.2.1.2.2.2.1.1.1 0 (by decide)).2.2.2 x8 g1 (v := .int (Int32.ofInt (sbyt i.toNat))) ?_ hd (kk p e s m args below meth c cx ad0 n0 ad H locs ls X hl (okS_push (okS_pop (okS_pop ok).2).2 (by show R32 (sbyt i.toNat); unfold sbyt R32; split <;> (try split) <;> omega)))
  rw [g2]
  have h3 : i.toNat = 0 ∨ i.toNat = 1 ∨ i.toNat = 2 := by omega
  rcases h3 with h | h | h <;> rw [h] <;> rfl
theorem wp_tlen (hd : decode J.2.1 pc = .ok (.arraylength, 1)) (kk : Wp G J k z (pc + 1) L (pI 3 :: st) n R M Q) : Wp G J k z pc L (pR 1002 :: st) n R M Q := by
  intro p e s m args below meth c cx ad0 n0 ad H locs ls X hl ok
  obtain ⟨x1, x2, x3, x4, x5, x6, x7, x8⟩ := id X
  have hb : ad 1002 = G.2.2.2.1 2 := x4 2
  have e1 : (pR 1002 :: st).map (cv ad) = .ref (G.2.2.2.1 2) :: st.map (cv ad) := by rw [← hb]; rfl
  rw [e1]
  exact va_tlen cx.1 cx.2.1 (cx.2.2.2.2.2.2.2.2.2.1.2.2.2.1.1.1 0 (by decide)).2.2.2 x8 rfl hd (kk p e s m args below meth c cx ad0 n0 ad H locs ls X hl (okS_push (okS_pop ok).2 ⟨by decide, by decide⟩))
theorem wp_getsCS {i : Nat} (hd : decode J.2.1 pc = .ok (.getstatic i, 3)) (hk : Cond.fieldLink J.1.cls i "java/lang/String" "COMPACT_STRINGS" "Z" ∈ TB) (kk : Wp G J k z (pc + 3) L (pI 1 :: st) n R M Q) : Wp G J k z pc L st n R M Q := by
  intro p e s m args below meth c cx ad0 n0 ad H locs ls X hl ok
  obtain ⟨x1, x2, x3, x4, x5, x6, x7, x8⟩ := id X
  exact va_gets cx.1 cx.2.1 cx.2.2.2.2.2.2.2.2.2.1.2.2.2.1.2 x8 cx.2.2.2.2.1 (cx.2.2.2.2.2.2.2.1 _ hk) (fun _ h => h) hd (kk p e s m args below meth c cx ad0 n0 ad H locs ls X hl (okS_push ok ⟨by decide, by decide⟩))
theorem wp_mmax {i : Nat} {x y : Int} (hd : decode J.2.1 pc = .ok (.invokestatic i, 3)) (hlk : Cond.methodLink J.1.cls i Lib.Math.max.name ∈ TB) (h1 : Cond.static Lib.Math.max.name ∈ TB) (h2 : Cond.initialized "java/lang/Math" ∈ TB) (h3 : Cond.code Lib.Math.max.name Lib.Math.max.code 2 (some .int) ∈ TB) (hm : k ≤ J.2.2.2.2.2.1 ∧ z ≤ J.2.2.2.2.2.2.1) (hf : 1 ≤ J.2.2.2.2.1) (hlo : (st.map cat).sum + 13 ≤ J.2.2.2.2.2.2.2) (kk : Wp G J k z (pc + 3) L (pI (if x < y then y else x) :: st) n R M Q) : Wp G J k z pc L (pI y :: pI x :: st) n R M Q := by
  intro p e s m args below meth c cx ad0 n0 ad H locs ls X hl ok
  have ts := cx.2.2.2.2.2.2.2.1
  obtain ⟨oy, ok1⟩ := okS_pop ok
  obtain ⟨ox, ok2⟩ := okS_pop ok1
  refine va_mmax cx.1 cx.2.1 (cx.2.2.2.1.trans hl.1.symm) cx.2.2.2.2.1 (ts _ hlk) (ts _ h1) (ts _ h2) (ts _ h3) hf (by rw [scat]; exact hlo) hm.1 hm.2 hd ?_
  have e1 : (if Int32.ofInt x < Int32.ofInt y then Int32.ofInt y else Int32.ofInt x) = Int32.ofInt (if x < y then y else x) := by
    by_cases h : x < y
    · rw [if_pos h, if_pos ((l32 ox oy).mpr h)]
    · rw [if_neg h, if_neg (fun q => h ((l32 ox oy).mp q))]
  rw [e1]
  exact kk p e s m args below meth c cx ad0 n0 ad H locs ls X hl (okS_push ok2 (by show R32 _; split; exact oy; exact ox))
theorem wp_mmin {i : Nat} {x y : Int} (hd : decode J.2.1 pc = .ok (.invokestatic i, 3)) (hlk : Cond.methodLink J.1.cls i Lib.Math.min.name ∈ TB) (h1 : Cond.static Lib.Math.min.name ∈ TB) (h2 : Cond.initialized "java/lang/Math" ∈ TB) (h3 : Cond.code Lib.Math.min.name Lib.Math.min.code 2 (some .int) ∈ TB) (hm : k ≤ J.2.2.2.2.2.1 ∧ z ≤ J.2.2.2.2.2.2.1) (hf : 1 ≤ J.2.2.2.2.1) (hlo : (st.map cat).sum + 13 ≤ J.2.2.2.2.2.2.2) (kk : Wp G J k z (pc + 3) L (pI (if y < x then y else x) :: st) n R M Q) : Wp G J k z pc L (pI y :: pI x :: st) n R M Q := by
  intro p e s m args below meth c cx ad0 n0 ad H locs ls X hl ok
  have ts := cx.2.2.2.2.2.2.2.1
  obtain ⟨oy, ok1⟩ := okS_pop ok
  obtain ⟨ox, ok2⟩ := okS_pop ok1
  refine va_mmin cx.1 cx.2.1 (cx.2.2.2.1.trans hl.1.symm) cx.2.2.2.2.1 (ts _ hlk) (ts _ h1) (ts _ h2) (ts _ h3) hf (by rw [scat]; exact hlo) hm.1 hm.2 hd ?_
  have e1 : (if Int32.ofInt y < Int32.ofInt x then Int32.ofInt y else Int32.ofInt x) = Int32.ofInt (if y < x then y else x) := by
    by_cases h : y < x
    · rw [if_pos h, if_pos ((l32 oy ox).mpr h)]
    · rw [if_neg h, if_neg (fun q => h ((l32 oy ox).mp q))]
  rw [e1]
  exact kk p e s m args below meth c cx ad0 n0 ad H locs ls X hl (okS_push ok2 (by show R32 _; split; exact oy; exact ox))
theorem wp_bret0 (hd : decode J.2.1 pc = .ok (.ireturn, 1)) (hr : J.2.2.2.1 = some .byte) (hm : k ≤ J.2.2.2.2.2.1 ∧ z ≤ J.2.2.2.2.2.2.1) (hq : Q (some (pI 0)) n R M) : Wp G J k z pc L [pI 0] n R M Q := by
  intro p e s m args below meth c cx ad0 n0 ad H locs ls X hl ok
  refine W.widen hm.1 hm.2 ?_
  exact W.zret (ty := .byte) (hlocks := cx.2.2.2.2.2.1) cx.1 cx.2.1 (cx.2.2.1.trans hr) rfl (fun t ht hW => QP_of X hq (fun v hv => by cases hv; exact (okS_pop ok).1) ht) X.2.2.2.2.2.2.2.2.2 hd
end PNEW
end
section
/-! the cells' references, once the constructors are through -/
def RF (o k : Nat) : Option Nat :=
  if SH o = (3, 2) ∨ SH o = (10, 3) ∨ SH o = (2, 3) then (if k = 0 then some (o + 1) else none)
  else if o = 0 then (match k with | 0 => some 1 | 1 => some 40 | 2 => some 73 | 3 => some 84 | 4 => some 86 | 5 => some 92 | _ => none)
  else if o = 1 then (match k with | 0 => some 2 | 1 => some 3 | 2 => some 4 | 3 => some 5 | _ => none)
  else if o = 2 then (if k < 2 then some (6 + 2 * k) else none)
  else if o = 3 then (if k < 6 then some (10 + 2 * k) else none)
  else if o = 4 then (if k < 6 then some (22 + k) else none)
  else if o = 5 then (if k < 12 then some (28 + k) else none)
  else if o = 40 then (match k with | 0 => some 41 | 1 => some 42 | 2 => some 43 | 3 => some 44 | 4 => some 46 | 5 => some 47 | 6 => some 48 | _ => none)
  else if o = 41 then (if k < 6 then some (49 + 4 * k) else none)
  else if o = 42 then (if k < 6 then some (51 + 4 * k) else none)
  else if o = 73 then (match k with | 0 => some 74 | 1 => some 75 | _ => none)
  else if o = 74 then (if k < 4 then some (76 + 2 * k) else none)
  else if o = 84 then (if k = 0 then some 85 else none)
  else if o = 86 then (match k with | 0 => some 87 | 1 => some 89 | 2 => some 91 | _ => none)
  else if o = 92 then (if k < 4 then some (93 + 2 * k) else none)
  else if o = 101 then (match k with | 0 => some 102 | 1 => some 103 | 2 => some 104 | 3 => some 105 | 5 => some 106 | 6 => some 107 | 8 => some 108 | 9 => some 109 | 11 => some 110 | 13 => some 111 | 15 => some 112 | 16 => some 113 | 17 => some 114 | 18 => some 115 | 19 => some 116 | 20 => some 117 | 21 => some 118 | 22 => some 119 | 23 => some 120 | 24 => some 121 | 25 => some 122 | _ => none)
  else none
def TU (o : Nat) : Prop := SH o = (3, 2) ∧ SH (o + 1) = (20, 40) ∧ RF o 0 = some (o + 1) ∧ o + 1 < NN
def SE (o : Nat) : Prop := SH o = (10, 3) ∧ SH (o + 1) = (20, 60) ∧ RF o 0 = some (o + 1) ∧ o + 1 < NN
def TX (o N : Nat) : Prop := SH o = (2, 3) ∧ SH (o + 1) = (20, N) ∧ RF o 0 = some (o + 1) ∧ o + 1 < NN
def BO (o : Nat) : Prop := SH o = (4, 3) ∧ o < NN
def LO (o : Nat) : Prop := SH o = (5, 7) ∧ o < NN
def AR (o N : Nat) : Prop := SH o = (20, N) ∧ o < NN
theorem k_tunes : ∀ i, i < 6 → RF 3 i = some (10 + 2 * i) ∧ TU (10 + 2 * i) := by
  intro i h
  match i, h with
  | 0, _ => exact ⟨rfl, ⟨rfl, rfl, rfl, by decide⟩⟩
  | 1, _ => exact ⟨rfl, ⟨rfl, rfl, rfl, by decide⟩⟩
  | 2, _ => exact ⟨rfl, ⟨rfl, rfl, rfl, by decide⟩⟩
  | 3, _ => exact ⟨rfl, ⟨rfl, rfl, rfl, by decide⟩⟩
  | 4, _ => exact ⟨rfl, ⟨rfl, rfl, rfl, by decide⟩⟩
  | 5, _ => exact ⟨rfl, ⟨rfl, rfl, rfl, by decide⟩⟩
theorem k_now : ∀ i, i < 6 → RF 41 i = some (49 + 4 * i) ∧ TU (49 + 4 * i) := by
  intro i h
  match i, h with
  | 0, _ => exact ⟨rfl, ⟨rfl, rfl, rfl, by decide⟩⟩
  | 1, _ => exact ⟨rfl, ⟨rfl, rfl, rfl, by decide⟩⟩
  | 2, _ => exact ⟨rfl, ⟨rfl, rfl, rfl, by decide⟩⟩
  | 3, _ => exact ⟨rfl, ⟨rfl, rfl, rfl, by decide⟩⟩
  | 4, _ => exact ⟨rfl, ⟨rfl, rfl, rfl, by decide⟩⟩
  | 5, _ => exact ⟨rfl, ⟨rfl, rfl, rfl, by decide⟩⟩
theorem k_lent : ∀ i, i < 6 → RF 42 i = some (51 + 4 * i) ∧ TU (51 + 4 * i) := by
  intro i h
  match i, h with
  | 0, _ => exact ⟨rfl, ⟨rfl, rfl, rfl, by decide⟩⟩
  | 1, _ => exact ⟨rfl, ⟨rfl, rfl, rfl, by decide⟩⟩
  | 2, _ => exact ⟨rfl, ⟨rfl, rfl, rfl, by decide⟩⟩
  | 3, _ => exact ⟨rfl, ⟨rfl, rfl, rfl, by decide⟩⟩
  | 4, _ => exact ⟨rfl, ⟨rfl, rfl, rfl, by decide⟩⟩
  | 5, _ => exact ⟨rfl, ⟨rfl, rfl, rfl, by decide⟩⟩
theorem k_hummed : ∀ i, i < 4 → RF 74 i = some (76 + 2 * i) ∧ TU (76 + 2 * i) := by
  intro i h
  match i, h with
  | 0, _ => exact ⟨rfl, ⟨rfl, rfl, rfl, by decide⟩⟩
  | 1, _ => exact ⟨rfl, ⟨rfl, rfl, rfl, by decide⟩⟩
  | 2, _ => exact ⟨rfl, ⟨rfl, rfl, rfl, by decide⟩⟩
  | 3, _ => exact ⟨rfl, ⟨rfl, rfl, rfl, by decide⟩⟩
theorem k_sheets : ∀ i, i < 4 → RF 92 i = some (93 + 2 * i) ∧ SE (93 + 2 * i) := by
  intro i h
  match i, h with
  | 0, _ => exact ⟨rfl, ⟨rfl, rfl, rfl, by decide⟩⟩
  | 1, _ => exact ⟨rfl, ⟨rfl, rfl, rfl, by decide⟩⟩
  | 2, _ => exact ⟨rfl, ⟨rfl, rfl, rfl, by decide⟩⟩
  | 3, _ => exact ⟨rfl, ⟨rfl, rfl, rfl, by decide⟩⟩
theorem k_borrowers : ∀ i, i < 6 → RF 4 i = some (22 + i) ∧ BO (22 + i) := by
  intro i h
  match i, h with
  | 0, _ => exact ⟨rfl, rfl, by decide⟩
  | 1, _ => exact ⟨rfl, rfl, by decide⟩
  | 2, _ => exact ⟨rfl, rfl, by decide⟩
  | 3, _ => exact ⟨rfl, rfl, by decide⟩
  | 4, _ => exact ⟨rfl, rfl, by decide⟩
  | 5, _ => exact ⟨rfl, rfl, by decide⟩
theorem k_loans : ∀ i, i < 12 → RF 5 i = some (28 + i) ∧ LO (28 + i) := by
  intro i h
  match i, h with
  | 0, _ => exact ⟨rfl, rfl, by decide⟩
  | 1, _ => exact ⟨rfl, rfl, by decide⟩
  | 2, _ => exact ⟨rfl, rfl, by decide⟩
  | 3, _ => exact ⟨rfl, rfl, by decide⟩
  | 4, _ => exact ⟨rfl, rfl, by decide⟩
  | 5, _ => exact ⟨rfl, rfl, by decide⟩
  | 6, _ => exact ⟨rfl, rfl, by decide⟩
  | 7, _ => exact ⟨rfl, rfl, by decide⟩
  | 8, _ => exact ⟨rfl, rfl, by decide⟩
  | 9, _ => exact ⟨rfl, rfl, by decide⟩
  | 10, _ => exact ⟨rfl, rfl, by decide⟩
  | 11, _ => exact ⟨rfl, rfl, by decide⟩
theorem k_text0 : RF 2 0 = some 6 ∧ TX 6 59 := ⟨rfl, rfl, rfl, rfl, by decide⟩
theorem k_text1 : RF 2 1 = some 8 ∧ TX 8 23 := ⟨rfl, rfl, rfl, rfl, by decide⟩
theorem tu_spare : TU 44 := ⟨rfl, rfl, rfl, by decide⟩
theorem tu_chnow : TU 87 := ⟨rfl, rfl, rfl, by decide⟩
theorem tu_chspare : TU 89 := ⟨rfl, rfl, rfl, by decide⟩
theorem nat_lt {i : Int} {N : Nat} (h0 : 0 ≤ i) (h1 : i < (N : Int)) : i.toNat < N := by omega
section PW
variable (G : GT) (J : MD) (pc : Nat) (L : LT) (st : List PV) (M : MT)
/-- at a place in a method that makes no cell: it comes to an answer, with this -/
def WpI (P : Int → MT → Prop) : Prop := Wp G J 0 0 pc L st NN RF M (fun r n R M' => ∃ x : Int, r = some (pI x) ∧ n = NN ∧ R = RF ∧ P x M')
def WpL (P : Int → MT → Prop) : Prop := Wp G J 0 0 pc L st NN RF M (fun r n R M' => ∃ x : Int, r = some (pL x) ∧ n = NN ∧ R = RF ∧ P x M')
def WpR (P : Nat → MT → Prop) : Prop := Wp G J 0 0 pc L st NN RF M (fun r n R M' => ∃ x : Nat, r = some (pR x) ∧ n = NN ∧ R = RF ∧ P x M')
def WpV (P : MT → Prop) : Prop := Wp G J 0 0 pc L st NN RF M (fun r n R M' => r = none ∧ n = NN ∧ R = RF ∧ P M')
variable (as : List PV)
/-- a call of it -/
def ClI (P : Int → MT → Prop) : Prop := WpI G J 0 (entL 0 as) [] M P
def ClL (P : Int → MT → Prop) : Prop := WpL G J 0 (entL 0 as) [] M P
def ClR (P : Nat → MT → Prop) : Prop := WpR G J 0 (entL 0 as) [] M P
def ClV (P : MT → Prop) : Prop := WpV G J 0 (entL 0 as) [] M P
end PW
section PW2
variable {G : GT} {J : MD} {pc : Nat} {L : LT} {st : List PV} {M : MT} {as : List PV}
theorem WpI.mono {P P' : Int → MT → Prop} (h : WpI G J pc L st M P) (hp : ∀ x M', P x M' → P' x M') : WpI G J pc L st M P' := Wp_mono h (fun r n R M' ⟨x, a, b, c, d⟩ => ⟨x, a, b, c, hp x M' d⟩)
theorem WpL.mono {P P' : Int → MT → Prop} (h : WpL G J pc L st M P) (hp : ∀ x M', P x M' → P' x M') : WpL G J pc L st M P' := Wp_mono h (fun r n R M' ⟨x, a, b, c, d⟩ => ⟨x, a, b, c, hp x M' d⟩)
theorem WpR.mono {P P' : Nat → MT → Prop} (h : WpR G J pc L st M P) (hp : ∀ x M', P x M' → P' x M') : WpR G J pc L st M P' := Wp_mono h (fun r n R M' ⟨x, a, b, c, d⟩ => ⟨x, a, b, c, hp x M' d⟩)
theorem WpV.mono {P P' : MT → Prop} (h : WpV G J pc L st M P) (hp : ∀ M', P M' → P' M') : WpV G J pc L st M P' := Wp_mono h (fun r n R M' ⟨a, b, c, d⟩ => ⟨a, b, c, hp M' d⟩)
theorem ClI.mono {P P' : Int → MT → Prop} (h : ClI G J M as P) (hp : ∀ x M', P x M' → P' x M') : ClI G J M as P' := WpI.mono h hp
theorem ClL.mono {P P' : Int → MT → Prop} (h : ClL G J M as P) (hp : ∀ x M', P x M' → P' x M') : ClL G J M as P' := WpL.mono h hp
theorem ClR.mono {P P' : Nat → MT → Prop} (h : ClR G J M as P) (hp : ∀ x M', P x M' → P' x M') : ClR G J M as P' := WpR.mono h hp
theorem ClV.mono {P P' : MT → Prop} (h : ClV G J M as P) (hp : ∀ M', P M' → P' M') : ClV G J M as P' := WpV.mono h hp
theorem clI_k {Q : QT} {P : Int → MT → Prop} (h : ClI G J M as P) (hq : ∀ x M', P x M' → Q (some (pI x)) NN RF M') : Cl G J as NN RF M Q := Wp_mono h (fun r n R M' ⟨x, a, b, c, d⟩ => by subst a; subst b; subst c; exact hq x M' d)
theorem clL_k {Q : QT} {P : Int → MT → Prop} (h : ClL G J M as P) (hq : ∀ x M', P x M' → Q (some (pL x)) NN RF M') : Cl G J as NN RF M Q := Wp_mono h (fun r n R M' ⟨x, a, b, c, d⟩ => by subst a; subst b; subst c; exact hq x M' d)
theorem clR_k {Q : QT} {P : Nat → MT → Prop} (h : ClR G J M as P) (hq : ∀ x M', P x M' → Q (some (pR x)) NN RF M') : Cl G J as NN RF M Q := Wp_mono h (fun r n R M' ⟨x, a, b, c, d⟩ => by subst a; subst b; subst c; exact hq x M' d)
theorem clV_k {Q : QT} {P : MT → Prop} (h : ClV G J M as P) (hq : ∀ M', P M' → Q none NN RF M') : Cl G J as NN RF M Q := Wp_mono h (fun r n R M' ⟨a, b, c, d⟩ => by subst a; subst b; subst c; exact hq M' d)
end PW2
end
