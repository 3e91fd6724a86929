section
-- ===== PART A: goes FIRST, ahead of the names: the tables' words, and 'selects' of the private methods out of them =====
/-- a private method of a class that the tables say can be made, by its rows of tables_1 -/
def lw_okq (q : MethodName × Nat) : Prop := (q.1.cls ≠ "java/lang/invoke/MethodHandle" ∧ q.1.cls ≠ "java/lang/invoke/VarHandle") ∧ Cond.instantiable q.1.cls q.2 ∈ tables_1 ∧ Cond.privateMethod q.1 ∈ tables_1 ∧ Cond.instanceMethod q.1 ∈ tables_1
theorem lw_p0 : lw_okq (⟨"java/lang/Throwable", "fillInStackTrace", "(I)Ljava/lang/Throwable;"⟩, 6) := ⟨⟨by decide +kernel, by decide +kernel⟩, List.mem_of_getElem? (i := 358) (by decide +kernel), List.mem_of_getElem? (i := 356) (by decide +kernel), List.mem_of_getElem? (i := 357) (by decide +kernel)⟩
theorem lw_p1 : lw_okq (⟨"PerfgaugeHouse$Sheet", "placeFrom", "(III)Z"⟩, 8) := ⟨⟨by decide +kernel, by decide +kernel⟩, List.mem_of_getElem? (i := 88) (by decide +kernel), List.mem_of_getElem? (i := 406) (by decide +kernel), List.mem_of_getElem? (i := 407) (by decide +kernel)⟩
theorem lw_p2 : lw_okq (⟨"PerfgaugeHouse$Sheet", "placeLast", "(II)Z"⟩, 8) := ⟨⟨by decide +kernel, by decide +kernel⟩, List.mem_of_getElem? (i := 88) (by decide +kernel), List.mem_of_getElem? (i := 414) (by decide +kernel), List.mem_of_getElem? (i := 415) (by decide +kernel)⟩
theorem lw_p3 : lw_okq (⟨"java/util/ArrayList", "add", "(Ljava/lang/Object;[Ljava/lang/Object;I)V"⟩, 3) := ⟨⟨by decide +kernel, by decide +kernel⟩, List.mem_of_getElem? (i := 61) (by decide +kernel), List.mem_of_getElem? (i := 541) (by decide +kernel), List.mem_of_getElem? (i := 542) (by decide +kernel)⟩
theorem lw_p4 : lw_okq (⟨"java/util/ArrayList", "grow", "()[Ljava/lang/Object;"⟩, 3) := ⟨⟨by decide +kernel, by decide +kernel⟩, List.mem_of_getElem? (i := 61) (by decide +kernel), List.mem_of_getElem? (i := 545) (by decide +kernel), List.mem_of_getElem? (i := 546) (by decide +kernel)⟩
theorem lw_p5 : lw_okq (⟨"java/util/ArrayList", "grow", "(I)[Ljava/lang/Object;"⟩, 3) := ⟨⟨by decide +kernel, by decide +kernel⟩, List.mem_of_getElem? (i := 61) (by decide +kernel), List.mem_of_getElem? (i := 549) (by decide +kernel), List.mem_of_getElem? (i := 550) (by decide +kernel)⟩
theorem lw_p6 : lw_okq (⟨"PerfgaugeHouse", "hasRoomForPiece", "(I)Z"⟩, 15) := ⟨⟨by decide +kernel, by decide +kernel⟩, List.mem_of_getElem? (i := 31) (by decide +kernel), List.mem_of_getElem? (i := 646) (by decide +kernel), List.mem_of_getElem? (i := 647) (by decide +kernel)⟩
theorem lw_p7 : lw_okq (⟨"PerfgaugeHouse", "keepPiece", "(LPerfgaugeHouse$Piece;)V"⟩, 15) := ⟨⟨by decide +kernel, by decide +kernel⟩, List.mem_of_getElem? (i := 31) (by decide +kernel), List.mem_of_getElem? (i := 718) (by decide +kernel), List.mem_of_getElem? (i := 719) (by decide +kernel)⟩
theorem lw_p8 : lw_okq (⟨"PerfgaugeHouse$Piece", "fitsAt", "(LPerfgaugeHouse$Plate;II)Z"⟩, 16) := ⟨⟨by decide +kernel, by decide +kernel⟩, List.mem_of_getElem? (i := 650) (by decide +kernel), List.mem_of_getElem? (i := 727) (by decide +kernel), List.mem_of_getElem? (i := 728) (by decide +kernel)⟩
theorem lw_p9 : lw_okq (⟨"PerfgaugeHouse", "isPiece", "(I)Z"⟩, 15) := ⟨⟨by decide +kernel, by decide +kernel⟩, List.mem_of_getElem? (i := 31) (by decide +kernel), List.mem_of_getElem? (i := 770) (by decide +kernel), List.mem_of_getElem? (i := 771) (by decide +kernel)⟩
theorem lw_p10 : lw_okq (⟨"PerfgaugeHouse$Post", "shortenThrough", "(I)V"⟩, 7) := ⟨⟨by decide +kernel, by decide +kernel⟩, List.mem_of_getElem? (i := 125) (by decide +kernel), List.mem_of_getElem? (i := 801) (by decide +kernel), List.mem_of_getElem? (i := 802) (by decide +kernel)⟩
theorem lw_p11 : lw_okq (⟨"PerfgaugeHouse", "isCoverNumber", "(I)Z"⟩, 15) := ⟨⟨by decide +kernel, by decide +kernel⟩, List.mem_of_getElem? (i := 31) (by decide +kernel), List.mem_of_getElem? (i := 855) (by decide +kernel), List.mem_of_getElem? (i := 856) (by decide +kernel)⟩
theorem lw_p12 : lw_okq (⟨"PerfgaugeHouse", "isIssue", "(I)Z"⟩, 15) := ⟨⟨by decide +kernel, by decide +kernel⟩, List.mem_of_getElem? (i := 31) (by decide +kernel), List.mem_of_getElem? (i := 859) (by decide +kernel), List.mem_of_getElem? (i := 860) (by decide +kernel)⟩
theorem lw_p13 : lw_okq (⟨"PerfgaugeHouse", "paidFor", "(LPerfgaugeHouse$Cover;)I"⟩, 15) := ⟨⟨by decide +kernel, by decide +kernel⟩, List.mem_of_getElem? (i := 31) (by decide +kernel), List.mem_of_getElem? (i := 863) (by decide +kernel), List.mem_of_getElem? (i := 864) (by decide +kernel)⟩
theorem lw_p14 : lw_okq (⟨"PerfgaugeHouse$Experts", "heldBy", "(III)I"⟩, 6) := ⟨⟨by decide +kernel, by decide +kernel⟩, List.mem_of_getElem? (i := 171) (by decide +kernel), List.mem_of_getElem? (i := 902) (by decide +kernel), List.mem_of_getElem? (i := 903) (by decide +kernel)⟩
theorem lw_p15 : lw_okq (⟨"PerfgaugeHouse", "mixFaces", "(J)J"⟩, 15) := ⟨⟨by decide +kernel, by decide +kernel⟩, List.mem_of_getElem? (i := 31) (by decide +kernel), List.mem_of_getElem? (i := 995) (by decide +kernel), List.mem_of_getElem? (i := 996) (by decide +kernel)⟩
def lw_privs_1 : List (MethodName × Nat) := [(⟨"java/lang/Throwable", "fillInStackTrace", "(I)Ljava/lang/Throwable;"⟩, 6), (⟨"PerfgaugeHouse$Sheet", "placeFrom", "(III)Z"⟩, 8), (⟨"PerfgaugeHouse$Sheet", "placeLast", "(II)Z"⟩, 8), (⟨"java/util/ArrayList", "add", "(Ljava/lang/Object;[Ljava/lang/Object;I)V"⟩, 3), (⟨"java/util/ArrayList", "grow", "()[Ljava/lang/Object;"⟩, 3), (⟨"java/util/ArrayList", "grow", "(I)[Ljava/lang/Object;"⟩, 3), (⟨"PerfgaugeHouse", "hasRoomForPiece", "(I)Z"⟩, 15), (⟨"PerfgaugeHouse", "keepPiece", "(LPerfgaugeHouse$Piece;)V"⟩, 15), (⟨"PerfgaugeHouse$Piece", "fitsAt", "(LPerfgaugeHouse$Plate;II)Z"⟩, 16), (⟨"PerfgaugeHouse", "isPiece", "(I)Z"⟩, 15), (⟨"PerfgaugeHouse$Post", "shortenThrough", "(I)V"⟩, 7), (⟨"PerfgaugeHouse", "isCoverNumber", "(I)Z"⟩, 15), (⟨"PerfgaugeHouse", "isIssue", "(I)Z"⟩, 15), (⟨"PerfgaugeHouse", "paidFor", "(LPerfgaugeHouse$Cover;)I"⟩, 15), (⟨"PerfgaugeHouse$Experts", "heldBy", "(III)I"⟩, 6), (⟨"PerfgaugeHouse", "mixFaces", "(J)J"⟩, 15)]
theorem lw_r1 : ∀ q ∈ lw_privs_1, lw_okq q := List.forall_mem_cons.mpr ⟨lw_p0, List.forall_mem_cons.mpr ⟨lw_p1, List.forall_mem_cons.mpr ⟨lw_p2, List.forall_mem_cons.mpr ⟨lw_p3, List.forall_mem_cons.mpr ⟨lw_p4, List.forall_mem_cons.mpr ⟨lw_p5, List.forall_mem_cons.mpr ⟨lw_p6, List.forall_mem_cons.mpr ⟨lw_p7, List.forall_mem_cons.mpr ⟨lw_p8, List.forall_mem_cons.mpr ⟨lw_p9, List.forall_mem_cons.mpr ⟨lw_p10, List.forall_mem_cons.mpr ⟨lw_p11, List.forall_mem_cons.mpr ⟨lw_p12, List.forall_mem_cons.mpr ⟨lw_p13, List.forall_mem_cons.mpr ⟨lw_p14, List.forall_mem_cons.mpr ⟨lw_p15, fun _ h => absurd h List.not_mem_nil⟩⟩⟩⟩⟩⟩⟩⟩⟩⟩⟩⟩⟩⟩⟩⟩
theorem lw_p16 : lw_okq (⟨"PerfgaugeHouse", "mixSheets", "(J)J"⟩, 15) := ⟨⟨by decide +kernel, by decide +kernel⟩, List.mem_of_getElem? (i := 31) (by decide +kernel), List.mem_of_getElem? (i := 1000) (by decide +kernel), List.mem_of_getElem? (i := 1001) (by decide +kernel)⟩
theorem lw_p17 : lw_okq (⟨"PerfgaugeHouse", "mixPieces", "(J)J"⟩, 15) := ⟨⟨by decide +kernel, by decide +kernel⟩, List.mem_of_getElem? (i := 31) (by decide +kernel), List.mem_of_getElem? (i := 1012) (by decide +kernel), List.mem_of_getElem? (i := 1013) (by decide +kernel)⟩
theorem lw_p18 : lw_okq (⟨"PerfgaugeHouse", "certainPosition", "(LPerfgaugeHouse$Piece;)I"⟩, 15) := ⟨⟨by decide +kernel, by decide +kernel⟩, List.mem_of_getElem? (i := 31) (by decide +kernel), List.mem_of_getElem? (i := 1030) (by decide +kernel), List.mem_of_getElem? (i := 1031) (by decide +kernel)⟩
theorem lw_p19 : lw_okq (⟨"PerfgaugeHouse", "alikeTo", "(LPerfgaugeHouse$Piece;)I"⟩, 15) := ⟨⟨by decide +kernel, by decide +kernel⟩, List.mem_of_getElem? (i := 31) (by decide +kernel), List.mem_of_getElem? (i := 1035) (by decide +kernel), List.mem_of_getElem? (i := 1036) (by decide +kernel)⟩
theorem lw_p20 : lw_okq (⟨"PerfgaugeHouse", "isContradicted", "(LPerfgaugeHouse$Piece;)Z"⟩, 15) := ⟨⟨by decide +kernel, by decide +kernel⟩, List.mem_of_getElem? (i := 31) (by decide +kernel), List.mem_of_getElem? (i := 1087) (by decide +kernel), List.mem_of_getElem? (i := 1088) (by decide +kernel)⟩
theorem lw_p21 : lw_okq (⟨"PerfgaugeHouse", "valueOf", "(LPerfgaugeHouse$Piece;)I"⟩, 15) := ⟨⟨by decide +kernel, by decide +kernel⟩, List.mem_of_getElem? (i := 31) (by decide +kernel), List.mem_of_getElem? (i := 1096) (by decide +kernel), List.mem_of_getElem? (i := 1097) (by decide +kernel)⟩
theorem lw_p22 : lw_okq (⟨"PerfgaugeHouse", "isBad", "(I)Z"⟩, 15) := ⟨⟨by decide +kernel, by decide +kernel⟩, List.mem_of_getElem? (i := 31) (by decide +kernel), List.mem_of_getElem? (i := 1100) (by decide +kernel), List.mem_of_getElem? (i := 1101) (by decide +kernel)⟩
theorem lw_p23 : lw_okq (⟨"PerfgaugeHouse", "mixCovers", "(J)J"⟩, 15) := ⟨⟨by decide +kernel, by decide +kernel⟩, List.mem_of_getElem? (i := 31) (by decide +kernel), List.mem_of_getElem? (i := 1109) (by decide +kernel), List.mem_of_getElem? (i := 1110) (by decide +kernel)⟩
theorem lw_p24 : lw_okq (⟨"PerfgaugeHouse", "faultsOf", "(LPerfgaugeHouse$Cover;)I"⟩, 15) := ⟨⟨by decide +kernel, by decide +kernel⟩, List.mem_of_getElem? (i := 31) (by decide +kernel), List.mem_of_getElem? (i := 1117) (by decide +kernel), List.mem_of_getElem? (i := 1118) (by decide +kernel)⟩
theorem lw_p25 : lw_okq (⟨"PerfgaugeHouse", "dieFaults", "(LPerfgaugeHouse$Cover;)I"⟩, 15) := ⟨⟨by decide +kernel, by decide +kernel⟩, List.mem_of_getElem? (i := 31) (by decide +kernel), List.mem_of_getElem? (i := 1121) (by decide +kernel), List.mem_of_getElem? (i := 1122) (by decide +kernel)⟩
theorem lw_p26 : lw_okq (⟨"PerfgaugeHouse", "stampFaults", "(LPerfgaugeHouse$Cover;)I"⟩, 15) := ⟨⟨by decide +kernel, by decide +kernel⟩, List.mem_of_getElem? (i := 31) (by decide +kernel), List.mem_of_getElem? (i := 1129) (by decide +kernel), List.mem_of_getElem? (i := 1130) (by decide +kernel)⟩
theorem lw_p27 : lw_okq (⟨"PerfgaugeHouse", "wayFaults", "(LPerfgaugeHouse$Cover;)I"⟩, 15) := ⟨⟨by decide +kernel, by decide +kernel⟩, List.mem_of_getElem? (i := 31) (by decide +kernel), List.mem_of_getElem? (i := 1133) (by decide +kernel), List.mem_of_getElem? (i := 1134) (by decide +kernel)⟩
theorem lw_p28 : lw_okq (⟨"PerfgaugeHouse", "priceFor", "(LPerfgaugeHouse$Cover;)I"⟩, 15) := ⟨⟨by decide +kernel, by decide +kernel⟩, List.mem_of_getElem? (i := 31) (by decide +kernel), List.mem_of_getElem? (i := 1137) (by decide +kernel), List.mem_of_getElem? (i := 1138) (by decide +kernel)⟩
theorem lw_p29 : lw_okq (⟨"PerfgaugeHouse$Post", "goesBefore", "(II)Z"⟩, 7) := ⟨⟨by decide +kernel, by decide +kernel⟩, List.mem_of_getElem? (i := 125) (by decide +kernel), List.mem_of_getElem? (i := 1149) (by decide +kernel), List.mem_of_getElem? (i := 1150) (by decide +kernel)⟩
theorem lw_p30 : lw_okq (⟨"PerfgaugeHouse", "isImpossible", "(LPerfgaugeHouse$Cover;)Z"⟩, 15) := ⟨⟨by decide +kernel, by decide +kernel⟩, List.mem_of_getElem? (i := 31) (by decide +kernel), List.mem_of_getElem? (i := 1160) (by decide +kernel), List.mem_of_getElem? (i := 1161) (by decide +kernel)⟩
theorem lw_p31 : lw_okq (⟨"PerfgaugeHouse", "wearOf", "(I)I"⟩, 15) := ⟨⟨by decide +kernel, by decide +kernel⟩, List.mem_of_getElem? (i := 31) (by decide +kernel), List.mem_of_getElem? (i := 1164) (by decide +kernel), List.mem_of_getElem? (i := 1165) (by decide +kernel)⟩
def lw_privs_2 : List (MethodName × Nat) := [(⟨"PerfgaugeHouse", "mixSheets", "(J)J"⟩, 15), (⟨"PerfgaugeHouse", "mixPieces", "(J)J"⟩, 15), (⟨"PerfgaugeHouse", "certainPosition", "(LPerfgaugeHouse$Piece;)I"⟩, 15), (⟨"PerfgaugeHouse", "alikeTo", "(LPerfgaugeHouse$Piece;)I"⟩, 15), (⟨"PerfgaugeHouse", "isContradicted", "(LPerfgaugeHouse$Piece;)Z"⟩, 15), (⟨"PerfgaugeHouse", "valueOf", "(LPerfgaugeHouse$Piece;)I"⟩, 15), (⟨"PerfgaugeHouse", "isBad", "(I)Z"⟩, 15), (⟨"PerfgaugeHouse", "mixCovers", "(J)J"⟩, 15), (⟨"PerfgaugeHouse", "faultsOf", "(LPerfgaugeHouse$Cover;)I"⟩, 15), (⟨"PerfgaugeHouse", "dieFaults", "(LPerfgaugeHouse$Cover;)I"⟩, 15), (⟨"PerfgaugeHouse", "stampFaults", "(LPerfgaugeHouse$Cover;)I"⟩, 15), (⟨"PerfgaugeHouse", "wayFaults", "(LPerfgaugeHouse$Cover;)I"⟩, 15), (⟨"PerfgaugeHouse", "priceFor", "(LPerfgaugeHouse$Cover;)I"⟩, 15), (⟨"PerfgaugeHouse$Post", "goesBefore", "(II)Z"⟩, 7), (⟨"PerfgaugeHouse", "isImpossible", "(LPerfgaugeHouse$Cover;)Z"⟩, 15), (⟨"PerfgaugeHouse", "wearOf", "(I)I"⟩, 15)]
theorem lw_r2 : ∀ q ∈ lw_privs_2, lw_okq q := List.forall_mem_cons.mpr ⟨lw_p16, List.forall_mem_cons.mpr ⟨lw_p17, List.forall_mem_cons.mpr ⟨lw_p18, List.forall_mem_cons.mpr ⟨lw_p19, List.forall_mem_cons.mpr ⟨lw_p20, List.forall_mem_cons.mpr ⟨lw_p21, List.forall_mem_cons.mpr ⟨lw_p22, List.forall_mem_cons.mpr ⟨lw_p23, List.forall_mem_cons.mpr ⟨lw_p24, List.forall_mem_cons.mpr ⟨lw_p25, List.forall_mem_cons.mpr ⟨lw_p26, List.forall_mem_cons.mpr ⟨lw_p27, List.forall_mem_cons.mpr ⟨lw_p28, List.forall_mem_cons.mpr ⟨lw_p29, List.forall_mem_cons.mpr ⟨lw_p30, List.forall_mem_cons.mpr ⟨lw_p31, fun _ h => absurd h List.not_mem_nil⟩⟩⟩⟩⟩⟩⟩⟩⟩⟩⟩⟩⟩⟩⟩⟩
theorem lw_p32 : lw_okq (⟨"PerfgaugeHouse", "fewestFor", "(II)I"⟩, 15) := ⟨⟨by decide +kernel, by decide +kernel⟩, List.mem_of_getElem? (i := 31) (by decide +kernel), List.mem_of_getElem? (i := 1172) (by decide +kernel), List.mem_of_getElem? (i := 1173) (by decide +kernel)⟩
theorem lw_p33 : lw_okq (⟨"PerfgaugeHouse", "mixIssues", "(J)J"⟩, 15) := ⟨⟨by decide +kernel, by decide +kernel⟩, List.mem_of_getElem? (i := 31) (by decide +kernel), List.mem_of_getElem? (i := 1177) (by decide +kernel), List.mem_of_getElem? (i := 1178) (by decide +kernel)⟩
theorem lw_p34 : lw_okq (⟨"PerfgaugeHouse", "scarcityOf", "(I)I"⟩, 15) := ⟨⟨by decide +kernel, by decide +kernel⟩, List.mem_of_getElem? (i := 31) (by decide +kernel), List.mem_of_getElem? (i := 1185) (by decide +kernel), List.mem_of_getElem? (i := 1186) (by decide +kernel)⟩
theorem lw_p35 : lw_okq (⟨"PerfgaugeHouse", "mixSale", "(J)J"⟩, 15) := ⟨⟨by decide +kernel, by decide +kernel⟩, List.mem_of_getElem? (i := 31) (by decide +kernel), List.mem_of_getElem? (i := 1189) (by decide +kernel), List.mem_of_getElem? (i := 1190) (by decide +kernel)⟩
theorem lw_p36 : lw_okq (⟨"PerfgaugeHouse", "barredItems", "()I"⟩, 15) := ⟨⟨by decide +kernel, by decide +kernel⟩, List.mem_of_getElem? (i := 31) (by decide +kernel), List.mem_of_getElem? (i := 1197) (by decide +kernel), List.mem_of_getElem? (i := 1198) (by decide +kernel)⟩
theorem lw_p37 : lw_okq (⟨"PerfgaugeHouse$Sale", "countsNow", "(LPerfgaugeHouse$Bid;)Z"⟩, 11) := ⟨⟨by decide +kernel, by decide +kernel⟩, List.mem_of_getElem? (i := 200) (by decide +kernel), List.mem_of_getElem? (i := 1210) (by decide +kernel), List.mem_of_getElem? (i := 1211) (by decide +kernel)⟩
theorem lw_p38 : lw_okq (⟨"PerfgaugeHouse$Sale", "offer", "(LPerfgaugeHouse$Bid;J)V"⟩, 11) := ⟨⟨by decide +kernel, by decide +kernel⟩, List.mem_of_getElem? (i := 200) (by decide +kernel), List.mem_of_getElem? (i := 1215) (by decide +kernel), List.mem_of_getElem? (i := 1216) (by decide +kernel)⟩
theorem lw_p39 : lw_okq (⟨"PerfgaugeHouse$Sale", "isChosen", "(I)Z"⟩, 11) := ⟨⟨by decide +kernel, by decide +kernel⟩, List.mem_of_getElem? (i := 200) (by decide +kernel), List.mem_of_getElem? (i := 1232) (by decide +kernel), List.mem_of_getElem? (i := 1233) (by decide +kernel)⟩
theorem lw_p40 : lw_okq (⟨"PerfgaugeHouse$Sale", "greatestAlone", "(II)I"⟩, 11) := ⟨⟨by decide +kernel, by decide +kernel⟩, List.mem_of_getElem? (i := 200) (by decide +kernel), List.mem_of_getElem? (i := 1248) (by decide +kernel), List.mem_of_getElem? (i := 1249) (by decide +kernel)⟩
theorem lw_p41 : lw_okq (⟨"PerfgaugeHouse$Sale", "isCounting", "(I)Z"⟩, 11) := ⟨⟨by decide +kernel, by decide +kernel⟩, List.mem_of_getElem? (i := 200) (by decide +kernel), List.mem_of_getElem? (i := 1252) (by decide +kernel), List.mem_of_getElem? (i := 1253) (by decide +kernel)⟩
theorem lw_p42 : lw_okq (⟨"PerfgaugeHouse", "bestFrame", "(I)I"⟩, 15) := ⟨⟨by decide +kernel, by decide +kernel⟩, List.mem_of_getElem? (i := 31) (by decide +kernel), List.mem_of_getElem? (i := 1285) (by decide +kernel), List.mem_of_getElem? (i := 1286) (by decide +kernel)⟩
theorem lw_p43 : lw_okq (⟨"PerfgaugeHouse", "areCertainPiecesFitting", "()Z"⟩, 15) := ⟨⟨by decide +kernel, by decide +kernel⟩, List.mem_of_getElem? (i := 31) (by decide +kernel), List.mem_of_getElem? (i := 1293) (by decide +kernel), List.mem_of_getElem? (i := 1294) (by decide +kernel)⟩
theorem lw_p44 : lw_okq (⟨"PerfgaugeHouse", "areWearsOfPossibleCovers", "()Z"⟩, 15) := ⟨⟨by decide +kernel, by decide +kernel⟩, List.mem_of_getElem? (i := 31) (by decide +kernel), List.mem_of_getElem? (i := 1297) (by decide +kernel), List.mem_of_getElem? (i := 1298) (by decide +kernel)⟩
def lw_privs_3 : List (MethodName × Nat) := [(⟨"PerfgaugeHouse", "fewestFor", "(II)I"⟩, 15), (⟨"PerfgaugeHouse", "mixIssues", "(J)J"⟩, 15), (⟨"PerfgaugeHouse", "scarcityOf", "(I)I"⟩, 15), (⟨"PerfgaugeHouse", "mixSale", "(J)J"⟩, 15), (⟨"PerfgaugeHouse", "barredItems", "()I"⟩, 15), (⟨"PerfgaugeHouse$Sale", "countsNow", "(LPerfgaugeHouse$Bid;)Z"⟩, 11), (⟨"PerfgaugeHouse$Sale", "offer", "(LPerfgaugeHouse$Bid;J)V"⟩, 11), (⟨"PerfgaugeHouse$Sale", "isChosen", "(I)Z"⟩, 11), (⟨"PerfgaugeHouse$Sale", "greatestAlone", "(II)I"⟩, 11), (⟨"PerfgaugeHouse$Sale", "isCounting", "(I)Z"⟩, 11), (⟨"PerfgaugeHouse", "bestFrame", "(I)I"⟩, 15), (⟨"PerfgaugeHouse", "areCertainPiecesFitting", "()Z"⟩, 15), (⟨"PerfgaugeHouse", "areWearsOfPossibleCovers", "()Z"⟩, 15)]
theorem lw_r3 : ∀ q ∈ lw_privs_3, lw_okq q := List.forall_mem_cons.mpr ⟨lw_p32, List.forall_mem_cons.mpr ⟨lw_p33, List.forall_mem_cons.mpr ⟨lw_p34, List.forall_mem_cons.mpr ⟨lw_p35, List.forall_mem_cons.mpr ⟨lw_p36, List.forall_mem_cons.mpr ⟨lw_p37, List.forall_mem_cons.mpr ⟨lw_p38, List.forall_mem_cons.mpr ⟨lw_p39, List.forall_mem_cons.mpr ⟨lw_p40, List.forall_mem_cons.mpr ⟨lw_p41, List.forall_mem_cons.mpr ⟨lw_p42, List.forall_mem_cons.mpr ⟨lw_p43, List.forall_mem_cons.mpr ⟨lw_p44, fun _ h => absurd h List.not_mem_nil⟩⟩⟩⟩⟩⟩⟩⟩⟩⟩⟩⟩⟩
def lw_privs : List (MethodName × Nat) := lw_privs_1 ++ (lw_privs_2 ++ (lw_privs_3))
def lw_tbl : List Cond := k2_sels lw_privs ++ tables_1
theorem lw_privs_ok : ∀ q ∈ lw_privs, lw_okq q := by
  show ∀ q ∈ lw_privs_1 ++ (lw_privs_2 ++ (lw_privs_3)), lw_okq q
  exact List.forall_mem_append.mpr ⟨lw_r1, List.forall_mem_append.mpr ⟨lw_r2, lw_r3⟩⟩
end
section
/-! the methods: class, arguments (with the receiver), locals, kind (0 static, 1 virtual, 2 constructor), receiver's tag, what it returns (0 int, 1 boolean, 2 long, 3 reference, 4 nothing) -/
def MT : List (Nat × Nat × Nat × Nat × Nat × Nat) := [(0, 4, 4, 2, 0, 4), (1, 6, 6, 2, 1, 4), (1, 1, 3, 1, 1, 0), (2, 1, 1, 2, 2, 4), (2, 1, 1, 1, 2, 4), (2, 5, 5, 1, 2, 0), (2, 4, 7, 1, 2, 0), (2, 4, 6, 1, 2, 0), (2, 3, 6, 1, 2, 0), (2, 1, 2, 1, 2, 1), (3, 1, 1, 2, 3, 4), (3, 4, 5, 1, 3, 4), (3, 2, 8, 1, 3, 0), (3, 3, 7, 1, 3, 2), (4, 2, 5, 1, 4, 0), (4, 2, 4, 1, 4, 0), (4, 2, 5, 1, 4, 0), (4, 6, 6, 2, 4, 4), (4, 2, 5, 1, 4, 4), (4, 4, 7, 1, 4, 1), (4, 1, 1, 1, 4, 0), (4, 4, 6, 1, 4, 4), (4, 1, 3, 1, 4, 0), (4, 2, 4, 1, 4, 0), (4, 1, 2, 1, 4, 0), (4, 1, 1, 1, 4, 1), (4, 1, 1, 1, 4, 1), (4, 1, 3, 1, 4, 0), (5, 1, 1, 2, 5, 4), (5, 3, 3, 1, 5, 4), (5, 1, 1, 1, 5, 0), (5, 2, 8, 1, 5, 4), (5, 1, 1, 0, 5, 0), (5, 5, 6, 1, 5, 4), (5, 4, 4, 1, 5, 1), (5, 2, 2, 1, 5, 1), (5, 3, 3, 1, 5, 0), (6, 1, 2, 2, 6, 4), (6, 5, 5, 1, 6, 0), (6, 4, 7, 1, 6, 4), (6, 2, 5, 1, 6, 4), (6, 3, 4, 1, 6, 0), (6, 3, 3, 1, 6, 0), (6, 4, 7, 1, 6, 0), (6, 3, 3, 1, 6, 1), (7, 1, 1, 2, 7, 4), (7, 1, 1, 1, 7, 4), (7, 3, 4, 1, 7, 1), (7, 4, 4, 1, 7, 0), (7, 1, 1, 1, 7, 0), (7, 4, 4, 1, 7, 0), (7, 2, 3, 1, 7, 4), (7, 2, 4, 1, 7, 1), (7, 3, 8, 1, 7, 4), (7, 1, 1, 1, 7, 0), (7, 1, 1, 1, 7, 0), (7, 1, 3, 1, 7, 0), (7, 2, 2, 1, 7, 1), (7, 1, 2, 1, 7, 0), (7, 1, 4, 1, 7, 0), (7, 2, 5, 1, 7, 0), (7, 3, 7, 1, 7, 0), (7, 2, 2, 1, 7, 1), (7, 1, 1, 0, 7, 0), (7, 1, 1, 1, 7, 0), (7, 2, 3, 1, 7, 0), (7, 1, 3, 1, 7, 1), (8, 1, 1, 2, 8, 4), (8, 1, 1, 1, 8, 4), (8, 1, 2, 1, 8, 4), (8, 4, 8, 1, 8, 1), (8, 3, 4, 1, 8, 1), (8, 2, 2, 1, 8, 4), (8, 1, 3, 1, 8, 0), (8, 2, 2, 1, 8, 0), (9, 1, 1, 2, 9, 4), (9, 5, 5, 1, 9, 4), (9, 2, 5, 1, 9, 0), (9, 3, 7, 1, 9, 0), (10, 4, 4, 2, 10, 4), (10, 2, 2, 1, 10, 1), (11, 1, 2, 2, 11, 4), (11, 3, 4, 1, 11, 0), (11, 3, 3, 0, 11, 1), (11, 1, 1, 0, 11, 4), (11, 1, 2, 0, 11, 0), (11, 2, 2, 0, 11, 1), (11, 2, 2, 1, 11, 0), (11, 1, 1, 0, 11, 4), (11, 5, 5, 1, 11, 0), (11, 1, 1, 0, 11, 1), (11, 4, 4, 1, 11, 0), (11, 4, 4, 1, 11, 0), (11, 1, 1, 0, 11, 1), (11, 1, 1, 0, 11, 4), (11, 5, 6, 1, 11, 0), (11, 2, 2, 0, 11, 1), (11, 1, 1, 0, 11, 1), (11, 2, 2, 1, 11, 1), (11, 2, 2, 1, 11, 4), (11, 6, 8, 1, 11, 0), (11, 1, 1, 0, 11, 1), (11, 5, 7, 1, 11, 0), (11, 2, 2, 1, 11, 1), (11, 5, 6, 1, 11, 0), (11, 4, 4, 1, 11, 0), (11, 6, 8, 1, 11, 0), (11, 4, 5, 1, 11, 0), (11, 2, 2, 1, 11, 1), (11, 2, 2, 1, 11, 1), (11, 2, 4, 1, 11, 0), (11, 4, 6, 1, 11, 0), (11, 4, 4, 1, 11, 0), (11, 4, 6, 1, 11, 0), (11, 4, 4, 1, 11, 0), (11, 1, 1, 0, 11, 1), (11, 3, 4, 1, 11, 0), (11, 4, 4, 1, 11, 0), (11, 4, 4, 1, 11, 0), (11, 5, 5, 1, 11, 0), (11, 3, 3, 0, 11, 1), (11, 6, 7, 1, 11, 0), (11, 2, 2, 1, 11, 0), (11, 1, 4, 1, 11, 2), (11, 2, 4, 0, 11, 2), (11, 2, 6, 1, 11, 2), (11, 2, 7, 1, 11, 2), (11, 3, 4, 1, 11, 0), (11, 2, 7, 1, 11, 2), (11, 3, 4, 1, 11, 0), (11, 2, 3, 1, 11, 0), (11, 2, 4, 1, 11, 0), (11, 2, 2, 0, 11, 1), (11, 2, 2, 1, 11, 0), (11, 2, 2, 1, 11, 0), (11, 3, 3, 1, 11, 0), (11, 3, 5, 1, 11, 0), (11, 2, 4, 1, 11, 1), (11, 2, 2, 1, 11, 0), (11, 2, 3, 1, 11, 0), (11, 2, 2, 1, 11, 1), (11, 2, 7, 1, 11, 2), (11, 3, 4, 1, 11, 0), (11, 2, 2, 1, 11, 0), (11, 2, 4, 1, 11, 0), (11, 2, 4, 1, 11, 0), (11, 2, 3, 1, 11, 0), (11, 2, 2, 1, 11, 0), (11, 3, 3, 0, 11, 0), (11, 2, 2, 1, 11, 1), (11, 2, 5, 1, 11, 0), (11, 2, 5, 1, 11, 0), (11, 3, 6, 1, 11, 0), (11, 2, 6, 1, 11, 2), (11, 3, 5, 1, 11, 0), (11, 2, 6, 1, 11, 0), (11, 2, 6, 1, 11, 2), (11, 2, 2, 1, 11, 0), (11, 1, 4, 1, 11, 0), (11, 3, 3, 1, 11, 0), (11, 3, 4, 1, 11, 0), (11, 2, 10, 1, 11, 0), (11, 1, 1, 1, 11, 1), (11, 1, 4, 1, 11, 1), (11, 1, 4, 1, 11, 1), (12, 1, 1, 2, 12, 4), (12, 1, 4, 1, 12, 4), (12, 1, 1, 1, 12, 1), (12, 1, 1, 1, 12, 0), (12, 2, 2, 1, 12, 1), (12, 4, 4, 1, 12, 4), (12, 1, 1, 1, 12, 3), (12, 2, 4, 1, 12, 3), (12, 2, 2, 1, 12, 3), (12, 2, 2, 1, 12, 3), (13, 2, 2, 0, 99, 0), (13, 2, 2, 0, 99, 0), (13, 3, 7, 0, 99, 4), (13, 1, 10, 0, 99, 1), (14, 1, 1, 2, 99, 4), (15, 1, 1, 2, 99, 4), (16, 2, 4, 0, 99, 4), (16, 2, 2, 0, 99, 3), (16, 2, 5, 0, 99, 4), (17, 2, 2, 0, 99, 0), (18, 3, 3, 0, 99, 0), (19, 1, 1, 0, 99, 0), (20, 1, 2, 0, 99, 0), (21, 2, 2, 0, 99, 0), (21, 2, 2, 0, 99, 0), (21, 1, 1, 0, 99, 0), (22, 3, 4, 0, 99, 0), (22, 2, 3, 0, 99, 0), (13, 1, 4, 0, 99, 1)]
def mtr (z : Nat) : Nat × Nat × Nat × Nat × Nat × Nat := (MT[z]?).getD (99, 0, 0, 9, 99, 9)
def cls (z : Nat) : Nat := (mtr z).1
def mArg (z : Nat) : Nat := if z = 900 then 5 else if z = 901 then 1 else if z = 902 then 2 else (mtr z).2.1
def mLoc (z : Nat) : Nat := (mtr z).2.2.1
def mKnd (z : Nat) : Nat := (mtr z).2.2.2.1
def mTag (z : Nat) : Nat := (mtr z).2.2.2.2.1
def mRet (z : Nat) : Nat := (mtr z).2.2.2.2.2
def isIni (z : Nat) : Bool := mKnd z == 2
def bts (z : Nat) : ByteArray := match z with
  | 0 => prog_2_method_1_code
  | 1 => prog_3_method_1_code
  | 2 => prog_3_method_2_code
  | 3 => prog_4_method_1_code
  | 4 => prog_4_method_2_code
  | 5 => prog_4_method_3_code
  | 6 => prog_4_method_6_code
  | 7 => prog_4_method_4_code
  | 8 => prog_4_method_5_code
  | 9 => prog_4_method_7_code
  | 10 => prog_5_method_1_code
  | 11 => prog_5_method_2_code
  | 12 => prog_5_method_4_code
  | 13 => prog_5_method_3_code
  | 14 => prog_6_method_9_code
  | 15 => prog_6_method_10_code
  | 16 => prog_6_method_8_code
  | 17 => prog_6_method_1_code
  | 18 => prog_6_method_4_code
  | 19 => prog_6_method_5_code
  | 20 => prog_6_method_2_code
  | 21 => prog_6_method_3_code
  | 22 => prog_6_method_6_code
  | 23 => prog_6_method_7_code
  | 24 => prog_6_method_14_code
  | 25 => prog_6_method_12_code
  | 26 => prog_6_method_13_code
  | 27 => prog_6_method_11_code
  | 28 => prog_7_method_1_code
  | 29 => prog_7_method_2_code
  | 30 => prog_7_method_3_code
  | 31 => prog_7_method_8_code
  | 32 => prog_7_method_9_code
  | 33 => prog_7_method_7_code
  | 34 => prog_7_method_5_code
  | 35 => prog_7_method_4_code
  | 36 => prog_7_method_6_code
  | 37 => prog_8_method_1_code
  | 38 => prog_8_method_6_code
  | 39 => prog_8_method_2_code
  | 40 => prog_8_method_3_code
  | 41 => prog_8_method_4_code
  | 42 => prog_8_method_5_code
  | 43 => prog_8_method_7_code
  | 44 => prog_8_method_8_code
  | 45 => prog_9_method_1_code
  | 46 => prog_9_method_2_code
  | 47 => prog_9_method_4_code
  | 48 => prog_9_method_5_code
  | 49 => prog_9_method_3_code
  | 50 => prog_9_method_6_code
  | 51 => prog_9_method_7_code
  | 52 => prog_9_method_9_code
  | 53 => prog_9_method_8_code
  | 54 => prog_9_method_12_code
  | 55 => prog_9_method_13_code
  | 56 => prog_9_method_14_code
  | 57 => prog_9_method_11_code
  | 58 => prog_9_method_15_code
  | 59 => prog_9_method_18_code
  | 60 => prog_9_method_21_code
  | 61 => prog_9_method_19_code
  | 62 => prog_9_method_10_code
  | 63 => prog_9_method_22_code
  | 64 => prog_9_method_16_code
  | 65 => prog_9_method_20_code
  | 66 => prog_9_method_17_code
  | 67 => prog_10_method_1_code
  | 68 => prog_10_method_2_code
  | 69 => prog_10_method_4_code
  | 70 => prog_10_method_5_code
  | 71 => prog_10_method_6_code
  | 72 => prog_10_method_3_code
  | 73 => prog_10_method_8_code
  | 74 => prog_10_method_7_code
  | 75 => prog_11_method_1_code
  | 76 => prog_11_method_2_code
  | 77 => prog_11_method_3_code
  | 78 => prog_11_method_4_code
  | 79 => prog_12_method_1_code
  | 80 => prog_12_method_2_code
  | 81 => prog_1_method_1_code
  | 82 => prog_1_method_2_code
  | 83 => prog_1_method_50_code
  | 84 => prog_1_method_48_code
  | 85 => prog_1_method_65_code
  | 86 => prog_1_method_51_code
  | 87 => prog_1_method_4_code
  | 88 => prog_1_method_49_code
  | 89 => prog_1_method_17_code
  | 90 => prog_1_method_52_code
  | 91 => prog_1_method_19_code
  | 92 => prog_1_method_20_code
  | 93 => prog_1_method_56_code
  | 94 => prog_1_method_47_code
  | 95 => prog_1_method_5_code
  | 96 => prog_1_method_55_code
  | 97 => prog_1_method_54_code
  | 98 => prog_1_method_62_code
  | 99 => prog_1_method_63_code
  | 100 => prog_1_method_7_code
  | 101 => prog_1_method_53_code
  | 102 => prog_1_method_6_code
  | 103 => prog_1_method_59_code
  | 104 => prog_1_method_13_code
  | 105 => prog_1_method_15_code
  | 106 => prog_1_method_21_code
  | 107 => prog_1_method_22_code
  | 108 => prog_1_method_60_code
  | 109 => prog_1_method_61_code
  | 110 => prog_1_method_72_code
  | 111 => prog_1_method_23_code
  | 112 => prog_1_method_27_code
  | 113 => prog_1_method_28_code
  | 114 => prog_1_method_31_code
  | 115 => prog_1_method_57_code
  | 116 => prog_1_method_34_code
  | 117 => prog_1_method_36_code
  | 118 => prog_1_method_37_code
  | 119 => prog_1_method_40_code
  | 120 => prog_1_method_58_code
  | 121 => prog_1_method_41_code
  | 122 => prog_1_method_32_code
  | 123 => prog_1_method_46_code
  | 124 => prog_1_method_86_code
  | 125 => prog_1_method_87_code
  | 126 => prog_1_method_88_code
  | 127 => prog_1_method_10_code
  | 128 => prog_1_method_89_code
  | 129 => prog_1_method_11_code
  | 130 => prog_1_method_64_code
  | 131 => prog_1_method_66_code
  | 132 => prog_1_method_67_code
  | 133 => prog_1_method_14_code
  | 134 => prog_1_method_30_code
  | 135 => prog_1_method_33_code
  | 136 => prog_1_method_42_code
  | 137 => prog_1_method_69_code
  | 138 => prog_1_method_43_code
  | 139 => prog_1_method_70_code
  | 140 => prog_1_method_68_code
  | 141 => prog_1_method_90_code
  | 142 => prog_1_method_24_code
  | 143 => prog_1_method_74_code
  | 144 => prog_1_method_75_code
  | 145 => prog_1_method_76_code
  | 146 => prog_1_method_78_code
  | 147 => prog_1_method_73_code
  | 148 => prog_1_method_77_code
  | 149 => prog_1_method_79_code
  | 150 => prog_1_method_80_code
  | 151 => prog_1_method_25_code
  | 152 => prog_1_method_81_code
  | 153 => prog_1_method_91_code
  | 154 => prog_1_method_26_code
  | 155 => prog_1_method_82_code
  | 156 => prog_1_method_92_code
  | 157 => prog_1_method_38_code
  | 158 => prog_1_method_83_code
  | 159 => prog_1_method_39_code
  | 160 => prog_1_method_44_code
  | 161 => prog_1_method_71_code
  | 162 => prog_1_method_45_code
  | 163 => prog_1_method_84_code
  | 164 => prog_1_method_85_code
  | 165 => prog_34_method_2_code
  | 166 => prog_34_method_40_code
  | 167 => prog_34_method_9_code
  | 168 => prog_34_method_8_code
  | 169 => prog_34_method_25_code
  | 170 => prog_34_method_24_code
  | 171 => prog_34_method_7_code
  | 172 => prog_34_method_6_code
  | 173 => prog_34_method_20_code
  | 174 => prog_34_method_18_code
  | 175 => method_2_code
  | 176 => method_3_code
  | 177 => method_5_code
  | 178 => method_6_code
  | 179 => prog_33_method_1_code
  | 180 => prog_32_method_1_code
  | 181 => prog_35_method_103_code
  | 182 => prog_35_method_119_code
  | 183 => prog_35_method_101_code
  | 184 => prog_38_method_17_code
  | 185 => prog_42_method_11_code
  | 186 => prog_24_method_49_code
  | 187 => prog_26_method_50_code
  | 188 => prog_27_method_69_code
  | 189 => prog_27_method_65_code
  | 190 => prog_27_method_59_code
  | 191 => prog_41_method_27_code
  | 192 => prog_41_method_28_code
  | 193 => code
  | _ => .empty
def lkp {α : Type} (l : List (Nat × Nat × α)) (c k : Nat) : Option α := match l with
  | [] => none
  | (a, b, v) :: l => if a = c ∧ b = k then some v else lkp l c k
/-- fields: class, pool entry; tag, place, kind, final -/
def fldL : List (Nat × Nat × Nat × Nat × Nat × Bool) := [(5, 15, 5, 0, 0, false), (4, 58, 5, 0, 0, false), (5, 19, 5, 1, 0, false), (5, 22, 5, 2, 0, false), (11, 118, 5, 2, 0, false), (5, 9, 5, 3, 3, true), (12, 9, 12, 1, 3, false), (12, 48, 12, 2, 0, false), (14, 7, 12, 0, 0, false), (12, 63, 12, 0, 0, false), (8, 11, 8, 0, 3, true), (8, 34, 8, 1, 0, false), (11, 218, 8, 1, 0, false), (8, 17, 8, 2, 0, false), (11, 206, 8, 2, 0, false), (8, 21, 8, 3, 0, false), (11, 209, 8, 3, 0, false), (8, 49, 8, 4, 0, false), (11, 215, 8, 4, 0, false), (8, 24, 8, 5, 3, true), (8, 28, 8, 6, 3, true), (8, 31, 8, 7, 3, true), (6, 9, 6, 0, 3, true), (6, 15, 6, 1, 3, true), (6, 46, 6, 2, 0, false), (11, 279, 6, 2, 0, false), (6, 18, 6, 3, 3, true), (6, 21, 6, 4, 3, true), (6, 24, 6, 5, 3, true), (6, 27, 6, 6, 3, true), (3, 15, 3, 0, 0, false), (11, 350, 3, 0, 0, false), (3, 9, 3, 1, 3, true), (2, 9, 2, 0, 3, true), (11, 389, 2, 0, 3, true), (2, 34, 2, 1, 0, false), (11, 369, 2, 1, 0, false), (2, 15, 2, 2, 3, true), (2, 18, 2, 3, 3, true), (2, 21, 2, 4, 3, true), (2, 24, 2, 5, 3, true), (7, 39, 7, 0, 0, false), (11, 392, 7, 0, 0, false), (7, 9, 7, 1, 3, true), (11, 595, 7, 1, 3, true), (7, 15, 7, 2, 3, true), (11, 593, 7, 2, 3, true), (7, 19, 7, 3, 3, true), (7, 25, 7, 4, 3, true), (11, 406, 7, 4, 3, true), (7, 63, 7, 5, 0, false), (7, 46, 7, 6, 1, false), (7, 75, 7, 7, 2, false), (7, 29, 7, 8, 3, true), (7, 32, 7, 9, 3, true), (7, 35, 7, 10, 3, true), (9, 19, 9, 0, 0, false), (11, 447, 9, 0, 0, false), (9, 9, 9, 1, 3, true), (9, 15, 9, 2, 3, true), (11, 10, 11, 0, 3, true), (11, 19, 11, 1, 3, true), (11, 25, 11, 2, 3, true), (11, 33, 11, 3, 3, true), (11, 37, 11, 4, 3, true), (11, 40, 11, 5, 3, true), (11, 43, 11, 6, 3, true), (11, 49, 11, 7, 3, true), (11, 56, 11, 8, 3, true), (11, 63, 11, 9, 3, true), (11, 70, 11, 10, 3, true), (11, 372, 11, 11, 0, false), (11, 74, 11, 12, 3, true), (11, 78, 11, 13, 3, true), (11, 81, 11, 14, 3, true), (10, 7, 10, 0, 0, true), (11, 556, 10, 0, 0, true), (10, 13, 10, 1, 0, true), (11, 586, 10, 1, 0, true), (10, 16, 10, 2, 0, true), (11, 587, 10, 2, 0, true), (4, 31, 4, 0, 0, true), (11, 170, 4, 0, 0, true), (4, 35, 4, 1, 0, true), (4, 38, 4, 2, 0, true), (4, 41, 4, 3, 0, true), (11, 186, 4, 3, 0, true), (4, 44, 4, 4, 1, true), (8, 40, 4, 5, 0, false), (4, 9, 4, 6, 3, true), (11, 179, 4, 6, 3, true), (4, 15, 4, 7, 3, true), (11, 182, 4, 7, 3, true), (4, 19, 4, 8, 3, true), (8, 56, 4, 8, 3, true), (4, 65, 4, 9, 0, false), (4, 22, 4, 10, 3, true), (11, 260, 4, 10, 3, true), (4, 25, 4, 11, 3, true), (3, 19, 4, 11, 3, true), (11, 356, 4, 11, 3, true), (11, 382, 4, 12, 1, false), (9, 23, 4, 13, 1, false), (11, 448, 4, 13, 1, false), (4, 28, 4, 14, 3, true), (9, 36, 4, 14, 3, true), (11, 451, 4, 14, 3, true), (9, 33, 4, 15, 0, false), (11, 454, 4, 15, 0, false), (1, 15, 1, 0, 0, true), (11, 559, 1, 0, 0, true), (1, 19, 1, 1, 0, true), (11, 562, 1, 1, 0, true), (1, 22, 1, 2, 0, true), (11, 568, 1, 2, 0, true), (1, 25, 1, 3, 0, true), (11, 338, 1, 3, 0, true), (1, 28, 1, 4, 0, true), (11, 328, 1, 4, 0, true), (11, 303, 1, 5, 0, false), (11, 318, 1, 6, 1, false), (1, 9, 1, 7, 3, true), (11, 312, 1, 7, 3, true), (0, 7, 0, 0, 0, true), (7, 119, 0, 0, 0, true), (0, 13, 0, 1, 0, true), (7, 94, 0, 1, 0, true), (0, 16, 0, 2, 0, true), (7, 95, 0, 2, 0, true)]
/-- calls: class, pool entry; the method (900: System.arraycopy, 901: Object.<init>) -/
def mthL : List (Nat × Nat × Nat) := [(13, 11, 81), (11, 1, 901), (11, 9, 28), (5, 3, 901), (11, 18, 165), (12, 1, 179), (14, 1, 180), (15, 1, 901), (11, 29, 67), (8, 3, 901), (11, 32, 37), (6, 3, 901), (6, 30, 181), (11, 48, 10), (3, 3, 901), (11, 55, 3), (2, 3, 901), (2, 28, 181), (11, 62, 45), (7, 3, 901), (7, 24, 165), (11, 69, 75), (9, 3, 901), (13, 22, 82), (11, 84, 83), (11, 88, 84), (11, 92, 29), (5, 25, 181), (11, 96, 166), (11, 99, 68), (8, 37, 69), (8, 43, 181), (8, 52, 70), (8, 59, 14), (8, 63, 71), (8, 73, 85), (11, 203, 86), (8, 76, 900), (8, 82, 186), (8, 87, 15), (4, 85, 86), (4, 89, 16), (8, 67, 86), (8, 70, 16), (11, 100, 4), (11, 103, 46), (7, 43, 166), (11, 104, 30), (13, 25, 87), (11, 145, 167), (11, 122, 88), (11, 149, 31), (5, 31, 30), (5, 43, 32), (5, 47, 188), (5, 53, 33), (13, 29, 89), (11, 276, 90), (11, 282, 38), (13, 37, 91), (11, 129, 168), (11, 292, 79), (10, 1, 901), (11, 294, 169), (12, 131, 170), (12, 129, 171), (12, 69, 172), (12, 73, 191), (22, 194, 189), (22, 201, 192), (12, 66, 902), (16, 304, 188), (16, 150, 900), (12, 79, 189), (13, 33, 92), (11, 266, 93), (11, 112, 94), (13, 18, 175), (13, 12, 176), (13, 40, 177), (13, 48, 95), (11, 153, 96), (11, 157, 97), (11, 160, 98), (11, 163, 17), (4, 3, 901), (4, 48, 181), (11, 166, 99), (11, 138, 18), (4, 68, 30), (4, 71, 19), (4, 75, 34), (5, 39, 35), (5, 35, 83), (4, 54, 20), (4, 61, 36), (11, 535, 72), (11, 142, 69), (13, 52, 100), (11, 108, 35), (11, 189, 34), (11, 115, 101), (11, 192, 21), (13, 56, 102), (11, 173, 103), (11, 132, 173), (12, 118, 184), (17, 105, 185), (12, 123, 174), (11, 176, 20), (13, 59, 104), (13, 62, 105), (11, 269, 39), (6, 36, 40), (6, 40, 188), (11, 273, 41), (13, 65, 106), (11, 300, 1), (1, 3, 901), (13, 68, 107), (11, 306, 108), (11, 309, 109), (11, 314, 110), (13, 71, 111), (13, 75, 112), (11, 353, 11), (13, 78, 113), (13, 81, 114), (11, 366, 115), (11, 375, 5), (13, 84, 116), (11, 385, 6), (2, 38, 7), (2, 42, 188), (2, 48, 189), (13, 88, 117), (11, 395, 47), (11, 399, 48), (13, 92, 118), (11, 403, 49), (11, 409, 50), (7, 52, 0), (0, 1, 901), (7, 55, 169), (7, 59, 168), (13, 95, 119), (11, 442, 120), (11, 445, 76), (13, 98, 121), (11, 457, 77), (9, 29, 78), (9, 39, 190), (13, 101, 122), (13, 44, 178), (13, 110, 123), (11, 488, 124), (11, 492, 125), (11, 196, 36), (11, 496, 126), (11, 600, 127), (11, 212, 73), (11, 499, 128), (11, 603, 129), (11, 220, 22), (4, 79, 186), (11, 223, 74), (11, 227, 186), (11, 233, 130), (11, 537, 85), (11, 236, 131), (11, 540, 132), (11, 544, 23), (11, 606, 133), (11, 263, 24), (4, 92, 25), (4, 101, 26), (4, 96, 190), (11, 609, 134), (11, 363, 12), (3, 24, 13), (11, 612, 135), (11, 379, 8), (11, 615, 136), (11, 460, 137), (11, 464, 78), (11, 618, 138), (11, 468, 139), (11, 547, 140), (11, 550, 27), (11, 553, 26), (11, 502, 141), (11, 621, 142), (11, 322, 143), (11, 571, 144), (11, 583, 80), (11, 574, 145), (11, 577, 146), (11, 325, 147), (11, 565, 42), (11, 286, 43), (6, 50, 44), (11, 580, 148), (11, 331, 2), (11, 334, 149), (11, 341, 150), (11, 624, 151), (11, 344, 152), (11, 588, 188), (11, 505, 153), (11, 627, 154), (11, 347, 155), (11, 508, 156), (11, 630, 157), (11, 412, 158), (11, 415, 51), (7, 66, 181), (7, 72, 183), (7, 79, 173), (7, 83, 52), (7, 98, 86), (7, 87, 53), (7, 91, 49), (11, 418, 54), (11, 421, 55), (11, 424, 56), (7, 102, 57), (11, 427, 58), (11, 430, 59), (7, 112, 60), (7, 125, 61), (7, 122, 62), (7, 129, 189), (7, 134, 63), (7, 137, 188), (7, 116, 54), (11, 433, 64), (7, 106, 187), (11, 633, 159), (11, 436, 65), (11, 439, 60), (11, 511, 160), (11, 471, 161), (11, 515, 162), (11, 474, 163), (11, 477, 164), (11, 480, 66), (11, 483, 9), (2, 51, 83), (13, 114, 162), (13, 118, 157), (13, 121, 127), (13, 124, 160), (13, 127, 129), (13, 130, 138), (13, 133, 136), (13, 136, 135)]
def newL : List (Nat × Nat × Nat × Nat) := [(13, 9, 11, 15), (11, 7, 5, 4), (11, 16, 12, 3), (11, 23, 8, 8), (8, 9, 4, 16), (11, 30, 6, 7), (11, 46, 3, 2), (11, 53, 2, 6), (11, 60, 7, 11), (7, 22, 12, 3), (11, 67, 9, 3), (11, 290, 10, 3), (11, 136, 4, 16), (11, 298, 1, 8), (7, 50, 0, 3)]
def excL : List (Nat × Nat × Nat) := [(11, 525, 1), (11, 530, 2), (11, 518, 0)]
def anwL : List (Nat × Nat × Nat) := [(11, 23, 104), (8, 9, 105), (16, 2, 103), (12, 7, 103), (11, 136, 105)]
def cstT : List (Nat × Nat × Nat) := [(13, 9, 11), (11, 7, 5), (11, 16, 12), (11, 23, 8), (8, 9, 4), (11, 30, 6), (11, 46, 3), (11, 53, 2), (11, 60, 7), (7, 22, 12), (11, 67, 9), (11, 290, 10), (11, 136, 4), (11, 298, 1), (7, 50, 0)]
def cstL : List (Nat × Nat × Int) := [(19, 265, 1431655765), (19, 266, 858993459), (19, 267, 252645135), (22, 200, 2147483639), (13, 7, 2147483647), (13, 8, 790386105)]
def cstJ : List (Nat × Nat × Int) := [(11, 486, 58267), (11, 598, 31), (20, 314, 6148914691236517205), (20, 316, 3689348814741910323), (20, 318, 1085102592571150095)]
/-- the handlers: what is thrown in this method at this place is caught, and the method returns -/
def hnd (y pc e : Nat) : Bool := (y == 177) && decide (27 ≤ pc) && decide (pc < 598)
/-! OUR MACHINE: whole numbers that are cut to 32 or 64 bits where they are used, references as numbers of cells, calls nested. -/
abbrev XV : Type := Int ⊕ (Int ⊕ Option Nat)
abbrev vI (z : Int) : XV := Sum.inl z
abbrev vL (z : Int) : XV := Sum.inr (Sum.inl z)
abbrev vR (r : Option Nat) : XV := Sum.inr (Sum.inr r)
abbrev XL : Type := List (Option XV)
/-- cells; cells and slots made; tags; lengths; numbers; references -/
abbrev Hp : Type := Nat × Nat × Nat × (Nat → Nat) × (Nat → Nat) × (Nat → Nat → Int) × (Nat → Nat → Option Nat)
abbrev XO : Type := Option XV ⊕ Nat
def hN (h : Hp) : Nat := h.1
def hC (h : Hp) : Nat := h.2.1
def hS (h : Hp) : Nat := h.2.2.1
def hT (h : Hp) : Nat → Nat := h.2.2.2.1
def hL (h : Hp) : Nat → Nat := h.2.2.2.2.1
def hI (h : Hp) : Nat → Nat → Int := h.2.2.2.2.2.1
def hR (h : Hp) : Nat → Nat → Option Nat := h.2.2.2.2.2.2
def u1 {α : Type} (f : Nat → α) (a : Nat) (v : α) : Nat → α := fun b => if b = a then v else f b
def u2 {α : Type} (f : Nat → Nat → α) (a k : Nat) (v : α) : Nat → Nat → α := fun b j => if b = a ∧ j = k then v else f b j
/-- a whole row -/
def ur {α : Type} (f : Nat → Nat → α) (a : Nat) (g : Nat → α) : Nat → Nat → α := fun b j => if b = a then g j else f b j
def sI (h : Hp) (a k : Nat) (v : Int) : Hp := (hN h, hC h, hS h, hT h, hL h, u2 (hI h) a k v, hR h)
def sR (h : Hp) (a k : Nat) (v : Option Nat) : Hp := (hN h, hC h, hS h, hT h, hL h, hI h, u2 (hR h) a k v)
def sIr (h : Hp) (a : Nat) (g : Nat → Int) : Hp := (hN h, hC h, hS h, hT h, hL h, ur (hI h) a g, hR h)
def sRr (h : Hp) (a : Nat) (g : Nat → Option Nat) : Hp := (hN h, hC h, hS h, hT h, hL h, hI h, ur (hR h) a g)
/-- a new cell: tag, length (of a row), slots that it costs -/
def alc (h : Hp) (t len sl : Nat) : Hp := (hN h + 1, hC h + 1, hS h + sl, u1 (hT h) (hN h) t, u1 (hL h) (hN h) len, ur (hI h) (hN h) (fun _ => 0), ur (hR h) (hN h) (fun _ => none))
/-- cells that we don't number -/
def tck (h : Hp) (c s : Nat) : Hp := (hN h, hC h + c, hS h + s, hT h, hL h, hI h, hR h)
def r32 (z : Int) : Bool := decide (-2147483648 ≤ z) && decide (z < 2147483648)
def w32 (z : Int) : Int := (Int32.ofInt z).toInt
def w64 (z : Int) : Int := (Int64.ofInt z).toInt
def o32 (f : Int32 → Int32 → Int32) (x y : Int) : Int := (f (Int32.ofInt x) (Int32.ofInt y)).toInt
def o64 (f : Int64 → Int64 → Int64) (x y : Int) : Int := (f (Int64.ofInt x) (Int64.ofInt y)).toInt
abbrev fand (x y : Int32) : Int32 := x &&& y
abbrev fior (x y : Int32) : Int32 := x ||| y
abbrev fxor (x y : Int32) : Int32 := x ^^^ y
abbrev fshl (x y : Int32) : Int32 := x <<< (y &&& 31)
abbrev fshr (x y : Int32) : Int32 := x >>> (y &&& 31)
abbrev fush (x y : Int32) : Int32 := (x.toUInt32 >>> (y.toUInt32 &&& Int32.toUInt32 31)).toInt32
abbrev gand (x y : Int64) : Int64 := x &&& y
abbrev gior (x y : Int64) : Int64 := x ||| y
def lshlZ (x s : Int) : Int := (Int64.ofInt x <<< ((Int32.ofInt s).toInt64 &&& 63)).toInt
def lshrZ (x s : Int) : Int := (Int64.ofInt x >>> ((Int32.ofInt s).toInt64 &&& 63)).toInt
def lushZ (x s : Int) : Int := ((Int64.ofInt x).toUInt64 >>> ((Int32.ofInt s).toInt64.toUInt64 &&& Int64.toUInt64 63)).toInt64.toInt
def cmpZ (x y : Int) : Int := if w64 y < w64 x then 1 else if w64 x = w64 y then 0 else -1
def cnd (c : ClassFile.Cond) (x y : Int) : Bool := match c with
  | .eq => decide (x = y)
  | .ne => decide (x ≠ y)
  | .lt => decide (x < y)
  | .ge => decide (y ≤ x)
  | .gt => decide (y < x)
  | .le => decide (x ≤ y)
def ln {α : Type} : List α → Nat → Option α
  | [], _ => none
  | a :: _, 0 => some a
  | _ :: l, n + 1 => ln l n
def isL (v : XV) : Bool := match v with
  | .inr (.inl _) => true
  | _ => false
def clr (a : Option XV) : Option XV := match a with
  | some (.inr (.inl _)) => none
  | a => a
/-- storing a value of one slot; of two -/
def st1 : XL → Nat → XV → Option XL
  | [], _, _ => none
  | _ :: l, 0, v => some (some v :: l)
  | a :: l, n + 1, v => match n with
    | 0 => (st1 l 0 v).map (fun l' => clr a :: l')
    | k + 1 => (st1 l (k + 1) v).map (fun l' => a :: l')
def st2 : XL → Nat → XV → Option XL
  | _ :: _ :: l, 0, v => some (some v :: none :: l)
  | a :: l, n + 1, v => match n with
    | 0 => (st2 l 0 v).map (fun l' => clr a :: l')
    | k + 1 => (st2 l (k + 1) v).map (fun l' => a :: l')
  | _, _, _ => none
def entL : List XV → XL
  | [] => []
  | v :: vs => if isL v then some v :: none :: entL vs else some v :: entL vs
def padL (l : XL) (n : Nat) : XL := l ++ List.replicate (n - l.length) none
def ent (z : Nat) (as : List XV) : XL := padL (entL as) (mLoc z)
def cod (y pc : Nat) : Option (Instr × Nat) := match decode (bts y) pc with
  | .ok (i, n) => some (i, pc + n)
  | .error _ => none
def tgt (pc : Nat) (off : Int) : Option Nat := if 0 ≤ (pc : Int) + off then some ((pc : Int) + off).toNat else none
/-- instructions that touch the stack of operands alone -/
def sop (c : Nat) (i : Instr) (st : List XV) : Option (List XV) := match i with
  | .iconst n => some (vI n :: st)
  | .bipush n => if -128 ≤ n ∧ n < 128 then some (vI n :: st) else none
  | .sipush n => if -32768 ≤ n ∧ n < 32768 then some (vI n :: st) else none
  | .lconst n => some (vL (n : Nat) :: st)
  | .aconst_null => some (vR none :: st)
  | .ldc k => match lkp cstL c k with | some z => some (vI z :: st) | none => none
  | .ldc_w k => match lkp cstL c k with | some z => some (vI z :: st) | none => none
  | .ldc2_w k => match lkp cstJ c k with | some z => some (vL z :: st) | none => none
  | .iadd => match st with | .inl y :: .inl x :: r => some (vI (x + y) :: r) | _ => none
  | .isub => match st with | .inl y :: .inl x :: r => some (vI (x - y) :: r) | _ => none
  | .imul => match st with | .inl y :: .inl x :: r => some (vI (x * y) :: r) | _ => none
  | .ineg => match st with | .inl x :: r => some (vI (-x) :: r) | _ => none
  | .idiv => match st with | .inl y :: .inl x :: r => if r32 x && r32 y && decide (y ≠ 0) then some (vI (x.tdiv y) :: r) else none | _ => none
  | .irem => match st with | .inl y :: .inl x :: r => if r32 x && r32 y && decide (y ≠ 0) then some (vI (x.tmod y) :: r) else none | _ => none
  | .iand => match st with | .inl y :: .inl x :: r => some (vI (o32 fand x y) :: r) | _ => none
  | .ior => match st with | .inl y :: .inl x :: r => some (vI (o32 fior x y) :: r) | _ => none
  | .ixor => match st with | .inl y :: .inl x :: r => some (vI (o32 fxor x y) :: r) | _ => none
  | .ishl => match st with | .inl y :: .inl x :: r => some (vI (o32 fshl x y) :: r) | _ => none
  | .ishr => match st with | .inl y :: .inl x :: r => some (vI (o32 fshr x y) :: r) | _ => none
  | .iushr => match st with | .inl y :: .inl x :: r => some (vI (o32 fush x y) :: r) | _ => none
  | .ladd => match st with | .inr (.inl y) :: .inr (.inl x) :: r => some (vL (x + y) :: r) | _ => none
  | .lsub => match st with | .inr (.inl y) :: .inr (.inl x) :: r => some (vL (x - y) :: r) | _ => none
  | .lmul => match st with | .inr (.inl y) :: .inr (.inl x) :: r => some (vL (x * y) :: r) | _ => none
  | .land => match st with | .inr (.inl y) :: .inr (.inl x) :: r => some (vL (o64 gand x y) :: r) | _ => none
  | .lor => match st with | .inr (.inl y) :: .inr (.inl x) :: r => some (vL (o64 gior x y) :: r) | _ => none
  | .lshl => match st with | .inl y :: .inr (.inl x) :: r => some (vL (lshlZ x y) :: r) | _ => none
  | .lshr => match st with | .inl y :: .inr (.inl x) :: r => some (vL (lshrZ x y) :: r) | _ => none
  | .lushr => match st with | .inl y :: .inr (.inl x) :: r => some (vL (lushZ x y) :: r) | _ => none
  | .lcmp => match st with | .inr (.inl y) :: .inr (.inl x) :: r => some (vI (cmpZ x y) :: r) | _ => none
  | .i2l => match st with | .inl x :: r => some (vL (w32 x) :: r) | _ => none
  | .l2i => match st with | .inr (.inl x) :: r => some (vI x :: r) | _ => none
  | .dup => match st with | a :: r => if isL a then none else some (a :: a :: r) | _ => none
  | .dup_x1 => match st with | a :: b :: r => if isL a || isL b then none else some (a :: b :: a :: r) | _ => none
  | .dup2 => match st with | a :: b :: r => if isL a || isL b then none else some (a :: b :: a :: b :: r) | _ => none
  | .pop => match st with | a :: r => if isL a then none else some r | _ => none
  | _ => none
/-- loads and stores of locals -/
def lop (i : Instr) (ls : XL) (st : List XV) : Option (XL × List XV) :=
  let ldi (k : Nat) : Option (XL × List XV) := match ln ls k with | some (some (.inl x)) => some (ls, vI x :: st) | _ => none
  let ldl (k : Nat) : Option (XL × List XV) := match ln ls k with | some (some (.inr (.inl x))) => some (ls, vL x :: st) | _ => none
  let lda (k : Nat) : Option (XL × List XV) := match ln ls k with | some (some (.inr (.inr x))) => some (ls, vR x :: st) | _ => none
  let sti (k : Nat) : Option (XL × List XV) := match st with | .inl x :: r => (st1 ls k (vI x)).map (fun l => (l, r)) | _ => none
  let sta (k : Nat) : Option (XL × List XV) := match st with | .inr (.inr x) :: r => (st1 ls k (vR x)).map (fun l => (l, r)) | _ => none
  let stl (k : Nat) : Option (XL × List XV) := match st with | .inr (.inl x) :: r => (st2 ls k (vL x)).map (fun l => (l, r)) | _ => none
  match i with
  | .iload k => ldi k
  | .iload_n k => ldi k
  | .lload k => ldl k
  | .lload_n k => ldl k
  | .aload k => lda k
  | .aload_n k => lda k
  | .istore k => sti k
  | .istore_n k => sti k
  | .astore k => sta k
  | .astore_n k => sta k
  | .lstore k => stl k
  | .lstore_n k => stl k
  | .iinc k n => match ln ls k with | some (some (.inl x)) => (st1 ls k (vI (x + n))).map (fun l => (l, st)) | _ => none
  | _ => none
/-- jumps -/
def jop (pc nx : Nat) (i : Instr) (st : List XV) : Option (Nat × List XV) := match i with
  | .goto o => match tgt pc o with | some t => some (t, st) | none => none
  | .ifCond c o => match st with
    | .inl x :: r => if r32 x then (if cnd c x 0 then (match tgt pc o with | some t => some (t, r) | none => none) else some (nx, r)) else none
    | _ => none
  | .if_icmp c o => match st with
    | .inl y :: .inl x :: r => if r32 x && r32 y then (if cnd c x y then (match tgt pc o with | some t => some (t, r) | none => none) else some (nx, r)) else none
    | _ => none
  | .if_acmp c o => match st with
    | .inr (.inr y) :: .inr (.inr x) :: r => if (match c with | .eq => decide (x = y) | .ne => decide (x ≠ y)) then (match tgt pc o with | some t => some (t, r) | none => none) else some (nx, r)
    | _ => none
  | .tableswitch df lo hi os => match st with
    | .inl x :: r => if r32 x then (if lo ≤ x ∧ x ≤ hi then (match os[(x - lo).toNat]? with | some o => (match tgt pc o with | some t => some (t, r) | none => none) | none => none) else (match tgt pc df with | some t => some (t, r) | none => none)) else none
    | _ => none
  | _ => none
def arrI (t : Nat) : Bool := t == 100
def elemOk (t u : Nat) : Bool := (t == 103 && decide (u < 13)) || (t == 104 && u == 8) || (t == 105 && u == 4)
def nwTag (a : ArrayType) : Option Nat := match a with
  | .int => some 100
  | .boolean => some 101
  | .long => some 102
  | _ => none
/-- cells -/
def hop (D : Nat → Nat → Bool) (y c : Nat) (i : Instr) (st : List XV) (h : Hp) : Option (List XV × Hp) := match i with
  | .getfield k => match st, lkp fldL c k with
    | .inr (.inr (some a)) :: r, some (t, j, kd, _) => if decide (a < hN h) && (hT h a == t) && D a j then
        (match kd with
         | 3 => some (vR (hR h a j) :: r, h)
         | 2 => some (vL (hI h a j) :: r, h)
         | _ => some (vI (hI h a j) :: r, h)) else none
    | _, _ => none
  | .putfield k => match st, lkp fldL c k with
    | v :: .inr (.inr (some a)) :: r, some (t, j, kd, fin) => if decide (a < hN h) && (hT h a == t) && D a j && (!fin || isIni y) then
        (match kd, v with
         | 3, .inr (.inr q) => some (r, sR h a j q)
         | 2, .inr (.inl x) => some (r, sI h a j x)
         | 1, .inl x => if x = 0 ∨ x = 1 then some (r, sI h a j x) else none
         | 0, .inl x => some (r, sI h a j x)
         | _, _ => none) else none
    | _, _ => none
  | .getstatic k => if (c == 12) && (k == 39) then some (vR (some 0) :: st, h) else none
  | .iaload => match st with
    | .inl x :: .inr (.inr (some a)) :: r => if decide (a < hN h) && (hT h a == 100) && decide (0 ≤ x) && decide (x < hL h a) && D a x.toNat then some (vI (hI h a x.toNat) :: r, h) else none
    | _ => none
  | .baload => match st with
    | .inl x :: .inr (.inr (some a)) :: r => if decide (a < hN h) && (hT h a == 101) && decide (0 ≤ x) && decide (x < hL h a) && D a x.toNat then some (vI (hI h a x.toNat) :: r, h) else none
    | _ => none
  | .laload => match st with
    | .inl x :: .inr (.inr (some a)) :: r => if decide (a < hN h) && (hT h a == 102) && decide (0 ≤ x) && decide (x < hL h a) && D a x.toNat then some (vL (hI h a x.toNat) :: r, h) else none
    | _ => none
  | .aaload => match st with
    | .inl x :: .inr (.inr (some a)) :: r => if decide (a < hN h) && decide (103 ≤ hT h a) && decide (hT h a ≤ 105) && decide (0 ≤ x) && decide (x < hL h a) && D a x.toNat then some (vR (hR h a x.toNat) :: r, h) else none
    | _ => none
  | .iastore => match st with
    | .inl v :: .inl x :: .inr (.inr (some a)) :: r => if decide (2 ≤ a) && decide (a < hN h) && (hT h a == 100) && decide (0 ≤ x) && decide (x < hL h a) && D a x.toNat then some (r, sI h a x.toNat v) else none
    | _ => none
  | .bastore => match st with
    | .inl v :: .inl x :: .inr (.inr (some a)) :: r => if decide (2 ≤ a) && decide (a < hN h) && (hT h a == 101) && decide (0 ≤ x) && decide (x < hL h a) && D a x.toNat && decide (v = 0 ∨ v = 1) then some (r, sI h a x.toNat v) else none
    | _ => none
  | .lastore => match st with
    | .inr (.inl v) :: .inl x :: .inr (.inr (some a)) :: r => if decide (2 ≤ a) && decide (a < hN h) && (hT h a == 102) && decide (0 ≤ x) && decide (x < hL h a) && D a x.toNat then some (r, sI h a x.toNat v) else none
    | _ => none
  | .aastore => match st with
    | .inr (.inr v) :: .inl x :: .inr (.inr (some a)) :: r => if decide (2 ≤ a) && decide (a < hN h) && decide (103 ≤ hT h a) && decide (hT h a ≤ 105) && decide (0 ≤ x) && decide (x < hL h a) && D a x.toNat && (match v with | none => true | some b => decide (b < hN h) && elemOk (hT h a) (hT h b)) then some (r, sR h a x.toNat v) else none
    | _ => none
  | .arraylength => match st with
    | .inr (.inr (some a)) :: r => if decide (a < hN h) && decide (100 ≤ hT h a) && decide (hT h a ≤ 105) then some (vI (hL h a) :: r, h) else none
    | _ => none
  | .new k => match lkp newL c k with
    | some (t, n) => some (vR (some (hN h)) :: st, alc h t 0 n)
    | none => none
  | .newarray t => match st, nwTag t with
    | .inl x :: r, some g => if 0 ≤ x ∧ x < 60000 then some (vR (some (hN h)) :: r, alc h g x.toNat x.toNat) else none
    | _, _ => none
  | .anewarray k => match st, lkp anwL c k with
    | .inl x :: r, some g => if 0 ≤ x ∧ x < 60000 then some (vR (some (hN h)) :: r, alc h g x.toNat x.toNat) else none
    | _, _ => none
  | .checkcast k => match st, lkp cstT c k with
    | .inr (.inr (some a)) :: r, some t => if decide (2 ≤ a) && decide (a < hN h) && (hT h a == t) then some (vR (some a) :: r, h) else none
    | _, _ => none
  | _ => none
def popN (n : Nat) (st : List XV) : Option (List XV × List XV) := if n ≤ st.length then some ((st.take n).reverse, st.drop n) else none
/-- the members of the machine's own that we take as one step: a copy of a row, of a list's row -/
def cpyI (h : Hp) (a b n : Nat) : Hp := sIr h b (fun j => if j < n then hI h a j else hI h b j)
def cpyR (h : Hp) (a n : Nat) : Hp := sRr (alc h 103 n n) (hN h) (fun j => if j < hL h a then hR h a j else none)
def nat (z : Nat) (as : List XV) (h : Hp) : Option (Option XV × Hp) := match z, as with
  | 900, [.inr (.inr (some a)), .inl 0, .inr (.inr (some b)), .inl 0, .inl n] =>
    if decide (2 ≤ a) && decide (a < hN h) && decide (2 ≤ b) && decide (b < hN h) && (hT h a == 100) && (hT h b == 100) && decide (0 ≤ n) && decide (n ≤ hL h a) && decide (n ≤ hL h b) then some (none, cpyI h a b n.toNat) else none
  | 902, [.inr (.inr (some a)), .inl n] =>
    if decide (2 ≤ a) && decide (a < hN h) && (hT h a == 103) && decide (0 ≤ n) && decide (n < 60000) && decide ((hL h a : Int) ≤ n) then some (some (vR (some (hN h))), cpyR h a n.toNat) else none
  | _, _ => none
abbrev Out : Type := (Nat × XL × List XV × Hp) ⊕ ((XO × Hp) ⊕ (Nat × List XV × List XV))
def oSt (nx : Nat) (ls : XL) (h : Hp) (o : Option (List XV)) : Option Out := match o with
  | some st => some (.inl (nx, ls, st, h))
  | none => none
/-- the whole of one instruction -/
def stp (D : Nat → Nat → Bool) (y pc nx : Nat) (i : Instr) (ls : XL) (st : List XV) (h : Hp) : Option Out :=
  match sop (cls y) i st with
  | some st' => some (.inl (nx, ls, st', h))
  | none => match lop i ls st with
    | some (ls', st') => some (.inl (nx, ls', st', h))
    | none => match jop pc nx i st with
      | some (t, st') => some (.inl (t, ls, st', h))
      | none => match hop D y (cls y) i st h with
        | some (st', h') => some (.inl (nx, ls, st', h'))
        | none => match i with
          | .return_ => if mRet y = 4 then some (.inr (.inl (.inl none, h))) else none
          | .ireturn => match st with
            | [.inl x] => if mRet y = 0 ∨ (mRet y = 1 ∧ (x = 0 ∨ x = 1)) then some (.inr (.inl (.inl (some (vI x)), h))) else none
            | _ => none
          | .lreturn => match st with
            | [.inr (.inl x)] => if mRet y = 2 then some (.inr (.inl (.inl (some (vL x)), h))) else none
            | _ => none
          | .areturn => match st with
            | [.inr (.inr x)] => if mRet y = 3 then some (.inr (.inl (.inl (some (vR x)), h))) else none
            | _ => none
          | .new k => match lkp excL (cls y) k with
            | some e => some (.inr (.inl (.inr e, tck h 1 6)))
            | none => none
          | .invokestatic k => match lkp mthL (cls y) k with
            | some z => match popN (mArg z) st with
              | some (as, r) => if 900 ≤ z then (match nat z as h with
                  | some (v, h') => some (.inl (nx, ls, v.toList ++ r, h'))
                  | none => none) else (if mKnd z = 0 then some (.inr (.inr (z, as, r))) else none)
              | none => none
            | none => none
          | .invokevirtual k => match lkp mthL (cls y) k with
            | some z => match popN (mArg z) st with
              | some (.inr (.inr (some a)) :: as, r) => if (mKnd z = 1) ∧ a < hN h ∧ 2 ≤ a ∧ hT h a = mTag z then some (.inr (.inr (z, vR (some a) :: as, r))) else none
              | _ => none
            | none => none
          | .invokespecial k => match lkp mthL (cls y) k with
            | some z => match popN (mArg z) st with
              | some (.inr (.inr (some a)) :: as, r) => if z = 901 then (if as = [] then some (.inl (nx, ls, r, h)) else none) else if (mKnd z = 2) ∧ a < hN h ∧ 2 ≤ a then some (.inr (.inr (z, vR (some a) :: as, r))) else none
              | _ => none
            | none => none
          | _ => none
/-- fuel n, depth d -/
def exec (D : Nat → Nat → Bool) : Nat → Nat → Nat → Nat → XL → List XV → Hp → Option (XO × Hp)
  | 0, _, _, _, _, _, _ => none
  | n + 1, d, y, pc, ls, st, h => match cod y pc with
    | none => none
    | some (i, nx) => match stp D y pc nx i ls st h with
      | none => none
      | some (.inl (pc', ls', st', h')) => exec D n d y pc' ls' st' h'
      | some (.inr (.inl r)) => some r
      | some (.inr (.inr (z, as, r))) => match d with
        | 0 => none
        | d' + 1 => match exec D n d' z 0 (ent z as) [] h with
          | none => none
          | some (.inl v, h1) => exec D n (d' + 1) y nx ls (v.toList ++ r) h1
          | some (.inr e, h1) => if hnd y pc e then some (.inl none, h1) else some (.inr e, h1)
theorem exec_mono {D : Nat → Nat → Bool} : ∀ {n d y pc : Nat} {ls : XL} {st : List XV} {h : Hp} {r : XO × Hp}, exec D n d y pc ls st h = some r → exec D (n + 1) d y pc ls st h = some r := by
  intro n
  induction n with
  | zero => intro d y pc ls st h r e; simp [exec] at e
  | succ n ih =>
    intro d y pc ls st h r e
    rw [exec] at e ⊢
    split at e
    · cases e
    · split at e
      · cases e
      · exact ih e
      · exact e
      · split at e
        · cases e
        · split at e
          · cases e
          · rename_i q; rw [ih q]; exact ih e
          · rename_i q; rw [ih q]; exact e
theorem exec_le {D : Nat → Nat → Bool} {n m d y pc : Nat} {ls : XL} {st : List XV} {h : Hp} {r : XO × Hp} (hm : n ≤ m) (e : exec D n d y pc ls st h = some r) : exec D m d y pc ls st h = some r := by
  induction m with
  | zero =>
    have : n = 0 := by omega
    subst this; exact e
  | succ m ih =>
    rcases Nat.lt_or_ge m n with q | q
    · have : n = m + 1 := by omega
      subst this; exact e
    · exact exec_mono (ih q)
def wp (D : Nat → Nat → Bool) (d y pc : Nat) (ls : XL) (st : List XV) (h : Hp) (Q : XO × Hp → Prop) : Prop := ∃ (n : Nat) (r : XO × Hp), exec D n d y pc ls st h = some r ∧ Q r
theorem wp_mono {D : Nat → Nat → Bool} {d y pc : Nat} {ls : XL} {st : List XV} {h : Hp} {Q Q' : XO × Hp → Prop} (k : wp D d y pc ls st h Q) (i : ∀ r, Q r → Q' r) : wp D d y pc ls st h Q' := by
  obtain ⟨n, r, e, q⟩ := k
  exact ⟨n, r, e, i r q⟩
section RULES
variable {D : Nat → Nat → Bool} {d y pc nx : Nat} {ls : XL} {st : List XV} {h : Hp} {Q : XO × Hp → Prop}
theorem wp_loc {i : Instr} {pc' : Nat} {ls' : XL} {st' : List XV} {h' : Hp} (hd : cod y pc = some (i, nx)) (hs : stp D y pc nx i ls st h = some (.inl (pc', ls', st', h'))) (k : wp D d y pc' ls' st' h' Q) : wp D d y pc ls st h Q := by
  obtain ⟨n, r, e, q⟩ := k
  refine ⟨n + 1, r, ?_, q⟩
  rw [exec, hd]; dsimp only; rw [hs]; exact e
theorem wp_fin {i : Instr} {r : XO × Hp} (hd : cod y pc = some (i, nx)) (hs : stp D y pc nx i ls st h = some (.inr (.inl r))) (k : Q r) : wp D d y pc ls st h Q := by
  refine ⟨1, r, ?_, k⟩
  rw [exec, hd]; dsimp only; rw [hs]
theorem wp_cal {i : Instr} {z : Nat} {as r : List XV} {Q1 : XO × Hp → Prop} (hd : cod y pc = some (i, nx)) (hs : stp D y pc nx i ls st h = some (.inr (.inr (z, as, r)))) (c : wp D d z 0 (ent z as) [] h Q1)
    (k : ∀ (v : Option XV) (h1 : Hp), Q1 (.inl v, h1) → wp D (d + 1) y nx ls (v.toList ++ r) h1 Q) (kx : ∀ (e : Nat) (h1 : Hp), Q1 (.inr e, h1) → Q (if hnd y pc e then (.inl none, h1) else (.inr e, h1))) : wp D (d + 1) y pc ls st h Q := by
  obtain ⟨n, ⟨o, h1⟩, e, q⟩ := c
  cases o with
  | inl v =>
    obtain ⟨n2, r2, e2, q2⟩ := k v h1 q
    refine ⟨n + n2 + 1, r2, ?_, q2⟩
    rw [exec, hd]; dsimp only; rw [hs]; dsimp only
    rw [exec_le (show n ≤ n + n2 by omega) e]
    exact exec_le (show n2 ≤ n + n2 by omega) e2
  | inr x =>
    refine ⟨n + 1, _, ?_, kx x h1 q⟩
    rw [exec, hd]; dsimp only; rw [hs]; dsimp only
    rw [e]
    dsimp only
    split <;> rfl
end RULES
end
