section
-- ===== PART A: goes FIRST, ahead of the names: the tables' words, and 'selects' of the private methods out of them =====
/-- a private method of a class that the tables say can be made, by its rows of tables_1 -/
def lw_okq (q : MethodName × Nat) : Prop := (q.1.cls ≠ "java/lang/invoke/MethodHandle" ∧ q.1.cls ≠ "java/lang/invoke/VarHandle") ∧ Cond.instantiable q.1.cls q.2 ∈ tables_1 ∧ Cond.privateMethod q.1 ∈ tables_1 ∧ Cond.instanceMethod q.1 ∈ tables_1
theorem lw_p0 : lw_okq (⟨"java/lang/Throwable", "fillInStackTrace", "(I)Ljava/lang/Throwable;"⟩, 6) := ⟨⟨by decide +kernel, by decide +kernel⟩, List.mem_of_getElem? (i := 358) (by decide +kernel), List.mem_of_getElem? (i := 356) (by decide +kernel), List.mem_of_getElem? (i := 357) (by decide +kernel)⟩
theorem lw_p1 : lw_okq (⟨"PerfgaugeHouse$Sheet", "placeFrom", "(III)Z"⟩, 8) := ⟨⟨by decide +kernel, by decide +kernel⟩, List.mem_of_getElem? (i := 88) (by decide +kernel), List.mem_of_getElem? (i := 406) (by decide +kernel), List.mem_of_getElem? (i := 407) (by decide +kernel)⟩
theorem lw_p2 : lw_okq (⟨"PerfgaugeHouse$Sheet", "placeLast", "(II)Z"⟩, 8) := ⟨⟨by decide +kernel, by decide +kernel⟩, List.mem_of_getElem? (i := 88) (by decide +kernel), List.mem_of_getElem? (i := 414) (by decide +kernel), List.mem_of_getElem? (i := 415) (by decide +kernel)⟩
theorem lw_p3 : lw_okq (⟨"java/util/ArrayList", "add", "(Ljava/lang/Object;[Ljava/lang/Object;I)V"⟩, 3) := ⟨⟨by decide +kernel, by decide +kernel⟩, List.mem_of_getElem? (i := 61) (by decide +kernel), List.mem_of_getElem? (i := 541) (by decide +kernel), List.mem_of_getElem? (i := 542) (by decide +kernel)⟩
theorem lw_p4 : lw_okq (⟨"java/util/ArrayList", "grow", "()[Ljava/lang/Object;"⟩, 3) := ⟨⟨by decide +kernel, by decide +kernel⟩, List.mem_of_getElem? (i := 61) (by decide +kernel), List.mem_of_getElem? (i := 545) (by decide +kernel), List.mem_of_getElem? (i := 546) (by decide +kernel)⟩
theorem lw_p5 : lw_okq (⟨"java/util/ArrayList", "grow", "(I)[Ljava/lang/Object;"⟩, 3) := ⟨⟨by decide +kernel, by decide +kernel⟩, List.mem_of_getElem? (i := 61) (by decide +kernel), List.mem_of_getElem? (i := 549) (by decide +kernel), List.mem_of_getElem? (i := 550) (by decide +kernel)⟩
theorem lw_p6 : lw_okq (⟨"PerfgaugeHouse", "hasRoomForPiece", "(I)Z"⟩, 15) := ⟨⟨by decide +kernel, by decide +kernel⟩, List.mem_of_getElem? (i := 31) (by decide +kernel), List.mem_of_getElem? (i := 646) (by decide +kernel), List.mem_of_getElem? (i := 647) (by decide +kernel)⟩
theorem lw_p7 : lw_okq (⟨"PerfgaugeHouse", "keepPiece", "(LPerfgaugeHouse$Piece;)V"⟩, 15) := ⟨⟨by decide +kernel, by decide +kernel⟩, List.mem_of_getElem? (i := 31) (by decide +kernel), List.mem_of_getElem? (i := 718) (by decide +kernel), List.mem_of_getElem? (i := 719) (by decide +kernel)⟩
theorem lw_p8 : lw_okq (⟨"PerfgaugeHouse$Piece", "fitsAt", "(LPerfgaugeHouse$Plate;II)Z"⟩, 16) := ⟨⟨by decide +kernel, by decide +kernel⟩, List.mem_of_getElem? (i := 650) (by decide +kernel), List.mem_of_getElem? (i := 727) (by decide +kernel), List.mem_of_getElem? (i := 728) (by decide +kernel)⟩
theorem lw_p9 : lw_okq (⟨"PerfgaugeHouse", "isPiece", "(I)Z"⟩, 15) := ⟨⟨by decide +kernel, by decide +kernel⟩, List.mem_of_getElem? (i := 31) (by decide +kernel), List.mem_of_getElem? (i := 770) (by decide +kernel), List.mem_of_getElem? (i := 771) (by decide +kernel)⟩
theorem lw_p10 : lw_okq (⟨"PerfgaugeHouse$Post", "shortenThrough", "(I)V"⟩, 7) := ⟨⟨by decide +kernel, by decide +kernel⟩, List.mem_of_getElem? (i := 125) (by decide +kernel), List.mem_of_getElem? (i := 801) (by decide +kernel), List.mem_of_getElem? (i := 802) (by decide +kernel)⟩
theorem lw_p11 : lw_okq (⟨"PerfgaugeHouse", "isCoverNumber", "(I)Z"⟩, 15) := ⟨⟨by decide +kernel, by decide +kernel⟩, List.mem_of_getElem? (i := 31) (by decide +kernel), List.mem_of_getElem? (i := 855) (by decide +kernel), List.mem_of_getElem? (i := 856) (by decide +kernel)⟩
theorem lw_p12 : lw_okq (⟨"PerfgaugeHouse", "isIssue", "(I)Z"⟩, 15) := ⟨⟨by decide +kernel, by decide +kernel⟩, List.mem_of_getElem? (i := 31) (by decide +kernel), List.mem_of_getElem? (i := 859) (by decide +kernel), List.mem_of_getElem? (i := 860) (by decide +kernel)⟩
theorem lw_p13 : lw_okq (⟨"PerfgaugeHouse", "paidFor", "(LPerfgaugeHouse$Cover;)I"⟩, 15) := ⟨⟨by decide +kernel, by decide +kernel⟩, List.mem_of_getElem? (i := 31) (by decide +kernel), List.mem_of_getElem? (i := 863) (by decide +kernel), List.mem_of_getElem? (i := 864) (by decide +kernel)⟩
theorem lw_p14 : lw_okq (⟨"PerfgaugeHouse$Experts", "heldBy", "(III)I"⟩, 6) := ⟨⟨by decide +kernel, by decide +kernel⟩, List.mem_of_getElem? (i := 171) (by decide +kernel), List.mem_of_getElem? (i := 902) (by decide +kernel), List.mem_of_getElem? (i := 903) (by decide +kernel)⟩
theorem lw_p15 : lw_okq (⟨"PerfgaugeHouse", "mixFaces", "(J)J"⟩, 15) := ⟨⟨by decide +kernel, by decide +kernel⟩, List.mem_of_getElem? (i := 31) (by decide +kernel), List.mem_of_getElem? (i := 995) (by decide +kernel), List.mem_of_getElem? (i := 996) (by decide +kernel)⟩
def lw_privs_1 : List (MethodName × Nat) := [(⟨"java/lang/Throwable", "fillInStackTrace", "(I)Ljava/lang/Throwable;"⟩, 6), (⟨"PerfgaugeHouse$Sheet", "placeFrom", "(III)Z"⟩, 8), (⟨"PerfgaugeHouse$Sheet", "placeLast", "(II)Z"⟩, 8), (⟨"java/util/ArrayList", "add", "(Ljava/lang/Object;[Ljava/lang/Object;I)V"⟩, 3), (⟨"java/util/ArrayList", "grow", "()[Ljava/lang/Object;"⟩, 3), (⟨"java/util/ArrayList", "grow", "(I)[Ljava/lang/Object;"⟩, 3), (⟨"PerfgaugeHouse", "hasRoomForPiece", "(I)Z"⟩, 15), (⟨"PerfgaugeHouse", "keepPiece", "(LPerfgaugeHouse$Piece;)V"⟩, 15), (⟨"PerfgaugeHouse$Piece", "fitsAt", "(LPerfgaugeHouse$Plate;II)Z"⟩, 16), (⟨"PerfgaugeHouse", "isPiece", "(I)Z"⟩, 15), (⟨"PerfgaugeHouse$Post", "shortenThrough", "(I)V"⟩, 7), (⟨"PerfgaugeHouse", "isCoverNumber", "(I)Z"⟩, 15), (⟨"PerfgaugeHouse", "isIssue", "(I)Z"⟩, 15), (⟨"PerfgaugeHouse", "paidFor", "(LPerfgaugeHouse$Cover;)I"⟩, 15), (⟨"PerfgaugeHouse$Experts", "heldBy", "(III)I"⟩, 6), (⟨"PerfgaugeHouse", "mixFaces", "(J)J"⟩, 15)]
theorem lw_r1 : ∀ q ∈ lw_privs_1, lw_okq q := List.forall_mem_cons.mpr ⟨lw_p0, List.forall_mem_cons.mpr ⟨lw_p1, List.forall_mem_cons.mpr ⟨lw_p2, List.forall_mem_cons.mpr ⟨lw_p3, List.forall_mem_cons.mpr ⟨lw_p4, List.forall_mem_cons.mpr ⟨lw_p5, List.forall_mem_cons.mpr ⟨lw_p6, List.forall_mem_cons.mpr ⟨lw_p7, List.forall_mem_cons.mpr ⟨lw_p8, List.forall_mem_cons.mpr ⟨lw_p9, List.forall_mem_cons.mpr ⟨lw_p10, List.forall_mem_cons.mpr ⟨lw_p11, List.forall_mem_cons.mpr ⟨lw_p12, List.forall_mem_cons.mpr ⟨lw_p13, List.forall_mem_cons.mpr ⟨lw_p14, List.forall_mem_cons.mpr ⟨lw_p15, fun _ h => absurd h List.not_mem_nil⟩⟩⟩⟩⟩⟩⟩⟩⟩⟩⟩⟩⟩⟩⟩⟩
theorem lw_p16 : lw_okq (⟨"PerfgaugeHouse", "mixSheets", "(J)J"⟩, 15) := ⟨⟨by decide +kernel, by decide +kernel⟩, List.mem_of_getElem? (i := 31) (by decide +kernel), List.mem_of_getElem? (i := 1000) (by decide +kernel), List.mem_of_getElem? (i := 1001) (by decide +kernel)⟩
theorem lw_p17 : lw_okq (⟨"PerfgaugeHouse", "mixPieces", "(J)J"⟩, 15) := ⟨⟨by decide +kernel, by decide +kernel⟩, List.mem_of_getElem? (i := 31) (by decide +kernel), List.mem_of_getElem? (i := 1012) (by decide +kernel), List.mem_of_getElem? (i := 1013) (by decide +kernel)⟩
theorem lw_p18 : lw_okq (⟨"PerfgaugeHouse", "certainPosition", "(LPerfgaugeHouse$Piece;)I"⟩, 15) := ⟨⟨by decide +kernel, by decide +kernel⟩, List.mem_of_getElem? (i := 31) (by decide +kernel), List.mem_of_getElem? (i := 1030) (by decide +kernel), List.mem_of_getElem? (i := 1031) (by decide +kernel)⟩
theorem lw_p19 : lw_okq (⟨"PerfgaugeHouse", "alikeTo", "(LPerfgaugeHouse$Piece;)I"⟩, 15) := ⟨⟨by decide +kernel, by decide +kernel⟩, List.mem_of_getElem? (i := 31) (by decide +kernel), List.mem_of_getElem? (i := 1035) (by decide +kernel), List.mem_of_getElem? (i := 1036) (by decide +kernel)⟩
theorem lw_p20 : lw_okq (⟨"PerfgaugeHouse", "isContradicted", "(LPerfgaugeHouse$Piece;)Z"⟩, 15) := ⟨⟨by decide +kernel, by decide +kernel⟩, List.mem_of_getElem? (i := 31) (by decide +kernel), List.mem_of_getElem? (i := 1087) (by decide +kernel), List.mem_of_getElem? (i := 1088) (by decide +kernel)⟩
theorem lw_p21 : lw_okq (⟨"PerfgaugeHouse", "valueOf", "(LPerfgaugeHouse$Piece;)I"⟩, 15) := ⟨⟨by decide +kernel, by decide +kernel⟩, List.mem_of_getElem? (i := 31) (by decide +kernel), List.mem_of_getElem? (i := 1096) (by decide +kernel), List.mem_of_getElem? (i := 1097) (by decide +kernel)⟩
theorem lw_p22 : lw_okq (⟨"PerfgaugeHouse", "isBad", "(I)Z"⟩, 15) := ⟨⟨by decide +kernel, by decide +kernel⟩, List.mem_of_getElem? (i := 31) (by decide +kernel), List.mem_of_getElem? (i := 1100) (by decide +kernel), List.mem_of_getElem? (i := 1101) (by decide +kernel)⟩
theorem lw_p23 : lw_okq (⟨"PerfgaugeHouse", "mixCovers", "(J)J"⟩, 15) := ⟨⟨by decide +kernel, by decide +kernel⟩, List.mem_of_getElem? (i := 31) (by decide +kernel), List.mem_of_getElem? (i := 1109) (by decide +kernel), List.mem_of_getElem? (i := 1110) (by decide +kernel)⟩
theorem lw_p24 : lw_okq (⟨"PerfgaugeHouse", "faultsOf", "(LPerfgaugeHouse$Cover;)I"⟩, 15) := ⟨⟨by decide +kernel, by decide +kernel⟩, List.mem_of_getElem? (i := 31) (by decide +kernel), List.mem_of_getElem? (i := 1117) (by decide +kernel), List.mem_of_getElem? (i := 1118) (by decide +kernel)⟩
theorem lw_p25 : lw_okq (⟨"PerfgaugeHouse", "dieFaults", "(LPerfgaugeHouse$Cover;)I"⟩, 15) := ⟨⟨by decide +kernel, by decide +kernel⟩, List.mem_of_getElem? (i := 31) (by decide +kernel), List.mem_of_getElem? (i := 1121) (by decide +kernel), List.mem_of_getElem? (i := 1122) (by decide +kernel)⟩
theorem lw_p26 : lw_okq (⟨"PerfgaugeHouse", "stampFaults", "(LPerfgaugeHouse$Cover;)I"⟩, 15) := ⟨⟨by decide +kernel, by decide +kernel⟩, List.mem_of_getElem? (i := 31) (by decide +kernel), List.mem_of_getElem? (i := 1129) (by decide +kernel), List.mem_of_getElem? (i := 1130) (by decide +kernel)⟩
theorem lw_p27 : lw_okq (⟨"PerfgaugeHouse", "wayFaults", "(LPerfgaugeHouse$Cover;)I"⟩, 15) := ⟨⟨by decide +kernel, by decide +kernel⟩, List.mem_of_getElem? (i := 31) (by decide +kernel), List.mem_of_getElem? (i := 1133) (by decide +kernel), List.mem_of_getElem? (i := 1134) (by decide +kernel)⟩
theorem lw_p28 : lw_okq (⟨"PerfgaugeHouse", "priceFor", "(LPerfgaugeHouse$Cover;)I"⟩, 15) := ⟨⟨by decide +kernel, by decide +kernel⟩, List.mem_of_getElem? (i := 31) (by decide +kernel), List.mem_of_getElem? (i := 1137) (by decide +kernel), List.mem_of_getElem? (i := 1138) (by decide +kernel)⟩
theorem lw_p29 : lw_okq (⟨"PerfgaugeHouse$Post", "goesBefore", "(II)Z"⟩, 7) := ⟨⟨by decide +kernel, by decide +kernel⟩, List.mem_of_getElem? (i := 125) (by decide +kernel), List.mem_of_getElem? (i := 1149) (by decide +kernel), List.mem_of_getElem? (i := 1150) (by decide +kernel)⟩
theorem lw_p30 : lw_okq (⟨"PerfgaugeHouse", "isImpossible", "(LPerfgaugeHouse$Cover;)Z"⟩, 15) := ⟨⟨by decide +kernel, by decide +kernel⟩, List.mem_of_getElem? (i := 31) (by decide +kernel), List.mem_of_getElem? (i := 1160) (by decide +kernel), List.mem_of_getElem? (i := 1161) (by decide +kernel)⟩
theorem lw_p31 : lw_okq (⟨"PerfgaugeHouse", "wearOf", "(I)I"⟩, 15) := ⟨⟨by decide +kernel, by decide +kernel⟩, List.mem_of_getElem? (i := 31) (by decide +kernel), List.mem_of_getElem? (i := 1164) (by decide +kernel), List.mem_of_getElem? (i := 1165) (by decide +kernel)⟩
def lw_privs_2 : List (MethodName × Nat) := [(⟨"PerfgaugeHouse", "mixSheets", "(J)J"⟩, 15), (⟨"PerfgaugeHouse", "mixPieces", "(J)J"⟩, 15), (⟨"PerfgaugeHouse", "certainPosition", "(LPerfgaugeHouse$Piece;)I"⟩, 15), (⟨"PerfgaugeHouse", "alikeTo", "(LPerfgaugeHouse$Piece;)I"⟩, 15), (⟨"PerfgaugeHouse", "isContradicted", "(LPerfgaugeHouse$Piece;)Z"⟩, 15), (⟨"PerfgaugeHouse", "valueOf", "(LPerfgaugeHouse$Piece;)I"⟩, 15), (⟨"PerfgaugeHouse", "isBad", "(I)Z"⟩, 15), (⟨"PerfgaugeHouse", "mixCovers", "(J)J"⟩, 15), (⟨"PerfgaugeHouse", "faultsOf", "(LPerfgaugeHouse$Cover;)I"⟩, 15), (⟨"PerfgaugeHouse", "dieFaults", "(LPerfgaugeHouse$Cover;)I"⟩, 15), (⟨"PerfgaugeHouse", "stampFaults", "(LPerfgaugeHouse$Cover;)I"⟩, 15), (⟨"PerfgaugeHouse", "wayFaults", "(LPerfgaugeHouse$Cover;)I"⟩, 15), (⟨"PerfgaugeHouse", "priceFor", "(LPerfgaugeHouse$Cover;)I"⟩, 15), (⟨"PerfgaugeHouse$Post", "goesBefore", "(II)Z"⟩, 7), (⟨"PerfgaugeHouse", "isImpossible", "(LPerfgaugeHouse$Cover;)Z"⟩, 15), (⟨"PerfgaugeHouse", "wearOf", "(I)I"⟩, 15)]
theorem lw_r2 : ∀ q ∈ lw_privs_2, lw_okq q := List.forall_mem_cons.mpr ⟨lw_p16, List.forall_mem_cons.mpr ⟨lw_p17, List.forall_mem_cons.mpr ⟨lw_p18, List.forall_mem_cons.mpr ⟨lw_p19, List.forall_mem_cons.mpr ⟨lw_p20, List.forall_mem_cons.mpr ⟨lw_p21, List.forall_mem_cons.mpr ⟨lw_p22, List.forall_mem_cons.mpr ⟨lw_p23, List.forall_mem_cons.mpr ⟨lw_p24, List.forall_mem_cons.mpr ⟨lw_p25, List.forall_mem_cons.mpr ⟨lw_p26, List.forall_mem_cons.mpr ⟨lw_p27, List.forall_mem_cons.mpr ⟨lw_p28, List.forall_mem_cons.mpr ⟨lw_p29, List.forall_mem_cons.mpr ⟨lw_p30, List.forall_mem_cons.mpr ⟨lw_p31, fun _ h => absurd h List.not_mem_nil⟩⟩⟩⟩⟩⟩⟩⟩⟩⟩⟩⟩⟩⟩⟩⟩
theorem lw_p32 : lw_okq (⟨"PerfgaugeHouse", "fewestFor", "(II)I"⟩, 15) := ⟨⟨by decide +kernel, by decide +kernel⟩, List.mem_of_getElem? (i := 31) (by decide +kernel), List.mem_of_getElem? (i := 1172) (by decide +kernel), List.mem_of_getElem? (i := 1173) (by decide +kernel)⟩
theorem lw_p33 : lw_okq (⟨"PerfgaugeHouse", "mixIssues", "(J)J"⟩, 15) := ⟨⟨by decide +kernel, by decide +kernel⟩, List.mem_of_getElem? (i := 31) (by decide +kernel), List.mem_of_getElem? (i := 1177) (by decide +kernel), List.mem_of_getElem? (i := 1178) (by decide +kernel)⟩
theorem lw_p34 : lw_okq (⟨"PerfgaugeHouse", "scarcityOf", "(I)I"⟩, 15) := ⟨⟨by decide +kernel, by decide +kernel⟩, List.mem_of_getElem? (i := 31) (by decide +kernel), List.mem_of_getElem? (i := 1185) (by decide +kernel), List.mem_of_getElem? (i := 1186) (by decide +kernel)⟩
theorem lw_p35 : lw_okq (⟨"PerfgaugeHouse", "mixSale", "(J)J"⟩, 15) := ⟨⟨by decide +kernel, by decide +kernel⟩, List.mem_of_getElem? (i := 31) (by decide +kernel), List.mem_of_getElem? (i := 1189) (by decide +kernel), List.mem_of_getElem? (i := 1190) (by decide +kernel)⟩
theorem lw_p36 : lw_okq (⟨"PerfgaugeHouse", "barredItems", "()I"⟩, 15) := ⟨⟨by decide +kernel, by decide +kernel⟩, List.mem_of_getElem? (i := 31) (by decide +kernel), List.mem_of_getElem? (i := 1197) (by decide +kernel), List.mem_of_getElem? (i := 1198) (by decide +kernel)⟩
theorem lw_p37 : lw_okq (⟨"PerfgaugeHouse$Sale", "countsNow", "(LPerfgaugeHouse$Bid;)Z"⟩, 11) := ⟨⟨by decide +kernel, by decide +kernel⟩, List.mem_of_getElem? (i := 200) (by decide +kernel), List.mem_of_getElem? (i := 1210) (by decide +kernel), List.mem_of_getElem? (i := 1211) (by decide +kernel)⟩
theorem lw_p38 : lw_okq (⟨"PerfgaugeHouse$Sale", "offer", "(LPerfgaugeHouse$Bid;J)V"⟩, 11) := ⟨⟨by decide +kernel, by decide +kernel⟩, List.mem_of_getElem? (i := 200) (by decide +kernel), List.mem_of_getElem? (i := 1215) (by decide +kernel), List.mem_of_getElem? (i := 1216) (by decide +kernel)⟩
theorem lw_p39 : lw_okq (⟨"PerfgaugeHouse$Sale", "isChosen", "(I)Z"⟩, 11) := ⟨⟨by decide +kernel, by decide +kernel⟩, List.mem_of_getElem? (i := 200) (by decide +kernel), List.mem_of_getElem? (i := 1232) (by decide +kernel), List.mem_of_getElem? (i := 1233) (by decide +kernel)⟩
theorem lw_p40 : lw_okq (⟨"PerfgaugeHouse$Sale", "greatestAlone", "(II)I"⟩, 11) := ⟨⟨by decide +kernel, by decide +kernel⟩, List.mem_of_getElem? (i := 200) (by decide +kernel), List.mem_of_getElem? (i := 1248) (by decide +kernel), List.mem_of_getElem? (i := 1249) (by decide +kernel)⟩
theorem lw_p41 : lw_okq (⟨"PerfgaugeHouse$Sale", "isCounting", "(I)Z"⟩, 11) := ⟨⟨by decide +kernel, by decide +kernel⟩, List.mem_of_getElem? (i := 200) (by decide +kernel), List.mem_of_getElem? (i := 1252) (by decide +kernel), List.mem_of_getElem? (i := 1253) (by decide +kernel)⟩
theorem lw_p42 : lw_okq (⟨"PerfgaugeHouse", "bestFrame", "(I)I"⟩, 15) := ⟨⟨by decide +kernel, by decide +kernel⟩, List.mem_of_getElem? (i := 31) (by decide +kernel), List.mem_of_getElem? (i := 1285) (by decide +kernel), List.mem_of_getElem? (i := 1286) (by decide +kernel)⟩
theorem lw_p43 : lw_okq (⟨"PerfgaugeHouse", "areCertainPiecesFitting", "()Z"⟩, 15) := ⟨⟨by decide +kernel, by decide +kernel⟩, List.mem_of_getElem? (i := 31) (by decide +kernel), List.mem_of_getElem? (i := 1293) (by decide +kernel), List.mem_of_getElem? (i := 1294) (by decide +kernel)⟩
theorem lw_p44 : lw_okq (⟨"PerfgaugeHouse", "areWearsOfPossibleCovers", "()Z"⟩, 15) := ⟨⟨by decide +kernel, by decide +kernel⟩, List.mem_of_getElem? (i := 31) (by decide +kernel), List.mem_of_getElem? (i := 1297) (by decide +kernel), List.mem_of_getElem? (i := 1298) (by decide +kernel)⟩
def lw_privs_3 : List (MethodName × Nat) := [(⟨"PerfgaugeHouse", "fewestFor", "(II)I"⟩, 15), (⟨"PerfgaugeHouse", "mixIssues", "(J)J"⟩, 15), (⟨"PerfgaugeHouse", "scarcityOf", "(I)I"⟩, 15), (⟨"PerfgaugeHouse", "mixSale", "(J)J"⟩, 15), (⟨"PerfgaugeHouse", "barredItems", "()I"⟩, 15), (⟨"PerfgaugeHouse$Sale", "countsNow", "(LPerfgaugeHouse$Bid;)Z"⟩, 11), (⟨"PerfgaugeHouse$Sale", "offer", "(LPerfgaugeHouse$Bid;J)V"⟩, 11), (⟨"PerfgaugeHouse$Sale", "isChosen", "(I)Z"⟩, 11), (⟨"PerfgaugeHouse$Sale", "greatestAlone", "(II)I"⟩, 11), (⟨"PerfgaugeHouse$Sale", "isCounting", "(I)Z"⟩, 11), (⟨"PerfgaugeHouse", "bestFrame", "(I)I"⟩, 15), (⟨"PerfgaugeHouse", "areCertainPiecesFitting", "()Z"⟩, 15), (⟨"PerfgaugeHouse", "areWearsOfPossibleCovers", "()Z"⟩, 15)]
theorem lw_r3 : ∀ q ∈ lw_privs_3, lw_okq q := List.forall_mem_cons.mpr ⟨lw_p32, List.forall_mem_cons.mpr ⟨lw_p33, List.forall_mem_cons.mpr ⟨lw_p34, List.forall_mem_cons.mpr ⟨lw_p35, List.forall_mem_cons.mpr ⟨lw_p36, List.forall_mem_cons.mpr ⟨lw_p37, List.forall_mem_cons.mpr ⟨lw_p38, List.forall_mem_cons.mpr ⟨lw_p39, List.forall_mem_cons.mpr ⟨lw_p40, List.forall_mem_cons.mpr ⟨lw_p41, List.forall_mem_cons.mpr ⟨lw_p42, List.forall_mem_cons.mpr ⟨lw_p43, List.forall_mem_cons.mpr ⟨lw_p44, fun _ h => absurd h List.not_mem_nil⟩⟩⟩⟩⟩⟩⟩⟩⟩⟩⟩⟩⟩
def lw_privs : List (MethodName × Nat) := lw_privs_1 ++ (lw_privs_2 ++ (lw_privs_3))
def lw_tbl : List Cond := k2_sels lw_privs ++ tables_1
theorem lw_privs_ok : ∀ q ∈ lw_privs, lw_okq q := by
  show ∀ q ∈ lw_privs_1 ++ (lw_privs_2 ++ (lw_privs_3)), lw_okq q
  exact List.forall_mem_append.mpr ⟨lw_r1, List.forall_mem_append.mpr ⟨lw_r2, lw_r3⟩⟩
end
section
/-! ===== BEGIN words of one list among another's, by their places ===== -/
theorem goodIn_r {big : List Cond} (ws : List Cond) (ps : List Nat) (hp : ws = ps.filterMap (fun i => big[i]?)) (h : ws.all goodWord = true) : GoodIn big ws := by
  intro w hw
  have h1 := List.all_eq_true.mp h w hw
  rw [hp] at hw
  obtain ⟨i, -, hi⟩ := List.mem_filterMap.mp hw
  have hm : w ∈ big := by first | exact List.mem_of_getElem? hi | exact List.getElem?_mem hi
  exact ⟨hm, good_of_word h1⟩
theorem goodIn_app {big a b : List Cond} (ha : GoodIn big a) (hb : GoodIn big b) : GoodIn big (a ++ b) := fun w h => (List.mem_append.mp h).elim (ha w) (hb w)
theorem goodIn_ca {big a b : List Cond} {c : Cond} (ha : GoodIn big (c :: a)) (hb : GoodIn big b) : GoodIn big (c :: (a ++ b)) := fun w h => (List.mem_cons.mp h).elim (fun e => ha w (List.mem_cons.mpr (Or.inl e))) (fun h => (List.mem_append.mp h).elim (fun h => ha w (List.mem_cons.mpr (Or.inr h))) (hb w))
theorem goodIn_sub {big ws : List Cond} (hm : ∀ w ∈ ws, w ∈ big) (h : ws.all goodWord = true) : GoodIn big ws := fun w hw => ⟨hm w hw, good_of_word (List.all_eq_true.mp h w hw)⟩
/-! ===== END ===== -/
/-! ===== BEGIN exceptions that leave a method, and their catching by the caller (launches without stack traces) ===== -/
section VXA
/-! The laws vx_back, vx_callV, vx_callS, vx_callSW, vx_throw0, vx_throwS follow proofs of the library, with one case more: JvmDerived/Free/Laws.lean (Back.of_free), Shelf42/LK1.lean (callV, callS), Shelf/KitTraced.lean (throwNew0V, throwNewS). -/
/-- where a method has thrown q: the class by its name, the cell, what was written, the world -/
def vx_T (XC : String → State → State → Prop) (st : State) (q : Addr) (t : State) (mc ms : Nat) (free : Addr → Prop) : Prop :=
  ∃ (E : String) (ce : Cell) (L : List Loc), XC E st t ∧ t.heap[q]? = some ce ∧ ce.vm = .none ∧ st.vm.findClass E = some ce.cls ∧ st.WarmedH t.vm ∧ st.sameButNew ({ t with vm := st.vm } : State) L mc ms ∧ ∀ z ∈ L, free z.base
def vx_Q (Qc : Array Value → State → Outcome → State → Prop) (XC : String → State → State → Prop) (mc ms : Nat) (free : Addr → Prop) : Array Value → State → Outcome → State → Prop := fun a st o t =>
  (Qc a st o t ∧ ∃ L, FrameEnd st o t L mc ms ∧ ∀ q ∈ L, free q.base) ∨ ∃ q, o = .threw q ∧ vx_T XC st q t mc ms free
/-- a callee that returns or throws -/
def vx_Met (l : Launch) (y : MethodName) (ws : List Cond) (rm : Room) (Pc : Array Value → State → Prop) (Qc : Array Value → State → Outcome → State → Prop) (XC : String → State → State → Prop) (mc ms : Nat) (free : Addr → Prop) : Prop :=
  MetFree l y (headSpec ws rm) Pc (fun _ _ _ _ _ => True) (vx_Q Qc XC mc ms free)
def vx_Post (XC : String → State → State → Prop) (mc ms : Nat) (free : Addr → Prop) : Pt → Array Value → Addr → Pt → Prop := fun A a q B =>
  ∃ (g : JFrame) (mk : MethodId) (t : State) (L : List Loc) (E : String) (ce : Cell), B.U.heap = t.heap ∧ B.U.vm = t.vm ∧ XC E (A.U.calling g mk a) t ∧ t.heap[q]? = some ce ∧ ce.vm = .none ∧ A.U.vm.findClass E = some ce.cls ∧ B.locs = A.locs ++ L ∧ (∀ z ∈ L, free z.base) ∧ B.cells = A.cells + mc ∧ B.slots = A.slots + ms
def vx_Back (l : Launch) (R : Room) (p : Program) (e : Env) (below : List Frame) (s : State) (sargs : Array Value) (y : MethodName) (len W9 : Nat)
    (Pre : Pt → Array Value → Prop) (Post : Pt → Array Value → Option Value → Pt → Prop) (PostX : Pt → Array Value → Addr → Pt → Prop) : Prop :=
  ∀ (m : MethodId) (meth : Method) (c : Code) (A : Pt) (g : JFrame) (ig : Instr) (mk : MethodId) (a : Array Value),
    Stand p l e R s m sargs below meth c A.U A.locs A.cells A.slots → g.method = m → g.locals.size = c.maxLocals → decode c.code g.pc = .ok (ig, len) →
    2 * g.monitorRoom + (g.stack.map fun v => v.category).sum ≤ W9 → A.U.methodNamed? y = some mk → Pre A a →
    (∃ (v : Option Value) (B : Pt), Stand p l e R s m sargs below meth c B.U B.locs B.cells B.slots ∧ Post A a v B ∧
      Steps p.tables e below (doInvoke e (A.U.setTop g) [] mk a).1 (B.U.setTop { g with pc := g.pc + len, stack := v.toList ++ g.stack })) ∨
    (∃ (q : Addr) (B : Pt), Stand p l e R s m sargs below meth c B.U B.locs B.cells B.slots ∧ PostX A a q B ∧
      Steps p.tables e below (doInvoke e (A.U.setTop g) [] mk a).1 ((B.U.setTop g).pushFrame (.throwing q)))
section Payer
variable {l : Launch} {R : Room} {p : Program} {e : Env} {below : List Frame} {s : State} {sargs : Array Value} {y : MethodName} {len W9 : Nat}
theorem vx_back {ws : List Cond} {rm : Room} {Pc : Array Value → State → Prop} {Qc : Array Value → State → Outcome → State → Prop} {XC : String → State → State → Prop} {mc ms : Nat} {free : Addr → Prop} {bytes : ByteArray} {maxL : Nat} {ret : Option FieldType}
    (hM : vx_Met l y ws rm Pc Qc XC mc ms free) (hblind : FrameBlind Pc) (hrc : rm.cells = mc) (hrs : rm.slots = ms)
    (hframes : rm.frames + 1 ≤ R.frames) (hlocals : W9 + (maxL + 11) + rm.locals ≤ R.locals)
    (hws : ∀ w ∈ ws, ∀ a' U, s.WarmedH U.vm → w.before a' U = true) (hcode : Cond.code y bytes maxL ret ∈ ws) (hinit : ∀ a' U, s.WarmedH U.vm → (Cond.initialized y.cls).before a' U = true) :
    vx_Back l R p e below s sargs y len W9 (PreOf R mc ms Pc) (PostOf Qc mc ms free) (vx_Post XC mc ms free) := by
  intro m meth c A g ig mk a X hg hsize hdg hW hn hp
  have h1 : (headSpec ws rm).pre.before a A.U = true := atoms_intro fun w hw => hws w hw _ _ X.warmed
  have h2 : (Cond.code y bytes maxL ret).before a A.U = true := hws _ hcode _ _ X.warmed
  have h3 : (Cond.initialized y.cls).before a A.U = true := hinit _ _ X.warmed
  have h4 : A.cells + (headSpec ws rm).room.cells ≤ R.cells := by rw [show (headSpec ws rm).room.cells = mc from hrc]; exact hp.1
  have h5 : A.slots + (headSpec ws rm).room.slots ≤ R.slots := by rw [show (headSpec ws rm).room.slots = ms from hrs]; exact hp.2.1
  have hPc : Pc a (A.U.calling g mk a) := hblind _ _ _ _ hp.2.2
  obtain ⟨U, Ls, c0, s0⟩ := A
  dsimp only [Pt.U, Pt.locs, Pt.cells, Pt.slots] at h1 h2 h3 h4 h5 X hn hPc ⊢
  obtain ⟨methY, cY, hmY, hcY, -, hlY, -, -, -, -⟩ := Cond.code_spec hn h2
  obtain ⟨kY, hkY, -⟩ := className_of_methodNamed hn
  have hinitY : kY.init = .initialized := Cond.initialized_spec (findClass_of_methodNamed hn) hkY h3
  have h : At U g.method c below := by rw [hg]; exact X.here
  have hlocals9 : W9 + (maxL + 11) + (headSpec ws rm).room.locals ≤ R.locals := hlocals
  have happ : (headSpec ws rm).appliesLoose y e.platform (U.calling g mk a) = true :=
    Spec.appliesLoose_calling (g := g) h hdg hn hkY hinitY
      (X.room_calling (g := g) (R' := (headSpec ws rm).room) hsize hmY hcY hframes (by rw [hlY]; omega) h4 h5) h1
  obtain ⟨mid, hmid⟩ := h.above
  have hfr : (U.setTop g).frames = (.java g :: mid) ++ below := by rw [State.frames_setTop' g h.top, hmid]; rfl
  obtain ⟨o, s₂, hsteps, -, hend, hq⟩ := Steps.callFree hM p X.admits X.cas X.clock (acts := []) hfr happ hPc trivial
  have hq' : vx_Q Qc XC mc ms free a (U.calling g mk a) o s₂ := hq
  rw [State.frames_setTop' g h.top] at hend
  obtain ⟨g₀, hg0⟩ := Option.isSome_iff_exists.mp h.top
  obtain ⟨r, hr⟩ := State.topJava?_eq_some.mp hg0
  have hr' : (({ U with heap := s₂.heap, slotsUsed := s₂.slotsUsed } : State).setVm s₂.vm).frames = .java g₀ :: r := hr
  rcases hq' with ⟨hqc, L, hfe, hL⟩ | ⟨q, rfl, E, ce, L, hx, hce, hcv, hcl, hW₂, hsm, hL⟩
  · obtain ⟨⟨v, rfl⟩, hW₂, e2, q2, q3, q4, q5, q6⟩ := id hfe
    have e3 : s₂ = ({ (U.calling g mk a).setFrames s₂.frames with heap := s₂.heap, slotsUsed := s₂.slotsUsed } : State).setVm s₂.vm := by
      have : s₂ = ({ s₂ with vm := (U.calling g mk a).vm } : State).setVm s₂.vm := rfl
      rw [e2] at this
      exact this
    obtain ⟨c₂, i₂, len₂, hc₂, hd₂, hf₂⟩ := hend
    have hW' : U.WarmedH s₂.vm := hW₂
    have hcc : c₂ = c := by
      have h1 : s₂.code? g.method = U.code? g.method := by
        rw [State.code?_eq, State.code?_eq, hW'.alike.method?]
      exact Option.some.inj (hc₂.symm.trans (h1.trans h.code))
    subst hcc
    have hlen : len₂ = len := by rw [hdg] at hd₂; cases hd₂; rfl
    subst hlen
    have hs₂ : s₂ = (({ U with heap := s₂.heap, slotsUsed := s₂.slotsUsed } : State).setVm s₂.vm).setTop { g with pc := g.pc + len₂, stack := v.toList ++ g.stack } := by
      refine e3.trans ?_
      rw [hf₂, State.calling_eq h.top, State.setFrames_setFrames, State.setTop_of_frames _ hr', hr]
      rfl
    have hsame : U.sameButNew ({ U with heap := s₂.heap, slotsUsed := s₂.slotsUsed } : State) L mc ms := by
      refine ⟨?_, q2, q3, q4, q5, q6⟩
      obtain ⟨t, ht, -⟩ := State.frames_cons hr
      show ({ U with heap := s₂.heap, slotsUsed := s₂.slotsUsed } : State) = { U.setFrames U.frames with heap := s₂.heap, slotsUsed := s₂.slotsUsed }
      rw [State.setFrames_self ht]
    subst hg
    refine Or.inl ⟨v, ⟨(({ U with heap := s₂.heap, slotsUsed := s₂.slotsUsed } : State).setVm s₂.vm), Ls ++ L, c0 + mc, s0 + ms⟩,
      ⟨X.admits, X.cas, X.clock, X.frames, X.room, X.hears, X.method, X.code, (X.here.setHeapUsed s₂.heap s₂.slotsUsed).setVm hW'.alike, X.tail, State.WarmedH.trans X.warmed hW', X.limits, X.bytes, X.same.trans (hsame.setVm s.vm)⟩,
      ⟨g, mk, s₂, L, rfl, rfl, hqc, rfl, hL, rfl, rfl⟩, ?_⟩
    show Steps p.tables e below _ ((({ U with heap := s₂.heap, slotsUsed := s₂.slotsUsed } : State).setVm s₂.vm).setTop { g with pc := g.pc + len₂, stack := v.toList ++ g.stack })
    rw [← hs₂]
    exact hsteps
  · obtain ⟨e2, q2, q3, q4, q5, q6⟩ := id hsm
    have e3 : s₂ = ({ (U.calling g mk a).setFrames s₂.frames with heap := s₂.heap, slotsUsed := s₂.slotsUsed } : State).setVm s₂.vm := by
      have : s₂ = ({ s₂ with vm := (U.calling g mk a).vm } : State).setVm s₂.vm := rfl
      rw [e2] at this
      exact this
    have hf₂ : s₂.frames = .throwing q :: .java g :: U.frames.tail := hend
    have hW' : U.WarmedH s₂.vm := hW₂
    have hs₂ : s₂ = ((({ U with heap := s₂.heap, slotsUsed := s₂.slotsUsed } : State).setVm s₂.vm).setTop g).pushFrame (.throwing q) := by
      refine e3.trans ?_
      rw [hf₂, State.calling_eq h.top, State.setFrames_setFrames, State.pushFrame, State.frames_setTop _ hr', State.setTop_of_frames _ hr', State.setFrames_setFrames, hr]
      rfl
    have hsame : U.sameButNew ({ U with heap := s₂.heap, slotsUsed := s₂.slotsUsed } : State) L mc ms := by
      refine ⟨?_, q2, q3, q4, q5, q6⟩
      obtain ⟨t, ht, -⟩ := State.frames_cons hr
      show ({ U with heap := s₂.heap, slotsUsed := s₂.slotsUsed } : State) = { U.setFrames U.frames with heap := s₂.heap, slotsUsed := s₂.slotsUsed }
      rw [State.setFrames_self ht]
    subst hg
    refine Or.inr ⟨q, ⟨(({ U with heap := s₂.heap, slotsUsed := s₂.slotsUsed } : State).setVm s₂.vm), Ls ++ L, c0 + mc, s0 + ms⟩,
      ⟨X.admits, X.cas, X.clock, X.frames, X.room, X.hears, X.method, X.code, (X.here.setHeapUsed s₂.heap s₂.slotsUsed).setVm hW'.alike, X.tail, State.WarmedH.trans X.warmed hW', X.limits, X.bytes, X.same.trans (hsame.setVm s.vm)⟩,
      ⟨g, mk, s₂, L, E, ce, rfl, rfl, hx, hce, hcv, hcl, rfl, hL, rfl, rfl⟩, ?_⟩
    show Steps p.tables e below _ (((({ U with heap := s₂.heap, slotsUsed := s₂.slotsUsed } : State).setVm s₂.vm).setTop g).pushFrame (.throwing q))
    rw [← hs₂]
    exact hsteps
end Payer
section Calls
variable {p : Program} {l : Launch} {e : Env} {R : Room} {s : State} {m : MethodId} {args : Array Value} {below : List Frame} {meth : Method} {c : Code} {T : State} {locs : List Loc} {cells slots : Nat}
theorem vx_callV (X : Stand p l e R s m args below meth c T locs cells slots) (hexec : p.tables.exec = Jvm.exec) {own C : String} {index : Nat} {y : MethodName} {bytes : ByteArray} {maxL : Nat} {ret : Option FieldType}
    (hown : s.vm.findClass own = some m.cls) (hlink : (Cond.methodLink own index y).before args s = true) (hinst : (Cond.instanceMethod y).before args s = true) (hsel : (Cond.selects C y y).before args s = true)
    (hcode : (Cond.code y bytes maxL ret).before args s = true) (hy : y.cls ≠ "java/lang/invoke/MethodHandle" ∧ y.cls ≠ "java/lang/invoke/VarHandle")
    {W9 : Nat} {Pre : Pt → Array Value → Prop} {Post : Pt → Array Value → Option Value → Pt → Prop} {PostX : Pt → Array Value → Addr → Pt → Prop} (hK : vx_Back l R p e below s args y 3 W9 Pre Post PostX)
    {b : Addr} {cellB : Cell} (hcell : T.heap[b]? = some cellB) (hobj : cellB.vm.isStatics = false) (hcls : s.vm.findClass C = some cellB.cls)
    {g : JFrame} (hg : g.method = m) (hsize : g.locals.size = c.maxLocals) {argsL rest : List Value} (hlen : ∀ sig, parseMethodDescriptor y.desc = some sig → argsL.length = sig.parameters.length)
    (hstack : g.stack = argsL.reverse ++ .ref b :: rest) (hW : 2 * g.monitorRoom + (rest.map fun v => v.category).sum ≤ W9) (hdg : decode c.code g.pc = .ok (.invokevirtual index, 3))
    (hpre : ∀ vm₁, s.WarmedH vm₁ → Pre ⟨T.setVm vm₁, locs, cells, slots⟩ (Value.ref b :: argsL).toArray) :
    (∃ (v : Option Value) (vm₁ : Vm) (B : Pt), s.WarmedH vm₁ ∧ Stand p l e R s m args below meth c B.U B.locs B.cells B.slots ∧ Post ⟨T.setVm vm₁, locs, cells, slots⟩ (Value.ref b :: argsL).toArray v B ∧
      ∀ target, Steps p.tables e below (B.U.setTop { g with pc := g.pc + 3, stack := v.toList ++ rest }) target → Steps p.tables e below (T.setTop g) target) ∨
    (∃ (q : Addr) (vm₁ : Vm) (B : Pt), s.WarmedH vm₁ ∧ Stand p l e R s m args below meth c B.U B.locs B.cells B.slots ∧ PostX ⟨T.setVm vm₁, locs, cells, slots⟩ (Value.ref b :: argsL).toArray q B ∧
      Steps p.tables e below (T.setTop g) ((B.U.setTop { g with stack := rest }).pushFrame (.throwing q))) := by
  obtain ⟨mk, methM, hnamed, hmethM, hstM, habM⟩ := Cond.instanceMethod_spec hinst
  obtain ⟨methM', cM, hmethM', -, -, -, -, -, -, hsigM⟩ := Cond.code_spec hnamed hcode
  cases hmethM.symm.trans hmethM'
  obtain ⟨c2, r2, m2, q1, q2, q3, q4, kP, hkP, hkPi⟩ := Cond.selects_spec hsel
  cases hcls.symm.trans q1
  cases (State.methodFound?_of_named hnamed hy).symm.trans q2
  cases hnamed.symm.trans q3
  have hselP : selectMethod e.platform s.vm cellB.cls mk = .method mk := by rw [Launch.admits_selectMethod X.admits]; exact q4
  obtain ⟨vm₁, X₁, hstep₁⟩ := X.invokevirtual hexec hown hlink hnamed hmethM hstM hkP hkPi hy (a := b) (cell := cellB) hcell
    (fun z h => by rw [h] at hobj; cases hobj) hselP hmethM habM hkP hkPi (g := g) hg (argsL := argsL) (rest := rest) (hlen _ hsigM) hstack hdg
  rcases hK m meth c ⟨T.setVm vm₁, locs, cells, slots⟩ { g with stack := rest } (.invokevirtual index) mk (Value.ref b :: argsL).toArray X₁ hg hsize hdg hW (X₁.named hnamed) (hpre vm₁ X₁.warmed) with ⟨v, B, X', hpost, hsteps⟩ | ⟨q, B, X', hpost, hsteps⟩
  · exact Or.inl ⟨v, vm₁, B, X₁.warmed, X', hpost, fun target h => hstep₁ _ fun acts => by rw [doInvoke_state]; exact hsteps.trans h⟩
  · exact Or.inr ⟨q, vm₁, B, X₁.warmed, X', hpost, hstep₁ _ fun acts => by rw [doInvoke_state]; exact hsteps⟩
theorem vx_callS (X : Stand p l e R s m args below meth c T locs cells slots) (hexec : p.tables.exec = Jvm.exec) {own : String} {index : Nat} {y : MethodName} {bytes : ByteArray} {maxL : Nat} {ret : Option FieldType}
    (hown : s.vm.findClass own = some m.cls) (hlink : (Cond.methodLink own index y).before args s = true) (hstat : (Cond.static y).before args s = true) (hinit : (Cond.initialized y.cls).before args s = true)
    (hcode : (Cond.code y bytes maxL ret).before args s = true) (hy : y.cls ≠ "java/lang/invoke/MethodHandle" ∧ y.cls ≠ "java/lang/invoke/VarHandle")
    {W9 : Nat} {Pre : Pt → Array Value → Prop} {Post : Pt → Array Value → Option Value → Pt → Prop} {PostX : Pt → Array Value → Addr → Pt → Prop} (hK : vx_Back l R p e below s args y 3 W9 Pre Post PostX)
    {g : JFrame} (hg : g.method = m) (hsize : g.locals.size = c.maxLocals) {argsL rest : List Value} (hlen : ∀ sig, parseMethodDescriptor y.desc = some sig → argsL.length = sig.parameters.length)
    (hstack : g.stack = argsL.reverse ++ rest) (hW : 2 * g.monitorRoom + (rest.map fun v => v.category).sum ≤ W9) (hdg : decode c.code g.pc = .ok (.invokestatic index, 3))
    (hpre : ∀ vm₁, s.WarmedH vm₁ → Pre ⟨T.setVm vm₁, locs, cells, slots⟩ argsL.toArray) :
    (∃ (v : Option Value) (vm₁ : Vm) (B : Pt), s.WarmedH vm₁ ∧ Stand p l e R s m args below meth c B.U B.locs B.cells B.slots ∧ Post ⟨T.setVm vm₁, locs, cells, slots⟩ argsL.toArray v B ∧
      ∀ target, Steps p.tables e below (B.U.setTop { g with pc := g.pc + 3, stack := v.toList ++ rest }) target → Steps p.tables e below (T.setTop g) target) ∨
    (∃ (q : Addr) (vm₁ : Vm) (B : Pt), s.WarmedH vm₁ ∧ Stand p l e R s m args below meth c B.U B.locs B.cells B.slots ∧ PostX ⟨T.setVm vm₁, locs, cells, slots⟩ argsL.toArray q B ∧
      Steps p.tables e below (T.setTop g) ((B.U.setTop { g with stack := rest }).pushFrame (.throwing q))) := by
  obtain ⟨mk, hnamed⟩ := Cond.code_named hcode
  obtain ⟨methM, cM, hmethM, -, -, -, -, -, -, hsigM⟩ := Cond.code_spec hnamed hcode
  have hstatic : methM.isStatic = true := Cond.static_spec hnamed hmethM hstat
  obtain ⟨kP, hkP, -⟩ := className_of_methodNamed hnamed
  have hinitP : kP.init = .initialized := Cond.initialized_spec (findClass_of_methodNamed hnamed) hkP hinit
  obtain ⟨vm₁, X₁, hstep₁⟩ := X.invokestatic hexec hown hlink hnamed hmethM hstatic hkP hinitP hy (g := g) hg (argsL := argsL) (rest := rest) (hlen _ hsigM) hstack hdg
  rcases hK m meth c ⟨T.setVm vm₁, locs, cells, slots⟩ { g with stack := rest } (.invokestatic index) mk argsL.toArray X₁ hg hsize hdg hW (X₁.named hnamed) (hpre vm₁ X₁.warmed) with ⟨v, B, X', hpost, hsteps⟩ | ⟨q, B, X', hpost, hsteps⟩
  · exact Or.inl ⟨v, vm₁, B, X₁.warmed, X', hpost, fun target h => hstep₁ _ fun acts => by rw [doInvoke_state]; exact hsteps.trans h⟩
  · exact Or.inr ⟨q, vm₁, B, X₁.warmed, X', hpost, hstep₁ _ fun acts => by rw [doInvoke_state]; exact hsteps⟩
end Calls
theorem vx_cls {s : State} {T : State} {vm₁ : Vm} {E : String} {k : ClassId} (hW : s.WarmedH vm₁) (h : (T.setVm vm₁).vm.findClass E = some k) : s.vm.findClass E = some k := by
  have h1 : vm₁.findClass E = some k := h
  rw [hW.alike.findClass] at h1
  exact h1
/-- the method's frame g, with q thrown over it -/
def vx_W (p : Program) (l : Launch) (e : Env) (R : Room) (s : State) (m : MethodId) (args : Array Value) (below : List Frame) (meth : Method) (c : Code) (H : Heap) (locs : List Loc) (cells slots : Nat) (Q : State → Prop) (g : JFrame) (q : Addr) : Prop :=
  ∀ T : State, T.heap = H → Stand p l e R s m args below meth c T locs cells slots → ∃ t, Steps p.tables e below ((T.setTop g).pushFrame (.throwing q)) t ∧ Q t
def vx_Run (p : Program) (l : Launch) (e : Env) (R : Room) (s : State) (m : MethodId) (args : Array Value) (below : List Frame) (meth : Method) (c : Code) (H : Heap) (locs : List Loc) (cells slots mc ms : Nat) (g : JFrame) (rest : List Value) (Qa : State → Outcome → State → Prop) (XC : String → State → State → Prop) (free : Addr → Prop) : Prop :=
  ∀ T : State, T.heap = H → Stand p l e R s m args below meth c T locs cells slots →
    (∃ (v : Option Value) (st₀ t T' : State) (L : List Loc), st₀.heap = H ∧ Stand p l e R s m args below meth c T' (locs ++ L) (cells + mc) (slots + ms) ∧ (∀ q ∈ L, free q.base) ∧ T'.heap = t.heap ∧ T'.vm = t.vm ∧ Qa st₀ (.returned v) t ∧
      Goes p e below T g T' { g with pc := g.pc + 3, stack := v.toList ++ rest }) ∨
    (∃ (q : Addr) (st₀ t T' : State) (L : List Loc) (E : String) (ce : Cell), st₀.heap = H ∧ Stand p l e R s m args below meth c T' (locs ++ L) (cells + mc) (slots + ms) ∧ (∀ z ∈ L, free z.base) ∧ T'.heap = t.heap ∧ T'.vm = t.vm ∧ XC E st₀ t ∧ t.heap[q]? = some ce ∧ ce.vm = .none ∧ s.vm.findClass E = some ce.cls ∧
      Steps p.tables e below (T.setTop g) ((T'.setTop { g with stack := rest }).pushFrame (.throwing q)))
def vx_X {S : Type} (px : S → Prop) (B : String → S → State → Prop) (A : Nat → Prop) : String → State → State → Prop := fun E st t => ∃ u : S, px u ∧ B E u t ∧ va_F A st t
section Runs
variable {p : Program} {l : Launch} {e : Env} {R : Room} {s : State} {m : MethodId} {args : Array Value} {below : List Frame} {meth : Method} {c : Code} {H : Heap} {locs : List Loc} {cells slots : Nat}
variable {y : MethodName} {bytes cc : ByteArray} {maxL nL mc ms n index : Nat} {ret : Option FieldType} {ws : List Cond} {rm : Room} {Pc : Array Value → State → Prop} {Qc : Array Value → State → Outcome → State → Prop} {XC : String → State → State → Prop} {free : Addr → Prop} {Ts : List Cond} {own C : String} {b : Addr} {As rest : List Value} {g : JFrame}
theorem vx_callBack (cb : CallB R s args own index y bytes maxL ret ws rm mc ms n) (hM : vx_Met l y ws rm Pc Qc XC mc ms free) (hbl : FrameBlind Pc) : vx_Back l R p e below s args y 3 8 (PreOf R mc ms Pc) (PostOf Qc mc ms free) (vx_Post XC mc ms free) := by
  obtain ⟨hrc, hrs, hfr, hlo, hws, hcw, -, hini, -⟩ := cb
  exact vx_back (bytes := bytes) (maxL := maxL) (ret := ret) hM hbl hrc hrs hfr hlo hws hcw (fun a' U hW => word_at hW (Or.inl (by first | rfl | simp [Cond.onTables, Cond.keeps, Cond.steady])) hini)
theorem vx_runV (S : CallFix p m c cc nL s args Ts own) (hM : vx_Met l y ws rm Pc Qc XC mc ms free) (cw : CallW R s args own C index y bytes maxL ret ws rm mc ms n) (hp : PreV s H C b Pc As)
    (hg : g.method = m) (hn : As.length = n) (hsize : g.locals.size = nL) (hstack : g.stack = As.reverse ++ .ref b :: rest) (hW : 2 * g.monitorRoom + (rest.map fun v => v.category).sum ≤ 8) (hdg : decode cc g.pc = .ok (.invokevirtual index, 3)) (hf : cells + mc ≤ R.cells ∧ slots + ms ≤ R.slots) :
    vx_Run p l e R s m args below meth c H locs cells slots mc ms g rest (Qc (Value.ref b :: As).toArray) XC free := by
  have hK : vx_Back l R p e below s args y 3 8 (PreOf R mc ms Pc) (PostOf Qc mc ms free) (vx_Post XC mc ms free) := vx_callBack cw.1 hM hp.1
  obtain ⟨⟨-, -, -, -, -, -, hcode, -, hy, hlen, hl⟩, hin, hse⟩ := cw
  obtain ⟨hx, hb, hml, ho, -⟩ := S
  obtain ⟨-, ⟨cellB, hcB, hoB, hclB⟩, hPc⟩ := hp
  intro T hT X
  rcases vx_callV X hx (C := C) (bytes := bytes) (maxL := maxL) (ret := ret) ho hl hin hse hcode hy hK (by rw [hT]; exact hcB) hoB hclB hg (hsize.trans hml.symm) (argsL := As) (rest := rest) (fun sig h => hn.trans (hlen sig h)) hstack hW (by rw [hb]; exact hdg)
    (fun vm₁ hW₁ => ⟨hf.1, hf.2, hPc (T.setVm vm₁) hT hW₁⟩) with ⟨v, vm₁, ⟨U', l2, c2, s2⟩, hW₁, X', ⟨g', mk, t, L, e1, e2, hq, h1, hL, h2, h3⟩, st⟩ | ⟨q, vm₁, ⟨U', l2, c2, s2⟩, hW₁, X', ⟨g', mk, t, L, E, ce, e1, e2, hq, hce, hcv, hcl, h1, hL, h2, h3⟩, st⟩
  · dsimp only [Pt.U, Pt.locs, Pt.cells, Pt.slots] at X' e1 e2 h1 h2 h3 st
    subst h1; subst h2; subst h3
    exact Or.inl ⟨v, (T.setVm vm₁).calling g' mk (Value.ref b :: As).toArray, t, U', L, hT, X', hL, e1, e2, hq, st⟩
  · dsimp only [Pt.U, Pt.locs, Pt.cells, Pt.slots] at X' e1 e2 h1 h2 h3 st hcl
    subst h1; subst h2; subst h3
    exact Or.inr ⟨q, (T.setVm vm₁).calling g' mk (Value.ref b :: As).toArray, t, U', L, E, ce, hT, X', hL, e1, e2, hq, hce, hcv, vx_cls hW₁ hcl, st⟩
theorem vx_runS (S : CallFix p m c cc nL s args Ts own) (hM : vx_Met l y ws rm Pc Qc XC mc ms free) (cw : CallB R s args own index y bytes maxL ret ws rm mc ms n ∧ (Cond.static y).before args s = true) (hp : PreS s H Pc As)
    (hg : g.method = m) (hn : As.length = n) (hsize : g.locals.size = nL) (hstack : g.stack = As.reverse ++ rest) (hW : 2 * g.monitorRoom + (rest.map fun v => v.category).sum ≤ 8) (hdg : decode cc g.pc = .ok (.invokestatic index, 3)) (hf : cells + mc ≤ R.cells ∧ slots + ms ≤ R.slots) :
    vx_Run p l e R s m args below meth c H locs cells slots mc ms g rest (Qc As.toArray) XC free := by
  have hK : vx_Back l R p e below s args y 3 8 (PreOf R mc ms Pc) (PostOf Qc mc ms free) (vx_Post XC mc ms free) := vx_callBack cw.1 hM hp.1
  obtain ⟨⟨-, -, -, -, -, -, hcode, hini, hy, hlen, hl⟩, hstt⟩ := cw
  obtain ⟨hx, hb, hml, ho, -⟩ := S
  intro T hT X
  rcases vx_callS X hx (bytes := bytes) (maxL := maxL) (ret := ret) ho hl hstt hini hcode hy hK hg (hsize.trans hml.symm) (argsL := As) (rest := rest) (fun sig h => hn.trans (hlen sig h)) hstack hW (by rw [hb]; exact hdg)
    (fun vm₁ hW₁ => ⟨hf.1, hf.2, hp.2 (T.setVm vm₁) hT hW₁⟩) with ⟨v, vm₁, ⟨U', l2, c2, s2⟩, hW₁, X', ⟨g', mk, t, L, e1, e2, hq, h1, hL, h2, h3⟩, st⟩ | ⟨q, vm₁, ⟨U', l2, c2, s2⟩, hW₁, X', ⟨g', mk, t, L, E, ce, e1, e2, hq, hce, hcv, hcl, h1, hL, h2, h3⟩, st⟩
  · dsimp only [Pt.U, Pt.locs, Pt.cells, Pt.slots] at X' e1 e2 h1 h2 h3 st
    subst h1; subst h2; subst h3
    exact Or.inl ⟨v, (T.setVm vm₁).calling g' mk As.toArray, t, U', L, hT, X', hL, e1, e2, hq, st⟩
  · dsimp only [Pt.U, Pt.locs, Pt.cells, Pt.slots] at X' e1 e2 h1 h2 h3 st hcl
    subst h1; subst h2; subst h3
    exact Or.inr ⟨q, (T.setVm vm₁).calling g' mk As.toArray, t, U', L, E, ce, hT, X', hL, e1, e2, hq, hce, hcv, vx_cls hW₁ hcl, st⟩
end Runs
section Rows
variable {p : Program} {l : Launch} {e : Env} {R : Room} {s : State} {m : MethodId} {args : Array Value} {below : List Frame} {meth : Method} {c : Code} {H : Heap} {locs : List Loc} {cells slots : Nat} {Q : State → Prop}
variable {mc ms : Nat} {free : Addr → Prop} {A0 A1 : Nat → Prop} {H0 : Heap} {a : Array Value} {pc : Nat} {ls : Array Slot} {st0 rest : List Value}
theorem vx_keep {st₀ t T' : State} {L : List Loc} (h0 : st₀.heap = H) (e1 : T'.heap = t.heap) (hS : va_S A0 H0 H locs) (hA : ∀ q, q < H.size → A1 q → A0 q) (hf : ∀ q, free q → A0 q) (hL : ∀ q ∈ L, free q.base) (hF : va_F A1 st₀ t) :
    H.size ≤ T'.heap.size ∧ (∀ q : Nat, q < H.size → ¬ A1 q → T'.heap[q]? = H[q]?) ∧ va_S A0 H0 T'.heap (locs ++ L) := by
  obtain ⟨hz, hk⟩ := hF
  rw [h0] at hz hk
  exact ⟨by rw [e1]; exact hz, fun q h1 h2 => by rw [e1]; exact hk q h1 h2,
    ⟨Nat.le_trans hS.1 (by rw [e1]; exact hz), fun q h1 h2 => by rw [e1, hk q (Nat.lt_of_lt_of_le h1 hS.1) (fun z => h2 (hA q (Nat.lt_of_lt_of_le h1 hS.1) z))]; exact hS.2.1 q h1 h2, fun q hq => by
      rcases List.mem_append.mp hq with h | h
      · exact hS.2.2 q h
      · exact hf _ (hL q h)⟩⟩
theorem vx_calli {S SX : Type} {post : Int32 → S → Prop} {px : SX → Prop} {B : S → State → Prop} {BX : String → SX → State → Prop} {AX : Nat → Prop} (hr : vx_Run p l e R s m args below meth c H locs cells slots mc ms (F0 m pc ls st0) rest (va_Qi post B A1 a) (vx_X px BX AX) free) (hS : va_S A0 H0 H locs) (hA : ∀ q, q < H.size → A1 q → A0 q) (hf : ∀ q, free q → A0 q) (hAX : ∀ q, q < H.size → AX q → A0 q)
    (kx : ∀ (E : String) (ce : Cell) (q9 : Addr) (u : SX) (t : State) (H1 : Heap) (locs1 : List Loc), t.heap = H1 → s.vm.Alike t.vm → px u → BX E u t → H.size ≤ H1.size → (∀ q : Nat, q < H.size → ¬ AX q → H1[q]? = H[q]?) → va_S A0 H0 H1 locs1 → H1[q9]? = some ce → ce.vm = .none → s.vm.findClass E = some ce.cls → vx_W p l e R s m args below meth c H1 locs1 (cells + mc) (slots + ms) Q (F0 m pc ls rest) q9)
    (kk : ∀ (r : Int32) (u : S) (t : State) (H1 : Heap) (locs1 : List Loc), t.heap = H1 → s.vm.Alike t.vm → post r u → B u t → H.size ≤ H1.size → (∀ q : Nat, q < H.size → ¬ A1 q → H1[q]? = H[q]?) → va_S A0 H0 H1 locs1 → W p l e R s m args below meth c H1 locs1 (cells + mc) (slots + ms) Q (F0 m (pc + 3) ls (.int r :: rest))) : W p l e R s m args below meth c H locs cells slots Q (F0 m pc ls st0) := by
  intro T hT X
  rcases hr T hT X with ⟨v, st₀, t, T', L, h0, X', hL, e1, e2, ⟨⟨r, u, hv, hp, hb⟩, hF⟩, st⟩ | ⟨q, st₀, t, T', L, E, ce, h0, X', hL, e1, e2, ⟨u, hp, hb, hF⟩, hce, hcv, hcl, st⟩
  · cases hv
    obtain ⟨k1, k2, k3⟩ := vx_keep h0 e1 hS hA hf hL hF
    obtain ⟨t2, a1, b1⟩ := kk r u t T'.heap (locs ++ L) e1.symm (by rw [← e2]; exact X'.warmed.alike) hp hb k1 k2 k3 T' rfl X'
    exact ⟨t2, st t2 a1, b1⟩
  · obtain ⟨k1, k2, k3⟩ := vx_keep h0 e1 hS hAX hf hL hF
    obtain ⟨t2, a1, b1⟩ := kx E ce q u t T'.heap (locs ++ L) e1.symm (by rw [← e2]; exact X'.warmed.alike) hp hb k1 k2 k3 (by rw [e1]; exact hce) hcv hcl T' rfl X'
    exact ⟨t2, st.trans a1, b1⟩
theorem vx_calll {S SX : Type} {post : Int64 → S → Prop} {px : SX → Prop} {B : S → State → Prop} {BX : String → SX → State → Prop} {AX : Nat → Prop} (hr : vx_Run p l e R s m args below meth c H locs cells slots mc ms (F0 m pc ls st0) rest (va_Ql post B A1 a) (vx_X px BX AX) free) (hS : va_S A0 H0 H locs) (hA : ∀ q, q < H.size → A1 q → A0 q) (hf : ∀ q, free q → A0 q) (hAX : ∀ q, q < H.size → AX q → A0 q)
    (kx : ∀ (E : String) (ce : Cell) (q9 : Addr) (u : SX) (t : State) (H1 : Heap) (locs1 : List Loc), t.heap = H1 → s.vm.Alike t.vm → px u → BX E u t → H.size ≤ H1.size → (∀ q : Nat, q < H.size → ¬ AX q → H1[q]? = H[q]?) → va_S A0 H0 H1 locs1 → H1[q9]? = some ce → ce.vm = .none → s.vm.findClass E = some ce.cls → vx_W p l e R s m args below meth c H1 locs1 (cells + mc) (slots + ms) Q (F0 m pc ls rest) q9)
    (kk : ∀ (r : Int64) (u : S) (t : State) (H1 : Heap) (locs1 : List Loc), t.heap = H1 → s.vm.Alike t.vm → post r u → B u t → H.size ≤ H1.size → (∀ q : Nat, q < H.size → ¬ A1 q → H1[q]? = H[q]?) → va_S A0 H0 H1 locs1 → W p l e R s m args below meth c H1 locs1 (cells + mc) (slots + ms) Q (F0 m (pc + 3) ls (.long r :: rest))) : W p l e R s m args below meth c H locs cells slots Q (F0 m pc ls st0) := by
  intro T hT X
  rcases hr T hT X with ⟨v, st₀, t, T', L, h0, X', hL, e1, e2, ⟨⟨r, u, hv, hp, hb⟩, hF⟩, st⟩ | ⟨q, st₀, t, T', L, E, ce, h0, X', hL, e1, e2, ⟨u, hp, hb, hF⟩, hce, hcv, hcl, st⟩
  · cases hv
    obtain ⟨k1, k2, k3⟩ := vx_keep h0 e1 hS hA hf hL hF
    obtain ⟨t2, a1, b1⟩ := kk r u t T'.heap (locs ++ L) e1.symm (by rw [← e2]; exact X'.warmed.alike) hp hb k1 k2 k3 T' rfl X'
    exact ⟨t2, st t2 a1, b1⟩
  · obtain ⟨k1, k2, k3⟩ := vx_keep h0 e1 hS hAX hf hL hF
    obtain ⟨t2, a1, b1⟩ := kx E ce q u t T'.heap (locs ++ L) e1.symm (by rw [← e2]; exact X'.warmed.alike) hp hb k1 k2 k3 (by rw [e1]; exact hce) hcv hcl T' rfl X'
    exact ⟨t2, st.trans a1, b1⟩
theorem vx_callf {S SX : Type} {post : UInt32 → S → Prop} {px : SX → Prop} {B : S → State → Prop} {BX : String → SX → State → Prop} {AX : Nat → Prop} (hr : vx_Run p l e R s m args below meth c H locs cells slots mc ms (F0 m pc ls st0) rest (va_Qf post B A1 a) (vx_X px BX AX) free) (hS : va_S A0 H0 H locs) (hA : ∀ q, q < H.size → A1 q → A0 q) (hf : ∀ q, free q → A0 q) (hAX : ∀ q, q < H.size → AX q → A0 q)
    (kx : ∀ (E : String) (ce : Cell) (q9 : Addr) (u : SX) (t : State) (H1 : Heap) (locs1 : List Loc), t.heap = H1 → s.vm.Alike t.vm → px u → BX E u t → H.size ≤ H1.size → (∀ q : Nat, q < H.size → ¬ AX q → H1[q]? = H[q]?) → va_S A0 H0 H1 locs1 → H1[q9]? = some ce → ce.vm = .none → s.vm.findClass E = some ce.cls → vx_W p l e R s m args below meth c H1 locs1 (cells + mc) (slots + ms) Q (F0 m pc ls rest) q9)
    (kk : ∀ (r : UInt32) (u : S) (t : State) (H1 : Heap) (locs1 : List Loc), t.heap = H1 → s.vm.Alike t.vm → post r u → B u t → H.size ≤ H1.size → (∀ q : Nat, q < H.size → ¬ A1 q → H1[q]? = H[q]?) → va_S A0 H0 H1 locs1 → W p l e R s m args below meth c H1 locs1 (cells + mc) (slots + ms) Q (F0 m (pc + 3) ls (.float r :: rest))) : W p l e R s m args below meth c H locs cells slots Q (F0 m pc ls st0) := by
  intro T hT X
  rcases hr T hT X with ⟨v, st₀, t, T', L, h0, X', hL, e1, e2, ⟨⟨r, u, hv, hp, hb⟩, hF⟩, st⟩ | ⟨q, st₀, t, T', L, E, ce, h0, X', hL, e1, e2, ⟨u, hp, hb, hF⟩, hce, hcv, hcl, st⟩
  · cases hv
    obtain ⟨k1, k2, k3⟩ := vx_keep h0 e1 hS hA hf hL hF
    obtain ⟨t2, a1, b1⟩ := kk r u t T'.heap (locs ++ L) e1.symm (by rw [← e2]; exact X'.warmed.alike) hp hb k1 k2 k3 T' rfl X'
    exact ⟨t2, st t2 a1, b1⟩
  · obtain ⟨k1, k2, k3⟩ := vx_keep h0 e1 hS hAX hf hL hF
    obtain ⟨t2, a1, b1⟩ := kx E ce q u t T'.heap (locs ++ L) e1.symm (by rw [← e2]; exact X'.warmed.alike) hp hb k1 k2 k3 (by rw [e1]; exact hce) hcv hcl T' rfl X'
    exact ⟨t2, st.trans a1, b1⟩
theorem vx_calld {S SX : Type} {post : UInt64 → S → Prop} {px : SX → Prop} {B : S → State → Prop} {BX : String → SX → State → Prop} {AX : Nat → Prop} (hr : vx_Run p l e R s m args below meth c H locs cells slots mc ms (F0 m pc ls st0) rest (va_Qd post B A1 a) (vx_X px BX AX) free) (hS : va_S A0 H0 H locs) (hA : ∀ q, q < H.size → A1 q → A0 q) (hf : ∀ q, free q → A0 q) (hAX : ∀ q, q < H.size → AX q → A0 q)
    (kx : ∀ (E : String) (ce : Cell) (q9 : Addr) (u : SX) (t : State) (H1 : Heap) (locs1 : List Loc), t.heap = H1 → s.vm.Alike t.vm → px u → BX E u t → H.size ≤ H1.size → (∀ q : Nat, q < H.size → ¬ AX q → H1[q]? = H[q]?) → va_S A0 H0 H1 locs1 → H1[q9]? = some ce → ce.vm = .none → s.vm.findClass E = some ce.cls → vx_W p l e R s m args below meth c H1 locs1 (cells + mc) (slots + ms) Q (F0 m pc ls rest) q9)
    (kk : ∀ (r : UInt64) (u : S) (t : State) (H1 : Heap) (locs1 : List Loc), t.heap = H1 → s.vm.Alike t.vm → post r u → B u t → H.size ≤ H1.size → (∀ q : Nat, q < H.size → ¬ A1 q → H1[q]? = H[q]?) → va_S A0 H0 H1 locs1 → W p l e R s m args below meth c H1 locs1 (cells + mc) (slots + ms) Q (F0 m (pc + 3) ls (.double r :: rest))) : W p l e R s m args below meth c H locs cells slots Q (F0 m pc ls st0) := by
  intro T hT X
  rcases hr T hT X with ⟨v, st₀, t, T', L, h0, X', hL, e1, e2, ⟨⟨r, u, hv, hp, hb⟩, hF⟩, st⟩ | ⟨q, st₀, t, T', L, E, ce, h0, X', hL, e1, e2, ⟨u, hp, hb, hF⟩, hce, hcv, hcl, st⟩
  · cases hv
    obtain ⟨k1, k2, k3⟩ := vx_keep h0 e1 hS hA hf hL hF
    obtain ⟨t2, a1, b1⟩ := kk r u t T'.heap (locs ++ L) e1.symm (by rw [← e2]; exact X'.warmed.alike) hp hb k1 k2 k3 T' rfl X'
    exact ⟨t2, st t2 a1, b1⟩
  · obtain ⟨k1, k2, k3⟩ := vx_keep h0 e1 hS hAX hf hL hF
    obtain ⟨t2, a1, b1⟩ := kx E ce q u t T'.heap (locs ++ L) e1.symm (by rw [← e2]; exact X'.warmed.alike) hp hb k1 k2 k3 (by rw [e1]; exact hce) hcv hcl T' rfl X'
    exact ⟨t2, st.trans a1, b1⟩
theorem vx_callv {S SX : Type} {post : S → Prop} {px : SX → Prop} {B : S → State → Prop} {BX : String → SX → State → Prop} {AX : Nat → Prop} (hr : vx_Run p l e R s m args below meth c H locs cells slots mc ms (F0 m pc ls st0) rest (va_Qv post B A1 a) (vx_X px BX AX) free) (hS : va_S A0 H0 H locs) (hA : ∀ q, q < H.size → A1 q → A0 q) (hf : ∀ q, free q → A0 q) (hAX : ∀ q, q < H.size → AX q → A0 q)
    (kx : ∀ (E : String) (ce : Cell) (q9 : Addr) (u : SX) (t : State) (H1 : Heap) (locs1 : List Loc), t.heap = H1 → s.vm.Alike t.vm → px u → BX E u t → H.size ≤ H1.size → (∀ q : Nat, q < H.size → ¬ AX q → H1[q]? = H[q]?) → va_S A0 H0 H1 locs1 → H1[q9]? = some ce → ce.vm = .none → s.vm.findClass E = some ce.cls → vx_W p l e R s m args below meth c H1 locs1 (cells + mc) (slots + ms) Q (F0 m pc ls rest) q9)
    (kk : ∀ (u : S) (t : State) (H1 : Heap) (locs1 : List Loc), t.heap = H1 → s.vm.Alike t.vm → post u → B u t → H.size ≤ H1.size → (∀ q : Nat, q < H.size → ¬ A1 q → H1[q]? = H[q]?) → va_S A0 H0 H1 locs1 → W p l e R s m args below meth c H1 locs1 (cells + mc) (slots + ms) Q (F0 m (pc + 3) ls (rest))) : W p l e R s m args below meth c H locs cells slots Q (F0 m pc ls st0) := by
  intro T hT X
  rcases hr T hT X with ⟨v, st₀, t, T', L, h0, X', hL, e1, e2, ⟨⟨u, hv, hp, hb⟩, hF⟩, st⟩ | ⟨q, st₀, t, T', L, E, ce, h0, X', hL, e1, e2, ⟨u, hp, hb, hF⟩, hce, hcv, hcl, st⟩
  · cases hv
    obtain ⟨k1, k2, k3⟩ := vx_keep h0 e1 hS hA hf hL hF
    obtain ⟨t2, a1, b1⟩ := kk u t T'.heap (locs ++ L) e1.symm (by rw [← e2]; exact X'.warmed.alike) hp hb k1 k2 k3 T' rfl X'
    exact ⟨t2, st t2 a1, b1⟩
  · obtain ⟨k1, k2, k3⟩ := vx_keep h0 e1 hS hAX hf hL hF
    obtain ⟨t2, a1, b1⟩ := kx E ce q u t T'.heap (locs ++ L) e1.symm (by rw [← e2]; exact X'.warmed.alike) hp hb k1 k2 k3 (by rw [e1]; exact hce) hcv hcl T' rfl X'
    exact ⟨t2, st.trans a1, b1⟩
/-- caught by the row x of this method's table; the rows ahead don't take it -/
theorem vx_catch {own name : String} {E : String} {ce : Cell} {q : Addr} (hown : s.vm.findClass own = some m.cls) (pre : List ExceptionTableEntry) (x : ExceptionTableEntry) (suf : List ExceptionTableEntry) (hsplit : c.exceptionTable.toList = pre ++ x :: suf)
    (hpass : ∀ z ∈ pre, covers z pc = false ∨ (z.catchType ≠ 0 ∧ ∃ nm : String, (Cond.classLink own z.catchType nm).before args s = true ∧ va_Nc E nm s)) (hx : covers x pc = true) (h0 : x.catchType ≠ 0)
    (hlink : (Cond.classLink own x.catchType name).before args s = true) (hcast : (Cond.castable E name).before args s = true) (hcell : H[q]? = some ce) (hv : ce.vm = .none) (hcl : s.vm.findClass E = some ce.cls)
    (kk : W p l e R s m args below meth c H locs cells slots Q (F0 m x.handlerPc ls [.ref q])) : vx_W p l e R s m args below meth c H locs cells slots Q (F0 m pc ls rest) q := by
  intro T hT X
  have hpl : e.platform.magicAccessors = ({} : Platform).magicAccessors := by rw [X.admits.platform]
  obtain ⟨c3, c4, hc3, hc4, hasg⟩ := Cond.castable_spec hcast
  cases Option.some.inj (hc3.symm.trans hcl)
  obtain ⟨c5, hc5, hcl5⟩ := Cond.classLink_spec hown hlink e.platform hpl
  cases Option.some.inj (hc4.symm.trans hc5)
  obtain ⟨vm', X', st⟩ := X.thenCaughtThrough q (g := F0 m pc ls rest) rfl (Steps.refl _) (by rw [hT]; exact hcell) (by rw [hv]; rfl) (by obtain ⟨k9, h9, -⟩ := Vm.findClass_spec hcl; exact ⟨k9, h9⟩) pre x suf hsplit
    (fun z hz => by
      rcases hpass z hz with h | ⟨hz0, nm, hl1, hn1⟩
      · exact Or.inl h
      · obtain ⟨c6, hc6, hcl6⟩ := Cond.classLink_spec hown hl1 e.platform hpl
        obtain ⟨a8, b8, h1, h2, h3⟩ := hn1
        cases Option.some.inj (h1.symm.trans hcl)
        cases Option.some.inj (h2.symm.trans hc6)
        exact Or.inr ⟨hz0, _, hcl6, h3⟩) hx (Or.inr ⟨h0, c4, hcl5, hasg⟩)
  obtain ⟨t, a1, b1⟩ := kk (T.setVm vm') hT X'
  exact ⟨t, st.trans a1, b1⟩
end Rows
section Ends
variable {p : Program} {l : Launch} {e : Env} {R : Room} {s : State} {m : MethodId} {args : Array Value} {below : List Frame} {meth : Method} {c : Code} {H : Heap} {locs : List Loc} {cells slots : Nat} {Q : State → Prop}
variable {mc ms : Nat} {free : Addr → Prop} {A0 A1 : Nat → Prop} {H0 : Heap} {a : Array Value} {ls : Array Slot} {st0 rest : List Value}
variable {Qc : Array Value → State → Outcome → State → Prop} {XC : String → State → State → Prop}
/-- what a body that may throw owes at its end -/
def vx_MQ (below : List Frame) (Qc : Array Value → State → Outcome → State → Prop) (XC : String → State → State → Prop) (a : Array Value) (s : State) (mc ms : Nat) (free : Addr → Prop) : State → Prop := fun t =>
  ∃ o, t.status = .running ∧ Ended t below o ∧ vx_Q Qc XC mc ms free a s o t
theorem vx_ret {g : JFrame} {mc ms : Nat} (k : W p l e R s m args below meth c H locs cells slots (MQ below Qc args s mc ms free) g) : W p l e R s m args below meth c H locs cells slots (vx_MQ below Qc XC args s mc ms free) g := by
  intro T hT X
  obtain ⟨t, a1, o, b1, b2, b3, b4⟩ := k T hT X
  exact ⟨t, a1, o, b1, b2, Or.inl ⟨b3, b4⟩⟩
/-- not caught here: it goes on to the caller -/
theorem vx_widen {g : JFrame} {q : Addr} {k n : Nat} (h1 : cells ≤ k) (h2 : slots ≤ n) (kk : vx_W p l e R s m args below meth c H locs k n Q g q) : vx_W p l e R s m args below meth c H locs cells slots Q g q := fun T hT X => kk T hT (stand_widen X h1 h2)
theorem vx_out {pc : Nat} {E : String} {ce : Cell} {q : Addr} {mc ms : Nat} (hout : ∀ x ∈ c.exceptionTable.toList, covers x pc = false) (hlocks : meth.locks = false) (hcell : H[q]? = some ce) (hv : ce.vm = .none) (hcl : s.vm.findClass E = some ce.cls)
    (hx : ∀ t : State, t.heap = H → s.vm.Alike t.vm → XC E s t) (hf : ∀ z ∈ locs, free z.base) (hc : cells ≤ mc) (hs : slots ≤ ms) :
    vx_W p l e R s m args below meth c H locs cells slots (vx_MQ below Qc XC args s mc ms free) (F0 m pc ls rest) q := by
  intro T hT X
  obtain ⟨st1, hrun, hend, hW, hsm⟩ := X.leaveThrown q (g := F0 m pc ls rest) rfl rfl rfl hout hlocks
  have hcell9 : (T.setFrames (.throwing q :: below)).heap[q]? = some ce := by
    show T.heap[q]? = some ce
    rw [hT]; exact hcell
  exact ⟨_, st1, .threw q, hrun, hend, Or.inr ⟨q, rfl, E, ce, locs, hx _ hT hW.alike, hcell9, hv, hcl, hW, hsm.mono hc hs, hf⟩⟩
theorem vx_frame {U : State} {k n : Nat} (h : s.sameButNew ({ U with vm := s.vm } : State) locs k n) : s.heap.size ≤ U.heap.size ∧ ∀ q : Nat, q < s.heap.size → (∀ z ∈ locs, z.base ≠ q) → U.heap[q]? = s.heap[q]? := by
  obtain ⟨-, h2, -, -, -, h6⟩ := h
  refine ⟨h2, fun q hq hz => ?_⟩
  obtain ⟨c9, e1, e2, e3, e4⟩ := h6 q _ (Array.getElem?_eq_getElem hq)
  have hs : c9.slots = (s.heap[q]).slots := Array.ext_getElem? fun i => e4 i fun hm => hz _ hm rfl
  have h9 : c9 = s.heap[q] := by
    rw [hs] at e2
    exact e2
  have e5 : U.heap[q]? = some c9 := e1
  rw [e5, h9, Array.getElem?_eq_getElem hq]
/-- the words of a throw but the four that speak of the heap -/
def vx_no (w : Cond) : Bool := decide (w ≠ .isRef (.static Bundle.tN "UNASSIGNED_STACK" Bundle.steD)) && decide (w ≠ .isRef (.static Bundle.tN "SUPPRESSED_SENTINEL" Bundle.listD)) && decide (w ≠ .laysStatic Bundle.tN "UNASSIGNED_STACK" Bundle.steD) && decide (w ≠ .laysStatic Bundle.tN "SUPPRESSED_SENTINEL" Bundle.listD)
def vx_at0 (own : String) (ic : Nat) (X : String) (names : List String) : List Cond := (Bundle.ownAtoms0 own ic X names).filter vx_no
def vx_atS (own : String) (ic : Nat) (X : String) (names : List String) : List Cond := (Bundle.ownAtoms own ic X names).filter vx_no
/-- a word that the tables alone decide, or a good one -/
def vx_ot (w : Cond) : Bool := w.onTables || goodWord w
theorem vx_ot_at {args a' : Array Value} {s U : State} {w : Cond} (hW : s.WarmedH U.vm) (hvm : s.vm = U.vm) (hg : vx_ot w = true) (h : w.before args s = true) : w.before a' U = true := by
  simp only [vx_ot, Bool.or_eq_true] at hg
  rcases hg with hg | hg
  · exact va_tabs hg hvm h
  · exact word_at hW (good_of_word hg) h
/-- a list's words: the good ones out of the method's own list, the others by premises of their own -/
theorem vx_hat {args : Array Value} {s : State} {L B : List Cond} (h1 : ∀ w ∈ L.filter goodWord, w.before args s = true) (h2 : ∀ w ∈ L.filter (fun w => !goodWord w), w ∈ B) (h3 : ∀ w ∈ B, w.before args s = true) : ∀ w ∈ L, w.before args s = true := by
  intro w hw
  by_cases g : goodWord w = true
  · exact h1 w (List.mem_filter.mpr ⟨hw, g⟩)
  · refine h3 w (h2 w (List.mem_filter.mpr ⟨hw, ?_⟩))
    show (!goodWord w) = true
    cases hgw : goodWord w
    · rfl
    · exact absurd hgw g
theorem vx_c {args : Array Value} {s : State} {w : Cond} {B : List Cond} (h : w.before args s = true) (t : ∀ w ∈ B, w.before args s = true) : ∀ w' ∈ w :: B, w'.before args s = true := fun w' h' => (List.mem_cons.mp h').elim (fun e => by rw [e]; exact h) (t w')
theorem vx_n {args : Array Value} {s : State} : ∀ w ∈ ([] : List Cond), w.before args s = true := fun _ h => nomatch h
theorem vx_own {args : Array Value} {s : State} {L : List Cond} (h1 : ∀ w ∈ L.filter vx_no, w.before args s = true)
    (hU : (Cond.isRef (.static Bundle.tN "UNASSIGNED_STACK" Bundle.steD)).before args s = true) (hN : (Cond.isRef (.static Bundle.tN "SUPPRESSED_SENTINEL" Bundle.listD)).before args s = true)
    (lU : (Cond.laysStatic Bundle.tN "UNASSIGNED_STACK" Bundle.steD).before args s = true) (lN : (Cond.laysStatic Bundle.tN "SUPPRESSED_SENTINEL" Bundle.listD).before args s = true) : ∀ w ∈ L, w.before args s = true := by
  intro w hw
  by_cases e1 : w = .isRef (.static Bundle.tN "UNASSIGNED_STACK" Bundle.steD)
  · rw [e1]; exact hU
  · by_cases e2 : w = .isRef (.static Bundle.tN "SUPPRESSED_SENTINEL" Bundle.listD)
    · rw [e2]; exact hN
    · by_cases e3 : w = .laysStatic Bundle.tN "UNASSIGNED_STACK" Bundle.steD
      · rw [e3]; exact lU
      · by_cases e4 : w = .laysStatic Bundle.tN "SUPPRESSED_SENTINEL" Bundle.listD
        · rw [e4]; exact lN
        · exact h1 w (List.mem_filter.mpr ⟨hw, by unfold vx_no; rw [decide_eq_true e1, decide_eq_true e2, decide_eq_true e3, decide_eq_true e4]; rfl⟩)
/-- where a static field lies, its class's statics cell in H -/
def vx_L (C n d : String) (A : Nat → Prop) (U : State) (H : Heap) : Prop := ∃ (c : ClassId) (k : Class) (i : Nat) (f : Field) (a : Nat) (cell : Cell), U.vm.findClass C = some c ∧ U.fieldFound? C n d = some (c, k, i, f) ∧ f.isStatic = true ∧ k.statics = some a ∧ H[a]? = some cell ∧ cell.vm.isStatics = true ∧ cell.cls = c ∧ f.slot < cell.slots.size ∧ k.staticTypes[f.slot]? = some f.type ∧ ¬ A a
theorem vx_L.moved {C n d : String} {A : Nat → Prop} {u U : State} {H : Heap} (hvm : u.vm.Alike U.vm) (h : vx_L C n d A u H) : vx_L C n d A U H := by
  obtain ⟨c, k, i, f, a, cell, h1, h2, h3, h4, h5, h6, h7, h8, h9, h10⟩ := h
  obtain ⟨k', hi', he⟩ := State.fieldFound?_setVm hvm h2
  exact ⟨c, k', i, f, a, cell, by rw [hvm.findClass]; exact h1, hi', h3, by rw [he]; exact h4, h5, h6, h7, h8, by rw [he]; exact h9, h10⟩
theorem vx_L.kept {C n d : String} {A : Nat → Prop} {U : State} {H H1 : Heap} (h : vx_L C n d A U H) (hq : ∀ a : Nat, a < H.size → ¬ A a → H1[a]? = H[a]?) : vx_L C n d A U H1 := by
  obtain ⟨c, k, i, f, a, cell, h1, h2, h3, h4, h5, h6, h7, h8, h9, h10⟩ := h
  exact ⟨c, k, i, f, a, cell, h1, h2, h3, h4, by rw [hq a (Array.getElem?_eq_some_iff.mp h5).1 h10]; exact h5, h6, h7, h8, h9, h10⟩
theorem vx_L.narrow {C n d : String} {A B : Nat → Prop} {U : State} {H : Heap} (h : vx_L C n d A U H) (hAB : ∀ q, B q → A q) : vx_L C n d B U H := by
  obtain ⟨c, k, i, f, a, cell, h1, h2, h3, h4, h5, h6, h7, h8, h9, h10⟩ := h
  exact ⟨c, k, i, f, a, cell, h1, h2, h3, h4, h5, h6, h7, h8, h9, fun z => h10 (hAB _ z)⟩
theorem vx_L.word {C n d : String} {A : Nat → Prop} {s : State} {args : Array Value} (h : vx_L C n d A s s.heap) : (Cond.laysStatic C n d).before args s = true := by
  obtain ⟨c, k, i, f, a, cell, h1, h2, h3, h4, h5, h6, h7, h8, h9, -⟩ := h
  show (Cond.laysStatic C n d).holds args s none s [] = true
  exact Cond.laysStatic_of h1 h2 h3 h4 h5 h6 h7 h8 h9
/-- .. and what it holds: null or some reference -/
def vx_Zq (C n d : String) (A : Nat → Prop) (U : State) (H : Heap) : Prop := va_Zq C n d A U H ∧ vx_L C n d A U H
theorem vx_Zq.moved {C n d : String} {A : Nat → Prop} {u U : State} {H : Heap} (hvm : u.vm.Alike U.vm) (h : vx_Zq C n d A u H) : vx_Zq C n d A U H := ⟨va_Zq.moved hvm h.1, vx_L.moved hvm h.2⟩
theorem vx_Zq.kept {C n d : String} {A : Nat → Prop} {U : State} {H H1 : Heap} (h : vx_Zq C n d A U H) (hq : ∀ a : Nat, a < H.size → ¬ A a → H1[a]? = H[a]?) : vx_Zq C n d A U H1 := ⟨va_Zq.kept h.1 hq, vx_L.kept h.2 hq⟩
theorem vx_Zq.narrow {C n d : String} {A B : Nat → Prop} {U : State} {H : Heap} (h : vx_Zq C n d A U H) (hAB : ∀ q, B q → A q) : vx_Zq C n d B U H := ⟨va_Zq.narrow h.1 hAB, vx_L.narrow h.2 hAB⟩
theorem vx_Zqof {args : Array Value} {s : State} {C n d : String} {A : Nat → Prop} (hl : (Cond.laysStatic C n d).before args s = true) (hini : (Cond.initialized C).before args s = true) (h : (Cond.isRef (.static C n d)).before args s = true) (hA : ∀ a : Nat, a < s.heap.size → ¬ A a) : vx_Zq C n d A s s.heap := by
  refine ⟨va_Zqof hl hini h hA, ?_⟩
  obtain ⟨c, k, i, f, a, cell, h1, h2, h3, h4, h5, h6, h7, h8, h9⟩ := Cond.laysStatic_spec hl
  exact ⟨c, k, i, f, a, cell, h1, h2, h3, h4, h5, h6, h7, h8, h9, hA a (Array.getElem?_eq_some_iff.mp h5).1⟩
theorem vx_isRef {C n d : String} {v : Value} {A : Nat → Prop} {s : State} {args : Array Value} (h : va_Z C n d v A s s.heap) (hv : v.isRef = true) : (Cond.isRef (.static C n d)).before args s = true := by
  obtain ⟨cf, kf, fi, f, a, cell, h1, h2, h3, h4, h5, h6, h7, -⟩ := h
  have he : (Term.static C n d).eval args s none [] s = some v := by
    simp [Term.eval, State.fieldNamed?, h1, h2, h4, h5, h6, h7]
  simp only [Cond.before, Cond.holds, Cond.value, he]
  cases v <;> simp_all [Value.isRef]
theorem vx_isRefq {C n d : String} {A : Nat → Prop} {s : State} {args : Array Value} (h : va_Zq C n d A s s.heap) : (Cond.isRef (.static C n d)).before args s = true := by
  rcases h with h | ⟨t, h⟩
  · exact vx_isRef h rfl
  · exact vx_isRef h rfl
/-- the same frame, seen from here: as if the method were called anew in this heap -/
theorem vx_rebase {T : State} (X : Stand p l e R s m args below meth c T locs cells slots) {R' : Room} (hf : R'.frames ≤ R.frames) (hl : R'.locals ≤ R.locals) (hc : cells + R'.cells ≤ R.cells) (hs : slots + R'.slots ≤ R.slots) :
    Stand p l e R' ((T.setVm s.vm).setFrames (.invoking m args :: below)) m args below meth c T [] 0 0 := by
  have htop : (T.setVm s.vm).topJava?.isSome := X.here.top
  have hF : ((T.setVm s.vm).setFrames (.invoking m args :: below)).frames = .invoking m args :: below := State.frames_setFrames _ (State.cur_lt_of_top htop)
  obtain ⟨g₀, hg0⟩ := Option.isSome_iff_exists.mp htop
  obtain ⟨r, hr⟩ := State.topJava?_eq_some.mp hg0
  have hl9 : e.platform.stackLimits (T.setVm s.vm).me = e.platform.stackLimits s.me := X.limits
  have hb9 : (T.setVm s.vm).me.stackBytes = s.me.stackBytes := X.bytes
  refine ⟨X.admits, X.cas, X.clock, hF, ?_, X.hears, X.method, X.code, X.here, X.tail, X.warmed, ?_, ?_, ?_⟩
  · have h := X.room
    have hU : ((T.setVm s.vm).setFrames (.invoking m args :: below)).localsInUse = s.localsInUse := by
      rw [State.localsInUse_invoking hF (meth := meth) (c := c) X.method X.code, State.localsInUse_invoking X.frames X.method X.code]
    simp only [State.hasRoom, Bool.and_eq_true, decide_eq_true_eq] at h ⊢
    obtain ⟨⟨⟨⟨h1, h2, h3, h4, h5, h6⟩, h7⟩, h8⟩, h9⟩ := h
    rw [X.frames, List.length_cons] at h2 h3
    have q1 := X.heapSize
    have q2 := X.used
    simp only [hF, hU, List.length_cons, State.stackLimits_setFrames, State.stackBytes_setFrames, hl9, hb9]
    refine ⟨⟨⟨⟨by omega, by omega, by omega, by omega, by omega, h6⟩, ?_⟩, ?_⟩, X.book⟩
    · show T.heap.size + R'.cells ≤ e.platform.maxCells
      omega
    · show T.slotsUsed + R'.slots ≤ e.platform.maxSlots
      omega
  · rw [State.stackLimits_setFrames]; rfl
  · rw [State.stackBytes_setFrames]; rfl
  · refine ⟨?_, Nat.le_refl _, Nat.le_refl _, ?_, ?_, fun a c9 h9 => ⟨c9, h9, rfl, rfl, fun _ _ => rfl⟩⟩
    · obtain ⟨t, ht, -⟩ := State.frames_cons hr
      show T.setVm s.vm = { ((T.setVm s.vm).setFrames (.invoking m args :: below)).setFrames (T.setVm s.vm).frames with heap := T.heap, slotsUsed := T.slotsUsed }
      rw [State.setFrames_setFrames, State.setFrames_self ht]
      rfl
    · show T.slotsUsed = T.slotsUsed + ((T.heap.toList.drop T.heap.size).map (·.slots.size)).sum
      rw [List.drop_eq_nil_of_le (Nat.le_of_eq Array.length_toList)]
      rfl
    · show ((T.heap.toList.drop T.heap.size).map (·.slots.size)).sum ≤ 0
      rw [List.drop_eq_nil_of_le (Nat.le_of_eq Array.length_toList)]
      exact Nat.le_refl _
/-- 'throw new E()': new; dup; invokespecial; athrow -/
theorem vx_throw0 {cc : ByteArray} {pc : Nat} (hexec : p.tables.exec = Jvm.exec) (hb : c.code = cc) (hl : l.stackTraces = false) {own cls : String} {names : List String} {ik ic mc ms : Nat} {A : Nat → Prop}
    (hown : s.vm.findClass own = some m.cls) (hcls : Bundle.fit cls = true) (hnames : ∀ n ∈ names, Bundle.fit n = true)
    (hk : (Cond.classLink own ik cls).before args s = true) (hini : (Cond.initialized cls).before args s = true) (hat : ∀ w ∈ vx_at0 own ic cls names, w.before args s = true)
    (hgood : ∀ w ∈ Cond.classLink own ik cls :: Cond.initialized cls :: vx_at0 own ic cls names, vx_ot w = true)
    (hU : vx_Zq Bundle.tN "UNASSIGNED_STACK" Bundle.steD A s s.heap) (hN : vx_Zq Bundle.tN "SUPPRESSED_SENTINEL" Bundle.listD A s s.heap) (hS : va_S A s.heap H locs) (hsize : ls.size = c.maxLocals)
    (d0 : decode cc pc = .ok (.new ik, 3)) (d3 : decode cc (pc + 3) = .ok (.dup, 1)) (d4 : decode cc (pc + 4) = .ok (.invokespecial ic, 3)) (d7 : decode cc (pc + 7) = .ok (.athrow, 1))
    (hout : ∀ x ∈ c.exceptionTable.toList, covers x (pc + 7) = false)
    (hRframes : names.length + 3 < R.frames) (hRlocals : (rest.map fun v => v.category).sum + (13 * (names.length + 1) + 42) ≤ R.locals) (hRcells : cells + 1 ≤ R.cells) (hRslots : slots + 6 ≤ R.slots) (hlocks : meth.locks = false)
    (hx : ∀ t : State, s.vm.Alike t.vm → H.size ≤ t.heap.size → (∀ q : Nat, q < H.size → t.heap[q]? = H[q]?) → XC cls s t)
    (hf : ∀ z ∈ locs, free z.base) (hc : cells + 1 ≤ mc) (hs : slots + 6 ≤ ms) :
    W p l e R s m args below meth c H locs cells slots (vx_MQ below Qc XC args s mc ms free) (F0 m pc ls rest) := by
  intro T hT X
  have htr : e.platform.stackTraces = false := (show e.platform.stackTraces = l.stackTraces by rw [X.admits.platform]).trans hl
  have Y := vx_rebase X (R' := { frames := R.frames, locals := R.locals, cells := 1, slots := 6 }) (Nat.le_refl _) (Nat.le_refl _) hRcells hRslots
  obtain ⟨s', hA⟩ : ∃ z, z = (T.setVm s.vm).setFrames (.invoking m args :: below) := ⟨_, rfl⟩
  rw [← hA] at Y
  have hvm : s'.vm = s.vm := by rw [hA]; rfl
  have hhp : s'.heap = H := by rw [hA]; exact hT
  have hW0 : s.WarmedH s'.vm := by rw [hvm]; exact State.WarmedH.refl s
  have hat' : ∀ w ∈ vx_at0 own ic cls names, w.before args s' = true := fun w hw => vx_ot_at hW0 hvm.symm (hgood w (List.mem_cons_of_mem _ (List.mem_cons_of_mem _ hw))) (hat w hw)
  have hk' : (Cond.classLink own ik cls).before args s' = true := vx_ot_at hW0 hvm.symm (hgood _ List.mem_cons_self) hk
  have hini' : (Cond.initialized cls).before args s' = true := vx_ot_at hW0 hvm.symm (hgood _ (List.mem_cons_of_mem _ List.mem_cons_self)) hini
  have hU' : vx_Zq Bundle.tN "UNASSIGNED_STACK" Bundle.steD A s' s'.heap := by rw [hhp]; exact vx_Zq.moved hW0.alike (hU.kept hS.2.1)
  have hN' : vx_Zq Bundle.tN "SUPPRESSED_SENTINEL" Bundle.listD A s' s'.heap := by rw [hhp]; exact vx_Zq.moved hW0.alike (hN.kept hS.2.1)
  have h : ∀ w ∈ Bundle.ownAtoms0 own ic cls names, w.before args s' = true := vx_own hat' (vx_isRefq hU'.1) (vx_isRefq hN'.1) hU'.2.word hN'.2.word
  have hown' : s'.vm.findClass own = some m.cls := by rw [hvm]; exact hown
  have hins : (Cond.instantiable cls 6).before args s' = true := h _ (by simp [Bundle.ownAtoms0])
  obtain ⟨vm₁, cX, kX, hfX, hkX, -, -, X₁, st1⟩ := Y.newCold hexec (own := own) (C := cls) (index := ik) (n := 6) hown' hk' hins hini'
    (g := F0 m pc ls rest) rfl (by rw [hb]; exact d0) (Nat.le_refl _) (Nat.le_refl _)
  generalize hT1 : (T.setVm vm₁).pushCell { cls := cX, slots := kX.instanceTypes.map defaultValue, vm := .none } = T1 at X₁ st1
  have hcat : (Value.ref T.heap.size).category = 1 := rfl
  have hcellA : T1.heap[T.heap.size]? = some (freshCell cX kX) := by rw [← hT1]; exact State.heap_pushCell_size _ _
  have d3' : decode c.code (pc + 3) = .ok (.dup, 1) := by rw [hb]; exact d3
  obtain ⟨U, hsteps, hrun, hend, hW, hsame, ce, hce, hO⟩ := X₁.ctorThrow0 hexec htr (own := own) (cls := cls) (names := names) (ic := ic) hown' hcls hnames h (fun x hx => nomatch hx) hfX hkX hcellA (by rw [hhp, hT]; exact Nat.le_refl _)
    (g := { method := m, pc := pc + 4, locals := ls, stack := .ref T.heap.size :: .ref T.heap.size :: rest, locked := none }) rfl hsize rfl rfl (rest := rest) rfl
    (by rw [hb]; exact d4) (by rw [hb]; exact d7) hout hRframes (by simp only [List.map_cons, List.sum_cons, hcat]; omega) hlocks
  obtain ⟨f1, f2⟩ := vx_frame hsame
  rw [hhp] at f1 f2
  have hWs : s.WarmedH U.vm := State.WarmedH.trans hW0 hW
  have hcl : s.vm.findClass cls = some ce.cls := by
    have h9 := hO.cls
    rw [hvm] at h9
    exact h9
  have hall : s.sameButNew ({ U with vm := s.vm } : State) locs mc ms := by
    subst hA
    obtain ⟨e1, e2⟩ := hsame
    rw [State.setFrames_setFrames] at e1
    have h2 : (T.setVm s.vm).sameButNew ({ U with vm := s.vm } : State) [] (0 + 1) (0 + 6) := ⟨e1, e2⟩
    have h3 := X.same.trans h2
    rw [List.append_nil] at h3
    exact h3.mono hc hs
  refine ⟨U, ?_, .threw T.heap.size, hrun, hend, Or.inr ⟨T.heap.size, rfl, cls, ce, locs, hx U hWs.alike f1 (fun q hq => f2 q hq (fun z hz => nomatch hz)), hce, hO.vm, hcl, hWs, hall, hf⟩⟩
  refine st1 _ ?_
  show Steps p.tables e below (T1.setTop { method := m, pc := pc + 3, locals := ls, stack := .ref T.heap.size :: rest, locked := none }) _
  jvm_step X₁.here [X₁.here.top, hexec, d3', Value.category]
  exact hsteps
/-- 'throw new E("text")': new; dup; ldc; invokespecial; athrow -/
theorem vx_throwS {cc : ByteArray} {pc : Nat} (hexec : p.tables.exec = Jvm.exec) (hb : c.code = cc) (hl : l.stackTraces = false) {own cls text : String} {names : List String} {ik is ic mc ms sa : Nat} {A : Nat → Prop}
    (hown : s.vm.findClass own = some m.cls) (hcls : Bundle.fit cls = true) (hnames : ∀ n ∈ names, Bundle.fit n = true)
    (hk : (Cond.classLink own ik cls).before args s = true) (hini : (Cond.initialized cls).before args s = true) (hstr : vk_R own is text sa s) (hat : ∀ w ∈ vx_atS own ic cls names, w.before args s = true)
    (hgood : ∀ w ∈ Cond.classLink own ik cls :: Cond.initialized cls :: vx_atS own ic cls names, vx_ot w = true)
    (hU : vx_Zq Bundle.tN "UNASSIGNED_STACK" Bundle.steD A s s.heap) (hN : vx_Zq Bundle.tN "SUPPRESSED_SENTINEL" Bundle.listD A s s.heap) (hS : va_S A s.heap H locs) (hsize : ls.size = c.maxLocals)
    (d0 : decode cc pc = .ok (.new ik, 3)) (d3 : decode cc (pc + 3) = .ok (.dup, 1)) (d4 : decode cc (pc + 4) = .ok (.ldc is, 2)) (d6 : decode cc (pc + 6) = .ok (.invokespecial ic, 3)) (d9 : decode cc (pc + 9) = .ok (.athrow, 1))
    (hout : ∀ x ∈ c.exceptionTable.toList, covers x (pc + 9) = false)
    (hRframes : names.length + 3 < R.frames) (hRlocals : (rest.map fun v => v.category).sum + (13 * (names.length + 1) + 43) ≤ R.locals) (hRcells : cells + 1 ≤ R.cells) (hRslots : slots + 6 ≤ R.slots) (hlocks : meth.locks = false)
    (hx : ∀ t : State, s.vm.Alike t.vm → H.size ≤ t.heap.size → (∀ q : Nat, q < H.size → t.heap[q]? = H[q]?) → XC cls s t)
    (hf : ∀ z ∈ locs, free z.base) (hc : cells + 1 ≤ mc) (hs : slots + 6 ≤ ms) :
    W p l e R s m args below meth c H locs cells slots (vx_MQ below Qc XC args s mc ms free) (F0 m pc ls rest) := by
  intro T hT X
  have htr : e.platform.stackTraces = false := (show e.platform.stackTraces = l.stackTraces by rw [X.admits.platform]).trans hl
  have Y := vx_rebase X (R' := { frames := R.frames, locals := R.locals, cells := 1, slots := 6 }) (Nat.le_refl _) (Nat.le_refl _) hRcells hRslots
  obtain ⟨s', hA⟩ : ∃ z, z = (T.setVm s.vm).setFrames (.invoking m args :: below) := ⟨_, rfl⟩
  rw [← hA] at Y
  have hvm : s'.vm = s.vm := by rw [hA]; rfl
  have hhp : s'.heap = H := by rw [hA]; exact hT
  have hW0 : s.WarmedH s'.vm := by rw [hvm]; exact State.WarmedH.refl s
  have hat' : ∀ w ∈ vx_atS own ic cls names, w.before args s' = true := fun w hw => vx_ot_at hW0 hvm.symm (hgood w (List.mem_cons_of_mem _ (List.mem_cons_of_mem _ hw))) (hat w hw)
  have hk' : (Cond.classLink own ik cls).before args s' = true := vx_ot_at hW0 hvm.symm (hgood _ List.mem_cons_self) hk
  have hini' : (Cond.initialized cls).before args s' = true := vx_ot_at hW0 hvm.symm (hgood _ (List.mem_cons_of_mem _ List.mem_cons_self)) hini
  have hU' : vx_Zq Bundle.tN "UNASSIGNED_STACK" Bundle.steD A s' s'.heap := by rw [hhp]; exact vx_Zq.moved hW0.alike (hU.kept hS.2.1)
  have hN' : vx_Zq Bundle.tN "SUPPRESSED_SENTINEL" Bundle.listD A s' s'.heap := by rw [hhp]; exact vx_Zq.moved hW0.alike (hN.kept hS.2.1)
  have h : ∀ w ∈ Bundle.ownAtoms own ic cls names, w.before args s' = true := vx_own hat' (vx_isRefq hU'.1) (vx_isRefq hN'.1) hU'.2.word hN'.2.word
  have hown' : s'.vm.findClass own = some m.cls := by rw [hvm]; exact hown
  have hins : (Cond.instantiable cls 6).before args s' = true := h _ (by simp [Bundle.ownAtoms])
  obtain ⟨vm₁, cX, kX, hfX, hkX, -, -, X₁, st1⟩ := Y.newCold hexec (own := own) (C := cls) (index := ik) (n := 6) hown' hk' hins hini'
    (g := F0 m pc ls rest) rfl (by rw [hb]; exact d0) (Nat.le_refl _) (Nat.le_refl _)
  generalize hT1 : (T.setVm vm₁).pushCell { cls := cX, slots := kX.instanceTypes.map defaultValue, vm := .none } = T1 at X₁ st1
  have hcat : (Value.ref T.heap.size).category = 1 := rfl
  have hcellA : T1.heap[T.heap.size]? = some (freshCell cX kX) := by rw [← hT1]; exact State.heap_pushCell_size _ _
  have d3' : decode c.code (pc + 3) = .ok (.dup, 1) := by rw [hb]; exact d3
  have d4' : decode c.code (pc + 4) = .ok (.ldc is, 2) := by rw [hb]; exact d4
  have hstr' : vk_R own is text sa s' := vk_R.warm hW0 hstr
  obtain ⟨U, hsteps, hrun, hend, hW, hsame, ce, hce, hO⟩ := X₁.ctorThrowS hexec htr (own := own) (cls := cls) (names := names) (ic := ic) hown' hcls hnames h (fun x hx => nomatch hx) hfX hkX hcellA (by rw [hhp, hT]; exact Nat.le_refl _) (msg := .ref sa) rfl
    (g := { method := m, pc := pc + 6, locals := ls, stack := .ref sa :: .ref T.heap.size :: .ref T.heap.size :: rest, locked := none }) rfl hsize rfl rfl (rest := rest) rfl
    (by rw [hb]; exact d6) (by rw [hb]; exact d9) hout hRframes (by simp only [List.map_cons, List.sum_cons, hcat]; omega) hlocks
  obtain ⟨f1, f2⟩ := vx_frame hsame
  rw [hhp] at f1 f2
  have hWs : s.WarmedH U.vm := State.WarmedH.trans hW0 hW
  have hcl : s.vm.findClass cls = some ce.cls := by
    have h9 := hO.cls
    rw [hvm] at h9
    exact h9
  have hall : s.sameButNew ({ U with vm := s.vm } : State) locs mc ms := by
    subst hA
    obtain ⟨e1, e2⟩ := hsame
    rw [State.setFrames_setFrames] at e1
    have h2 : (T.setVm s.vm).sameButNew ({ U with vm := s.vm } : State) [] (0 + 1) (0 + 6) := ⟨e1, e2⟩
    have h3 := X.same.trans h2
    rw [List.append_nil] at h3
    exact h3.mono hc hs
  refine ⟨U, ?_, .threw T.heap.size, hrun, hend, Or.inr ⟨T.heap.size, rfl, cls, ce, locs, hx U hWs.alike f1 (fun q hq => f2 q hq (fun z hz => nomatch hz)), hce, hO.vm, hcl, hWs, hall, hf⟩⟩
  refine st1 _ ?_
  show Steps p.tables e below (T1.setTop { method := m, pc := pc + 3, locals := ls, stack := .ref T.heap.size :: rest, locked := none }) _
  jvm_step X₁.here [X₁.here.top, hexec, d3', Value.category]
  exact X₁.ldcString hexec (own := own) (text := text) (index := is) (a := sa) hown' hstr'.1 hstr'.2
    (g := { method := m, pc := pc + 4, locals := ls, stack := .ref T.heap.size :: .ref T.heap.size :: rest, locked := none }) rfl d4' _ hsteps
/-- 'throw new E("text")', the text by a wide index -/
theorem vx_throwSW {cc : ByteArray} {pc : Nat} (hexec : p.tables.exec = Jvm.exec) (hb : c.code = cc) (hl : l.stackTraces = false) {own cls text : String} {names : List String} {ik is ic mc ms sa : Nat} {A : Nat → Prop}
    (hown : s.vm.findClass own = some m.cls) (hcls : Bundle.fit cls = true) (hnames : ∀ n ∈ names, Bundle.fit n = true)
    (hk : (Cond.classLink own ik cls).before args s = true) (hini : (Cond.initialized cls).before args s = true) (hstr : vk_R own is text sa s) (hat : ∀ w ∈ vx_atS own ic cls names, w.before args s = true)
    (hgood : ∀ w ∈ Cond.classLink own ik cls :: Cond.initialized cls :: vx_atS own ic cls names, vx_ot w = true)
    (hU : vx_Zq Bundle.tN "UNASSIGNED_STACK" Bundle.steD A s s.heap) (hN : vx_Zq Bundle.tN "SUPPRESSED_SENTINEL" Bundle.listD A s s.heap) (hS : va_S A s.heap H locs) (hsize : ls.size = c.maxLocals)
    (d0 : decode cc pc = .ok (.new ik, 3)) (d3 : decode cc (pc + 3) = .ok (.dup, 1)) (d4 : decode cc (pc + 4) = .ok (.ldc_w is, 3)) (d7 : decode cc (pc + 7) = .ok (.invokespecial ic, 3)) (d10 : decode cc (pc + 10) = .ok (.athrow, 1))
    (hout : ∀ x ∈ c.exceptionTable.toList, covers x (pc + 10) = false)
    (hRframes : names.length + 3 < R.frames) (hRlocals : (rest.map fun v => v.category).sum + (13 * (names.length + 1) + 43) ≤ R.locals) (hRcells : cells + 1 ≤ R.cells) (hRslots : slots + 6 ≤ R.slots) (hlocks : meth.locks = false)
    (hx : ∀ t : State, s.vm.Alike t.vm → H.size ≤ t.heap.size → (∀ q : Nat, q < H.size → t.heap[q]? = H[q]?) → XC cls s t)
    (hf : ∀ z ∈ locs, free z.base) (hc : cells + 1 ≤ mc) (hs : slots + 6 ≤ ms) :
    W p l e R s m args below meth c H locs cells slots (vx_MQ below Qc XC args s mc ms free) (F0 m pc ls rest) := by
  intro T hT X
  have htr : e.platform.stackTraces = false := (show e.platform.stackTraces = l.stackTraces by rw [X.admits.platform]).trans hl
  have Y := vx_rebase X (R' := { frames := R.frames, locals := R.locals, cells := 1, slots := 6 }) (Nat.le_refl _) (Nat.le_refl _) hRcells hRslots
  obtain ⟨s', hA⟩ : ∃ z, z = (T.setVm s.vm).setFrames (.invoking m args :: below) := ⟨_, rfl⟩
  rw [← hA] at Y
  have hvm : s'.vm = s.vm := by rw [hA]; rfl
  have hhp : s'.heap = H := by rw [hA]; exact hT
  have hW0 : s.WarmedH s'.vm := by rw [hvm]; exact State.WarmedH.refl s
  have hat' : ∀ w ∈ vx_atS own ic cls names, w.before args s' = true := fun w hw => vx_ot_at hW0 hvm.symm (hgood w (List.mem_cons_of_mem _ (List.mem_cons_of_mem _ hw))) (hat w hw)
  have hk' : (Cond.classLink own ik cls).before args s' = true := vx_ot_at hW0 hvm.symm (hgood _ List.mem_cons_self) hk
  have hini' : (Cond.initialized cls).before args s' = true := vx_ot_at hW0 hvm.symm (hgood _ (List.mem_cons_of_mem _ List.mem_cons_self)) hini
  have hU' : vx_Zq Bundle.tN "UNASSIGNED_STACK" Bundle.steD A s' s'.heap := by rw [hhp]; exact vx_Zq.moved hW0.alike (hU.kept hS.2.1)
  have hN' : vx_Zq Bundle.tN "SUPPRESSED_SENTINEL" Bundle.listD A s' s'.heap := by rw [hhp]; exact vx_Zq.moved hW0.alike (hN.kept hS.2.1)
  have h : ∀ w ∈ Bundle.ownAtoms own ic cls names, w.before args s' = true := vx_own hat' (vx_isRefq hU'.1) (vx_isRefq hN'.1) hU'.2.word hN'.2.word
  have hown' : s'.vm.findClass own = some m.cls := by rw [hvm]; exact hown
  have hins : (Cond.instantiable cls 6).before args s' = true := h _ (by simp [Bundle.ownAtoms])
  obtain ⟨vm₁, cX, kX, hfX, hkX, -, -, X₁, st1⟩ := Y.newCold hexec (own := own) (C := cls) (index := ik) (n := 6) hown' hk' hins hini'
    (g := F0 m pc ls rest) rfl (by rw [hb]; exact d0) (Nat.le_refl _) (Nat.le_refl _)
  generalize hT1 : (T.setVm vm₁).pushCell { cls := cX, slots := kX.instanceTypes.map defaultValue, vm := .none } = T1 at X₁ st1
  have hcat : (Value.ref T.heap.size).category = 1 := rfl
  have hcellA : T1.heap[T.heap.size]? = some (freshCell cX kX) := by rw [← hT1]; exact State.heap_pushCell_size _ _
  have d3' : decode c.code (pc + 3) = .ok (.dup, 1) := by rw [hb]; exact d3
  have d4' : decode c.code (pc + 4) = .ok (.ldc_w is, 3) := by rw [hb]; exact d4
  have hstr' : vk_R own is text sa s' := vk_R.warm hW0 hstr
  obtain ⟨U, hsteps, hrun, hend, hW, hsame, ce, hce, hO⟩ := X₁.ctorThrowS hexec htr (own := own) (cls := cls) (names := names) (ic := ic) hown' hcls hnames h (fun x hx => nomatch hx) hfX hkX hcellA (by rw [hhp, hT]; exact Nat.le_refl _) (msg := .ref sa) rfl
    (g := { method := m, pc := pc + 7, locals := ls, stack := .ref sa :: .ref T.heap.size :: .ref T.heap.size :: rest, locked := none }) rfl hsize rfl rfl (rest := rest) rfl
    (by rw [hb]; exact d7) (by rw [hb]; exact d10) hout hRframes (by simp only [List.map_cons, List.sum_cons, hcat]; omega) hlocks
  obtain ⟨f1, f2⟩ := vx_frame hsame
  rw [hhp] at f1 f2
  have hWs : s.WarmedH U.vm := State.WarmedH.trans hW0 hW
  have hcl : s.vm.findClass cls = some ce.cls := by
    have h9 := hO.cls
    rw [hvm] at h9
    exact h9
  have hall : s.sameButNew ({ U with vm := s.vm } : State) locs mc ms := by
    subst hA
    obtain ⟨e1, e2⟩ := hsame
    rw [State.setFrames_setFrames] at e1
    have h2 : (T.setVm s.vm).sameButNew ({ U with vm := s.vm } : State) [] (0 + 1) (0 + 6) := ⟨e1, e2⟩
    have h3 := X.same.trans h2
    rw [List.append_nil] at h3
    exact h3.mono hc hs
  refine ⟨U, ?_, .threw T.heap.size, hrun, hend, Or.inr ⟨T.heap.size, rfl, cls, ce, locs, hx U hWs.alike f1 (fun q hq => f2 q hq (fun z hz => nomatch hz)), hce, hO.vm, hcl, hWs, hall, hf⟩⟩
  refine st1 _ ?_
  show Steps p.tables e below (T1.setTop { method := m, pc := pc + 3, locals := ls, stack := .ref T.heap.size :: rest, locked := none }) _
  jvm_step X₁.here [X₁.here.top, hexec, d3', Value.category]
  exact X₁.ldcStringW hexec (own := own) (text := text) (index := is) (a := sa) hown' hstr'.1 hstr'.2
    (g := { method := m, pc := pc + 4, locals := ls, stack := .ref T.heap.size :: .ref T.heap.size :: rest, locked := none }) rfl d4' _ hsteps
end Ends
section Bodies
variable {l : Launch}
theorem vx_ofW {y : MethodName} {ws ws' : List Cond} {rm : Room} {Pc : Array Value → State → Prop} {Qc : Array Value → State → Outcome → State → Prop} {XC : String → State → State → Prop} {mc ms : Nat} {free : Addr → Prop} {cc : ByteArray} {maxL : Nat} {ret : Option FieldType}
    (hy : plainName y.cls = true) (hw : ws = Cond.code y cc maxL ret :: ws')
    (body : ∀ p e s m args below meth c s₁, BodyLoose p l y (headSpec ws rm) cc maxL ret e s m args below meth c s₁ → c.maxLocals = maxL → (∀ x ∈ c.exceptionTable.toList, False) → Pc args s →
      W p l e (headSpec ws rm).room s m args below meth c s.heap [] 0 0 (vx_MQ below Qc XC args s mc ms free) (entryFrame m args maxL)) : vx_Met l y ws rm Pc Qc XC mc ms free := by
  refine MetFree.of_bodyS (code := cc) (maxLocals := maxL) (ret := ret) hy ?_ ?_
  · intro args s m h hn
    obtain ⟨meth, c, h1, h2, h3, h4, h5, h6, -, -⟩ := Cond.code_spec hn (atoms_spec (ws := ws) h _ (by rw [hw]; exact List.mem_cons_self))
    exact ⟨meth, c, h1, h2, h3, h4, h5, h6⟩
  · intro p e s m args below meth c s₁ B hml hP _
    have hh0 : s₁.heap = s.heap := by rw [B.state]; rfl
    have ht : ∀ x ∈ c.exceptionTable.toList, False := by
      obtain ⟨meth9, c9, h1, h2, -, -, -, -, h7, -⟩ := Cond.code_spec B.named (atoms_spec (ws := ws) B.pre _ (by rw [hw]; exact List.mem_cons_self))
      cases Option.some.inj (h1.symm.trans B.method)
      cases Option.some.inj (h2.symm.trans (Stand.of_body B).code)
      intro x hx
      rw [Array.isEmpty_iff.mp h7] at hx
      cases hx
    obtain ⟨t, a1, o, b1, b2, b3⟩ := body p e s m args below meth c s₁ B hml ht hP s₁ hh0 (Stand.of_body B)
    exact ⟨t, o, a1, b1, b2, b3⟩
/-- the table of a body with handlers -/
theorem vx_table {p : Program} {x y : MethodName} {S : Spec} {cc bytes : ByteArray} {maxL maxL' : Nat} {ret ret' : Option FieldType} {e : Env} {s s₁ : State} {m : MethodId} {args : Array Value} {below : List Frame} {meth : Method} {c : Code} {hh : List (Nat × Nat × Nat × Nat)}
    (B : BodyLoose p l y S cc maxL ret e s m args below meth c s₁) (h : (Cond.codeWith y bytes maxL' ret' hh).before args s = true) : c.exceptionTable.toList = tableOf hh := by
  obtain ⟨m9, meth9, c9, hn9, h1, h2, -, -, h6, -⟩ := Cond.codeWith_spec h
  cases Option.some.inj (hn9.symm.trans B.named)
  cases Option.some.inj (h1.symm.trans B.method)
  cases Option.some.inj (h2.symm.trans (Stand.of_body B).code)
  rw [← h6, table_eq]
end Bodies
end VXA
/-! ===== END ===== -/
/-! ===== BEGIN a static call of a method with an exception table ===== -/
section VXS
variable {p : Program} {l : Launch} {e : Env} {R : Room} {s : State} {m : MethodId} {args : Array Value} {below : List Frame} {meth : Method} {c : Code} {T : State} {H : Heap} {locs : List Loc} {cells slots : Nat}
abbrev vx_CSW (R : Room) (s : State) (args : Array Value) (own : String) (index : Nat) (y : MethodName) (bytes : ByteArray) (maxL : Nat) (ret : Option FieldType) (hh : List (Nat × Nat × Nat × Nat)) (ws : List Cond) (rm : Room) (mc ms n : Nat) : Prop :=
  (rm.cells = mc ∧ rm.slots = ms ∧ rm.frames + 1 ≤ R.frames ∧ 8 + (maxL + 11) + rm.locals ≤ R.locals ∧ (∀ w ∈ ws, ∀ (a' : Array Value) (U : State), s.WarmedH U.vm → w.before a' U = true) ∧ Cond.codeWith y bytes maxL ret hh ∈ ws) ∧
  (Cond.codeWith y bytes maxL ret hh).before args s = true ∧ (Cond.initialized y.cls).before args s = true ∧ (y.cls ≠ "java/lang/invoke/MethodHandle" ∧ y.cls ≠ "java/lang/invoke/VarHandle") ∧
  (∀ sig, parseMethodDescriptor y.desc = some sig → n = sig.parameters.length) ∧ (Cond.methodLink own index y).before args s = true ∧ (Cond.static y).before args s = true
theorem vx_cwSW {own : String} {index maxL mc ms : Nat} {y : MethodName} {bytes : ByteArray} {ret : Option FieldType} {hh : List (Nat × Nat × Nat × Nat)} {Ts ws ws' : List Cond} {rm : Room} (n : Nat) (ht : ∀ w ∈ Ts, w.before args s = true) (hT : GoodIn Ts (va_wsS own index y ws)) (hw : ws = Cond.codeWith y bytes maxL ret hh :: ws') (hrc : rm.cells = mc) (hrs : rm.slots = ms)
    (hd : y.cls ≠ "java/lang/invoke/MethodHandle" ∧ y.cls ≠ "java/lang/invoke/VarHandle" ∧ (parseMethodDescriptor y.desc).map (fun d => d.parameters.length) = some n) (hR : rm.frames + 1 ≤ R.frames ∧ 8 + (maxL + 11) + rm.locals ≤ R.locals) :
    vx_CSW R s args own index y bytes maxL ret hh ws rm mc ms n := by
  have ok : ∀ w ∈ va_wsS own index y ws, w.before args s = true := fun w h => ht w (hT w h).1
  have hG : GoodIn Ts ws := fun w h => hT w (by unfold va_wsS; exact List.mem_append_right _ h)
  have hc : Cond.codeWith y bytes maxL ret hh ∈ ws := by rw [hw]; exact List.mem_cons_self
  refine ⟨⟨hrc, hrs, hR.1, hR.2, pay_in ht hG, hc⟩, ht _ (hG _ hc).1, ok _ (by simp [va_wsS]), ⟨hd.1, hd.2.1⟩, fun sig h => ?_, ok _ (by simp [va_wsS]), ok _ (by simp [va_wsS])⟩
  have h2 := hd.2.2
  rw [h] at h2
  exact (Option.some.inj h2).symm
theorem vx_callSW (X : Stand p l e R s m args below meth c T locs cells slots) (hexec : p.tables.exec = Jvm.exec) {own : String} {index : Nat} {y : MethodName} {bytes : ByteArray} {maxL : Nat} {ret : Option FieldType} {hh : List (Nat × Nat × Nat × Nat)}
    (hown : s.vm.findClass own = some m.cls) (hlink : (Cond.methodLink own index y).before args s = true) (hstat : (Cond.static y).before args s = true) (hinit : (Cond.initialized y.cls).before args s = true)
    (hcode : (Cond.codeWith y bytes maxL ret hh).before args s = true) (hy : y.cls ≠ "java/lang/invoke/MethodHandle" ∧ y.cls ≠ "java/lang/invoke/VarHandle")
    {W9 : Nat} {Pre : Pt → Array Value → Prop} {Post : Pt → Array Value → Option Value → Pt → Prop} (hK : Back l R p e below s args y 3 W9 Pre Post)
    {g : JFrame} (hg : g.method = m) (hsize : g.locals.size = c.maxLocals) {argsL rest : List Value} (hlen : ∀ sig, parseMethodDescriptor y.desc = some sig → argsL.length = sig.parameters.length)
    (hstack : g.stack = argsL.reverse ++ rest) (hW : 2 * g.monitorRoom + (rest.map fun v => v.category).sum ≤ W9) (hdg : decode c.code g.pc = .ok (.invokestatic index, 3))
    (hpre : ∀ vm₁, s.WarmedH vm₁ → Pre ⟨T.setVm vm₁, locs, cells, slots⟩ argsL.toArray) :
    ∃ (v : Option Value) (vm₁ : Vm) (B : Pt), s.WarmedH vm₁ ∧ Stand p l e R s m args below meth c B.U B.locs B.cells B.slots ∧ Post ⟨T.setVm vm₁, locs, cells, slots⟩ argsL.toArray v B ∧
      ∀ target, Steps p.tables e below (B.U.setTop { g with pc := g.pc + 3, stack := v.toList ++ rest }) target → Steps p.tables e below (T.setTop g) target := by
  obtain ⟨mk, methM, cM, hnamed, hmethM, -, -, -, -, -, -, hsigM⟩ := Cond.codeWith_spec hcode
  have hstatic : methM.isStatic = true := Cond.static_spec hnamed hmethM hstat
  obtain ⟨kP, hkP, -⟩ := className_of_methodNamed hnamed
  have hinitP : kP.init = .initialized := Cond.initialized_spec (findClass_of_methodNamed hnamed) hkP hinit
  obtain ⟨vm₁, X₁, hstep₁⟩ := X.invokestatic hexec hown hlink hnamed hmethM hstatic hkP hinitP hy (g := g) hg (argsL := argsL) (rest := rest) (hlen _ hsigM) hstack hdg
  obtain ⟨v, B, X', hpost, hsteps⟩ := hK m meth c ⟨T.setVm vm₁, locs, cells, slots⟩ { g with stack := rest } (.invokestatic index) mk argsL.toArray X₁ hg hsize hdg hW (X₁.named hnamed) (hpre vm₁ X₁.warmed)
  exact ⟨v, vm₁, B, X₁.warmed, X', hpost, fun target h => hstep₁ _ fun acts => by rw [doInvoke_state]; exact hsteps.trans h⟩
theorem vx_runSW {y : MethodName} {bytes cc : ByteArray} {maxL nL mc ms n index : Nat} {ret : Option FieldType} {hh : List (Nat × Nat × Nat × Nat)} {ws : List Cond} {rm : Room} {Pc : Array Value → State → Prop} {Qc : Array Value → State → Outcome → State → Prop} {free : Addr → Prop} {Ts : List Cond} {own : String} {As rest : List Value} {g : JFrame}
    (S : CallFix p m c cc nL s args Ts own) (hM : Met l y ws rm Pc Qc mc ms free) (cw : vx_CSW R s args own index y bytes maxL ret hh ws rm mc ms n) (hp : PreS s H Pc As)
    (hg : g.method = m) (hn : As.length = n) (hsize : g.locals.size = nL) (hstack : g.stack = As.reverse ++ rest) (hW : 2 * g.monitorRoom + (rest.map fun v => v.category).sum ≤ 8) (hdg : decode cc g.pc = .ok (.invokestatic index, 3)) (hf : cells + mc ≤ R.cells ∧ slots + ms ≤ R.slots) :
    va_Run p l e R s m args below meth c H locs cells slots mc ms g rest (Qc As.toArray) (free) := by
  obtain ⟨⟨hrc, hrs, hfr, hlo, hws, hcw⟩, hcode, hini, hy, hlen, hl, hstt⟩ := cw
  have hK : Back l R p e below s args y 3 8 (PreOf R mc ms Pc) (PostOf Qc mc ms free) := va_backW (hh := hh) (bytes := bytes) (maxL := maxL) (ret := ret) hM hp.1 hrc hrs hfr hlo hws hcw (fun a' U hW => word_at hW (Or.inl (by first | rfl | simp [Cond.onTables, Cond.keeps, Cond.steady])) hini)
  obtain ⟨hx, hb, hml, ho, -⟩ := S
  intro T hT X
  obtain ⟨v, vm₁, ⟨U', l2, c2, s2⟩, hW₁, X', ⟨g', mk, t, L, e1, e2, hq, h1, hL, h2, h3⟩, st⟩ := vx_callSW X hx (hh := hh) (bytes := bytes) (maxL := maxL) (ret := ret) ho hl hstt hini hcode hy hK hg (hsize.trans hml.symm) (argsL := As) (rest := rest) (fun sig h => hn.trans (hlen sig h)) hstack hW (by rw [hb]; exact hdg)
    (fun vm₁ hW₁ => ⟨hf.1, hf.2, hp.2 (T.setVm vm₁) hT hW₁⟩)
  dsimp only [Pt.U, Pt.locs, Pt.cells, Pt.slots] at X' e1 e2 h1 h2 h3 st
  subst h1; subst h2; subst h3
  exact ⟨v, (T.setVm vm₁).calling g' mk As.toArray, t, U', L, hT, X', hL, e1, e2, hq, st⟩
/-- not caught here, past rows that name other classes: it goes on to the caller -/
theorem vx_outP {p : Program} {l : Launch} {e : Env} {R : Room} {s : State} {m : MethodId} {args : Array Value} {below : List Frame} {meth : Method} {c : Code} {H : Heap} {locs : List Loc} {cells slots : Nat} {free : Addr → Prop} {ls : Array Slot} {rest : List Value} {Qc : Array Value → State → Outcome → State → Prop} {XC : String → State → State → Prop}
    {pc : Nat} {own E : String} {ce : Cell} {q : Addr} {mc ms : Nat} (hown : s.vm.findClass own = some m.cls) (hlocks : meth.locks = false)
    (hpass : ∀ z ∈ c.exceptionTable.toList, covers z pc = false ∨ (z.catchType ≠ 0 ∧ ∃ nm : String, (Cond.classLink own z.catchType nm).before args s = true ∧ va_Nc E nm s)) (hcell : H[q]? = some ce) (hv : ce.vm = .none) (hcl : s.vm.findClass E = some ce.cls)
    (hx : ∀ t : State, t.heap = H → s.vm.Alike t.vm → XC E s t) (hf : ∀ z ∈ locs, free z.base) (hc : cells ≤ mc) (hs : slots ≤ ms) :
    vx_W p l e R s m args below meth c H locs cells slots (vx_MQ below Qc XC args s mc ms free) (F0 m pc ls rest) q := by
  intro T hT X
  have hpl : e.platform.magicAccessors = ({} : Platform).magicAccessors := by rw [X.admits.platform]
  obtain ⟨vm', hW', X', st⟩ := X.outThrough hlocks q (g := F0 m pc ls rest) rfl rfl rfl (cell := ce) (by rw [hT]; exact hcell) (by rw [hv]; rfl)
    (by obtain ⟨k9, h9, -⟩ := Vm.findClass_spec hcl; exact ⟨k9, h9⟩) (fun z hz => by
      rcases hpass z hz with h | ⟨hz0, nm, hl1, hn1⟩
      · exact Or.inl h
      · obtain ⟨c6, hc6, hcl6⟩ := Cond.classLink_spec hown hl1 e.platform hpl
        obtain ⟨a8, b8, h1, h2, h3⟩ := hn1
        cases Option.some.inj (h1.symm.trans hcl)
        cases Option.some.inj (h2.symm.trans hc6)
        exact Or.inr ⟨hz0, _, hcl6, h3⟩)
  obtain ⟨g₀, hfr⟩ := X'.frames_eq
  have hcell9 : ((T.setVm vm').setFrames (.throwing q :: below)).heap[q]? = some ce := by
    show T.heap[q]? = some ce
    rw [hT]; exact hcell
  have hend : Ended ((T.setVm vm').setFrames (.throwing q :: below)) below (.threw q) := State.frames_setFrames _ (State.cur_lt_of_frames hfr)
  refine ⟨(T.setVm vm').setFrames (.throwing q :: below), ?_, .threw q, X'.here.running, hend, Or.inr ⟨q, rfl, E, ce, locs, hx _ hT (X'.ends _).1.alike, hcell9, hv, hcl, (X'.ends _).1, (X'.ends _).2.mono hc hs, hf⟩⟩
  rw [X.pushThrowing_eq]
  exact st
/-- a thing of a world lies in the heap -/
theorem vx_lt {D : va_G} {cl : List vw_C} {ws : va_W} {H1 : Heap} (h : va_P D cl ws H1) {k : Nat} {q : Nat × va_E} (hk : ws[k]? = some q) : q.1 < H1.size := (h k q hk).lt
end VXS
/-! ===== END ===== -/
/-! ===== BEGIN methods with a table of their own: called by a name, returning or throwing ===== -/
section VXH
/-! vx_backW, vx_callVX, vx_callSX, vx_callVW, vx_runVW, vx_runVX, vx_runSX, vx_ofWH follow the same proofs as their sisters above (Free/Laws.lean, Shelf42/LK1.lean); vx_outP calls Shelf42/NT130.lean (outThrough). -/
section
variable {l : Launch} {R : Room} {p : Program} {e : Env} {below : List Frame} {s : State} {sargs : Array Value} {y : MethodName} {len W9 : Nat}
theorem vx_backW {ws : List Cond} {rm : Room} {Pc : Array Value → State → Prop} {Qc : Array Value → State → Outcome → State → Prop} {XC : String → State → State → Prop} {mc ms : Nat} {free : Addr → Prop} {bytes : ByteArray} {maxL : Nat} {ret : Option FieldType} {hh : List (Nat × Nat × Nat × Nat)}
    (hM : vx_Met l y ws rm Pc Qc XC mc ms free) (hblind : FrameBlind Pc) (hrc : rm.cells = mc) (hrs : rm.slots = ms)
    (hframes : rm.frames + 1 ≤ R.frames) (hlocals : W9 + (maxL + 11) + rm.locals ≤ R.locals)
    (hws : ∀ w ∈ ws, ∀ a' U, s.WarmedH U.vm → w.before a' U = true) (hcode : Cond.codeWith y bytes maxL ret hh ∈ ws) (hinit : ∀ a' U, s.WarmedH U.vm → (Cond.initialized y.cls).before a' U = true) :
    vx_Back l R p e below s sargs y len W9 (PreOf R mc ms Pc) (PostOf Qc mc ms free) (vx_Post XC mc ms free) := by
  intro m meth c A g ig mk a X hg hsize hdg hW hn hp
  have h1 : (headSpec ws rm).pre.before a A.U = true := atoms_intro fun w hw => hws w hw _ _ X.warmed
  have h2 : (Cond.codeWith y bytes maxL ret hh).before a A.U = true := hws _ hcode _ _ X.warmed
  have h3 : (Cond.initialized y.cls).before a A.U = true := hinit _ _ X.warmed
  have h4 : A.cells + (headSpec ws rm).room.cells ≤ R.cells := by rw [show (headSpec ws rm).room.cells = mc from hrc]; exact hp.1
  have h5 : A.slots + (headSpec ws rm).room.slots ≤ R.slots := by rw [show (headSpec ws rm).room.slots = ms from hrs]; exact hp.2.1
  have hPc : Pc a (A.U.calling g mk a) := hblind _ _ _ _ hp.2.2
  obtain ⟨U, Ls, c0, s0⟩ := A
  dsimp only [Pt.U, Pt.locs, Pt.cells, Pt.slots] at h1 h2 h3 h4 h5 X hn hPc ⊢
  obtain ⟨m9, methY, cY, hn9, hmY, hcY, -, hlY, -⟩ := Cond.codeWith_spec h2
  cases Option.some.inj (hn9.symm.trans hn)
  obtain ⟨kY, hkY, -⟩ := className_of_methodNamed hn
  have hinitY : kY.init = .initialized := Cond.initialized_spec (findClass_of_methodNamed hn) hkY h3
  have h : At U g.method c below := by rw [hg]; exact X.here
  have hlocals9 : W9 + (maxL + 11) + (headSpec ws rm).room.locals ≤ R.locals := hlocals
  have happ : (headSpec ws rm).appliesLoose y e.platform (U.calling g mk a) = true :=
    Spec.appliesLoose_calling (g := g) h hdg hn hkY hinitY
      (X.room_calling (g := g) (R' := (headSpec ws rm).room) hsize hmY hcY hframes (by rw [hlY]; omega) h4 h5) h1
  obtain ⟨mid, hmid⟩ := h.above
  have hfr : (U.setTop g).frames = (.java g :: mid) ++ below := by rw [State.frames_setTop' g h.top, hmid]; rfl
  obtain ⟨o, s₂, hsteps, -, hend, hq⟩ := Steps.callFree hM p X.admits X.cas X.clock (acts := []) hfr happ hPc trivial
  have hq' : vx_Q Qc XC mc ms free a (U.calling g mk a) o s₂ := hq
  rw [State.frames_setTop' g h.top] at hend
  obtain ⟨g₀, hg0⟩ := Option.isSome_iff_exists.mp h.top
  obtain ⟨r, hr⟩ := State.topJava?_eq_some.mp hg0
  have hr' : (({ U with heap := s₂.heap, slotsUsed := s₂.slotsUsed } : State).setVm s₂.vm).frames = .java g₀ :: r := hr
  rcases hq' with ⟨hqc, L, hfe, hL⟩ | ⟨q, rfl, E, ce, L, hx, hce, hcv, hcl, hW₂, hsm, hL⟩
  · obtain ⟨⟨v, rfl⟩, hW₂, e2, q2, q3, q4, q5, q6⟩ := id hfe
    have e3 : s₂ = ({ (U.calling g mk a).setFrames s₂.frames with heap := s₂.heap, slotsUsed := s₂.slotsUsed } : State).setVm s₂.vm := by
      have : s₂ = ({ s₂ with vm := (U.calling g mk a).vm } : State).setVm s₂.vm := rfl
      rw [e2] at this
      exact this
    obtain ⟨c₂, i₂, len₂, hc₂, hd₂, hf₂⟩ := hend
    have hW' : U.WarmedH s₂.vm := hW₂
    have hcc : c₂ = c := by
      have h1 : s₂.code? g.method = U.code? g.method := by
        rw [State.code?_eq, State.code?_eq, hW'.alike.method?]
      exact Option.some.inj (hc₂.symm.trans (h1.trans h.code))
    subst hcc
    have hlen : len₂ = len := by rw [hdg] at hd₂; cases hd₂; rfl
    subst hlen
    have hs₂ : s₂ = (({ U with heap := s₂.heap, slotsUsed := s₂.slotsUsed } : State).setVm s₂.vm).setTop { g with pc := g.pc + len₂, stack := v.toList ++ g.stack } := by
      refine e3.trans ?_
      rw [hf₂, State.calling_eq h.top, State.setFrames_setFrames, State.setTop_of_frames _ hr', hr]
      rfl
    have hsame : U.sameButNew ({ U with heap := s₂.heap, slotsUsed := s₂.slotsUsed } : State) L mc ms := by
      refine ⟨?_, q2, q3, q4, q5, q6⟩
      obtain ⟨t, ht, -⟩ := State.frames_cons hr
      show ({ U with heap := s₂.heap, slotsUsed := s₂.slotsUsed } : State) = { U.setFrames U.frames with heap := s₂.heap, slotsUsed := s₂.slotsUsed }
      rw [State.setFrames_self ht]
    subst hg
    refine Or.inl ⟨v, ⟨(({ U with heap := s₂.heap, slotsUsed := s₂.slotsUsed } : State).setVm s₂.vm), Ls ++ L, c0 + mc, s0 + ms⟩,
      ⟨X.admits, X.cas, X.clock, X.frames, X.room, X.hears, X.method, X.code, (X.here.setHeapUsed s₂.heap s₂.slotsUsed).setVm hW'.alike, X.tail, State.WarmedH.trans X.warmed hW', X.limits, X.bytes, X.same.trans (hsame.setVm s.vm)⟩,
      ⟨g, mk, s₂, L, rfl, rfl, hqc, rfl, hL, rfl, rfl⟩, ?_⟩
    show Steps p.tables e below _ ((({ U with heap := s₂.heap, slotsUsed := s₂.slotsUsed } : State).setVm s₂.vm).setTop { g with pc := g.pc + len₂, stack := v.toList ++ g.stack })
    rw [← hs₂]
    exact hsteps
  · obtain ⟨e2, q2, q3, q4, q5, q6⟩ := id hsm
    have e3 : s₂ = ({ (U.calling g mk a).setFrames s₂.frames with heap := s₂.heap, slotsUsed := s₂.slotsUsed } : State).setVm s₂.vm := by
      have : s₂ = ({ s₂ with vm := (U.calling g mk a).vm } : State).setVm s₂.vm := rfl
      rw [e2] at this
      exact this
    have hf₂ : s₂.frames = .throwing q :: .java g :: U.frames.tail := hend
    have hW' : U.WarmedH s₂.vm := hW₂
    have hs₂ : s₂ = ((({ U with heap := s₂.heap, slotsUsed := s₂.slotsUsed } : State).setVm s₂.vm).setTop g).pushFrame (.throwing q) := by
      refine e3.trans ?_
      rw [hf₂, State.calling_eq h.top, State.setFrames_setFrames, State.pushFrame, State.frames_setTop _ hr', State.setTop_of_frames _ hr', State.setFrames_setFrames, hr]
      rfl
    have hsame : U.sameButNew ({ U with heap := s₂.heap, slotsUsed := s₂.slotsUsed } : State) L mc ms := by
      refine ⟨?_, q2, q3, q4, q5, q6⟩
      obtain ⟨t, ht, -⟩ := State.frames_cons hr
      show ({ U with heap := s₂.heap, slotsUsed := s₂.slotsUsed } : State) = { U.setFrames U.frames with heap := s₂.heap, slotsUsed := s₂.slotsUsed }
      rw [State.setFrames_self ht]
    subst hg
    refine Or.inr ⟨q, ⟨(({ U with heap := s₂.heap, slotsUsed := s₂.slotsUsed } : State).setVm s₂.vm), Ls ++ L, c0 + mc, s0 + ms⟩,
      ⟨X.admits, X.cas, X.clock, X.frames, X.room, X.hears, X.method, X.code, (X.here.setHeapUsed s₂.heap s₂.slotsUsed).setVm hW'.alike, X.tail, State.WarmedH.trans X.warmed hW', X.limits, X.bytes, X.same.trans (hsame.setVm s.vm)⟩,
      ⟨g, mk, s₂, L, E, ce, rfl, rfl, hx, hce, hcv, hcl, rfl, hL, rfl, rfl⟩, ?_⟩
    show Steps p.tables e below _ (((({ U with heap := s₂.heap, slotsUsed := s₂.slotsUsed } : State).setVm s₂.vm).setTop g).pushFrame (.throwing q))
    rw [← hs₂]
    exact hsteps
end
variable {p : Program} {l : Launch} {e : Env} {R : Room} {s : State} {m : MethodId} {args : Array Value} {below : List Frame} {meth : Method} {c : Code} {T : State} {H : Heap} {locs : List Loc} {cells slots : Nat}
theorem vx_callVX (X : Stand p l e R s m args below meth c T locs cells slots) (hexec : p.tables.exec = Jvm.exec) {own C : String} {index : Nat} {y : MethodName} {bytes : ByteArray} {maxL : Nat} {ret : Option FieldType} {hh : List (Nat × Nat × Nat × Nat)}
    (hown : s.vm.findClass own = some m.cls) (hlink : (Cond.methodLink own index y).before args s = true) (hinst : (Cond.instanceMethod y).before args s = true) (hsel : (Cond.selects C y y).before args s = true)
    (hcode : (Cond.codeWith y bytes maxL ret hh).before args s = true) (hy : y.cls ≠ "java/lang/invoke/MethodHandle" ∧ y.cls ≠ "java/lang/invoke/VarHandle")
    {W9 : Nat} {Pre : Pt → Array Value → Prop} {Post : Pt → Array Value → Option Value → Pt → Prop} {PostX : Pt → Array Value → Addr → Pt → Prop} (hK : vx_Back l R p e below s args y 3 W9 Pre Post PostX)
    {b : Addr} {cellB : Cell} (hcell : T.heap[b]? = some cellB) (hobj : cellB.vm.isStatics = false) (hcls : s.vm.findClass C = some cellB.cls)
    {g : JFrame} (hg : g.method = m) (hsize : g.locals.size = c.maxLocals) {argsL rest : List Value} (hlen : ∀ sig, parseMethodDescriptor y.desc = some sig → argsL.length = sig.parameters.length)
    (hstack : g.stack = argsL.reverse ++ .ref b :: rest) (hW : 2 * g.monitorRoom + (rest.map fun v => v.category).sum ≤ W9) (hdg : decode c.code g.pc = .ok (.invokevirtual index, 3))
    (hpre : ∀ vm₁, s.WarmedH vm₁ → Pre ⟨T.setVm vm₁, locs, cells, slots⟩ (Value.ref b :: argsL).toArray) :
    (∃ (v : Option Value) (vm₁ : Vm) (B : Pt), s.WarmedH vm₁ ∧ Stand p l e R s m args below meth c B.U B.locs B.cells B.slots ∧ Post ⟨T.setVm vm₁, locs, cells, slots⟩ (Value.ref b :: argsL).toArray v B ∧
      ∀ target, Steps p.tables e below (B.U.setTop { g with pc := g.pc + 3, stack := v.toList ++ rest }) target → Steps p.tables e below (T.setTop g) target) ∨
    (∃ (q : Addr) (vm₁ : Vm) (B : Pt), s.WarmedH vm₁ ∧ Stand p l e R s m args below meth c B.U B.locs B.cells B.slots ∧ PostX ⟨T.setVm vm₁, locs, cells, slots⟩ (Value.ref b :: argsL).toArray q B ∧
      Steps p.tables e below (T.setTop g) ((B.U.setTop { g with stack := rest }).pushFrame (.throwing q))) := by
  obtain ⟨mk, methM, hnamed, hmethM, hstM, habM⟩ := Cond.instanceMethod_spec hinst
  obtain ⟨m8, methM', cM, hn8, hmethM', -, -, -, -, -, -, hsigM⟩ := Cond.codeWith_spec hcode
  cases Option.some.inj (hn8.symm.trans hnamed)
  cases hmethM.symm.trans hmethM'
  obtain ⟨c2, r2, m2, q1, q2, q3, q4, kP, hkP, hkPi⟩ := Cond.selects_spec hsel
  cases hcls.symm.trans q1
  cases (State.methodFound?_of_named hnamed hy).symm.trans q2
  cases hnamed.symm.trans q3
  have hselP : selectMethod e.platform s.vm cellB.cls mk = .method mk := by rw [Launch.admits_selectMethod X.admits]; exact q4
  obtain ⟨vm₁, X₁, hstep₁⟩ := X.invokevirtual hexec hown hlink hnamed hmethM hstM hkP hkPi hy (a := b) (cell := cellB) hcell
    (fun z h => by rw [h] at hobj; cases hobj) hselP hmethM habM hkP hkPi (g := g) hg (argsL := argsL) (rest := rest) (hlen _ hsigM) hstack hdg
  rcases hK m meth c ⟨T.setVm vm₁, locs, cells, slots⟩ { g with stack := rest } (.invokevirtual index) mk (Value.ref b :: argsL).toArray X₁ hg hsize hdg hW (X₁.named hnamed) (hpre vm₁ X₁.warmed) with ⟨v, B, X', hpost, hsteps⟩ | ⟨q, B, X', hpost, hsteps⟩
  · exact Or.inl ⟨v, vm₁, B, X₁.warmed, X', hpost, fun target h => hstep₁ _ fun acts => by rw [doInvoke_state]; exact hsteps.trans h⟩
  · exact Or.inr ⟨q, vm₁, B, X₁.warmed, X', hpost, hstep₁ _ fun acts => by rw [doInvoke_state]; exact hsteps⟩
theorem vx_callSX (X : Stand p l e R s m args below meth c T locs cells slots) (hexec : p.tables.exec = Jvm.exec) {own : String} {index : Nat} {y : MethodName} {bytes : ByteArray} {maxL : Nat} {ret : Option FieldType} {hh : List (Nat × Nat × Nat × Nat)}
    (hown : s.vm.findClass own = some m.cls) (hlink : (Cond.methodLink own index y).before args s = true) (hstat : (Cond.static y).before args s = true) (hinit : (Cond.initialized y.cls).before args s = true)
    (hcode : (Cond.codeWith y bytes maxL ret hh).before args s = true) (hy : y.cls ≠ "java/lang/invoke/MethodHandle" ∧ y.cls ≠ "java/lang/invoke/VarHandle")
    {W9 : Nat} {Pre : Pt → Array Value → Prop} {Post : Pt → Array Value → Option Value → Pt → Prop} {PostX : Pt → Array Value → Addr → Pt → Prop} (hK : vx_Back l R p e below s args y 3 W9 Pre Post PostX)
    {g : JFrame} (hg : g.method = m) (hsize : g.locals.size = c.maxLocals) {argsL rest : List Value} (hlen : ∀ sig, parseMethodDescriptor y.desc = some sig → argsL.length = sig.parameters.length)
    (hstack : g.stack = argsL.reverse ++ rest) (hW : 2 * g.monitorRoom + (rest.map fun v => v.category).sum ≤ W9) (hdg : decode c.code g.pc = .ok (.invokestatic index, 3))
    (hpre : ∀ vm₁, s.WarmedH vm₁ → Pre ⟨T.setVm vm₁, locs, cells, slots⟩ argsL.toArray) :
    (∃ (v : Option Value) (vm₁ : Vm) (B : Pt), s.WarmedH vm₁ ∧ Stand p l e R s m args below meth c B.U B.locs B.cells B.slots ∧ Post ⟨T.setVm vm₁, locs, cells, slots⟩ argsL.toArray v B ∧
      ∀ target, Steps p.tables e below (B.U.setTop { g with pc := g.pc + 3, stack := v.toList ++ rest }) target → Steps p.tables e below (T.setTop g) target) ∨
    (∃ (q : Addr) (vm₁ : Vm) (B : Pt), s.WarmedH vm₁ ∧ Stand p l e R s m args below meth c B.U B.locs B.cells B.slots ∧ PostX ⟨T.setVm vm₁, locs, cells, slots⟩ argsL.toArray q B ∧
      Steps p.tables e below (T.setTop g) ((B.U.setTop { g with stack := rest }).pushFrame (.throwing q))) := by
  obtain ⟨mk, methM, cM, hnamed, hmethM, -, -, -, -, -, -, hsigM⟩ := Cond.codeWith_spec hcode
  have hstatic : methM.isStatic = true := Cond.static_spec hnamed hmethM hstat
  obtain ⟨kP, hkP, -⟩ := className_of_methodNamed hnamed
  have hinitP : kP.init = .initialized := Cond.initialized_spec (findClass_of_methodNamed hnamed) hkP hinit
  obtain ⟨vm₁, X₁, hstep₁⟩ := X.invokestatic hexec hown hlink hnamed hmethM hstatic hkP hinitP hy (g := g) hg (argsL := argsL) (rest := rest) (hlen _ hsigM) hstack hdg
  rcases hK m meth c ⟨T.setVm vm₁, locs, cells, slots⟩ { g with stack := rest } (.invokestatic index) mk argsL.toArray X₁ hg hsize hdg hW (X₁.named hnamed) (hpre vm₁ X₁.warmed) with ⟨v, B, X', hpost, hsteps⟩ | ⟨q, B, X', hpost, hsteps⟩
  · exact Or.inl ⟨v, vm₁, B, X₁.warmed, X', hpost, fun target h => hstep₁ _ fun acts => by rw [doInvoke_state]; exact hsteps.trans h⟩
  · exact Or.inr ⟨q, vm₁, B, X₁.warmed, X', hpost, hstep₁ _ fun acts => by rw [doInvoke_state]; exact hsteps⟩
theorem vx_callVW (X : Stand p l e R s m args below meth c T locs cells slots) (hexec : p.tables.exec = Jvm.exec) {own C : String} {index : Nat} {y : MethodName} {bytes : ByteArray} {maxL : Nat} {ret : Option FieldType} {hh : List (Nat × Nat × Nat × Nat)}
    (hown : s.vm.findClass own = some m.cls) (hlink : (Cond.methodLink own index y).before args s = true) (hinst : (Cond.instanceMethod y).before args s = true) (hsel : (Cond.selects C y y).before args s = true)
    (hcode : (Cond.codeWith y bytes maxL ret hh).before args s = true) (hy : y.cls ≠ "java/lang/invoke/MethodHandle" ∧ y.cls ≠ "java/lang/invoke/VarHandle")
    {W9 : Nat} {Pre : Pt → Array Value → Prop} {Post : Pt → Array Value → Option Value → Pt → Prop} (hK : Back l R p e below s args y 3 W9 Pre Post)
    {b : Addr} {cellB : Cell} (hcell : T.heap[b]? = some cellB) (hobj : cellB.vm.isStatics = false) (hcls : s.vm.findClass C = some cellB.cls)
    {g : JFrame} (hg : g.method = m) (hsize : g.locals.size = c.maxLocals) {argsL rest : List Value} (hlen : ∀ sig, parseMethodDescriptor y.desc = some sig → argsL.length = sig.parameters.length)
    (hstack : g.stack = argsL.reverse ++ .ref b :: rest) (hW : 2 * g.monitorRoom + (rest.map fun v => v.category).sum ≤ W9) (hdg : decode c.code g.pc = .ok (.invokevirtual index, 3))
    (hpre : ∀ vm₁, s.WarmedH vm₁ → Pre ⟨T.setVm vm₁, locs, cells, slots⟩ (Value.ref b :: argsL).toArray) :
    ∃ (v : Option Value) (vm₁ : Vm) (B : Pt), s.WarmedH vm₁ ∧ Stand p l e R s m args below meth c B.U B.locs B.cells B.slots ∧ Post ⟨T.setVm vm₁, locs, cells, slots⟩ (Value.ref b :: argsL).toArray v B ∧
      ∀ target, Steps p.tables e below (B.U.setTop { g with pc := g.pc + 3, stack := v.toList ++ rest }) target → Steps p.tables e below (T.setTop g) target := by
  obtain ⟨mk, methM, hnamed, hmethM, hstM, habM⟩ := Cond.instanceMethod_spec hinst
  obtain ⟨m8, methM', cM, hn8, hmethM', -, -, -, -, -, -, hsigM⟩ := Cond.codeWith_spec hcode
  cases Option.some.inj (hn8.symm.trans hnamed)
  cases hmethM.symm.trans hmethM'
  obtain ⟨c2, r2, m2, q1, q2, q3, q4, kP, hkP, hkPi⟩ := Cond.selects_spec hsel
  cases hcls.symm.trans q1
  cases (State.methodFound?_of_named hnamed hy).symm.trans q2
  cases hnamed.symm.trans q3
  have hselP : selectMethod e.platform s.vm cellB.cls mk = .method mk := by rw [Launch.admits_selectMethod X.admits]; exact q4
  obtain ⟨vm₁, X₁, hstep₁⟩ := X.invokevirtual hexec hown hlink hnamed hmethM hstM hkP hkPi hy (a := b) (cell := cellB) hcell
    (fun z h => by rw [h] at hobj; cases hobj) hselP hmethM habM hkP hkPi (g := g) hg (argsL := argsL) (rest := rest) (hlen _ hsigM) hstack hdg
  obtain ⟨v, B, X', hpost, hsteps⟩ := hK m meth c ⟨T.setVm vm₁, locs, cells, slots⟩ { g with stack := rest } (.invokevirtual index) mk (Value.ref b :: argsL).toArray X₁ hg hsize hdg hW (X₁.named hnamed) (hpre vm₁ X₁.warmed)
  exact ⟨v, vm₁, B, X₁.warmed, X', hpost, fun target h => hstep₁ _ fun acts => by rw [doInvoke_state]; exact hsteps.trans h⟩
abbrev vx_CVW (R : Room) (s : State) (args : Array Value) (own C : String) (index : Nat) (y : MethodName) (bytes : ByteArray) (maxL : Nat) (ret : Option FieldType) (hh : List (Nat × Nat × Nat × Nat)) (ws : List Cond) (rm : Room) (mc ms n : Nat) : Prop :=
  (rm.cells = mc ∧ rm.slots = ms ∧ rm.frames + 1 ≤ R.frames ∧ 8 + (maxL + 11) + rm.locals ≤ R.locals ∧ (∀ w ∈ ws, ∀ (a' : Array Value) (U : State), s.WarmedH U.vm → w.before a' U = true) ∧ Cond.codeWith y bytes maxL ret hh ∈ ws) ∧
  (Cond.codeWith y bytes maxL ret hh).before args s = true ∧ (Cond.initialized y.cls).before args s = true ∧ (y.cls ≠ "java/lang/invoke/MethodHandle" ∧ y.cls ≠ "java/lang/invoke/VarHandle") ∧
  (∀ sig, parseMethodDescriptor y.desc = some sig → n = sig.parameters.length) ∧ (Cond.methodLink own index y).before args s = true ∧ (Cond.instanceMethod y).before args s = true ∧ (Cond.selects C y y).before args s = true
theorem vx_cwVW {own C : String} {index maxL mc ms : Nat} {y : MethodName} {bytes : ByteArray} {ret : Option FieldType} {hh : List (Nat × Nat × Nat × Nat)} {Ts ws ws' : List Cond} {rm : Room} (n : Nat) (ht : ∀ w ∈ Ts, w.before args s = true) (hT : GoodIn Ts (wsV own index C y ws)) (hw : ws = Cond.codeWith y bytes maxL ret hh :: ws') (hrc : rm.cells = mc) (hrs : rm.slots = ms)
    (hd : y.cls = C ∧ y.cls ≠ "java/lang/invoke/MethodHandle" ∧ y.cls ≠ "java/lang/invoke/VarHandle" ∧ (parseMethodDescriptor y.desc).map (fun d => d.parameters.length) = some n) (hR : rm.frames + 1 ≤ R.frames ∧ 8 + (maxL + 11) + rm.locals ≤ R.locals) :
    vx_CVW R s args own C index y bytes maxL ret hh ws rm mc ms n := by
  obtain ⟨hC, hd⟩ := hd
  subst hC
  have ok : ∀ w ∈ wsV own index y.cls y ws, w.before args s = true := fun w h => ht w (hT w h).1
  have hG : GoodIn Ts ws := fun w h => hT w (by unfold wsV; exact List.mem_append_right _ h)
  have hc : Cond.codeWith y bytes maxL ret hh ∈ ws := by rw [hw]; exact List.mem_cons_self
  refine ⟨⟨hrc, hrs, hR.1, hR.2, pay_in ht hG, hc⟩, ht _ (hG _ hc).1, ok _ (by simp [wsV]), ⟨hd.1, hd.2.1⟩, fun sig h => ?_, ok _ (by simp [wsV]), ok _ (by simp [wsV]), ok _ (by simp [wsV])⟩
  have h2 := hd.2.2
  rw [h] at h2
  exact (Option.some.inj h2).symm
theorem vx_runVW {y : MethodName} {bytes cc : ByteArray} {maxL nL mc ms n index : Nat} {ret : Option FieldType} {hh : List (Nat × Nat × Nat × Nat)} {ws : List Cond} {rm : Room} {Pc : Array Value → State → Prop} {Qc : Array Value → State → Outcome → State → Prop} {free : Addr → Prop} {Ts : List Cond} {own C : String} {b : Addr} {As rest : List Value} {g : JFrame}
    (S : CallFix p m c cc nL s args Ts own) (hM : Met l y ws rm Pc Qc mc ms free) (cw : vx_CVW R s args own C index y bytes maxL ret hh ws rm mc ms n) (hp : PreV s H C b Pc As)
    (hg : g.method = m) (hn : As.length = n) (hsize : g.locals.size = nL) (hstack : g.stack = As.reverse ++ .ref b :: rest) (hW : 2 * g.monitorRoom + (rest.map fun v => v.category).sum ≤ 8) (hdg : decode cc g.pc = .ok (.invokevirtual index, 3)) (hf : cells + mc ≤ R.cells ∧ slots + ms ≤ R.slots) :
    va_Run p l e R s m args below meth c H locs cells slots mc ms g rest (Qc (Value.ref b :: As).toArray) free := by
  obtain ⟨⟨hrc, hrs, hfr, hlo, hws, hcw⟩, hcode, hini, hy, hlen, hl, hin, hse⟩ := cw
  have hK : Back l R p e below s args y 3 8 (PreOf R mc ms Pc) (PostOf Qc mc ms free) := va_backW (hh := hh) (bytes := bytes) (maxL := maxL) (ret := ret) hM hp.1 hrc hrs hfr hlo hws hcw (fun a' U hW => word_at hW (Or.inl (by first | rfl | simp [Cond.onTables, Cond.keeps, Cond.steady])) hini)
  obtain ⟨hx, hb, hml, ho, -⟩ := S
  obtain ⟨-, ⟨cellB, hcB, hoB, hclB⟩, hPc⟩ := hp
  intro T hT X
  obtain ⟨v, vm₁, ⟨U', l2, c2, s2⟩, hW₁, X', ⟨g', mk, t, L, e1, e2, hq, h1, hL, h2, h3⟩, st⟩ := vx_callVW X hx (C := C) (hh := hh) (bytes := bytes) (maxL := maxL) (ret := ret) ho hl hin hse hcode hy hK (by rw [hT]; exact hcB) hoB hclB hg (hsize.trans hml.symm) (argsL := As) (rest := rest) (fun sig h => hn.trans (hlen sig h)) hstack hW (by rw [hb]; exact hdg)
    (fun vm₁ hW₁ => ⟨hf.1, hf.2, hPc (T.setVm vm₁) hT hW₁⟩)
  dsimp only [Pt.U, Pt.locs, Pt.cells, Pt.slots] at X' e1 e2 h1 h2 h3 st
  subst h1; subst h2; subst h3
  exact ⟨v, (T.setVm vm₁).calling g' mk (Value.ref b :: As).toArray, t, U', L, hT, X', hL, e1, e2, hq, st⟩
section
variable {y : MethodName} {bytes cc : ByteArray} {maxL nL mc ms n index : Nat} {ret : Option FieldType} {ws : List Cond} {rm : Room} {Pc : Array Value → State → Prop} {Qc : Array Value → State → Outcome → State → Prop} {XC : String → State → State → Prop} {free : Addr → Prop} {Ts : List Cond} {own C : String} {b : Addr} {As rest : List Value} {g : JFrame}
theorem vx_runVX {hh : List (Nat × Nat × Nat × Nat)} (S : CallFix p m c cc nL s args Ts own) (hM : vx_Met l y ws rm Pc Qc XC mc ms free) (cw : vx_CVW R s args own C index y bytes maxL ret hh ws rm mc ms n) (hp : PreV s H C b Pc As)
    (hg : g.method = m) (hn : As.length = n) (hsize : g.locals.size = nL) (hstack : g.stack = As.reverse ++ .ref b :: rest) (hW : 2 * g.monitorRoom + (rest.map fun v => v.category).sum ≤ 8) (hdg : decode cc g.pc = .ok (.invokevirtual index, 3)) (hf : cells + mc ≤ R.cells ∧ slots + ms ≤ R.slots) :
    vx_Run p l e R s m args below meth c H locs cells slots mc ms g rest (Qc (Value.ref b :: As).toArray) XC free := by
  obtain ⟨⟨hrc, hrs, hfr, hlo, hws, hcw⟩, hcode, hini, hy, hlen, hl, hin, hse⟩ := cw
  have hK : vx_Back l R p e below s args y 3 8 (PreOf R mc ms Pc) (PostOf Qc mc ms free) (vx_Post XC mc ms free) := vx_backW (hh := hh) (bytes := bytes) (maxL := maxL) (ret := ret) hM hp.1 hrc hrs hfr hlo hws hcw (fun a' U hW => word_at hW (Or.inl (by first | rfl | simp [Cond.onTables, Cond.keeps, Cond.steady])) hini)
  obtain ⟨hx, hb, hml, ho, -⟩ := S
  obtain ⟨-, ⟨cellB, hcB, hoB, hclB⟩, hPc⟩ := hp
  intro T hT X
  rcases vx_callVX X hx (C := C) (hh := hh) (bytes := bytes) (maxL := maxL) (ret := ret) ho hl hin hse hcode hy hK (by rw [hT]; exact hcB) hoB hclB hg (hsize.trans hml.symm) (argsL := As) (rest := rest) (fun sig h => hn.trans (hlen sig h)) hstack hW (by rw [hb]; exact hdg)
    (fun vm₁ hW₁ => ⟨hf.1, hf.2, hPc (T.setVm vm₁) hT hW₁⟩) with ⟨v, vm₁, ⟨U', l2, c2, s2⟩, hW₁, X', ⟨g', mk, t, L, e1, e2, hq, h1, hL, h2, h3⟩, st⟩ | ⟨q, vm₁, ⟨U', l2, c2, s2⟩, hW₁, X', ⟨g', mk, t, L, E, ce, e1, e2, hq, hce, hcv, hcl, h1, hL, h2, h3⟩, st⟩
  · dsimp only [Pt.U, Pt.locs, Pt.cells, Pt.slots] at X' e1 e2 h1 h2 h3 st
    subst h1; subst h2; subst h3
    exact Or.inl ⟨v, (T.setVm vm₁).calling g' mk (Value.ref b :: As).toArray, t, U', L, hT, X', hL, e1, e2, hq, st⟩
  · dsimp only [Pt.U, Pt.locs, Pt.cells, Pt.slots] at X' e1 e2 h1 h2 h3 st hcl
    subst h1; subst h2; subst h3
    exact Or.inr ⟨q, (T.setVm vm₁).calling g' mk (Value.ref b :: As).toArray, t, U', L, E, ce, hT, X', hL, e1, e2, hq, hce, hcv, vx_cls hW₁ hcl, st⟩
theorem vx_runSX {hh : List (Nat × Nat × Nat × Nat)} (S : CallFix p m c cc nL s args Ts own) (hM : vx_Met l y ws rm Pc Qc XC mc ms free) (cw : vx_CSW R s args own index y bytes maxL ret hh ws rm mc ms n) (hp : PreS s H Pc As)
    (hg : g.method = m) (hn : As.length = n) (hsize : g.locals.size = nL) (hstack : g.stack = As.reverse ++ rest) (hW : 2 * g.monitorRoom + (rest.map fun v => v.category).sum ≤ 8) (hdg : decode cc g.pc = .ok (.invokestatic index, 3)) (hf : cells + mc ≤ R.cells ∧ slots + ms ≤ R.slots) :
    vx_Run p l e R s m args below meth c H locs cells slots mc ms g rest (Qc As.toArray) XC free := by
  obtain ⟨⟨hrc, hrs, hfr, hlo, hws, hcw⟩, hcode, hini, hy, hlen, hl, hstt⟩ := cw
  have hK : vx_Back l R p e below s args y 3 8 (PreOf R mc ms Pc) (PostOf Qc mc ms free) (vx_Post XC mc ms free) := vx_backW (hh := hh) (bytes := bytes) (maxL := maxL) (ret := ret) hM hp.1 hrc hrs hfr hlo hws hcw (fun a' U hW => word_at hW (Or.inl (by first | rfl | simp [Cond.onTables, Cond.keeps, Cond.steady])) hini)
  obtain ⟨hx, hb, hml, ho, -⟩ := S
  intro T hT X
  rcases vx_callSX X hx (hh := hh) (bytes := bytes) (maxL := maxL) (ret := ret) ho hl hstt hini hcode hy hK hg (hsize.trans hml.symm) (argsL := As) (rest := rest) (fun sig h => hn.trans (hlen sig h)) hstack hW (by rw [hb]; exact hdg)
    (fun vm₁ hW₁ => ⟨hf.1, hf.2, hp.2 (T.setVm vm₁) hT hW₁⟩) with ⟨v, vm₁, ⟨U', l2, c2, s2⟩, hW₁, X', ⟨g', mk, t, L, e1, e2, hq, h1, hL, h2, h3⟩, st⟩ | ⟨q, vm₁, ⟨U', l2, c2, s2⟩, hW₁, X', ⟨g', mk, t, L, E, ce, e1, e2, hq, hce, hcv, hcl, h1, hL, h2, h3⟩, st⟩
  · dsimp only [Pt.U, Pt.locs, Pt.cells, Pt.slots] at X' e1 e2 h1 h2 h3 st
    subst h1; subst h2; subst h3
    exact Or.inl ⟨v, (T.setVm vm₁).calling g' mk As.toArray, t, U', L, hT, X', hL, e1, e2, hq, st⟩
  · dsimp only [Pt.U, Pt.locs, Pt.cells, Pt.slots] at X' e1 e2 h1 h2 h3 st hcl
    subst h1; subst h2; subst h3
    exact Or.inr ⟨q, (T.setVm vm₁).calling g' mk As.toArray, t, U', L, E, ce, hT, X', hL, e1, e2, hq, hce, hcv, vx_cls hW₁ hcl, st⟩
end
end VXH
theorem vx_ofWH {l : Launch} {y : MethodName} {ws ws' : List Cond} {rm : Room} {Pc : Array Value → State → Prop} {Qc : Array Value → State → Outcome → State → Prop} {XC : String → State → State → Prop} {mc ms : Nat} {free : Addr → Prop} {cc : ByteArray} {maxL : Nat} {ret : Option FieldType} {hh : List (Nat × Nat × Nat × Nat)}
    (hy : plainName y.cls = true) (hw : ws = Cond.codeWith y cc maxL ret hh :: ws')
    (body : ∀ p e s m args below meth c s₁, BodyLoose p l y (headSpec ws rm) cc maxL ret e s m args below meth c s₁ → c.maxLocals = maxL → Pc args s →
      W p l e (headSpec ws rm).room s m args below meth c s.heap [] 0 0 (vx_MQ below Qc XC args s mc ms free) (entryFrame m args maxL)) : vx_Met l y ws rm Pc Qc XC mc ms free := by
  refine MetFree.of_bodyS (code := cc) (maxLocals := maxL) (ret := ret) hy ?_ ?_
  · intro args s m h hn
    obtain ⟨m9, meth, c, hn9, h1, h2, h3, h4, -, h5, h6, -⟩ := Cond.codeWith_spec (atoms_spec (ws := ws) h _ (by rw [hw]; exact List.mem_cons_self))
    cases hn.symm.trans hn9
    exact ⟨meth, c, h1, h2, h3, h4, h5, h6⟩
  · intro p e s m args below meth c s₁ B hml hP _
    have hh0 : s₁.heap = s.heap := by rw [B.state]; rfl
    obtain ⟨t, a1, o, b1, b2, b3⟩ := body p e s m args below meth c s₁ B hml hP s₁ hh0 (Stand.of_body B)
    exact ⟨t, o, a1, b1, b2, b3⟩
/-! ===== END ===== -/
/-! ===== BEGIN what the machine throws by itself, no traces kept ===== -/
section VXM
set_option maxHeartbeats 1000000 in
/-- the machine throws cls with the message text, no traces kept: from its note over the frame g to 'throwing' over the same frame (follows the proofs of Stand.vmThrowsMessage, Shelf/KitTracedVmS.lean, and Stand.throwsMessageColdBareV, StandMessageColdV.lean, without the step out of the frame) -/
theorem vx_vmAt {p : Program} {l : Launch} {e : Env} {R : Room} {s : State} {m₀ : MethodId} {args : Array Value} {below : List Frame} {meth : Method} {c : Code} {W : State} {locs : List Loc} {cells slots : Nat}
    (X : Stand p l e R s m₀ args below meth c W locs cells slots) (hexec : p.tables.exec = Jvm.exec) (htr : e.platform.stackTraces = false) {cls : String} {names : List String} {text : String}
    (hcls : Bundle.fit cls = true) (hnames : ∀ n ∈ names, Bundle.fit n = true) (hsoe : (cls == "java/lang/StackOverflowError") = false) (hoom : (cls == "java/lang/OutOfMemoryError") = false)
    (h : ∀ a ∈ Bundle.messageArmAtoms cls names, a.before args s = true)
    (hlocs : ∀ x ∈ locs, ∀ cell, s.heap[x.base]? = some cell → cell.vm.isStatics = false)
    (htext : (text == notModelled) = false) (hlimit : ¬ (stringBytes (stringToUtf16 text)).size > e.platform.arrayLengthLimit) (hheap : ¬ (stringBytes (stringToUtf16 text)).size * componentBytes .byte > e.platform.maxHeapBytes)
    {g : JFrame} (hg : g.method = m₀) (hsize : g.locals.size = c.maxLocals)
    (hRframes : names.length + 4 < R.frames) (hRlocals : 2 * g.monitorRoom + (g.stack.map fun v => v.category).sum + 10240 ≤ R.locals) (hshort : 13 * names.length + 55 ≤ 10240)
    (hRcells : cells + 3 ≤ R.cells) (hRslots : slots + ((stringBytes (stringToUtf16 text)).size + 4 + 6) ≤ R.slots) (hlocks : meth.locks = false) :
    ∃ (S : State) (q : Addr) (ce : Cell), (∀ target, Steps p.tables e below ((S.setTop g).pushFrame (.throwing q)) target → Steps p.tables e below ((W.setTop g).pushFrame (.throwNew cls (some text) none)) target) ∧
      Stand p l e R s m₀ args below meth c S locs (cells + 3) (slots + ((stringBytes (stringToUtf16 text)).size + 4 + 6)) ∧ S.heap[q]? = some ce ∧ s.vm.findClass cls = some ce.cls ∧ ce.vm = .none := by
  have howns : e.platform.frameOwnsMonitors = true := by rw [X.admits.platform]
  have hfin : e.platform.finalization = false := by rw [X.admits.platform]
  have hpl : e.platform.magicAccessors = ({} : Platform).magicAccessors := by rw [X.admits.platform]
  have a : ∀ x, x ∈ Bundle.messageArmAtoms cls names → x.holds args s none s [] = true := fun x hx => h x hx
  obtain ⟨T, Z0, L, -, Y⟩ := ThrowableC.of_atoms (args := args) howns hfin hpl (fun x hx => h x (by simp [Bundle.messageArmAtoms, hx]))
  obtain ⟨Z, M, LZ, LM, hnZ⟩ := Init0T.ofS_atoms (args := args) hpl L Y (fun x hx => h x (by simp [Bundle.messageArmAtoms, hx]))
  obtain ⟨P1, Ps, hlen, L1, hL, hP1m, hlink1, hlink⟩ := Bundle.chainS (args := args) hpl hnZ names cls hcls hnames (fun x hx => h x (by simp [Bundle.messageArmAtoms, hx]))
  obtain ⟨Zs, LZs, hn4, hfitv, hfitc⟩ := StringT.of_atoms (args := args) (fun x hx => h x (by simp [Bundle.messageArmAtoms, hx]))
  have hfound : s.vm.findClass cls = some P1.m.cls := findClass_of_methodNamed hP1m
  obtain ⟨c1, kX, hc1, hk, hord, -, -, hn6⟩ := Cond.instantiable_spec (a (.instantiable cls 6) (by simp [Bundle.messageArmAtoms]))
  cases Option.some.inj (hc1.symm.trans hfound)
  have hinit := Cond.initialized_spec hfound hk (a (.initialized cls) (by simp [Bundle.messageArmAtoms]))
  have hctor : kX.findMethod "<init>" "(Ljava/lang/String;)V" = some P1.m.idx := findMethod_of_methodNamed hP1m hk
  have hsel0 : selectMethod e.platform s.vm P1.m.cls T.fill0 = .method T.fill0 := by
    obtain ⟨c2, r2, m2, q1, q2, q3, q4, -⟩ := Cond.selects_spec (a (.selects cls Bundle.tFill0 Bundle.tFill0) (by simp [Bundle.messageArmAtoms]))
    cases Option.some.inj (q1.symm.trans hfound)
    cases Option.some.inj (q2.symm.trans (State.methodFound?_of_named Y.fill0 (by decide)))
    cases Option.some.inj (q3.symm.trans Y.fill0)
    rw [Launch.admits_selectMethod X.admits]; exact q4
  have hselF : selectMethod e.platform s.vm P1.m.cls T.fill = .method T.fill := by
    obtain ⟨c2, r2, m2, q1, q2, q3, q4, -⟩ := Cond.selects_spec (a (.selects cls Bundle.tFill Bundle.tFill) (by simp [Bundle.messageArmAtoms]))
    cases Option.some.inj (q1.symm.trans hfound)
    cases Option.some.inj (q2.symm.trans (State.methodFound?_of_named Y.fill (by decide)))
    cases Option.some.inj (q3.symm.trans Y.fill)
    rw [Launch.admits_selectMethod X.admits]; exact q4
  obtain ⟨cellS0, hcS0, hiss⟩ := Y.statics
  obtain ⟨u0, hu0⟩ := Cond.staticRefV Y.unassigned L.unassignedStatic L.statics hcS0 hiss (a (.isRef (.static Bundle.tN "UNASSIGNED_STACK" Bundle.steD)) (by simp [Bundle.messageArmAtoms]))
  obtain ⟨sen, hsen⟩ := Cond.staticRefV Y.sentinel L.sentinelStatic L.statics hcS0 hiss (a (.isRef (.static Bundle.tN "SUPPRESSED_SENTINEL" Bundle.listD)) (by simp [Bundle.messageArmAtoms]))
  obtain ⟨ci198, i198, fB, hk198, hg198, ha198, hsB, -, hnB, htB, hffB⟩ := Cond.ownField (t := .object "java/lang/Object") Y.found L.cls (by decide +kernel) (a (.fieldLink Bundle.tN 198 Bundle.tN "backtrace" "Ljava/lang/Object;") (by simp [Bundle.messageArmAtoms])) (a (.lays Bundle.tN Bundle.tN "backtrace" "Ljava/lang/Object;") (by simp [Bundle.messageArmAtoms])) e.platform hpl
  obtain ⟨cellS, hcS', heS, -, hkeep⟩ := X.same.2.2.2.2.2 T.aS cellS0 hcS0
  have hcellS : W.heap[T.aS]? = some cellS := hcS'
  have hout' : ∀ i, (⟨T.aS, i⟩ : Loc) ∉ locs := fun i hmem => by
    have := hlocs _ hmem cellS0 hcS0
    rw [hiss] at this; cases this
  have hknownS : cellS.vm ≠ .unknown := by
    rw [heS]; intro hu
    rw [show cellS0.vm = .unknown from hu] at hiss
    cases hiss
  have hvU : cellS.slots[T.fUnassigned.slot]? = some u0.v := by rw [hkeep _ (hout' _)]; exact hu0
  have hvSen : cellS.slots[T.fSentinel.slot]? = some sen.v := by rw [hkeep _ (hout' _)]; exact hsen
  obtain ⟨iM, hffM⟩ := Y.msg
  obtain ⟨tyC, dC, hdC, hdnC⟩ := Cond.laysAt hfound hk Y.cause (a (.lays cls Bundle.tN "cause" "Ljava/lang/Throwable;") (by simp [Bundle.messageArmAtoms]))
  obtain ⟨tyS, dS, hdS, hdnS⟩ := Cond.laysAt hfound hk Y.stack (a (.lays cls Bundle.tN "stackTrace" Bundle.steD) (by simp [Bundle.messageArmAtoms]))
  obtain ⟨tyP, dP, hdP, hdnP⟩ := Cond.laysAt hfound hk Y.supp (a (.lays cls Bundle.tN "suppressedExceptions" Bundle.listD) (by simp [Bundle.messageArmAtoms]))
  obtain ⟨tyM, dM, hdM, hdnM⟩ := Cond.laysAt hfound hk hffM (a (.lays cls Bundle.tN "detailMessage" "Ljava/lang/String;") (by simp [Bundle.messageArmAtoms]))
  obtain ⟨tyB, dB, hdB, hdnB⟩ := Cond.laysAt hfound hk hffB (a (.lays cls Bundle.tN "backtrace" "Ljava/lang/Object;") (by simp [Bundle.messageArmAtoms]))
  have bC := Cond.laysApart hdB hdC hdnB hdnC (by rw [hnB, Y.causeName]; decide)
  have bS := Cond.laysApart hdB hdS hdnB hdnS (by rw [hnB, Y.stackName]; decide)
  have bP := Cond.laysApart hdB hdP hdnB hdnP (by rw [hnB, Y.suppName]; decide)
  have hbk : ((preparedCellV T.toThrowableT (freshCell P1.m.cls kX) (W.heap.size + 2) u0 sen).withEntry W.cur).slots[fB.slot]? = some .null := by
    have := fresh_default (c := P1.m.cls) tyB
    rw [htB] at this
    simpa [preparedCellV, Cell.setSlot, Cell.withEntry, Array.getElem?_setIfInBounds, bC, bS, bP, bC.symm, bS.symm, bP.symm, defaultValue] using this
  have tkC := Takes.of_laid (v := .ref (W.heap.size + 2)) hk hord tyC (by rw [Y.causeType]; rfl)
  have tkS := Takes.of_laid (v := u0.v) hk hord tyS (by rw [Y.stackType]; exact fits_refV_array _ u0)
  have tkP := Takes.of_laid (v := sen.v) hk hord tyP (by rw [Y.suppType]; exact fits_refV_object _ sen)
  have tkM := Takes.of_laid (v := .ref (W.heap.size + 1)) hk hord tyM (by rw [Y.msgType]; rfl)
  have hskip : SkipFacts T e.platform s (fun u => u) u0 ((preparedCellV T.toThrowableT (freshCell P1.m.cls kX) (W.heap.size + 2) u0 sen).withEntry W.cur) := ⟨{ ci198 := ci198, i198 := i198, fBack := fB }, ⟨hk198, hg198, ha198, hsB⟩, hbk, fun _ _ => rfl⟩
  have h0 : At W g.method c below := by rw [hg]; exact X.here
  obtain ⟨hbeyond, hfreeW⟩ := X.vmMayThrow hsize (.throwNew cls (some text) none) (fun f hf => by cases hf) rfl hRlocals
  have hfr' : W.frames.length + Ps.length + 4 < (e.platform.stackLimits W.me).1 := by have := X.framesAbove hRframes; omega
  have hwd' : (stackUse (.java g :: W.frames.tail)).2 + 13 * Ps.length + 55 ≤ (e.platform.stackLimits W.me).2 := by have := X.stackAbove hsize (K := 13 * Ps.length + 55) (by omega); omega
  have hslots : W.slotsUsed + (stringBytes (stringToUtf16 text)).size + Zs.kS.instanceTypes.size + kX.instanceTypes.size ≤ e.platform.maxSlots := by
    have := X.slotsAbove hRslots
    rw [hn4, hn6]
    omega
  obtain ⟨vm', hW', st⟩ := Steps.vmThrowsMessageColdByV p (s₀ := s) (S := W) (g := g) h0 hexec T L Z LZ M LM X.warmed (t := W.cur) rfl Zs LZs P1 L1 Ps hL hlink1 hlink hsoe hoom hfound hk hinit hord hctor
    (Launch.admits_hotImplicitExceptions X.admits) hbeyond hfreeW htext hlimit hheap (X.cellsAbove hRcells) hslots (hfitv _) (hfitc _)
    (Nn := fun u => u) heapOnly_id (fun _ _ => rfl) (fun _ => rfl) (fun u x y => setCell_twice _ _ _ _) (fun _ => Nat.le_refl _) (cN := ((preparedCellV T.toThrowableT (freshCell P1.m.cls kX) (W.heap.size + 2) u0 sen).withEntry W.cur))
    hsel0 hcellS hknownS hvU tkS (fun _ hu => hu) (fun _ hu => hu) rfl rfl rfl (by simp [preparedCellV, Cell.setSlot, Cell.withEntry]) hskip (fun _ _ hA hW _ hroom _ hrest => L.nativeOff p htr hA hW hroom hrest) hselF hvSen tkC tkP tkM Y.objLocals rfl hfr' hwd'
  rw [plainBareV_eq T.toThrowableT (W.heap.size + 2) u0 sen (.ref (W.heap.size + 1)) W.cur rfl rfl] at st
  obtain ⟨-, -, w3, w4, -, -, -⟩ := withThrown_facts e.platform W Zs text P1.m.cls kX
  have X3 := ((X.pushed (bytesOf Zs.cB (stringToUtf16 text))).pushed (stringAt Zs.cS Zs.kS Zs.fv Zs.fc (stringToUtf16 text) W.heap.size)).pushed (freshCell P1.m.cls kX)
  rw [← withString_eq] at X3
  have X4 := X3.noted hW'
  have ha : (W.heap.size + 2) < ((withThrown W Zs text P1.m.cls kX).setVm vm').heap.size := by show _ < (withThrown W Zs text P1.m.cls kX).heap.size; rw [w3]; omega
  have hcell : ((withThrown W Zs text P1.m.cls kX).setVm vm').heap[(W.heap.size + 2)]? = some (freshCell P1.m.cls kX) := w4
  have X5 := ((((X4.stored hcell T.fCause.slot (.ref (W.heap.size + 2))).storedAgain ha T.fStack.slot u0.v).storedAgain ha T.fSupp.slot sen.v).storedAgain ha T.fStack.slot u0.v).storedAgain ha T.fMsg.slot (.ref (W.heap.size + 1))
  obtain ⟨g₁, hfrM⟩ := X5.frames_eq
  have hU : ((((withThrown W Zs text P1.m.cls kX).setVm vm').setCell (W.heap.size + 2) (plainBareV T.toThrowableT (freshCell P1.m.cls kX) (W.heap.size + 2) u0 sen (.ref (W.heap.size + 1)))).setTop g).pushFrame (.throwing (W.heap.size + 2)) = (((withThrown W Zs text P1.m.cls kX).setVm vm').setCell (W.heap.size + 2) (plainBareV T.toThrowableT (freshCell P1.m.cls kX) (W.heap.size + 2) u0 sen (.ref (W.heap.size + 1)))).setFrames (.throwing (W.heap.size + 2) :: .java g :: below) := by
    rw [State.pushFrame, State.frames_setTop _ hfrM, State.setTop_of_frames _ hfrM, State.setFrames_setFrames]
  have b1 : (bytesOf Zs.cB (stringToUtf16 text)).slots.size = (stringBytes (stringToUtf16 text)).size := by
    rw [(Cell.writeAll_facts _ _).2.2]; simp [bytes0]
  have b2 : (stringAt Zs.cS Zs.kS Zs.fv Zs.fc (stringToUtf16 text) W.heap.size).slots.size = 4 := by simp [string0, Cell.setSlot, hn4]
  have b3 : (freshCell P1.m.cls kX).slots.size = 6 := by simp [hn6]
  rw [b1, b2, b3] at X5
  have e9 : slots + (stringBytes (stringToUtf16 text)).size + 4 + 6 = slots + ((stringBytes (stringToUtf16 text)).size + 4 + 6) := by omega
  rw [e9] at X5
  simp only [List.append_assoc, List.cons_append, List.nil_append] at X5
  refine ⟨((withThrown W Zs text P1.m.cls kX).setVm vm').setCell (W.heap.size + 2) (plainBareV T.toThrowableT (freshCell P1.m.cls kX) (W.heap.size + 2) u0 sen (.ref (W.heap.size + 1))), W.heap.size + 2, _, fun target ht => st _ (by rw [X.tail, ← hU]; exact ht),
    X5.forget (fun y hy => ?_), heapAt_setCell_self _ ha, hfound, rfl⟩
  simp only [List.mem_cons, List.not_mem_nil, or_false] at hy
  have hge : s.heap.size ≤ W.heap.size := X.same.2.1
  rcases hy with rfl | rfl | rfl | rfl | rfl <;> exact Nat.le_trans hge (Nat.le_add_right _ 2)
set_option maxHeartbeats 1000000 in
/-- the machine throws NullPointerException, no traces kept: from its note over the frame g to 'throwing' over the same frame (follows the proof of Stand.vmThrowsNpe, Shelf42/KT2.lean; throwsNpeColdBareVAt, Shelf42/NT91.lean, called) -/
theorem vx_npeAt {p : Program} {l : Launch} {e : Env} {R : Room} {s : State} {m₀ : MethodId} {args : Array Value} {below : List Frame} {meth : Method} {c : Code} {W : State} {locs : List Loc} {cells slots : Nat}
    (X : Stand p l e R s m₀ args below meth c W locs cells slots) (hexec : p.tables.exec = Jvm.exec) (htr : e.platform.stackTraces = false) {n : Nat}
    (h : ∀ a ∈ Bundle.npeArmAtoms n, a.before args s = true)
    (hlocs : ∀ x ∈ locs, ∀ cell, s.heap[x.base]? = some cell → cell.vm.isStatics = false)
    {g : JFrame} (hg : g.method = m₀) (hsize : g.locals.size = c.maxLocals)
    (hRframes : 7 < R.frames) (hRlocals : 2 * g.monitorRoom + (g.stack.map fun v => v.category).sum + 10240 ≤ R.locals)
    (hRcells : cells + 1 ≤ R.cells) (hRslots : slots + n ≤ R.slots) (hlocks : meth.locks = false) :
    ∃ (S : State) (q : Addr) (ce : Cell), (∀ target, Steps p.tables e below ((S.setTop g).pushFrame (.throwing q)) target → Steps p.tables e below ((W.setTop g).pushFrame (.throwNew "java/lang/NullPointerException" none none)) target) ∧
      Stand p l e R s m₀ args below meth c S locs (cells + 1) (slots + n) ∧ S.heap[q]? = some ce ∧ s.vm.findClass "java/lang/NullPointerException" = some ce.cls ∧ ce.vm = .none := by
  have howns : e.platform.frameOwnsMonitors = true := by rw [X.admits.platform]
  have hfin : e.platform.finalization = false := by rw [X.admits.platform]
  have hpl : e.platform.magicAccessors = ({} : Platform).magicAccessors := by rw [X.admits.platform]
  have hpl2 : e.platform.arrayCloneIsPublic = true := by rw [X.admits.platform]
  have a' : ∀ x, x ∈ Bundle.npeArmAtoms n → x.holds args s none s [] = true := fun x hx => h x hx
  obtain ⟨T, Z, L, LZ, Y⟩ := ThrowableC.of_atoms (args := args) howns hfin hpl (fun x hx => h x (by simp [Bundle.npeArmAtoms, hx]))
  obtain ⟨N, LN, hcN, hnNF, hordN, hffS⟩ := NpeC.of_atoms (args := args) hpl hpl2 L Y (fun x hx => h x (by simp [Bundle.npeArmAtoms, hx]))
  obtain ⟨P1, L1, hP1m, hP1s⟩ := PassC.of_atoms (args := args) (s := s) hpl (X := Bundle.nN) (Y := Bundle.rN) (by decide) (by decide) LibCode.NullPointerException.Init0.at_0 LibCode.NullPointerException.Init0.at_1 LibCode.NullPointerException.Init0.at_4 (fun x hx => h x (by simp [Bundle.npeArmAtoms, hx]))
  obtain ⟨PR, LR, hPRm, hPRs⟩ := PassC.of_atoms (args := args) (s := s) hpl (X := Bundle.rN) (Y := Bundle.eN) (by decide) (by decide) LibCode.RuntimeException.Init0.at_0 LibCode.RuntimeException.Init0.at_1 LibCode.RuntimeException.Init0.at_4 (fun x hx => h x (by simp [Bundle.npeArmAtoms, hx]))
  obtain ⟨PE, LEx, hPEm, hPEs⟩ := PassC.of_atoms (args := args) (s := s) hpl (X := Bundle.eN) (Y := Bundle.tN) (by decide) (by decide) LibCode.Exception.Init0.at_0 LibCode.Exception.Init0.at_1 LibCode.Exception.Init0.at_4 (fun x hx => h x (by simp [Bundle.npeArmAtoms, hx]))
  have hfound : s.vm.findClass Bundle.nN = some P1.m.cls := findClass_of_methodNamed hP1m
  have ecls : N.cN = P1.m.cls := Option.some.inj (hcN.symm.trans hfound)
  have hk : s.vm.classes[P1.m.cls]? = some N.kN := by rw [← ecls]; exact LN.cls
  have hinit := Cond.initialized_spec hfound hk (a' (.initialized Bundle.nN) (by simp [Bundle.npeArmAtoms]))
  have hctor : N.kN.findMethod "<init>" "()V" = some P1.m.idx := findMethod_of_methodNamed hP1m hk
  obtain ⟨c1, k1, hc1, hk1, -, -, -, hn⟩ := Cond.instantiable_spec (a' (.instantiable Bundle.nN n) (by simp [Bundle.npeArmAtoms]))
  cases Option.some.inj (hc1.symm.trans hfound)
  cases Option.some.inj (hk1.symm.trans hk)
  have hfsz : (freshCell P1.m.cls N.kN).slots.size = n := by simp [hn]
  have hlink1 : P1.sup = PR.m := Option.some.inj (hP1s.symm.trans hPRm)
  have hlinkR : PR.sup = PE.m := Option.some.inj (hPRs.symm.trans hPEm)
  have hlinkE : PE.sup = Z.m T.toThrowableT := Option.some.inj (hPEs.symm.trans Y.init0)
  have hLs : ∀ P, P ∈ [PR, PE] → P.Links0 e.platform s := fun P hP => by
    simp only [List.mem_cons, List.not_mem_nil, or_false] at hP
    rcases hP with rfl | rfl
    · exact LR
    · exact LEx
  have hsel0 : selectMethod e.platform s.vm P1.m.cls T.fill0 = .method T.fill0 := by
    obtain ⟨c2, r2, m2, q1, q2, q3, q4, -⟩ := Cond.selects_spec (a' (.selects Bundle.nN Bundle.tFill0 Bundle.tFill0) (by simp [Bundle.npeArmAtoms]))
    cases Option.some.inj (q1.symm.trans hfound)
    cases Option.some.inj (q2.symm.trans (State.methodFound?_of_named Y.fill0 (by decide)))
    cases Option.some.inj (q3.symm.trans Y.fill0)
    rw [Launch.admits_selectMethod X.admits]; exact q4
  have hselF : selectMethod e.platform s.vm P1.m.cls T.fill = .method N.fill := by
    obtain ⟨c2, r2, m2, q1, q2, q3, q4, -⟩ := Cond.selects_spec (a' (.selects Bundle.nN Bundle.tFill Bundle.nFill) (by simp [Bundle.npeArmAtoms]))
    cases Option.some.inj (q1.symm.trans hfound)
    cases Option.some.inj (q2.symm.trans (State.methodFound?_of_named Y.fill (by decide)))
    cases Option.some.inj (q3.symm.trans hnNF)
    rw [Launch.admits_selectMethod X.admits]; exact q4
  obtain ⟨cellS0, hcS0, hiss⟩ := Y.statics
  obtain ⟨u0, hu0⟩ := Cond.staticRefV Y.unassigned L.unassignedStatic L.statics hcS0 hiss (a' (.isRef (.static Bundle.tN "UNASSIGNED_STACK" Bundle.steD)) (by simp [Bundle.npeArmAtoms]))
  obtain ⟨sen, hsen⟩ := Cond.staticRefV Y.sentinel L.sentinelStatic L.statics hcS0 hiss (a' (.isRef (.static Bundle.tN "SUPPRESSED_SENTINEL" Bundle.listD)) (by simp [Bundle.npeArmAtoms]))
  obtain ⟨ci198, i198, fB, hk198, hg198, ha198, hsB, -, hnB, htB, hffB⟩ := Cond.ownField (t := .object "java/lang/Object") Y.found L.cls (by decide +kernel) (a' (.fieldLink Bundle.tN 198 Bundle.tN "backtrace" Bundle.objD) (by simp [Bundle.npeArmAtoms])) (a' (.lays Bundle.tN Bundle.tN "backtrace" Bundle.objD) (by simp [Bundle.npeArmAtoms])) e.platform hpl
  obtain ⟨cellS, hcS', heS, -, hkeep⟩ := X.same.2.2.2.2.2 T.aS cellS0 hcS0
  have hcellS : W.heap[T.aS]? = some cellS := hcS'
  have hout' : ∀ i, (⟨T.aS, i⟩ : Loc) ∉ locs := fun i hmem => by
    have := hlocs _ hmem cellS0 hcS0
    rw [hiss] at this; cases this
  have hknownS : cellS.vm ≠ .unknown := by
    rw [heS]; intro hu
    rw [show cellS0.vm = .unknown from hu] at hiss
    cases hiss
  have hvU : cellS.slots[T.fUnassigned.slot]? = some u0.v := by rw [hkeep _ (hout' _)]; exact hu0
  have hvSen : cellS.slots[T.fSentinel.slot]? = some sen.v := by rw [hkeep _ (hout' _)]; exact hsen
  obtain ⟨tyC, dC, hdC, hdnC⟩ := Cond.laysAt hfound hk Y.cause (a' (.lays Bundle.nN Bundle.tN "cause" "Ljava/lang/Throwable;") (by simp [Bundle.npeArmAtoms]))
  obtain ⟨tyS, dS, hdS, hdnS⟩ := Cond.laysAt hfound hk Y.stack (a' (.lays Bundle.nN Bundle.tN "stackTrace" Bundle.steD) (by simp [Bundle.npeArmAtoms]))
  obtain ⟨tyP, dP, hdP, hdnP⟩ := Cond.laysAt hfound hk Y.supp (a' (.lays Bundle.nN Bundle.tN "suppressedExceptions" Bundle.listD) (by simp [Bundle.npeArmAtoms]))
  obtain ⟨tyX, dX, hdX, hdnX⟩ := Cond.laysAt hfound hk hffS (a' (.lays Bundle.nN Bundle.nN "extendedMessageState" "I") (by simp [Bundle.npeArmAtoms, Bundle.npeAtoms]))
  obtain ⟨hnX, htX⟩ := State.fieldFound?_type hffS (t := .int) (by decide +kernel)
  have xC := Cond.laysApart hdC hdX hdnC hdnX (by rw [hnX, Y.causeName]; decide)
  have xS := Cond.laysApart hdS hdX hdnS hdnX (by rw [hnX, Y.stackName]; decide)
  have xP := Cond.laysApart hdP hdX hdnP hdnX (by rw [hnX, Y.suppName]; decide)
  have hv0 : (freshCell P1.m.cls N.kN).slots[N.fState.slot]? = some (.int 0) := by
    have := fresh_default (c := P1.m.cls) tyX
    rw [htX] at this; exact this
  obtain ⟨tyB, dB, hdB, hdnB⟩ := Cond.laysAt hfound hk hffB (a' (.lays Bundle.nN Bundle.tN "backtrace" Bundle.objD) (by simp [Bundle.npeArmAtoms]))
  have bC := Cond.laysApart hdB hdC hdnB hdnC (by rw [hnB, Y.causeName]; decide)
  have bS := Cond.laysApart hdB hdS hdnB hdnS (by rw [hnB, Y.stackName]; decide)
  have bP := Cond.laysApart hdB hdP hdnB hdnP (by rw [hnB, Y.suppName]; decide)
  have bX := Cond.laysApart hdB hdX hdnB hdnX (by rw [hnB, hnX]; decide)
  have hbk : ((npeCell N.toNpeT (preparedCellV T.toThrowableT (freshCell P1.m.cls N.kN) W.heap.size u0 sen) W.cur).withEntry W.cur).slots[fB.slot]? = some .null := by
    have := fresh_default (c := P1.m.cls) tyB
    rw [htB] at this
    simpa [npeCell, preparedCellV, Cell.setSlot, Cell.withEntry, Array.getElem?_setIfInBounds, bC, bS, bP, bX, bC.symm, bS.symm, bP.symm, bX.symm, defaultValue] using this
  have tkC := Takes.of_laid (v := .ref W.heap.size) hk hordN tyC (by rw [Y.causeType]; rfl)
  have tkS := Takes.of_laid (v := u0.v) hk hordN tyS (by rw [Y.stackType]; exact fits_refV_array _ u0)
  have tkP := Takes.of_laid (v := sen.v) hk hordN tyP (by rw [Y.suppType]; exact fits_refV_object _ sen)
  have tkX := Takes.of_laid (v := .int 1) hk hordN tyX (by rw [htX]; rfl)
  have hskip : SkipFacts T e.platform s (fun u => u) u0 ((npeCell N.toNpeT (preparedCellV T.toThrowableT (freshCell P1.m.cls N.kN) W.heap.size u0 sen) W.cur).withEntry W.cur) := ⟨{ ci198 := ci198, i198 := i198, fBack := fB }, ⟨hk198, hg198, ha198, hsB⟩, hbk, fun _ _ => rfl⟩
  obtain ⟨vm', X3, st, -⟩ := X.throwsNpeColdBareVAt hexec hg hsize T L Z LZ N LN P1 L1 [PR, PE] hLs hlink1 ⟨hlinkR, hlinkE, trivial⟩ hfound hk hinit hordN hctor hsel0 hselF hcellS hknownS hvU hvSen
    hv0 xC xS xP tkC tkS tkP tkX Y.objLocals hskip (fun _ _ hA hW _ hroom _ hrest => L.nativeOff p htr hA hW hroom hrest) (by simpa using hRframes) hRlocals (by simp) hRcells (by rw [hn]; exact hRslots)
  have hlt : W.heap.size < ((W.pushCell (freshCell P1.m.cls N.kN)).setVm vm').heap.size := by
    show W.heap.size < (W.pushCell (freshCell P1.m.cls N.kN)).heap.size
    rw [State.heap_size_pushCell]; omega
  rw [hfsz] at X3
  obtain ⟨g₁, hfrM⟩ := X3.frames_eq
  have hU : ((((W.pushCell (freshCell P1.m.cls N.kN)).setVm vm').setCell W.heap.size (npeBareV T.toThrowableT N.toNpeT (freshCell P1.m.cls N.kN) W.heap.size u0 sen)).setTop g).pushFrame (.throwing W.heap.size) = (((W.pushCell (freshCell P1.m.cls N.kN)).setVm vm').setCell W.heap.size (npeBareV T.toThrowableT N.toNpeT (freshCell P1.m.cls N.kN) W.heap.size u0 sen)).setFrames (.throwing W.heap.size :: .java g :: below) := by
    rw [State.pushFrame, State.frames_setTop _ hfrM, State.setTop_of_frames _ hfrM, State.setFrames_setFrames]
  refine ⟨_, W.heap.size, _, fun target ht => st.trans (by rw [← hU]; exact ht), X3.forget (fun y hy => ?_), heapAt_setCell_self _ hlt, hfound, rfl⟩
  simp only [List.mem_cons, List.not_mem_nil, or_false] at hy
  have hge : s.heap.size ≤ W.heap.size := X.same.2.1
  rcases hy with rfl | rfl | rfl | rfl | rfl <;> exact hge
/-- the words of a machine's NullPointerException, but the four that speak of the heap -/
def vx_atN (n : Nat) : List Cond := (Bundle.npeArmAtoms n).filter vx_no
/-- the words of a machine's throw with a message, but the four that speak of the heap -/
def vx_atM (X : String) (names : List String) : List Cond := (Bundle.messageArmAtoms X names).filter vx_no
section
variable {p : Program} {l : Launch} {e : Env} {R : Room} {s : State} {m : MethodId} {args : Array Value} {below : List Frame} {meth : Method} {c : Code} {H : Heap} {locs : List Loc} {cells slots : Nat}
/-- a frame seen from a rebased start, seen from the first start again -/
theorem vx_back9 {T S : State} {R' : Room} {k n : Nat} (X : Stand p l e R s m args below meth c T locs cells slots) (Y : Stand p l e R' ((T.setVm s.vm).setFrames (.invoking m args :: below)) m args below meth c T [] 0 0) (Z : Stand p l e R' ((T.setVm s.vm).setFrames (.invoking m args :: below)) m args below meth c S [] k n) :
    Stand p l e R s m args below meth c S locs (cells + k) (slots + n) := by
  have hW0 : s.WarmedH ((T.setVm s.vm).setFrames (.invoking m args :: below)).vm := State.WarmedH.refl s
  refine { admits := X.admits, cas := X.cas, clock := X.clock, frames := X.frames, room := X.room, hears := X.hears, method := X.method, code := X.code, here := Z.here, tail := Z.tail, warmed := State.WarmedH.trans hW0 Z.warmed, limits := Z.limits.trans (Y.limits.symm.trans X.limits), bytes := Z.bytes.trans (Y.bytes.symm.trans X.bytes), same := ?_ }
  obtain ⟨e1, e2⟩ := Z.same
  rw [State.setFrames_setFrames] at e1
  have h2 : (T.setVm s.vm).sameButNew (S.setVm s.vm) [] k n := ⟨e1, e2⟩
  have h3 := X.same.trans h2
  rw [List.append_nil] at h3
  exact h3
/-- from the machine's note that E is thrown here with this text -/
def vx_Note (p : Program) (l : Launch) (e : Env) (R : Room) (s : State) (m : MethodId) (args : Array Value) (below : List Frame) (meth : Method) (c : Code) (H : Heap) (locs : List Loc) (cells slots : Nat) (Q : State → Prop) (g : JFrame) (E text : String) : Prop :=
  ∀ T : State, T.heap = H → Stand p l e R s m args below meth c T locs cells slots → ∃ t, Steps p.tables e below ((T.setTop g).pushFrame (.throwNew E (some text) none)) t ∧ Q t
theorem vx_vm {pc : Nat} {ls : Array Slot} {rest : List Value} {Q : State → Prop} (hexec : p.tables.exec = Jvm.exec) (hl : l.stackTraces = false) {cls text : String} {names : List String} {nb : Nat} {A : Nat → Prop}
    (hcls : Bundle.fit cls = true) (hnames : ∀ n ∈ names, Bundle.fit n = true) (hsoe : (cls == "java/lang/StackOverflowError") = false) (hoom : (cls == "java/lang/OutOfMemoryError") = false)
    (hat : ∀ w ∈ vx_atM cls names, w.before args s = true) (hgood : ∀ w ∈ vx_atM cls names, vx_ot w = true)
    (hU : vx_Zq Bundle.tN "UNASSIGNED_STACK" Bundle.steD A s s.heap) (hN : vx_Zq Bundle.tN "SUPPRESSED_SENTINEL" Bundle.listD A s s.heap) (hS : va_S A s.heap H locs) (hsize : ls.size = c.maxLocals)
    (htext : (text == notModelled) = false) (hnb : (stringBytes (stringToUtf16 text)).size ≤ nb) (hnb1 : nb ≤ 1000)
    (hRframes : names.length + 4 < R.frames) (hRlocals : (rest.map fun v => v.category).sum + 10240 ≤ R.locals) (hshort : 13 * names.length + 55 ≤ 10240) (hRcells : cells + 3 ≤ R.cells) (hRslots : slots + (nb + 10) ≤ R.slots) (hlocks : meth.locks = false)
    (k : ∀ (H1 : Heap) (q9 : Addr) (ce : Cell), H.size ≤ H1.size → (∀ q : Nat, q < H.size → H1[q]? = H[q]?) → va_S A s.heap H1 locs → H1[q9]? = some ce → ce.vm = .none → s.vm.findClass cls = some ce.cls → vx_W p l e R s m args below meth c H1 locs (cells + 3) (slots + (nb + 10)) Q (F0 m pc ls rest) q9) :
    vx_Note p l e R s m args below meth c H locs cells slots Q (F0 m pc ls rest) cls text := by
  intro T hT X
  have htr : e.platform.stackTraces = false := (show e.platform.stackTraces = l.stackTraces by rw [X.admits.platform]).trans hl
  have Y := vx_rebase X (R' := { frames := R.frames, locals := R.locals, cells := 3, slots := nb + 10 }) (Nat.le_refl _) (Nat.le_refl _) hRcells hRslots
  have hhp : ((T.setVm s.vm).setFrames (.invoking m args :: below)).heap = H := hT
  have hW0 : s.WarmedH ((T.setVm s.vm).setFrames (.invoking m args :: below)).vm := State.WarmedH.refl s
  have hat' : ∀ w ∈ vx_atM cls names, w.before args ((T.setVm s.vm).setFrames (.invoking m args :: below)) = true := fun w hw => vx_ot_at hW0 rfl (hgood w hw) (hat w hw)
  have hU' : vx_Zq Bundle.tN "UNASSIGNED_STACK" Bundle.steD A ((T.setVm s.vm).setFrames (.invoking m args :: below)) ((T.setVm s.vm).setFrames (.invoking m args :: below)).heap := by rw [hhp]; exact vx_Zq.moved hW0.alike (hU.kept hS.2.1)
  have hN' : vx_Zq Bundle.tN "SUPPRESSED_SENTINEL" Bundle.listD A ((T.setVm s.vm).setFrames (.invoking m args :: below)) ((T.setVm s.vm).setFrames (.invoking m args :: below)).heap := by rw [hhp]; exact vx_Zq.moved hW0.alike (hN.kept hS.2.1)
  obtain ⟨S, q, ce, st, Z, hce, hcl', hv⟩ := vx_vmAt Y hexec htr (cls := cls) (names := names) (text := text) hcls hnames hsoe hoom (vx_own hat' (vx_isRefq hU'.1) (vx_isRefq hN'.1) hU'.2.word hN'.2.word) (fun x hx => nomatch hx) htext
    (by rw [Launch.admits_arrayLengthLimit X.admits]; omega) (by rw [Launch.admits_maxHeapBytes X.admits]; simp only [componentBytes]; omega)
    (g := F0 m pc ls rest) rfl hsize hRframes (by show 2 * 0 + (rest.map fun v => v.category).sum + 10240 ≤ R.locals; omega) hshort (by show 0 + 3 ≤ 3; omega) (by show 0 + (_ + 4 + 6) ≤ nb + 10; omega) hlocks
  obtain ⟨f1, f2⟩ := vx_frame Z.same
  have f1' : H.size ≤ S.heap.size := by rw [← hT]; exact f1
  have f2' : ∀ q : Nat, q < H.size → S.heap[q]? = H[q]? := fun q hq => by
    rw [← hT]
    exact f2 q (by rw [← hT] at hq; exact hq) (fun z hz => nomatch hz)
  have X5 := vx_back9 X Y Z
  have X6 : Stand p l e R s m args below meth c S locs (cells + 3) (slots + (nb + 10)) := { X5 with same := X5.same.mono (by omega) (by omega) }
  obtain ⟨t, a1, b1⟩ := k S.heap q ce f1' f2' ⟨Nat.le_trans hS.1 f1', fun q h1 h2 => (f2' q (Nat.lt_of_lt_of_le h1 hS.1)).trans (hS.2.1 q h1 h2), hS.2.2⟩ hce hv hcl' S rfl X6
  exact ⟨t, st t a1, b1⟩
/-- from the machine's note that NullPointerException is thrown here -/
def vx_NoteN (p : Program) (l : Launch) (e : Env) (R : Room) (s : State) (m : MethodId) (args : Array Value) (below : List Frame) (meth : Method) (c : Code) (H : Heap) (locs : List Loc) (cells slots : Nat) (Q : State → Prop) (g : JFrame) : Prop :=
  ∀ T : State, T.heap = H → Stand p l e R s m args below meth c T locs cells slots → ∃ t, Steps p.tables e below ((T.setTop g).pushFrame (.throwNew "java/lang/NullPointerException" none none)) t ∧ Q t
theorem vx_npe {pc : Nat} {ls : Array Slot} {rest : List Value} {Q : State → Prop} (hexec : p.tables.exec = Jvm.exec) (hl : l.stackTraces = false) {nb : Nat} {A : Nat → Prop}
    (hat : ∀ w ∈ vx_atN nb, w.before args s = true) (hgood : ∀ w ∈ vx_atN nb, vx_ot w = true)
    (hU : vx_Zq Bundle.tN "UNASSIGNED_STACK" Bundle.steD A s s.heap) (hN : vx_Zq Bundle.tN "SUPPRESSED_SENTINEL" Bundle.listD A s s.heap) (hS : va_S A s.heap H locs) (hsize : ls.size = c.maxLocals)
    (hRframes : 7 < R.frames) (hRlocals : (rest.map fun v => v.category).sum + 10240 ≤ R.locals) (hRcells : cells + 1 ≤ R.cells) (hRslots : slots + nb ≤ R.slots) (hlocks : meth.locks = false)
    (k : ∀ (H1 : Heap) (q9 : Addr) (ce : Cell), H.size ≤ H1.size → (∀ q : Nat, q < H.size → H1[q]? = H[q]?) → va_S A s.heap H1 locs → H1[q9]? = some ce → ce.vm = .none → s.vm.findClass "java/lang/NullPointerException" = some ce.cls → vx_W p l e R s m args below meth c H1 locs (cells + 1) (slots + nb) Q (F0 m pc ls rest) q9) :
    vx_NoteN p l e R s m args below meth c H locs cells slots Q (F0 m pc ls rest) := by
  intro T hT X
  have htr : e.platform.stackTraces = false := (show e.platform.stackTraces = l.stackTraces by rw [X.admits.platform]).trans hl
  have Y := vx_rebase X (R' := { frames := R.frames, locals := R.locals, cells := 1, slots := nb }) (Nat.le_refl _) (Nat.le_refl _) hRcells hRslots
  have hhp : ((T.setVm s.vm).setFrames (.invoking m args :: below)).heap = H := hT
  have hW0 : s.WarmedH ((T.setVm s.vm).setFrames (.invoking m args :: below)).vm := State.WarmedH.refl s
  have hat' : ∀ w ∈ vx_atN nb, w.before args ((T.setVm s.vm).setFrames (.invoking m args :: below)) = true := fun w hw => vx_ot_at hW0 rfl (hgood w hw) (hat w hw)
  have hU' : vx_Zq Bundle.tN "UNASSIGNED_STACK" Bundle.steD A ((T.setVm s.vm).setFrames (.invoking m args :: below)) ((T.setVm s.vm).setFrames (.invoking m args :: below)).heap := by rw [hhp]; exact vx_Zq.moved hW0.alike (hU.kept hS.2.1)
  have hN' : vx_Zq Bundle.tN "SUPPRESSED_SENTINEL" Bundle.listD A ((T.setVm s.vm).setFrames (.invoking m args :: below)) ((T.setVm s.vm).setFrames (.invoking m args :: below)).heap := by rw [hhp]; exact vx_Zq.moved hW0.alike (hN.kept hS.2.1)
  obtain ⟨S, q, ce, st, Z, hce, hcl', hv⟩ := vx_npeAt Y hexec htr (n := nb) (vx_own hat' (vx_isRefq hU'.1) (vx_isRefq hN'.1) hU'.2.word hN'.2.word) (fun x hx => nomatch hx)
    (g := F0 m pc ls rest) rfl hsize hRframes (by show 2 * 0 + (rest.map fun v => v.category).sum + 10240 ≤ R.locals; omega) (by show 0 + 1 ≤ 1; omega) (by show 0 + nb ≤ nb; omega) hlocks
  obtain ⟨f1, f2⟩ := vx_frame Z.same
  have f1' : H.size ≤ S.heap.size := by rw [← hT]; exact f1
  have f2' : ∀ q : Nat, q < H.size → S.heap[q]? = H[q]? := fun q hq => by
    rw [← hT]
    exact f2 q (by rw [← hT] at hq; exact hq) (fun z hz => nomatch hz)
  have X5 := vx_back9 X Y Z
  have X6 : Stand p l e R s m args below meth c S locs (cells + 1) (slots + nb) := { X5 with same := X5.same.mono (by omega) (by omega) }
  obtain ⟨t, a1, b1⟩ := k S.heap q ce f1' f2' ⟨Nat.le_trans hS.1 f1', fun q h1 h2 => (f2' q (Nat.lt_of_lt_of_le h1 hS.1)).trans (hS.2.1 q h1 h2), hS.2.2⟩ hce hv hcl' S rfl X6
  exact ⟨t, st t a1, b1⟩
variable {Q : State → Prop} {cc : ByteArray} {pc : Nat} {ls : Array Slot} {rest : List Value}
theorem vx_idivZ (hexec : p.tables.exec = Jvm.exec) (hb : c.code = cc) {a b : Int32} (h0 : b = 0) (d : decode cc pc = .ok (.idiv, 1)) (k : vx_Note p l e R s m args below meth c H locs cells slots Q (F0 m pc ls rest) "java/lang/ArithmeticException" "/ by zero") :
    W p l e R s m args below meth c H locs cells slots Q (F0 m pc ls (.int b :: .int a :: rest)) := by
  intro T hT X
  obtain ⟨t, st, q⟩ := k T hT X
  exact ⟨t, X.idivZero hexec (g := F0 m pc ls (.int b :: .int a :: rest)) rfl (a := a) (rest := rest) (by rw [h0]) (by rw [hb]; exact d) t st, q⟩
theorem vx_iremZ (hexec : p.tables.exec = Jvm.exec) (hb : c.code = cc) {a b : Int32} (h0 : b = 0) (d : decode cc pc = .ok (.irem, 1)) (k : vx_Note p l e R s m args below meth c H locs cells slots Q (F0 m pc ls rest) "java/lang/ArithmeticException" "/ by zero") :
    W p l e R s m args below meth c H locs cells slots Q (F0 m pc ls (.int b :: .int a :: rest)) := by
  intro T hT X
  obtain ⟨t, st, q⟩ := k T hT X
  exact ⟨t, X.iremZero hexec (g := F0 m pc ls (.int b :: .int a :: rest)) rfl (a := a) (rest := rest) (by rw [h0]) (by rw [hb]; exact d) t st, q⟩
theorem vx_ldivZ (hexec : p.tables.exec = Jvm.exec) (hb : c.code = cc) {a b : Int64} (h0 : b = 0) (d : decode cc pc = .ok (.ldiv, 1)) (k : vx_Note p l e R s m args below meth c H locs cells slots Q (F0 m pc ls rest) "java/lang/ArithmeticException" "/ by zero") :
    W p l e R s m args below meth c H locs cells slots Q (F0 m pc ls (.long b :: .long a :: rest)) := by
  intro T hT X
  obtain ⟨t, st, q⟩ := k T hT X
  exact ⟨t, X.ldivZero hexec (g := F0 m pc ls (.long b :: .long a :: rest)) rfl (a := a) (rest := rest) (by rw [h0]) (by rw [hb]; exact d) t st, q⟩
theorem vx_lremZ (hexec : p.tables.exec = Jvm.exec) (hb : c.code = cc) {a b : Int64} (h0 : b = 0) (d : decode cc pc = .ok (.lrem, 1)) (k : vx_Note p l e R s m args below meth c H locs cells slots Q (F0 m pc ls rest) "java/lang/ArithmeticException" "/ by zero") :
    W p l e R s m args below meth c H locs cells slots Q (F0 m pc ls (.long b :: .long a :: rest)) := by
  intro T hT X
  obtain ⟨t, st, q⟩ := k T hT X
  exact ⟨t, X.lremZero hexec (g := F0 m pc ls (.long b :: .long a :: rest)) rfl (a := a) (rest := rest) (by rw [h0]) (by rw [hb]; exact d) t st, q⟩
theorem vx_ialdZ {D : va_G} {cl : List vw_C} {ws : va_W} {tys : List (ClassId × FieldType)} {a : Nat} (hexec : p.tables.exec = Jvm.exec) (hb : c.code = cc) (hK : va_K D cl tys s) (hP : va_P D cl ws H) (q0 t0 : Nat) {cA : ClassId} {n : Nat} {f : Nat → Int32} (ha : ws[q0]? = some (a, .inl (cA, n, .inl f))) (ht : tys[t0]? = some (cA, .int)) {i : Int32} (hout : ¬ vp_in i n) (hdg : decode cc pc = .ok (.iaload, 1))
    (k : ∀ tx : String, tx = (toString "Index " ++ toString i ++ toString " out of bounds for length " ++ toString n : String) → vx_Note p l e R s m args below meth c H locs cells slots Q (F0 m pc ls rest) "java/lang/ArrayIndexOutOfBoundsException" tx) : W p l e R s m args below meth c H locs cells slots Q (F0 m pc ls (.int i :: .ref a :: rest)) := by
  intro T hT X
  obtain ⟨t, st, q⟩ := k _ rfl T hT X
  refine ⟨t, ?_, q⟩
  have h1 := X.ialoadOut hexec (by rw [hT]; exact hP q0 _ ha) ((hK.2 t0 _ ht).1 n (fun j => .int (f j))) (j := i) (by show (i < 0 ∨ (arrV _ _ _).slots.size ≤ _); rw [arrV_size]; exact Classical.byContradiction hout) (g := F0 m pc ls (.int i :: .ref a :: rest)) rfl (rest := rest) rfl (by rw [hb]; exact hdg) t
  simp only [arrV_size] at h1
  exact h1 st
theorem vx_iastZ {D : va_G} {cl : List vw_C} {ws : va_W} {tys : List (ClassId × FieldType)} {a : Nat} (hexec : p.tables.exec = Jvm.exec) (hb : c.code = cc) (hK : va_K D cl tys s) (hP : va_P D cl ws H) (q0 t0 : Nat) {cA : ClassId} {n : Nat} {f : Nat → Int32} (ha : ws[q0]? = some (a, .inl (cA, n, .inl f))) (ht : tys[t0]? = some (cA, .int)) {i : Int32} {x : Int32} (hout : ¬ vp_in i n) (hdg : decode cc pc = .ok (.iastore, 1))
    (k : ∀ tx : String, tx = (toString "Index " ++ toString i ++ toString " out of bounds for length " ++ toString n : String) → vx_Note p l e R s m args below meth c H locs cells slots Q (F0 m pc ls rest) "java/lang/ArrayIndexOutOfBoundsException" tx) : W p l e R s m args below meth c H locs cells slots Q (F0 m pc ls (.int x :: .int i :: .ref a :: rest)) := by
  intro T hT X
  obtain ⟨t, st, q⟩ := k _ rfl T hT X
  refine ⟨t, ?_, q⟩
  have h1 := X.iastoreOut hexec (by rw [hT]; exact hP q0 _ ha) ((hK.2 t0 _ ht).1 n (fun j => .int (f j))) (j := i) (by show (i < 0 ∨ (arrV _ _ _).slots.size ≤ _); rw [arrV_size]; exact Classical.byContradiction hout) (g := F0 m pc ls (.int x :: .int i :: .ref a :: rest)) rfl (rest := rest) rfl (by rw [hb]; exact hdg) t
  simp only [arrV_size] at h1
  exact h1 st
theorem vx_baldZ {D : va_G} {cl : List vw_C} {ws : va_W} {tys : List (ClassId × FieldType)} {a : Nat} (hexec : p.tables.exec = Jvm.exec) (hb : c.code = cc) (hK : va_K D cl tys s) (hP : va_P D cl ws H) (q0 t0 : Nat) {cA : ClassId} {n : Nat} {f : Nat → Int32} (ha : ws[q0]? = some (a, .inl (cA, n, .inl f))) (ht : tys[t0]? = some (cA, .byte)) {i : Int32} (hout : ¬ vp_in i n) (hdg : decode cc pc = .ok (.baload, 1))
    (k : ∀ tx : String, tx = (toString "Index " ++ toString i ++ toString " out of bounds for length " ++ toString n : String) → vx_Note p l e R s m args below meth c H locs cells slots Q (F0 m pc ls rest) "java/lang/ArrayIndexOutOfBoundsException" tx) : W p l e R s m args below meth c H locs cells slots Q (F0 m pc ls (.int i :: .ref a :: rest)) := by
  intro T hT X
  obtain ⟨t, st, q⟩ := k _ rfl T hT X
  refine ⟨t, ?_, q⟩
  have h1 := X.baloadOut hexec (by rw [hT]; exact hP q0 _ ha) ((hK.2 t0 _ ht).1 n (fun j => .int (f j))) (j := i) (by show (i < 0 ∨ (arrV _ _ _).slots.size ≤ _); rw [arrV_size]; exact Classical.byContradiction hout) (g := F0 m pc ls (.int i :: .ref a :: rest)) rfl (rest := rest) rfl (by rw [hb]; exact hdg) t
  simp only [arrV_size] at h1
  exact h1 st
theorem vx_bastZ {D : va_G} {cl : List vw_C} {ws : va_W} {tys : List (ClassId × FieldType)} {a : Nat} (hexec : p.tables.exec = Jvm.exec) (hb : c.code = cc) (hK : va_K D cl tys s) (hP : va_P D cl ws H) (q0 t0 : Nat) {cA : ClassId} {n : Nat} {f : Nat → Int32} (ha : ws[q0]? = some (a, .inl (cA, n, .inl f))) (ht : tys[t0]? = some (cA, .byte)) {i : Int32} {x : Int32} (hout : ¬ vp_in i n) (hdg : decode cc pc = .ok (.bastore, 1))
    (k : ∀ tx : String, tx = (toString "Index " ++ toString i ++ toString " out of bounds for length " ++ toString n : String) → vx_Note p l e R s m args below meth c H locs cells slots Q (F0 m pc ls rest) "java/lang/ArrayIndexOutOfBoundsException" tx) : W p l e R s m args below meth c H locs cells slots Q (F0 m pc ls (.int x :: .int i :: .ref a :: rest)) := by
  intro T hT X
  obtain ⟨t, st, q⟩ := k _ rfl T hT X
  refine ⟨t, ?_, q⟩
  have h1 := X.bastoreOut hexec (by rw [hT]; exact hP q0 _ ha) ((hK.2 t0 _ ht).1 n (fun j => .int (f j))) (j := i) (by show (i < 0 ∨ (arrV _ _ _).slots.size ≤ _); rw [arrV_size]; exact Classical.byContradiction hout) (g := F0 m pc ls (.int x :: .int i :: .ref a :: rest)) rfl (rest := rest) rfl (by rw [hb]; exact hdg) t
  simp only [arrV_size] at h1
  exact h1 st
theorem vx_zaldZ {D : va_G} {cl : List vw_C} {ws : va_W} {tys : List (ClassId × FieldType)} {a : Nat} (hexec : p.tables.exec = Jvm.exec) (hb : c.code = cc) (hK : va_K D cl tys s) (hP : va_P D cl ws H) (q0 t0 : Nat) {cA : ClassId} {n : Nat} {f : Nat → Int32} (ha : ws[q0]? = some (a, .inl (cA, n, .inl f))) (ht : tys[t0]? = some (cA, .boolean)) {i : Int32} (hout : ¬ vp_in i n) (hdg : decode cc pc = .ok (.baload, 1))
    (k : ∀ tx : String, tx = (toString "Index " ++ toString i ++ toString " out of bounds for length " ++ toString n : String) → vx_Note p l e R s m args below meth c H locs cells slots Q (F0 m pc ls rest) "java/lang/ArrayIndexOutOfBoundsException" tx) : W p l e R s m args below meth c H locs cells slots Q (F0 m pc ls (.int i :: .ref a :: rest)) := by
  intro T hT X
  obtain ⟨t, st, q⟩ := k _ rfl T hT X
  refine ⟨t, ?_, q⟩
  have h1 := X.baloadOut hexec (by rw [hT]; exact hP q0 _ ha) ((hK.2 t0 _ ht).1 n (fun j => .int (f j))) (j := i) (by show (i < 0 ∨ (arrV _ _ _).slots.size ≤ _); rw [arrV_size]; exact Classical.byContradiction hout) (g := F0 m pc ls (.int i :: .ref a :: rest)) rfl (rest := rest) rfl (by rw [hb]; exact hdg) t
  simp only [arrV_size] at h1
  exact h1 st
theorem vx_zastZ {D : va_G} {cl : List vw_C} {ws : va_W} {tys : List (ClassId × FieldType)} {a : Nat} (hexec : p.tables.exec = Jvm.exec) (hb : c.code = cc) (hK : va_K D cl tys s) (hP : va_P D cl ws H) (q0 t0 : Nat) {cA : ClassId} {n : Nat} {f : Nat → Int32} (ha : ws[q0]? = some (a, .inl (cA, n, .inl f))) (ht : tys[t0]? = some (cA, .boolean)) {i : Int32} {x : Int32} (hout : ¬ vp_in i n) (hdg : decode cc pc = .ok (.bastore, 1))
    (k : ∀ tx : String, tx = (toString "Index " ++ toString i ++ toString " out of bounds for length " ++ toString n : String) → vx_Note p l e R s m args below meth c H locs cells slots Q (F0 m pc ls rest) "java/lang/ArrayIndexOutOfBoundsException" tx) : W p l e R s m args below meth c H locs cells slots Q (F0 m pc ls (.int x :: .int i :: .ref a :: rest)) := by
  intro T hT X
  obtain ⟨t, st, q⟩ := k _ rfl T hT X
  refine ⟨t, ?_, q⟩
  have h1 := X.bastoreOut hexec (by rw [hT]; exact hP q0 _ ha) ((hK.2 t0 _ ht).1 n (fun j => .int (f j))) (j := i) (by show (i < 0 ∨ (arrV _ _ _).slots.size ≤ _); rw [arrV_size]; exact Classical.byContradiction hout) (g := F0 m pc ls (.int x :: .int i :: .ref a :: rest)) rfl (rest := rest) rfl (by rw [hb]; exact hdg) t
  simp only [arrV_size] at h1
  exact h1 st
theorem vx_caldZ {D : va_G} {cl : List vw_C} {ws : va_W} {tys : List (ClassId × FieldType)} {a : Nat} (hexec : p.tables.exec = Jvm.exec) (hb : c.code = cc) (hK : va_K D cl tys s) (hP : va_P D cl ws H) (q0 t0 : Nat) {cA : ClassId} {n : Nat} {f : Nat → Int32} (ha : ws[q0]? = some (a, .inl (cA, n, .inl f))) (ht : tys[t0]? = some (cA, .char)) {i : Int32} (hout : ¬ vp_in i n) (hdg : decode cc pc = .ok (.caload, 1))
    (k : ∀ tx : String, tx = (toString "Index " ++ toString i ++ toString " out of bounds for length " ++ toString n : String) → vx_Note p l e R s m args below meth c H locs cells slots Q (F0 m pc ls rest) "java/lang/ArrayIndexOutOfBoundsException" tx) : W p l e R s m args below meth c H locs cells slots Q (F0 m pc ls (.int i :: .ref a :: rest)) := by
  intro T hT X
  obtain ⟨t, st, q⟩ := k _ rfl T hT X
  refine ⟨t, ?_, q⟩
  have h1 := X.caloadOut hexec (by rw [hT]; exact hP q0 _ ha) ((hK.2 t0 _ ht).1 n (fun j => .int (f j))) (j := i) (by show (i < 0 ∨ (arrV _ _ _).slots.size ≤ _); rw [arrV_size]; exact Classical.byContradiction hout) (g := F0 m pc ls (.int i :: .ref a :: rest)) rfl (rest := rest) rfl (by rw [hb]; exact hdg) t
  simp only [arrV_size] at h1
  exact h1 st
theorem vx_castZ {D : va_G} {cl : List vw_C} {ws : va_W} {tys : List (ClassId × FieldType)} {a : Nat} (hexec : p.tables.exec = Jvm.exec) (hb : c.code = cc) (hK : va_K D cl tys s) (hP : va_P D cl ws H) (q0 t0 : Nat) {cA : ClassId} {n : Nat} {f : Nat → Int32} (ha : ws[q0]? = some (a, .inl (cA, n, .inl f))) (ht : tys[t0]? = some (cA, .char)) {i : Int32} {x : Int32} (hout : ¬ vp_in i n) (hdg : decode cc pc = .ok (.castore, 1))
    (k : ∀ tx : String, tx = (toString "Index " ++ toString i ++ toString " out of bounds for length " ++ toString n : String) → vx_Note p l e R s m args below meth c H locs cells slots Q (F0 m pc ls rest) "java/lang/ArrayIndexOutOfBoundsException" tx) : W p l e R s m args below meth c H locs cells slots Q (F0 m pc ls (.int x :: .int i :: .ref a :: rest)) := by
  intro T hT X
  obtain ⟨t, st, q⟩ := k _ rfl T hT X
  refine ⟨t, ?_, q⟩
  have h1 := X.castoreOut hexec (by rw [hT]; exact hP q0 _ ha) ((hK.2 t0 _ ht).1 n (fun j => .int (f j))) (j := i) (by show (i < 0 ∨ (arrV _ _ _).slots.size ≤ _); rw [arrV_size]; exact Classical.byContradiction hout) (g := F0 m pc ls (.int x :: .int i :: .ref a :: rest)) rfl (rest := rest) rfl (by rw [hb]; exact hdg) t
  simp only [arrV_size] at h1
  exact h1 st
theorem vx_saldZ {D : va_G} {cl : List vw_C} {ws : va_W} {tys : List (ClassId × FieldType)} {a : Nat} (hexec : p.tables.exec = Jvm.exec) (hb : c.code = cc) (hK : va_K D cl tys s) (hP : va_P D cl ws H) (q0 t0 : Nat) {cA : ClassId} {n : Nat} {f : Nat → Int32} (ha : ws[q0]? = some (a, .inl (cA, n, .inl f))) (ht : tys[t0]? = some (cA, .short)) {i : Int32} (hout : ¬ vp_in i n) (hdg : decode cc pc = .ok (.saload, 1))
    (k : ∀ tx : String, tx = (toString "Index " ++ toString i ++ toString " out of bounds for length " ++ toString n : String) → vx_Note p l e R s m args below meth c H locs cells slots Q (F0 m pc ls rest) "java/lang/ArrayIndexOutOfBoundsException" tx) : W p l e R s m args below meth c H locs cells slots Q (F0 m pc ls (.int i :: .ref a :: rest)) := by
  intro T hT X
  obtain ⟨t, st, q⟩ := k _ rfl T hT X
  refine ⟨t, ?_, q⟩
  have h1 := X.saloadOut hexec (by rw [hT]; exact hP q0 _ ha) ((hK.2 t0 _ ht).1 n (fun j => .int (f j))) (j := i) (by show (i < 0 ∨ (arrV _ _ _).slots.size ≤ _); rw [arrV_size]; exact Classical.byContradiction hout) (g := F0 m pc ls (.int i :: .ref a :: rest)) rfl (rest := rest) rfl (by rw [hb]; exact hdg) t
  simp only [arrV_size] at h1
  exact h1 st
theorem vx_sastZ {D : va_G} {cl : List vw_C} {ws : va_W} {tys : List (ClassId × FieldType)} {a : Nat} (hexec : p.tables.exec = Jvm.exec) (hb : c.code = cc) (hK : va_K D cl tys s) (hP : va_P D cl ws H) (q0 t0 : Nat) {cA : ClassId} {n : Nat} {f : Nat → Int32} (ha : ws[q0]? = some (a, .inl (cA, n, .inl f))) (ht : tys[t0]? = some (cA, .short)) {i : Int32} {x : Int32} (hout : ¬ vp_in i n) (hdg : decode cc pc = .ok (.sastore, 1))
    (k : ∀ tx : String, tx = (toString "Index " ++ toString i ++ toString " out of bounds for length " ++ toString n : String) → vx_Note p l e R s m args below meth c H locs cells slots Q (F0 m pc ls rest) "java/lang/ArrayIndexOutOfBoundsException" tx) : W p l e R s m args below meth c H locs cells slots Q (F0 m pc ls (.int x :: .int i :: .ref a :: rest)) := by
  intro T hT X
  obtain ⟨t, st, q⟩ := k _ rfl T hT X
  refine ⟨t, ?_, q⟩
  have h1 := X.sastoreOut hexec (by rw [hT]; exact hP q0 _ ha) ((hK.2 t0 _ ht).1 n (fun j => .int (f j))) (j := i) (by show (i < 0 ∨ (arrV _ _ _).slots.size ≤ _); rw [arrV_size]; exact Classical.byContradiction hout) (g := F0 m pc ls (.int x :: .int i :: .ref a :: rest)) rfl (rest := rest) rfl (by rw [hb]; exact hdg) t
  simp only [arrV_size] at h1
  exact h1 st
theorem vx_laldZ {D : va_G} {cl : List vw_C} {ws : va_W} {tys : List (ClassId × FieldType)} {a : Nat} (hexec : p.tables.exec = Jvm.exec) (hb : c.code = cc) (hK : va_K D cl tys s) (hP : va_P D cl ws H) (q0 t0 : Nat) {cA : ClassId} {n : Nat} {f : Nat → Int64} (ha : ws[q0]? = some (a, .inl (cA, n, .inr (.inl f)))) (ht : tys[t0]? = some (cA, .long)) {i : Int32} (hout : ¬ vp_in i n) (hdg : decode cc pc = .ok (.laload, 1))
    (k : ∀ tx : String, tx = (toString "Index " ++ toString i ++ toString " out of bounds for length " ++ toString n : String) → vx_Note p l e R s m args below meth c H locs cells slots Q (F0 m pc ls rest) "java/lang/ArrayIndexOutOfBoundsException" tx) : W p l e R s m args below meth c H locs cells slots Q (F0 m pc ls (.int i :: .ref a :: rest)) := by
  intro T hT X
  obtain ⟨t, st, q⟩ := k _ rfl T hT X
  refine ⟨t, ?_, q⟩
  have h1 := X.laloadOut hexec (by rw [hT]; exact hP q0 _ ha) ((hK.2 t0 _ ht).1 n (fun j => .long (f j))) (j := i) (by show (i < 0 ∨ (arrV _ _ _).slots.size ≤ _); rw [arrV_size]; exact Classical.byContradiction hout) (g := F0 m pc ls (.int i :: .ref a :: rest)) rfl (rest := rest) rfl (by rw [hb]; exact hdg) t
  simp only [arrV_size] at h1
  exact h1 st
theorem vx_lastZ {D : va_G} {cl : List vw_C} {ws : va_W} {tys : List (ClassId × FieldType)} {a : Nat} (hexec : p.tables.exec = Jvm.exec) (hb : c.code = cc) (hK : va_K D cl tys s) (hP : va_P D cl ws H) (q0 t0 : Nat) {cA : ClassId} {n : Nat} {f : Nat → Int64} (ha : ws[q0]? = some (a, .inl (cA, n, .inr (.inl f)))) (ht : tys[t0]? = some (cA, .long)) {i : Int32} {x : Int64} (hout : ¬ vp_in i n) (hdg : decode cc pc = .ok (.lastore, 1))
    (k : ∀ tx : String, tx = (toString "Index " ++ toString i ++ toString " out of bounds for length " ++ toString n : String) → vx_Note p l e R s m args below meth c H locs cells slots Q (F0 m pc ls rest) "java/lang/ArrayIndexOutOfBoundsException" tx) : W p l e R s m args below meth c H locs cells slots Q (F0 m pc ls (.long x :: .int i :: .ref a :: rest)) := by
  intro T hT X
  obtain ⟨t, st, q⟩ := k _ rfl T hT X
  refine ⟨t, ?_, q⟩
  have h1 := X.lastoreOut hexec (by rw [hT]; exact hP q0 _ ha) ((hK.2 t0 _ ht).1 n (fun j => .long (f j))) (j := i) (by show (i < 0 ∨ (arrV _ _ _).slots.size ≤ _); rw [arrV_size]; exact Classical.byContradiction hout) (g := F0 m pc ls (.long x :: .int i :: .ref a :: rest)) rfl (rest := rest) rfl (by rw [hb]; exact hdg) t
  simp only [arrV_size] at h1
  exact h1 st
theorem vx_faldZ {D : va_G} {cl : List vw_C} {ws : va_W} {tys : List (ClassId × FieldType)} {a : Nat} (hexec : p.tables.exec = Jvm.exec) (hb : c.code = cc) (hK : va_K D cl tys s) (hP : va_P D cl ws H) (q0 t0 : Nat) {cA : ClassId} {n : Nat} {f : Nat → UInt32} (ha : ws[q0]? = some (a, .inl (cA, n, .inr (.inr (.inl f))))) (ht : tys[t0]? = some (cA, .float)) {i : Int32} (hout : ¬ vp_in i n) (hdg : decode cc pc = .ok (.faload, 1))
    (k : ∀ tx : String, tx = (toString "Index " ++ toString i ++ toString " out of bounds for length " ++ toString n : String) → vx_Note p l e R s m args below meth c H locs cells slots Q (F0 m pc ls rest) "java/lang/ArrayIndexOutOfBoundsException" tx) : W p l e R s m args below meth c H locs cells slots Q (F0 m pc ls (.int i :: .ref a :: rest)) := by
  intro T hT X
  obtain ⟨t, st, q⟩ := k _ rfl T hT X
  refine ⟨t, ?_, q⟩
  have h1 := X.faloadOut hexec (by rw [hT]; exact hP q0 _ ha) ((hK.2 t0 _ ht).1 n (fun j => .float (f j))) (j := i) (by show (i < 0 ∨ (arrV _ _ _).slots.size ≤ _); rw [arrV_size]; exact Classical.byContradiction hout) (g := F0 m pc ls (.int i :: .ref a :: rest)) rfl (rest := rest) rfl (by rw [hb]; exact hdg) t
  simp only [arrV_size] at h1
  exact h1 st
theorem vx_fastZ {D : va_G} {cl : List vw_C} {ws : va_W} {tys : List (ClassId × FieldType)} {a : Nat} (hexec : p.tables.exec = Jvm.exec) (hb : c.code = cc) (hK : va_K D cl tys s) (hP : va_P D cl ws H) (q0 t0 : Nat) {cA : ClassId} {n : Nat} {f : Nat → UInt32} (ha : ws[q0]? = some (a, .inl (cA, n, .inr (.inr (.inl f))))) (ht : tys[t0]? = some (cA, .float)) {i : Int32} {x : UInt32} (hout : ¬ vp_in i n) (hdg : decode cc pc = .ok (.fastore, 1))
    (k : ∀ tx : String, tx = (toString "Index " ++ toString i ++ toString " out of bounds for length " ++ toString n : String) → vx_Note p l e R s m args below meth c H locs cells slots Q (F0 m pc ls rest) "java/lang/ArrayIndexOutOfBoundsException" tx) : W p l e R s m args below meth c H locs cells slots Q (F0 m pc ls (.float x :: .int i :: .ref a :: rest)) := by
  intro T hT X
  obtain ⟨t, st, q⟩ := k _ rfl T hT X
  refine ⟨t, ?_, q⟩
  have h1 := X.fastoreOut hexec (by rw [hT]; exact hP q0 _ ha) ((hK.2 t0 _ ht).1 n (fun j => .float (f j))) (j := i) (by show (i < 0 ∨ (arrV _ _ _).slots.size ≤ _); rw [arrV_size]; exact Classical.byContradiction hout) (g := F0 m pc ls (.float x :: .int i :: .ref a :: rest)) rfl (rest := rest) rfl (by rw [hb]; exact hdg) t
  simp only [arrV_size] at h1
  exact h1 st
theorem vx_daldZ {D : va_G} {cl : List vw_C} {ws : va_W} {tys : List (ClassId × FieldType)} {a : Nat} (hexec : p.tables.exec = Jvm.exec) (hb : c.code = cc) (hK : va_K D cl tys s) (hP : va_P D cl ws H) (q0 t0 : Nat) {cA : ClassId} {n : Nat} {f : Nat → UInt64} (ha : ws[q0]? = some (a, .inl (cA, n, .inr (.inr (.inr (.inl f)))))) (ht : tys[t0]? = some (cA, .double)) {i : Int32} (hout : ¬ vp_in i n) (hdg : decode cc pc = .ok (.daload, 1))
    (k : ∀ tx : String, tx = (toString "Index " ++ toString i ++ toString " out of bounds for length " ++ toString n : String) → vx_Note p l e R s m args below meth c H locs cells slots Q (F0 m pc ls rest) "java/lang/ArrayIndexOutOfBoundsException" tx) : W p l e R s m args below meth c H locs cells slots Q (F0 m pc ls (.int i :: .ref a :: rest)) := by
  intro T hT X
  obtain ⟨t, st, q⟩ := k _ rfl T hT X
  refine ⟨t, ?_, q⟩
  have h1 := X.daloadOut hexec (by rw [hT]; exact hP q0 _ ha) ((hK.2 t0 _ ht).1 n (fun j => .double (f j))) (j := i) (by show (i < 0 ∨ (arrV _ _ _).slots.size ≤ _); rw [arrV_size]; exact Classical.byContradiction hout) (g := F0 m pc ls (.int i :: .ref a :: rest)) rfl (rest := rest) rfl (by rw [hb]; exact hdg) t
  simp only [arrV_size] at h1
  exact h1 st
theorem vx_dastZ {D : va_G} {cl : List vw_C} {ws : va_W} {tys : List (ClassId × FieldType)} {a : Nat} (hexec : p.tables.exec = Jvm.exec) (hb : c.code = cc) (hK : va_K D cl tys s) (hP : va_P D cl ws H) (q0 t0 : Nat) {cA : ClassId} {n : Nat} {f : Nat → UInt64} (ha : ws[q0]? = some (a, .inl (cA, n, .inr (.inr (.inr (.inl f)))))) (ht : tys[t0]? = some (cA, .double)) {i : Int32} {x : UInt64} (hout : ¬ vp_in i n) (hdg : decode cc pc = .ok (.dastore, 1))
    (k : ∀ tx : String, tx = (toString "Index " ++ toString i ++ toString " out of bounds for length " ++ toString n : String) → vx_Note p l e R s m args below meth c H locs cells slots Q (F0 m pc ls rest) "java/lang/ArrayIndexOutOfBoundsException" tx) : W p l e R s m args below meth c H locs cells slots Q (F0 m pc ls (.double x :: .int i :: .ref a :: rest)) := by
  intro T hT X
  obtain ⟨t, st, q⟩ := k _ rfl T hT X
  refine ⟨t, ?_, q⟩
  have h1 := X.dastoreOut hexec (by rw [hT]; exact hP q0 _ ha) ((hK.2 t0 _ ht).1 n (fun j => .double (f j))) (j := i) (by show (i < 0 ∨ (arrV _ _ _).slots.size ≤ _); rw [arrV_size]; exact Classical.byContradiction hout) (g := F0 m pc ls (.double x :: .int i :: .ref a :: rest)) rfl (rest := rest) rfl (by rw [hb]; exact hdg) t
  simp only [arrV_size] at h1
  exact h1 st
theorem vx_arraylengthN (hexec : p.tables.exec = Jvm.exec) (hb : c.code = cc) (hdg : decode cc pc = .ok (.arraylength, 1)) (k : vx_NoteN p l e R s m args below meth c H locs cells slots Q (F0 m pc ls rest)) : W p l e R s m args below meth c H locs cells slots Q (F0 m pc ls (.null :: rest)) := by
  intro T hT X
  obtain ⟨t, st, q⟩ := k T hT X
  exact ⟨t, X.arraylengthNull hexec (g := F0 m pc ls (.null :: rest)) rfl (rest := rest) rfl (by rw [hb]; exact hdg) t st, q⟩
theorem vx_ialoadN (hexec : p.tables.exec = Jvm.exec) (hb : c.code = cc) {i : Int32} (hdg : decode cc pc = .ok (.iaload, 1)) (k : vx_NoteN p l e R s m args below meth c H locs cells slots Q (F0 m pc ls rest)) : W p l e R s m args below meth c H locs cells slots Q (F0 m pc ls (.int i :: .null :: rest)) := by
  intro T hT X
  obtain ⟨t, st, q⟩ := k T hT X
  exact ⟨t, X.ialoadNull hexec (g := F0 m pc ls (.int i :: .null :: rest)) rfl (rest := rest) rfl (by rw [hb]; exact hdg) t st, q⟩
theorem vx_laloadN (hexec : p.tables.exec = Jvm.exec) (hb : c.code = cc) {i : Int32} (hdg : decode cc pc = .ok (.laload, 1)) (k : vx_NoteN p l e R s m args below meth c H locs cells slots Q (F0 m pc ls rest)) : W p l e R s m args below meth c H locs cells slots Q (F0 m pc ls (.int i :: .null :: rest)) := by
  intro T hT X
  obtain ⟨t, st, q⟩ := k T hT X
  exact ⟨t, X.laloadNull hexec (g := F0 m pc ls (.int i :: .null :: rest)) rfl (rest := rest) rfl (by rw [hb]; exact hdg) t st, q⟩
theorem vx_faloadN (hexec : p.tables.exec = Jvm.exec) (hb : c.code = cc) {i : Int32} (hdg : decode cc pc = .ok (.faload, 1)) (k : vx_NoteN p l e R s m args below meth c H locs cells slots Q (F0 m pc ls rest)) : W p l e R s m args below meth c H locs cells slots Q (F0 m pc ls (.int i :: .null :: rest)) := by
  intro T hT X
  obtain ⟨t, st, q⟩ := k T hT X
  exact ⟨t, X.faloadNull hexec (g := F0 m pc ls (.int i :: .null :: rest)) rfl (rest := rest) rfl (by rw [hb]; exact hdg) t st, q⟩
theorem vx_daloadN (hexec : p.tables.exec = Jvm.exec) (hb : c.code = cc) {i : Int32} (hdg : decode cc pc = .ok (.daload, 1)) (k : vx_NoteN p l e R s m args below meth c H locs cells slots Q (F0 m pc ls rest)) : W p l e R s m args below meth c H locs cells slots Q (F0 m pc ls (.int i :: .null :: rest)) := by
  intro T hT X
  obtain ⟨t, st, q⟩ := k T hT X
  exact ⟨t, X.daloadNull hexec (g := F0 m pc ls (.int i :: .null :: rest)) rfl (rest := rest) rfl (by rw [hb]; exact hdg) t st, q⟩
theorem vx_aaloadN (hexec : p.tables.exec = Jvm.exec) (hb : c.code = cc) {i : Int32} (hdg : decode cc pc = .ok (.aaload, 1)) (k : vx_NoteN p l e R s m args below meth c H locs cells slots Q (F0 m pc ls rest)) : W p l e R s m args below meth c H locs cells slots Q (F0 m pc ls (.int i :: .null :: rest)) := by
  intro T hT X
  obtain ⟨t, st, q⟩ := k T hT X
  exact ⟨t, X.aaloadNull hexec (g := F0 m pc ls (.int i :: .null :: rest)) rfl (rest := rest) rfl (by rw [hb]; exact hdg) t st, q⟩
theorem vx_baloadN (hexec : p.tables.exec = Jvm.exec) (hb : c.code = cc) {i : Int32} (hdg : decode cc pc = .ok (.baload, 1)) (k : vx_NoteN p l e R s m args below meth c H locs cells slots Q (F0 m pc ls rest)) : W p l e R s m args below meth c H locs cells slots Q (F0 m pc ls (.int i :: .null :: rest)) := by
  intro T hT X
  obtain ⟨t, st, q⟩ := k T hT X
  exact ⟨t, X.baloadNull hexec (g := F0 m pc ls (.int i :: .null :: rest)) rfl (rest := rest) rfl (by rw [hb]; exact hdg) t st, q⟩
theorem vx_caloadN (hexec : p.tables.exec = Jvm.exec) (hb : c.code = cc) {i : Int32} (hdg : decode cc pc = .ok (.caload, 1)) (k : vx_NoteN p l e R s m args below meth c H locs cells slots Q (F0 m pc ls rest)) : W p l e R s m args below meth c H locs cells slots Q (F0 m pc ls (.int i :: .null :: rest)) := by
  intro T hT X
  obtain ⟨t, st, q⟩ := k T hT X
  exact ⟨t, X.caloadNull hexec (g := F0 m pc ls (.int i :: .null :: rest)) rfl (rest := rest) rfl (by rw [hb]; exact hdg) t st, q⟩
theorem vx_saloadN (hexec : p.tables.exec = Jvm.exec) (hb : c.code = cc) {i : Int32} (hdg : decode cc pc = .ok (.saload, 1)) (k : vx_NoteN p l e R s m args below meth c H locs cells slots Q (F0 m pc ls rest)) : W p l e R s m args below meth c H locs cells slots Q (F0 m pc ls (.int i :: .null :: rest)) := by
  intro T hT X
  obtain ⟨t, st, q⟩ := k T hT X
  exact ⟨t, X.saloadNull hexec (g := F0 m pc ls (.int i :: .null :: rest)) rfl (rest := rest) rfl (by rw [hb]; exact hdg) t st, q⟩
theorem vx_iastoreN (hexec : p.tables.exec = Jvm.exec) (hb : c.code = cc) {x : Int32} {i : Int32} (hdg : decode cc pc = .ok (.iastore, 1)) (k : vx_NoteN p l e R s m args below meth c H locs cells slots Q (F0 m pc ls rest)) : W p l e R s m args below meth c H locs cells slots Q (F0 m pc ls (.int x :: .int i :: .null :: rest)) := by
  intro T hT X
  obtain ⟨t, st, q⟩ := k T hT X
  exact ⟨t, X.iastoreNull hexec (g := F0 m pc ls (.int x :: .int i :: .null :: rest)) rfl (rest := rest) rfl (by rw [hb]; exact hdg) t st, q⟩
theorem vx_lastoreN (hexec : p.tables.exec = Jvm.exec) (hb : c.code = cc) {x : Int64} {i : Int32} (hdg : decode cc pc = .ok (.lastore, 1)) (k : vx_NoteN p l e R s m args below meth c H locs cells slots Q (F0 m pc ls rest)) : W p l e R s m args below meth c H locs cells slots Q (F0 m pc ls (.long x :: .int i :: .null :: rest)) := by
  intro T hT X
  obtain ⟨t, st, q⟩ := k T hT X
  exact ⟨t, X.lastoreNull hexec (g := F0 m pc ls (.long x :: .int i :: .null :: rest)) rfl (rest := rest) rfl (by rw [hb]; exact hdg) t st, q⟩
theorem vx_fastoreN (hexec : p.tables.exec = Jvm.exec) (hb : c.code = cc) {x : UInt32} {i : Int32} (hdg : decode cc pc = .ok (.fastore, 1)) (k : vx_NoteN p l e R s m args below meth c H locs cells slots Q (F0 m pc ls rest)) : W p l e R s m args below meth c H locs cells slots Q (F0 m pc ls (.float x :: .int i :: .null :: rest)) := by
  intro T hT X
  obtain ⟨t, st, q⟩ := k T hT X
  exact ⟨t, X.fastoreNull hexec (g := F0 m pc ls (.float x :: .int i :: .null :: rest)) rfl (rest := rest) rfl (by rw [hb]; exact hdg) t st, q⟩
theorem vx_dastoreN (hexec : p.tables.exec = Jvm.exec) (hb : c.code = cc) {x : UInt64} {i : Int32} (hdg : decode cc pc = .ok (.dastore, 1)) (k : vx_NoteN p l e R s m args below meth c H locs cells slots Q (F0 m pc ls rest)) : W p l e R s m args below meth c H locs cells slots Q (F0 m pc ls (.double x :: .int i :: .null :: rest)) := by
  intro T hT X
  obtain ⟨t, st, q⟩ := k T hT X
  exact ⟨t, X.dastoreNull hexec (g := F0 m pc ls (.double x :: .int i :: .null :: rest)) rfl (rest := rest) rfl (by rw [hb]; exact hdg) t st, q⟩
theorem vx_bastoreN (hexec : p.tables.exec = Jvm.exec) (hb : c.code = cc) {x : Int32} {i : Int32} (hdg : decode cc pc = .ok (.bastore, 1)) (k : vx_NoteN p l e R s m args below meth c H locs cells slots Q (F0 m pc ls rest)) : W p l e R s m args below meth c H locs cells slots Q (F0 m pc ls (.int x :: .int i :: .null :: rest)) := by
  intro T hT X
  obtain ⟨t, st, q⟩ := k T hT X
  exact ⟨t, X.bastoreNull hexec (g := F0 m pc ls (.int x :: .int i :: .null :: rest)) rfl (rest := rest) rfl (by rw [hb]; exact hdg) t st, q⟩
theorem vx_castoreN (hexec : p.tables.exec = Jvm.exec) (hb : c.code = cc) {x : Int32} {i : Int32} (hdg : decode cc pc = .ok (.castore, 1)) (k : vx_NoteN p l e R s m args below meth c H locs cells slots Q (F0 m pc ls rest)) : W p l e R s m args below meth c H locs cells slots Q (F0 m pc ls (.int x :: .int i :: .null :: rest)) := by
  intro T hT X
  obtain ⟨t, st, q⟩ := k T hT X
  exact ⟨t, X.castoreNull hexec (g := F0 m pc ls (.int x :: .int i :: .null :: rest)) rfl (rest := rest) rfl (by rw [hb]; exact hdg) t st, q⟩
theorem vx_sastoreN (hexec : p.tables.exec = Jvm.exec) (hb : c.code = cc) {x : Int32} {i : Int32} (hdg : decode cc pc = .ok (.sastore, 1)) (k : vx_NoteN p l e R s m args below meth c H locs cells slots Q (F0 m pc ls rest)) : W p l e R s m args below meth c H locs cells slots Q (F0 m pc ls (.int x :: .int i :: .null :: rest)) := by
  intro T hT X
  obtain ⟨t, st, q⟩ := k T hT X
  exact ⟨t, X.sastoreNull hexec (g := F0 m pc ls (.int x :: .int i :: .null :: rest)) rfl (rest := rest) rfl (by rw [hb]; exact hdg) t st, q⟩
theorem vx_invokeN {own C : String} {index maxL : Nat} {y : MethodName} {bytes : ByteArray} {ret : Option FieldType} (hexec : p.tables.exec = Jvm.exec) (hb : c.code = cc) (hown : s.vm.findClass own = some m.cls) (hlink : (Cond.methodLink own index y).before args s = true) (hinst : (Cond.instanceMethod y).before args s = true) (hcode : (Cond.code y bytes maxL ret).before args s = true) (hsel : (Cond.selects C y y).before args s = true)
    (hx : y.cls ≠ "java/lang/invoke/MethodHandle" ∧ y.cls ≠ "java/lang/invoke/VarHandle") {As : List Value} (hlen : (parseMethodDescriptor y.desc).map (fun d => d.parameters.length) = some As.length) (hdg : decode cc pc = .ok (.invokevirtual index, 3))
    (k : vx_NoteN p l e R s m args below meth c H locs cells slots Q (F0 m pc ls rest)) {st0 : List Value} (hst : st0 = As.reverse ++ .null :: rest) : W p l e R s m args below meth c H locs cells slots Q (F0 m pc ls st0) := by
  intro T hT X
  obtain ⟨r0, r, hn, hrm, hstR, hsigR⟩ := va_Decl.of hinst hcode
  obtain ⟨c2, r2, m2, q1, q2, q3, q4, kP, hkP, hkPi⟩ := Cond.selects_spec hsel
  cases hn.symm.trans q3
  have hl9 : As.length = r.sig.parameters.length := by
    rw [hsigR] at hlen
    exact (Option.some.inj hlen).symm
  obtain ⟨vm', X1, st1⟩ := X.invokevirtualNull hexec hown hlink hn hrm hstR hkP hkPi hx (g := F0 m pc ls st0) rfl (argsL := As) (rest := rest) hl9 hst (by rw [hb]; exact hdg)
  obtain ⟨t, st, q⟩ := k (T.setVm vm') hT X1
  exact ⟨t, st1 t st, q⟩
theorem vx_newarrayZ {atype : ArrayType} (hexec : p.tables.exec = Jvm.exec) (hb : c.code = cc) {n : Int32} (h0 : n < 0) (hdg : decode cc pc = .ok (.newarray atype, 2)) (k : ∀ tx : String, tx = toString n → vx_Note p l e R s m args below meth c H locs cells slots Q (F0 m pc ls rest) "java/lang/NegativeArraySizeException" tx) : W p l e R s m args below meth c H locs cells slots Q (F0 m pc ls (.int n :: rest)) := by
  intro T hT X
  obtain ⟨t, st, q⟩ := k _ rfl T hT X
  exact ⟨t, X.newarrayNegative hexec (g := F0 m pc ls (.int n :: rest)) rfl h0 (rest := rest) rfl (by rw [hb]; exact hdg) t st, q⟩
end
end VXM
/-! ===== END ===== -/
/-! ===== BEGIN an exception as an object: made, kept, thrown later (no traces kept) ===== -/
section VXK
variable {p : Program} {l : Launch} {e : Env} {R : Room} {s : State} {m₀ : MethodId} {args : Array Value} {below : List Frame} {meth : Method} {c : Code} {W : State} {locs : List Loc} {cells slots : Nat}
set_option maxHeartbeats 1000000 in
theorem vx_ctorMadeS (X : Stand p l e R s m₀ args below meth c W locs cells slots) (hexec : p.tables.exec = Jvm.exec) (htr : e.platform.stackTraces = false) {own cls : String} {names : List String} {ic : Nat}
    (hown : s.vm.findClass own = some m₀.cls) (hcls : Bundle.fit cls = true) (hnames : ∀ n ∈ names, Bundle.fit n = true)
    (h : ∀ a ∈ Bundle.ownAtoms own ic cls names, a.before args s = true)
    (hlocs : ∀ x ∈ locs, ∀ cell, s.heap[x.base]? = some cell → cell.vm.isStatics = false)
    {a : Addr} {cX : ClassId} {kX : Class} (hfoundX : s.vm.findClass cls = some cX) (hkX : s.vm.classes[cX]? = some kX) (hcell : W.heap[a]? = some (freshCell cX kX)) (hnew : s.heap.size ≤ a)
    {msg : Value} (hmsg : msg.isRef = true)
    {g : JFrame} (hg : g.method = m₀) (hsize : g.locals.size = c.maxLocals) {rest : List Value} (hstack : g.stack = msg :: .ref a :: .ref a :: rest)
    (hd6 : decode c.code g.pc = .ok (.invokespecial ic, 3))
    (hRframes : names.length + 3 < R.frames) (hRlocals : 2 * g.monitorRoom + ((Value.ref a :: rest).map fun v => v.category).sum + (13 * (names.length + 1) + 42) ≤ R.locals) :
    ∃ (V : State) (ce : Cell) (L : List Loc), Stand p l e R s m₀ args below meth c (V.setCell a ce) (locs ++ L) cells slots ∧ (∀ y ∈ L, y.base = a) ∧ a < V.heap.size ∧ ce.cls = cX ∧ ce.vm = .none ∧
      ∀ target, Steps p.tables e below ((V.setCell a ce).setTop { g with stack := .ref a :: rest, pc := g.pc + 3 }) target → Steps p.tables e below (W.setTop g) target := by
  have howns : e.platform.frameOwnsMonitors = true := by rw [X.admits.platform]
  have hfin : e.platform.finalization = false := by rw [X.admits.platform]
  have hpl : e.platform.magicAccessors = ({} : Platform).magicAccessors := by rw [X.admits.platform]
  have a' : ∀ x, x ∈ Bundle.ownAtoms own ic cls names → x.holds args s none s [] = true := fun x hx => h x hx
  obtain ⟨T, Z0, L, -, Y⟩ := ThrowableC.of_atoms (args := args) howns hfin hpl (fun x hx => h x (by simp [Bundle.ownAtoms, hx]))
  obtain ⟨Z, M, LZ, LM, hnZ⟩ := Init0T.ofS_atoms (args := args) hpl L Y (fun x hx => h x (by simp [Bundle.ownAtoms, hx]))
  obtain ⟨P1, Ps, hlen, L1, hL, hP1m, hlink1, hlink⟩ := Bundle.chainS (args := args) hpl hnZ names cls hcls hnames (fun x hx => h x (by simp [Bundle.ownAtoms, hx]))
  have hfound : s.vm.findClass cls = some P1.m.cls := findClass_of_methodNamed hP1m
  cases Option.some.inj (hfoundX.symm.trans hfound)
  obtain ⟨c1, kX', hc1, hk, hord, -, -, hn6⟩ := Cond.instantiable_spec (a' (.instantiable cls 6) (by simp [Bundle.ownAtoms]))
  cases Option.some.inj (hc1.symm.trans hfound)
  cases Option.some.inj (hkX.symm.trans hk)
  have hsel0 : selectMethod e.platform s.vm P1.m.cls T.fill0 = .method T.fill0 := by
    obtain ⟨c2, r2, m2, q1, q2, q3, q4, -⟩ := Cond.selects_spec (a' (.selects cls Bundle.tFill0 Bundle.tFill0) (by simp [Bundle.ownAtoms]))
    cases Option.some.inj (q1.symm.trans hfound)
    cases Option.some.inj (q2.symm.trans (State.methodFound?_of_named Y.fill0 (by decide)))
    cases Option.some.inj (q3.symm.trans Y.fill0)
    rw [Launch.admits_selectMethod X.admits]; exact q4
  have hselF : selectMethod e.platform s.vm P1.m.cls T.fill = .method T.fill := by
    obtain ⟨c2, r2, m2, q1, q2, q3, q4, -⟩ := Cond.selects_spec (a' (.selects cls Bundle.tFill Bundle.tFill) (by simp [Bundle.ownAtoms]))
    cases Option.some.inj (q1.symm.trans hfound)
    cases Option.some.inj (q2.symm.trans (State.methodFound?_of_named Y.fill (by decide)))
    cases Option.some.inj (q3.symm.trans Y.fill)
    rw [Launch.admits_selectMethod X.admits]; exact q4
  obtain ⟨cellS0, hcS0, hiss⟩ := Y.statics
  obtain ⟨u0, hu0⟩ := Cond.staticRefV Y.unassigned L.unassignedStatic L.statics hcS0 hiss (a' (.isRef (.static Bundle.tN "UNASSIGNED_STACK" Bundle.steD)) (by simp [Bundle.ownAtoms]))
  obtain ⟨sen, hsen⟩ := Cond.staticRefV Y.sentinel L.sentinelStatic L.statics hcS0 hiss (a' (.isRef (.static Bundle.tN "SUPPRESSED_SENTINEL" Bundle.listD)) (by simp [Bundle.ownAtoms]))
  obtain ⟨ci198, i198, fB, hk198, hg198, ha198, hsB, -, hnB, htB, hffB⟩ := Cond.ownField (t := .object "java/lang/Object") Y.found L.cls (by decide +kernel) (a' (.fieldLink Bundle.tN 198 Bundle.tN "backtrace" "Ljava/lang/Object;") (by simp [Bundle.ownAtoms])) (a' (.lays Bundle.tN Bundle.tN "backtrace" "Ljava/lang/Object;") (by simp [Bundle.ownAtoms])) e.platform hpl
  obtain ⟨cellS, hcS', heS, -, hkeep⟩ := X.same.2.2.2.2.2 T.aS cellS0 hcS0
  have hcellS : W.heap[T.aS]? = some cellS := hcS'
  have hout' : ∀ i, (⟨T.aS, i⟩ : Loc) ∉ locs := fun i hmem => by
    have := hlocs _ hmem cellS0 hcS0
    rw [hiss] at this; cases this
  have hknownS : cellS.vm ≠ .unknown := by
    rw [heS]; intro hu
    rw [show cellS0.vm = .unknown from hu] at hiss
    cases hiss
  have hneS : T.aS ≠ a := Nat.ne_of_lt (Nat.lt_of_lt_of_le (Array.getElem?_eq_some_iff.mp hcS0).1 hnew)
  obtain ⟨iM, hffM⟩ := Y.msg
  obtain ⟨tyC, dC, hdC, hdnC⟩ := Cond.laysAt hfound hk Y.cause (a' (.lays cls Bundle.tN "cause" "Ljava/lang/Throwable;") (by simp [Bundle.ownAtoms]))
  obtain ⟨tyS, dS, hdS, hdnS⟩ := Cond.laysAt hfound hk Y.stack (a' (.lays cls Bundle.tN "stackTrace" Bundle.steD) (by simp [Bundle.ownAtoms]))
  obtain ⟨tyP, dP, hdP, hdnP⟩ := Cond.laysAt hfound hk Y.supp (a' (.lays cls Bundle.tN "suppressedExceptions" Bundle.listD) (by simp [Bundle.ownAtoms]))
  obtain ⟨tyM, dM, hdM, hdnM⟩ := Cond.laysAt hfound hk hffM (a' (.lays cls Bundle.tN "detailMessage" "Ljava/lang/String;") (by simp [Bundle.ownAtoms]))
  obtain ⟨tyB, dB, hdB, hdnB⟩ := Cond.laysAt hfound hk hffB (a' (.lays cls Bundle.tN "backtrace" "Ljava/lang/Object;") (by simp [Bundle.ownAtoms]))
  have bC := Cond.laysApart hdB hdC hdnB hdnC (by rw [hnB, Y.causeName]; decide)
  have bS := Cond.laysApart hdB hdS hdnB hdnS (by rw [hnB, Y.stackName]; decide)
  have bP := Cond.laysApart hdB hdP hdnB hdnP (by rw [hnB, Y.suppName]; decide)
  have hskip : SkipFacts T e.platform s (fun u => u) u0 ((preparedCellV T.toThrowableT (freshCell P1.m.cls kX) a u0 sen).withEntry W.cur) :=
    ⟨{ ci198 := ci198, i198 := i198, fBack := fB }, ⟨hk198, hg198, ha198, hsB⟩, by
      have := fresh_default (c := P1.m.cls) tyB
      rw [htB] at this
      simpa [preparedCellV, Cell.setSlot, Cell.withEntry, Array.getElem?_setIfInBounds, bC, bS, bP, bC.symm, bS.symm, bP.symm, defaultValue] using this, fun _ _ => rfl⟩
  obtain ⟨tm, methC, cdC, kC, vm₁, hnC, -, -, -, -, -, -, -, hW₁, st1⟩ := Steps.initColdS (tb := p.tables) (e := e) (below := below) (s := s) (U := W) X.here hexec X.warmed hpl hown (t := Bundle.initS cls) rfl rfl (Bundle.fit_spec hcls).2
    (a' (.methodLink own ic (Bundle.initS cls)) (by simp [Bundle.ownAtoms])) (h (.instanceMethod (Bundle.initS cls)) (by cases names <;> simp [Bundle.ownAtoms, Bundle.chainSAtoms, Bundle.passSAtoms])) (bytes := Bundle.six) (maxL := 2) (h (.code (Bundle.initS cls) Bundle.six 2 none) (by cases names <;> simp [Bundle.ownAtoms, Bundle.chainSAtoms, Bundle.passSAtoms]))
    (f := g) hg (a := a) (msg := msg) (rest := .ref a :: rest) hstack hd6
  cases Option.some.inj (hnC.symm.trans hP1m)
  have X₁ := X.noted hW₁
  obtain ⟨vm₂, X₂, st2⟩ := X₁.ctorMessageOffV hexec (g := { g with stack := .ref a :: rest }) hg hsize T L Z LZ M LM (P1 :: Ps)
    (fun P hP => by rcases List.mem_cons.mp hP with rfl | hP; exact L1; exact hL P hP) ⟨hlink1, hlink⟩ (u0 := u0) (sen := sen) (self := a) hmsg (cell := freshCell P1.m.cls kX) (cellS := cellS)
    hcell (fun _ => by simp) (by simp) rfl rfl hsel0 hselF hcellS hneS hknownS (by rw [hkeep _ (hout' _)]; exact hu0) (by rw [hkeep _ (hout' _)]; exact hsen)
    (Takes.of_laid hk hord tyC (by rw [Y.causeType]; rfl)) (Takes.of_laid hk hord tyS (by rw [Y.stackType]; exact fits_refV_array _ u0)) (Takes.of_laid hk hord tyP (by rw [Y.suppType]; exact fits_refV_object _ sen))
    (Takes.of_laid hk hord tyM (by rw [Y.msgType]; exact fits_refV_object _ ⟨msg, hmsg⟩)) Y.objLocals hskip htr [] hd6
    (by simp only [List.length_cons, hlen]; omega) (by simp only [List.length_cons, hlen]; exact hRlocals)
  have hlt : a < ((W.setVm vm₁).setVm vm₂).heap.size := (Array.getElem?_eq_some_iff.mp hcell).1
  refine ⟨(W.setVm vm₁).setVm vm₂, _, _, X₂, fun y hy => ?_, hlt, rfl, rfl, fun target hwalk => st1 _ (fun acts => ?_)⟩
  · simp only [List.mem_cons, List.not_mem_nil, or_false] at hy
    rcases hy with rfl | rfl | rfl | rfl | rfl <;> rfl
  · rw [doInvoke_state]
    exact st2 _ hwalk
set_option maxHeartbeats 1000000 in
theorem vx_ctorMade0 (X : Stand p l e R s m₀ args below meth c W locs cells slots) (hexec : p.tables.exec = Jvm.exec) (htr : e.platform.stackTraces = false) {own cls : String} {names : List String} {ic : Nat}
    (hown : s.vm.findClass own = some m₀.cls) (hcls : Bundle.fit cls = true) (hnames : ∀ n ∈ names, Bundle.fit n = true)
    (h : ∀ a ∈ Bundle.ownAtoms0 own ic cls names, a.before args s = true)
    (hlocs : ∀ x ∈ locs, ∀ cell, s.heap[x.base]? = some cell → cell.vm.isStatics = false)
    {a : Addr} {cX : ClassId} {kX : Class} (hfoundX : s.vm.findClass cls = some cX) (hkX : s.vm.classes[cX]? = some kX) (hcell : W.heap[a]? = some (freshCell cX kX)) (hnew : s.heap.size ≤ a)
    {g : JFrame} (hg : g.method = m₀) (hsize : g.locals.size = c.maxLocals) {rest : List Value} (hstack : g.stack = .ref a :: .ref a :: rest)
    (hd6 : decode c.code g.pc = .ok (.invokespecial ic, 3))
    (hRframes : names.length + 3 < R.frames) (hRlocals : 2 * g.monitorRoom + ((Value.ref a :: rest).map fun v => v.category).sum + (13 * (names.length + 1) + 41) ≤ R.locals) :
    ∃ (V : State) (ce : Cell) (L : List Loc), Stand p l e R s m₀ args below meth c (V.setCell a ce) (locs ++ L) cells slots ∧ (∀ y ∈ L, y.base = a) ∧ a < V.heap.size ∧ ce.cls = cX ∧ ce.vm = .none ∧
      ∀ target, Steps p.tables e below ((V.setCell a ce).setTop { g with stack := .ref a :: rest, pc := g.pc + 3 }) target → Steps p.tables e below (W.setTop g) target := by
  have howns : e.platform.frameOwnsMonitors = true := by rw [X.admits.platform]
  have hfin : e.platform.finalization = false := by rw [X.admits.platform]
  have hpl : e.platform.magicAccessors = ({} : Platform).magicAccessors := by rw [X.admits.platform]
  have a' : ∀ x, x ∈ Bundle.ownAtoms0 own ic cls names → x.holds args s none s [] = true := fun x hx => h x hx
  obtain ⟨T, Z, L, LZ, Y⟩ := ThrowableC.of_atoms (args := args) howns hfin hpl (fun x hx => h x (by simp [Bundle.ownAtoms0, hx]))
  obtain ⟨P1, Ps, hlen, L1, hL, hP1m, hlink1, hlink⟩ := Bundle.chain0 (args := args) hpl Y.init0 names cls hcls hnames (fun x hx => h x (by simp [Bundle.ownAtoms0, hx]))
  have hfound : s.vm.findClass cls = some P1.m.cls := findClass_of_methodNamed hP1m
  cases Option.some.inj (hfoundX.symm.trans hfound)
  obtain ⟨c1, kX', hc1, hk, hord, -, -, hn6⟩ := Cond.instantiable_spec (a' (.instantiable cls 6) (by simp [Bundle.ownAtoms0]))
  cases Option.some.inj (hc1.symm.trans hfound)
  cases Option.some.inj (hkX.symm.trans hk)
  have hsel0 : selectMethod e.platform s.vm P1.m.cls T.fill0 = .method T.fill0 := by
    obtain ⟨c2, r2, m2, q1, q2, q3, q4, -⟩ := Cond.selects_spec (a' (.selects cls Bundle.tFill0 Bundle.tFill0) (by simp [Bundle.ownAtoms0]))
    cases Option.some.inj (q1.symm.trans hfound)
    cases Option.some.inj (q2.symm.trans (State.methodFound?_of_named Y.fill0 (by decide)))
    cases Option.some.inj (q3.symm.trans Y.fill0)
    rw [Launch.admits_selectMethod X.admits]; exact q4
  have hselF : selectMethod e.platform s.vm P1.m.cls T.fill = .method T.fill := by
    obtain ⟨c2, r2, m2, q1, q2, q3, q4, -⟩ := Cond.selects_spec (a' (.selects cls Bundle.tFill Bundle.tFill) (by simp [Bundle.ownAtoms0]))
    cases Option.some.inj (q1.symm.trans hfound)
    cases Option.some.inj (q2.symm.trans (State.methodFound?_of_named Y.fill (by decide)))
    cases Option.some.inj (q3.symm.trans Y.fill)
    rw [Launch.admits_selectMethod X.admits]; exact q4
  obtain ⟨cellS0, hcS0, hiss⟩ := Y.statics
  obtain ⟨u0, hu0⟩ := Cond.staticRefV Y.unassigned L.unassignedStatic L.statics hcS0 hiss (a' (.isRef (.static Bundle.tN "UNASSIGNED_STACK" Bundle.steD)) (by simp [Bundle.ownAtoms0]))
  obtain ⟨sen, hsen⟩ := Cond.staticRefV Y.sentinel L.sentinelStatic L.statics hcS0 hiss (a' (.isRef (.static Bundle.tN "SUPPRESSED_SENTINEL" Bundle.listD)) (by simp [Bundle.ownAtoms0]))
  obtain ⟨ci198, i198, fB, hk198, hg198, ha198, hsB, -, hnB, htB, hffB⟩ := Cond.ownField (t := .object "java/lang/Object") Y.found L.cls (by decide +kernel) (a' (.fieldLink Bundle.tN 198 Bundle.tN "backtrace" "Ljava/lang/Object;") (by simp [Bundle.ownAtoms0])) (a' (.lays Bundle.tN Bundle.tN "backtrace" "Ljava/lang/Object;") (by simp [Bundle.ownAtoms0])) e.platform hpl
  obtain ⟨cellS, hcS', heS, -, hkeep⟩ := X.same.2.2.2.2.2 T.aS cellS0 hcS0
  have hcellS : W.heap[T.aS]? = some cellS := hcS'
  have hout' : ∀ i, (⟨T.aS, i⟩ : Loc) ∉ locs := fun i hmem => by
    have := hlocs _ hmem cellS0 hcS0
    rw [hiss] at this; cases this
  have hknownS : cellS.vm ≠ .unknown := by
    rw [heS]; intro hu
    rw [show cellS0.vm = .unknown from hu] at hiss
    cases hiss
  have hneS : T.aS ≠ a := Nat.ne_of_lt (Nat.lt_of_lt_of_le (Array.getElem?_eq_some_iff.mp hcS0).1 hnew)
  obtain ⟨iM, hffM⟩ := Y.msg
  obtain ⟨tyC, dC, hdC, hdnC⟩ := Cond.laysAt hfound hk Y.cause (a' (.lays cls Bundle.tN "cause" "Ljava/lang/Throwable;") (by simp [Bundle.ownAtoms0]))
  obtain ⟨tyS, dS, hdS, hdnS⟩ := Cond.laysAt hfound hk Y.stack (a' (.lays cls Bundle.tN "stackTrace" Bundle.steD) (by simp [Bundle.ownAtoms0]))
  obtain ⟨tyP, dP, hdP, hdnP⟩ := Cond.laysAt hfound hk Y.supp (a' (.lays cls Bundle.tN "suppressedExceptions" Bundle.listD) (by simp [Bundle.ownAtoms0]))
  obtain ⟨tyM, dM, hdM, hdnM⟩ := Cond.laysAt hfound hk hffM (a' (.lays cls Bundle.tN "detailMessage" "Ljava/lang/String;") (by simp [Bundle.ownAtoms0]))
  obtain ⟨tyB, dB, hdB, hdnB⟩ := Cond.laysAt hfound hk hffB (a' (.lays cls Bundle.tN "backtrace" "Ljava/lang/Object;") (by simp [Bundle.ownAtoms0]))
  have bC := Cond.laysApart hdB hdC hdnB hdnC (by rw [hnB, Y.causeName]; decide)
  have bS := Cond.laysApart hdB hdS hdnB hdnS (by rw [hnB, Y.stackName]; decide)
  have bP := Cond.laysApart hdB hdP hdnB hdnP (by rw [hnB, Y.suppName]; decide)
  have hskip : SkipFacts T e.platform s (fun u => u) u0 ((preparedCellV T.toThrowableT (freshCell P1.m.cls kX) a u0 sen).withEntry W.cur) :=
    ⟨{ ci198 := ci198, i198 := i198, fBack := fB }, ⟨hk198, hg198, ha198, hsB⟩, by
      have := fresh_default (c := P1.m.cls) tyB
      rw [htB] at this
      simpa [preparedCellV, Cell.setSlot, Cell.withEntry, Array.getElem?_setIfInBounds, bC, bS, bP, bC.symm, bS.symm, bP.symm, defaultValue] using this, fun _ _ => rfl⟩
  obtain ⟨tm, methC, cdC, kC, vm₁, hnC, -, -, -, -, -, -, -, hW₁, st1⟩ := Steps.initCold (tb := p.tables) (e := e) (below := below) (s := s) (U := W) X.here hexec X.warmed hpl hown (t := Bundle.init0 cls) rfl rfl (Bundle.fit_spec hcls).2
    (a' (.methodLink own ic (Bundle.init0 cls)) (by simp [Bundle.ownAtoms0])) (h (.instanceMethod (Bundle.init0 cls)) (by cases names <;> simp [Bundle.ownAtoms0, Bundle.chain0Atoms, Bundle.passAtoms])) (bytes := Bundle.five) (maxL := 1) (h (.code (Bundle.init0 cls) Bundle.five 1 none) (by cases names <;> simp [Bundle.ownAtoms0, Bundle.chain0Atoms, Bundle.passAtoms]))
    (f := g) hg (a := a) (rest := .ref a :: rest) hstack hd6
  cases Option.some.inj (hnC.symm.trans hP1m)
  have X₁ := X.noted hW₁
  obtain ⟨vm₂, X₂, st2⟩ := X₁.ctorPlainOffV hexec (g := { g with stack := .ref a :: rest }) hg hsize T L Z LZ (P1 :: Ps)
    (fun P hP => by rcases List.mem_cons.mp hP with rfl | hP; exact L1; exact hL P hP) ⟨hlink1, hlink⟩ (u0 := u0) (sen := sen) (self := a) (cell := freshCell P1.m.cls kX) (cellS := cellS)
    hcell (fun _ => by simp) (by simp) rfl rfl hsel0 hselF hcellS hneS hknownS (by rw [hkeep _ (hout' _)]; exact hu0) (by rw [hkeep _ (hout' _)]; exact hsen)
    (Takes.of_laid hk hord tyC (by rw [Y.causeType]; rfl)) (Takes.of_laid hk hord tyS (by rw [Y.stackType]; exact fits_refV_array _ u0)) (Takes.of_laid hk hord tyP (by rw [Y.suppType]; exact fits_refV_object _ sen)) Y.objLocals hskip htr [] hd6
    (by simp only [List.length_cons, hlen]; omega) (by simp only [List.length_cons, hlen]; exact hRlocals)
  have hlt : a < ((W.setVm vm₁).setVm vm₂).heap.size := (Array.getElem?_eq_some_iff.mp hcell).1
  refine ⟨(W.setVm vm₁).setVm vm₂, _, _, X₂, fun y hy => ?_, hlt, rfl, rfl, fun target hwalk => st1 _ (fun acts => ?_)⟩
  · simp only [List.mem_cons, List.not_mem_nil, or_false] at hy
    rcases hy with rfl | rfl | rfl | rfl <;> rfl
  · rw [doInvoke_state]
    exact st2 _ hwalk
end VXK
section VXK2
variable {p : Program} {l : Launch} {e : Env} {R : Room} {s : State} {m : MethodId} {args : Array Value} {below : List Frame} {meth : Method} {c : Code} {H : Heap} {locs : List Loc} {cells slots : Nat} {Q : State → Prop}
variable {ls : Array Slot} {rest : List Value} {D : va_G} {cl : List vw_C} {tys : List (ClassId × FieldType)} {ws : va_W}
/-- 'new E("text")' that isn't thrown at once: the object goes on the stack -/
theorem vx_makeS {cc : ByteArray} {pc : Nat} (hexec : p.tables.exec = Jvm.exec) (hb : c.code = cc) (hl : l.stackTraces = false) {own cls text : String} {names : List String} {ik is ic sa ci : Nat} {A : Nat → Prop} {T0 : u_T}
    (hown : s.vm.findClass own = some m.cls) (hcls : Bundle.fit cls = true) (hnames : ∀ n ∈ names, Bundle.fit n = true)
    (hk : (Cond.classLink own ik cls).before args s = true) (hini : (Cond.initialized cls).before args s = true) (hstr : vk_R own is text sa s) (hat : ∀ w ∈ vx_atS own ic cls names, w.before args s = true)
    (hgood : ∀ w ∈ Cond.classLink own ik cls :: Cond.initialized cls :: vx_atS own ic cls names, vx_ot w = true)
    (hU : vx_Zq Bundle.tN "UNASSIGNED_STACK" Bundle.steD A s s.heap) (hN : vx_Zq Bundle.tN "SUPPRESSED_SENTINEL" Bundle.listD A s s.heap) (hS : va_S A s.heap H locs) (hsize : ls.size = c.maxLocals)
    (d0 : decode cc pc = .ok (.new ik, 3)) (d3 : decode cc (pc + 3) = .ok (.dup, 1)) (d4 : decode cc (pc + 4) = .ok (.ldc is, 2)) (d6 : decode cc (pc + 6) = .ok (.invokespecial ic, 3))
    (hK : va_K D cl tys s) (hP : va_P D cl ws H) (hD : va_D A ws) (hA : ∀ q, s.heap.size ≤ q → A q) (hc : cl[ci]? = some (cls, T0, 0))
    (hRframes : names.length + 3 < R.frames) (hRlocals : (rest.map fun v => v.category).sum + (13 * (names.length + 1) + 43) ≤ R.locals) (hRcells : cells + 1 ≤ R.cells) (hRslots : slots + 6 ≤ R.slots)
    (kk : ∀ (q : Nat) (H1 : Heap), va_P D cl (ws ++ [(q, .inr (ci, []))]) H1 → va_D A (ws ++ [(q, .inr (ci, []))]) → va_S A s.heap H1 locs → W p l e R s m args below meth c H1 locs (cells + 1) (slots + 6) Q (F0 m (pc + 9) ls (.ref q :: rest))) :
    W p l e R s m args below meth c H locs cells slots Q (F0 m pc ls rest) := by
  intro T hT X
  subst hT
  have htr : e.platform.stackTraces = false := (show e.platform.stackTraces = l.stackTraces by rw [X.admits.platform]).trans hl
  have Y := vx_rebase X (R' := { frames := R.frames, locals := R.locals, cells := 1, slots := 6 }) (Nat.le_refl _) (Nat.le_refl _) hRcells hRslots
  obtain ⟨s', hA'⟩ : ∃ z, z = (T.setVm s.vm).setFrames (.invoking m args :: below) := ⟨_, rfl⟩
  rw [← hA'] at Y
  have hvm : s'.vm = s.vm := by rw [hA']; rfl
  have hhp : s'.heap = T.heap := by rw [hA']; rfl
  have hW0 : s.WarmedH s'.vm := by rw [hvm]; exact State.WarmedH.refl s
  have hat' : ∀ w ∈ vx_atS own ic cls names, w.before args s' = true := fun w hw => vx_ot_at hW0 hvm.symm (hgood w (List.mem_cons_of_mem _ (List.mem_cons_of_mem _ hw))) (hat w hw)
  have hk' : (Cond.classLink own ik cls).before args s' = true := vx_ot_at hW0 hvm.symm (hgood _ List.mem_cons_self) hk
  have hini' : (Cond.initialized cls).before args s' = true := vx_ot_at hW0 hvm.symm (hgood _ (List.mem_cons_of_mem _ List.mem_cons_self)) hini
  have hU' : vx_Zq Bundle.tN "UNASSIGNED_STACK" Bundle.steD A s' s'.heap := by rw [hhp]; exact vx_Zq.moved hW0.alike (hU.kept hS.2.1)
  have hN' : vx_Zq Bundle.tN "SUPPRESSED_SENTINEL" Bundle.listD A s' s'.heap := by rw [hhp]; exact vx_Zq.moved hW0.alike (hN.kept hS.2.1)
  have h : ∀ w ∈ Bundle.ownAtoms own ic cls names, w.before args s' = true := vx_own hat' (vx_isRefq hU'.1) (vx_isRefq hN'.1) hU'.2.word hN'.2.word
  have hown' : s'.vm.findClass own = some m.cls := by rw [hvm]; exact hown
  have hins : (Cond.instantiable cls 6).before args s' = true := h _ (by simp [Bundle.ownAtoms])
  obtain ⟨vm₁, cX, kX, hfX, hkX, -, -, X₁, st1⟩ := Y.newCold hexec (own := own) (C := cls) (index := ik) (n := 6) hown' hk' hins hini'
    (g := F0 m pc ls rest) rfl (by rw [hb]; exact d0) (Nat.le_refl _) (Nat.le_refl _)
  generalize hT1 : (T.setVm vm₁).pushCell { cls := cX, slots := kX.instanceTypes.map defaultValue, vm := .none } = T1 at X₁ st1
  have hcat : (Value.ref T.heap.size).category = 1 := rfl
  have hcellA : T1.heap[T.heap.size]? = some (freshCell cX kX) := by rw [← hT1]; exact State.heap_pushCell_size _ _
  have d3' : decode c.code (pc + 3) = .ok (.dup, 1) := by rw [hb]; exact d3
  have d4' : decode c.code (pc + 4) = .ok (.ldc is, 2) := by rw [hb]; exact d4
  have hstr' : vk_R own is text sa s' := vk_R.warm hW0 hstr
  obtain ⟨V, ce, L, Z, hL, hlt, hcl9, hvm9, st⟩ := vx_ctorMadeS X₁ hexec htr (own := own) (cls := cls) (names := names) (ic := ic) hown' hcls hnames h (fun x hx => nomatch hx) hfX hkX hcellA (by rw [hhp]; exact Nat.le_refl _) (msg := .ref sa) rfl
    (g := { method := m, pc := pc + 6, locals := ls, stack := .ref sa :: .ref T.heap.size :: .ref T.heap.size :: rest, locked := none }) rfl hsize (rest := rest) rfl
    (by rw [hb]; exact d6) hRframes (by simp only [List.map_cons, List.sum_cons, hcat]; omega)
  have Z0 := Stand.forget (locs := []) Z (fun y hy => by rw [hL y hy, hhp]; exact Nat.le_refl _)
  obtain ⟨f1, f2⟩ := vx_frame Z0.same
  rw [hhp] at f1 f2
  have hcid : ce.cls = D.1 ci := by
    rw [hcl9]
    have h1 := (hK.1 ci _ hc).2.1
    rw [hvm] at hfX
    exact Option.some.inj (hfX.symm.trans h1)
  have hh : (V.setCell T.heap.size ce).heap[T.heap.size]? = some ce := heapAt_setCell_self (s := V) ce hlt
  subst hA'
  have X5 := vx_back9 X Y Z0
  have X6 : Stand p l e R s m args below meth c (V.setCell T.heap.size ce) locs (cells + 1) (slots + 6) := { X5 with same := X5.same.mono (by omega) (by omega) }
  have hk9 : ∀ (k : Nat) (x : Nat × va_E), ws[k]? = some x → (V.setCell T.heap.size ce).heap[x.1]? = T.heap[x.1]? := fun k x hx => f2 x.1 ((hP k x hx).lt) (fun z hz => nomatch hz)
  obtain ⟨t, a1, b1⟩ := kk T.heap.size (V.setCell T.heap.size ce).heap ((hP.kept hk9).app (fun k x hx => by
      have hz : k < 1 := (List.getElem?_eq_some_iff.mp hx).1
      rw [show k = 0 by omega] at hx
      cases hx
      exact ⟨_, hc, ce, hh, hcid, hvm9, fun k hk => absurd hk (Nat.not_lt_zero k)⟩)) (hD.push hP rfl (hA _ hS.1)) ⟨Nat.le_trans hS.1 f1, fun q h1 h2 => (f2 q (Nat.lt_of_lt_of_le h1 hS.1) (fun z hz => nomatch hz)).trans (hS.2.1 q h1 h2), hS.2.2⟩ _ rfl X6
  refine ⟨t, st1 _ ?_, b1⟩
  show Steps p.tables e below (T1.setTop { method := m, pc := pc + 3, locals := ls, stack := .ref T.heap.size :: rest, locked := none }) _
  jvm_step X₁.here [X₁.here.top, hexec, d3', Value.category]
  exact X₁.ldcString hexec (own := own) (text := text) (index := is) (a := sa) hown' hstr'.1 hstr'.2
    (g := { method := m, pc := pc + 4, locals := ls, stack := .ref T.heap.size :: .ref T.heap.size :: rest, locked := none }) rfl d4' _ (st _ a1)
/-- 'new E()' that isn't thrown at once: the object goes on the stack -/
theorem vx_make0 {cc : ByteArray} {pc : Nat} (hexec : p.tables.exec = Jvm.exec) (hb : c.code = cc) (hl : l.stackTraces = false) {own cls : String} {names : List String} {ik ic ci : Nat} {A : Nat → Prop} {T0 : u_T}
    (hown : s.vm.findClass own = some m.cls) (hcls : Bundle.fit cls = true) (hnames : ∀ n ∈ names, Bundle.fit n = true)
    (hk : (Cond.classLink own ik cls).before args s = true) (hini : (Cond.initialized cls).before args s = true) (hat : ∀ w ∈ vx_at0 own ic cls names, w.before args s = true)
    (hgood : ∀ w ∈ Cond.classLink own ik cls :: Cond.initialized cls :: vx_at0 own ic cls names, vx_ot w = true)
    (hU : vx_Zq Bundle.tN "UNASSIGNED_STACK" Bundle.steD A s s.heap) (hN : vx_Zq Bundle.tN "SUPPRESSED_SENTINEL" Bundle.listD A s s.heap) (hS : va_S A s.heap H locs) (hsize : ls.size = c.maxLocals)
    (d0 : decode cc pc = .ok (.new ik, 3)) (d3 : decode cc (pc + 3) = .ok (.dup, 1)) (d4 : decode cc (pc + 4) = .ok (.invokespecial ic, 3))
    (hK : va_K D cl tys s) (hP : va_P D cl ws H) (hD : va_D A ws) (hA : ∀ q, s.heap.size ≤ q → A q) (hc : cl[ci]? = some (cls, T0, 0))
    (hRframes : names.length + 3 < R.frames) (hRlocals : (rest.map fun v => v.category).sum + (13 * (names.length + 1) + 42) ≤ R.locals) (hRcells : cells + 1 ≤ R.cells) (hRslots : slots + 6 ≤ R.slots)
    (kk : ∀ (q : Nat) (H1 : Heap), va_P D cl (ws ++ [(q, .inr (ci, []))]) H1 → va_D A (ws ++ [(q, .inr (ci, []))]) → va_S A s.heap H1 locs → W p l e R s m args below meth c H1 locs (cells + 1) (slots + 6) Q (F0 m (pc + 7) ls (.ref q :: rest))) :
    W p l e R s m args below meth c H locs cells slots Q (F0 m pc ls rest) := by
  intro T hT X
  subst hT
  have htr : e.platform.stackTraces = false := (show e.platform.stackTraces = l.stackTraces by rw [X.admits.platform]).trans hl
  have Y := vx_rebase X (R' := { frames := R.frames, locals := R.locals, cells := 1, slots := 6 }) (Nat.le_refl _) (Nat.le_refl _) hRcells hRslots
  obtain ⟨s', hA'⟩ : ∃ z, z = (T.setVm s.vm).setFrames (.invoking m args :: below) := ⟨_, rfl⟩
  rw [← hA'] at Y
  have hvm : s'.vm = s.vm := by rw [hA']; rfl
  have hhp : s'.heap = T.heap := by rw [hA']; rfl
  have hW0 : s.WarmedH s'.vm := by rw [hvm]; exact State.WarmedH.refl s
  have hat' : ∀ w ∈ vx_at0 own ic cls names, w.before args s' = true := fun w hw => vx_ot_at hW0 hvm.symm (hgood w (List.mem_cons_of_mem _ (List.mem_cons_of_mem _ hw))) (hat w hw)
  have hk' : (Cond.classLink own ik cls).before args s' = true := vx_ot_at hW0 hvm.symm (hgood _ List.mem_cons_self) hk
  have hini' : (Cond.initialized cls).before args s' = true := vx_ot_at hW0 hvm.symm (hgood _ (List.mem_cons_of_mem _ List.mem_cons_self)) hini
  have hU' : vx_Zq Bundle.tN "UNASSIGNED_STACK" Bundle.steD A s' s'.heap := by rw [hhp]; exact vx_Zq.moved hW0.alike (hU.kept hS.2.1)
  have hN' : vx_Zq Bundle.tN "SUPPRESSED_SENTINEL" Bundle.listD A s' s'.heap := by rw [hhp]; exact vx_Zq.moved hW0.alike (hN.kept hS.2.1)
  have h : ∀ w ∈ Bundle.ownAtoms0 own ic cls names, w.before args s' = true := vx_own hat' (vx_isRefq hU'.1) (vx_isRefq hN'.1) hU'.2.word hN'.2.word
  have hown' : s'.vm.findClass own = some m.cls := by rw [hvm]; exact hown
  have hins : (Cond.instantiable cls 6).before args s' = true := h _ (by simp [Bundle.ownAtoms0])
  obtain ⟨vm₁, cX, kX, hfX, hkX, -, -, X₁, st1⟩ := Y.newCold hexec (own := own) (C := cls) (index := ik) (n := 6) hown' hk' hins hini'
    (g := F0 m pc ls rest) rfl (by rw [hb]; exact d0) (Nat.le_refl _) (Nat.le_refl _)
  generalize hT1 : (T.setVm vm₁).pushCell { cls := cX, slots := kX.instanceTypes.map defaultValue, vm := .none } = T1 at X₁ st1
  have hcat : (Value.ref T.heap.size).category = 1 := rfl
  have hcellA : T1.heap[T.heap.size]? = some (freshCell cX kX) := by rw [← hT1]; exact State.heap_pushCell_size _ _
  have d3' : decode c.code (pc + 3) = .ok (.dup, 1) := by rw [hb]; exact d3
  obtain ⟨V, ce, L, Z, hL, hlt, hcl9, hvm9, st⟩ := vx_ctorMade0 X₁ hexec htr (own := own) (cls := cls) (names := names) (ic := ic) hown' hcls hnames h (fun x hx => nomatch hx) hfX hkX hcellA (by rw [hhp]; exact Nat.le_refl _)
    (g := { method := m, pc := pc + 4, locals := ls, stack := .ref T.heap.size :: .ref T.heap.size :: rest, locked := none }) rfl hsize (rest := rest) rfl
    (by rw [hb]; exact d4) hRframes (by simp only [List.map_cons, List.sum_cons, hcat]; omega)
  have Z0 := Stand.forget (locs := []) Z (fun y hy => by rw [hL y hy, hhp]; exact Nat.le_refl _)
  obtain ⟨f1, f2⟩ := vx_frame Z0.same
  rw [hhp] at f1 f2
  have hcid : ce.cls = D.1 ci := by
    rw [hcl9]
    have h1 := (hK.1 ci _ hc).2.1
    rw [hvm] at hfX
    exact Option.some.inj (hfX.symm.trans h1)
  have hh : (V.setCell T.heap.size ce).heap[T.heap.size]? = some ce := heapAt_setCell_self (s := V) ce hlt
  subst hA'
  have X5 := vx_back9 X Y Z0
  have X6 : Stand p l e R s m args below meth c (V.setCell T.heap.size ce) locs (cells + 1) (slots + 6) := { X5 with same := X5.same.mono (by omega) (by omega) }
  have hk9 : ∀ (k : Nat) (x : Nat × va_E), ws[k]? = some x → (V.setCell T.heap.size ce).heap[x.1]? = T.heap[x.1]? := fun k x hx => f2 x.1 ((hP k x hx).lt) (fun z hz => nomatch hz)
  obtain ⟨t, a1, b1⟩ := kk T.heap.size (V.setCell T.heap.size ce).heap ((hP.kept hk9).app (fun k x hx => by
      have hz : k < 1 := (List.getElem?_eq_some_iff.mp hx).1
      rw [show k = 0 by omega] at hx
      cases hx
      exact ⟨_, hc, ce, hh, hcid, hvm9, fun k hk => absurd hk (Nat.not_lt_zero k)⟩)) (hD.push hP rfl (hA _ hS.1)) ⟨Nat.le_trans hS.1 f1, fun q h1 h2 => (f2 q (Nat.lt_of_lt_of_le h1 hS.1) (fun z hz => nomatch hz)).trans (hS.2.1 q h1 h2), hS.2.2⟩ _ rfl X6
  refine ⟨t, st1 _ ?_, b1⟩
  show Steps p.tables e below (T1.setTop { method := m, pc := pc + 3, locals := ls, stack := .ref T.heap.size :: rest, locked := none }) _
  jvm_step X₁.here [X₁.here.top, hexec, d3', Value.category]
  exact st _ a1
/-- 'throw x' of an object that was made before -/
theorem vx_athrow {cc : ByteArray} {pc : Nat} (hexec : p.tables.exec = Jvm.exec) (hb : c.code = cc) {q : Addr} (hdg : decode cc pc = .ok (.athrow, 1)) (k : vx_W p l e R s m args below meth c H locs cells slots Q (F0 m pc ls rest) q) : W p l e R s m args below meth c H locs cells slots Q (F0 m pc ls (.ref q :: rest)) := by
  intro T hT X
  obtain ⟨t, st, hq⟩ := k T hT X
  refine ⟨t, ?_, hq⟩
  have hdg' : decode c.code pc = .ok (.athrow, 1) := by rw [hb]; exact hdg
  jvm_step X.here [X.here.top, hexec, hdg', athrow.wp_sem]
  exact st
end VXK2
/-! ===== END ===== -/
/-! ===== BEGIN a constructor that throws (launches without stack traces) ===== -/
section VXIA
variable {p : Program} {l : Launch} {e : Env} {R : Room} {s : State} {m : MethodId} {args : Array Value} {below : List Frame} {meth : Method} {c : Code} {T : State} {locs : List Loc} {cells slots : Nat}
theorem vx_callI (X : Stand p l e R s m args below meth c T locs cells slots) (hexec : p.tables.exec = Jvm.exec) {own : String} {index : Nat} {y : MethodName} {bytes : ByteArray} {maxL : Nat}
    (hown : s.vm.findClass own = some m.cls) (hy1 : y.name = "<init>") (hlink : (Cond.methodLink own index y).before args s = true) (hinst : (Cond.instanceMethod y).before args s = true)
    (hcode : (Cond.code y bytes maxL none).before args s = true) (hy : y.cls ≠ "java/lang/invoke/MethodHandle" ∧ y.cls ≠ "java/lang/invoke/VarHandle")
    {W9 : Nat} {Pre : Pt → Array Value → Prop} {Post : Pt → Array Value → Option Value → Pt → Prop} {PostX : Pt → Array Value → Addr → Pt → Prop} (hK : vx_Back l R p e below s args y 3 W9 Pre Post PostX)
    {g : JFrame} (hg : g.method = m) (hsize : g.locals.size = c.maxLocals) {a : Addr} {argsL rest : List Value} (hlen : ∀ sig, parseMethodDescriptor y.desc = some sig → argsL.length = sig.parameters.length)
    (hstack : g.stack = argsL.reverse ++ .ref a :: rest) (hW : 2 * g.monitorRoom + (rest.map fun v => v.category).sum ≤ W9) (hdg : decode c.code g.pc = .ok (.invokespecial index, 3))
    (hpre : ∀ vm₁, s.WarmedH vm₁ → Pre ⟨T.setVm vm₁, locs, cells, slots⟩ (Value.ref a :: argsL).toArray) :
    (∃ (v : Option Value) (vm₁ : Vm) (B : Pt), s.WarmedH vm₁ ∧ Stand p l e R s m args below meth c B.U B.locs B.cells B.slots ∧ Post ⟨T.setVm vm₁, locs, cells, slots⟩ (Value.ref a :: argsL).toArray v B ∧
      ∀ target, Steps p.tables e below (B.U.setTop { g with pc := g.pc + 3, stack := v.toList ++ rest }) target → Steps p.tables e below (T.setTop g) target) ∨
    (∃ (q : Addr) (vm₁ : Vm) (B : Pt), s.WarmedH vm₁ ∧ Stand p l e R s m args below meth c B.U B.locs B.cells B.slots ∧ PostX ⟨T.setVm vm₁, locs, cells, slots⟩ (Value.ref a :: argsL).toArray q B ∧
      Steps p.tables e below (T.setTop g) ((B.U.setTop { g with stack := rest }).pushFrame (.throwing q))) := by
  subst hg
  have hpl : e.platform.magicAccessors = ({} : Platform).magicAccessors := by rw [X.admits.platform]
  obtain ⟨mk, methM, cM, kP, vm₁, hnamed, hmethM, hcodeM, -, hlocalsM, -, hkP, -, hW₁, hstep₁⟩ := Steps.initColdArgs (e := e) X.here hexec X.warmed hpl hown hy1 hy hlink hinst hcode (f := g) rfl hlen hstack hdg
  have X₁ := X.noted hW₁
  rcases hK g.method meth c ⟨T.setVm vm₁, locs, cells, slots⟩ { g with stack := rest } (.invokespecial index) mk (Value.ref a :: argsL).toArray X₁ rfl hsize hdg hW (X₁.named hnamed) (hpre vm₁ X₁.warmed) with ⟨v, B, X', hpost, hsteps⟩ | ⟨q, B, X', hpost, hsteps⟩
  · exact Or.inl ⟨v, vm₁, B, X₁.warmed, X', hpost, fun target h => hstep₁ _ fun acts => by rw [doInvoke_state]; exact hsteps.trans h⟩
  · exact Or.inr ⟨q, vm₁, B, X₁.warmed, X', hpost, hstep₁ _ fun acts => by rw [doInvoke_state]; exact hsteps⟩
end VXIA
section VXIB
variable {p : Program} {l : Launch} {e : Env} {R : Room} {s : State} {m : MethodId} {args : Array Value} {below : List Frame} {meth : Method} {c : Code} {H : Heap} {locs : List Loc} {cells slots : Nat}
variable {y : MethodName} {bytes cc : ByteArray} {maxL nL mc ms n index : Nat} {ret : Option FieldType} {ws : List Cond} {rm : Room} {Pc : Array Value → State → Prop} {Qc : Array Value → State → Outcome → State → Prop} {XC : String → State → State → Prop} {free : Addr → Prop} {Ts : List Cond} {own C : String} {b : Addr} {As rest : List Value} {g : JFrame}
theorem vx_runI (S : CallFix p m c cc nL s args Ts own) (hM : vx_Met l y ws rm Pc Qc XC mc ms free) (cw : CallB R s args own index y bytes maxL none ws rm mc ms n ∧ y.name = "<init>" ∧ (Cond.instanceMethod y).before args s = true) (hp : PreS s H Pc (.ref b :: As))
    (hg : g.method = m) (hn : As.length = n) (hsize : g.locals.size = nL) (hstack : g.stack = As.reverse ++ .ref b :: rest) (hW : 2 * g.monitorRoom + (rest.map fun v => v.category).sum ≤ 8) (hdg : decode cc g.pc = .ok (.invokespecial index, 3)) (hf : cells + mc ≤ R.cells ∧ slots + ms ≤ R.slots) :
    vx_Run p l e R s m args below meth c H locs cells slots mc ms g rest (Qc (Value.ref b :: As).toArray) XC free := by
  have hK : vx_Back l R p e below s args y 3 8 (PreOf R mc ms Pc) (PostOf Qc mc ms free) (vx_Post XC mc ms free) := vx_callBack cw.1 hM hp.1
  obtain ⟨⟨-, -, -, -, -, -, hcode, -, hy, hlen, hl⟩, hy1, hin⟩ := cw
  obtain ⟨hx, hb, hml, ho, -⟩ := S
  have hPc := hp.2
  intro T hT X
  rcases vx_callI X hx (bytes := bytes) (maxL := maxL) ho hy1 hl hin hcode hy hK hg (hsize.trans hml.symm) (a := b) (argsL := As) (rest := rest) (fun sig h => hn.trans (hlen sig h)) hstack hW (by rw [hb]; exact hdg)
    (fun vm₁ hW₁ => ⟨hf.1, hf.2, hPc (T.setVm vm₁) hT hW₁⟩) with ⟨v, vm₁, ⟨U', l2, c2, s2⟩, hW₁, X', ⟨g', mk, t, L, e1, e2, hq, h1, hL, h2, h3⟩, st⟩ | ⟨q, vm₁, ⟨U', l2, c2, s2⟩, hW₁, X', ⟨g', mk, t, L, E, ce, e1, e2, hq, hce, hcv, hcl, h1, hL, h2, h3⟩, st⟩
  · dsimp only [Pt.U, Pt.locs, Pt.cells, Pt.slots] at X' e1 e2 h1 h2 h3 st
    subst h1; subst h2; subst h3
    exact Or.inl ⟨v, (T.setVm vm₁).calling g' mk (Value.ref b :: As).toArray, t, U', L, hT, X', hL, e1, e2, hq, st⟩
  · dsimp only [Pt.U, Pt.locs, Pt.cells, Pt.slots] at X' e1 e2 h1 h2 h3 st hcl
    subst h1; subst h2; subst h3
    exact Or.inr ⟨q, (T.setVm vm₁).calling g' mk (Value.ref b :: As).toArray, t, U', L, E, ce, hT, X', hL, e1, e2, hq, hce, hcv, vx_cls hW₁ hcl, st⟩
end VXIB
/-! ===== END ===== -/
/-! ===== BEGIN a private constructor of a nest mate that throws ===== -/
section VXIC
variable {p : Program} {l : Launch} {e : Env} {R : Room} {s : State} {m : MethodId} {args : Array Value} {below : List Frame} {meth : Method} {c : Code} {T : State} {locs : List Loc} {cells slots : Nat}
theorem vx_callIN (X : Stand p l e R s m args below meth c T locs cells slots) (hexec : p.tables.exec = Jvm.exec) {own : String} {index : Nat} {host : String} {y : MethodName} {bytes : ByteArray} {maxL : Nat}
    (hown : s.vm.findClass own = some m.cls) (hy1 : y.name = "<init>") (hlink : (Cond.methodLinkNest own index y host).before args s = true) (hinst : (Cond.instanceMethod y).before args s = true)
    (hcode : (Cond.code y bytes maxL none).before args s = true) (hy : y.cls ≠ "java/lang/invoke/MethodHandle" ∧ y.cls ≠ "java/lang/invoke/VarHandle")
    {W9 : Nat} {Pre : Pt → Array Value → Prop} {Post : Pt → Array Value → Option Value → Pt → Prop} {PostX : Pt → Array Value → Addr → Pt → Prop} (hK : vx_Back l R p e below s args y 3 W9 Pre Post PostX)
    {g : JFrame} (hg : g.method = m) (hsize : g.locals.size = c.maxLocals) {a : Addr} {argsL rest : List Value} (hlen : ∀ sig, parseMethodDescriptor y.desc = some sig → argsL.length = sig.parameters.length)
    (hstack : g.stack = argsL.reverse ++ .ref a :: rest) (hW : 2 * g.monitorRoom + (rest.map fun v => v.category).sum ≤ W9) (hdg : decode c.code g.pc = .ok (.invokespecial index, 3))
    (hpre : ∀ vm₁, s.WarmedH vm₁ → Pre ⟨T.setVm vm₁, locs, cells, slots⟩ (Value.ref a :: argsL).toArray) :
    (∃ (v : Option Value) (vm₁ : Vm) (B : Pt), s.WarmedH vm₁ ∧ Stand p l e R s m args below meth c B.U B.locs B.cells B.slots ∧ Post ⟨T.setVm vm₁, locs, cells, slots⟩ (Value.ref a :: argsL).toArray v B ∧
      ∀ target, Steps p.tables e below (B.U.setTop { g with pc := g.pc + 3, stack := v.toList ++ rest }) target → Steps p.tables e below (T.setTop g) target) ∨
    (∃ (q : Addr) (vm₁ : Vm) (B : Pt), s.WarmedH vm₁ ∧ Stand p l e R s m args below meth c B.U B.locs B.cells B.slots ∧ PostX ⟨T.setVm vm₁, locs, cells, slots⟩ (Value.ref a :: argsL).toArray q B ∧
      Steps p.tables e below (T.setTop g) ((B.U.setTop { g with stack := rest }).pushFrame (.throwing q))) := by
  subst hg
  have hpl : e.platform.magicAccessors = ({} : Platform).magicAccessors := by rw [X.admits.platform]
  obtain ⟨mk, methM, cM, kP, vm₁, hnamed, hmethM, hcodeM, -, hlocalsM, -, hkP, -, hW₁, hstep₁⟩ := Steps.initColdArgsNest (e := e) X.here hexec X.warmed hpl hown hy1 hy hlink hinst hcode (f := g) rfl hlen hstack hdg
  have X₁ := X.noted hW₁
  rcases hK g.method meth c ⟨T.setVm vm₁, locs, cells, slots⟩ { g with stack := rest } (.invokespecial index) mk (Value.ref a :: argsL).toArray X₁ rfl hsize hdg hW (X₁.named hnamed) (hpre vm₁ X₁.warmed) with ⟨v, B, X', hpost, hsteps⟩ | ⟨q, B, X', hpost, hsteps⟩
  · exact Or.inl ⟨v, vm₁, B, X₁.warmed, X', hpost, fun target h => hstep₁ _ fun acts => by rw [doInvoke_state]; exact hsteps.trans h⟩
  · exact Or.inr ⟨q, vm₁, B, X₁.warmed, X', hpost, hstep₁ _ fun acts => by rw [doInvoke_state]; exact hsteps⟩
end VXIC
section VXID
variable {p : Program} {l : Launch} {e : Env} {R : Room} {s : State} {m : MethodId} {args : Array Value} {below : List Frame} {meth : Method} {c : Code} {H : Heap} {locs : List Loc} {cells slots : Nat}
theorem vx_runIN {y : MethodName} {bytes cc : ByteArray} {maxL nL mc ms n index : Nat} {ws : List Cond} {rm : Room} {Pc : Array Value → State → Prop} {Qc : Array Value → State → Outcome → State → Prop} {XC : String → State → State → Prop} {free : Addr → Prop} {Ts : List Cond} {own host : String} {b : Addr} {As rest : List Value} {g : JFrame}
    (S : CallFix p m c cc nL s args Ts own) (hM : vx_Met l y ws rm Pc Qc XC mc ms free) (cw : va_CN R s args own index y host bytes maxL none ws rm mc ms n ∧ y.name = "<init>" ∧ (Cond.instanceMethod y).before args s = true) (hp : PreS s H Pc (.ref b :: As))
    (hg : g.method = m) (hn : As.length = n) (hsize : g.locals.size = nL) (hstack : g.stack = As.reverse ++ .ref b :: rest) (hW : 2 * g.monitorRoom + (rest.map fun v => v.category).sum ≤ 8) (hdg : decode cc g.pc = .ok (.invokespecial index, 3)) (hf : cells + mc ≤ R.cells ∧ slots + ms ≤ R.slots) :
    vx_Run p l e R s m args below meth c H locs cells slots mc ms g rest (Qc (Value.ref b :: As).toArray) XC free := by
  obtain ⟨⟨⟨hrc, hrs, hfr, hlo, hws, hcw⟩, hcode, hini, hy, hlen, hl⟩, hx1, hx2⟩ := cw
  have hK : vx_Back l R p e below s args y 3 8 (PreOf R mc ms Pc) (PostOf Qc mc ms free) (vx_Post XC mc ms free) := vx_back (bytes := bytes) (maxL := maxL) (ret := none) hM hp.1 hrc hrs hfr hlo hws hcw (fun a' U hW => word_at hW (Or.inl (by first | rfl | simp [Cond.onTables, Cond.keeps, Cond.steady])) hini)
  obtain ⟨hx, hb, hml, ho, -⟩ := S
  have hPc := hp.2
  intro T hT X
  rcases vx_callIN X hx (bytes := bytes) (maxL := maxL) ho hx1 hl hx2 hcode hy hK hg (hsize.trans hml.symm) (a := b) (argsL := As) (rest := rest) (fun sig h => hn.trans (hlen sig h)) hstack hW (by rw [hb]; exact hdg)
    (fun vm₁ hW₁ => ⟨hf.1, hf.2, hPc (T.setVm vm₁) hT hW₁⟩) with ⟨v, vm₁, ⟨U', l2, c2, s2⟩, hW₁, X', ⟨g', mk, t, L, e1, e2, hq, h1, hL, h2, h3⟩, st⟩ | ⟨q, vm₁, ⟨U', l2, c2, s2⟩, hW₁, X', ⟨g', mk, t, L, E, ce, e1, e2, hq, hce, hcv, hcl, h1, hL, h2, h3⟩, st⟩
  · dsimp only [Pt.U, Pt.locs, Pt.cells, Pt.slots] at X' e1 e2 h1 h2 h3 st
    subst h1; subst h2; subst h3
    exact Or.inl ⟨v, (T.setVm vm₁).calling g' mk (Value.ref b :: As).toArray, t, U', L, hT, X', hL, e1, e2, hq, st⟩
  · dsimp only [Pt.U, Pt.locs, Pt.cells, Pt.slots] at X' e1 e2 h1 h2 h3 st hcl
    subst h1; subst h2; subst h3
    exact Or.inr ⟨q, (T.setVm vm₁).calling g' mk (Value.ref b :: As).toArray, t, U', L, E, ce, hT, X', hL, e1, e2, hq, hce, hcv, vx_cls hW₁ hcl, st⟩
end VXID
/-! ===== END ===== -/
/-! ===== BEGIN a method of a class above, found by the receiver, that may throw (follows va_callVU, va_runU of this kit) ===== -/
section
variable {p : Program} {l : Launch} {e : Env} {R : Room} {s : State} {m : MethodId} {args : Array Value} {below : List Frame} {meth : Method} {c : Code} {H : Heap} {locs : List Loc} {cells slots : Nat}
theorem vx_callVU {T : State} {locs : List Loc} {cells slots : Nat} (X : Stand p l e R s m args below meth c T locs cells slots) (hexec : p.tables.exec = Jvm.exec) {own C owner : String} {index : Nat} {x y : MethodName} {bytes : ByteArray} {maxL : Nat} {ret : Option FieldType}
    (hown : s.vm.findClass own = some m.cls) (hlink : (Cond.methodLink own index x).before args s = true) (hsame : (Cond.sameMethod x.cls owner x.name x.desc).before args s = true)
    (hd0 : va_Decl s ⟨owner, x.name, x.desc⟩) (howner : owner ≠ "java/lang/invoke/MethodHandle" ∧ owner ≠ "java/lang/invoke/VarHandle")
    (hsel : (Cond.selects C x y).before args s = true) (hinst : (Cond.instanceMethod y).before args s = true) (hcode : (Cond.code y bytes maxL ret).before args s = true)
    {W : Nat} {Pre : Pt → Array Value → Prop} {Post : Pt → Array Value → Option Value → Pt → Prop} {PostX : Pt → Array Value → Addr → Pt → Prop} (hK : vx_Back l R p e below s args y 3 W Pre Post PostX)
    {b : Addr} {cellB : Cell} (hcell : T.heap[b]? = some cellB) (hobj : cellB.vm.isStatics = false) (hcls : s.vm.findClass C = some cellB.cls)
    {g : JFrame} (hg : g.method = m) (hsize : g.locals.size = c.maxLocals) {argsL rest : List Value} (hlen : ∀ sig, parseMethodDescriptor x.desc = some sig → argsL.length = sig.parameters.length)
    (hstack : g.stack = argsL.reverse ++ .ref b :: rest) (hW : 2 * g.monitorRoom + (rest.map fun v => v.category).sum ≤ W) (hdg : decode c.code g.pc = .ok (.invokevirtual index, 3))
    (hpre : ∀ vm₁, s.WarmedH vm₁ → Pre ⟨T.setVm vm₁, locs, cells, slots⟩ (Value.ref b :: argsL).toArray) :
    (∃ (v : Option Value) (vm₁ : Vm) (B : Pt), s.WarmedH vm₁ ∧ Stand p l e R s m args below meth c B.U B.locs B.cells B.slots ∧ Post ⟨T.setVm vm₁, locs, cells, slots⟩ (Value.ref b :: argsL).toArray v B ∧
      ∀ target, Steps p.tables e below (B.U.setTop { g with pc := g.pc + 3, stack := v.toList ++ rest }) target → Steps p.tables e below (T.setTop g) target) ∨
    (∃ (q : Addr) (vm₁ : Vm) (B : Pt), s.WarmedH vm₁ ∧ Stand p l e R s m args below meth c B.U B.locs B.cells B.slots ∧ PostX ⟨T.setVm vm₁, locs, cells, slots⟩ (Value.ref b :: argsL).toArray q B ∧
      Steps p.tables e below (T.setTop g) ((B.U.setTop { g with stack := rest }).pushFrame (.throwing q))) := by
  obtain ⟨r0, r, hn, hrm, hstR, hsigR⟩ := hd0
  obtain ⟨cn, ck, r1, hcn, hck, hni, hf, hn1⟩ := Cond.sameMethod_found hsame
  cases hn.symm.trans hn1
  obtain ⟨mk, methM, hnamed, hmethM, -, habM⟩ := Cond.instanceMethod_spec hinst
  obtain ⟨c2, r2, m2, q1, q2, q3, q4, kP, hkP, hkPi⟩ := Cond.selects_spec hsel
  cases hcls.symm.trans q1
  cases hf.symm.trans q2
  cases hnamed.symm.trans q3
  have hselP : selectMethod e.platform s.vm cellB.cls r0 = .method mk := by rw [Launch.admits_selectMethod X.admits]; exact q4
  obtain ⟨vm₁, X₁, hstep₁⟩ := X.invokevirtualUp hexec hown hlink hsame howner hn hrm hstR (a := b) (cell := cellB) hcell
    (fun z h => by rw [h] at hobj; cases hobj) hselP hmethM habM hkP hkPi (g := g) hg (argsL := argsL) (rest := rest) (hlen _ hsigR) hstack hdg
  rcases hK m meth c ⟨T.setVm vm₁, locs, cells, slots⟩ { g with stack := rest } (.invokevirtual index) mk (Value.ref b :: argsL).toArray X₁ hg hsize hdg hW (X₁.named hnamed) (hpre vm₁ X₁.warmed) with ⟨v, B, X', hpost, hsteps⟩ | ⟨q, B, X', hpost, hsteps⟩
  · exact Or.inl ⟨v, vm₁, B, X₁.warmed, X', hpost, fun target h => hstep₁ _ fun acts => by rw [doInvoke_state]; exact hsteps.trans h⟩
  · exact Or.inr ⟨q, vm₁, B, X₁.warmed, X', hpost, hstep₁ _ fun acts => by rw [doInvoke_state]; exact hsteps⟩
theorem vx_runU {x y : MethodName} {bytes cc : ByteArray} {maxL nL mc ms n index : Nat} {ret : Option FieldType} {ws : List Cond} {rm : Room} {Pc : Array Value → State → Prop} {Qc : Array Value → State → Outcome → State → Prop} {XC : String → State → State → Prop} {free : Addr → Prop} {Ts : List Cond} {own C owner : String} {b : Addr} {As rest : List Value} {g : JFrame}
    (S : CallFix p m c cc nL s args Ts own) (hM : vx_Met l y ws rm Pc Qc XC mc ms free) (cw : va_CU R s args own C owner index x y bytes maxL ret ws rm mc ms n) (hp : PreV s H C b Pc As)
    (hg : g.method = m) (hn : As.length = n) (hsize : g.locals.size = nL) (hstack : g.stack = As.reverse ++ .ref b :: rest) (hW : 2 * g.monitorRoom + (rest.map fun v => v.category).sum ≤ 8) (hdg : decode cc g.pc = .ok (.invokevirtual index, 3)) (hf : cells + mc ≤ R.cells ∧ slots + ms ≤ R.slots) :
    vx_Run p l e R s m args below meth c H locs cells slots mc ms g rest (Qc (Value.ref b :: As).toArray) XC free := by
  obtain ⟨hrc, hrs, hfr, hlo, hws, hcw⟩ := cw.back
  have hini := cw.init
  have hK : vx_Back l R p e below s args y 3 8 (PreOf R mc ms Pc) (PostOf Qc mc ms free) (vx_Post XC mc ms free) := vx_back (bytes := bytes) (maxL := maxL) (ret := ret) hM hp.1 hrc hrs hfr hlo hws hcw (fun a' U hW => word_at hW (Or.inl (by first | rfl | simp [Cond.onTables, Cond.keeps, Cond.steady])) hini)
  obtain ⟨hx, hb, hml, ho, -⟩ := S
  obtain ⟨-, ⟨cellB, hcB, hoB, hclB⟩, hPc⟩ := hp
  intro T hT X
  rcases vx_callVU X hx (C := C) (owner := owner) (bytes := bytes) (maxL := maxL) (ret := ret) ho cw.link cw.same cw.decl cw.notMH cw.sel cw.inst cw.code hK (by rw [hT]; exact hcB) hoB hclB hg (hsize.trans hml.symm) (argsL := As) (rest := rest) (fun sig h => hn.trans (cw.len sig h)) hstack hW (by rw [hb]; exact hdg)
    (fun vm₁ hW₁ => ⟨hf.1, hf.2, hPc (T.setVm vm₁) hT hW₁⟩) with ⟨v, vm₁, ⟨U', l2, c2, s2⟩, hW₁, X', ⟨g', mk, t, L, e1, e2, hq, h1, hL, h2, h3⟩, st⟩ | ⟨q, vm₁, ⟨U', l2, c2, s2⟩, hW₁, X', ⟨g', mk, t, L, E, ce, e1, e2, hq, hce, hcv, hcl, h1, hL, h2, h3⟩, st⟩
  · dsimp only [Pt.U, Pt.locs, Pt.cells, Pt.slots] at X' e1 e2 h1 h2 h3 st
    subst h1; subst h2; subst h3
    exact Or.inl ⟨v, (T.setVm vm₁).calling g' mk (Value.ref b :: As).toArray, t, U', L, hT, X', hL, e1, e2, hq, st⟩
  · dsimp only [Pt.U, Pt.locs, Pt.cells, Pt.slots] at X' e1 e2 h1 h2 h3 st hcl
    subst h1; subst h2; subst h3
    exact Or.inr ⟨q, (T.setVm vm₁).calling g' mk (Value.ref b :: As).toArray, t, U', L, E, ce, hT, X', hL, e1, e2, hq, hce, hcv, vx_cls hW₁ hcl, st⟩
end
/-! ===== END ===== -/
/-! ===== BEGIN super.m(..) that may throw (follows va_callSU, va_runSU) ===== -/
section
variable {p : Program} {l : Launch} {e : Env} {R : Room} {s : State} {m : MethodId} {args : Array Value} {below : List Frame} {meth : Method} {c : Code} {H : Heap} {locs : List Loc} {cells slots : Nat}
theorem vx_callSU {T : State} {locs : List Loc} {cells slots : Nat} (X : Stand p l e R s m args below meth c T locs cells slots) (hexec : p.tables.exec = Jvm.exec) {own : String} {index : Nat} {y : MethodName} {bytes : ByteArray} {maxL : Nat} {ret : Option FieldType}
    (hown : s.vm.findClass own = some m.cls) (hlink : (Cond.methodLink own index y).before args s = true) (hsame : (Cond.sameMethod y.cls y.cls y.name y.desc).before args s = true) (hsup : (Cond.superclass own y.cls).before args s = true)
    (hinst : (Cond.instanceMethod y).before args s = true) (hcode : (Cond.code y bytes maxL ret).before args s = true) (hno : y.name ≠ "<init>")
    {W : Nat} {Pre : Pt → Array Value → Prop} {Post : Pt → Array Value → Option Value → Pt → Prop} {PostX : Pt → Array Value → Addr → Pt → Prop} (hK : vx_Back l R p e below s args y 3 W Pre Post PostX)
    {b : Addr} {cellB : Cell} {kB : Class} (hcell : T.heap[b]? = some cellB) (hobj : cellB.vm.isStatics = false) (hkB : s.vm.classes[cellB.cls]? = some kB)
    {g : JFrame} (hg : g.method = m) (hsize : g.locals.size = c.maxLocals) {argsL rest : List Value} (hlen : ∀ sig, parseMethodDescriptor y.desc = some sig → argsL.length = sig.parameters.length)
    (hstack : g.stack = argsL.reverse ++ .ref b :: rest) (hW : 2 * g.monitorRoom + (rest.map fun v => v.category).sum ≤ W) (hdg : decode c.code g.pc = .ok (.invokespecial index, 3))
    (hpre : ∀ vm₁, s.WarmedH vm₁ → Pre ⟨T.setVm vm₁, locs, cells, slots⟩ (Value.ref b :: argsL).toArray) :
    (∃ (v : Option Value) (vm₁ : Vm) (B : Pt), s.WarmedH vm₁ ∧ Stand p l e R s m args below meth c B.U B.locs B.cells B.slots ∧ Post ⟨T.setVm vm₁, locs, cells, slots⟩ (Value.ref b :: argsL).toArray v B ∧
      ∀ target, Steps p.tables e below (B.U.setTop { g with pc := g.pc + 3, stack := v.toList ++ rest }) target → Steps p.tables e below (T.setTop g) target) ∨
    (∃ (q : Addr) (vm₁ : Vm) (B : Pt), s.WarmedH vm₁ ∧ Stand p l e R s m args below meth c B.U B.locs B.cells B.slots ∧ PostX ⟨T.setVm vm₁, locs, cells, slots⟩ (Value.ref b :: argsL).toArray q B ∧
      Steps p.tables e below (T.setTop g) ((B.U.setTop { g with stack := rest }).pushFrame (.throwing q))) := by
  obtain ⟨mk, methM, hnamed, hmethM, hstM, habM⟩ := Cond.instanceMethod_spec hinst
  obtain ⟨methM', cM, hmethM', -, -, -, -, -, -, hsigM⟩ := Cond.code_spec hnamed hcode
  cases hmethM.symm.trans hmethM'
  obtain ⟨ps, dk, kp, hps, hdk, hkp, hsuper, -, -, hnid⟩ := Cond.superclass_spec hown hsup
  have hn : s.methodNamed? ⟨y.cls, y.name, y.desc⟩ = some mk := hnamed
  have hpm : ps = mk.cls := Option.some.inj (hps.symm.trans (findClass_of_methodNamed hnamed))
  have hsub : s.vm.isSubclass ps mk.cls = true := by rw [hpm]; simp [Vm.isSubclass, Vm.isSubclassAux]
  obtain ⟨vm₁, X₁, hstep₁⟩ := X.invokespecialUp hexec hown hlink hsame hn hmethM hstM habM hno hdk hnid hps hsuper hsub (a := b) (cell := cellB) hcell
    (fun z h => by rw [h] at hobj; cases hobj) hkB (g := g) hg (argsL := argsL) (rest := rest) (hlen _ hsigM) hstack hdg
  rcases hK m meth c ⟨T.setVm vm₁, locs, cells, slots⟩ { g with stack := rest } (.invokespecial index) mk (Value.ref b :: argsL).toArray X₁ hg hsize hdg hW (X₁.named hnamed) (hpre vm₁ X₁.warmed) with ⟨v, B, X', hpost, hsteps⟩ | ⟨q, B, X', hpost, hsteps⟩
  · exact Or.inl ⟨v, vm₁, B, X₁.warmed, X', hpost, fun target h => hstep₁ _ (by rw [doInvoke_state]; exact hsteps.trans h)⟩
  · exact Or.inr ⟨q, vm₁, B, X₁.warmed, X', hpost, hstep₁ _ (by rw [doInvoke_state]; exact hsteps)⟩
theorem vx_runSU {y : MethodName} {bytes cc : ByteArray} {maxL nL mc ms n index : Nat} {ret : Option FieldType} {ws : List Cond} {rm : Room} {Pc : Array Value → State → Prop} {Qc : Array Value → State → Outcome → State → Prop} {XC : String → State → State → Prop} {free : Addr → Prop} {Ts : List Cond} {own C : String} {cC : ClassId} {b : Addr} {As rest : List Value} {g : JFrame}
    (hat : ClassAt s C cC) (S : CallFix p m c cc nL s args Ts own) (hM : vx_Met l y ws rm Pc Qc XC mc ms free) (cw : va_CS R s args own index y bytes maxL ret ws rm mc ms n) (hp : PreV s H C b Pc As)
    (hg : g.method = m) (hn : As.length = n) (hsize : g.locals.size = nL) (hstack : g.stack = As.reverse ++ .ref b :: rest) (hW : 2 * g.monitorRoom + (rest.map fun v => v.category).sum ≤ 8) (hdg : decode cc g.pc = .ok (.invokespecial index, 3)) (hf : cells + mc ≤ R.cells ∧ slots + ms ≤ R.slots) :
    vx_Run p l e R s m args below meth c H locs cells slots mc ms g rest (Qc (Value.ref b :: As).toArray) XC free := by
  obtain ⟨⟨hrc, hrs, hfr, hlo, hws, hcw⟩, hl1, hl2, hl3, hl4, hini, hcode, hno, hlen⟩ := cw
  have hK : vx_Back l R p e below s args y 3 8 (PreOf R mc ms Pc) (PostOf Qc mc ms free) (vx_Post XC mc ms free) := vx_back (bytes := bytes) (maxL := maxL) (ret := ret) hM hp.1 hrc hrs hfr hlo hws hcw (fun a' U hW => word_at hW (Or.inl (by first | rfl | simp [Cond.onTables, Cond.keeps, Cond.steady])) hini)
  obtain ⟨hx, hb, hml, ho, -⟩ := S
  obtain ⟨-, ⟨cellB, hcB, hoB, hclB⟩, hPc⟩ := hp
  obtain ⟨hfc, kB, hkB, -⟩ := hat
  cases hfc.symm.trans hclB
  intro T hT X
  rcases vx_callSU X hx (bytes := bytes) (maxL := maxL) (ret := ret) ho hl1 hl2 hl3 hl4 hcode hno hK (by rw [hT]; exact hcB) hoB hkB hg (hsize.trans hml.symm) (argsL := As) (rest := rest) (fun sig h => hn.trans (hlen sig h)) hstack hW (by rw [hb]; exact hdg)
    (fun vm₁ hW₁ => ⟨hf.1, hf.2, hPc (T.setVm vm₁) hT hW₁⟩) with ⟨v, vm₁, ⟨U', l2, c2, s2⟩, hW₁, X', ⟨g', mk, t, L, e1, e2, hq, h1, hL, h2, h3⟩, st⟩ | ⟨q, vm₁, ⟨U', l2, c2, s2⟩, hW₁, X', ⟨g', mk, t, L, E, ce, e1, e2, hq, hce, hcv, hcl, h1, hL, h2, h3⟩, st⟩
  · dsimp only [Pt.U, Pt.locs, Pt.cells, Pt.slots] at X' e1 e2 h1 h2 h3 st
    subst h1; subst h2; subst h3
    exact Or.inl ⟨v, (T.setVm vm₁).calling g' mk (Value.ref b :: As).toArray, t, U', L, hT, X', hL, e1, e2, hq, st⟩
  · dsimp only [Pt.U, Pt.locs, Pt.cells, Pt.slots] at X' e1 e2 h1 h2 h3 st hcl
    subst h1; subst h2; subst h3
    exact Or.inr ⟨q, (T.setVm vm₁).calling g' mk (Value.ref b :: As).toArray, t, U', L, E, ce, hT, X', hL, e1, e2, hq, hce, hcv, vx_cls hW₁ hcl, st⟩
end
/-! ===== END ===== -/
/-! ===== BEGIN a private method of a nest mate that may throw (follows va_callVN, va_callSN, va_runVN, va_runSN) ===== -/
section
variable {p : Program} {l : Launch} {e : Env} {R : Room} {s : State} {m : MethodId} {args : Array Value} {below : List Frame} {meth : Method} {c : Code} {H : Heap} {locs : List Loc} {cells slots : Nat}
variable {T : State}
theorem vx_callVN (X : Stand p l e R s m args below meth c T locs cells slots) (hexec : p.tables.exec = Jvm.exec) {own C : String} {index : Nat} {host : String} {y : MethodName} {bytes : ByteArray} {maxL : Nat} {ret : Option FieldType}
    (hown : s.vm.findClass own = some m.cls) (hlink : (Cond.methodLinkNest own index y host).before args s = true) (hinst : (Cond.instanceMethod y).before args s = true) (hsel : (Cond.selects C y y).before args s = true)
    (hcode : (Cond.code y bytes maxL ret).before args s = true) (hy : y.cls ≠ "java/lang/invoke/MethodHandle" ∧ y.cls ≠ "java/lang/invoke/VarHandle")
    {W : Nat} {Pre : Pt → Array Value → Prop} {Post : Pt → Array Value → Option Value → Pt → Prop} {PostX : Pt → Array Value → Addr → Pt → Prop} (hK : vx_Back l R p e below s args y 3 W Pre Post PostX)
    {b : Addr} {cellB : Cell} (hcell : T.heap[b]? = some cellB) (hobj : cellB.vm.isStatics = false) (hcls : s.vm.findClass C = some cellB.cls)
    {g : JFrame} (hg : g.method = m) (hsize : g.locals.size = c.maxLocals) {argsL rest : List Value} (hlen : ∀ sig, parseMethodDescriptor y.desc = some sig → argsL.length = sig.parameters.length)
    (hstack : g.stack = argsL.reverse ++ .ref b :: rest) (hW : 2 * g.monitorRoom + (rest.map fun v => v.category).sum ≤ W) (hdg : decode c.code g.pc = .ok (.invokevirtual index, 3))
    (hpre : ∀ vm₁, s.WarmedH vm₁ → Pre ⟨T.setVm vm₁, locs, cells, slots⟩ (Value.ref b :: argsL).toArray) :
    (∃ (v : Option Value) (vm₁ : Vm) (B : Pt), s.WarmedH vm₁ ∧ Stand p l e R s m args below meth c B.U B.locs B.cells B.slots ∧ Post ⟨T.setVm vm₁, locs, cells, slots⟩ (Value.ref b :: argsL).toArray v B ∧
      ∀ target, Steps p.tables e below (B.U.setTop { g with pc := g.pc + 3, stack := v.toList ++ rest }) target → Steps p.tables e below (T.setTop g) target) ∨
    (∃ (q : Addr) (vm₁ : Vm) (B : Pt), s.WarmedH vm₁ ∧ Stand p l e R s m args below meth c B.U B.locs B.cells B.slots ∧ PostX ⟨T.setVm vm₁, locs, cells, slots⟩ (Value.ref b :: argsL).toArray q B ∧
      Steps p.tables e below (T.setTop g) ((B.U.setTop { g with stack := rest }).pushFrame (.throwing q))) := by
  obtain ⟨mk, methM, hnamed, hmethM, hstM, habM⟩ := Cond.instanceMethod_spec hinst
  obtain ⟨methM', cM, hmethM', -, -, -, -, -, -, hsigM⟩ := Cond.code_spec hnamed hcode
  cases hmethM.symm.trans hmethM'
  obtain ⟨c2, r2, m2, q1, q2, q3, q4, kP, hkP, hkPi⟩ := Cond.selects_spec hsel
  cases hcls.symm.trans q1
  cases (State.methodFound?_of_named hnamed hy).symm.trans q2
  cases hnamed.symm.trans q3
  have hselP : selectMethod e.platform s.vm cellB.cls mk = .method mk := by rw [Launch.admits_selectMethod X.admits]; exact q4
  obtain ⟨vm₁, X₁, hstep₁⟩ := X.invokevirtualNest hexec hown hlink hnamed hmethM hstM hkP hkPi hy (a := b) (cell := cellB) hcell
    (fun z h => by rw [h] at hobj; cases hobj) hselP hmethM habM hkP hkPi (g := g) hg (argsL := argsL) (rest := rest) (hlen _ hsigM) hstack hdg
  rcases hK m meth c ⟨T.setVm vm₁, locs, cells, slots⟩ { g with stack := rest } (.invokevirtual index) mk (Value.ref b :: argsL).toArray X₁ hg hsize hdg hW (X₁.named hnamed) (hpre vm₁ X₁.warmed) with ⟨v, B, X', hpost, hsteps⟩ | ⟨q, B, X', hpost, hsteps⟩
  · exact Or.inl ⟨v, vm₁, B, X₁.warmed, X', hpost, fun target h => hstep₁ _ fun acts => by rw [doInvoke_state]; exact hsteps.trans h⟩
  · exact Or.inr ⟨q, vm₁, B, X₁.warmed, X', hpost, hstep₁ _ fun acts => by rw [doInvoke_state]; exact hsteps⟩
theorem vx_callSN (X : Stand p l e R s m args below meth c T locs cells slots) (hexec : p.tables.exec = Jvm.exec) {own : String} {index : Nat} {host : String} {y : MethodName} {bytes : ByteArray} {maxL : Nat} {ret : Option FieldType}
    (hown : s.vm.findClass own = some m.cls) (hlink : (Cond.methodLinkNest own index y host).before args s = true) (hstat : (Cond.static y).before args s = true) (hinit : (Cond.initialized y.cls).before args s = true)
    (hcode : (Cond.code y bytes maxL ret).before args s = true) (hy : y.cls ≠ "java/lang/invoke/MethodHandle" ∧ y.cls ≠ "java/lang/invoke/VarHandle")
    {W : Nat} {Pre : Pt → Array Value → Prop} {Post : Pt → Array Value → Option Value → Pt → Prop} {PostX : Pt → Array Value → Addr → Pt → Prop} (hK : vx_Back l R p e below s args y 3 W Pre Post PostX)
    {g : JFrame} (hg : g.method = m) (hsize : g.locals.size = c.maxLocals) {argsL rest : List Value} (hlen : ∀ sig, parseMethodDescriptor y.desc = some sig → argsL.length = sig.parameters.length)
    (hstack : g.stack = argsL.reverse ++ rest) (hW : 2 * g.monitorRoom + (rest.map fun v => v.category).sum ≤ W) (hdg : decode c.code g.pc = .ok (.invokestatic index, 3))
    (hpre : ∀ vm₁, s.WarmedH vm₁ → Pre ⟨T.setVm vm₁, locs, cells, slots⟩ argsL.toArray) :
    (∃ (v : Option Value) (vm₁ : Vm) (B : Pt), s.WarmedH vm₁ ∧ Stand p l e R s m args below meth c B.U B.locs B.cells B.slots ∧ Post ⟨T.setVm vm₁, locs, cells, slots⟩ argsL.toArray v B ∧
      ∀ target, Steps p.tables e below (B.U.setTop { g with pc := g.pc + 3, stack := v.toList ++ rest }) target → Steps p.tables e below (T.setTop g) target) ∨
    (∃ (q : Addr) (vm₁ : Vm) (B : Pt), s.WarmedH vm₁ ∧ Stand p l e R s m args below meth c B.U B.locs B.cells B.slots ∧ PostX ⟨T.setVm vm₁, locs, cells, slots⟩ argsL.toArray q B ∧
      Steps p.tables e below (T.setTop g) ((B.U.setTop { g with stack := rest }).pushFrame (.throwing q))) := by
  obtain ⟨mk, hnamed⟩ := Cond.code_named hcode
  obtain ⟨methM, cM, hmethM, -, -, -, -, -, -, hsigM⟩ := Cond.code_spec hnamed hcode
  have hstatic : methM.isStatic = true := Cond.static_spec hnamed hmethM hstat
  obtain ⟨kP, hkP, -⟩ := className_of_methodNamed hnamed
  have hinitP : kP.init = .initialized := Cond.initialized_spec (findClass_of_methodNamed hnamed) hkP hinit
  obtain ⟨vm₁, X₁, hstep₁⟩ := X.invokestaticNest hexec hown hlink hnamed hmethM hstatic hkP hinitP hy (g := g) hg (argsL := argsL) (rest := rest) (hlen _ hsigM) hstack hdg
  rcases hK m meth c ⟨T.setVm vm₁, locs, cells, slots⟩ { g with stack := rest } (.invokestatic index) mk argsL.toArray X₁ hg hsize hdg hW (X₁.named hnamed) (hpre vm₁ X₁.warmed) with ⟨v, B, X', hpost, hsteps⟩ | ⟨q, B, X', hpost, hsteps⟩
  · exact Or.inl ⟨v, vm₁, B, X₁.warmed, X', hpost, fun target h => hstep₁ _ fun acts => by rw [doInvoke_state]; exact hsteps.trans h⟩
  · exact Or.inr ⟨q, vm₁, B, X₁.warmed, X', hpost, hstep₁ _ fun acts => by rw [doInvoke_state]; exact hsteps⟩
theorem vx_runVN {y : MethodName} {bytes cc : ByteArray} {maxL nL mc ms n index : Nat} {ret : Option FieldType} {ws : List Cond} {rm : Room} {Pc : Array Value → State → Prop} {Qc : Array Value → State → Outcome → State → Prop} {XC : String → State → State → Prop} {free : Addr → Prop} {Ts : List Cond} {own C host : String} {b : Addr} {As rest : List Value} {g : JFrame}
    (S : CallFix p m c cc nL s args Ts own) (hM : vx_Met l y ws rm Pc Qc XC mc ms free) (cw : va_CN R s args own index y host bytes maxL ret ws rm mc ms n ∧ (Cond.instanceMethod y).before args s = true ∧ (Cond.selects C y y).before args s = true) (hp : PreV s H C b Pc As)
    (hg : g.method = m) (hn : As.length = n) (hsize : g.locals.size = nL) (hstack : g.stack = As.reverse ++ .ref b :: rest) (hW : 2 * g.monitorRoom + (rest.map fun v => v.category).sum ≤ 8) (hdg : decode cc g.pc = .ok (.invokevirtual index, 3)) (hf : cells + mc ≤ R.cells ∧ slots + ms ≤ R.slots) :
    vx_Run p l e R s m args below meth c H locs cells slots mc ms g rest (Qc (Value.ref b :: As).toArray) XC free := by
  obtain ⟨⟨⟨hrc, hrs, hfr, hlo, hws, hcw⟩, hcode, hini, hy, hlen, hl⟩, hx1, hx2⟩ := cw
  have hK : vx_Back l R p e below s args y 3 8 (PreOf R mc ms Pc) (PostOf Qc mc ms free) (vx_Post XC mc ms free) := vx_back (bytes := bytes) (maxL := maxL) (ret := ret) hM hp.1 hrc hrs hfr hlo hws hcw (fun a' U hW => word_at hW (Or.inl (by first | rfl | simp [Cond.onTables, Cond.keeps, Cond.steady])) hini)
  obtain ⟨hx, hb, hml, ho, -⟩ := S
  obtain ⟨-, ⟨cellB, hcB, hoB, hclB⟩, hPc⟩ := hp
  intro T hT X
  rcases vx_callVN X hx (C := C) (bytes := bytes) (maxL := maxL) (ret := ret) ho hl hx1 hx2 hcode hy hK (by rw [hT]; exact hcB) hoB hclB hg (hsize.trans hml.symm) (argsL := As) (rest := rest) (fun sig h => hn.trans (hlen sig h)) hstack hW (by rw [hb]; exact hdg)
    (fun vm₁ hW₁ => ⟨hf.1, hf.2, hPc (T.setVm vm₁) hT hW₁⟩) with ⟨v, vm₁, ⟨U', l2, c2, s2⟩, hW₁, X', ⟨g', mk, t, L, e1, e2, hq, h1, hL, h2, h3⟩, st⟩ | ⟨q, vm₁, ⟨U', l2, c2, s2⟩, hW₁, X', ⟨g', mk, t, L, E, ce, e1, e2, hq, hce, hcv, hcl, h1, hL, h2, h3⟩, st⟩
  · dsimp only [Pt.U, Pt.locs, Pt.cells, Pt.slots] at X' e1 e2 h1 h2 h3 st
    subst h1; subst h2; subst h3
    exact Or.inl ⟨v, (T.setVm vm₁).calling g' mk (Value.ref b :: As).toArray, t, U', L, hT, X', hL, e1, e2, hq, st⟩
  · dsimp only [Pt.U, Pt.locs, Pt.cells, Pt.slots] at X' e1 e2 h1 h2 h3 st hcl
    subst h1; subst h2; subst h3
    exact Or.inr ⟨q, (T.setVm vm₁).calling g' mk (Value.ref b :: As).toArray, t, U', L, E, ce, hT, X', hL, e1, e2, hq, hce, hcv, vx_cls hW₁ hcl, st⟩
theorem vx_runSN {y : MethodName} {bytes cc : ByteArray} {maxL nL mc ms n index : Nat} {ret : Option FieldType} {ws : List Cond} {rm : Room} {Pc : Array Value → State → Prop} {Qc : Array Value → State → Outcome → State → Prop} {XC : String → State → State → Prop} {free : Addr → Prop} {Ts : List Cond} {own host : String} {As rest : List Value} {g : JFrame}
    (S : CallFix p m c cc nL s args Ts own) (hM : vx_Met l y ws rm Pc Qc XC mc ms free) (cw : va_CN R s args own index y host bytes maxL ret ws rm mc ms n ∧ (Cond.static y).before args s = true ∧ True) (hp : PreS s H Pc As)
    (hg : g.method = m) (hn : As.length = n) (hsize : g.locals.size = nL) (hstack : g.stack = As.reverse ++ rest) (hW : 2 * g.monitorRoom + (rest.map fun v => v.category).sum ≤ 8) (hdg : decode cc g.pc = .ok (.invokestatic index, 3)) (hf : cells + mc ≤ R.cells ∧ slots + ms ≤ R.slots) :
    vx_Run p l e R s m args below meth c H locs cells slots mc ms g rest (Qc As.toArray) XC free := by
  obtain ⟨⟨⟨hrc, hrs, hfr, hlo, hws, hcw⟩, hcode, hini, hy, hlen, hl⟩, hx1, hx2⟩ := cw
  have hK : vx_Back l R p e below s args y 3 8 (PreOf R mc ms Pc) (PostOf Qc mc ms free) (vx_Post XC mc ms free) := vx_back (bytes := bytes) (maxL := maxL) (ret := ret) hM hp.1 hrc hrs hfr hlo hws hcw (fun a' U hW => word_at hW (Or.inl (by first | rfl | simp [Cond.onTables, Cond.keeps, Cond.steady])) hini)
  obtain ⟨hx, hb, hml, ho, -⟩ := S
  have hPc := hp.2
  intro T hT X
  rcases vx_callSN X hx (bytes := bytes) (maxL := maxL) (ret := ret) ho hl hx1 hini hcode hy hK hg (hsize.trans hml.symm) (argsL := As) (rest := rest) (fun sig h => hn.trans (hlen sig h)) hstack hW (by rw [hb]; exact hdg)
    (fun vm₁ hW₁ => ⟨hf.1, hf.2, hPc (T.setVm vm₁) hT hW₁⟩) with ⟨v, vm₁, ⟨U', l2, c2, s2⟩, hW₁, X', ⟨g', mk, t, L, e1, e2, hq, h1, hL, h2, h3⟩, st⟩ | ⟨q, vm₁, ⟨U', l2, c2, s2⟩, hW₁, X', ⟨g', mk, t, L, E, ce, e1, e2, hq, hce, hcv, hcl, h1, hL, h2, h3⟩, st⟩
  · dsimp only [Pt.U, Pt.locs, Pt.cells, Pt.slots] at X' e1 e2 h1 h2 h3 st
    subst h1; subst h2; subst h3
    exact Or.inl ⟨v, (T.setVm vm₁).calling g' mk As.toArray, t, U', L, hT, X', hL, e1, e2, hq, st⟩
  · dsimp only [Pt.U, Pt.locs, Pt.cells, Pt.slots] at X' e1 e2 h1 h2 h3 st hcl
    subst h1; subst h2; subst h3
    exact Or.inr ⟨q, (T.setVm vm₁).calling g' mk As.toArray, t, U', L, E, ce, hT, X', hL, e1, e2, hq, hce, hcv, vx_cls hW₁ hcl, st⟩
end
/-! ===== END ===== -/
/-! ===== BEGIN calls by an interface of methods that may throw (vx_callIF, vx_runF follow va_callIF, va_runF of this kit) ===== -/
section
variable {p : Program} {l : Launch} {e : Env} {R : Room} {s : State} {m : MethodId} {args : Array Value} {below : List Frame} {meth : Method} {c : Code} {H : Heap} {locs : List Loc} {cells slots : Nat} {Q : State → Prop}
variable {mc ms : Nat} {free : Addr → Prop} {A0 A1 : Nat → Prop} {H0 : Heap} {a : Array Value} {pc : Nat} {ls : Array Slot} {st0 rest : List Value}
def vx_Run5 (p : Program) (l : Launch) (e : Env) (R : Room) (s : State) (m : MethodId) (args : Array Value) (below : List Frame) (meth : Method) (c : Code) (H : Heap) (locs : List Loc) (cells slots mc ms : Nat) (g : JFrame) (rest : List Value) (Qa : State → Outcome → State → Prop) (XC : String → State → State → Prop) (free : Addr → Prop) : Prop :=
  ∀ T : State, T.heap = H → Stand p l e R s m args below meth c T locs cells slots →
    (∃ (v : Option Value) (st₀ t T' : State) (L : List Loc), st₀.heap = H ∧ Stand p l e R s m args below meth c T' (locs ++ L) (cells + mc) (slots + ms) ∧ (∀ q ∈ L, free q.base) ∧ T'.heap = t.heap ∧ T'.vm = t.vm ∧ Qa st₀ (.returned v) t ∧
      Goes p e below T g T' { g with pc := g.pc + 5, stack := v.toList ++ rest }) ∨
    (∃ (q : Addr) (st₀ t T' : State) (L : List Loc) (E : String) (ce : Cell), st₀.heap = H ∧ Stand p l e R s m args below meth c T' (locs ++ L) (cells + mc) (slots + ms) ∧ (∀ z ∈ L, free z.base) ∧ T'.heap = t.heap ∧ T'.vm = t.vm ∧ XC E st₀ t ∧ t.heap[q]? = some ce ∧ ce.vm = .none ∧ s.vm.findClass E = some ce.cls ∧
      Steps p.tables e below (T.setTop g) ((T'.setTop { g with stack := rest }).pushFrame (.throwing q)))
theorem vx_callIF {T : State} (X : Stand p l e R s m args below meth c T locs cells slots) (hexec : p.tables.exec = Jvm.exec) {own C : String} {index count : Nat} {x y : MethodName} {bytes : ByteArray} {maxL : Nat} {ret : Option FieldType}
    (hown : s.vm.findClass own = some m.cls) (hlink : (Cond.methodLink own index x).before args s = true) (hdecl : (Cond.declares x).before args s = true) (hface : (Cond.interfaceMethod x.cls x.cls x.name x.desc).before args s = true)
    (hsel : (Cond.selects C x y).before args s = true) (hinst : (Cond.instanceMethod y).before args s = true) (hpub : (Cond.publicMethod y).before args s = true) (hunh : (Cond.unhidden C x.name x.desc).before args s = true)
    (hcast : (Cond.castable C x.cls).before args s = true) (hcode : (Cond.code y bytes maxL ret).before args s = true) (hx : x.cls ≠ "java/lang/invoke/MethodHandle" ∧ x.cls ≠ "java/lang/invoke/VarHandle")
    {W9 : Nat} {Pre : Pt → Array Value → Prop} {Post : Pt → Array Value → Option Value → Pt → Prop} {PostX : Pt → Array Value → Addr → Pt → Prop} (hK : vx_Back l R p e below s args y 5 W9 Pre Post PostX)
    {b : Addr} {cellB : Cell} {kB : Class} (hcell : T.heap[b]? = some cellB) (hobj : cellB.vm.isStatics = false) (hcls : s.vm.findClass C = some cellB.cls) (hkB : s.vm.classes[cellB.cls]? = some kB)
    {g : JFrame} (hg : g.method = m) (hsize : g.locals.size = c.maxLocals) {argsL rest : List Value} (hlen : ∀ sig, parseMethodDescriptor x.desc = some sig → argsL.length = sig.parameters.length)
    (hstack : g.stack = argsL.reverse ++ .ref b :: rest) (hW : 2 * g.monitorRoom + (rest.map fun v => v.category).sum ≤ W9) (hdg : decode c.code g.pc = .ok (.invokeinterface index count, 5))
    (hpre : ∀ vm₁, s.WarmedH vm₁ → Pre ⟨T.setVm vm₁, locs, cells, slots⟩ (Value.ref b :: argsL).toArray) :
    (∃ (v : Option Value) (vm₁ : Vm) (B : Pt), s.WarmedH vm₁ ∧ Stand p l e R s m args below meth c B.U B.locs B.cells B.slots ∧ Post ⟨T.setVm vm₁, locs, cells, slots⟩ (Value.ref b :: argsL).toArray v B ∧
      ∀ target, Steps p.tables e below (B.U.setTop { g with pc := g.pc + 5, stack := v.toList ++ rest }) target → Steps p.tables e below (T.setTop g) target) ∨
    (∃ (q : Addr) (vm₁ : Vm) (B : Pt), s.WarmedH vm₁ ∧ Stand p l e R s m args below meth c B.U B.locs B.cells B.slots ∧ PostX ⟨T.setVm vm₁, locs, cells, slots⟩ (Value.ref b :: argsL).toArray q B ∧
      Steps p.tables e below (T.setTop g) ((B.U.setTop { g with stack := rest }).pushFrame (.throwing q))) := by
  obtain ⟨r0, r, hn, hrm, hstR, hsigR⟩ := Cond.declares_spec hdecl
  obtain ⟨cL, kL, r1, hcL, hkL, hiL, hfoundL, hn1⟩ := Cond.interfaceMethod_spec hface
  cases hn.symm.trans hn1
  have hr0cls : r0.cls = cL := Option.some.inj ((findClass_of_methodNamed hn).symm.trans hcL)
  obtain ⟨hnameR, hdescR⟩ := name_of_methodNamed hn hrm
  obtain ⟨mk, methM, hnamed, hmethM, -, habM⟩ := Cond.instanceMethod_spec hinst
  obtain ⟨c2, r2, m2, q1, q2, q3, q4, -⟩ := Cond.selects_spec hsel
  cases hcls.symm.trans q1
  cases hfoundL.symm.trans q2
  cases hnamed.symm.trans q3
  have hselP : selectMethod e.platform s.vm cellB.cls r0 = .method mk := by rw [Launch.admits_selectMethod X.admits]; exact q4
  have hpubM : hasFlag methM.accessFlags Acc.public_ = true := Cond.publicMethod_spec hnamed hmethM hpub
  have hway : ((cellB.cls :: s.vm.superclasses cellB.cls).any fun k => (declaredIn s.vm r.name r.desc k).any fun (_, z) => z.isPrivate || z.isStatic) = false := by
    rw [hnameR, hdescR]; exact Cond.unhidden_spec hcls hunh
  obtain ⟨c3, t3, w1, w2, w3⟩ := Cond.castable_spec hcast
  cases hcls.symm.trans w1
  cases hcL.symm.trans w2
  obtain ⟨vm₁, X₁, hstep₁⟩ := X.invokeinterface hexec hown hlink hn hrm hstR (by rw [hr0cls]; exact hkL) hiL hx (a := b) (cell := cellB) (kcell := kB) hcell
    (fun z h => by rw [h] at hobj; cases hobj) hkB (by rw [hr0cls]; exact w3) hselP hmethM hway hpubM habM (g := g) hg (argsL := argsL) (rest := rest) (hlen _ hsigR) hstack hdg
  rcases hK m meth c ⟨T.setVm vm₁, locs, cells, slots⟩ { g with stack := rest } (.invokeinterface index count) mk (Value.ref b :: argsL).toArray X₁ hg hsize hdg hW (X₁.named hnamed) (hpre vm₁ X₁.warmed) with ⟨v, B, X', hpost, hsteps⟩ | ⟨q, B, X', hpost, hsteps⟩
  · exact Or.inl ⟨v, vm₁, B, X₁.warmed, X', hpost, fun target h => hstep₁ _ fun acts => by rw [doInvoke_state]; exact hsteps.trans h⟩
  · exact Or.inr ⟨q, vm₁, B, X₁.warmed, X', hpost, hstep₁ _ fun acts => by rw [doInvoke_state]; exact hsteps⟩
theorem vx_runF {x y : MethodName} {bytes cc : ByteArray} {maxL nL mc ms n index count : Nat} {ret : Option FieldType} {ws : List Cond} {rm : Room} {Pc : Array Value → State → Prop} {Qc : Array Value → State → Outcome → State → Prop} {XC : String → State → State → Prop} {free : Addr → Prop} {Ts : List Cond} {own C : String} {cC : ClassId} {b : Addr} {As rest : List Value} {g : JFrame}
    (hat : ClassAt s C cC) (S : CallFix p m c cc nL s args Ts own) (hM : vx_Met l y ws rm Pc Qc XC mc ms free) (cw : va_CI R s args own C index x y bytes maxL ret ws rm mc ms n) (hp : PreV s H C b Pc As)
    (hg : g.method = m) (hn : As.length = n) (hsize : g.locals.size = nL) (hstack : g.stack = As.reverse ++ .ref b :: rest) (hW : 2 * g.monitorRoom + (rest.map fun v => v.category).sum ≤ 8) (hdg : decode cc g.pc = .ok (.invokeinterface index count, 5)) (hf : cells + mc ≤ R.cells ∧ slots + ms ≤ R.slots) :
    vx_Run5 p l e R s m args below meth c H locs cells slots mc ms g rest (Qc (Value.ref b :: As).toArray) XC free := by
  obtain ⟨hrc, hrs, hfr, hlo, hws, hcw⟩ := cw.back
  have hini := cw.init
  have hK : vx_Back l R p e below s args y 5 8 (PreOf R mc ms Pc) (PostOf Qc mc ms free) (vx_Post XC mc ms free) := vx_back (bytes := bytes) (maxL := maxL) (ret := ret) hM hp.1 hrc hrs hfr hlo hws hcw (fun a' U hW => word_at hW (Or.inl (by first | rfl | simp [Cond.onTables, Cond.keeps, Cond.steady])) hini)
  obtain ⟨hx, hb, hml, ho, -⟩ := S
  obtain ⟨-, ⟨cellB, hcB, hoB, hclB⟩, hPc⟩ := hp
  obtain ⟨hfc, kB, hkB, -⟩ := hat
  cases hfc.symm.trans hclB
  intro T hT X
  rcases vx_callIF X hx (C := C) (bytes := bytes) (maxL := maxL) (ret := ret) ho cw.link cw.decl cw.face cw.sel cw.inst cw.pub cw.unh cw.cast cw.code cw.notMH hK (by rw [hT]; exact hcB) hoB hclB hkB hg (hsize.trans hml.symm) (argsL := As) (rest := rest) (fun sig h => hn.trans (cw.len sig h)) hstack hW (by rw [hb]; exact hdg)
    (fun vm₁ hW₁ => ⟨hf.1, hf.2, hPc (T.setVm vm₁) hT hW₁⟩) with ⟨v, vm₁, ⟨U', l2, c2, s2⟩, hW₁, X', ⟨g', mk, t, L, e1, e2, hq, h1, hL, h2, h3⟩, st⟩ | ⟨q, vm₁, ⟨U', l2, c2, s2⟩, hW₁, X', ⟨g', mk, t, L, E, ce, e1, e2, hq, hce, hcv, hcl, h1, hL, h2, h3⟩, st⟩
  · dsimp only [Pt.U, Pt.locs, Pt.cells, Pt.slots] at X' e1 e2 h1 h2 h3 st
    subst h1; subst h2; subst h3
    exact Or.inl ⟨v, (T.setVm vm₁).calling g' mk (Value.ref b :: As).toArray, t, U', L, hT, X', hL, e1, e2, hq, st⟩
  · dsimp only [Pt.U, Pt.locs, Pt.cells, Pt.slots] at X' e1 e2 h1 h2 h3 st hcl
    subst h1; subst h2; subst h3
    exact Or.inr ⟨q, (T.setVm vm₁).calling g' mk (Value.ref b :: As).toArray, t, U', L, E, ce, hT, X', hL, e1, e2, hq, hce, hcv, vx_cls hW₁ hcl, st⟩
theorem vx_callFv {S SX : Type} {post : S → Prop} {px : SX → Prop} {B : S → State → Prop} {BX : String → SX → State → Prop} {AX : Nat → Prop} (hr : vx_Run5 p l e R s m args below meth c H locs cells slots mc ms (F0 m pc ls st0) rest (va_Qv post B A1 a) (vx_X px BX AX) free) (hS : va_S A0 H0 H locs) (hA : ∀ q, q < H.size → A1 q → A0 q) (hf : ∀ q, free q → A0 q) (hAX : ∀ q, q < H.size → AX q → A0 q)
    (kx : ∀ (E : String) (ce : Cell) (q9 : Addr) (u : SX) (t : State) (H1 : Heap) (locs1 : List Loc), t.heap = H1 → s.vm.Alike t.vm → px u → BX E u t → H.size ≤ H1.size → (∀ q : Nat, q < H.size → ¬ AX q → H1[q]? = H[q]?) → va_S A0 H0 H1 locs1 → H1[q9]? = some ce → ce.vm = .none → s.vm.findClass E = some ce.cls → vx_W p l e R s m args below meth c H1 locs1 (cells + mc) (slots + ms) Q (F0 m pc ls rest) q9)
    (kk : ∀ (u : S) (t : State) (H1 : Heap) (locs1 : List Loc), t.heap = H1 → s.vm.Alike t.vm → post u → B u t → H.size ≤ H1.size → (∀ q : Nat, q < H.size → ¬ A1 q → H1[q]? = H[q]?) → va_S A0 H0 H1 locs1 → W p l e R s m args below meth c H1 locs1 (cells + mc) (slots + ms) Q (F0 m (pc + 5) ls (rest))) : W p l e R s m args below meth c H locs cells slots Q (F0 m pc ls st0) := by
  intro T hT X
  rcases hr T hT X with ⟨v, st₀, t, T', L, h0, X', hL, e1, e2, ⟨⟨u, hv, hp, hb⟩, hF⟩, st⟩ | ⟨q, st₀, t, T', L, E, ce, h0, X', hL, e1, e2, ⟨u, hp, hb, hF⟩, hce, hcv, hcl, st⟩
  · cases hv
    obtain ⟨k1, k2, k3⟩ := vx_keep h0 e1 hS hA hf hL hF
    obtain ⟨t2, a1, b1⟩ := kk u t T'.heap (locs ++ L) e1.symm (by rw [← e2]; exact X'.warmed.alike) hp hb k1 k2 k3 T' rfl X'
    exact ⟨t2, st t2 a1, b1⟩
  · obtain ⟨k1, k2, k3⟩ := vx_keep h0 e1 hS hAX hf hL hF
    obtain ⟨t2, a1, b1⟩ := kx E ce q u t T'.heap (locs ++ L) e1.symm (by rw [← e2]; exact X'.warmed.alike) hp hb k1 k2 k3 (by rw [e1]; exact hce) hcv hcl T' rfl X'
    exact ⟨t2, st.trans a1, b1⟩
theorem vx_callFi {S SX : Type} {post : Int32 → S → Prop} {px : SX → Prop} {B : S → State → Prop} {BX : String → SX → State → Prop} {AX : Nat → Prop} (hr : vx_Run5 p l e R s m args below meth c H locs cells slots mc ms (F0 m pc ls st0) rest (va_Qi post B A1 a) (vx_X px BX AX) free) (hS : va_S A0 H0 H locs) (hA : ∀ q, q < H.size → A1 q → A0 q) (hf : ∀ q, free q → A0 q) (hAX : ∀ q, q < H.size → AX q → A0 q)
    (kx : ∀ (E : String) (ce : Cell) (q9 : Addr) (u : SX) (t : State) (H1 : Heap) (locs1 : List Loc), t.heap = H1 → s.vm.Alike t.vm → px u → BX E u t → H.size ≤ H1.size → (∀ q : Nat, q < H.size → ¬ AX q → H1[q]? = H[q]?) → va_S A0 H0 H1 locs1 → H1[q9]? = some ce → ce.vm = .none → s.vm.findClass E = some ce.cls → vx_W p l e R s m args below meth c H1 locs1 (cells + mc) (slots + ms) Q (F0 m pc ls rest) q9)
    (kk : ∀ (r : Int32) (u : S) (t : State) (H1 : Heap) (locs1 : List Loc), t.heap = H1 → s.vm.Alike t.vm → post r u → B u t → H.size ≤ H1.size → (∀ q : Nat, q < H.size → ¬ A1 q → H1[q]? = H[q]?) → va_S A0 H0 H1 locs1 → W p l e R s m args below meth c H1 locs1 (cells + mc) (slots + ms) Q (F0 m (pc + 5) ls (.int r :: rest))) : W p l e R s m args below meth c H locs cells slots Q (F0 m pc ls st0) := by
  intro T hT X
  rcases hr T hT X with ⟨v, st₀, t, T', L, h0, X', hL, e1, e2, ⟨⟨r, u, hv, hp, hb⟩, hF⟩, st⟩ | ⟨q, st₀, t, T', L, E, ce, h0, X', hL, e1, e2, ⟨u, hp, hb, hF⟩, hce, hcv, hcl, st⟩
  · cases hv
    obtain ⟨k1, k2, k3⟩ := vx_keep h0 e1 hS hA hf hL hF
    obtain ⟨t2, a1, b1⟩ := kk r u t T'.heap (locs ++ L) e1.symm (by rw [← e2]; exact X'.warmed.alike) hp hb k1 k2 k3 T' rfl X'
    exact ⟨t2, st t2 a1, b1⟩
  · obtain ⟨k1, k2, k3⟩ := vx_keep h0 e1 hS hAX hf hL hF
    obtain ⟨t2, a1, b1⟩ := kx E ce q u t T'.heap (locs ++ L) e1.symm (by rw [← e2]; exact X'.warmed.alike) hp hb k1 k2 k3 (by rw [e1]; exact hce) hcv hcl T' rfl X'
    exact ⟨t2, st.trans a1, b1⟩
theorem vx_callFl {S SX : Type} {post : Int64 → S → Prop} {px : SX → Prop} {B : S → State → Prop} {BX : String → SX → State → Prop} {AX : Nat → Prop} (hr : vx_Run5 p l e R s m args below meth c H locs cells slots mc ms (F0 m pc ls st0) rest (va_Ql post B A1 a) (vx_X px BX AX) free) (hS : va_S A0 H0 H locs) (hA : ∀ q, q < H.size → A1 q → A0 q) (hf : ∀ q, free q → A0 q) (hAX : ∀ q, q < H.size → AX q → A0 q)
    (kx : ∀ (E : String) (ce : Cell) (q9 : Addr) (u : SX) (t : State) (H1 : Heap) (locs1 : List Loc), t.heap = H1 → s.vm.Alike t.vm → px u → BX E u t → H.size ≤ H1.size → (∀ q : Nat, q < H.size → ¬ AX q → H1[q]? = H[q]?) → va_S A0 H0 H1 locs1 → H1[q9]? = some ce → ce.vm = .none → s.vm.findClass E = some ce.cls → vx_W p l e R s m args below meth c H1 locs1 (cells + mc) (slots + ms) Q (F0 m pc ls rest) q9)
    (kk : ∀ (r : Int64) (u : S) (t : State) (H1 : Heap) (locs1 : List Loc), t.heap = H1 → s.vm.Alike t.vm → post r u → B u t → H.size ≤ H1.size → (∀ q : Nat, q < H.size → ¬ A1 q → H1[q]? = H[q]?) → va_S A0 H0 H1 locs1 → W p l e R s m args below meth c H1 locs1 (cells + mc) (slots + ms) Q (F0 m (pc + 5) ls (.long r :: rest))) : W p l e R s m args below meth c H locs cells slots Q (F0 m pc ls st0) := by
  intro T hT X
  rcases hr T hT X with ⟨v, st₀, t, T', L, h0, X', hL, e1, e2, ⟨⟨r, u, hv, hp, hb⟩, hF⟩, st⟩ | ⟨q, st₀, t, T', L, E, ce, h0, X', hL, e1, e2, ⟨u, hp, hb, hF⟩, hce, hcv, hcl, st⟩
  · cases hv
    obtain ⟨k1, k2, k3⟩ := vx_keep h0 e1 hS hA hf hL hF
    obtain ⟨t2, a1, b1⟩ := kk r u t T'.heap (locs ++ L) e1.symm (by rw [← e2]; exact X'.warmed.alike) hp hb k1 k2 k3 T' rfl X'
    exact ⟨t2, st t2 a1, b1⟩
  · obtain ⟨k1, k2, k3⟩ := vx_keep h0 e1 hS hAX hf hL hF
    obtain ⟨t2, a1, b1⟩ := kx E ce q u t T'.heap (locs ++ L) e1.symm (by rw [← e2]; exact X'.warmed.alike) hp hb k1 k2 k3 (by rw [e1]; exact hce) hcv hcl T' rfl X'
    exact ⟨t2, st.trans a1, b1⟩
theorem vx_callFf {S SX : Type} {post : UInt32 → S → Prop} {px : SX → Prop} {B : S → State → Prop} {BX : String → SX → State → Prop} {AX : Nat → Prop} (hr : vx_Run5 p l e R s m args below meth c H locs cells slots mc ms (F0 m pc ls st0) rest (va_Qf post B A1 a) (vx_X px BX AX) free) (hS : va_S A0 H0 H locs) (hA : ∀ q, q < H.size → A1 q → A0 q) (hf : ∀ q, free q → A0 q) (hAX : ∀ q, q < H.size → AX q → A0 q)
    (kx : ∀ (E : String) (ce : Cell) (q9 : Addr) (u : SX) (t : State) (H1 : Heap) (locs1 : List Loc), t.heap = H1 → s.vm.Alike t.vm → px u → BX E u t → H.size ≤ H1.size → (∀ q : Nat, q < H.size → ¬ AX q → H1[q]? = H[q]?) → va_S A0 H0 H1 locs1 → H1[q9]? = some ce → ce.vm = .none → s.vm.findClass E = some ce.cls → vx_W p l e R s m args below meth c H1 locs1 (cells + mc) (slots + ms) Q (F0 m pc ls rest) q9)
    (kk : ∀ (r : UInt32) (u : S) (t : State) (H1 : Heap) (locs1 : List Loc), t.heap = H1 → s.vm.Alike t.vm → post r u → B u t → H.size ≤ H1.size → (∀ q : Nat, q < H.size → ¬ A1 q → H1[q]? = H[q]?) → va_S A0 H0 H1 locs1 → W p l e R s m args below meth c H1 locs1 (cells + mc) (slots + ms) Q (F0 m (pc + 5) ls (.float r :: rest))) : W p l e R s m args below meth c H locs cells slots Q (F0 m pc ls st0) := by
  intro T hT X
  rcases hr T hT X with ⟨v, st₀, t, T', L, h0, X', hL, e1, e2, ⟨⟨r, u, hv, hp, hb⟩, hF⟩, st⟩ | ⟨q, st₀, t, T', L, E, ce, h0, X', hL, e1, e2, ⟨u, hp, hb, hF⟩, hce, hcv, hcl, st⟩
  · cases hv
    obtain ⟨k1, k2, k3⟩ := vx_keep h0 e1 hS hA hf hL hF
    obtain ⟨t2, a1, b1⟩ := kk r u t T'.heap (locs ++ L) e1.symm (by rw [← e2]; exact X'.warmed.alike) hp hb k1 k2 k3 T' rfl X'
    exact ⟨t2, st t2 a1, b1⟩
  · obtain ⟨k1, k2, k3⟩ := vx_keep h0 e1 hS hAX hf hL hF
    obtain ⟨t2, a1, b1⟩ := kx E ce q u t T'.heap (locs ++ L) e1.symm (by rw [← e2]; exact X'.warmed.alike) hp hb k1 k2 k3 (by rw [e1]; exact hce) hcv hcl T' rfl X'
    exact ⟨t2, st.trans a1, b1⟩
theorem vx_callFd {S SX : Type} {post : UInt64 → S → Prop} {px : SX → Prop} {B : S → State → Prop} {BX : String → SX → State → Prop} {AX : Nat → Prop} (hr : vx_Run5 p l e R s m args below meth c H locs cells slots mc ms (F0 m pc ls st0) rest (va_Qd post B A1 a) (vx_X px BX AX) free) (hS : va_S A0 H0 H locs) (hA : ∀ q, q < H.size → A1 q → A0 q) (hf : ∀ q, free q → A0 q) (hAX : ∀ q, q < H.size → AX q → A0 q)
    (kx : ∀ (E : String) (ce : Cell) (q9 : Addr) (u : SX) (t : State) (H1 : Heap) (locs1 : List Loc), t.heap = H1 → s.vm.Alike t.vm → px u → BX E u t → H.size ≤ H1.size → (∀ q : Nat, q < H.size → ¬ AX q → H1[q]? = H[q]?) → va_S A0 H0 H1 locs1 → H1[q9]? = some ce → ce.vm = .none → s.vm.findClass E = some ce.cls → vx_W p l e R s m args below meth c H1 locs1 (cells + mc) (slots + ms) Q (F0 m pc ls rest) q9)
    (kk : ∀ (r : UInt64) (u : S) (t : State) (H1 : Heap) (locs1 : List Loc), t.heap = H1 → s.vm.Alike t.vm → post r u → B u t → H.size ≤ H1.size → (∀ q : Nat, q < H.size → ¬ A1 q → H1[q]? = H[q]?) → va_S A0 H0 H1 locs1 → W p l e R s m args below meth c H1 locs1 (cells + mc) (slots + ms) Q (F0 m (pc + 5) ls (.double r :: rest))) : W p l e R s m args below meth c H locs cells slots Q (F0 m pc ls st0) := by
  intro T hT X
  rcases hr T hT X with ⟨v, st₀, t, T', L, h0, X', hL, e1, e2, ⟨⟨r, u, hv, hp, hb⟩, hF⟩, st⟩ | ⟨q, st₀, t, T', L, E, ce, h0, X', hL, e1, e2, ⟨u, hp, hb, hF⟩, hce, hcv, hcl, st⟩
  · cases hv
    obtain ⟨k1, k2, k3⟩ := vx_keep h0 e1 hS hA hf hL hF
    obtain ⟨t2, a1, b1⟩ := kk r u t T'.heap (locs ++ L) e1.symm (by rw [← e2]; exact X'.warmed.alike) hp hb k1 k2 k3 T' rfl X'
    exact ⟨t2, st t2 a1, b1⟩
  · obtain ⟨k1, k2, k3⟩ := vx_keep h0 e1 hS hAX hf hL hF
    obtain ⟨t2, a1, b1⟩ := kx E ce q u t T'.heap (locs ++ L) e1.symm (by rw [← e2]; exact X'.warmed.alike) hp hb k1 k2 k3 (by rw [e1]; exact hce) hcv hcl T' rfl X'
    exact ⟨t2, st.trans a1, b1⟩
end
/-! ===== END ===== -/
/-! ===== BEGIN by an interface, a method with a table of its own that may throw (follows va_callIFW, va_runFW) ===== -/
section
variable {p : Program} {l : Launch} {e : Env} {R : Room} {s : State} {m : MethodId} {args : Array Value} {below : List Frame} {meth : Method} {c : Code} {H : Heap} {locs : List Loc} {cells slots : Nat}
theorem vx_callIFW {T : State} (X : Stand p l e R s m args below meth c T locs cells slots) (hexec : p.tables.exec = Jvm.exec) {own C : String} {index count : Nat} {x y : MethodName} {bytes : ByteArray} {maxL : Nat} {ret : Option FieldType} {hh : List (Nat × Nat × Nat × Nat)}
    (hown : s.vm.findClass own = some m.cls) (hlink : (Cond.methodLink own index x).before args s = true) (hdecl : (Cond.declares x).before args s = true) (hface : (Cond.interfaceMethod x.cls x.cls x.name x.desc).before args s = true)
    (hsel : (Cond.selects C x y).before args s = true) (hinst : (Cond.instanceMethod y).before args s = true) (hpub : (Cond.publicMethod y).before args s = true) (hunh : (Cond.unhidden C x.name x.desc).before args s = true)
    (hcast : (Cond.castable C x.cls).before args s = true) (hcode : (Cond.codeWith y bytes maxL ret hh).before args s = true) (hx : x.cls ≠ "java/lang/invoke/MethodHandle" ∧ x.cls ≠ "java/lang/invoke/VarHandle")
    {W : Nat} {Pre : Pt → Array Value → Prop} {Post : Pt → Array Value → Option Value → Pt → Prop} {PostX : Pt → Array Value → Addr → Pt → Prop} (hK : vx_Back l R p e below s args y 5 W Pre Post PostX)
    {b : Addr} {cellB : Cell} {kB : Class} (hcell : T.heap[b]? = some cellB) (hobj : cellB.vm.isStatics = false) (hcls : s.vm.findClass C = some cellB.cls) (hkB : s.vm.classes[cellB.cls]? = some kB)
    {g : JFrame} (hg : g.method = m) (hsize : g.locals.size = c.maxLocals) {argsL rest : List Value} (hlen : ∀ sig, parseMethodDescriptor x.desc = some sig → argsL.length = sig.parameters.length)
    (hstack : g.stack = argsL.reverse ++ .ref b :: rest) (hW : 2 * g.monitorRoom + (rest.map fun v => v.category).sum ≤ W) (hdg : decode c.code g.pc = .ok (.invokeinterface index count, 5))
    (hpre : ∀ vm₁, s.WarmedH vm₁ → Pre ⟨T.setVm vm₁, locs, cells, slots⟩ (Value.ref b :: argsL).toArray) :
    (∃ (v : Option Value) (vm₁ : Vm) (B : Pt), s.WarmedH vm₁ ∧ Stand p l e R s m args below meth c B.U B.locs B.cells B.slots ∧ Post ⟨T.setVm vm₁, locs, cells, slots⟩ (Value.ref b :: argsL).toArray v B ∧
      ∀ target, Steps p.tables e below (B.U.setTop { g with pc := g.pc + 5, stack := v.toList ++ rest }) target → Steps p.tables e below (T.setTop g) target) ∨
    (∃ (q : Addr) (vm₁ : Vm) (B : Pt), s.WarmedH vm₁ ∧ Stand p l e R s m args below meth c B.U B.locs B.cells B.slots ∧ PostX ⟨T.setVm vm₁, locs, cells, slots⟩ (Value.ref b :: argsL).toArray q B ∧
      Steps p.tables e below (T.setTop g) ((B.U.setTop { g with stack := rest }).pushFrame (.throwing q))) := by
  obtain ⟨r0, r, hn, hrm, hstR, hsigR⟩ := Cond.declares_spec hdecl
  obtain ⟨cL, kL, r1, hcL, hkL, hiL, hfoundL, hn1⟩ := Cond.interfaceMethod_spec hface
  cases hn.symm.trans hn1
  have hr0cls : r0.cls = cL := Option.some.inj ((findClass_of_methodNamed hn).symm.trans hcL)
  obtain ⟨hnameR, hdescR⟩ := name_of_methodNamed hn hrm
  obtain ⟨mk, methM, hnamed, hmethM, -, habM⟩ := Cond.instanceMethod_spec hinst
  obtain ⟨c2, r2, m2, q1, q2, q3, q4, -⟩ := Cond.selects_spec hsel
  cases hcls.symm.trans q1
  cases hfoundL.symm.trans q2
  cases hnamed.symm.trans q3
  have hselP : selectMethod e.platform s.vm cellB.cls r0 = .method mk := by rw [Launch.admits_selectMethod X.admits]; exact q4
  have hpubM : hasFlag methM.accessFlags Acc.public_ = true := Cond.publicMethod_spec hnamed hmethM hpub
  have hway : ((cellB.cls :: s.vm.superclasses cellB.cls).any fun k => (declaredIn s.vm r.name r.desc k).any fun (_, z) => z.isPrivate || z.isStatic) = false := by
    rw [hnameR, hdescR]; exact Cond.unhidden_spec hcls hunh
  obtain ⟨c3, t3, w1, w2, w3⟩ := Cond.castable_spec hcast
  cases hcls.symm.trans w1
  cases hcL.symm.trans w2
  obtain ⟨vm₁, X₁, hstep₁⟩ := X.invokeinterface hexec hown hlink hn hrm hstR (by rw [hr0cls]; exact hkL) hiL hx (a := b) (cell := cellB) (kcell := kB) hcell
    (fun z h => by rw [h] at hobj; cases hobj) hkB (by rw [hr0cls]; exact w3) hselP hmethM hway hpubM habM (g := g) hg (argsL := argsL) (rest := rest) (hlen _ hsigR) hstack hdg
  rcases hK m meth c ⟨T.setVm vm₁, locs, cells, slots⟩ { g with stack := rest } (.invokeinterface index count) mk (Value.ref b :: argsL).toArray X₁ hg hsize hdg hW (X₁.named hnamed) (hpre vm₁ X₁.warmed) with ⟨v, B, X', hpost, hsteps⟩ | ⟨q, B, X', hpost, hsteps⟩
  · exact Or.inl ⟨v, vm₁, B, X₁.warmed, X', hpost, fun target h => hstep₁ _ fun acts => by rw [doInvoke_state]; exact hsteps.trans h⟩
  · exact Or.inr ⟨q, vm₁, B, X₁.warmed, X', hpost, hstep₁ _ fun acts => by rw [doInvoke_state]; exact hsteps⟩
theorem vx_runFW {x y : MethodName} {bytes cc : ByteArray} {maxL nL mc ms n index count : Nat} {ret : Option FieldType} {hh : List (Nat × Nat × Nat × Nat)} {ws : List Cond} {rm : Room} {Pc : Array Value → State → Prop} {Qc : Array Value → State → Outcome → State → Prop} {XC : String → State → State → Prop} {free : Addr → Prop} {Ts : List Cond} {own C : String} {cC : ClassId} {b : Addr} {As rest : List Value} {g : JFrame}
    (hat : ClassAt s C cC) (S : CallFix p m c cc nL s args Ts own) (hM : vx_Met l y ws rm Pc Qc XC mc ms free) (cw : va_CIW R s args own C index x y bytes maxL ret hh ws rm mc ms n) (hp : PreV s H C b Pc As)
    (hg : g.method = m) (hn : As.length = n) (hsize : g.locals.size = nL) (hstack : g.stack = As.reverse ++ .ref b :: rest) (hW : 2 * g.monitorRoom + (rest.map fun v => v.category).sum ≤ 8) (hdg : decode cc g.pc = .ok (.invokeinterface index count, 5)) (hf : cells + mc ≤ R.cells ∧ slots + ms ≤ R.slots) :
    vx_Run5 p l e R s m args below meth c H locs cells slots mc ms g rest (Qc (Value.ref b :: As).toArray) XC free := by
  obtain ⟨hrc, hrs, hfr, hlo, hws, hcw⟩ := cw.back
  have hini := cw.init
  have hK : vx_Back l R p e below s args y 5 8 (PreOf R mc ms Pc) (PostOf Qc mc ms free) (vx_Post XC mc ms free) := vx_backW (hh := hh) (bytes := bytes) (maxL := maxL) (ret := ret) hM hp.1 hrc hrs hfr hlo hws hcw (fun a' U hW => word_at hW (Or.inl (by first | rfl | simp [Cond.onTables, Cond.keeps, Cond.steady])) hini)
  obtain ⟨hx, hb, hml, ho, -⟩ := S
  obtain ⟨-, ⟨cellB, hcB, hoB, hclB⟩, hPc⟩ := hp
  obtain ⟨hfc, kB, hkB, -⟩ := hat
  cases hfc.symm.trans hclB
  intro T hT X
  rcases vx_callIFW X hx (C := C) (hh := hh) (bytes := bytes) (maxL := maxL) (ret := ret) ho cw.link cw.decl cw.face cw.sel cw.inst cw.pub cw.unh cw.cast cw.code cw.notMH hK (by rw [hT]; exact hcB) hoB hclB hkB hg (hsize.trans hml.symm) (argsL := As) (rest := rest) (fun sig h => hn.trans (cw.len sig h)) hstack hW (by rw [hb]; exact hdg)
    (fun vm₁ hW₁ => ⟨hf.1, hf.2, hPc (T.setVm vm₁) hT hW₁⟩) with ⟨v, vm₁, ⟨U', l2, c2, s2⟩, hW₁, X', ⟨g', mk, t, L, e1, e2, hq, h1, hL, h2, h3⟩, st⟩ | ⟨q, vm₁, ⟨U', l2, c2, s2⟩, hW₁, X', ⟨g', mk, t, L, E, ce, e1, e2, hq, hce, hcv, hcl, h1, hL, h2, h3⟩, st⟩
  · dsimp only [Pt.U, Pt.locs, Pt.cells, Pt.slots] at X' e1 e2 h1 h2 h3 st
    subst h1; subst h2; subst h3
    exact Or.inl ⟨v, (T.setVm vm₁).calling g' mk (Value.ref b :: As).toArray, t, U', L, hT, X', hL, e1, e2, hq, st⟩
  · dsimp only [Pt.U, Pt.locs, Pt.cells, Pt.slots] at X' e1 e2 h1 h2 h3 st hcl
    subst h1; subst h2; subst h3
    exact Or.inr ⟨q, (T.setVm vm₁).calling g' mk (Value.ref b :: As).toArray, t, U', L, E, ce, hT, X', hL, e1, e2, hq, hce, hcv, vx_cls hW₁ hcl, st⟩
end
/-! ===== END ===== -/
/-! ===== BEGIN .. of methods that hand back an object of the pool ===== -/
section
variable {p : Program} {l : Launch} {e : Env} {R : Room} {s : State} {m : MethodId} {args : Array Value} {below : List Frame} {meth : Method} {c : Code} {H : Heap} {locs : List Loc} {cells slots : Nat} {Q : State → Prop}
variable {mc ms : Nat} {free : Addr → Prop} {A0 A1 : Nat → Prop} {H0 : Heap} {a : Array Value} {pc : Nat} {ls : Array Slot} {st0 rest : List Value}
theorem vx_callq {S SX : Type} {post : Option Nat → S → Prop} {px : SX → Prop} {B : S → State → Prop} {BX : String → SX → State → Prop} {AX : Nat → Prop} (hr : vx_Run p l e R s m args below meth c H locs cells slots mc ms (F0 m pc ls st0) rest (va_Qq post B A1 a) (vx_X px BX AX) free) (hS : va_S A0 H0 H locs) (hA : ∀ q, q < H.size → A1 q → A0 q) (hf : ∀ q, free q → A0 q) (hAX : ∀ q, q < H.size → AX q → A0 q)
    (kx : ∀ (E : String) (ce : Cell) (q9 : Addr) (u : SX) (t : State) (H1 : Heap) (locs1 : List Loc), t.heap = H1 → s.vm.Alike t.vm → px u → BX E u t → H.size ≤ H1.size → (∀ q : Nat, q < H.size → ¬ AX q → H1[q]? = H[q]?) → va_S A0 H0 H1 locs1 → H1[q9]? = some ce → ce.vm = .none → s.vm.findClass E = some ce.cls → vx_W p l e R s m args below meth c H1 locs1 (cells + mc) (slots + ms) Q (F0 m pc ls rest) q9)
    (kk : ∀ (r : Option Nat) (u : S) (t : State) (H1 : Heap) (locs1 : List Loc), t.heap = H1 → s.vm.Alike t.vm → post r u → B u t → H.size ≤ H1.size → (∀ q : Nat, q < H.size → ¬ A1 q → H1[q]? = H[q]?) → va_S A0 H0 H1 locs1 → W p l e R s m args below meth c H1 locs1 (cells + mc) (slots + ms) Q (F0 m (pc + 3) ls (va_rf r :: rest))) : W p l e R s m args below meth c H locs cells slots Q (F0 m pc ls st0) := by
  intro T hT X
  rcases hr T hT X with ⟨v, st₀, t, T', L, h0, X', hL, e1, e2, ⟨⟨r, u, hv, hp, hb⟩, hF⟩, st⟩ | ⟨q, st₀, t, T', L, E, ce, h0, X', hL, e1, e2, ⟨u, hp, hb, hF⟩, hce, hcv, hcl, st⟩
  · cases hv
    obtain ⟨k1, k2, k3⟩ := vx_keep h0 e1 hS hA hf hL hF
    obtain ⟨t2, a1, b1⟩ := kk r u t T'.heap (locs ++ L) e1.symm (by rw [← e2]; exact X'.warmed.alike) hp hb k1 k2 k3 T' rfl X'
    exact ⟨t2, st t2 a1, b1⟩
  · obtain ⟨k1, k2, k3⟩ := vx_keep h0 e1 hS hAX hf hL hF
    obtain ⟨t2, a1, b1⟩ := kx E ce q u t T'.heap (locs ++ L) e1.symm (by rw [← e2]; exact X'.warmed.alike) hp hb k1 k2 k3 (by rw [e1]; exact hce) hcv hcl T' rfl X'
    exact ⟨t2, st.trans a1, b1⟩
end
/-! ===== END ===== -/
/-! ===== BEGIN .. a constant ===== -/
section
variable {p : Program} {l : Launch} {e : Env} {R : Room} {s : State} {m : MethodId} {args : Array Value} {below : List Frame} {meth : Method} {c : Code} {H : Heap} {locs : List Loc} {cells slots : Nat} {Q : State → Prop}
variable {mc ms : Nat} {free : Addr → Prop} {A0 A1 : Nat → Prop} {H0 : Heap} {a : Array Value} {pc : Nat} {ls : Array Slot} {st0 rest : List Value}
theorem vx_calle {ad : Nat → Nat} {S SX : Type} {post : Option Nat → S → Prop} {px : SX → Prop} {B : S → State → Prop} {BX : String → SX → State → Prop} {AX : Nat → Prop} (hr : vx_Run p l e R s m args below meth c H locs cells slots mc ms (F0 m pc ls st0) rest (va_Qe ad post B A1 a) (vx_X px BX AX) free) (hS : va_S A0 H0 H locs) (hA : ∀ q, q < H.size → A1 q → A0 q) (hf : ∀ q, free q → A0 q) (hAX : ∀ q, q < H.size → AX q → A0 q)
    (kx : ∀ (E : String) (ce : Cell) (q9 : Addr) (u : SX) (t : State) (H1 : Heap) (locs1 : List Loc), t.heap = H1 → s.vm.Alike t.vm → px u → BX E u t → H.size ≤ H1.size → (∀ q : Nat, q < H.size → ¬ AX q → H1[q]? = H[q]?) → va_S A0 H0 H1 locs1 → H1[q9]? = some ce → ce.vm = .none → s.vm.findClass E = some ce.cls → vx_W p l e R s m args below meth c H1 locs1 (cells + mc) (slots + ms) Q (F0 m pc ls rest) q9)
    (kk : ∀ (r : Option Nat) (u : S) (t : State) (H1 : Heap) (locs1 : List Loc), t.heap = H1 → s.vm.Alike t.vm → post r u → B u t → H.size ≤ H1.size → (∀ q : Nat, q < H.size → ¬ A1 q → H1[q]? = H[q]?) → va_S A0 H0 H1 locs1 → W p l e R s m args below meth c H1 locs1 (cells + mc) (slots + ms) Q (F0 m (pc + 3) ls (va_re ad r :: rest))) : W p l e R s m args below meth c H locs cells slots Q (F0 m pc ls st0) := by
  intro T hT X
  rcases hr T hT X with ⟨v, st₀, t, T', L, h0, X', hL, e1, e2, ⟨⟨r, u, hv, hp, hb⟩, hF⟩, st⟩ | ⟨q, st₀, t, T', L, E, ce, h0, X', hL, e1, e2, ⟨u, hp, hb, hF⟩, hce, hcv, hcl, st⟩
  · cases hv
    obtain ⟨k1, k2, k3⟩ := vx_keep h0 e1 hS hA hf hL hF
    obtain ⟨t2, a1, b1⟩ := kk r u t T'.heap (locs ++ L) e1.symm (by rw [← e2]; exact X'.warmed.alike) hp hb k1 k2 k3 T' rfl X'
    exact ⟨t2, st t2 a1, b1⟩
  · obtain ⟨k1, k2, k3⟩ := vx_keep h0 e1 hS hAX hf hL hF
    obtain ⟨t2, a1, b1⟩ := kx E ce q u t T'.heap (locs ++ L) e1.symm (by rw [← e2]; exact X'.warmed.alike) hp hb k1 k2 k3 (by rw [e1]; exact hce) hcv hcl T' rfl X'
    exact ⟨t2, st.trans a1, b1⟩
end
/-! ===== END ===== -/
/-! ===== BEGIN .. by an interface, an object ===== -/
section
variable {p : Program} {l : Launch} {e : Env} {R : Room} {s : State} {m : MethodId} {args : Array Value} {below : List Frame} {meth : Method} {c : Code} {H : Heap} {locs : List Loc} {cells slots : Nat} {Q : State → Prop}
variable {mc ms : Nat} {free : Addr → Prop} {A0 A1 : Nat → Prop} {H0 : Heap} {a : Array Value} {pc : Nat} {ls : Array Slot} {st0 rest : List Value}
theorem vx_callFq {S SX : Type} {post : Option Nat → S → Prop} {px : SX → Prop} {B : S → State → Prop} {BX : String → SX → State → Prop} {AX : Nat → Prop} (hr : vx_Run5 p l e R s m args below meth c H locs cells slots mc ms (F0 m pc ls st0) rest (va_Qq post B A1 a) (vx_X px BX AX) free) (hS : va_S A0 H0 H locs) (hA : ∀ q, q < H.size → A1 q → A0 q) (hf : ∀ q, free q → A0 q) (hAX : ∀ q, q < H.size → AX q → A0 q)
    (kx : ∀ (E : String) (ce : Cell) (q9 : Addr) (u : SX) (t : State) (H1 : Heap) (locs1 : List Loc), t.heap = H1 → s.vm.Alike t.vm → px u → BX E u t → H.size ≤ H1.size → (∀ q : Nat, q < H.size → ¬ AX q → H1[q]? = H[q]?) → va_S A0 H0 H1 locs1 → H1[q9]? = some ce → ce.vm = .none → s.vm.findClass E = some ce.cls → vx_W p l e R s m args below meth c H1 locs1 (cells + mc) (slots + ms) Q (F0 m pc ls rest) q9)
    (kk : ∀ (r : Option Nat) (u : S) (t : State) (H1 : Heap) (locs1 : List Loc), t.heap = H1 → s.vm.Alike t.vm → post r u → B u t → H.size ≤ H1.size → (∀ q : Nat, q < H.size → ¬ A1 q → H1[q]? = H[q]?) → va_S A0 H0 H1 locs1 → W p l e R s m args below meth c H1 locs1 (cells + mc) (slots + ms) Q (F0 m (pc + 5) ls (va_rf r :: rest))) : W p l e R s m args below meth c H locs cells slots Q (F0 m pc ls st0) := by
  intro T hT X
  rcases hr T hT X with ⟨v, st₀, t, T', L, h0, X', hL, e1, e2, ⟨⟨r, u, hv, hp, hb⟩, hF⟩, st⟩ | ⟨q, st₀, t, T', L, E, ce, h0, X', hL, e1, e2, ⟨u, hp, hb, hF⟩, hce, hcv, hcl, st⟩
  · cases hv
    obtain ⟨k1, k2, k3⟩ := vx_keep h0 e1 hS hA hf hL hF
    obtain ⟨t2, a1, b1⟩ := kk r u t T'.heap (locs ++ L) e1.symm (by rw [← e2]; exact X'.warmed.alike) hp hb k1 k2 k3 T' rfl X'
    exact ⟨t2, st t2 a1, b1⟩
  · obtain ⟨k1, k2, k3⟩ := vx_keep h0 e1 hS hAX hf hL hF
    obtain ⟨t2, a1, b1⟩ := kx E ce q u t T'.heap (locs ++ L) e1.symm (by rw [← e2]; exact X'.warmed.alike) hp hb k1 k2 k3 (by rw [e1]; exact hce) hcv hcl T' rfl X'
    exact ⟨t2, st.trans a1, b1⟩
end
/-! ===== END ===== -/
/-! ===== BEGIN .. by an interface, a constant ===== -/
section
variable {p : Program} {l : Launch} {e : Env} {R : Room} {s : State} {m : MethodId} {args : Array Value} {below : List Frame} {meth : Method} {c : Code} {H : Heap} {locs : List Loc} {cells slots : Nat} {Q : State → Prop}
variable {mc ms : Nat} {free : Addr → Prop} {A0 A1 : Nat → Prop} {H0 : Heap} {a : Array Value} {pc : Nat} {ls : Array Slot} {st0 rest : List Value}
theorem vx_callFe {ad : Nat → Nat} {S SX : Type} {post : Option Nat → S → Prop} {px : SX → Prop} {B : S → State → Prop} {BX : String → SX → State → Prop} {AX : Nat → Prop} (hr : vx_Run5 p l e R s m args below meth c H locs cells slots mc ms (F0 m pc ls st0) rest (va_Qe ad post B A1 a) (vx_X px BX AX) free) (hS : va_S A0 H0 H locs) (hA : ∀ q, q < H.size → A1 q → A0 q) (hf : ∀ q, free q → A0 q) (hAX : ∀ q, q < H.size → AX q → A0 q)
    (kx : ∀ (E : String) (ce : Cell) (q9 : Addr) (u : SX) (t : State) (H1 : Heap) (locs1 : List Loc), t.heap = H1 → s.vm.Alike t.vm → px u → BX E u t → H.size ≤ H1.size → (∀ q : Nat, q < H.size → ¬ AX q → H1[q]? = H[q]?) → va_S A0 H0 H1 locs1 → H1[q9]? = some ce → ce.vm = .none → s.vm.findClass E = some ce.cls → vx_W p l e R s m args below meth c H1 locs1 (cells + mc) (slots + ms) Q (F0 m pc ls rest) q9)
    (kk : ∀ (r : Option Nat) (u : S) (t : State) (H1 : Heap) (locs1 : List Loc), t.heap = H1 → s.vm.Alike t.vm → post r u → B u t → H.size ≤ H1.size → (∀ q : Nat, q < H.size → ¬ A1 q → H1[q]? = H[q]?) → va_S A0 H0 H1 locs1 → W p l e R s m args below meth c H1 locs1 (cells + mc) (slots + ms) Q (F0 m (pc + 5) ls (va_re ad r :: rest))) : W p l e R s m args below meth c H locs cells slots Q (F0 m pc ls st0) := by
  intro T hT X
  rcases hr T hT X with ⟨v, st₀, t, T', L, h0, X', hL, e1, e2, ⟨⟨r, u, hv, hp, hb⟩, hF⟩, st⟩ | ⟨q, st₀, t, T', L, E, ce, h0, X', hL, e1, e2, ⟨u, hp, hb, hF⟩, hce, hcv, hcl, st⟩
  · cases hv
    obtain ⟨k1, k2, k3⟩ := vx_keep h0 e1 hS hA hf hL hF
    obtain ⟨t2, a1, b1⟩ := kk r u t T'.heap (locs ++ L) e1.symm (by rw [← e2]; exact X'.warmed.alike) hp hb k1 k2 k3 T' rfl X'
    exact ⟨t2, st t2 a1, b1⟩
  · obtain ⟨k1, k2, k3⟩ := vx_keep h0 e1 hS hAX hf hL hF
    obtain ⟨t2, a1, b1⟩ := kx E ce q u t T'.heap (locs ++ L) e1.symm (by rw [← e2]; exact X'.warmed.alike) hp hb k1 k2 k3 (by rw [e1]; exact hce) hcv hcl T' rfl X'
    exact ⟨t2, st.trans a1, b1⟩
end
/-! ===== END ===== -/
/-! ===== BEGIN what the machine throws by itself: null at a field, at athrow ===== -/
section VXM2
variable {p : Program} {l : Launch} {e : Env} {R : Room} {s : State} {m : MethodId} {args : Array Value} {below : List Frame} {meth : Method} {c : Code} {H : Heap} {locs : List Loc} {cells slots : Nat}
variable {Q : State → Prop} {cc : ByteArray} {pc : Nat} {ls : Array Slot} {rest : List Value}
theorem vx_getfN {D cl tys} {own ref C : String} {T : u_T} {N ci index : Nat} {Ts : List Cond} (hexec : p.tables.exec = Jvm.exec) (hb : c.code = cc) (hts : ∀ w ∈ Ts, w.before args s = true) (hin : ∀ w ∈ u_ws C T N, w ∈ Ts) (hown : s.vm.findClass own = some m.cls) (hK : va_K D cl tys s) (hc : cl[ci]? = some (C, T, N)) (k : Nat) (hk : k < N) (hlink : (Cond.fieldLink own index ref (T k).2.1 (T k).2.2.1).before args s = true) (hsame : ∀ x, s.fieldFound? (T k).1 (T k).2.1 (T k).2.2.1 = some x → s.fieldFound? ref (T k).2.1 (T k).2.2.1 = some x) (hdg : decode cc pc = .ok (.getfield index, 3)) (kk : vx_NoteN p l e R s m args below meth c H locs cells slots Q (F0 m pc ls rest)) : W p l e R s m args below meth c H locs cells slots Q (F0 m pc ls (.null :: rest)) := by
  obtain ⟨hS, hfc, kC, hkC, -⟩ := hK.1 ci _ hc
  obtain ⟨cf, kf, fi, f, hi, -⟩ := hS k hk
  intro U hU X
  obtain ⟨vm', X1, st1⟩ := X.getfieldNull hexec hown hlink (hsame _ hi) (u_facts hfc hkC (u_lays hts hin hk) hi).1 (g := F0 m pc ls (.null :: rest)) rfl (rest := rest) rfl (by rw [hb]; exact hdg)
  obtain ⟨t, st, q⟩ := kk (U.setVm vm') hU X1
  exact ⟨t, st1 t st, q⟩
theorem vx_getfNN {D cl tys} {own ref C host : String} {T : u_T} {N ci index : Nat} {Ts : List Cond} (hexec : p.tables.exec = Jvm.exec) (hb : c.code = cc) (hts : ∀ w ∈ Ts, w.before args s = true) (hin : ∀ w ∈ u_ws C T N, w ∈ Ts) (hown : s.vm.findClass own = some m.cls) (hK : va_K D cl tys s) (hc : cl[ci]? = some (C, T, N)) (k : Nat) (hk : k < N) (hlink : (Cond.fieldLinkNest own index ref (T k).2.1 (T k).2.2.1 host).before args s = true) (hsame : ∀ x, s.fieldFound? (T k).1 (T k).2.1 (T k).2.2.1 = some x → s.fieldFound? ref (T k).2.1 (T k).2.2.1 = some x) (hdg : decode cc pc = .ok (.getfield index, 3)) (kk : vx_NoteN p l e R s m args below meth c H locs cells slots Q (F0 m pc ls rest)) : W p l e R s m args below meth c H locs cells slots Q (F0 m pc ls (.null :: rest)) := by
  obtain ⟨hS, hfc, kC, hkC, -⟩ := hK.1 ci _ hc
  obtain ⟨cf, kf, fi, f, hi, -⟩ := hS k hk
  intro U hU X
  obtain ⟨vm', X1, st1⟩ := X.getfieldNullNest hexec hown hlink (hsame _ hi) (u_facts hfc hkC (u_lays hts hin hk) hi).1 (g := F0 m pc ls (.null :: rest)) rfl (rest := rest) rfl (by rw [hb]; exact hdg)
  obtain ⟨t, st, q⟩ := kk (U.setVm vm') hU X1
  exact ⟨t, st1 t st, q⟩
theorem vx_putfN {D cl tys} {own ref C : String} {T : u_T} {N ci index : Nat} {Ts : List Cond} (hexec : p.tables.exec = Jvm.exec) (hb : c.code = cc) (hts : ∀ w ∈ Ts, w.before args s = true) (hin : ∀ w ∈ u_ws C T N, w ∈ Ts) (hown : s.vm.findClass own = some m.cls) (hK : va_K D cl tys s) (hc : cl[ci]? = some (C, T, N)) (k : Nat) (hk : k < N) (hlink : (Cond.fieldLink own index ref (T k).2.1 (T k).2.2.1).before args s = true) (hsame : ∀ x, s.fieldFound? (T k).1 (T k).2.1 (T k).2.2.1 = some x → s.fieldFound? ref (T k).2.1 (T k).2.2.1 = some x) (hfin : (T k).2.2.2 = false) {v : Value} (hdg : decode cc pc = .ok (.putfield index, 3)) (kk : vx_NoteN p l e R s m args below meth c H locs cells slots Q (F0 m pc ls rest)) : W p l e R s m args below meth c H locs cells slots Q (F0 m pc ls (v :: .null :: rest)) := by
  obtain ⟨hS, hfc, kC, hkC, -⟩ := hK.1 ci _ hc
  obtain ⟨cf, kf, fi, f, hi, -⟩ := hS k hk
  have hlay := hts _ (hin _ (u_in_lay hk))
  unfold u_lay at hlay
  rw [if_neg (by rw [hfin]; decide)] at hlay
  obtain ⟨c9, k9, cf9, kf9, fi9, f9, -, -, hi9, hst9, hnf9, -⟩ := Cond.lays_spec hlay
  cases hi.symm.trans hi9
  intro U hU X
  obtain ⟨vm', X1, st1⟩ := X.putfieldNull hexec hown hlink (hsame _ hi) hst9 hnf9 (g := F0 m pc ls (v :: .null :: rest)) rfl (v := v) (rest := rest) rfl (by rw [hb]; exact hdg)
  obtain ⟨t, st, q⟩ := kk (U.setVm vm') hU X1
  exact ⟨t, st1 t st, q⟩
theorem vx_putfNN {D cl tys} {own ref C host : String} {T : u_T} {N ci index : Nat} {Ts : List Cond} (hexec : p.tables.exec = Jvm.exec) (hb : c.code = cc) (hts : ∀ w ∈ Ts, w.before args s = true) (hin : ∀ w ∈ u_ws C T N, w ∈ Ts) (hown : s.vm.findClass own = some m.cls) (hK : va_K D cl tys s) (hc : cl[ci]? = some (C, T, N)) (k : Nat) (hk : k < N) (hlink : (Cond.fieldLinkNest own index ref (T k).2.1 (T k).2.2.1 host).before args s = true) (hsame : ∀ x, s.fieldFound? (T k).1 (T k).2.1 (T k).2.2.1 = some x → s.fieldFound? ref (T k).2.1 (T k).2.2.1 = some x) (hfin : (T k).2.2.2 = false) {v : Value} (hdg : decode cc pc = .ok (.putfield index, 3)) (kk : vx_NoteN p l e R s m args below meth c H locs cells slots Q (F0 m pc ls rest)) : W p l e R s m args below meth c H locs cells slots Q (F0 m pc ls (v :: .null :: rest)) := by
  obtain ⟨hS, hfc, kC, hkC, -⟩ := hK.1 ci _ hc
  obtain ⟨cf, kf, fi, f, hi, -⟩ := hS k hk
  have hlay := hts _ (hin _ (u_in_lay hk))
  unfold u_lay at hlay
  rw [if_neg (by rw [hfin]; decide)] at hlay
  obtain ⟨c9, k9, cf9, kf9, fi9, f9, -, -, hi9, hst9, hnf9, -⟩ := Cond.lays_spec hlay
  cases hi.symm.trans hi9
  intro U hU X
  obtain ⟨vm', X1, st1⟩ := X.putfieldNullNest hexec hown hlink (hsame _ hi) hst9 hnf9 (g := F0 m pc ls (v :: .null :: rest)) rfl (v := v) (rest := rest) rfl (by rw [hb]; exact hdg)
  obtain ⟨t, st, q⟩ := kk (U.setVm vm') hU X1
  exact ⟨t, st1 t st, q⟩
theorem vx_athrowN (hexec : p.tables.exec = Jvm.exec) (hb : c.code = cc) (hdg : decode cc pc = .ok (.athrow, 1)) (k : vx_NoteN p l e R s m args below meth c H locs cells slots Q (F0 m pc ls rest)) : W p l e R s m args below meth c H locs cells slots Q (F0 m pc ls (.null :: rest)) := by
  intro T hT X
  obtain ⟨t, st, q⟩ := k T hT X
  exact ⟨t, X.athrowNull hexec (g := F0 m pc ls (.null :: rest)) rfl (rest := rest) rfl (by rw [hb]; exact hdg) t st, q⟩
end VXM2
/-! ===== END ===== -/
end
section
/-! the methods: class, arguments (with the receiver), locals, kind (0 static, 1 virtual, 2 constructor), receiver's tag, what it returns (0 int, 1 boolean, 2 long, 3 reference, 4 nothing) -/
def MT : List (Nat × Nat × Nat × Nat × Nat × Nat) := [(0, 4, 4, 2, 0, 4), (1, 6, 6, 2, 1, 4), (1, 1, 3, 1, 1, 0), (2, 1, 1, 2, 2, 4), (2, 1, 1, 1, 2, 4), (2, 5, 5, 1, 2, 0), (2, 4, 7, 1, 2, 0), (2, 4, 6, 1, 2, 0), (2, 3, 6, 1, 2, 0), (2, 1, 2, 1, 2, 1), (3, 1, 1, 2, 3, 4), (3, 4, 5, 1, 3, 4), (3, 2, 8, 1, 3, 0), (3, 3, 7, 1, 3, 2), (4, 2, 5, 1, 4, 0), (4, 2, 4, 1, 4, 0), (4, 2, 5, 1, 4, 0), (4, 6, 6, 2, 4, 4), (4, 2, 5, 1, 4, 4), (4, 4, 7, 1, 4, 1), (4, 1, 1, 1, 4, 0), (4, 4, 6, 1, 4, 4), (4, 1, 3, 1, 4, 0), (4, 2, 4, 1, 4, 0), (4, 1, 2, 1, 4, 0), (4, 1, 1, 1, 4, 1), (4, 1, 1, 1, 4, 1), (4, 1, 3, 1, 4, 0), (5, 1, 1, 2, 5, 4), (5, 3, 3, 1, 5, 4), (5, 1, 1, 1, 5, 0), (5, 2, 8, 1, 5, 4), (5, 1, 1, 0, 5, 0), (5, 5, 6, 1, 5, 4), (5, 4, 4, 1, 5, 1), (5, 2, 2, 1, 5, 1), (5, 3, 3, 1, 5, 0), (6, 1, 2, 2, 6, 4), (6, 5, 5, 1, 6, 0), (6, 4, 7, 1, 6, 4), (6, 2, 5, 1, 6, 4), (6, 3, 4, 1, 6, 0), (6, 3, 3, 1, 6, 0), (6, 4, 7, 1, 6, 0), (6, 3, 3, 1, 6, 1), (7, 1, 1, 2, 7, 4), (7, 1, 1, 1, 7, 4), (7, 3, 4, 1, 7, 1), (7, 4, 4, 1, 7, 0), (7, 1, 1, 1, 7, 0), (7, 4, 4, 1, 7, 0), (7, 2, 3, 1, 7, 4), (7, 2, 4, 1, 7, 1), (7, 3, 8, 1, 7, 4), (7, 1, 1, 1, 7, 0), (7, 1, 1, 1, 7, 0), (7, 1, 3, 1, 7, 0), (7, 2, 2, 1, 7, 1), (7, 1, 2, 1, 7, 0), (7, 1, 4, 1, 7, 0), (7, 2, 5, 1, 7, 0), (7, 3, 7, 1, 7, 0), (7, 2, 2, 1, 7, 1), (7, 1, 1, 0, 7, 0), (7, 1, 1, 1, 7, 0), (7, 2, 3, 1, 7, 0), (7, 1, 3, 1, 7, 1), (8, 1, 1, 2, 8, 4), (8, 1, 1, 1, 8, 4), (8, 1, 2, 1, 8, 4), (8, 4, 8, 1, 8, 1), (8, 3, 4, 1, 8, 1), (8, 2, 2, 1, 8, 4), (8, 1, 3, 1, 8, 0), (8, 2, 2, 1, 8, 0), (9, 1, 1, 2, 9, 4), (9, 5, 5, 1, 9, 4), (9, 2, 5, 1, 9, 0), (9, 3, 7, 1, 9, 0), (10, 4, 4, 2, 10, 4), (10, 2, 2, 1, 10, 1), (11, 1, 2, 2, 11, 4), (11, 3, 4, 1, 11, 0), (11, 3, 3, 0, 11, 1), (11, 1, 1, 0, 11, 4), (11, 1, 2, 0, 11, 0), (11, 2, 2, 0, 11, 1), (11, 2, 2, 1, 11, 0), (11, 1, 1, 0, 11, 4), (11, 5, 5, 1, 11, 0), (11, 1, 1, 0, 11, 1), (11, 4, 4, 1, 11, 0), (11, 4, 4, 1, 11, 0), (11, 1, 1, 0, 11, 1), (11, 1, 1, 0, 11, 4), (11, 5, 6, 1, 11, 0), (11, 2, 2, 0, 11, 1), (11, 1, 1, 0, 11, 1), (11, 2, 2, 1, 11, 1), (11, 2, 2, 1, 11, 4), (11, 6, 8, 1, 11, 0), (11, 1, 1, 0, 11, 1), (11, 5, 7, 1, 11, 0), (11, 2, 2, 1, 11, 1), (11, 5, 6, 1, 11, 0), (11, 4, 4, 1, 11, 0), (11, 6, 8, 1, 11, 0), (11, 4, 5, 1, 11, 0), (11, 2, 2, 1, 11, 1), (11, 2, 2, 1, 11, 1), (11, 2, 4, 1, 11, 0), (11, 4, 6, 1, 11, 0), (11, 4, 4, 1, 11, 0), (11, 4, 6, 1, 11, 0), (11, 4, 4, 1, 11, 0), (11, 1, 1, 0, 11, 1), (11, 3, 4, 1, 11, 0), (11, 4, 4, 1, 11, 0), (11, 4, 4, 1, 11, 0), (11, 5, 5, 1, 11, 0), (11, 3, 3, 0, 11, 1), (11, 6, 7, 1, 11, 0), (11, 2, 2, 1, 11, 0), (11, 1, 4, 1, 11, 2), (11, 2, 4, 0, 11, 2), (11, 2, 6, 1, 11, 2), (11, 2, 7, 1, 11, 2), (11, 3, 4, 1, 11, 0), (11, 2, 7, 1, 11, 2), (11, 3, 4, 1, 11, 0), (11, 2, 3, 1, 11, 0), (11, 2, 4, 1, 11, 0), (11, 2, 2, 0, 11, 1), (11, 2, 2, 1, 11, 0), (11, 2, 2, 1, 11, 0), (11, 3, 3, 1, 11, 0), (11, 3, 5, 1, 11, 0), (11, 2, 4, 1, 11, 1), (11, 2, 2, 1, 11, 0), (11, 2, 3, 1, 11, 0), (11, 2, 2, 1, 11, 1), (11, 2, 7, 1, 11, 2), (11, 3, 4, 1, 11, 0), (11, 2, 2, 1, 11, 0), (11, 2, 4, 1, 11, 0), (11, 2, 4, 1, 11, 0), (11, 2, 3, 1, 11, 0), (11, 2, 2, 1, 11, 0), (11, 3, 3, 0, 11, 0), (11, 2, 2, 1, 11, 1), (11, 2, 5, 1, 11, 0), (11, 2, 5, 1, 11, 0), (11, 3, 6, 1, 11, 0), (11, 2, 6, 1, 11, 2), (11, 3, 5, 1, 11, 0), (11, 2, 6, 1, 11, 0), (11, 2, 6, 1, 11, 2), (11, 2, 2, 1, 11, 0), (11, 1, 4, 1, 11, 0), (11, 3, 3, 1, 11, 0), (11, 3, 4, 1, 11, 0), (11, 2, 10, 1, 11, 0), (11, 1, 1, 1, 11, 1), (11, 1, 4, 1, 11, 1), (11, 1, 4, 1, 11, 1), (12, 1, 1, 2, 12, 4), (12, 1, 4, 1, 12, 4), (12, 1, 1, 1, 12, 1), (12, 1, 1, 1, 12, 0), (12, 2, 2, 1, 12, 1), (12, 4, 4, 1, 12, 4), (12, 1, 1, 1, 12, 3), (12, 2, 4, 1, 12, 3), (12, 2, 2, 1, 12, 3), (12, 2, 2, 1, 12, 3), (13, 2, 2, 0, 99, 0), (13, 2, 2, 0, 99, 0), (13, 3, 7, 0, 99, 4), (13, 1, 10, 0, 99, 1), (14, 1, 1, 2, 99, 4), (15, 1, 1, 2, 99, 4), (16, 2, 4, 0, 99, 4), (16, 2, 2, 0, 99, 3), (16, 2, 5, 0, 99, 4), (17, 2, 2, 0, 99, 0), (18, 3, 3, 0, 99, 0), (19, 1, 1, 0, 99, 0), (20, 1, 2, 0, 99, 0), (21, 2, 2, 0, 99, 0), (21, 2, 2, 0, 99, 0), (21, 1, 1, 0, 99, 0), (22, 3, 4, 0, 99, 0), (22, 2, 3, 0, 99, 0), (13, 1, 4, 0, 99, 1)]
def mtr (z : Nat) : Nat × Nat × Nat × Nat × Nat × Nat := (MT[z]?).getD (99, 0, 0, 9, 99, 9)
def cls (z : Nat) : Nat := (mtr z).1
def mArg (z : Nat) : Nat := if z = 900 then 5 else if z = 901 then 1 else if z = 902 then 2 else if z = 903 then 2 else if z = 904 then 2 else if z = 905 then 1 else (mtr z).2.1
def mLoc (z : Nat) : Nat := (mtr z).2.2.1
def mKnd (z : Nat) : Nat := (mtr z).2.2.2.1
def mTag (z : Nat) : Nat := (mtr z).2.2.2.2.1
def mRet (z : Nat) : Nat := (mtr z).2.2.2.2.2
def isIni (z : Nat) : Bool := mKnd z == 2
def bts (z : Nat) : ByteArray := match z with
  | 0 => prog_2_method_1_code
  | 1 => prog_3_method_1_code
  | 2 => prog_3_method_2_code
  | 3 => prog_4_method_1_code
  | 4 => prog_4_method_2_code
  | 5 => prog_4_method_3_code
  | 6 => prog_4_method_6_code
  | 7 => prog_4_method_4_code
  | 8 => prog_4_method_5_code
  | 9 => prog_4_method_7_code
  | 10 => prog_5_method_1_code
  | 11 => prog_5_method_2_code
  | 12 => prog_5_method_4_code
  | 13 => prog_5_method_3_code
  | 14 => prog_6_method_9_code
  | 15 => prog_6_method_10_code
  | 16 => prog_6_method_8_code
  | 17 => prog_6_method_1_code
  | 18 => prog_6_method_4_code
  | 19 => prog_6_method_5_code
  | 20 => prog_6_method_2_code
  | 21 => prog_6_method_3_code
  | 22 => prog_6_method_6_code
  | 23 => prog_6_method_7_code
  | 24 => prog_6_method_14_code
  | 25 => prog_6_method_12_code
  | 26 => prog_6_method_13_code
  | 27 => prog_6_method_11_code
  | 28 => prog_7_method_1_code
  | 29 => prog_7_method_2_code
  | 30 => prog_7_method_3_code
  | 31 => prog_7_method_8_code
  | 32 => prog_7_method_9_code
  | 33 => prog_7_method_7_code
  | 34 => prog_7_method_5_code
  | 35 => prog_7_method_4_code
  | 36 => prog_7_method_6_code
  | 37 => prog_8_method_1_code
  | 38 => prog_8_method_6_code
  | 39 => prog_8_method_2_code
  | 40 => prog_8_method_3_code
  | 41 => prog_8_method_4_code
  | 42 => prog_8_method_5_code
  | 43 => prog_8_method_7_code
  | 44 => prog_8_method_8_code
  | 45 => prog_9_method_1_code
  | 46 => prog_9_method_2_code
  | 47 => prog_9_method_4_code
  | 48 => prog_9_method_5_code
  | 49 => prog_9_method_3_code
  | 50 => prog_9_method_6_code
  | 51 => prog_9_method_7_code
  | 52 => prog_9_method_9_code
  | 53 => prog_9_method_8_code
  | 54 => prog_9_method_12_code
  | 55 => prog_9_method_13_code
  | 56 => prog_9_method_14_code
  | 57 => prog_9_method_11_code
  | 58 => prog_9_method_15_code
  | 59 => prog_9_method_18_code
  | 60 => prog_9_method_21_code
  | 61 => prog_9_method_19_code
  | 62 => prog_9_method_10_code
  | 63 => prog_9_method_22_code
  | 64 => prog_9_method_16_code
  | 65 => prog_9_method_20_code
  | 66 => prog_9_method_17_code
  | 67 => prog_10_method_1_code
  | 68 => prog_10_method_2_code
  | 69 => prog_10_method_4_code
  | 70 => prog_10_method_5_code
  | 71 => prog_10_method_6_code
  | 72 => prog_10_method_3_code
  | 73 => prog_10_method_8_code
  | 74 => prog_10_method_7_code
  | 75 => prog_11_method_1_code
  | 76 => prog_11_method_2_code
  | 77 => prog_11_method_3_code
  | 78 => prog_11_method_4_code
  | 79 => prog_12_method_1_code
  | 80 => prog_12_method_2_code
  | 81 => prog_1_method_1_code
  | 82 => prog_1_method_2_code
  | 83 => prog_1_method_50_code
  | 84 => prog_1_method_48_code
  | 85 => prog_1_method_65_code
  | 86 => prog_1_method_51_code
  | 87 => prog_1_method_4_code
  | 88 => prog_1_method_49_code
  | 89 => prog_1_method_17_code
  | 90 => prog_1_method_52_code
  | 91 => prog_1_method_19_code
  | 92 => prog_1_method_20_code
  | 93 => prog_1_method_56_code
  | 94 => prog_1_method_47_code
  | 95 => prog_1_method_5_code
  | 96 => prog_1_method_55_code
  | 97 => prog_1_method_54_code
  | 98 => prog_1_method_62_code
  | 99 => prog_1_method_63_code
  | 100 => prog_1_method_7_code
  | 101 => prog_1_method_53_code
  | 102 => prog_1_method_6_code
  | 103 => prog_1_method_59_code
  | 104 => prog_1_method_13_code
  | 105 => prog_1_method_15_code
  | 106 => prog_1_method_21_code
  | 107 => prog_1_method_22_code
  | 108 => prog_1_method_60_code
  | 109 => prog_1_method_61_code
  | 110 => prog_1_method_72_code
  | 111 => prog_1_method_23_code
  | 112 => prog_1_method_27_code
  | 113 => prog_1_method_28_code
  | 114 => prog_1_method_31_code
  | 115 => prog_1_method_57_code
  | 116 => prog_1_method_34_code
  | 117 => prog_1_method_36_code
  | 118 => prog_1_method_37_code
  | 119 => prog_1_method_40_code
  | 120 => prog_1_method_58_code
  | 121 => prog_1_method_41_code
  | 122 => prog_1_method_32_code
  | 123 => prog_1_method_46_code
  | 124 => prog_1_method_86_code
  | 125 => prog_1_method_87_code
  | 126 => prog_1_method_88_code
  | 127 => prog_1_method_10_code
  | 128 => prog_1_method_89_code
  | 129 => prog_1_method_11_code
  | 130 => prog_1_method_64_code
  | 131 => prog_1_method_66_code
  | 132 => prog_1_method_67_code
  | 133 => prog_1_method_14_code
  | 134 => prog_1_method_30_code
  | 135 => prog_1_method_33_code
  | 136 => prog_1_method_42_code
  | 137 => prog_1_method_69_code
  | 138 => prog_1_method_43_code
  | 139 => prog_1_method_70_code
  | 140 => prog_1_method_68_code
  | 141 => prog_1_method_90_code
  | 142 => prog_1_method_24_code
  | 143 => prog_1_method_74_code
  | 144 => prog_1_method_75_code
  | 145 => prog_1_method_76_code
  | 146 => prog_1_method_78_code
  | 147 => prog_1_method_73_code
  | 148 => prog_1_method_77_code
  | 149 => prog_1_method_79_code
  | 150 => prog_1_method_80_code
  | 151 => prog_1_method_25_code
  | 152 => prog_1_method_81_code
  | 153 => prog_1_method_91_code
  | 154 => prog_1_method_26_code
  | 155 => prog_1_method_82_code
  | 156 => prog_1_method_92_code
  | 157 => prog_1_method_38_code
  | 158 => prog_1_method_83_code
  | 159 => prog_1_method_39_code
  | 160 => prog_1_method_44_code
  | 161 => prog_1_method_71_code
  | 162 => prog_1_method_45_code
  | 163 => prog_1_method_84_code
  | 164 => prog_1_method_85_code
  | 165 => prog_34_method_2_code
  | 166 => prog_34_method_40_code
  | 167 => prog_34_method_9_code
  | 168 => prog_34_method_8_code
  | 169 => prog_34_method_25_code
  | 170 => prog_34_method_24_code
  | 171 => prog_34_method_7_code
  | 172 => prog_34_method_6_code
  | 173 => prog_34_method_20_code
  | 174 => prog_34_method_18_code
  | 175 => method_2_code
  | 176 => method_3_code
  | 177 => method_5_code
  | 178 => method_6_code
  | 179 => prog_33_method_1_code
  | 180 => prog_32_method_1_code
  | 181 => prog_35_method_103_code
  | 182 => prog_35_method_119_code
  | 183 => prog_35_method_101_code
  | 184 => prog_38_method_17_code
  | 185 => prog_42_method_11_code
  | 186 => prog_24_method_49_code
  | 187 => prog_26_method_50_code
  | 188 => prog_27_method_69_code
  | 189 => prog_27_method_65_code
  | 190 => prog_27_method_59_code
  | 191 => prog_41_method_27_code
  | 192 => prog_41_method_28_code
  | 193 => code
  | _ => .empty
def lkp {α : Type} (l : List (Nat × Nat × α)) (c k : Nat) : Option α := match l with
  | [] => none
  | (a, b, v) :: l => if a = c ∧ b = k then some v else lkp l c k
/-- fields: class, pool entry; tag, place, kind, final -/
def fldL : List (Nat × Nat × Nat × Nat × Nat × Bool) := [(5, 15, 5, 0, 0, false), (4, 58, 5, 0, 0, false), (5, 19, 5, 1, 0, false), (5, 22, 5, 2, 0, false), (11, 118, 5, 2, 0, false), (5, 9, 5, 3, 3, true), (12, 9, 12, 1, 3, false), (12, 48, 12, 2, 0, false), (14, 7, 12, 0, 0, false), (12, 63, 12, 0, 0, false), (8, 11, 8, 0, 3, true), (8, 34, 8, 1, 0, false), (11, 218, 8, 1, 0, false), (8, 17, 8, 2, 0, false), (11, 206, 8, 2, 0, false), (8, 21, 8, 3, 0, false), (11, 209, 8, 3, 0, false), (8, 49, 8, 4, 0, false), (11, 215, 8, 4, 0, false), (8, 24, 8, 5, 3, true), (8, 28, 8, 6, 3, true), (8, 31, 8, 7, 3, true), (6, 9, 6, 0, 3, true), (6, 15, 6, 1, 3, true), (6, 46, 6, 2, 0, false), (11, 279, 6, 2, 0, false), (6, 18, 6, 3, 3, true), (6, 21, 6, 4, 3, true), (6, 24, 6, 5, 3, true), (6, 27, 6, 6, 3, true), (3, 15, 3, 0, 0, false), (11, 350, 3, 0, 0, false), (3, 9, 3, 1, 3, true), (2, 9, 2, 0, 3, true), (11, 389, 2, 0, 3, true), (2, 34, 2, 1, 0, false), (11, 369, 2, 1, 0, false), (2, 15, 2, 2, 3, true), (2, 18, 2, 3, 3, true), (2, 21, 2, 4, 3, true), (2, 24, 2, 5, 3, true), (7, 39, 7, 0, 0, false), (11, 392, 7, 0, 0, false), (7, 9, 7, 1, 3, true), (11, 595, 7, 1, 3, true), (7, 15, 7, 2, 3, true), (11, 593, 7, 2, 3, true), (7, 19, 7, 3, 3, true), (7, 25, 7, 4, 3, true), (11, 406, 7, 4, 3, true), (7, 63, 7, 5, 0, false), (7, 46, 7, 6, 1, false), (7, 75, 7, 7, 2, false), (7, 29, 7, 8, 3, true), (7, 32, 7, 9, 3, true), (7, 35, 7, 10, 3, true), (9, 19, 9, 0, 0, false), (11, 447, 9, 0, 0, false), (9, 9, 9, 1, 3, true), (9, 15, 9, 2, 3, true), (11, 10, 11, 0, 3, true), (11, 19, 11, 1, 3, true), (11, 25, 11, 2, 3, true), (11, 33, 11, 3, 3, true), (11, 37, 11, 4, 3, true), (11, 40, 11, 5, 3, true), (11, 43, 11, 6, 3, true), (11, 49, 11, 7, 3, true), (11, 56, 11, 8, 3, true), (11, 63, 11, 9, 3, true), (11, 70, 11, 10, 3, true), (11, 372, 11, 11, 0, false), (11, 74, 11, 12, 3, true), (11, 78, 11, 13, 3, true), (11, 81, 11, 14, 3, true), (10, 7, 10, 0, 0, true), (11, 556, 10, 0, 0, true), (10, 13, 10, 1, 0, true), (11, 586, 10, 1, 0, true), (10, 16, 10, 2, 0, true), (11, 587, 10, 2, 0, true), (4, 31, 4, 0, 0, true), (11, 170, 4, 0, 0, true), (4, 35, 4, 1, 0, true), (4, 38, 4, 2, 0, true), (4, 41, 4, 3, 0, true), (11, 186, 4, 3, 0, true), (4, 44, 4, 4, 1, true), (8, 40, 4, 5, 0, false), (4, 9, 4, 6, 3, true), (11, 179, 4, 6, 3, true), (4, 15, 4, 7, 3, true), (11, 182, 4, 7, 3, true), (4, 19, 4, 8, 3, true), (8, 56, 4, 8, 3, true), (4, 65, 4, 9, 0, false), (4, 22, 4, 10, 3, true), (11, 260, 4, 10, 3, true), (4, 25, 4, 11, 3, true), (3, 19, 4, 11, 3, true), (11, 356, 4, 11, 3, true), (11, 382, 4, 12, 1, false), (9, 23, 4, 13, 1, false), (11, 448, 4, 13, 1, false), (4, 28, 4, 14, 3, true), (9, 36, 4, 14, 3, true), (11, 451, 4, 14, 3, true), (9, 33, 4, 15, 0, false), (11, 454, 4, 15, 0, false), (1, 15, 1, 0, 0, true), (11, 559, 1, 0, 0, true), (1, 19, 1, 1, 0, true), (11, 562, 1, 1, 0, true), (1, 22, 1, 2, 0, true), (11, 568, 1, 2, 0, true), (1, 25, 1, 3, 0, true), (11, 338, 1, 3, 0, true), (1, 28, 1, 4, 0, true), (11, 328, 1, 4, 0, true), (11, 303, 1, 5, 0, false), (11, 318, 1, 6, 1, false), (1, 9, 1, 7, 3, true), (11, 312, 1, 7, 3, true), (0, 7, 0, 0, 0, true), (7, 119, 0, 0, 0, true), (0, 13, 0, 1, 0, true), (7, 94, 0, 1, 0, true), (0, 16, 0, 2, 0, true), (7, 95, 0, 2, 0, true)]
/-- calls: class, pool entry; the method (900: System.arraycopy, 901: Object.<init>) -/
def mthL : List (Nat × Nat × Nat) := [(13, 11, 81), (11, 1, 901), (11, 9, 28), (5, 3, 901), (11, 18, 165), (12, 1, 179), (14, 1, 180), (15, 1, 901), (11, 29, 67), (8, 3, 901), (11, 32, 37), (6, 3, 901), (6, 30, 181), (11, 48, 10), (3, 3, 901), (11, 55, 3), (2, 3, 901), (2, 28, 181), (11, 62, 45), (7, 3, 901), (7, 24, 165), (11, 69, 75), (9, 3, 901), (13, 22, 82), (11, 84, 83), (11, 88, 84), (11, 92, 29), (5, 25, 181), (11, 96, 166), (11, 99, 68), (8, 37, 69), (8, 43, 181), (8, 52, 70), (8, 59, 14), (8, 63, 71), (8, 73, 85), (11, 203, 86), (8, 76, 900), (8, 82, 186), (8, 87, 15), (4, 85, 86), (4, 89, 16), (8, 67, 86), (8, 70, 16), (11, 100, 4), (11, 103, 46), (7, 43, 166), (11, 104, 30), (13, 25, 87), (11, 145, 167), (11, 122, 88), (11, 149, 31), (5, 31, 30), (5, 43, 32), (5, 47, 903), (5, 53, 33), (13, 29, 89), (11, 276, 90), (11, 282, 38), (13, 37, 91), (11, 129, 168), (11, 292, 79), (10, 1, 901), (11, 294, 169), (12, 131, 170), (12, 129, 171), (12, 69, 172), (12, 73, 191), (22, 194, 904), (22, 201, 192), (12, 66, 902), (16, 304, 903), (16, 150, 900), (12, 79, 904), (13, 33, 92), (11, 266, 93), (11, 112, 94), (13, 18, 175), (13, 12, 176), (13, 40, 177), (13, 48, 95), (11, 153, 96), (11, 157, 97), (11, 160, 98), (11, 163, 17), (4, 3, 901), (4, 48, 181), (11, 166, 99), (11, 138, 18), (4, 68, 30), (4, 71, 19), (4, 75, 34), (5, 39, 35), (5, 35, 83), (4, 54, 20), (4, 61, 36), (11, 535, 72), (11, 142, 69), (13, 52, 100), (11, 108, 35), (11, 189, 34), (11, 115, 101), (11, 192, 21), (13, 56, 102), (11, 173, 103), (11, 132, 173), (12, 118, 184), (17, 105, 185), (12, 123, 174), (11, 176, 20), (13, 59, 104), (13, 62, 105), (11, 269, 39), (6, 36, 40), (6, 40, 903), (11, 273, 41), (13, 65, 106), (11, 300, 1), (1, 3, 901), (13, 68, 107), (11, 306, 108), (11, 309, 109), (11, 314, 110), (13, 71, 111), (13, 75, 112), (11, 353, 11), (13, 78, 113), (13, 81, 114), (11, 366, 115), (11, 375, 5), (13, 84, 116), (11, 385, 6), (2, 38, 7), (2, 42, 903), (2, 48, 904), (13, 88, 117), (11, 395, 47), (11, 399, 48), (13, 92, 118), (11, 403, 49), (11, 409, 50), (7, 52, 0), (0, 1, 901), (7, 55, 169), (7, 59, 168), (13, 95, 119), (11, 442, 120), (11, 445, 76), (13, 98, 121), (11, 457, 77), (9, 29, 78), (9, 39, 905), (13, 101, 122), (13, 44, 178), (13, 110, 123), (11, 488, 124), (11, 492, 125), (11, 196, 36), (11, 496, 126), (11, 600, 127), (11, 212, 73), (11, 499, 128), (11, 603, 129), (11, 220, 22), (4, 79, 186), (11, 223, 74), (11, 227, 186), (11, 233, 130), (11, 537, 85), (11, 236, 131), (11, 540, 132), (11, 544, 23), (11, 606, 133), (11, 263, 24), (4, 92, 25), (4, 101, 26), (4, 96, 905), (11, 609, 134), (11, 363, 12), (3, 24, 13), (11, 612, 135), (11, 379, 8), (11, 615, 136), (11, 460, 137), (11, 464, 78), (11, 618, 138), (11, 468, 139), (11, 547, 140), (11, 550, 27), (11, 553, 26), (11, 502, 141), (11, 621, 142), (11, 322, 143), (11, 571, 144), (11, 583, 80), (11, 574, 145), (11, 577, 146), (11, 325, 147), (11, 565, 42), (11, 286, 43), (6, 50, 44), (11, 580, 148), (11, 331, 2), (11, 334, 149), (11, 341, 150), (11, 624, 151), (11, 344, 152), (11, 588, 903), (11, 505, 153), (11, 627, 154), (11, 347, 155), (11, 508, 156), (11, 630, 157), (11, 412, 158), (11, 415, 51), (7, 66, 181), (7, 72, 183), (7, 79, 173), (7, 83, 52), (7, 98, 86), (7, 87, 53), (7, 91, 49), (11, 418, 54), (11, 421, 55), (11, 424, 56), (7, 102, 57), (11, 427, 58), (11, 430, 59), (7, 112, 60), (7, 125, 61), (7, 122, 62), (7, 129, 904), (7, 134, 63), (7, 137, 903), (7, 116, 54), (11, 433, 64), (7, 106, 187), (11, 633, 159), (11, 436, 65), (11, 439, 60), (11, 511, 160), (11, 471, 161), (11, 515, 162), (11, 474, 163), (11, 477, 164), (11, 480, 66), (11, 483, 9), (2, 51, 83), (13, 114, 162), (13, 118, 157), (13, 121, 127), (13, 124, 160), (13, 127, 129), (13, 130, 138), (13, 133, 136), (13, 136, 135)]
def newL : List (Nat × Nat × Nat × Nat) := [(13, 9, 11, 15), (11, 7, 5, 4), (11, 16, 12, 3), (11, 23, 8, 8), (8, 9, 4, 16), (11, 30, 6, 7), (11, 46, 3, 2), (11, 53, 2, 6), (11, 60, 7, 11), (7, 22, 12, 3), (11, 67, 9, 3), (11, 290, 10, 3), (11, 136, 4, 16), (11, 298, 1, 8), (7, 50, 0, 3)]
def excL : List (Nat × Nat × Nat) := [(11, 525, 1), (11, 530, 2), (11, 518, 0)]
def anwL : List (Nat × Nat × Nat) := [(11, 23, 104), (8, 9, 105), (16, 2, 103), (12, 7, 103), (11, 136, 105)]
def cstT : List (Nat × Nat × Nat) := [(13, 9, 11), (11, 7, 5), (11, 16, 12), (11, 23, 8), (8, 9, 4), (11, 30, 6), (11, 46, 3), (11, 53, 2), (11, 60, 7), (7, 22, 12), (11, 67, 9), (11, 290, 10), (11, 136, 4), (11, 298, 1), (7, 50, 0)]
def cstL : List (Nat × Nat × Int) := [(19, 265, 1431655765), (19, 266, 858993459), (19, 267, 252645135), (22, 200, 2147483639), (13, 7, 2147483647), (13, 8, 790386105)]
def cstJ : List (Nat × Nat × Int) := [(11, 486, 58267), (11, 598, 31), (20, 314, 6148914691236517205), (20, 316, 3689348814741910323), (20, 318, 1085102592571150095)]
/-- the handlers: what is thrown in this method at this place is caught, and the method returns -/
def hnd (y pc e : Nat) : Bool := (y == 177) && decide (27 ≤ pc) && decide (pc < 598)
/-- the length that an instruction has here -/
def lenI (i : Instr) : Option Nat := match i with
  | .bipush _ | .iload _ | .lload _ | .aload _ | .istore _ | .lstore _ | .astore _ | .ldc _ | .newarray _ => some 2
  | .sipush _ | .ldc_w _ | .ldc2_w _ | .iinc _ _ | .goto _ | .ifCond _ _ | .if_icmp _ _ | .if_acmp _ _ | .getfield _ | .putfield _ | .getstatic _ | .new _ | .anewarray _ | .checkcast _ | .invokestatic _ | .invokevirtual _ | .invokespecial _ => some 3
  | .tableswitch _ _ _ _ => none
  | _ => some 1
def lenOk (i : Instr) (n : Nat) : Bool := match lenI i with
  | some k => k == n
  | none => true
def cod (y pc : Nat) : Option (Instr × Nat) := match decode (bts y) pc with
  | .ok (i, n) => if lenOk i n then some (i, pc + n) else none
  | .error _ => none
theorem cod_of {y pc nx : Nat} {i : Instr} (h : cod y pc = some (i, nx)) : ∃ n, decode (bts y) pc = .ok (i, n) ∧ nx = pc + n ∧ lenOk i n = true := by
  unfold cod at h
  split at h
  · rename_i j n e
    split at h
    · rename_i q
      simp only [Option.some.injEq, Prod.mk.injEq] at h
      obtain ⟨rfl, rfl⟩ := h
      exact ⟨n, e, rfl, q⟩
    · cases h
  · cases h
end
section
/-! ===== classes, methods, words ===== -/
def cT0 : u_T := fun k => match k with
  | 0 => ("PerfgaugeHouse$Bid", "bidder", "I", true)
  | 1 => ("PerfgaugeHouse$Bid", "items", "I", true)
  | _ => ("PerfgaugeHouse$Bid", "amount", "I", true)
def cY0 : Nat → FieldType := fun k => match k with
  | 0 => .int
  | 1 => .int
  | _ => .int
def cT1 : u_T := fun k => match k with
  | 0 => ("PerfgaugeHouse$Cover", "from", "I", true)
  | 1 => ("PerfgaugeHouse$Cover", "to", "I", true)
  | 2 => ("PerfgaugeHouse$Cover", "weight", "I", true)
  | 3 => ("PerfgaugeHouse$Cover", "die", "I", true)
  | 4 => ("PerfgaugeHouse$Cover", "day", "I", true)
  | 5 => ("PerfgaugeHouse$Cover", "arrived", "I", false)
  | 6 => ("PerfgaugeHouse$Cover", "isTaxed", "Z", false)
  | _ => ("PerfgaugeHouse$Cover", "stamps", "[I", true)
def cY1 : Nat → FieldType := fun k => match k with
  | 0 => .int
  | 1 => .int
  | 2 => .int
  | 3 => .int
  | 4 => .int
  | 5 => .int
  | 6 => .boolean
  | _ => .array .int
def cT2 : u_T := fun k => match k with
  | 0 => ("PerfgaugeHouse$Experts", "trust", "[I", true)
  | 1 => ("PerfgaugeHouse$Experts", "opinions", "I", false)
  | 2 => ("PerfgaugeHouse$Experts", "opinionPiece", "[I", true)
  | 3 => ("PerfgaugeHouse$Experts", "opinionExpert", "[I", true)
  | 4 => ("PerfgaugeHouse$Experts", "opinionDay", "[I", true)
  | _ => ("PerfgaugeHouse$Experts", "isGood", "[Z", true)
def cY2 : Nat → FieldType := fun k => match k with
  | 0 => .array .int
  | 1 => .int
  | 2 => .array .int
  | 3 => .array .int
  | 4 => .array .int
  | _ => .array .boolean
def cT3 : u_T := fun k => match k with
  | 0 => ("PerfgaugeHouse$Hands", "count", "I", false)
  | _ => ("PerfgaugeHouse$Hands", "often", "[I", true)
def cY3 : Nat → FieldType := fun k => match k with
  | 0 => .int
  | _ => .array .int
def cT4 : u_T := fun k => match k with
  | 0 => ("PerfgaugeHouse$Piece", "number", "I", true)
  | 1 => ("PerfgaugeHouse$Piece", "wide", "I", true)
  | 2 => ("PerfgaugeHouse$Piece", "high", "I", true)
  | 3 => ("PerfgaugeHouse$Piece", "sheet", "I", true)
  | 4 => ("PerfgaugeHouse$Piece", "isTop", "Z", true)
  | 5 => ("PerfgaugeHouse$Piece", "place", "I", false)
  | 6 => ("PerfgaugeHouse$Piece", "seen", "[I", true)
  | 7 => ("PerfgaugeHouse$Piece", "isClear", "[Z", true)
  | 8 => ("PerfgaugeHouse$Piece", "fits", "[I", true)
  | 9 => ("PerfgaugeHouse$Piece", "plateWide", "I", false)
  | 10 => ("PerfgaugeHouse$Piece", "gauges", "[I", true)
  | 11 => ("PerfgaugeHouse$Piece", "marks", "[I", true)
  | 12 => ("PerfgaugeHouse$Piece", "isTruthTold", "Z", false)
  | 13 => ("PerfgaugeHouse$Piece", "hasShade", "Z", false)
  | 14 => ("PerfgaugeHouse$Piece", "shade", "[I", true)
  | _ => ("PerfgaugeHouse$Piece", "light", "I", false)
def cY4 : Nat → FieldType := fun k => match k with
  | 0 => .int
  | 1 => .int
  | 2 => .int
  | 3 => .int
  | 4 => .boolean
  | 5 => .int
  | 6 => .array .int
  | 7 => .array .boolean
  | 8 => .array .int
  | 9 => .int
  | 10 => .array .int
  | 11 => .array .int
  | 12 => .boolean
  | 13 => .boolean
  | 14 => .array .int
  | _ => .int
def cT5 : u_T := fun k => match k with
  | 0 => ("PerfgaugeHouse$Plate", "wide", "I", false)
  | 1 => ("PerfgaugeHouse$Plate", "high", "I", false)
  | 2 => ("PerfgaugeHouse$Plate", "flaws", "I", false)
  | _ => ("PerfgaugeHouse$Plate", "faces", "[I", true)
def cY5 : Nat → FieldType := fun k => match k with
  | 0 => .int
  | 1 => .int
  | 2 => .int
  | _ => .array .int
def cT6 : u_T := fun k => match k with
  | 0 => ("PerfgaugeHouse$Post", "roads", "[I", true)
  | 1 => ("PerfgaugeHouse$Post", "ways", "[I", true)
  | 2 => ("PerfgaugeHouse$Post", "rates", "I", false)
  | 3 => ("PerfgaugeHouse$Post", "rateFrom", "[I", true)
  | 4 => ("PerfgaugeHouse$Post", "rateDistance", "[I", true)
  | 5 => ("PerfgaugeHouse$Post", "rateWeight", "[I", true)
  | _ => ("PerfgaugeHouse$Post", "ratePrice", "[I", true)
def cY6 : Nat → FieldType := fun k => match k with
  | 0 => .array .int
  | 1 => .array .int
  | 2 => .int
  | 3 => .array .int
  | 4 => .array .int
  | 5 => .array .int
  | _ => .array .int
def cT7 : u_T := fun k => match k with
  | 0 => ("PerfgaugeHouse$Sale", "items", "I", false)
  | 1 => ("PerfgaugeHouse$Sale", "isCover", "[Z", true)
  | 2 => ("PerfgaugeHouse$Sale", "number", "[I", true)
  | 3 => ("PerfgaugeHouse$Sale", "reserve", "[I", true)
  | 4 => ("PerfgaugeHouse$Sale", "bids", "Ljava/util/ArrayList;", true)
  | 5 => ("PerfgaugeHouse$Sale", "barred", "I", false)
  | 6 => ("PerfgaugeHouse$Sale", "isSettled", "Z", false)
  | 7 => ("PerfgaugeHouse$Sale", "counting", "J", false)
  | 8 => ("PerfgaugeHouse$Sale", "amounts", "[I", true)
  | 9 => ("PerfgaugeHouse$Sale", "counts", "[I", true)
  | _ => ("PerfgaugeHouse$Sale", "choices", "[J", true)
def cY7 : Nat → FieldType := fun k => match k with
  | 0 => .int
  | 1 => .array .boolean
  | 2 => .array .int
  | 3 => .array .int
  | 4 => .object "java/util/ArrayList"
  | 5 => .int
  | 6 => .boolean
  | 7 => .long
  | 8 => .array .int
  | 9 => .array .int
  | _ => .array .long
def cT8 : u_T := fun k => match k with
  | 0 => ("PerfgaugeHouse$Sheet", "members", "[LPerfgaugeHouse$Piece;", true)
  | 1 => ("PerfgaugeHouse$Sheet", "size", "I", false)
  | 2 => ("PerfgaugeHouse$Sheet", "platings", "I", false)
  | 3 => ("PerfgaugeHouse$Sheet", "printings", "I", false)
  | 4 => ("PerfgaugeHouse$Sheet", "covered", "I", false)
  | 5 => ("PerfgaugeHouse$Sheet", "places", "[I", true)
  | 6 => ("PerfgaugeHouse$Sheet", "first", "[I", true)
  | _ => ("PerfgaugeHouse$Sheet", "tried", "[I", true)
def cY8 : Nat → FieldType := fun k => match k with
  | 0 => .array (.object "PerfgaugeHouse$Piece")
  | 1 => .int
  | 2 => .int
  | 3 => .int
  | 4 => .int
  | 5 => .array .int
  | 6 => .array .int
  | _ => .array .int
def cT9 : u_T := fun k => match k with
  | 0 => ("PerfgaugeHouse$Standards", "count", "I", false)
  | 1 => ("PerfgaugeHouse$Standards", "isTold", "[Z", true)
  | _ => ("PerfgaugeHouse$Standards", "numbers", "[I", true)
def cY9 : Nat → FieldType := fun k => match k with
  | 0 => .int
  | 1 => .array .boolean
  | _ => .array .int
def cT10 : u_T := fun k => match k with
  | 0 => ("PerfgaugeHouse$Term", "what", "I", true)
  | 1 => ("PerfgaugeHouse$Term", "from", "I", true)
  | _ => ("PerfgaugeHouse$Term", "to", "I", true)
def cY10 : Nat → FieldType := fun k => match k with
  | 0 => .int
  | 1 => .int
  | _ => .int
def cT11 : u_T := fun k => match k with
  | 0 => ("PerfgaugeHouse", "plate", "LPerfgaugeHouse$Plate;", true)
  | 1 => ("PerfgaugeHouse", "pieces", "Ljava/util/ArrayList;", true)
  | 2 => ("PerfgaugeHouse", "sheets", "[LPerfgaugeHouse$Sheet;", true)
  | 3 => ("PerfgaugeHouse", "post", "LPerfgaugeHouse$Post;", true)
  | 4 => ("PerfgaugeHouse", "issues", "Ljava/util/ArrayList;", true)
  | 5 => ("PerfgaugeHouse", "dies", "Ljava/util/ArrayList;", true)
  | 6 => ("PerfgaugeHouse", "covers", "Ljava/util/ArrayList;", true)
  | 7 => ("PerfgaugeHouse", "hands", "LPerfgaugeHouse$Hands;", true)
  | 8 => ("PerfgaugeHouse", "experts", "LPerfgaugeHouse$Experts;", true)
  | 9 => ("PerfgaugeHouse", "sale", "LPerfgaugeHouse$Sale;", true)
  | 10 => ("PerfgaugeHouse", "standards", "LPerfgaugeHouse$Standards;", true)
  | 11 => ("PerfgaugeHouse", "today", "I", false)
  | 12 => ("PerfgaugeHouse", "fewestStamps", "[I", true)
  | 13 => ("PerfgaugeHouse", "frameStamps", "[I", true)
  | _ => ("PerfgaugeHouse", "frameValues", "[I", true)
def cY11 : Nat → FieldType := fun k => match k with
  | 0 => .object "PerfgaugeHouse$Plate"
  | 1 => .object "java/util/ArrayList"
  | 2 => .array (.object "PerfgaugeHouse$Sheet")
  | 3 => .object "PerfgaugeHouse$Post"
  | 4 => .object "java/util/ArrayList"
  | 5 => .object "java/util/ArrayList"
  | 6 => .object "java/util/ArrayList"
  | 7 => .object "PerfgaugeHouse$Hands"
  | 8 => .object "PerfgaugeHouse$Experts"
  | 9 => .object "PerfgaugeHouse$Sale"
  | 10 => .object "PerfgaugeHouse$Standards"
  | 11 => .int
  | 12 => .array .int
  | 13 => .array .int
  | _ => .array .int
def cT12 : u_T := fun k => match k with
  | 0 => ("java/util/AbstractList", "modCount", "I", false)
  | 1 => ("java/util/ArrayList", "elementData", "[Ljava/lang/Object;", false)
  | _ => ("java/util/ArrayList", "size", "I", false)
def cY12 : Nat → FieldType := fun k => match k with
  | 0 => .int
  | 1 => .array (.object "java/lang/Object")
  | _ => .int
abbrev xcl : List vw_C := [("PerfgaugeHouse$Bid", cT0, 3), ("PerfgaugeHouse$Cover", cT1, 8), ("PerfgaugeHouse$Experts", cT2, 6), ("PerfgaugeHouse$Hands", cT3, 2), ("PerfgaugeHouse$Piece", cT4, 16), ("PerfgaugeHouse$Plate", cT5, 4), ("PerfgaugeHouse$Post", cT6, 7), ("PerfgaugeHouse$Sale", cT7, 11), ("PerfgaugeHouse$Sheet", cT8, 8), ("PerfgaugeHouse$Standards", cT9, 3), ("PerfgaugeHouse$Term", cT10, 3), ("PerfgaugeHouse", cT11, 15), ("java/util/ArrayList", cT12, 3)]
def KDS : List (List Nat) := [[0, 0, 0], [0, 0, 0, 0, 0, 0, 1, 3], [3, 0, 3, 3, 3, 3], [0, 3], [0, 0, 0, 0, 1, 0, 3, 3, 3, 0, 3, 3, 1, 1, 3, 0], [0, 0, 0, 3], [3, 3, 0, 3, 3, 3, 3], [0, 3, 3, 3, 3, 0, 1, 2, 3, 3, 3], [3, 0, 0, 0, 0, 3, 3, 3], [0, 3, 3], [0, 0, 0], [3, 3, 3, 3, 3, 3, 3, 3, 3, 3, 3, 0, 3, 3, 3], [0, 3, 0]]
def kdl (t : Nat) : List Nat := (KDS[t]?).getD []
/-- the classes whose pools our methods use -/
def CNM : List String := ["PerfgaugeHouse$Bid", "PerfgaugeHouse$Cover", "PerfgaugeHouse$Experts", "PerfgaugeHouse$Hands", "PerfgaugeHouse$Piece", "PerfgaugeHouse$Plate", "PerfgaugeHouse$Post", "PerfgaugeHouse$Sale", "PerfgaugeHouse$Sheet", "PerfgaugeHouse$Standards", "PerfgaugeHouse$Term", "PerfgaugeHouse", "java/util/ArrayList", "PerfgaugeHouseLaw", "java/util/AbstractList", "java/util/AbstractCollection", "java/util/Arrays", "java/util/Objects", "jdk/internal/util/Preconditions", "java/lang/Integer", "java/lang/Long", "java/lang/Math", "jdk/internal/util/ArraysSupport"]
def cnm (c : Nat) : String := (CNM[c]?).getD ""
def yNm (z : Nat) : MethodName := match z with
  | 0 => ⟨"PerfgaugeHouse$Bid", "<init>", "(III)V"⟩
  | 1 => ⟨"PerfgaugeHouse$Cover", "<init>", "(IIIII)V"⟩
  | 2 => ⟨"PerfgaugeHouse$Cover", "allStamps", "()I"⟩
  | 3 => ⟨"PerfgaugeHouse$Experts", "<init>", "()V"⟩
  | 4 => ⟨"PerfgaugeHouse$Experts", "forgetOpinions", "()V"⟩
  | 5 => ⟨"PerfgaugeHouse$Experts", "addOpinion", "(IIIZ)I"⟩
  | 6 => ⟨"PerfgaugeHouse$Experts", "learn", "(IIZ)I"⟩
  | 7 => ⟨"PerfgaugeHouse$Experts", "heldBy", "(III)I"⟩
  | 8 => ⟨"PerfgaugeHouse$Experts", "standingOf", "(II)I"⟩
  | 9 => ⟨"PerfgaugeHouse$Experts", "areTrustsInRange", "()Z"⟩
  | 10 => ⟨"PerfgaugeHouse$Hands", "<init>", "()V"⟩
  | 11 => ⟨"PerfgaugeHouse$Hands", "tell", "(III)V"⟩
  | 12 => ⟨"PerfgaugeHouse$Hands", "likelyFor", "(LPerfgaugeHouse$Piece;)I"⟩
  | 13 => ⟨"PerfgaugeHouse$Hands", "weightFor", "(LPerfgaugeHouse$Piece;I)J"⟩
  | 14 => ⟨"PerfgaugeHouse$Piece", "clashesWith", "(I)I"⟩
  | 15 => ⟨"PerfgaugeHouse$Piece", "coveredFromAll", "(I)I"⟩
  | 16 => ⟨"PerfgaugeHouse$Piece", "coveredFrom", "(I)I"⟩
  | 17 => ⟨"PerfgaugeHouse$Piece", "<init>", "(IIIIZ)V"⟩
  | 18 => ⟨"PerfgaugeHouse$Piece", "fitAnew", "(LPerfgaugeHouse$Plate;)V"⟩
  | 19 => ⟨"PerfgaugeHouse$Piece", "fitsAt", "(LPerfgaugeHouse$Plate;II)Z"⟩
  | 20 => ⟨"PerfgaugeHouse$Piece", "stamps", "()I"⟩
  | 21 => ⟨"PerfgaugeHouse$Piece", "tearFrom", "(LPerfgaugeHouse$Plate;II)V"⟩
  | 22 => ⟨"PerfgaugeHouse$Piece", "fitPairs", "()I"⟩
  | 23 => ⟨"PerfgaugeHouse$Piece", "fitWithin", "(I)I"⟩
  | 24 => ⟨"PerfgaugeHouse$Piece", "perforation", "()I"⟩
  | 25 => ⟨"PerfgaugeHouse$Piece", "isGauged", "()Z"⟩
  | 26 => ⟨"PerfgaugeHouse$Piece", "isCut", "()Z"⟩
  | 27 => ⟨"PerfgaugeHouse$Piece", "seenKinds", "()I"⟩
  | 28 => ⟨"PerfgaugeHouse$Plate", "<init>", "()V"⟩
  | 29 => ⟨"PerfgaugeHouse$Plate", "begin", "(II)V"⟩
  | 30 => ⟨"PerfgaugeHouse$Plate", "positions", "()I"⟩
  | 31 => ⟨"PerfgaugeHouse$Plate", "engraveBy", "(I)V"⟩
  | 32 => ⟨"PerfgaugeHouse$Plate", "drawAfter", "(I)I"⟩
  | 33 => ⟨"PerfgaugeHouse$Plate", "addFlaw", "(IIII)V"⟩
  | 34 => ⟨"PerfgaugeHouse$Plate", "holds", "(III)Z"⟩
  | 35 => ⟨"PerfgaugeHouse$Plate", "has", "(I)Z"⟩
  | 36 => ⟨"PerfgaugeHouse$Plate", "faceAt", "(II)I"⟩
  | 37 => ⟨"PerfgaugeHouse$Post", "<init>", "()V"⟩
  | 38 => ⟨"PerfgaugeHouse$Post", "addRate", "(IIII)I"⟩
  | 39 => ⟨"PerfgaugeHouse$Post", "lay", "(III)V"⟩
  | 40 => ⟨"PerfgaugeHouse$Post", "shortenThrough", "(I)V"⟩
  | 41 => ⟨"PerfgaugeHouse$Post", "wayOf", "(II)I"⟩
  | 42 => ⟨"PerfgaugeHouse$Post", "distanceOf", "(II)I"⟩
  | 43 => ⟨"PerfgaugeHouse$Post", "priceOn", "(III)I"⟩
  | 44 => ⟨"PerfgaugeHouse$Post", "goesBefore", "(II)Z"⟩
  | 45 => ⟨"PerfgaugeHouse$Sale", "<init>", "()V"⟩
  | 46 => ⟨"PerfgaugeHouse$Sale", "clear", "()V"⟩
  | 47 => ⟨"PerfgaugeHouse$Sale", "offers", "(ZI)Z"⟩
  | 48 => ⟨"PerfgaugeHouse$Sale", "addItem", "(ZII)I"⟩
  | 49 => ⟨"PerfgaugeHouse$Sale", "allItems", "()I"⟩
  | 50 => ⟨"PerfgaugeHouse$Sale", "addBid", "(III)I"⟩
  | 51 => ⟨"PerfgaugeHouse$Sale", "settle", "(I)V"⟩
  | 52 => ⟨"PerfgaugeHouse$Sale", "countsNow", "(LPerfgaugeHouse$Bid;)Z"⟩
  | 53 => ⟨"PerfgaugeHouse$Sale", "offer", "(LPerfgaugeHouse$Bid;J)V"⟩
  | 54 => ⟨"PerfgaugeHouse$Sale", "bestAmount", "()I"⟩
  | 55 => ⟨"PerfgaugeHouse$Sale", "bestCount", "()I"⟩
  | 56 => ⟨"PerfgaugeHouse$Sale", "soldItems", "()I"⟩
  | 57 => ⟨"PerfgaugeHouse$Sale", "isChosen", "(I)Z"⟩
  | 58 => ⟨"PerfgaugeHouse$Sale", "firstBid", "()I"⟩
  | 59 => ⟨"PerfgaugeHouse$Sale", "gain", "()I"⟩
  | 60 => ⟨"PerfgaugeHouse$Sale", "alonePrice", "(I)I"⟩
  | 61 => ⟨"PerfgaugeHouse$Sale", "greatestAlone", "(II)I"⟩
  | 62 => ⟨"PerfgaugeHouse$Sale", "isCounting", "(I)Z"⟩
  | 63 => ⟨"PerfgaugeHouse$Sale", "stepOf", "(I)I"⟩
  | 64 => ⟨"PerfgaugeHouse$Sale", "countingBids", "()I"⟩
  | 65 => ⟨"PerfgaugeHouse$Sale", "aloneBidder", "(I)I"⟩
  | 66 => ⟨"PerfgaugeHouse$Sale", "isWithoutCommonItems", "()Z"⟩
  | 67 => ⟨"PerfgaugeHouse$Sheet", "<init>", "()V"⟩
  | 68 => ⟨"PerfgaugeHouse$Sheet", "clear", "()V"⟩
  | 69 => ⟨"PerfgaugeHouse$Sheet", "plateAnew", "()V"⟩
  | 70 => ⟨"PerfgaugeHouse$Sheet", "placeFrom", "(III)Z"⟩
  | 71 => ⟨"PerfgaugeHouse$Sheet", "placeLast", "(II)Z"⟩
  | 72 => ⟨"PerfgaugeHouse$Sheet", "add", "(LPerfgaugeHouse$Piece;)V"⟩
  | 73 => ⟨"PerfgaugeHouse$Sheet", "certainPieces", "()I"⟩
  | 74 => ⟨"PerfgaugeHouse$Sheet", "placesOf", "(LPerfgaugeHouse$Piece;)I"⟩
  | 75 => ⟨"PerfgaugeHouse$Standards", "<init>", "()V"⟩
  | 76 => ⟨"PerfgaugeHouse$Standards", "tell", "(IIII)V"⟩
  | 77 => ⟨"PerfgaugeHouse$Standards", "nearTo", "(LPerfgaugeHouse$Piece;)I"⟩
  | 78 => ⟨"PerfgaugeHouse$Standards", "difference", "(ILPerfgaugeHouse$Piece;)I"⟩
  | 79 => ⟨"PerfgaugeHouse$Term", "<init>", "(III)V"⟩
  | 80 => ⟨"PerfgaugeHouse$Term", "isOn", "(I)Z"⟩
  | 81 => ⟨"PerfgaugeHouse", "<init>", "()V"⟩
  | 82 => ⟨"PerfgaugeHouse", "plate", "(II)I"⟩
  | 83 => ⟨"PerfgaugeHouse", "isWithin", "(III)Z"⟩
  | 84 => ⟨"PerfgaugeHouse", "checkGiven", "(Z)V"⟩
  | 85 => ⟨"PerfgaugeHouse", "smallestOf", "(I)I"⟩
  | 86 => ⟨"PerfgaugeHouse", "isInSet", "(II)Z"⟩
  | 87 => ⟨"PerfgaugeHouse", "engrave", "(I)I"⟩
  | 88 => ⟨"PerfgaugeHouse", "checkState", "(Z)V"⟩
  | 89 => ⟨"PerfgaugeHouse", "rate", "(IIII)I"⟩
  | 90 => ⟨"PerfgaugeHouse", "isDay", "(I)Z"⟩
  | 91 => ⟨"PerfgaugeHouse", "issue", "(III)I"⟩
  | 92 => ⟨"PerfgaugeHouse", "die", "(III)I"⟩
  | 93 => ⟨"PerfgaugeHouse", "isTown", "(I)Z"⟩
  | 94 => ⟨"PerfgaugeHouse", "checkThere", "(Z)V"⟩
  | 95 => ⟨"PerfgaugeHouse", "piece", "(IIIZ)I"⟩
  | 96 => ⟨"PerfgaugeHouse", "isPieceSize", "(II)Z"⟩
  | 97 => ⟨"PerfgaugeHouse", "isSheet", "(I)Z"⟩
  | 98 => ⟨"PerfgaugeHouse", "hasRoomForPiece", "(I)Z"⟩
  | 99 => ⟨"PerfgaugeHouse", "keepPiece", "(LPerfgaugeHouse$Piece;)V"⟩
  | 100 => ⟨"PerfgaugeHouse", "tear", "(IIIII)I"⟩
  | 101 => ⟨"PerfgaugeHouse", "isPrinting", "(I)Z"⟩
  | 102 => ⟨"PerfgaugeHouse", "seen", "(IIIZ)I"⟩
  | 103 => ⟨"PerfgaugeHouse", "isPiece", "(I)Z"⟩
  | 104 => ⟨"PerfgaugeHouse", "edge", "(IIII)I"⟩
  | 105 => ⟨"PerfgaugeHouse", "road", "(III)I"⟩
  | 106 => ⟨"PerfgaugeHouse", "cover", "(IIIII)I"⟩
  | 107 => ⟨"PerfgaugeHouse", "stick", "(III)I"⟩
  | 108 => ⟨"PerfgaugeHouse", "isCoverNumber", "(I)Z"⟩
  | 109 => ⟨"PerfgaugeHouse", "isIssue", "(I)Z"⟩
  | 110 => ⟨"PerfgaugeHouse", "paidFor", "(LPerfgaugeHouse$Cover;)I"⟩
  | 111 => ⟨"PerfgaugeHouse", "arrive", "(IIZ)I"⟩
  | 112 => ⟨"PerfgaugeHouse", "hand", "(III)I"⟩
  | 113 => ⟨"PerfgaugeHouse", "mark", "(III)I"⟩
  | 114 => ⟨"PerfgaugeHouse", "opine", "(IIZ)I"⟩
  | 115 => ⟨"PerfgaugeHouse", "isExpert", "(I)Z"⟩
  | 116 => ⟨"PerfgaugeHouse", "truth", "(IZ)I"⟩
  | 117 => ⟨"PerfgaugeHouse", "item", "(ZII)I"⟩
  | 118 => ⟨"PerfgaugeHouse", "bid", "(III)I"⟩
  | 119 => ⟨"PerfgaugeHouse", "standard", "(IIII)I"⟩
  | 120 => ⟨"PerfgaugeHouse", "isShade", "(III)Z"⟩
  | 121 => ⟨"PerfgaugeHouse", "shade", "(IIIII)I"⟩
  | 122 => ⟨"PerfgaugeHouse", "pass", "(I)I"⟩
  | 123 => ⟨"PerfgaugeHouse", "digest", "()J"⟩
  | 124 => ⟨"PerfgaugeHouse", "mix", "(JJ)J"⟩
  | 125 => ⟨"PerfgaugeHouse", "mixFaces", "(J)J"⟩
  | 126 => ⟨"PerfgaugeHouse", "mixSheets", "(J)J"⟩
  | 127 => ⟨"PerfgaugeHouse", "plating", "(II)I"⟩
  | 128 => ⟨"PerfgaugeHouse", "mixPieces", "(J)J"⟩
  | 129 => ⟨"PerfgaugeHouse", "ofPiece", "(II)I"⟩
  | 130 => ⟨"PerfgaugeHouse", "certainPosition", "(LPerfgaugeHouse$Piece;)I"⟩
  | 131 => ⟨"PerfgaugeHouse", "alikeTo", "(LPerfgaugeHouse$Piece;)I"⟩
  | 132 => ⟨"PerfgaugeHouse", "isAlike", "(LPerfgaugeHouse$Piece;LPerfgaugeHouse$Piece;)Z"⟩
  | 133 => ⟨"PerfgaugeHouse", "holes", "(I)I"⟩
  | 134 => ⟨"PerfgaugeHouse", "likely", "(I)I"⟩
  | 135 => ⟨"PerfgaugeHouse", "standing", "(II)I"⟩
  | 136 => ⟨"PerfgaugeHouse", "near", "(II)I"⟩
  | 137 => ⟨"PerfgaugeHouse", "isContradicted", "(LPerfgaugeHouse$Piece;)Z"⟩
  | 138 => ⟨"PerfgaugeHouse", "value", "(I)I"⟩
  | 139 => ⟨"PerfgaugeHouse", "valueOf", "(LPerfgaugeHouse$Piece;)I"⟩
  | 140 => ⟨"PerfgaugeHouse", "isBad", "(I)Z"⟩
  | 141 => ⟨"PerfgaugeHouse", "mixCovers", "(J)J"⟩
  | 142 => ⟨"PerfgaugeHouse", "ofCover", "(II)I"⟩
  | 143 => ⟨"PerfgaugeHouse", "faultsOf", "(LPerfgaugeHouse$Cover;)I"⟩
  | 144 => ⟨"PerfgaugeHouse", "dieFaults", "(LPerfgaugeHouse$Cover;)I"⟩
  | 145 => ⟨"PerfgaugeHouse", "stampFaults", "(LPerfgaugeHouse$Cover;)I"⟩
  | 146 => ⟨"PerfgaugeHouse", "wayFaults", "(LPerfgaugeHouse$Cover;)I"⟩
  | 147 => ⟨"PerfgaugeHouse", "priceFor", "(LPerfgaugeHouse$Cover;)I"⟩
  | 148 => ⟨"PerfgaugeHouse", "priceFaults", "(IIZ)I"⟩
  | 149 => ⟨"PerfgaugeHouse", "isImpossible", "(LPerfgaugeHouse$Cover;)Z"⟩
  | 150 => ⟨"PerfgaugeHouse", "wearOf", "(I)I"⟩
  | 151 => ⟨"PerfgaugeHouse", "franking", "(I)I"⟩
  | 152 => ⟨"PerfgaugeHouse", "fewestFor", "(II)I"⟩
  | 153 => ⟨"PerfgaugeHouse", "mixIssues", "(J)J"⟩
  | 154 => ⟨"PerfgaugeHouse", "ofIssue", "(IZ)I"⟩
  | 155 => ⟨"PerfgaugeHouse", "scarcityOf", "(I)I"⟩
  | 156 => ⟨"PerfgaugeHouse", "mixSale", "(J)J"⟩
  | 157 => ⟨"PerfgaugeHouse", "ofSale", "(I)I"⟩
  | 158 => ⟨"PerfgaugeHouse", "barredItems", "()I"⟩
  | 159 => ⟨"PerfgaugeHouse", "alone", "(IZ)I"⟩
  | 160 => ⟨"PerfgaugeHouse", "frame", "(IZ)I"⟩
  | 161 => ⟨"PerfgaugeHouse", "bestFrame", "(I)I"⟩
  | 162 => ⟨"PerfgaugeHouse", "isSound", "()Z"⟩
  | 163 => ⟨"PerfgaugeHouse", "areCertainPiecesFitting", "()Z"⟩
  | 164 => ⟨"PerfgaugeHouse", "areWearsOfPossibleCovers", "()Z"⟩
  | 165 => ⟨"java/util/ArrayList", "<init>", "()V"⟩
  | 166 => ⟨"java/util/ArrayList", "clear", "()V"⟩
  | 167 => ⟨"java/util/ArrayList", "isEmpty", "()Z"⟩
  | 168 => ⟨"java/util/ArrayList", "size", "()I"⟩
  | 169 => ⟨"java/util/ArrayList", "add", "(Ljava/lang/Object;)Z"⟩
  | 170 => ⟨"java/util/ArrayList", "add", "(Ljava/lang/Object;[Ljava/lang/Object;I)V"⟩
  | 171 => ⟨"java/util/ArrayList", "grow", "()[Ljava/lang/Object;"⟩
  | 172 => ⟨"java/util/ArrayList", "grow", "(I)[Ljava/lang/Object;"⟩
  | 173 => ⟨"java/util/ArrayList", "get", "(I)Ljava/lang/Object;"⟩
  | 174 => ⟨"java/util/ArrayList", "elementData", "(I)Ljava/lang/Object;"⟩
  | 175 => ⟨"PerfgaugeHouseLaw", "below", "(II)I"⟩
  | 176 => ⟨"PerfgaugeHouseLaw", "cell", "([II)I"⟩
  | 177 => ⟨"PerfgaugeHouseLaw", "act", "(LPerfgaugeHouse;II)V"⟩
  | 178 => ⟨"PerfgaugeHouseLaw", "isAsked", "(LPerfgaugeHouse;)Z"⟩
  | 179 => ⟨"java/util/AbstractList", "<init>", "()V"⟩
  | 180 => ⟨"java/util/AbstractCollection", "<init>", "()V"⟩
  | 181 => ⟨"java/util/Arrays", "fill", "([II)V"⟩
  | 182 => ⟨"java/util/Arrays", "copyOf", "([Ljava/lang/Object;I)[Ljava/lang/Object;"⟩
  | 183 => ⟨"java/util/Arrays", "fill", "([JJ)V"⟩
  | 184 => ⟨"java/util/Objects", "checkIndex", "(II)I"⟩
  | 185 => ⟨"jdk/internal/util/Preconditions", "checkIndex", "(IILjava/util/function/BiFunction;)I"⟩
  | 186 => ⟨"java/lang/Integer", "bitCount", "(I)I"⟩
  | 187 => ⟨"java/lang/Long", "bitCount", "(J)I"⟩
  | 188 => ⟨"java/lang/Math", "min", "(II)I"⟩
  | 189 => ⟨"java/lang/Math", "max", "(II)I"⟩
  | 190 => ⟨"java/lang/Math", "abs", "(I)I"⟩
  | 191 => ⟨"jdk/internal/util/ArraysSupport", "newLength", "(III)I"⟩
  | 192 => ⟨"jdk/internal/util/ArraysSupport", "hugeLength", "(II)I"⟩
  | 193 => ⟨"PerfgaugeHouseLaw", "law", "([I)Z"⟩
  | _ => ⟨"", "", ""⟩
def rtT (z : Nat) : Option FieldType := match z with
  | 2 => some (.int)
  | 5 => some (.int)
  | 6 => some (.int)
  | 7 => some (.int)
  | 8 => some (.int)
  | 9 => some (.boolean)
  | 12 => some (.int)
  | 13 => some (.long)
  | 14 => some (.int)
  | 15 => some (.int)
  | 16 => some (.int)
  | 19 => some (.boolean)
  | 20 => some (.int)
  | 22 => some (.int)
  | 23 => some (.int)
  | 24 => some (.int)
  | 25 => some (.boolean)
  | 26 => some (.boolean)
  | 27 => some (.int)
  | 30 => some (.int)
  | 32 => some (.int)
  | 34 => some (.boolean)
  | 35 => some (.boolean)
  | 36 => some (.int)
  | 38 => some (.int)
  | 41 => some (.int)
  | 42 => some (.int)
  | 43 => some (.int)
  | 44 => some (.boolean)
  | 47 => some (.boolean)
  | 48 => some (.int)
  | 49 => some (.int)
  | 50 => some (.int)
  | 52 => some (.boolean)
  | 54 => some (.int)
  | 55 => some (.int)
  | 56 => some (.int)
  | 57 => some (.boolean)
  | 58 => some (.int)
  | 59 => some (.int)
  | 60 => some (.int)
  | 61 => some (.int)
  | 62 => some (.boolean)
  | 63 => some (.int)
  | 64 => some (.int)
  | 65 => some (.int)
  | 66 => some (.boolean)
  | 70 => some (.boolean)
  | 71 => some (.boolean)
  | 73 => some (.int)
  | 74 => some (.int)
  | 77 => some (.int)
  | 78 => some (.int)
  | 80 => some (.boolean)
  | 82 => some (.int)
  | 83 => some (.boolean)
  | 85 => some (.int)
  | 86 => some (.boolean)
  | 87 => some (.int)
  | 89 => some (.int)
  | 90 => some (.boolean)
  | 91 => some (.int)
  | 92 => some (.int)
  | 93 => some (.boolean)
  | 95 => some (.int)
  | 96 => some (.boolean)
  | 97 => some (.boolean)
  | 98 => some (.boolean)
  | 100 => some (.int)
  | 101 => some (.boolean)
  | 102 => some (.int)
  | 103 => some (.boolean)
  | 104 => some (.int)
  | 105 => some (.int)
  | 106 => some (.int)
  | 107 => some (.int)
  | 108 => some (.boolean)
  | 109 => some (.boolean)
  | 110 => some (.int)
  | 111 => some (.int)
  | 112 => some (.int)
  | 113 => some (.int)
  | 114 => some (.int)
  | 115 => some (.boolean)
  | 116 => some (.int)
  | 117 => some (.int)
  | 118 => some (.int)
  | 119 => some (.int)
  | 120 => some (.boolean)
  | 121 => some (.int)
  | 122 => some (.int)
  | 123 => some (.long)
  | 124 => some (.long)
  | 125 => some (.long)
  | 126 => some (.long)
  | 127 => some (.int)
  | 128 => some (.long)
  | 129 => some (.int)
  | 130 => some (.int)
  | 131 => some (.int)
  | 132 => some (.boolean)
  | 133 => some (.int)
  | 134 => some (.int)
  | 135 => some (.int)
  | 136 => some (.int)
  | 137 => some (.boolean)
  | 138 => some (.int)
  | 139 => some (.int)
  | 140 => some (.boolean)
  | 141 => some (.long)
  | 142 => some (.int)
  | 143 => some (.int)
  | 144 => some (.int)
  | 145 => some (.int)
  | 146 => some (.int)
  | 147 => some (.int)
  | 148 => some (.int)
  | 149 => some (.boolean)
  | 150 => some (.int)
  | 151 => some (.int)
  | 152 => some (.int)
  | 153 => some (.long)
  | 154 => some (.int)
  | 155 => some (.int)
  | 156 => some (.long)
  | 157 => some (.int)
  | 158 => some (.int)
  | 159 => some (.int)
  | 160 => some (.int)
  | 161 => some (.int)
  | 162 => some (.boolean)
  | 163 => some (.boolean)
  | 164 => some (.boolean)
  | 167 => some (.boolean)
  | 168 => some (.int)
  | 169 => some (.boolean)
  | 171 => some (.array (.object "java/lang/Object"))
  | 172 => some (.array (.object "java/lang/Object"))
  | 173 => some (.object "java/lang/Object")
  | 174 => some (.object "java/lang/Object")
  | 175 => some (.int)
  | 176 => some (.int)
  | 178 => some (.boolean)
  | 182 => some (.array (.object "java/lang/Object"))
  | 184 => some (.int)
  | 185 => some (.int)
  | 186 => some (.int)
  | 187 => some (.int)
  | 188 => some (.int)
  | 189 => some (.int)
  | 190 => some (.int)
  | 191 => some (.int)
  | 192 => some (.int)
  | 193 => some (.boolean)
  | _ => none
def LWG : List Cond := lw_tbl.filter goodWord
theorem lwg_of {w : Cond} {i : Nat} (h : (lw_tbl[i]?).map (fun v => decide (v = w) && goodWord v) = some true) : w ∈ LWG := by
  cases e : lw_tbl[i]? with
  | none => rw [e] at h; cases h
  | some v =>
    rw [e] at h
    simp only [Option.map_some, Option.some.injEq, Bool.and_eq_true, decide_eq_true_eq] at h
    obtain ⟨rfl, hg⟩ := h
    exact List.mem_filter.mpr ⟨List.mem_of_getElem? e, hg⟩
theorem lwg_good : ∀ w ∈ LWG, goodWord w = true := fun w h => (List.mem_filter.mp h).2
def atI (i : Nat) (w : Cond) : Bool := match lw_tbl[i]? with
  | some v => decide (v = w) && goodWord v
  | none => false
theorem atI_mem {w : Cond} {i : Nat} (h : atI i w = true) : w ∈ LWG := by
  apply lwg_of (i := i)
  unfold atI at h
  cases e : lw_tbl[i]? with
  | none => rw [e] at h; cases h
  | some v => rw [e] at h; simpa using h
/-- places of the words of a method: code, instance or static, selects, initialized -/
def mPl : List (Nat × Nat × Nat × Nat × Nat) := [(0, 980, 979, 9999, 73), (1, 862, 861, 9999, 72), (2, 1203, 1201, 1202, 72), (3, 219, 218, 9999, 55), (4, 491, 489, 490, 55), (5, 937, 935, 936, 55), (6, 945, 943, 944, 55), (7, 949, 948, 14, 55), (8, 1126, 1124, 1125, 55), (9, 1352, 1350, 1351, 55), (10, 205, 204, 9999, 54), (11, 922, 920, 921, 54), (12, 1114, 1112, 1113, 54), (13, 1118, 1116, 1117, 54), (14, 457, 455, 456, 69), (15, 480, 478, 479, 69), (16, 485, 483, 484, 69), (17, 698, 697, 9999, 69), (18, 769, 767, 768, 69), (19, 774, 773, 8, 69), (20, 787, 785, 786, 69), (21, 809, 807, 808, 69), (22, 1067, 1065, 1066, 69), (23, 1089, 1087, 1088, 69), (24, 1097, 1095, 1096, 69), (25, 1101, 1099, 1100, 69), (26, 1105, 1103, 1104, 69), (27, 1151, 1149, 1150, 69), (28, 87, 86, 9999, 47), (29, 435, 433, 434, 47), (30, 500, 498, 499, 47), (31, 531, 529, 530, 47), (32, 535, 534, 9999, 47), (33, 542, 540, 541, 47), (34, 778, 776, 777, 47), (35, 782, 780, 781, 47), (36, 791, 789, 790, 47), (37, 173, 172, 9999, 52), (38, 553, 551, 552, 52), (39, 844, 842, 843, 52), (40, 848, 847, 10, 52), (41, 853, 851, 852, 52), (42, 1188, 1186, 1187, 52), (43, 1192, 1190, 1191, 52), (44, 1196, 1195, 29, 52), (45, 248, 247, 9999, 56), (46, 495, 493, 494, 56), (47, 959, 957, 958, 56), (48, 963, 961, 962, 56), (49, 971, 969, 970, 56), (50, 975, 973, 974, 56), (51, 1248, 1246, 1247, 56), (52, 1257, 1256, 37, 56), (53, 1262, 1261, 38, 56), (54, 1267, 1265, 1266, 56), (55, 1271, 1269, 1270, 56), (56, 1275, 1273, 1274, 56), (57, 1279, 1278, 39, 56), (58, 1283, 1281, 1282, 56), (59, 1287, 1285, 1286, 56), (60, 1291, 1289, 1290, 56), (61, 1295, 1294, 40, 56), (62, 1299, 1298, 41, 56), (63, 1303, 1302, 9999, 56), (64, 1309, 1307, 1308, 56), (65, 1323, 1321, 1322, 56), (66, 1348, 1346, 1347, 56), (67, 136, 135, 9999, 51), (68, 444, 442, 443, 51), (69, 448, 446, 447, 51), (70, 453, 452, 1, 51), (71, 461, 460, 2, 51), (72, 795, 793, 794, 51), (73, 1055, 1053, 1054, 51), (74, 1072, 1070, 1071, 51), (75, 295, 294, 9999, 57), (76, 1007, 1005, 1006, 57), (77, 1015, 1013, 1014, 57), (78, 1019, 1017, 1018, 57), (79, 566, 565, 9999, 67), (80, 1172, 1170, 1171, 67), (81, 79, 78, 9999, 46), (82, 357, 355, 356, 46), (83, 360, 359, 9999, 46), (84, 363, 362, 9999, 46), (85, 464, 463, 9999, 46), (86, 467, 466, 9999, 46), (87, 504, 502, 503, 46), (88, 511, 510, 9999, 46), (89, 546, 544, 545, 46), (90, 549, 548, 9999, 46), (91, 557, 555, 556, 46), (92, 643, 641, 642, 46), (93, 646, 645, 9999, 46), (94, 649, 648, 9999, 46), (95, 683, 681, 682, 46), (96, 686, 685, 9999, 46), (97, 689, 688, 9999, 46), (98, 693, 692, 6, 46), (99, 765, 764, 7, 46), (100, 800, 798, 799, 46), (101, 805, 804, 9999, 46), (102, 813, 811, 812, 46), (103, 817, 816, 9, 46), (104, 836, 834, 835, 46), (105, 840, 838, 839, 46), (106, 857, 855, 856, 46), (107, 898, 896, 897, 46), (108, 902, 901, 11, 46), (109, 906, 905, 12, 46), (110, 910, 909, 13, 46), (111, 914, 912, 913, 46), (112, 918, 916, 917, 46), (113, 926, 924, 925, 46), (114, 930, 928, 929, 46), (115, 933, 932, 9999, 46), (116, 941, 939, 940, 46), (117, 955, 953, 954, 46), (118, 967, 965, 966, 46), (119, 1000, 998, 999, 46), (120, 1003, 1002, 9999, 46), (121, 1011, 1009, 1010, 46), (122, 1026, 1024, 1025, 46), (123, 1033, 1031, 1032, 46), (124, 1037, 1036, 9999, 46), (125, 1042, 1041, 15, 46), (126, 1047, 1046, 16, 46), (127, 1051, 1049, 1050, 46), (128, 1059, 1058, 17, 46), (129, 1063, 1061, 1062, 46), (130, 1077, 1076, 18, 46), (131, 1082, 1081, 19, 46), (132, 1085, 1084, 9999, 46), (133, 1093, 1091, 1092, 46), (134, 1110, 1108, 1109, 46), (135, 1122, 1120, 1121, 46), (136, 1130, 1128, 1129, 46), (137, 1134, 1133, 20, 46), (138, 1139, 1137, 1138, 46), (139, 1143, 1142, 21, 46), (140, 1147, 1146, 22, 46), (141, 1156, 1155, 23, 46), (142, 1160, 1158, 1159, 46), (143, 1164, 1163, 24, 46), (144, 1168, 1167, 25, 46), (145, 1176, 1175, 26, 46), (146, 1180, 1179, 27, 46), (147, 1184, 1183, 28, 46), (148, 1199, 1198, 9999, 46), (149, 1207, 1206, 30, 46), (150, 1211, 1210, 31, 46), (151, 1215, 1213, 1214, 46), (152, 1219, 1218, 32, 46), (153, 1224, 1223, 33, 46), (154, 1228, 1226, 1227, 46), (155, 1232, 1231, 34, 46), (156, 1236, 1235, 35, 46), (157, 1240, 1238, 1239, 46), (158, 1244, 1243, 36, 46), (159, 1319, 1317, 1318, 46), (160, 1328, 1326, 1327, 46), (161, 1332, 1331, 42, 46), (162, 1336, 1334, 1335, 46), (163, 1340, 1339, 43, 46), (164, 1344, 1343, 44, 46), (165, 109, 108, 9999, 50), (166, 440, 438, 439, 50), (167, 508, 506, 507, 50), (168, 561, 559, 560, 50), (169, 584, 582, 583, 50), (170, 588, 587, 3, 50), (171, 592, 591, 4, 50), (172, 596, 595, 5, 50), (173, 821, 819, 820, 50), (174, 831, 829, 830, 50), (175, 668, 667, 9999, 45), (176, 672, 671, 9999, 45), (178, 1029, 1028, 9999, 45), (179, 112, 111, 9999, 49), (180, 115, 114, 9999, 48), (181, 177, 176, 9999, 53), (183, 1252, 1251, 9999, 53), (184, 824, 823, 9999, 70), (185, 827, 826, 9999, 71), (186, 473, 472, 9999, 63), (187, 1312, 1311, 9999, 74), (191, 599, 598, 9999, 68), (192, 606, 605, 9999, 68)]
/-- fields: as fldL, with the place of the link, the class that the link names, the place of sameField (9999: not wanted) -/
def fldX : List (Nat × Nat × Nat × Nat × Nat × Bool × Nat × String × Nat) := [(5, 15, 5, 0, 0, false, 89, "PerfgaugeHouse$Plate", 9999), (4, 58, 5, 0, 0, false, 90, "PerfgaugeHouse$Plate", 9999), (5, 19, 5, 1, 0, false, 91, "PerfgaugeHouse$Plate", 9999), (5, 22, 5, 2, 0, false, 92, "PerfgaugeHouse$Plate", 9999), (11, 118, 5, 2, 0, false, 93, "PerfgaugeHouse$Plate", 9999), (5, 9, 5, 3, 3, true, 94, "PerfgaugeHouse$Plate", 9999), (12, 9, 12, 1, 3, false, 119, "java/util/ArrayList", 9999), (12, 48, 12, 2, 0, false, 120, "java/util/ArrayList", 9999), (14, 7, 12, 0, 0, false, 121, "java/util/AbstractList", 9999), (12, 63, 12, 0, 0, false, 122, "java/util/ArrayList", 123), (8, 11, 8, 0, 3, true, 140, "PerfgaugeHouse$Sheet", 9999), (8, 34, 8, 1, 0, false, 141, "PerfgaugeHouse$Sheet", 9999), (11, 218, 8, 1, 0, false, 142, "PerfgaugeHouse$Sheet", 9999), (8, 17, 8, 2, 0, false, 143, "PerfgaugeHouse$Sheet", 9999), (11, 206, 8, 2, 0, false, 144, "PerfgaugeHouse$Sheet", 9999), (8, 21, 8, 3, 0, false, 145, "PerfgaugeHouse$Sheet", 9999), (11, 209, 8, 3, 0, false, 146, "PerfgaugeHouse$Sheet", 9999), (8, 49, 8, 4, 0, false, 147, "PerfgaugeHouse$Sheet", 9999), (11, 215, 8, 4, 0, false, 148, "PerfgaugeHouse$Sheet", 9999), (8, 24, 8, 5, 3, true, 149, "PerfgaugeHouse$Sheet", 9999), (8, 28, 8, 6, 3, true, 150, "PerfgaugeHouse$Sheet", 9999), (8, 31, 8, 7, 3, true, 151, "PerfgaugeHouse$Sheet", 9999), (6, 9, 6, 0, 3, true, 178, "PerfgaugeHouse$Post", 9999), (6, 15, 6, 1, 3, true, 179, "PerfgaugeHouse$Post", 9999), (6, 46, 6, 2, 0, false, 180, "PerfgaugeHouse$Post", 9999), (11, 279, 6, 2, 0, false, 181, "PerfgaugeHouse$Post", 9999), (6, 18, 6, 3, 3, true, 182, "PerfgaugeHouse$Post", 9999), (6, 21, 6, 4, 3, true, 183, "PerfgaugeHouse$Post", 9999), (6, 24, 6, 5, 3, true, 184, "PerfgaugeHouse$Post", 9999), (6, 27, 6, 6, 3, true, 185, "PerfgaugeHouse$Post", 9999), (3, 15, 3, 0, 0, false, 207, "PerfgaugeHouse$Hands", 9999), (11, 350, 3, 0, 0, false, 208, "PerfgaugeHouse$Hands", 9999), (3, 9, 3, 1, 3, true, 209, "PerfgaugeHouse$Hands", 9999), (2, 9, 2, 0, 3, true, 222, "PerfgaugeHouse$Experts", 9999), (11, 389, 2, 0, 3, true, 223, "PerfgaugeHouse$Experts", 9999), (2, 34, 2, 1, 0, false, 224, "PerfgaugeHouse$Experts", 9999), (11, 369, 2, 1, 0, false, 225, "PerfgaugeHouse$Experts", 9999), (2, 15, 2, 2, 3, true, 226, "PerfgaugeHouse$Experts", 9999), (2, 18, 2, 3, 3, true, 227, "PerfgaugeHouse$Experts", 9999), (2, 21, 2, 4, 3, true, 228, "PerfgaugeHouse$Experts", 9999), (2, 24, 2, 5, 3, true, 229, "PerfgaugeHouse$Experts", 9999), (7, 39, 7, 0, 0, false, 252, "PerfgaugeHouse$Sale", 9999), (11, 392, 7, 0, 0, false, 253, "PerfgaugeHouse$Sale", 9999), (7, 9, 7, 1, 3, true, 254, "PerfgaugeHouse$Sale", 9999), (11, 595, 7, 1, 3, true, 255, "PerfgaugeHouse$Sale", 9999), (7, 15, 7, 2, 3, true, 256, "PerfgaugeHouse$Sale", 9999), (11, 593, 7, 2, 3, true, 257, "PerfgaugeHouse$Sale", 9999), (7, 19, 7, 3, 3, true, 258, "PerfgaugeHouse$Sale", 9999), (7, 25, 7, 4, 3, true, 259, "PerfgaugeHouse$Sale", 9999), (11, 406, 7, 4, 3, true, 260, "PerfgaugeHouse$Sale", 9999), (7, 63, 7, 5, 0, false, 261, "PerfgaugeHouse$Sale", 9999), (7, 46, 7, 6, 1, false, 262, "PerfgaugeHouse$Sale", 9999), (7, 75, 7, 7, 2, false, 263, "PerfgaugeHouse$Sale", 9999), (7, 29, 7, 8, 3, true, 264, "PerfgaugeHouse$Sale", 9999), (7, 32, 7, 9, 3, true, 265, "PerfgaugeHouse$Sale", 9999), (7, 35, 7, 10, 3, true, 266, "PerfgaugeHouse$Sale", 9999), (9, 19, 9, 0, 0, false, 297, "PerfgaugeHouse$Standards", 9999), (11, 447, 9, 0, 0, false, 298, "PerfgaugeHouse$Standards", 9999), (9, 9, 9, 1, 3, true, 299, "PerfgaugeHouse$Standards", 9999), (9, 15, 9, 2, 3, true, 300, "PerfgaugeHouse$Standards", 9999), (11, 10, 11, 0, 3, true, 308, "PerfgaugeHouse", 9999), (11, 19, 11, 1, 3, true, 309, "PerfgaugeHouse", 9999), (11, 25, 11, 2, 3, true, 310, "PerfgaugeHouse", 9999), (11, 33, 11, 3, 3, true, 311, "PerfgaugeHouse", 9999), (11, 37, 11, 4, 3, true, 312, "PerfgaugeHouse", 9999), (11, 40, 11, 5, 3, true, 313, "PerfgaugeHouse", 9999), (11, 43, 11, 6, 3, true, 314, "PerfgaugeHouse", 9999), (11, 49, 11, 7, 3, true, 315, "PerfgaugeHouse", 9999), (11, 56, 11, 8, 3, true, 316, "PerfgaugeHouse", 9999), (11, 63, 11, 9, 3, true, 317, "PerfgaugeHouse", 9999), (11, 70, 11, 10, 3, true, 318, "PerfgaugeHouse", 9999), (11, 372, 11, 11, 0, false, 319, "PerfgaugeHouse", 9999), (11, 74, 11, 12, 3, true, 320, "PerfgaugeHouse", 9999), (11, 78, 11, 13, 3, true, 321, "PerfgaugeHouse", 9999), (11, 81, 11, 14, 3, true, 322, "PerfgaugeHouse", 9999), (10, 7, 10, 0, 0, true, 568, "PerfgaugeHouse$Term", 9999), (11, 556, 10, 0, 0, true, 569, "PerfgaugeHouse$Term", 9999), (10, 13, 10, 1, 0, true, 570, "PerfgaugeHouse$Term", 9999), (11, 586, 10, 1, 0, true, 571, "PerfgaugeHouse$Term", 9999), (10, 16, 10, 2, 0, true, 572, "PerfgaugeHouse$Term", 9999), (11, 587, 10, 2, 0, true, 573, "PerfgaugeHouse$Term", 9999), (4, 31, 4, 0, 0, true, 701, "PerfgaugeHouse$Piece", 9999), (11, 170, 4, 0, 0, true, 702, "PerfgaugeHouse$Piece", 9999), (4, 35, 4, 1, 0, true, 703, "PerfgaugeHouse$Piece", 9999), (4, 38, 4, 2, 0, true, 704, "PerfgaugeHouse$Piece", 9999), (4, 41, 4, 3, 0, true, 705, "PerfgaugeHouse$Piece", 9999), (11, 186, 4, 3, 0, true, 706, "PerfgaugeHouse$Piece", 9999), (4, 44, 4, 4, 1, true, 707, "PerfgaugeHouse$Piece", 9999), (8, 40, 4, 5, 0, false, 708, "PerfgaugeHouse$Piece", 9999), (4, 9, 4, 6, 3, true, 709, "PerfgaugeHouse$Piece", 9999), (11, 179, 4, 6, 3, true, 710, "PerfgaugeHouse$Piece", 9999), (4, 15, 4, 7, 3, true, 711, "PerfgaugeHouse$Piece", 9999), (11, 182, 4, 7, 3, true, 712, "PerfgaugeHouse$Piece", 9999), (4, 19, 4, 8, 3, true, 713, "PerfgaugeHouse$Piece", 9999), (8, 56, 4, 8, 3, true, 714, "PerfgaugeHouse$Piece", 9999), (4, 65, 4, 9, 0, false, 715, "PerfgaugeHouse$Piece", 9999), (4, 22, 4, 10, 3, true, 716, "PerfgaugeHouse$Piece", 9999), (11, 260, 4, 10, 3, true, 717, "PerfgaugeHouse$Piece", 9999), (4, 25, 4, 11, 3, true, 718, "PerfgaugeHouse$Piece", 9999), (3, 19, 4, 11, 3, true, 719, "PerfgaugeHouse$Piece", 9999), (11, 356, 4, 11, 3, true, 720, "PerfgaugeHouse$Piece", 9999), (11, 382, 4, 12, 1, false, 721, "PerfgaugeHouse$Piece", 9999), (9, 23, 4, 13, 1, false, 722, "PerfgaugeHouse$Piece", 9999), (11, 448, 4, 13, 1, false, 723, "PerfgaugeHouse$Piece", 9999), (4, 28, 4, 14, 3, true, 724, "PerfgaugeHouse$Piece", 9999), (9, 36, 4, 14, 3, true, 725, "PerfgaugeHouse$Piece", 9999), (11, 451, 4, 14, 3, true, 726, "PerfgaugeHouse$Piece", 9999), (9, 33, 4, 15, 0, false, 727, "PerfgaugeHouse$Piece", 9999), (11, 454, 4, 15, 0, false, 728, "PerfgaugeHouse$Piece", 9999), (1, 15, 1, 0, 0, true, 864, "PerfgaugeHouse$Cover", 9999), (11, 559, 1, 0, 0, true, 865, "PerfgaugeHouse$Cover", 9999), (1, 19, 1, 1, 0, true, 866, "PerfgaugeHouse$Cover", 9999), (11, 562, 1, 1, 0, true, 867, "PerfgaugeHouse$Cover", 9999), (1, 22, 1, 2, 0, true, 868, "PerfgaugeHouse$Cover", 9999), (11, 568, 1, 2, 0, true, 869, "PerfgaugeHouse$Cover", 9999), (1, 25, 1, 3, 0, true, 870, "PerfgaugeHouse$Cover", 9999), (11, 338, 1, 3, 0, true, 871, "PerfgaugeHouse$Cover", 9999), (1, 28, 1, 4, 0, true, 872, "PerfgaugeHouse$Cover", 9999), (11, 328, 1, 4, 0, true, 873, "PerfgaugeHouse$Cover", 9999), (11, 303, 1, 5, 0, false, 874, "PerfgaugeHouse$Cover", 9999), (11, 318, 1, 6, 1, false, 875, "PerfgaugeHouse$Cover", 9999), (1, 9, 1, 7, 3, true, 876, "PerfgaugeHouse$Cover", 9999), (11, 312, 1, 7, 3, true, 877, "PerfgaugeHouse$Cover", 9999), (0, 7, 0, 0, 0, true, 982, "PerfgaugeHouse$Bid", 9999), (7, 119, 0, 0, 0, true, 983, "PerfgaugeHouse$Bid", 9999), (0, 13, 0, 1, 0, true, 984, "PerfgaugeHouse$Bid", 9999), (7, 94, 0, 1, 0, true, 985, "PerfgaugeHouse$Bid", 9999), (0, 16, 0, 2, 0, true, 986, "PerfgaugeHouse$Bid", 9999), (7, 95, 0, 2, 0, true, 987, "PerfgaugeHouse$Bid", 9999)]
/-- calls: as mthL, with the place of the link, and whether it is a nest mate's -/
def mthX : List (Nat × Nat × Nat × Nat × Bool) := [(13, 11, 81, 77, false), (11, 1, 901, 80, false), (11, 9, 28, 85, true), (5, 3, 901, 88, false), (11, 18, 165, 107, false), (12, 1, 179, 110, false), (14, 1, 180, 113, false), (15, 1, 901, 116, false), (11, 29, 67, 134, true), (8, 3, 901, 137, false), (11, 32, 37, 171, false), (6, 3, 901, 174, false), (6, 30, 181, 175, false), (11, 48, 10, 203, true), (3, 3, 901, 206, false), (11, 55, 3, 217, false), (2, 3, 901, 220, false), (2, 28, 181, 221, false), (11, 62, 45, 246, true), (7, 3, 901, 249, false), (7, 24, 165, 251, false), (11, 69, 75, 293, true), (9, 3, 901, 296, false), (13, 22, 82, 354, false), (11, 84, 83, 358, false), (11, 88, 84, 361, false), (11, 92, 29, 432, false), (5, 25, 181, 436, false), (11, 96, 166, 437, false), (11, 99, 68, 441, false), (8, 37, 69, 445, false), (8, 43, 181, 449, false), (8, 52, 70, 450, false), (8, 59, 14, 454, false), (8, 63, 71, 458, false), (8, 73, 85, 462, true), (11, 203, 86, 465, false), (8, 76, 900, 468, false), (8, 82, 186, 471, false), (8, 87, 15, 477, false), (4, 85, 86, 481, true), (4, 89, 16, 482, false), (8, 67, 86, 486, true), (8, 70, 16, 487, false), (11, 100, 4, 488, false), (11, 103, 46, 492, false), (7, 43, 166, 496, false), (11, 104, 30, 497, false), (13, 25, 87, 501, false), (11, 145, 167, 505, false), (11, 122, 88, 509, false), (11, 149, 31, 528, false), (5, 31, 30, 532, false), (5, 43, 32, 533, false), (5, 47, 903, 536, false), (5, 53, 33, 539, false), (13, 29, 89, 543, false), (11, 276, 90, 547, false), (11, 282, 38, 550, false), (13, 37, 91, 554, false), (11, 129, 168, 558, false), (11, 292, 79, 564, false), (10, 1, 901, 567, false), (11, 294, 169, 581, false), (12, 131, 170, 585, false), (12, 129, 171, 589, false), (12, 69, 172, 593, false), (12, 73, 191, 597, false), (22, 194, 904, 600, false), (22, 201, 192, 604, false), (12, 66, 902, 607, false), (16, 304, 903, 636, false), (16, 150, 900, 637, false), (12, 79, 904, 638, false), (13, 33, 92, 640, false), (11, 266, 93, 644, false), (11, 112, 94, 647, false), (13, 18, 175, 666, false), (13, 12, 176, 670, false), (13, 40, 177, 674, false), (13, 48, 95, 680, false), (11, 153, 96, 684, false), (11, 157, 97, 687, false), (11, 160, 98, 690, false), (11, 163, 17, 696, false), (4, 3, 901, 699, false), (4, 48, 181, 700, false), (11, 166, 99, 762, false), (11, 138, 18, 766, false), (4, 68, 30, 770, false), (4, 71, 19, 771, false), (4, 75, 34, 775, false), (5, 39, 35, 779, false), (5, 35, 83, 783, true), (4, 54, 20, 784, false), (4, 61, 36, 788, false), (11, 535, 72, 792, false), (11, 142, 69, 796, false), (13, 52, 100, 797, false), (11, 108, 35, 801, false), (11, 189, 34, 802, false), (11, 115, 101, 803, false), (11, 192, 21, 806, false), (13, 56, 102, 810, false), (11, 173, 103, 814, false), (11, 132, 173, 818, false), (12, 118, 184, 822, false), (17, 105, 185, 825, false), (12, 123, 174, 828, false), (11, 176, 20, 832, false), (13, 59, 104, 833, false), (13, 62, 105, 837, false), (11, 269, 39, 841, false), (6, 36, 40, 845, false), (6, 40, 903, 849, false), (11, 273, 41, 850, false), (13, 65, 106, 854, false), (11, 300, 1, 860, false), (1, 3, 901, 863, false), (13, 68, 107, 895, false), (11, 306, 108, 899, false), (11, 309, 109, 903, false), (11, 314, 110, 907, false), (13, 71, 111, 911, false), (13, 75, 112, 915, false), (11, 353, 11, 919, false), (13, 78, 113, 923, false), (13, 81, 114, 927, false), (11, 366, 115, 931, false), (11, 375, 5, 934, false), (13, 84, 116, 938, false), (11, 385, 6, 942, false), (2, 38, 7, 946, false), (2, 42, 903, 950, false), (2, 48, 904, 951, false), (13, 88, 117, 952, false), (11, 395, 47, 956, false), (11, 399, 48, 960, false), (13, 92, 118, 964, false), (11, 403, 49, 968, false), (11, 409, 50, 972, false), (7, 52, 0, 978, false), (0, 1, 901, 981, false), (7, 55, 169, 995, false), (7, 59, 168, 996, false), (13, 95, 119, 997, false), (11, 442, 120, 1001, false), (11, 445, 76, 1004, false), (13, 98, 121, 1008, false), (11, 457, 77, 1012, false), (9, 29, 78, 1016, false), (9, 39, 905, 1020, false), (13, 101, 122, 1023, false), (13, 44, 178, 1027, false), (13, 110, 123, 1030, false), (11, 488, 124, 1035, false), (11, 492, 125, 1039, false), (11, 196, 36, 1043, false), (11, 496, 126, 1044, false), (11, 600, 127, 1048, false), (11, 212, 73, 1052, false), (11, 499, 128, 1056, false), (11, 603, 129, 1060, false), (11, 220, 22, 1064, false), (4, 79, 186, 1068, false), (11, 223, 74, 1069, false), (11, 227, 186, 1073, false), (11, 233, 130, 1074, false), (11, 537, 85, 1078, false), (11, 236, 131, 1079, false), (11, 540, 132, 1083, false), (11, 544, 23, 1086, false), (11, 606, 133, 1090, false), (11, 263, 24, 1094, false), (4, 92, 25, 1098, false), (4, 101, 26, 1102, false), (4, 96, 905, 1106, false), (11, 609, 134, 1107, false), (11, 363, 12, 1111, false), (3, 24, 13, 1115, false), (11, 612, 135, 1119, false), (11, 379, 8, 1123, false), (11, 615, 136, 1127, false), (11, 460, 137, 1131, false), (11, 464, 78, 1135, false), (11, 618, 138, 1136, false), (11, 468, 139, 1140, false), (11, 547, 140, 1144, false), (11, 550, 27, 1148, false), (11, 553, 26, 1152, false), (11, 502, 141, 1153, false), (11, 621, 142, 1157, false), (11, 322, 143, 1161, false), (11, 571, 144, 1165, false), (11, 583, 80, 1169, false), (11, 574, 145, 1173, false), (11, 577, 146, 1177, false), (11, 325, 147, 1181, false), (11, 565, 42, 1185, false), (11, 286, 43, 1189, false), (6, 50, 44, 1193, false), (11, 580, 148, 1197, false), (11, 331, 2, 1200, false), (11, 334, 149, 1204, false), (11, 341, 150, 1208, false), (11, 624, 151, 1212, false), (11, 344, 152, 1216, false), (11, 588, 903, 1220, false), (11, 505, 153, 1221, false), (11, 627, 154, 1225, false), (11, 347, 155, 1229, false), (11, 508, 156, 1233, false), (11, 630, 157, 1237, false), (11, 412, 158, 1241, false), (11, 415, 51, 1245, false), (7, 66, 181, 1249, false), (7, 72, 183, 1250, false), (7, 79, 173, 1253, false), (7, 83, 52, 1254, false), (7, 98, 86, 1258, true), (7, 87, 53, 1259, false), (7, 91, 49, 1263, false), (11, 418, 54, 1264, false), (11, 421, 55, 1268, false), (11, 424, 56, 1272, false), (7, 102, 57, 1276, false), (11, 427, 58, 1280, false), (11, 430, 59, 1284, false), (7, 112, 60, 1288, false), (7, 125, 61, 1292, false), (7, 122, 62, 1296, false), (7, 129, 904, 1300, false), (7, 134, 63, 1301, false), (7, 137, 903, 1304, false), (7, 116, 54, 1305, false), (11, 433, 64, 1306, false), (7, 106, 187, 1310, false), (11, 633, 159, 1316, false), (11, 436, 65, 1320, false), (11, 439, 60, 1324, false), (11, 511, 160, 1325, false), (11, 471, 161, 1329, false), (11, 515, 162, 1333, false), (11, 474, 163, 1337, false), (11, 477, 164, 1341, false), (11, 480, 66, 1345, false), (11, 483, 9, 1349, false), (2, 51, 83, 1353, true), (13, 114, 162, 1354, false), (13, 118, 157, 1355, false), (13, 121, 127, 1356, false), (13, 124, 160, 1357, false), (13, 127, 129, 1358, false), (13, 130, 138, 1359, false), (13, 133, 136, 1360, false), (13, 136, 135, 1361, false)]
def newX : List (Nat × Nat × Nat × Nat × Nat × Nat × Nat) := [(13, 9, 11, 15, 75, 76, 46), (11, 7, 5, 4, 83, 84, 47), (11, 16, 12, 3, 105, 106, 50), (11, 23, 8, 8, 131, 133, 51), (8, 9, 4, 16, 138, 695, 69), (11, 30, 6, 7, 169, 170, 52), (11, 46, 3, 2, 201, 202, 54), (11, 53, 2, 6, 215, 216, 55), (11, 60, 7, 11, 244, 245, 56), (7, 22, 12, 3, 250, 106, 50), (11, 67, 9, 3, 291, 292, 57), (11, 290, 10, 3, 562, 563, 67), (11, 136, 4, 16, 694, 695, 69), (11, 298, 1, 8, 858, 859, 72), (7, 50, 0, 3, 976, 977, 73)]
def anwX : List (Nat × Nat × Nat × Nat) := [(11, 23, 104, 131), (8, 9, 105, 138), (16, 2, 103, 635), (12, 7, 103, 639), (11, 136, 105, 694)]
def cstX : List (Nat × Nat × Nat × Nat) := [(13, 9, 11, 75), (11, 7, 5, 83), (11, 16, 12, 105), (11, 23, 8, 131), (8, 9, 4, 138), (11, 30, 6, 169), (11, 46, 3, 201), (11, 53, 2, 215), (11, 60, 7, 244), (7, 22, 12, 250), (11, 67, 9, 291), (11, 290, 10, 562), (11, 136, 4, 694), (11, 298, 1, 858), (7, 50, 0, 976)]
def ciX : List (Nat × Nat × Int × Nat) := [(19, 265, 1431655765, 474), (19, 266, 858993459, 475), (19, 267, 252645135, 476), (22, 200, 2147483639, 603), (13, 7, 2147483647, 669), (13, 8, 790386105, 673)]
def cjX : List (Nat × Nat × Int × Nat) := [(11, 486, 58267, 1034), (11, 598, 31, 1038), (20, 314, 6148914691236517205, 1313), (20, 316, 3689348814741910323, 1314), (20, 318, 1085102592571150095, 1315)]

theorem lkp_mem {α : Type} {l : List (Nat × Nat × α)} {c k : Nat} {v : α} (h : lkp l c k = some v) : (c, k, v) ∈ l := by
  induction l with
  | nil => simp [lkp] at h
  | cons a l ih =>
    obtain ⟨a1, a2, a3⟩ := a
    simp only [lkp] at h
    split at h
    · rename_i q; obtain ⟨rfl, rfl⟩ := q; cases h; exact List.mem_cons_self
    · exact List.mem_cons_of_mem _ (ih h)
def fldChk (e : Nat × Nat × Nat × Nat × Nat × Bool × Nat × String × Nat) : Bool := match e with
  | (c, k, t, j, kd, fin, i, ref, sf) => match xcl[t]? with
    | some (_, T, N) => decide (j < N) && atI i (.fieldLink (cnm c) k ref (T j).2.1 (T j).2.2.1) && (decide (ref = (T j).1) || atI sf (.sameField ref (T j).1 (T j).2.1 (T j).2.2.1)) && ((T j).2.2.2 == fin) && (!fin || decide ((T j).1 = cnm t)) && decide ((kdl t)[j]? = some kd)
    | none => false
set_option maxRecDepth 100000 in
theorem fldX_ok : fldX.all fldChk = true := by decide +kernel
theorem fldL_X : fldL = fldX.map (fun e => (e.1, e.2.1, e.2.2.1, e.2.2.2.1, e.2.2.2.2.1, e.2.2.2.2.2.1)) := by decide +kernel
def pNm (z : Nat) : MethodName := if z = 900 then arraycopyName else if z = 901 then Lib.objectInit else if z = 902 then yNm 182 else if z = 903 then Lib.Math.min.name else if z = 904 then Lib.Math.max.name else Lib.Math.abs.name
def nestW : List (String × Nat × MethodName × String) := (mthX.filter (fun e => e.2.2.2.2)).map (fun e => (cnm e.1, e.2.1, yNm e.2.2.1, "PerfgaugeHouse"))
def mthChk (e : Nat × Nat × Nat × Nat × Bool) : Bool := match e with
  | (c, k, z, i, nest) => if 900 ≤ z then atI i (.methodLink (cnm c) k (pNm z)) else (if nest then nestW.any (fun q => decide (q = (cnm c, k, yNm z, "PerfgaugeHouse"))) else atI i (.methodLink (cnm c) k (yNm z)))
set_option maxRecDepth 100000 in
theorem mthX_ok : mthX.all mthChk = true := by decide +kernel
theorem mthL_X : mthL = mthX.map (fun e => (e.1, e.2.1, e.2.2.1)) := by decide +kernel

/-- a method's words: instance or static, selects, initialized; its arguments -/
def mPlA (e : Nat × Nat × Nat × Nat × Nat) : Bool := match e with
  | (z, _, im, se, ini) => atI im (if mKnd z = 0 then .static (yNm z) else .instanceMethod (yNm z)) && (mKnd z != 1 || atI se (.selects (yNm z).cls (yNm z) (yNm z))) && atI ini (.initialized (yNm z).cls)
set_option maxRecDepth 100000 in
theorem mPlA_ok : mPl.all mPlA = true := by decide +kernel
def mPlB1 (z : Nat) : Bool := decide ((yNm z).cls = cnm (cls z))
set_option maxRecDepth 100000 in
theorem mPlB1_ok : mPl.all (fun e => mPlB1 e.1) = true := by decide +kernel
def mPlB2 (z : Nat) : Bool := decide ((yNm z).cls ≠ "java/lang/invoke/MethodHandle") && decide ((yNm z).cls ≠ "java/lang/invoke/VarHandle")
set_option maxRecDepth 100000 in
theorem mPlB2_ok : mPl.all (fun e => mPlB2 e.1) = true := by decide +kernel
def mPlB3 (z : Nat) : Bool := (decide (mKnd z = 2) == decide ((yNm z).name = "<init>"))
set_option maxRecDepth 100000 in
theorem mPlB3_ok : mPl.all (fun e => mPlB3 e.1) = true := by decide +kernel
def mPlB4 (z : Nat) : Bool := decide (mKnd z ≠ 2 ∨ rtT z = none)
set_option maxRecDepth 100000 in
theorem mPlB4_ok : mPl.all (fun e => mPlB4 e.1) = true := by decide +kernel
def mPlB5 (z : Nat) : Bool := plainName (yNm z).cls
set_option maxRecDepth 100000 in
theorem mPlB5_ok : mPl.all (fun e => mPlB5 e.1) = true := by decide +kernel
def mPlB6 (z : Nat) : Bool := (match rtT z with | none => mRet z == 4 | some .int => mRet z == 0 | some .boolean => mRet z == 1 | some .long => mRet z == 2 | some (.object _) => mRet z == 3 | some (.array _) => mRet z == 3 | _ => false)
set_option maxRecDepth 100000 in
theorem mPlB6_ok : mPl.all (fun e => mPlB6 e.1) = true := by decide +kernel
def mPlB7 (z : Nat) : Bool := (mKnd z != 1 || decide ((xcl[mTag z]?).map (fun q => q.1) = some (yNm z).cls))
set_option maxRecDepth 100000 in
theorem mPlB7_ok : mPl.all (fun e => mPlB7 e.1) = true := by decide +kernel
def mPlB8 (z : Nat) : Bool := decide (mLoc z ≤ 20) && decide (1 ≤ mArg z ∨ mKnd z = 0)
set_option maxRecDepth 100000 in
theorem mPlB8_ok : mPl.all (fun e => mPlB8 e.1) = true := by decide +kernel
def mPlC (e : Nat × Nat × Nat × Nat × Nat) : Bool := match e with
  | (z, _, _, _, _) => decide ((parseMethodDescriptor (yNm z).desc).map (fun d => d.parameters.length) = some (if mKnd z = 0 then mArg z else mArg z - 1))
set_option maxRecDepth 100000 in
theorem mPlC_ok : mPl.all mPlC = true := by decide +kernel
def newChk (e : Nat × Nat × Nat × Nat × Nat × Nat × Nat) : Bool := match e with
  | (c, k, t, n, i1, i2, i3) => match xcl[t]? with
    | some (C, _, N) => decide (N = n) && atI i1 (.classLink (cnm c) k C) && atI i2 (.instantiable C N) && atI i3 (.initialized C)
    | none => false
theorem newX_ok : newX.all newChk = true := by decide +kernel
theorem newL_X : newL = newX.map (fun e => (e.1, e.2.1, e.2.2.1, e.2.2.2.1)) := by decide +kernel
def aEl (g : Nat) : String := if g = 103 then "java/lang/Object" else if g = 104 then "PerfgaugeHouse$Sheet" else "PerfgaugeHouse$Piece"
theorem anwX_ok : anwX.all (fun e => atI e.2.2.2 (.classLink (cnm e.1) e.2.1 (aEl e.2.2.1)) && decide (103 ≤ e.2.2.1) && decide (e.2.2.1 ≤ 105)) = true := by decide +kernel
theorem anwL_X : anwL = anwX.map (fun e => (e.1, e.2.1, e.2.2.1)) := by decide +kernel
theorem cstX_ok : cstX.all (fun e => match xcl[e.2.2.1]? with | some (C, _, _) => atI e.2.2.2 (.classLink (cnm e.1) e.2.1 C) | none => false) = true := by decide +kernel
theorem cstT_X : cstT = cstX.map (fun e => (e.1, e.2.1, e.2.2.1)) := by decide +kernel
theorem ciX_ok : ciX.all (fun e => atI e.2.2.2 (.constant (cnm e.1) e.2.1 (Int32.ofInt e.2.2.1))) = true := by decide +kernel
theorem cstL_X : cstL = ciX.map (fun e => (e.1, e.2.1, e.2.2.1)) := by decide +kernel
theorem cjX_ok : cjX.all (fun e => atI e.2.2.2 (.constantLong (cnm e.1) e.2.1 (Int64.ofInt e.2.2.1))) = true := by decide +kernel
theorem cstJ_X : cstJ = cjX.map (fun e => (e.1, e.2.1, e.2.2.1)) := by decide +kernel
theorem cin0 : ∀ w ∈ u_ws (xcl[0]).1 (xcl[0]).2.1 (xcl[0]).2.2, w ∈ LWG := by decide +kernel
theorem cin1 : ∀ w ∈ u_ws (xcl[1]).1 (xcl[1]).2.1 (xcl[1]).2.2, w ∈ LWG := by decide +kernel
theorem cin2 : ∀ w ∈ u_ws (xcl[2]).1 (xcl[2]).2.1 (xcl[2]).2.2, w ∈ LWG := by decide +kernel
theorem cin3 : ∀ w ∈ u_ws (xcl[3]).1 (xcl[3]).2.1 (xcl[3]).2.2, w ∈ LWG := by decide +kernel
theorem cin4 : ∀ w ∈ u_ws (xcl[4]).1 (xcl[4]).2.1 (xcl[4]).2.2, w ∈ LWG := by decide +kernel
theorem cin5 : ∀ w ∈ u_ws (xcl[5]).1 (xcl[5]).2.1 (xcl[5]).2.2, w ∈ LWG := by decide +kernel
theorem cin6 : ∀ w ∈ u_ws (xcl[6]).1 (xcl[6]).2.1 (xcl[6]).2.2, w ∈ LWG := by decide +kernel
theorem cin7 : ∀ w ∈ u_ws (xcl[7]).1 (xcl[7]).2.1 (xcl[7]).2.2, w ∈ LWG := by decide +kernel
theorem cin8 : ∀ w ∈ u_ws (xcl[8]).1 (xcl[8]).2.1 (xcl[8]).2.2, w ∈ LWG := by decide +kernel
theorem cin9 : ∀ w ∈ u_ws (xcl[9]).1 (xcl[9]).2.1 (xcl[9]).2.2, w ∈ LWG := by decide +kernel
theorem cin10 : ∀ w ∈ u_ws (xcl[10]).1 (xcl[10]).2.1 (xcl[10]).2.2, w ∈ LWG := by decide +kernel
theorem cin11 : ∀ w ∈ u_ws (xcl[11]).1 (xcl[11]).2.1 (xcl[11]).2.2, w ∈ LWG := by decide +kernel
theorem cin12 : ∀ w ∈ u_ws (xcl[12]).1 (xcl[12]).2.1 (xcl[12]).2.2, w ∈ LWG := by decide +kernel
set_option maxRecDepth 100000 in
theorem cw_0 : Cond.code (yNm 0) (bts 0) (mLoc 0) (rtT 0) ∈ lw_tbl := List.mem_of_getElem? (i := 980) rfl
set_option maxRecDepth 100000 in
theorem cw_1 : Cond.code (yNm 1) (bts 1) (mLoc 1) (rtT 1) ∈ lw_tbl := List.mem_of_getElem? (i := 862) rfl
set_option maxRecDepth 100000 in
theorem cw_2 : Cond.code (yNm 2) (bts 2) (mLoc 2) (rtT 2) ∈ lw_tbl := List.mem_of_getElem? (i := 1203) rfl
set_option maxRecDepth 100000 in
theorem cw_3 : Cond.code (yNm 3) (bts 3) (mLoc 3) (rtT 3) ∈ lw_tbl := List.mem_of_getElem? (i := 219) rfl
set_option maxRecDepth 100000 in
theorem cw_4 : Cond.code (yNm 4) (bts 4) (mLoc 4) (rtT 4) ∈ lw_tbl := List.mem_of_getElem? (i := 491) rfl
set_option maxRecDepth 100000 in
theorem cw_5 : Cond.code (yNm 5) (bts 5) (mLoc 5) (rtT 5) ∈ lw_tbl := List.mem_of_getElem? (i := 937) rfl
set_option maxRecDepth 100000 in
theorem cw_6 : Cond.code (yNm 6) (bts 6) (mLoc 6) (rtT 6) ∈ lw_tbl := List.mem_of_getElem? (i := 945) rfl
set_option maxRecDepth 100000 in
theorem cw_7 : Cond.code (yNm 7) (bts 7) (mLoc 7) (rtT 7) ∈ lw_tbl := List.mem_of_getElem? (i := 949) rfl
set_option maxRecDepth 100000 in
theorem cw_8 : Cond.code (yNm 8) (bts 8) (mLoc 8) (rtT 8) ∈ lw_tbl := List.mem_of_getElem? (i := 1126) rfl
set_option maxRecDepth 100000 in
theorem cw_9 : Cond.code (yNm 9) (bts 9) (mLoc 9) (rtT 9) ∈ lw_tbl := List.mem_of_getElem? (i := 1352) rfl
set_option maxRecDepth 100000 in
theorem cw_10 : Cond.code (yNm 10) (bts 10) (mLoc 10) (rtT 10) ∈ lw_tbl := List.mem_of_getElem? (i := 205) rfl
set_option maxRecDepth 100000 in
theorem cw_11 : Cond.code (yNm 11) (bts 11) (mLoc 11) (rtT 11) ∈ lw_tbl := List.mem_of_getElem? (i := 922) rfl
set_option maxRecDepth 100000 in
theorem cw_12 : Cond.code (yNm 12) (bts 12) (mLoc 12) (rtT 12) ∈ lw_tbl := List.mem_of_getElem? (i := 1114) rfl
set_option maxRecDepth 100000 in
theorem cw_13 : Cond.code (yNm 13) (bts 13) (mLoc 13) (rtT 13) ∈ lw_tbl := List.mem_of_getElem? (i := 1118) rfl
set_option maxRecDepth 100000 in
theorem cw_14 : Cond.code (yNm 14) (bts 14) (mLoc 14) (rtT 14) ∈ lw_tbl := List.mem_of_getElem? (i := 457) rfl
set_option maxRecDepth 100000 in
theorem cw_15 : Cond.code (yNm 15) (bts 15) (mLoc 15) (rtT 15) ∈ lw_tbl := List.mem_of_getElem? (i := 480) rfl
set_option maxRecDepth 100000 in
theorem cw_16 : Cond.code (yNm 16) (bts 16) (mLoc 16) (rtT 16) ∈ lw_tbl := List.mem_of_getElem? (i := 485) rfl
set_option maxRecDepth 100000 in
theorem cw_17 : Cond.code (yNm 17) (bts 17) (mLoc 17) (rtT 17) ∈ lw_tbl := List.mem_of_getElem? (i := 698) rfl
set_option maxRecDepth 100000 in
theorem cw_18 : Cond.code (yNm 18) (bts 18) (mLoc 18) (rtT 18) ∈ lw_tbl := List.mem_of_getElem? (i := 769) rfl
set_option maxRecDepth 100000 in
theorem cw_19 : Cond.code (yNm 19) (bts 19) (mLoc 19) (rtT 19) ∈ lw_tbl := List.mem_of_getElem? (i := 774) rfl
set_option maxRecDepth 100000 in
theorem cw_20 : Cond.code (yNm 20) (bts 20) (mLoc 20) (rtT 20) ∈ lw_tbl := List.mem_of_getElem? (i := 787) rfl
set_option maxRecDepth 100000 in
theorem cw_21 : Cond.code (yNm 21) (bts 21) (mLoc 21) (rtT 21) ∈ lw_tbl := List.mem_of_getElem? (i := 809) rfl
set_option maxRecDepth 100000 in
theorem cw_22 : Cond.code (yNm 22) (bts 22) (mLoc 22) (rtT 22) ∈ lw_tbl := List.mem_of_getElem? (i := 1067) rfl
set_option maxRecDepth 100000 in
theorem cw_23 : Cond.code (yNm 23) (bts 23) (mLoc 23) (rtT 23) ∈ lw_tbl := List.mem_of_getElem? (i := 1089) rfl
set_option maxRecDepth 100000 in
theorem cw_24 : Cond.code (yNm 24) (bts 24) (mLoc 24) (rtT 24) ∈ lw_tbl := List.mem_of_getElem? (i := 1097) rfl
set_option maxRecDepth 100000 in
theorem cw_25 : Cond.code (yNm 25) (bts 25) (mLoc 25) (rtT 25) ∈ lw_tbl := List.mem_of_getElem? (i := 1101) rfl
set_option maxRecDepth 100000 in
theorem cw_26 : Cond.code (yNm 26) (bts 26) (mLoc 26) (rtT 26) ∈ lw_tbl := List.mem_of_getElem? (i := 1105) rfl
set_option maxRecDepth 100000 in
theorem cw_27 : Cond.code (yNm 27) (bts 27) (mLoc 27) (rtT 27) ∈ lw_tbl := List.mem_of_getElem? (i := 1151) rfl
set_option maxRecDepth 100000 in
theorem cw_28 : Cond.code (yNm 28) (bts 28) (mLoc 28) (rtT 28) ∈ lw_tbl := List.mem_of_getElem? (i := 87) rfl
set_option maxRecDepth 100000 in
theorem cw_29 : Cond.code (yNm 29) (bts 29) (mLoc 29) (rtT 29) ∈ lw_tbl := List.mem_of_getElem? (i := 435) rfl
set_option maxRecDepth 100000 in
theorem cw_30 : Cond.code (yNm 30) (bts 30) (mLoc 30) (rtT 30) ∈ lw_tbl := List.mem_of_getElem? (i := 500) rfl
set_option maxRecDepth 100000 in
theorem cw_31 : Cond.code (yNm 31) (bts 31) (mLoc 31) (rtT 31) ∈ lw_tbl := List.mem_of_getElem? (i := 531) rfl
set_option maxRecDepth 100000 in
theorem cw_32 : Cond.code (yNm 32) (bts 32) (mLoc 32) (rtT 32) ∈ lw_tbl := List.mem_of_getElem? (i := 535) rfl
set_option maxRecDepth 100000 in
theorem cw_33 : Cond.code (yNm 33) (bts 33) (mLoc 33) (rtT 33) ∈ lw_tbl := List.mem_of_getElem? (i := 542) rfl
set_option maxRecDepth 100000 in
theorem cw_34 : Cond.code (yNm 34) (bts 34) (mLoc 34) (rtT 34) ∈ lw_tbl := List.mem_of_getElem? (i := 778) rfl
set_option maxRecDepth 100000 in
theorem cw_35 : Cond.code (yNm 35) (bts 35) (mLoc 35) (rtT 35) ∈ lw_tbl := List.mem_of_getElem? (i := 782) rfl
set_option maxRecDepth 100000 in
theorem cw_36 : Cond.code (yNm 36) (bts 36) (mLoc 36) (rtT 36) ∈ lw_tbl := List.mem_of_getElem? (i := 791) rfl
set_option maxRecDepth 100000 in
theorem cw_37 : Cond.code (yNm 37) (bts 37) (mLoc 37) (rtT 37) ∈ lw_tbl := List.mem_of_getElem? (i := 173) rfl
set_option maxRecDepth 100000 in
theorem cw_38 : Cond.code (yNm 38) (bts 38) (mLoc 38) (rtT 38) ∈ lw_tbl := List.mem_of_getElem? (i := 553) rfl
set_option maxRecDepth 100000 in
theorem cw_39 : Cond.code (yNm 39) (bts 39) (mLoc 39) (rtT 39) ∈ lw_tbl := List.mem_of_getElem? (i := 844) rfl
set_option maxRecDepth 100000 in
theorem cw_40 : Cond.code (yNm 40) (bts 40) (mLoc 40) (rtT 40) ∈ lw_tbl := List.mem_of_getElem? (i := 848) rfl
set_option maxRecDepth 100000 in
theorem cw_41 : Cond.code (yNm 41) (bts 41) (mLoc 41) (rtT 41) ∈ lw_tbl := List.mem_of_getElem? (i := 853) rfl
set_option maxRecDepth 100000 in
theorem cw_42 : Cond.code (yNm 42) (bts 42) (mLoc 42) (rtT 42) ∈ lw_tbl := List.mem_of_getElem? (i := 1188) rfl
set_option maxRecDepth 100000 in
theorem cw_43 : Cond.code (yNm 43) (bts 43) (mLoc 43) (rtT 43) ∈ lw_tbl := List.mem_of_getElem? (i := 1192) rfl
set_option maxRecDepth 100000 in
theorem cw_44 : Cond.code (yNm 44) (bts 44) (mLoc 44) (rtT 44) ∈ lw_tbl := List.mem_of_getElem? (i := 1196) rfl
set_option maxRecDepth 100000 in
theorem cw_45 : Cond.code (yNm 45) (bts 45) (mLoc 45) (rtT 45) ∈ lw_tbl := List.mem_of_getElem? (i := 248) rfl
set_option maxRecDepth 100000 in
theorem cw_46 : Cond.code (yNm 46) (bts 46) (mLoc 46) (rtT 46) ∈ lw_tbl := List.mem_of_getElem? (i := 495) rfl
set_option maxRecDepth 100000 in
theorem cw_47 : Cond.code (yNm 47) (bts 47) (mLoc 47) (rtT 47) ∈ lw_tbl := List.mem_of_getElem? (i := 959) rfl
set_option maxRecDepth 100000 in
theorem cw_48 : Cond.code (yNm 48) (bts 48) (mLoc 48) (rtT 48) ∈ lw_tbl := List.mem_of_getElem? (i := 963) rfl
set_option maxRecDepth 100000 in
theorem cw_49 : Cond.code (yNm 49) (bts 49) (mLoc 49) (rtT 49) ∈ lw_tbl := List.mem_of_getElem? (i := 971) rfl
set_option maxRecDepth 100000 in
theorem cw_50 : Cond.code (yNm 50) (bts 50) (mLoc 50) (rtT 50) ∈ lw_tbl := List.mem_of_getElem? (i := 975) rfl
set_option maxRecDepth 100000 in
theorem cw_51 : Cond.code (yNm 51) (bts 51) (mLoc 51) (rtT 51) ∈ lw_tbl := List.mem_of_getElem? (i := 1248) rfl
set_option maxRecDepth 100000 in
theorem cw_52 : Cond.code (yNm 52) (bts 52) (mLoc 52) (rtT 52) ∈ lw_tbl := List.mem_of_getElem? (i := 1257) rfl
set_option maxRecDepth 100000 in
theorem cw_53 : Cond.code (yNm 53) (bts 53) (mLoc 53) (rtT 53) ∈ lw_tbl := List.mem_of_getElem? (i := 1262) rfl
set_option maxRecDepth 100000 in
theorem cw_54 : Cond.code (yNm 54) (bts 54) (mLoc 54) (rtT 54) ∈ lw_tbl := List.mem_of_getElem? (i := 1267) rfl
set_option maxRecDepth 100000 in
theorem cw_55 : Cond.code (yNm 55) (bts 55) (mLoc 55) (rtT 55) ∈ lw_tbl := List.mem_of_getElem? (i := 1271) rfl
set_option maxRecDepth 100000 in
theorem cw_56 : Cond.code (yNm 56) (bts 56) (mLoc 56) (rtT 56) ∈ lw_tbl := List.mem_of_getElem? (i := 1275) rfl
set_option maxRecDepth 100000 in
theorem cw_57 : Cond.code (yNm 57) (bts 57) (mLoc 57) (rtT 57) ∈ lw_tbl := List.mem_of_getElem? (i := 1279) rfl
set_option maxRecDepth 100000 in
theorem cw_58 : Cond.code (yNm 58) (bts 58) (mLoc 58) (rtT 58) ∈ lw_tbl := List.mem_of_getElem? (i := 1283) rfl
set_option maxRecDepth 100000 in
theorem cw_59 : Cond.code (yNm 59) (bts 59) (mLoc 59) (rtT 59) ∈ lw_tbl := List.mem_of_getElem? (i := 1287) rfl
set_option maxRecDepth 100000 in
theorem cw_60 : Cond.code (yNm 60) (bts 60) (mLoc 60) (rtT 60) ∈ lw_tbl := List.mem_of_getElem? (i := 1291) rfl
set_option maxRecDepth 100000 in
theorem cw_61 : Cond.code (yNm 61) (bts 61) (mLoc 61) (rtT 61) ∈ lw_tbl := List.mem_of_getElem? (i := 1295) rfl
set_option maxRecDepth 100000 in
theorem cw_62 : Cond.code (yNm 62) (bts 62) (mLoc 62) (rtT 62) ∈ lw_tbl := List.mem_of_getElem? (i := 1299) rfl
set_option maxRecDepth 100000 in
theorem cw_63 : Cond.code (yNm 63) (bts 63) (mLoc 63) (rtT 63) ∈ lw_tbl := List.mem_of_getElem? (i := 1303) rfl
set_option maxRecDepth 100000 in
theorem cw_64 : Cond.code (yNm 64) (bts 64) (mLoc 64) (rtT 64) ∈ lw_tbl := List.mem_of_getElem? (i := 1309) rfl
set_option maxRecDepth 100000 in
theorem cw_65 : Cond.code (yNm 65) (bts 65) (mLoc 65) (rtT 65) ∈ lw_tbl := List.mem_of_getElem? (i := 1323) rfl
set_option maxRecDepth 100000 in
theorem cw_66 : Cond.code (yNm 66) (bts 66) (mLoc 66) (rtT 66) ∈ lw_tbl := List.mem_of_getElem? (i := 1348) rfl
set_option maxRecDepth 100000 in
theorem cw_67 : Cond.code (yNm 67) (bts 67) (mLoc 67) (rtT 67) ∈ lw_tbl := List.mem_of_getElem? (i := 136) rfl
set_option maxRecDepth 100000 in
theorem cw_68 : Cond.code (yNm 68) (bts 68) (mLoc 68) (rtT 68) ∈ lw_tbl := List.mem_of_getElem? (i := 444) rfl
set_option maxRecDepth 100000 in
theorem cw_69 : Cond.code (yNm 69) (bts 69) (mLoc 69) (rtT 69) ∈ lw_tbl := List.mem_of_getElem? (i := 448) rfl
set_option maxRecDepth 100000 in
theorem cw_70 : Cond.code (yNm 70) (bts 70) (mLoc 70) (rtT 70) ∈ lw_tbl := List.mem_of_getElem? (i := 453) rfl
set_option maxRecDepth 100000 in
theorem cw_71 : Cond.code (yNm 71) (bts 71) (mLoc 71) (rtT 71) ∈ lw_tbl := List.mem_of_getElem? (i := 461) rfl
set_option maxRecDepth 100000 in
theorem cw_72 : Cond.code (yNm 72) (bts 72) (mLoc 72) (rtT 72) ∈ lw_tbl := List.mem_of_getElem? (i := 795) rfl
set_option maxRecDepth 100000 in
theorem cw_73 : Cond.code (yNm 73) (bts 73) (mLoc 73) (rtT 73) ∈ lw_tbl := List.mem_of_getElem? (i := 1055) rfl
set_option maxRecDepth 100000 in
theorem cw_74 : Cond.code (yNm 74) (bts 74) (mLoc 74) (rtT 74) ∈ lw_tbl := List.mem_of_getElem? (i := 1072) rfl
set_option maxRecDepth 100000 in
theorem cw_75 : Cond.code (yNm 75) (bts 75) (mLoc 75) (rtT 75) ∈ lw_tbl := List.mem_of_getElem? (i := 295) rfl
set_option maxRecDepth 100000 in
theorem cw_76 : Cond.code (yNm 76) (bts 76) (mLoc 76) (rtT 76) ∈ lw_tbl := List.mem_of_getElem? (i := 1007) rfl
set_option maxRecDepth 100000 in
theorem cw_77 : Cond.code (yNm 77) (bts 77) (mLoc 77) (rtT 77) ∈ lw_tbl := List.mem_of_getElem? (i := 1015) rfl
set_option maxRecDepth 100000 in
theorem cw_78 : Cond.code (yNm 78) (bts 78) (mLoc 78) (rtT 78) ∈ lw_tbl := List.mem_of_getElem? (i := 1019) rfl
set_option maxRecDepth 100000 in
theorem cw_79 : Cond.code (yNm 79) (bts 79) (mLoc 79) (rtT 79) ∈ lw_tbl := List.mem_of_getElem? (i := 566) rfl
set_option maxRecDepth 100000 in
theorem cw_80 : Cond.code (yNm 80) (bts 80) (mLoc 80) (rtT 80) ∈ lw_tbl := List.mem_of_getElem? (i := 1172) rfl
set_option maxRecDepth 100000 in
theorem cw_81 : Cond.code (yNm 81) (bts 81) (mLoc 81) (rtT 81) ∈ lw_tbl := List.mem_of_getElem? (i := 79) rfl
set_option maxRecDepth 100000 in
theorem cw_82 : Cond.code (yNm 82) (bts 82) (mLoc 82) (rtT 82) ∈ lw_tbl := List.mem_of_getElem? (i := 357) rfl
set_option maxRecDepth 100000 in
theorem cw_83 : Cond.code (yNm 83) (bts 83) (mLoc 83) (rtT 83) ∈ lw_tbl := List.mem_of_getElem? (i := 360) rfl
set_option maxRecDepth 100000 in
theorem cw_84 : Cond.code (yNm 84) (bts 84) (mLoc 84) (rtT 84) ∈ lw_tbl := List.mem_of_getElem? (i := 363) rfl
set_option maxRecDepth 100000 in
theorem cw_85 : Cond.code (yNm 85) (bts 85) (mLoc 85) (rtT 85) ∈ lw_tbl := List.mem_of_getElem? (i := 464) rfl
set_option maxRecDepth 100000 in
theorem cw_86 : Cond.code (yNm 86) (bts 86) (mLoc 86) (rtT 86) ∈ lw_tbl := List.mem_of_getElem? (i := 467) rfl
set_option maxRecDepth 100000 in
theorem cw_87 : Cond.code (yNm 87) (bts 87) (mLoc 87) (rtT 87) ∈ lw_tbl := List.mem_of_getElem? (i := 504) rfl
set_option maxRecDepth 100000 in
theorem cw_88 : Cond.code (yNm 88) (bts 88) (mLoc 88) (rtT 88) ∈ lw_tbl := List.mem_of_getElem? (i := 511) rfl
set_option maxRecDepth 100000 in
theorem cw_89 : Cond.code (yNm 89) (bts 89) (mLoc 89) (rtT 89) ∈ lw_tbl := List.mem_of_getElem? (i := 546) rfl
set_option maxRecDepth 100000 in
theorem cw_90 : Cond.code (yNm 90) (bts 90) (mLoc 90) (rtT 90) ∈ lw_tbl := List.mem_of_getElem? (i := 549) rfl
set_option maxRecDepth 100000 in
theorem cw_91 : Cond.code (yNm 91) (bts 91) (mLoc 91) (rtT 91) ∈ lw_tbl := List.mem_of_getElem? (i := 557) rfl
set_option maxRecDepth 100000 in
theorem cw_92 : Cond.code (yNm 92) (bts 92) (mLoc 92) (rtT 92) ∈ lw_tbl := List.mem_of_getElem? (i := 643) rfl
set_option maxRecDepth 100000 in
theorem cw_93 : Cond.code (yNm 93) (bts 93) (mLoc 93) (rtT 93) ∈ lw_tbl := List.mem_of_getElem? (i := 646) rfl
set_option maxRecDepth 100000 in
theorem cw_94 : Cond.code (yNm 94) (bts 94) (mLoc 94) (rtT 94) ∈ lw_tbl := List.mem_of_getElem? (i := 649) rfl
set_option maxRecDepth 100000 in
theorem cw_95 : Cond.code (yNm 95) (bts 95) (mLoc 95) (rtT 95) ∈ lw_tbl := List.mem_of_getElem? (i := 683) rfl
set_option maxRecDepth 100000 in
theorem cw_96 : Cond.code (yNm 96) (bts 96) (mLoc 96) (rtT 96) ∈ lw_tbl := List.mem_of_getElem? (i := 686) rfl
set_option maxRecDepth 100000 in
theorem cw_97 : Cond.code (yNm 97) (bts 97) (mLoc 97) (rtT 97) ∈ lw_tbl := List.mem_of_getElem? (i := 689) rfl
set_option maxRecDepth 100000 in
theorem cw_98 : Cond.code (yNm 98) (bts 98) (mLoc 98) (rtT 98) ∈ lw_tbl := List.mem_of_getElem? (i := 693) rfl
set_option maxRecDepth 100000 in
theorem cw_99 : Cond.code (yNm 99) (bts 99) (mLoc 99) (rtT 99) ∈ lw_tbl := List.mem_of_getElem? (i := 765) rfl
set_option maxRecDepth 100000 in
theorem cw_100 : Cond.code (yNm 100) (bts 100) (mLoc 100) (rtT 100) ∈ lw_tbl := List.mem_of_getElem? (i := 800) rfl
set_option maxRecDepth 100000 in
theorem cw_101 : Cond.code (yNm 101) (bts 101) (mLoc 101) (rtT 101) ∈ lw_tbl := List.mem_of_getElem? (i := 805) rfl
set_option maxRecDepth 100000 in
theorem cw_102 : Cond.code (yNm 102) (bts 102) (mLoc 102) (rtT 102) ∈ lw_tbl := List.mem_of_getElem? (i := 813) rfl
set_option maxRecDepth 100000 in
theorem cw_103 : Cond.code (yNm 103) (bts 103) (mLoc 103) (rtT 103) ∈ lw_tbl := List.mem_of_getElem? (i := 817) rfl
set_option maxRecDepth 100000 in
theorem cw_104 : Cond.code (yNm 104) (bts 104) (mLoc 104) (rtT 104) ∈ lw_tbl := List.mem_of_getElem? (i := 836) rfl
set_option maxRecDepth 100000 in
theorem cw_105 : Cond.code (yNm 105) (bts 105) (mLoc 105) (rtT 105) ∈ lw_tbl := List.mem_of_getElem? (i := 840) rfl
set_option maxRecDepth 100000 in
theorem cw_106 : Cond.code (yNm 106) (bts 106) (mLoc 106) (rtT 106) ∈ lw_tbl := List.mem_of_getElem? (i := 857) rfl
set_option maxRecDepth 100000 in
theorem cw_107 : Cond.code (yNm 107) (bts 107) (mLoc 107) (rtT 107) ∈ lw_tbl := List.mem_of_getElem? (i := 898) rfl
set_option maxRecDepth 100000 in
theorem cw_108 : Cond.code (yNm 108) (bts 108) (mLoc 108) (rtT 108) ∈ lw_tbl := List.mem_of_getElem? (i := 902) rfl
set_option maxRecDepth 100000 in
theorem cw_109 : Cond.code (yNm 109) (bts 109) (mLoc 109) (rtT 109) ∈ lw_tbl := List.mem_of_getElem? (i := 906) rfl
set_option maxRecDepth 100000 in
theorem cw_110 : Cond.code (yNm 110) (bts 110) (mLoc 110) (rtT 110) ∈ lw_tbl := List.mem_of_getElem? (i := 910) rfl
set_option maxRecDepth 100000 in
theorem cw_111 : Cond.code (yNm 111) (bts 111) (mLoc 111) (rtT 111) ∈ lw_tbl := List.mem_of_getElem? (i := 914) rfl
set_option maxRecDepth 100000 in
theorem cw_112 : Cond.code (yNm 112) (bts 112) (mLoc 112) (rtT 112) ∈ lw_tbl := List.mem_of_getElem? (i := 918) rfl
set_option maxRecDepth 100000 in
theorem cw_113 : Cond.code (yNm 113) (bts 113) (mLoc 113) (rtT 113) ∈ lw_tbl := List.mem_of_getElem? (i := 926) rfl
set_option maxRecDepth 100000 in
theorem cw_114 : Cond.code (yNm 114) (bts 114) (mLoc 114) (rtT 114) ∈ lw_tbl := List.mem_of_getElem? (i := 930) rfl
set_option maxRecDepth 100000 in
theorem cw_115 : Cond.code (yNm 115) (bts 115) (mLoc 115) (rtT 115) ∈ lw_tbl := List.mem_of_getElem? (i := 933) rfl
set_option maxRecDepth 100000 in
theorem cw_116 : Cond.code (yNm 116) (bts 116) (mLoc 116) (rtT 116) ∈ lw_tbl := List.mem_of_getElem? (i := 941) rfl
set_option maxRecDepth 100000 in
theorem cw_117 : Cond.code (yNm 117) (bts 117) (mLoc 117) (rtT 117) ∈ lw_tbl := List.mem_of_getElem? (i := 955) rfl
set_option maxRecDepth 100000 in
theorem cw_118 : Cond.code (yNm 118) (bts 118) (mLoc 118) (rtT 118) ∈ lw_tbl := List.mem_of_getElem? (i := 967) rfl
set_option maxRecDepth 100000 in
theorem cw_119 : Cond.code (yNm 119) (bts 119) (mLoc 119) (rtT 119) ∈ lw_tbl := List.mem_of_getElem? (i := 1000) rfl
set_option maxRecDepth 100000 in
theorem cw_120 : Cond.code (yNm 120) (bts 120) (mLoc 120) (rtT 120) ∈ lw_tbl := List.mem_of_getElem? (i := 1003) rfl
set_option maxRecDepth 100000 in
theorem cw_121 : Cond.code (yNm 121) (bts 121) (mLoc 121) (rtT 121) ∈ lw_tbl := List.mem_of_getElem? (i := 1011) rfl
set_option maxRecDepth 100000 in
theorem cw_122 : Cond.code (yNm 122) (bts 122) (mLoc 122) (rtT 122) ∈ lw_tbl := List.mem_of_getElem? (i := 1026) rfl
set_option maxRecDepth 100000 in
theorem cw_123 : Cond.code (yNm 123) (bts 123) (mLoc 123) (rtT 123) ∈ lw_tbl := List.mem_of_getElem? (i := 1033) rfl
set_option maxRecDepth 100000 in
theorem cw_124 : Cond.code (yNm 124) (bts 124) (mLoc 124) (rtT 124) ∈ lw_tbl := List.mem_of_getElem? (i := 1037) rfl
set_option maxRecDepth 100000 in
theorem cw_125 : Cond.code (yNm 125) (bts 125) (mLoc 125) (rtT 125) ∈ lw_tbl := List.mem_of_getElem? (i := 1042) rfl
set_option maxRecDepth 100000 in
theorem cw_126 : Cond.code (yNm 126) (bts 126) (mLoc 126) (rtT 126) ∈ lw_tbl := List.mem_of_getElem? (i := 1047) rfl
set_option maxRecDepth 100000 in
theorem cw_127 : Cond.code (yNm 127) (bts 127) (mLoc 127) (rtT 127) ∈ lw_tbl := List.mem_of_getElem? (i := 1051) rfl
set_option maxRecDepth 100000 in
theorem cw_128 : Cond.code (yNm 128) (bts 128) (mLoc 128) (rtT 128) ∈ lw_tbl := List.mem_of_getElem? (i := 1059) rfl
set_option maxRecDepth 100000 in
theorem cw_129 : Cond.code (yNm 129) (bts 129) (mLoc 129) (rtT 129) ∈ lw_tbl := List.mem_of_getElem? (i := 1063) rfl
set_option maxRecDepth 100000 in
theorem cw_130 : Cond.code (yNm 130) (bts 130) (mLoc 130) (rtT 130) ∈ lw_tbl := List.mem_of_getElem? (i := 1077) rfl
set_option maxRecDepth 100000 in
theorem cw_131 : Cond.code (yNm 131) (bts 131) (mLoc 131) (rtT 131) ∈ lw_tbl := List.mem_of_getElem? (i := 1082) rfl
set_option maxRecDepth 100000 in
theorem cw_132 : Cond.code (yNm 132) (bts 132) (mLoc 132) (rtT 132) ∈ lw_tbl := List.mem_of_getElem? (i := 1085) rfl
set_option maxRecDepth 100000 in
theorem cw_133 : Cond.code (yNm 133) (bts 133) (mLoc 133) (rtT 133) ∈ lw_tbl := List.mem_of_getElem? (i := 1093) rfl
set_option maxRecDepth 100000 in
theorem cw_134 : Cond.code (yNm 134) (bts 134) (mLoc 134) (rtT 134) ∈ lw_tbl := List.mem_of_getElem? (i := 1110) rfl
set_option maxRecDepth 100000 in
theorem cw_135 : Cond.code (yNm 135) (bts 135) (mLoc 135) (rtT 135) ∈ lw_tbl := List.mem_of_getElem? (i := 1122) rfl
set_option maxRecDepth 100000 in
theorem cw_136 : Cond.code (yNm 136) (bts 136) (mLoc 136) (rtT 136) ∈ lw_tbl := List.mem_of_getElem? (i := 1130) rfl
set_option maxRecDepth 100000 in
theorem cw_137 : Cond.code (yNm 137) (bts 137) (mLoc 137) (rtT 137) ∈ lw_tbl := List.mem_of_getElem? (i := 1134) rfl
set_option maxRecDepth 100000 in
theorem cw_138 : Cond.code (yNm 138) (bts 138) (mLoc 138) (rtT 138) ∈ lw_tbl := List.mem_of_getElem? (i := 1139) rfl
set_option maxRecDepth 100000 in
theorem cw_139 : Cond.code (yNm 139) (bts 139) (mLoc 139) (rtT 139) ∈ lw_tbl := List.mem_of_getElem? (i := 1143) rfl
set_option maxRecDepth 100000 in
theorem cw_140 : Cond.code (yNm 140) (bts 140) (mLoc 140) (rtT 140) ∈ lw_tbl := List.mem_of_getElem? (i := 1147) rfl
set_option maxRecDepth 100000 in
theorem cw_141 : Cond.code (yNm 141) (bts 141) (mLoc 141) (rtT 141) ∈ lw_tbl := List.mem_of_getElem? (i := 1156) rfl
set_option maxRecDepth 100000 in
theorem cw_142 : Cond.code (yNm 142) (bts 142) (mLoc 142) (rtT 142) ∈ lw_tbl := List.mem_of_getElem? (i := 1160) rfl
set_option maxRecDepth 100000 in
theorem cw_143 : Cond.code (yNm 143) (bts 143) (mLoc 143) (rtT 143) ∈ lw_tbl := List.mem_of_getElem? (i := 1164) rfl
set_option maxRecDepth 100000 in
theorem cw_144 : Cond.code (yNm 144) (bts 144) (mLoc 144) (rtT 144) ∈ lw_tbl := List.mem_of_getElem? (i := 1168) rfl
set_option maxRecDepth 100000 in
theorem cw_145 : Cond.code (yNm 145) (bts 145) (mLoc 145) (rtT 145) ∈ lw_tbl := List.mem_of_getElem? (i := 1176) rfl
set_option maxRecDepth 100000 in
theorem cw_146 : Cond.code (yNm 146) (bts 146) (mLoc 146) (rtT 146) ∈ lw_tbl := List.mem_of_getElem? (i := 1180) rfl
set_option maxRecDepth 100000 in
theorem cw_147 : Cond.code (yNm 147) (bts 147) (mLoc 147) (rtT 147) ∈ lw_tbl := List.mem_of_getElem? (i := 1184) rfl
set_option maxRecDepth 100000 in
theorem cw_148 : Cond.code (yNm 148) (bts 148) (mLoc 148) (rtT 148) ∈ lw_tbl := List.mem_of_getElem? (i := 1199) rfl
set_option maxRecDepth 100000 in
theorem cw_149 : Cond.code (yNm 149) (bts 149) (mLoc 149) (rtT 149) ∈ lw_tbl := List.mem_of_getElem? (i := 1207) rfl
set_option maxRecDepth 100000 in
theorem cw_150 : Cond.code (yNm 150) (bts 150) (mLoc 150) (rtT 150) ∈ lw_tbl := List.mem_of_getElem? (i := 1211) rfl
set_option maxRecDepth 100000 in
theorem cw_151 : Cond.code (yNm 151) (bts 151) (mLoc 151) (rtT 151) ∈ lw_tbl := List.mem_of_getElem? (i := 1215) rfl
set_option maxRecDepth 100000 in
theorem cw_152 : Cond.code (yNm 152) (bts 152) (mLoc 152) (rtT 152) ∈ lw_tbl := List.mem_of_getElem? (i := 1219) rfl
set_option maxRecDepth 100000 in
theorem cw_153 : Cond.code (yNm 153) (bts 153) (mLoc 153) (rtT 153) ∈ lw_tbl := List.mem_of_getElem? (i := 1224) rfl
set_option maxRecDepth 100000 in
theorem cw_154 : Cond.code (yNm 154) (bts 154) (mLoc 154) (rtT 154) ∈ lw_tbl := List.mem_of_getElem? (i := 1228) rfl
set_option maxRecDepth 100000 in
theorem cw_155 : Cond.code (yNm 155) (bts 155) (mLoc 155) (rtT 155) ∈ lw_tbl := List.mem_of_getElem? (i := 1232) rfl
set_option maxRecDepth 100000 in
theorem cw_156 : Cond.code (yNm 156) (bts 156) (mLoc 156) (rtT 156) ∈ lw_tbl := List.mem_of_getElem? (i := 1236) rfl
set_option maxRecDepth 100000 in
theorem cw_157 : Cond.code (yNm 157) (bts 157) (mLoc 157) (rtT 157) ∈ lw_tbl := List.mem_of_getElem? (i := 1240) rfl
set_option maxRecDepth 100000 in
theorem cw_158 : Cond.code (yNm 158) (bts 158) (mLoc 158) (rtT 158) ∈ lw_tbl := List.mem_of_getElem? (i := 1244) rfl
set_option maxRecDepth 100000 in
theorem cw_159 : Cond.code (yNm 159) (bts 159) (mLoc 159) (rtT 159) ∈ lw_tbl := List.mem_of_getElem? (i := 1319) rfl
set_option maxRecDepth 100000 in
theorem cw_160 : Cond.code (yNm 160) (bts 160) (mLoc 160) (rtT 160) ∈ lw_tbl := List.mem_of_getElem? (i := 1328) rfl
set_option maxRecDepth 100000 in
theorem cw_161 : Cond.code (yNm 161) (bts 161) (mLoc 161) (rtT 161) ∈ lw_tbl := List.mem_of_getElem? (i := 1332) rfl
set_option maxRecDepth 100000 in
theorem cw_162 : Cond.code (yNm 162) (bts 162) (mLoc 162) (rtT 162) ∈ lw_tbl := List.mem_of_getElem? (i := 1336) rfl
set_option maxRecDepth 100000 in
theorem cw_163 : Cond.code (yNm 163) (bts 163) (mLoc 163) (rtT 163) ∈ lw_tbl := List.mem_of_getElem? (i := 1340) rfl
set_option maxRecDepth 100000 in
theorem cw_164 : Cond.code (yNm 164) (bts 164) (mLoc 164) (rtT 164) ∈ lw_tbl := List.mem_of_getElem? (i := 1344) rfl
set_option maxRecDepth 100000 in
theorem cw_165 : Cond.code (yNm 165) (bts 165) (mLoc 165) (rtT 165) ∈ lw_tbl := List.mem_of_getElem? (i := 109) rfl
set_option maxRecDepth 100000 in
theorem cw_166 : Cond.code (yNm 166) (bts 166) (mLoc 166) (rtT 166) ∈ lw_tbl := List.mem_of_getElem? (i := 440) rfl
set_option maxRecDepth 100000 in
theorem cw_167 : Cond.code (yNm 167) (bts 167) (mLoc 167) (rtT 167) ∈ lw_tbl := List.mem_of_getElem? (i := 508) rfl
set_option maxRecDepth 100000 in
theorem cw_168 : Cond.code (yNm 168) (bts 168) (mLoc 168) (rtT 168) ∈ lw_tbl := List.mem_of_getElem? (i := 561) rfl
set_option maxRecDepth 100000 in
theorem cw_169 : Cond.code (yNm 169) (bts 169) (mLoc 169) (rtT 169) ∈ lw_tbl := List.mem_of_getElem? (i := 584) rfl
set_option maxRecDepth 100000 in
theorem cw_170 : Cond.code (yNm 170) (bts 170) (mLoc 170) (rtT 170) ∈ lw_tbl := List.mem_of_getElem? (i := 588) rfl
set_option maxRecDepth 100000 in
theorem cw_171 : Cond.code (yNm 171) (bts 171) (mLoc 171) (rtT 171) ∈ lw_tbl := List.mem_of_getElem? (i := 592) rfl
set_option maxRecDepth 100000 in
theorem cw_172 : Cond.code (yNm 172) (bts 172) (mLoc 172) (rtT 172) ∈ lw_tbl := List.mem_of_getElem? (i := 596) rfl
set_option maxRecDepth 100000 in
theorem cw_173 : Cond.code (yNm 173) (bts 173) (mLoc 173) (rtT 173) ∈ lw_tbl := List.mem_of_getElem? (i := 821) rfl
set_option maxRecDepth 100000 in
theorem cw_174 : Cond.code (yNm 174) (bts 174) (mLoc 174) (rtT 174) ∈ lw_tbl := List.mem_of_getElem? (i := 831) rfl
set_option maxRecDepth 100000 in
theorem cw_175 : Cond.code (yNm 175) (bts 175) (mLoc 175) (rtT 175) ∈ lw_tbl := List.mem_of_getElem? (i := 668) rfl
set_option maxRecDepth 100000 in
theorem cw_176 : Cond.code (yNm 176) (bts 176) (mLoc 176) (rtT 176) ∈ lw_tbl := List.mem_of_getElem? (i := 672) rfl
set_option maxRecDepth 100000 in
theorem cw_178 : Cond.code (yNm 178) (bts 178) (mLoc 178) (rtT 178) ∈ lw_tbl := List.mem_of_getElem? (i := 1029) rfl
set_option maxRecDepth 100000 in
theorem cw_179 : Cond.code (yNm 179) (bts 179) (mLoc 179) (rtT 179) ∈ lw_tbl := List.mem_of_getElem? (i := 112) rfl
set_option maxRecDepth 100000 in
theorem cw_180 : Cond.code (yNm 180) (bts 180) (mLoc 180) (rtT 180) ∈ lw_tbl := List.mem_of_getElem? (i := 115) rfl
set_option maxRecDepth 100000 in
theorem cw_181 : Cond.code (yNm 181) (bts 181) (mLoc 181) (rtT 181) ∈ lw_tbl := List.mem_of_getElem? (i := 177) rfl
set_option maxRecDepth 100000 in
theorem cw_183 : Cond.code (yNm 183) (bts 183) (mLoc 183) (rtT 183) ∈ lw_tbl := List.mem_of_getElem? (i := 1252) rfl
set_option maxRecDepth 100000 in
theorem cw_184 : Cond.code (yNm 184) (bts 184) (mLoc 184) (rtT 184) ∈ lw_tbl := List.mem_of_getElem? (i := 824) rfl
set_option maxRecDepth 100000 in
theorem cw_185 : Cond.code (yNm 185) (bts 185) (mLoc 185) (rtT 185) ∈ lw_tbl := List.mem_of_getElem? (i := 827) rfl
set_option maxRecDepth 100000 in
theorem cw_186 : Cond.code (yNm 186) (bts 186) (mLoc 186) (rtT 186) ∈ lw_tbl := List.mem_of_getElem? (i := 473) rfl
set_option maxRecDepth 100000 in
theorem cw_187 : Cond.code (yNm 187) (bts 187) (mLoc 187) (rtT 187) ∈ lw_tbl := List.mem_of_getElem? (i := 1312) rfl
set_option maxRecDepth 100000 in
theorem cw_191 : Cond.code (yNm 191) (bts 191) (mLoc 191) (rtT 191) ∈ lw_tbl := List.mem_of_getElem? (i := 599) rfl
set_option maxRecDepth 100000 in
theorem cw_192 : Cond.code (yNm 192) (bts 192) (mLoc 192) (rtT 192) ∈ lw_tbl := List.mem_of_getElem? (i := 606) rfl
end
section
theorem d0_0 : cod 0 0 = some (.aload_n 0, 1) := by decide +kernel
theorem d0_1 : cod 0 1 = some (.invokespecial 1, 4) := by decide +kernel
theorem d0_4 : cod 0 4 = some (.aload_n 0, 5) := by decide +kernel
theorem d0_5 : cod 0 5 = some (.iload_n 1, 6) := by decide +kernel
theorem d0_6 : cod 0 6 = some (.putfield 7, 9) := by decide +kernel
theorem d0_9 : cod 0 9 = some (.aload_n 0, 10) := by decide +kernel
theorem d0_10 : cod 0 10 = some (.iload_n 2, 11) := by decide +kernel
theorem d0_11 : cod 0 11 = some (.putfield 13, 14) := by decide +kernel
theorem d0_14 : cod 0 14 = some (.aload_n 0, 15) := by decide +kernel
theorem d0_15 : cod 0 15 = some (.iload_n 3, 16) := by decide +kernel
theorem d0_16 : cod 0 16 = some (.putfield 16, 19) := by decide +kernel
theorem d0_19 : cod 0 19 = some (.return_, 20) := by decide +kernel
theorem d1_0 : cod 1 0 = some (.aload_n 0, 1) := by decide +kernel
theorem d1_1 : cod 1 1 = some (.invokespecial 3, 4) := by decide +kernel
theorem d1_4 : cod 1 4 = some (.aload_n 0, 5) := by decide +kernel
theorem d1_5 : cod 1 5 = some (.bipush 10, 7) := by decide +kernel
theorem d1_7 : cod 1 7 = some (.newarray .int, 9) := by decide +kernel
theorem d1_9 : cod 1 9 = some (.putfield 9, 12) := by decide +kernel
theorem d1_12 : cod 1 12 = some (.aload_n 0, 13) := by decide +kernel
theorem d1_13 : cod 1 13 = some (.iload_n 1, 14) := by decide +kernel
theorem d1_14 : cod 1 14 = some (.putfield 15, 17) := by decide +kernel
theorem d1_17 : cod 1 17 = some (.aload_n 0, 18) := by decide +kernel
theorem d1_18 : cod 1 18 = some (.iload_n 2, 19) := by decide +kernel
theorem d1_19 : cod 1 19 = some (.putfield 19, 22) := by decide +kernel
theorem d1_22 : cod 1 22 = some (.aload_n 0, 23) := by decide +kernel
theorem d1_23 : cod 1 23 = some (.iload_n 3, 24) := by decide +kernel
theorem d1_24 : cod 1 24 = some (.putfield 22, 27) := by decide +kernel
theorem d1_27 : cod 1 27 = some (.aload_n 0, 28) := by decide +kernel
theorem d1_28 : cod 1 28 = some (.iload 4, 30) := by decide +kernel
theorem d1_30 : cod 1 30 = some (.putfield 25, 33) := by decide +kernel
theorem d1_33 : cod 1 33 = some (.aload_n 0, 34) := by decide +kernel
theorem d1_34 : cod 1 34 = some (.iload 5, 36) := by decide +kernel
theorem d1_36 : cod 1 36 = some (.putfield 28, 39) := by decide +kernel
theorem d1_39 : cod 1 39 = some (.return_, 40) := by decide +kernel
theorem d2_0 : cod 2 0 = some (.iconst 0, 1) := by decide +kernel
theorem d2_1 : cod 2 1 = some (.istore_n 1, 2) := by decide +kernel
theorem d2_2 : cod 2 2 = some (.iconst 0, 3) := by decide +kernel
theorem d2_3 : cod 2 3 = some (.istore_n 2, 4) := by decide +kernel
theorem d2_4 : cod 2 4 = some (.iload_n 2, 5) := by decide +kernel
theorem d2_5 : cod 2 5 = some (.bipush 10, 7) := by decide +kernel
theorem d2_7 : cod 2 7 = some (.if_icmp .ge 18, 10) := by decide +kernel
theorem d2_10 : cod 2 10 = some (.iload_n 1, 11) := by decide +kernel
theorem d2_11 : cod 2 11 = some (.aload_n 0, 12) := by decide +kernel
theorem d2_12 : cod 2 12 = some (.getfield 9, 15) := by decide +kernel
theorem d2_15 : cod 2 15 = some (.iload_n 2, 16) := by decide +kernel
theorem d2_16 : cod 2 16 = some (.iaload, 17) := by decide +kernel
theorem d2_17 : cod 2 17 = some (.iadd, 18) := by decide +kernel
theorem d2_18 : cod 2 18 = some (.istore_n 1, 19) := by decide +kernel
theorem d2_19 : cod 2 19 = some (.iinc 2 1, 22) := by decide +kernel
theorem d2_22 : cod 2 22 = some (.goto (-18), 25) := by decide +kernel
theorem d2_25 : cod 2 25 = some (.iload_n 1, 26) := by decide +kernel
theorem d2_26 : cod 2 26 = some (.ireturn, 27) := by decide +kernel
theorem d3_0 : cod 3 0 = some (.aload_n 0, 1) := by decide +kernel
theorem d3_1 : cod 3 1 = some (.invokespecial 3, 4) := by decide +kernel
theorem d3_4 : cod 3 4 = some (.aload_n 0, 5) := by decide +kernel
theorem d3_5 : cod 3 5 = some (.iconst 5, 6) := by decide +kernel
theorem d3_6 : cod 3 6 = some (.newarray .int, 8) := by decide +kernel
theorem d3_8 : cod 3 8 = some (.putfield 9, 11) := by decide +kernel
theorem d3_11 : cod 3 11 = some (.aload_n 0, 12) := by decide +kernel
theorem d3_12 : cod 3 12 = some (.bipush 20, 14) := by decide +kernel
theorem d3_14 : cod 3 14 = some (.newarray .int, 16) := by decide +kernel
theorem d3_16 : cod 3 16 = some (.putfield 15, 19) := by decide +kernel
theorem d3_19 : cod 3 19 = some (.aload_n 0, 20) := by decide +kernel
theorem d3_20 : cod 3 20 = some (.bipush 20, 22) := by decide +kernel
theorem d3_22 : cod 3 22 = some (.newarray .int, 24) := by decide +kernel
theorem d3_24 : cod 3 24 = some (.putfield 18, 27) := by decide +kernel
theorem d3_27 : cod 3 27 = some (.aload_n 0, 28) := by decide +kernel
theorem d3_28 : cod 3 28 = some (.bipush 20, 30) := by decide +kernel
theorem d3_30 : cod 3 30 = some (.newarray .int, 32) := by decide +kernel
theorem d3_32 : cod 3 32 = some (.putfield 21, 35) := by decide +kernel
theorem d3_35 : cod 3 35 = some (.aload_n 0, 36) := by decide +kernel
theorem d3_36 : cod 3 36 = some (.bipush 20, 38) := by decide +kernel
theorem d3_38 : cod 3 38 = some (.newarray .boolean, 40) := by decide +kernel
theorem d3_40 : cod 3 40 = some (.putfield 24, 43) := by decide +kernel
theorem d3_43 : cod 3 43 = some (.aload_n 0, 44) := by decide +kernel
theorem d3_44 : cod 3 44 = some (.getfield 9, 47) := by decide +kernel
theorem d3_47 : cod 3 47 = some (.iconst 5, 48) := by decide +kernel
theorem d3_48 : cod 3 48 = some (.invokestatic 28, 51) := by decide +kernel
theorem d3_51 : cod 3 51 = some (.return_, 52) := by decide +kernel
theorem d4_0 : cod 4 0 = some (.aload_n 0, 1) := by decide +kernel
theorem d4_1 : cod 4 1 = some (.iconst 0, 2) := by decide +kernel
theorem d4_2 : cod 4 2 = some (.putfield 34, 5) := by decide +kernel
theorem d4_5 : cod 4 5 = some (.return_, 6) := by decide +kernel
theorem d5_0 : cod 5 0 = some (.aload_n 0, 1) := by decide +kernel
theorem d5_1 : cod 5 1 = some (.getfield 15, 4) := by decide +kernel
theorem d5_4 : cod 5 4 = some (.aload_n 0, 5) := by decide +kernel
theorem d5_5 : cod 5 5 = some (.getfield 34, 8) := by decide +kernel
theorem d5_8 : cod 5 8 = some (.iload_n 1, 9) := by decide +kernel
theorem d5_9 : cod 5 9 = some (.iastore, 10) := by decide +kernel
theorem d5_10 : cod 5 10 = some (.aload_n 0, 11) := by decide +kernel
theorem d5_11 : cod 5 11 = some (.getfield 18, 14) := by decide +kernel
theorem d5_14 : cod 5 14 = some (.aload_n 0, 15) := by decide +kernel
theorem d5_15 : cod 5 15 = some (.getfield 34, 18) := by decide +kernel
theorem d5_18 : cod 5 18 = some (.iload_n 2, 19) := by decide +kernel
theorem d5_19 : cod 5 19 = some (.iastore, 20) := by decide +kernel
theorem d5_20 : cod 5 20 = some (.aload_n 0, 21) := by decide +kernel
theorem d5_21 : cod 5 21 = some (.getfield 21, 24) := by decide +kernel
theorem d5_24 : cod 5 24 = some (.aload_n 0, 25) := by decide +kernel
theorem d5_25 : cod 5 25 = some (.getfield 34, 28) := by decide +kernel
theorem d5_28 : cod 5 28 = some (.iload_n 3, 29) := by decide +kernel
theorem d5_29 : cod 5 29 = some (.iastore, 30) := by decide +kernel
theorem d5_30 : cod 5 30 = some (.aload_n 0, 31) := by decide +kernel
theorem d5_31 : cod 5 31 = some (.getfield 24, 34) := by decide +kernel
theorem d5_34 : cod 5 34 = some (.aload_n 0, 35) := by decide +kernel
theorem d5_35 : cod 5 35 = some (.getfield 34, 38) := by decide +kernel
theorem d5_38 : cod 5 38 = some (.iload 4, 40) := by decide +kernel
theorem d5_40 : cod 5 40 = some (.bastore, 41) := by decide +kernel
theorem d5_41 : cod 5 41 = some (.aload_n 0, 42) := by decide +kernel
theorem d5_42 : cod 5 42 = some (.dup, 43) := by decide +kernel
theorem d5_43 : cod 5 43 = some (.getfield 34, 46) := by decide +kernel
theorem d5_46 : cod 5 46 = some (.iconst 1, 47) := by decide +kernel
theorem d5_47 : cod 5 47 = some (.iadd, 48) := by decide +kernel
theorem d5_48 : cod 5 48 = some (.putfield 34, 51) := by decide +kernel
theorem d5_51 : cod 5 51 = some (.aload_n 0, 52) := by decide +kernel
theorem d5_52 : cod 5 52 = some (.getfield 34, 55) := by decide +kernel
theorem d5_55 : cod 5 55 = some (.iconst 1, 56) := by decide +kernel
theorem d5_56 : cod 5 56 = some (.isub, 57) := by decide +kernel
theorem d5_57 : cod 5 57 = some (.ireturn, 58) := by decide +kernel
theorem d6_0 : cod 6 0 = some (.iconst 0, 1) := by decide +kernel
theorem d6_1 : cod 6 1 = some (.istore 4, 3) := by decide +kernel
theorem d6_3 : cod 6 3 = some (.iconst 0, 4) := by decide +kernel
theorem d6_4 : cod 6 4 = some (.istore 5, 6) := by decide +kernel
theorem d6_6 : cod 6 6 = some (.iload 5, 8) := by decide +kernel
theorem d6_8 : cod 6 8 = some (.iconst 5, 9) := by decide +kernel
theorem d6_9 : cod 6 9 = some (.if_icmp .ge 89, 12) := by decide +kernel
theorem d6_12 : cod 6 12 = some (.aload_n 0, 13) := by decide +kernel
theorem d6_13 : cod 6 13 = some (.iload 5, 15) := by decide +kernel
theorem d6_15 : cod 6 15 = some (.iload_n 1, 16) := by decide +kernel
theorem d6_16 : cod 6 16 = some (.iload_n 2, 17) := by decide +kernel
theorem d6_17 : cod 6 17 = some (.invokevirtual 38, 20) := by decide +kernel
theorem d6_20 : cod 6 20 = some (.istore 6, 22) := by decide +kernel
theorem d6_22 : cod 6 22 = some (.iload 6, 24) := by decide +kernel
theorem d6_24 : cod 6 24 = some (.iconst (-1), 25) := by decide +kernel
theorem d6_25 : cod 6 25 = some (.if_icmp .eq 41, 28) := by decide +kernel
theorem d6_28 : cod 6 28 = some (.aload_n 0, 29) := by decide +kernel
theorem d6_29 : cod 6 29 = some (.getfield 24, 32) := by decide +kernel
theorem d6_32 : cod 6 32 = some (.iload 6, 34) := by decide +kernel
theorem d6_34 : cod 6 34 = some (.baload, 35) := by decide +kernel
theorem d6_35 : cod 6 35 = some (.iload_n 3, 36) := by decide +kernel
theorem d6_36 : cod 6 36 = some (.if_icmp .ne 30, 39) := by decide +kernel
theorem d6_39 : cod 6 39 = some (.aload_n 0, 40) := by decide +kernel
theorem d6_40 : cod 6 40 = some (.getfield 9, 43) := by decide +kernel
theorem d6_43 : cod 6 43 = some (.iload 5, 45) := by decide +kernel
theorem d6_45 : cod 6 45 = some (.aload_n 0, 46) := by decide +kernel
theorem d6_46 : cod 6 46 = some (.getfield 9, 49) := by decide +kernel
theorem d6_49 : cod 6 49 = some (.iload 5, 51) := by decide +kernel
theorem d6_51 : cod 6 51 = some (.iaload, 52) := by decide +kernel
theorem d6_52 : cod 6 52 = some (.iconst 1, 53) := by decide +kernel
theorem d6_53 : cod 6 53 = some (.iadd, 54) := by decide +kernel
theorem d6_54 : cod 6 54 = some (.bipush 9, 56) := by decide +kernel
theorem d6_56 : cod 6 56 = some (.invokestatic 42, 59) := by decide +kernel
theorem d6_59 : cod 6 59 = some (.iastore, 60) := by decide +kernel
theorem d6_60 : cod 6 60 = some (.iinc 4 1, 63) := by decide +kernel
theorem d6_63 : cod 6 63 = some (.goto 29, 66) := by decide +kernel
theorem d6_66 : cod 6 66 = some (.iload 6, 68) := by decide +kernel
theorem d6_68 : cod 6 68 = some (.iconst (-1), 69) := by decide +kernel
theorem d6_69 : cod 6 69 = some (.if_icmp .eq 23, 72) := by decide +kernel
theorem d6_72 : cod 6 72 = some (.aload_n 0, 73) := by decide +kernel
theorem d6_73 : cod 6 73 = some (.getfield 9, 76) := by decide +kernel
theorem d6_76 : cod 6 76 = some (.iload 5, 78) := by decide +kernel
theorem d6_78 : cod 6 78 = some (.aload_n 0, 79) := by decide +kernel
theorem d6_79 : cod 6 79 = some (.getfield 9, 82) := by decide +kernel
theorem d6_82 : cod 6 82 = some (.iload 5, 84) := by decide +kernel
theorem d6_84 : cod 6 84 = some (.iaload, 85) := by decide +kernel
theorem d6_85 : cod 6 85 = some (.iconst 2, 86) := by decide +kernel
theorem d6_86 : cod 6 86 = some (.isub, 87) := by decide +kernel
theorem d6_87 : cod 6 87 = some (.iconst 0, 88) := by decide +kernel
theorem d6_88 : cod 6 88 = some (.invokestatic 48, 91) := by decide +kernel
theorem d6_91 : cod 6 91 = some (.iastore, 92) := by decide +kernel
theorem d6_92 : cod 6 92 = some (.iinc 5 1, 95) := by decide +kernel
theorem d6_95 : cod 6 95 = some (.goto (-89), 98) := by decide +kernel
theorem d6_98 : cod 6 98 = some (.iload 4, 100) := by decide +kernel
theorem d6_100 : cod 6 100 = some (.ireturn, 101) := by decide +kernel
theorem d7_0 : cod 7 0 = some (.iconst (-1), 1) := by decide +kernel
theorem d7_1 : cod 7 1 = some (.istore 4, 3) := by decide +kernel
theorem d7_3 : cod 7 3 = some (.iconst 0, 4) := by decide +kernel
theorem d7_4 : cod 7 4 = some (.istore 5, 6) := by decide +kernel
theorem d7_6 : cod 7 6 = some (.iload 5, 8) := by decide +kernel
theorem d7_8 : cod 7 8 = some (.aload_n 0, 9) := by decide +kernel
theorem d7_9 : cod 7 9 = some (.getfield 34, 12) := by decide +kernel
theorem d7_12 : cod 7 12 = some (.if_icmp .ge 46, 15) := by decide +kernel
theorem d7_15 : cod 7 15 = some (.aload_n 0, 16) := by decide +kernel
theorem d7_16 : cod 7 16 = some (.getfield 18, 19) := by decide +kernel
theorem d7_19 : cod 7 19 = some (.iload 5, 21) := by decide +kernel
theorem d7_21 : cod 7 21 = some (.iaload, 22) := by decide +kernel
theorem d7_22 : cod 7 22 = some (.iload_n 1, 23) := by decide +kernel
theorem d7_23 : cod 7 23 = some (.if_icmp .ne 29, 26) := by decide +kernel
theorem d7_26 : cod 7 26 = some (.aload_n 0, 27) := by decide +kernel
theorem d7_27 : cod 7 27 = some (.getfield 15, 30) := by decide +kernel
theorem d7_30 : cod 7 30 = some (.iload 5, 32) := by decide +kernel
theorem d7_32 : cod 7 32 = some (.iaload, 33) := by decide +kernel
theorem d7_33 : cod 7 33 = some (.iload_n 2, 34) := by decide +kernel
theorem d7_34 : cod 7 34 = some (.if_icmp .ne 18, 37) := by decide +kernel
theorem d7_37 : cod 7 37 = some (.aload_n 0, 38) := by decide +kernel
theorem d7_38 : cod 7 38 = some (.getfield 21, 41) := by decide +kernel
theorem d7_41 : cod 7 41 = some (.iload 5, 43) := by decide +kernel
theorem d7_43 : cod 7 43 = some (.iaload, 44) := by decide +kernel
theorem d7_44 : cod 7 44 = some (.iload_n 3, 45) := by decide +kernel
theorem d7_45 : cod 7 45 = some (.if_icmp .gt 7, 48) := by decide +kernel
theorem d7_48 : cod 7 48 = some (.iload 5, 50) := by decide +kernel
theorem d7_50 : cod 7 50 = some (.istore 4, 52) := by decide +kernel
theorem d7_52 : cod 7 52 = some (.iinc 5 1, 55) := by decide +kernel
theorem d7_55 : cod 7 55 = some (.goto (-49), 58) := by decide +kernel
theorem d7_58 : cod 7 58 = some (.iload 4, 60) := by decide +kernel
theorem d7_60 : cod 7 60 = some (.iconst (-1), 61) := by decide +kernel
theorem d7_61 : cod 7 61 = some (.if_icmp .eq 23, 64) := by decide +kernel
theorem d7_64 : cod 7 64 = some (.iload_n 3, 65) := by decide +kernel
theorem d7_65 : cod 7 65 = some (.aload_n 0, 66) := by decide +kernel
theorem d7_66 : cod 7 66 = some (.getfield 21, 69) := by decide +kernel
theorem d7_69 : cod 7 69 = some (.iload 4, 71) := by decide +kernel
theorem d7_71 : cod 7 71 = some (.iaload, 72) := by decide +kernel
theorem d7_72 : cod 7 72 = some (.isub, 73) := by decide +kernel
theorem d7_73 : cod 7 73 = some (.sipush 300, 76) := by decide +kernel
theorem d7_76 : cod 7 76 = some (.if_icmp .gt 8, 79) := by decide +kernel
theorem d7_79 : cod 7 79 = some (.iload 4, 81) := by decide +kernel
theorem d7_81 : cod 7 81 = some (.goto 4, 84) := by decide +kernel
theorem d7_84 : cod 7 84 = some (.iconst (-1), 85) := by decide +kernel
theorem d7_85 : cod 7 85 = some (.ireturn, 86) := by decide +kernel
theorem d8_0 : cod 8 0 = some (.iconst 0, 1) := by decide +kernel
theorem d8_1 : cod 8 1 = some (.istore_n 3, 2) := by decide +kernel
theorem d8_2 : cod 8 2 = some (.iconst 0, 3) := by decide +kernel
theorem d8_3 : cod 8 3 = some (.istore 4, 5) := by decide +kernel
theorem d8_5 : cod 8 5 = some (.iload 4, 7) := by decide +kernel
theorem d8_7 : cod 8 7 = some (.iconst 5, 8) := by decide +kernel
theorem d8_8 : cod 8 8 = some (.if_icmp .ge 56, 11) := by decide +kernel
theorem d8_11 : cod 8 11 = some (.aload_n 0, 12) := by decide +kernel
theorem d8_12 : cod 8 12 = some (.iload 4, 14) := by decide +kernel
theorem d8_14 : cod 8 14 = some (.iload_n 1, 15) := by decide +kernel
theorem d8_15 : cod 8 15 = some (.iload_n 2, 16) := by decide +kernel
theorem d8_16 : cod 8 16 = some (.invokevirtual 38, 19) := by decide +kernel
theorem d8_19 : cod 8 19 = some (.istore 5, 21) := by decide +kernel
theorem d8_21 : cod 8 21 = some (.iload 5, 23) := by decide +kernel
theorem d8_23 : cod 8 23 = some (.iconst (-1), 24) := by decide +kernel
theorem d8_24 : cod 8 24 = some (.if_icmp .eq 34, 27) := by decide +kernel
theorem d8_27 : cod 8 27 = some (.iload_n 3, 28) := by decide +kernel
theorem d8_28 : cod 8 28 = some (.aload_n 0, 29) := by decide +kernel
theorem d8_29 : cod 8 29 = some (.getfield 24, 32) := by decide +kernel
theorem d8_32 : cod 8 32 = some (.iload 5, 34) := by decide +kernel
theorem d8_34 : cod 8 34 = some (.baload, 35) := by decide +kernel
theorem d8_35 : cod 8 35 = some (.ifCond .eq 13, 38) := by decide +kernel
theorem d8_38 : cod 8 38 = some (.aload_n 0, 39) := by decide +kernel
theorem d8_39 : cod 8 39 = some (.getfield 9, 42) := by decide +kernel
theorem d8_42 : cod 8 42 = some (.iload 4, 44) := by decide +kernel
theorem d8_44 : cod 8 44 = some (.iaload, 45) := by decide +kernel
theorem d8_45 : cod 8 45 = some (.goto 11, 48) := by decide +kernel
theorem d8_48 : cod 8 48 = some (.aload_n 0, 49) := by decide +kernel
theorem d8_49 : cod 8 49 = some (.getfield 9, 52) := by decide +kernel
theorem d8_52 : cod 8 52 = some (.iload 4, 54) := by decide +kernel
theorem d8_54 : cod 8 54 = some (.iaload, 55) := by decide +kernel
theorem d8_55 : cod 8 55 = some (.ineg, 56) := by decide +kernel
theorem d8_56 : cod 8 56 = some (.iadd, 57) := by decide +kernel
theorem d8_57 : cod 8 57 = some (.istore_n 3, 58) := by decide +kernel
theorem d8_58 : cod 8 58 = some (.iinc 4 1, 61) := by decide +kernel
theorem d8_61 : cod 8 61 = some (.goto (-56), 64) := by decide +kernel
theorem d8_64 : cod 8 64 = some (.iload_n 3, 65) := by decide +kernel
theorem d8_65 : cod 8 65 = some (.ireturn, 66) := by decide +kernel
theorem d9_0 : cod 9 0 = some (.iconst 0, 1) := by decide +kernel
theorem d9_1 : cod 9 1 = some (.istore_n 1, 2) := by decide +kernel
theorem d9_2 : cod 9 2 = some (.iload_n 1, 3) := by decide +kernel
theorem d9_3 : cod 9 3 = some (.iconst 5, 4) := by decide +kernel
theorem d9_4 : cod 9 4 = some (.if_icmp .ge 26, 7) := by decide +kernel
theorem d9_7 : cod 9 7 = some (.aload_n 0, 8) := by decide +kernel
theorem d9_8 : cod 9 8 = some (.getfield 9, 11) := by decide +kernel
theorem d9_11 : cod 9 11 = some (.iload_n 1, 12) := by decide +kernel
theorem d9_12 : cod 9 12 = some (.iaload, 13) := by decide +kernel
theorem d9_13 : cod 9 13 = some (.iconst 0, 14) := by decide +kernel
theorem d9_14 : cod 9 14 = some (.bipush 9, 16) := by decide +kernel
theorem d9_16 : cod 9 16 = some (.invokestatic 51, 19) := by decide +kernel
theorem d9_19 : cod 9 19 = some (.ifCond .ne 5, 22) := by decide +kernel
theorem d9_22 : cod 9 22 = some (.iconst 0, 23) := by decide +kernel
theorem d9_23 : cod 9 23 = some (.ireturn, 24) := by decide +kernel
theorem d9_24 : cod 9 24 = some (.iinc 1 1, 27) := by decide +kernel
theorem d9_27 : cod 9 27 = some (.goto (-25), 30) := by decide +kernel
theorem d9_30 : cod 9 30 = some (.iconst 1, 31) := by decide +kernel
theorem d9_31 : cod 9 31 = some (.ireturn, 32) := by decide +kernel
theorem d10_0 : cod 10 0 = some (.aload_n 0, 1) := by decide +kernel
theorem d10_1 : cod 10 1 = some (.invokespecial 3, 4) := by decide +kernel
theorem d10_4 : cod 10 4 = some (.aload_n 0, 5) := by decide +kernel
theorem d10_5 : cod 10 5 = some (.bipush 40, 7) := by decide +kernel
theorem d10_7 : cod 10 7 = some (.newarray .int, 9) := by decide +kernel
theorem d10_9 : cod 10 9 = some (.putfield 9, 12) := by decide +kernel
theorem d10_12 : cod 10 12 = some (.return_, 13) := by decide +kernel
theorem d11_0 : cod 11 0 = some (.iload_n 1, 1) := by decide +kernel
theorem d11_1 : cod 11 1 = some (.aload_n 0, 2) := by decide +kernel
theorem d11_2 : cod 11 2 = some (.getfield 15, 5) := by decide +kernel
theorem d11_5 : cod 11 5 = some (.if_icmp .ne 43, 8) := by decide +kernel
theorem d11_8 : cod 11 8 = some (.iconst 0, 9) := by decide +kernel
theorem d11_9 : cod 11 9 = some (.istore 4, 11) := by decide +kernel
theorem d11_11 : cod 11 11 = some (.iload 4, 13) := by decide +kernel
theorem d11_13 : cod 11 13 = some (.bipush 8, 15) := by decide +kernel
theorem d11_15 : cod 11 15 = some (.if_icmp .ge 23, 18) := by decide +kernel
theorem d11_18 : cod 11 18 = some (.aload_n 0, 19) := by decide +kernel
theorem d11_19 : cod 11 19 = some (.getfield 9, 22) := by decide +kernel
theorem d11_22 : cod 11 22 = some (.iload_n 1, 23) := by decide +kernel
theorem d11_23 : cod 11 23 = some (.bipush 8, 25) := by decide +kernel
theorem d11_25 : cod 11 25 = some (.imul, 26) := by decide +kernel
theorem d11_26 : cod 11 26 = some (.iload 4, 28) := by decide +kernel
theorem d11_28 : cod 11 28 = some (.iadd, 29) := by decide +kernel
theorem d11_29 : cod 11 29 = some (.bipush 8, 31) := by decide +kernel
theorem d11_31 : cod 11 31 = some (.iastore, 32) := by decide +kernel
theorem d11_32 : cod 11 32 = some (.iinc 4 1, 35) := by decide +kernel
theorem d11_35 : cod 11 35 = some (.goto (-24), 38) := by decide +kernel
theorem d11_38 : cod 11 38 = some (.aload_n 0, 39) := by decide +kernel
theorem d11_39 : cod 11 39 = some (.dup, 40) := by decide +kernel
theorem d11_40 : cod 11 40 = some (.getfield 15, 43) := by decide +kernel
theorem d11_43 : cod 11 43 = some (.iconst 1, 44) := by decide +kernel
theorem d11_44 : cod 11 44 = some (.iadd, 45) := by decide +kernel
theorem d11_45 : cod 11 45 = some (.putfield 15, 48) := by decide +kernel
theorem d11_48 : cod 11 48 = some (.aload_n 0, 49) := by decide +kernel
theorem d11_49 : cod 11 49 = some (.getfield 9, 52) := by decide +kernel
theorem d11_52 : cod 11 52 = some (.iload_n 1, 53) := by decide +kernel
theorem d11_53 : cod 11 53 = some (.bipush 8, 55) := by decide +kernel
theorem d11_55 : cod 11 55 = some (.imul, 56) := by decide +kernel
theorem d11_56 : cod 11 56 = some (.iload_n 2, 57) := by decide +kernel
theorem d11_57 : cod 11 57 = some (.iadd, 58) := by decide +kernel
theorem d11_58 : cod 11 58 = some (.iload_n 3, 59) := by decide +kernel
theorem d11_59 : cod 11 59 = some (.iastore, 60) := by decide +kernel
theorem d11_60 : cod 11 60 = some (.return_, 61) := by decide +kernel
theorem d12_0 : cod 12 0 = some (.iconst (-1), 1) := by decide +kernel
theorem d12_1 : cod 12 1 = some (.istore_n 2, 2) := by decide +kernel
theorem d12_2 : cod 12 2 = some (.aload_n 0, 3) := by decide +kernel
theorem d12_3 : cod 12 3 = some (.aload_n 1, 4) := by decide +kernel
theorem d12_4 : cod 12 4 = some (.iconst (-1), 5) := by decide +kernel
theorem d12_5 : cod 12 5 = some (.invokevirtual 24, 8) := by decide +kernel
theorem d12_8 : cod 12 8 = some (.lstore_n 3, 9) := by decide +kernel
theorem d12_9 : cod 12 9 = some (.iconst 0, 10) := by decide +kernel
theorem d12_10 : cod 12 10 = some (.istore 5, 12) := by decide +kernel
theorem d12_12 : cod 12 12 = some (.iload 5, 14) := by decide +kernel
theorem d12_14 : cod 12 14 = some (.aload_n 0, 15) := by decide +kernel
theorem d12_15 : cod 12 15 = some (.getfield 15, 18) := by decide +kernel
theorem d12_18 : cod 12 18 = some (.if_icmp .ge 31, 21) := by decide +kernel
theorem d12_21 : cod 12 21 = some (.aload_n 0, 22) := by decide +kernel
theorem d12_22 : cod 12 22 = some (.aload_n 1, 23) := by decide +kernel
theorem d12_23 : cod 12 23 = some (.iload 5, 25) := by decide +kernel
theorem d12_25 : cod 12 25 = some (.invokevirtual 24, 28) := by decide +kernel
theorem d12_28 : cod 12 28 = some (.lstore 6, 30) := by decide +kernel
theorem d12_30 : cod 12 30 = some (.lload 6, 32) := by decide +kernel
theorem d12_32 : cod 12 32 = some (.lload_n 3, 33) := by decide +kernel
theorem d12_33 : cod 12 33 = some (.lcmp, 34) := by decide +kernel
theorem d12_34 : cod 12 34 = some (.ifCond .le 9, 37) := by decide +kernel
theorem d12_37 : cod 12 37 = some (.lload 6, 39) := by decide +kernel
theorem d12_39 : cod 12 39 = some (.lstore_n 3, 40) := by decide +kernel
theorem d12_40 : cod 12 40 = some (.iload 5, 42) := by decide +kernel
theorem d12_42 : cod 12 42 = some (.istore_n 2, 43) := by decide +kernel
theorem d12_43 : cod 12 43 = some (.iinc 5 1, 46) := by decide +kernel
theorem d12_46 : cod 12 46 = some (.goto (-34), 49) := by decide +kernel
theorem d12_49 : cod 12 49 = some (.iload_n 2, 50) := by decide +kernel
theorem d12_50 : cod 12 50 = some (.ireturn, 51) := by decide +kernel
theorem d13_0 : cod 13 0 = some (.lconst 1, 1) := by decide +kernel
theorem d13_1 : cod 13 1 = some (.lstore_n 3, 2) := by decide +kernel
theorem d13_2 : cod 13 2 = some (.iconst 0, 3) := by decide +kernel
theorem d13_3 : cod 13 3 = some (.istore 5, 5) := by decide +kernel
theorem d13_5 : cod 13 5 = some (.iload 5, 7) := by decide +kernel
theorem d13_7 : cod 13 7 = some (.bipush 8, 9) := by decide +kernel
theorem d13_9 : cod 13 9 = some (.if_icmp .ge 71, 12) := by decide +kernel
theorem d13_12 : cod 13 12 = some (.iload_n 2, 13) := by decide +kernel
theorem d13_13 : cod 13 13 = some (.iconst (-1), 14) := by decide +kernel
theorem d13_14 : cod 13 14 = some (.if_icmp .ne 8, 17) := by decide +kernel
theorem d13_17 : cod 13 17 = some (.bipush 8, 19) := by decide +kernel
theorem d13_19 : cod 13 19 = some (.goto 15, 22) := by decide +kernel
theorem d13_22 : cod 13 22 = some (.aload_n 0, 23) := by decide +kernel
theorem d13_23 : cod 13 23 = some (.getfield 9, 26) := by decide +kernel
theorem d13_26 : cod 13 26 = some (.iload_n 2, 27) := by decide +kernel
theorem d13_27 : cod 13 27 = some (.bipush 8, 29) := by decide +kernel
theorem d13_29 : cod 13 29 = some (.imul, 30) := by decide +kernel
theorem d13_30 : cod 13 30 = some (.iload 5, 32) := by decide +kernel
theorem d13_32 : cod 13 32 = some (.iadd, 33) := by decide +kernel
theorem d13_33 : cod 13 33 = some (.iaload, 34) := by decide +kernel
theorem d13_34 : cod 13 34 = some (.istore 6, 36) := by decide +kernel
theorem d13_36 : cod 13 36 = some (.aload_n 1, 37) := by decide +kernel
theorem d13_37 : cod 13 37 = some (.getfield 19, 40) := by decide +kernel
theorem d13_40 : cod 13 40 = some (.iload 5, 42) := by decide +kernel
theorem d13_42 : cod 13 42 = some (.iaload, 43) := by decide +kernel
theorem d13_43 : cod 13 43 = some (.iconst 1, 44) := by decide +kernel
theorem d13_44 : cod 13 44 = some (.if_icmp .ne 11, 47) := by decide +kernel
theorem d13_47 : cod 13 47 = some (.lload_n 3, 48) := by decide +kernel
theorem d13_48 : cod 13 48 = some (.iconst 1, 49) := by decide +kernel
theorem d13_49 : cod 13 49 = some (.iload 6, 51) := by decide +kernel
theorem d13_51 : cod 13 51 = some (.iadd, 52) := by decide +kernel
theorem d13_52 : cod 13 52 = some (.i2l, 53) := by decide +kernel
theorem d13_53 : cod 13 53 = some (.lmul, 54) := by decide +kernel
theorem d13_54 : cod 13 54 = some (.lstore_n 3, 55) := by decide +kernel
theorem d13_55 : cod 13 55 = some (.aload_n 1, 56) := by decide +kernel
theorem d13_56 : cod 13 56 = some (.getfield 19, 59) := by decide +kernel
theorem d13_59 : cod 13 59 = some (.iload 5, 61) := by decide +kernel
theorem d13_61 : cod 13 61 = some (.iaload, 62) := by decide +kernel
theorem d13_62 : cod 13 62 = some (.ifCond .ne 12, 65) := by decide +kernel
theorem d13_65 : cod 13 65 = some (.lload_n 3, 66) := by decide +kernel
theorem d13_66 : cod 13 66 = some (.bipush 17, 68) := by decide +kernel
theorem d13_68 : cod 13 68 = some (.iload 6, 70) := by decide +kernel
theorem d13_70 : cod 13 70 = some (.isub, 71) := by decide +kernel
theorem d13_71 : cod 13 71 = some (.i2l, 72) := by decide +kernel
theorem d13_72 : cod 13 72 = some (.lmul, 73) := by decide +kernel
theorem d13_73 : cod 13 73 = some (.lstore_n 3, 74) := by decide +kernel
theorem d13_74 : cod 13 74 = some (.iinc 5 1, 77) := by decide +kernel
theorem d13_77 : cod 13 77 = some (.goto (-72), 80) := by decide +kernel
theorem d13_80 : cod 13 80 = some (.lload_n 3, 81) := by decide +kernel
theorem d13_81 : cod 13 81 = some (.lreturn, 82) := by decide +kernel
theorem d14_0 : cod 14 0 = some (.iconst 0, 1) := by decide +kernel
theorem d14_1 : cod 14 1 = some (.istore_n 2, 2) := by decide +kernel
theorem d14_2 : cod 14 2 = some (.iconst 0, 3) := by decide +kernel
theorem d14_3 : cod 14 3 = some (.istore_n 3, 4) := by decide +kernel
theorem d14_4 : cod 14 4 = some (.iload_n 3, 5) := by decide +kernel
theorem d14_5 : cod 14 5 = some (.aload_n 0, 6) := by decide +kernel
theorem d14_6 : cod 14 6 = some (.getfield 38, 9) := by decide +kernel
theorem d14_9 : cod 14 9 = some (.if_icmp .ge 41, 12) := by decide +kernel
theorem d14_12 : cod 14 12 = some (.iconst 0, 13) := by decide +kernel
theorem d14_13 : cod 14 13 = some (.istore 4, 15) := by decide +kernel
theorem d14_15 : cod 14 15 = some (.iload 4, 17) := by decide +kernel
theorem d14_17 : cod 14 17 = some (.aload_n 0, 18) := by decide +kernel
theorem d14_18 : cod 14 18 = some (.getfield 35, 21) := by decide +kernel
theorem d14_21 : cod 14 21 = some (.if_icmp .ge 23, 24) := by decide +kernel
theorem d14_24 : cod 14 24 = some (.iload_n 2, 25) := by decide +kernel
theorem d14_25 : cod 14 25 = some (.iload_n 1, 26) := by decide +kernel
theorem d14_26 : cod 14 26 = some (.iload_n 3, 27) := by decide +kernel
theorem d14_27 : cod 14 27 = some (.aload_n 0, 28) := by decide +kernel
theorem d14_28 : cod 14 28 = some (.getfield 65, 31) := by decide +kernel
theorem d14_31 : cod 14 31 = some (.imul, 32) := by decide +kernel
theorem d14_32 : cod 14 32 = some (.iload 4, 34) := by decide +kernel
theorem d14_34 : cod 14 34 = some (.iadd, 35) := by decide +kernel
theorem d14_35 : cod 14 35 = some (.ishr, 36) := by decide +kernel
theorem d14_36 : cod 14 36 = some (.ior, 37) := by decide +kernel
theorem d14_37 : cod 14 37 = some (.istore_n 2, 38) := by decide +kernel
theorem d14_38 : cod 14 38 = some (.iinc 4 1, 41) := by decide +kernel
theorem d14_41 : cod 14 41 = some (.goto (-26), 44) := by decide +kernel
theorem d14_44 : cod 14 44 = some (.iinc 3 1, 47) := by decide +kernel
theorem d14_47 : cod 14 47 = some (.goto (-43), 50) := by decide +kernel
theorem d14_50 : cod 14 50 = some (.iload_n 2, 51) := by decide +kernel
theorem d14_51 : cod 14 51 = some (.ireturn, 52) := by decide +kernel
theorem d15_0 : cod 15 0 = some (.iconst (-1), 1) := by decide +kernel
theorem d15_1 : cod 15 1 = some (.istore_n 2, 2) := by decide +kernel
theorem d15_2 : cod 15 2 = some (.iconst 0, 3) := by decide +kernel
theorem d15_3 : cod 15 3 = some (.istore_n 3, 4) := by decide +kernel
theorem d15_4 : cod 15 4 = some (.iload_n 3, 5) := by decide +kernel
theorem d15_5 : cod 15 5 = some (.bipush 24, 7) := by decide +kernel
theorem d15_7 : cod 15 7 = some (.if_icmp .ge 29, 10) := by decide +kernel
theorem d15_10 : cod 15 10 = some (.iload_n 2, 11) := by decide +kernel
theorem d15_11 : cod 15 11 = some (.ifCond .eq 25, 14) := by decide +kernel
theorem d15_14 : cod 15 14 = some (.iload_n 3, 15) := by decide +kernel
theorem d15_15 : cod 15 15 = some (.iload_n 1, 16) := by decide +kernel
theorem d15_16 : cod 15 16 = some (.invokestatic 85, 19) := by decide +kernel
theorem d15_19 : cod 15 19 = some (.ifCond .eq 11, 22) := by decide +kernel
theorem d15_22 : cod 15 22 = some (.iload_n 2, 23) := by decide +kernel
theorem d15_23 : cod 15 23 = some (.aload_n 0, 24) := by decide +kernel
theorem d15_24 : cod 15 24 = some (.iload_n 3, 25) := by decide +kernel
theorem d15_25 : cod 15 25 = some (.invokevirtual 89, 28) := by decide +kernel
theorem d15_28 : cod 15 28 = some (.iand, 29) := by decide +kernel
theorem d15_29 : cod 15 29 = some (.istore_n 2, 30) := by decide +kernel
theorem d15_30 : cod 15 30 = some (.iinc 3 1, 33) := by decide +kernel
theorem d15_33 : cod 15 33 = some (.goto (-29), 36) := by decide +kernel
theorem d15_36 : cod 15 36 = some (.iload_n 2, 37) := by decide +kernel
theorem d15_37 : cod 15 37 = some (.ireturn, 38) := by decide +kernel
theorem d16_0 : cod 16 0 = some (.iconst 0, 1) := by decide +kernel
theorem d16_1 : cod 16 1 = some (.istore_n 2, 2) := by decide +kernel
theorem d16_2 : cod 16 2 = some (.iconst 0, 3) := by decide +kernel
theorem d16_3 : cod 16 3 = some (.istore_n 3, 4) := by decide +kernel
theorem d16_4 : cod 16 4 = some (.iload_n 3, 5) := by decide +kernel
theorem d16_5 : cod 16 5 = some (.aload_n 0, 6) := by decide +kernel
theorem d16_6 : cod 16 6 = some (.getfield 38, 9) := by decide +kernel
theorem d16_9 : cod 16 9 = some (.if_icmp .ge 43, 12) := by decide +kernel
theorem d16_12 : cod 16 12 = some (.iconst 0, 13) := by decide +kernel
theorem d16_13 : cod 16 13 = some (.istore 4, 15) := by decide +kernel
theorem d16_15 : cod 16 15 = some (.iload 4, 17) := by decide +kernel
theorem d16_17 : cod 16 17 = some (.aload_n 0, 18) := by decide +kernel
theorem d16_18 : cod 16 18 = some (.getfield 35, 21) := by decide +kernel
theorem d16_21 : cod 16 21 = some (.if_icmp .ge 25, 24) := by decide +kernel
theorem d16_24 : cod 16 24 = some (.iload_n 2, 25) := by decide +kernel
theorem d16_25 : cod 16 25 = some (.iconst 1, 26) := by decide +kernel
theorem d16_26 : cod 16 26 = some (.iload_n 1, 27) := by decide +kernel
theorem d16_27 : cod 16 27 = some (.iload_n 3, 28) := by decide +kernel
theorem d16_28 : cod 16 28 = some (.aload_n 0, 29) := by decide +kernel
theorem d16_29 : cod 16 29 = some (.getfield 65, 32) := by decide +kernel
theorem d16_32 : cod 16 32 = some (.imul, 33) := by decide +kernel
theorem d16_33 : cod 16 33 = some (.iadd, 34) := by decide +kernel
theorem d16_34 : cod 16 34 = some (.iload 4, 36) := by decide +kernel
theorem d16_36 : cod 16 36 = some (.iadd, 37) := by decide +kernel
theorem d16_37 : cod 16 37 = some (.ishl, 38) := by decide +kernel
theorem d16_38 : cod 16 38 = some (.ior, 39) := by decide +kernel
theorem d16_39 : cod 16 39 = some (.istore_n 2, 40) := by decide +kernel
theorem d16_40 : cod 16 40 = some (.iinc 4 1, 43) := by decide +kernel
theorem d16_43 : cod 16 43 = some (.goto (-28), 46) := by decide +kernel
theorem d16_46 : cod 16 46 = some (.iinc 3 1, 49) := by decide +kernel
theorem d16_49 : cod 16 49 = some (.goto (-45), 52) := by decide +kernel
theorem d16_52 : cod 16 52 = some (.iload_n 2, 53) := by decide +kernel
theorem d16_53 : cod 16 53 = some (.ireturn, 54) := by decide +kernel
theorem d17_0 : cod 17 0 = some (.aload_n 0, 1) := by decide +kernel
theorem d17_1 : cod 17 1 = some (.invokespecial 3, 4) := by decide +kernel
theorem d17_4 : cod 17 4 = some (.aload_n 0, 5) := by decide +kernel
theorem d17_5 : cod 17 5 = some (.bipush 9, 7) := by decide +kernel
theorem d17_7 : cod 17 7 = some (.newarray .int, 9) := by decide +kernel
theorem d17_9 : cod 17 9 = some (.putfield 9, 12) := by decide +kernel
theorem d17_12 : cod 17 12 = some (.aload_n 0, 13) := by decide +kernel
theorem d17_13 : cod 17 13 = some (.bipush 9, 15) := by decide +kernel
theorem d17_15 : cod 17 15 = some (.newarray .boolean, 17) := by decide +kernel
theorem d17_17 : cod 17 17 = some (.putfield 15, 20) := by decide +kernel
theorem d17_20 : cod 17 20 = some (.aload_n 0, 21) := by decide +kernel
theorem d17_21 : cod 17 21 = some (.bipush 8, 23) := by decide +kernel
theorem d17_23 : cod 17 23 = some (.newarray .int, 25) := by decide +kernel
theorem d17_25 : cod 17 25 = some (.putfield 19, 28) := by decide +kernel
theorem d17_28 : cod 17 28 = some (.aload_n 0, 29) := by decide +kernel
theorem d17_29 : cod 17 29 = some (.iconst 4, 30) := by decide +kernel
theorem d17_30 : cod 17 30 = some (.newarray .int, 32) := by decide +kernel
theorem d17_32 : cod 17 32 = some (.putfield 22, 35) := by decide +kernel
theorem d17_35 : cod 17 35 = some (.aload_n 0, 36) := by decide +kernel
theorem d17_36 : cod 17 36 = some (.bipush 8, 38) := by decide +kernel
theorem d17_38 : cod 17 38 = some (.newarray .int, 40) := by decide +kernel
theorem d17_40 : cod 17 40 = some (.putfield 25, 43) := by decide +kernel
theorem d17_43 : cod 17 43 = some (.aload_n 0, 44) := by decide +kernel
theorem d17_44 : cod 17 44 = some (.iconst 3, 45) := by decide +kernel
theorem d17_45 : cod 17 45 = some (.newarray .int, 47) := by decide +kernel
theorem d17_47 : cod 17 47 = some (.putfield 28, 50) := by decide +kernel
theorem d17_50 : cod 17 50 = some (.aload_n 0, 51) := by decide +kernel
theorem d17_51 : cod 17 51 = some (.iload_n 1, 52) := by decide +kernel
theorem d17_52 : cod 17 52 = some (.putfield 31, 55) := by decide +kernel
theorem d17_55 : cod 17 55 = some (.aload_n 0, 56) := by decide +kernel
theorem d17_56 : cod 17 56 = some (.iload_n 2, 57) := by decide +kernel
theorem d17_57 : cod 17 57 = some (.putfield 35, 60) := by decide +kernel
theorem d17_60 : cod 17 60 = some (.aload_n 0, 61) := by decide +kernel
theorem d17_61 : cod 17 61 = some (.iload_n 3, 62) := by decide +kernel
theorem d17_62 : cod 17 62 = some (.putfield 38, 65) := by decide +kernel
theorem d17_65 : cod 17 65 = some (.aload_n 0, 66) := by decide +kernel
theorem d17_66 : cod 17 66 = some (.iload 4, 68) := by decide +kernel
theorem d17_68 : cod 17 68 = some (.putfield 41, 71) := by decide +kernel
theorem d17_71 : cod 17 71 = some (.aload_n 0, 72) := by decide +kernel
theorem d17_72 : cod 17 72 = some (.iload 5, 74) := by decide +kernel
theorem d17_74 : cod 17 74 = some (.putfield 44, 77) := by decide +kernel
theorem d17_77 : cod 17 77 = some (.aload_n 0, 78) := by decide +kernel
theorem d17_78 : cod 17 78 = some (.getfield 25, 81) := by decide +kernel
theorem d17_81 : cod 17 81 = some (.iconst 2, 82) := by decide +kernel
theorem d17_82 : cod 17 82 = some (.invokestatic 48, 85) := by decide +kernel
theorem d17_85 : cod 17 85 = some (.return_, 86) := by decide +kernel
theorem d18_0 : cod 18 0 = some (.aload_n 0, 1) := by decide +kernel
theorem d18_1 : cod 18 1 = some (.aload_n 1, 2) := by decide +kernel
theorem d18_2 : cod 18 2 = some (.getfield 58, 5) := by decide +kernel
theorem d18_5 : cod 18 5 = some (.putfield 65, 8) := by decide +kernel
theorem d18_8 : cod 18 8 = some (.iconst 0, 9) := by decide +kernel
theorem d18_9 : cod 18 9 = some (.istore_n 2, 10) := by decide +kernel
theorem d18_10 : cod 18 10 = some (.iload_n 2, 11) := by decide +kernel
theorem d18_11 : cod 18 11 = some (.bipush 8, 13) := by decide +kernel
theorem d18_13 : cod 18 13 = some (.if_icmp .ge 54, 16) := by decide +kernel
theorem d18_16 : cod 18 16 = some (.iconst 0, 17) := by decide +kernel
theorem d18_17 : cod 18 17 = some (.istore_n 3, 18) := by decide +kernel
theorem d18_18 : cod 18 18 = some (.iconst 0, 19) := by decide +kernel
theorem d18_19 : cod 18 19 = some (.istore 4, 21) := by decide +kernel
theorem d18_21 : cod 18 21 = some (.iload 4, 23) := by decide +kernel
theorem d18_23 : cod 18 23 = some (.aload_n 1, 24) := by decide +kernel
theorem d18_24 : cod 18 24 = some (.invokevirtual 68, 27) := by decide +kernel
theorem d18_27 : cod 18 27 = some (.if_icmp .ge 27, 30) := by decide +kernel
theorem d18_30 : cod 18 30 = some (.aload_n 0, 31) := by decide +kernel
theorem d18_31 : cod 18 31 = some (.aload_n 1, 32) := by decide +kernel
theorem d18_32 : cod 18 32 = some (.iload 4, 34) := by decide +kernel
theorem d18_34 : cod 18 34 = some (.iload_n 2, 35) := by decide +kernel
theorem d18_35 : cod 18 35 = some (.invokevirtual 71, 38) := by decide +kernel
theorem d18_38 : cod 18 38 = some (.ifCond .eq 10, 41) := by decide +kernel
theorem d18_41 : cod 18 41 = some (.iload_n 3, 42) := by decide +kernel
theorem d18_42 : cod 18 42 = some (.iconst 1, 43) := by decide +kernel
theorem d18_43 : cod 18 43 = some (.iload 4, 45) := by decide +kernel
theorem d18_45 : cod 18 45 = some (.ishl, 46) := by decide +kernel
theorem d18_46 : cod 18 46 = some (.ior, 47) := by decide +kernel
theorem d18_47 : cod 18 47 = some (.istore_n 3, 48) := by decide +kernel
theorem d18_48 : cod 18 48 = some (.iinc 4 1, 51) := by decide +kernel
theorem d18_51 : cod 18 51 = some (.goto (-30), 54) := by decide +kernel
theorem d18_54 : cod 18 54 = some (.aload_n 0, 55) := by decide +kernel
theorem d18_55 : cod 18 55 = some (.getfield 19, 58) := by decide +kernel
theorem d18_58 : cod 18 58 = some (.iload_n 2, 59) := by decide +kernel
theorem d18_59 : cod 18 59 = some (.iload_n 3, 60) := by decide +kernel
theorem d18_60 : cod 18 60 = some (.iastore, 61) := by decide +kernel
theorem d18_61 : cod 18 61 = some (.iinc 2 1, 64) := by decide +kernel
theorem d18_64 : cod 18 64 = some (.goto (-54), 67) := by decide +kernel
theorem d18_67 : cod 18 67 = some (.return_, 68) := by decide +kernel
theorem d19_0 : cod 19 0 = some (.aload_n 1, 1) := by decide +kernel
theorem d19_1 : cod 19 1 = some (.iload_n 2, 2) := by decide +kernel
theorem d19_2 : cod 19 2 = some (.aload_n 0, 3) := by decide +kernel
theorem d19_3 : cod 19 3 = some (.getfield 35, 6) := by decide +kernel
theorem d19_6 : cod 19 6 = some (.aload_n 0, 7) := by decide +kernel
theorem d19_7 : cod 19 7 = some (.getfield 38, 10) := by decide +kernel
theorem d19_10 : cod 19 10 = some (.invokevirtual 75, 13) := by decide +kernel
theorem d19_13 : cod 19 13 = some (.ifCond .eq 18, 16) := by decide +kernel
theorem d19_16 : cod 19 16 = some (.aload_n 0, 17) := by decide +kernel
theorem d19_17 : cod 19 17 = some (.getfield 44, 20) := by decide +kernel
theorem d19_20 : cod 19 20 = some (.ifCond .eq 13, 23) := by decide +kernel
theorem d19_23 : cod 19 23 = some (.iload_n 2, 24) := by decide +kernel
theorem d19_24 : cod 19 24 = some (.aload_n 1, 25) := by decide +kernel
theorem d19_25 : cod 19 25 = some (.getfield 58, 28) := by decide +kernel
theorem d19_28 : cod 19 28 = some (.if_icmp .lt 5, 31) := by decide +kernel
theorem d19_31 : cod 19 31 = some (.iconst 0, 32) := by decide +kernel
theorem d19_32 : cod 19 32 = some (.ireturn, 33) := by decide +kernel
theorem d19_33 : cod 19 33 = some (.iconst 0, 34) := by decide +kernel
theorem d19_34 : cod 19 34 = some (.istore 4, 36) := by decide +kernel
theorem d19_36 : cod 19 36 = some (.iload 4, 38) := by decide +kernel
theorem d19_38 : cod 19 38 = some (.aload_n 0, 39) := by decide +kernel
theorem d19_39 : cod 19 39 = some (.invokevirtual 54, 42) := by decide +kernel
theorem d19_42 : cod 19 42 = some (.if_icmp .ge 81, 45) := by decide +kernel
theorem d19_45 : cod 19 45 = some (.iload_n 2, 46) := by decide +kernel
theorem d19_46 : cod 19 46 = some (.iload 4, 48) := by decide +kernel
theorem d19_48 : cod 19 48 = some (.aload_n 0, 49) := by decide +kernel
theorem d19_49 : cod 19 49 = some (.getfield 35, 52) := by decide +kernel
theorem d19_52 : cod 19 52 = some (.idiv, 53) := by decide +kernel
theorem d19_53 : cod 19 53 = some (.aload_n 1, 54) := by decide +kernel
theorem d19_54 : cod 19 54 = some (.getfield 58, 57) := by decide +kernel
theorem d19_57 : cod 19 57 = some (.imul, 58) := by decide +kernel
theorem d19_58 : cod 19 58 = some (.iadd, 59) := by decide +kernel
theorem d19_59 : cod 19 59 = some (.iload 4, 61) := by decide +kernel
theorem d19_61 : cod 19 61 = some (.aload_n 0, 62) := by decide +kernel
theorem d19_62 : cod 19 62 = some (.getfield 35, 65) := by decide +kernel
theorem d19_65 : cod 19 65 = some (.irem, 66) := by decide +kernel
theorem d19_66 : cod 19 66 = some (.iadd, 67) := by decide +kernel
theorem d19_67 : cod 19 67 = some (.istore 5, 69) := by decide +kernel
theorem d19_69 : cod 19 69 = some (.aload_n 1, 70) := by decide +kernel
theorem d19_70 : cod 19 70 = some (.iload 5, 72) := by decide +kernel
theorem d19_72 : cod 19 72 = some (.iload_n 3, 73) := by decide +kernel
theorem d19_73 : cod 19 73 = some (.invokevirtual 61, 76) := by decide +kernel
theorem d19_76 : cod 19 76 = some (.istore 6, 78) := by decide +kernel
theorem d19_78 : cod 19 78 = some (.aload_n 0, 79) := by decide +kernel
theorem d19_79 : cod 19 79 = some (.getfield 9, 82) := by decide +kernel
theorem d19_82 : cod 19 82 = some (.iload 4, 84) := by decide +kernel
theorem d19_84 : cod 19 84 = some (.iaload, 85) := by decide +kernel
theorem d19_85 : cod 19 85 = some (.iload 6, 87) := by decide +kernel
theorem d19_87 : cod 19 87 = some (.iconst (-1), 88) := by decide +kernel
theorem d19_88 : cod 19 88 = some (.ixor, 89) := by decide +kernel
theorem d19_89 : cod 19 89 = some (.iand, 90) := by decide +kernel
theorem d19_90 : cod 19 90 = some (.ifCond .ne 25, 93) := by decide +kernel
theorem d19_93 : cod 19 93 = some (.aload_n 0, 94) := by decide +kernel
theorem d19_94 : cod 19 94 = some (.getfield 15, 97) := by decide +kernel
theorem d19_97 : cod 19 97 = some (.iload 4, 99) := by decide +kernel
theorem d19_99 : cod 19 99 = some (.baload, 100) := by decide +kernel
theorem d19_100 : cod 19 100 = some (.ifCond .eq 17, 103) := by decide +kernel
theorem d19_103 : cod 19 103 = some (.aload_n 0, 104) := by decide +kernel
theorem d19_104 : cod 19 104 = some (.getfield 9, 107) := by decide +kernel
theorem d19_107 : cod 19 107 = some (.iload 4, 109) := by decide +kernel
theorem d19_109 : cod 19 109 = some (.iaload, 110) := by decide +kernel
theorem d19_110 : cod 19 110 = some (.iload 6, 112) := by decide +kernel
theorem d19_112 : cod 19 112 = some (.if_icmp .eq 5, 115) := by decide +kernel
theorem d19_115 : cod 19 115 = some (.iconst 0, 116) := by decide +kernel
theorem d19_116 : cod 19 116 = some (.ireturn, 117) := by decide +kernel
theorem d19_117 : cod 19 117 = some (.iinc 4 1, 120) := by decide +kernel
theorem d19_120 : cod 19 120 = some (.goto (-84), 123) := by decide +kernel
theorem d19_123 : cod 19 123 = some (.iconst 1, 124) := by decide +kernel
theorem d19_124 : cod 19 124 = some (.ireturn, 125) := by decide +kernel
theorem d20_0 : cod 20 0 = some (.aload_n 0, 1) := by decide +kernel
theorem d20_1 : cod 20 1 = some (.getfield 35, 4) := by decide +kernel
theorem d20_4 : cod 20 4 = some (.aload_n 0, 5) := by decide +kernel
theorem d20_5 : cod 20 5 = some (.getfield 38, 8) := by decide +kernel
theorem d20_8 : cod 20 8 = some (.imul, 9) := by decide +kernel
theorem d20_9 : cod 20 9 = some (.ireturn, 10) := by decide +kernel
theorem d21_0 : cod 21 0 = some (.iconst 0, 1) := by decide +kernel
theorem d21_1 : cod 21 1 = some (.istore 4, 3) := by decide +kernel
theorem d21_3 : cod 21 3 = some (.iload 4, 5) := by decide +kernel
theorem d21_5 : cod 21 5 = some (.aload_n 0, 6) := by decide +kernel
theorem d21_6 : cod 21 6 = some (.invokevirtual 54, 9) := by decide +kernel
theorem d21_9 : cod 21 9 = some (.if_icmp .ge 55, 12) := by decide +kernel
theorem d21_12 : cod 21 12 = some (.iload_n 2, 13) := by decide +kernel
theorem d21_13 : cod 21 13 = some (.iload 4, 15) := by decide +kernel
theorem d21_15 : cod 21 15 = some (.aload_n 0, 16) := by decide +kernel
theorem d21_16 : cod 21 16 = some (.getfield 35, 19) := by decide +kernel
theorem d21_19 : cod 21 19 = some (.idiv, 20) := by decide +kernel
theorem d21_20 : cod 21 20 = some (.aload_n 1, 21) := by decide +kernel
theorem d21_21 : cod 21 21 = some (.getfield 58, 24) := by decide +kernel
theorem d21_24 : cod 21 24 = some (.imul, 25) := by decide +kernel
theorem d21_25 : cod 21 25 = some (.iadd, 26) := by decide +kernel
theorem d21_26 : cod 21 26 = some (.iload 4, 28) := by decide +kernel
theorem d21_28 : cod 21 28 = some (.aload_n 0, 29) := by decide +kernel
theorem d21_29 : cod 21 29 = some (.getfield 35, 32) := by decide +kernel
theorem d21_32 : cod 21 32 = some (.irem, 33) := by decide +kernel
theorem d21_33 : cod 21 33 = some (.iadd, 34) := by decide +kernel
theorem d21_34 : cod 21 34 = some (.istore 5, 36) := by decide +kernel
theorem d21_36 : cod 21 36 = some (.aload_n 0, 37) := by decide +kernel
theorem d21_37 : cod 21 37 = some (.getfield 9, 40) := by decide +kernel
theorem d21_40 : cod 21 40 = some (.iload 4, 42) := by decide +kernel
theorem d21_42 : cod 21 42 = some (.aload_n 1, 43) := by decide +kernel
theorem d21_43 : cod 21 43 = some (.iload 5, 45) := by decide +kernel
theorem d21_45 : cod 21 45 = some (.iload_n 3, 46) := by decide +kernel
theorem d21_46 : cod 21 46 = some (.invokevirtual 61, 49) := by decide +kernel
theorem d21_49 : cod 21 49 = some (.iastore, 50) := by decide +kernel
theorem d21_50 : cod 21 50 = some (.aload_n 0, 51) := by decide +kernel
theorem d21_51 : cod 21 51 = some (.getfield 15, 54) := by decide +kernel
theorem d21_54 : cod 21 54 = some (.iload 4, 56) := by decide +kernel
theorem d21_56 : cod 21 56 = some (.iconst 1, 57) := by decide +kernel
theorem d21_57 : cod 21 57 = some (.bastore, 58) := by decide +kernel
theorem d21_58 : cod 21 58 = some (.iinc 4 1, 61) := by decide +kernel
theorem d21_61 : cod 21 61 = some (.goto (-58), 64) := by decide +kernel
theorem d21_64 : cod 21 64 = some (.return_, 65) := by decide +kernel
theorem d22_0 : cod 22 0 = some (.iconst 0, 1) := by decide +kernel
theorem d22_1 : cod 22 1 = some (.istore_n 1, 2) := by decide +kernel
theorem d22_2 : cod 22 2 = some (.iconst 0, 3) := by decide +kernel
theorem d22_3 : cod 22 3 = some (.istore_n 2, 4) := by decide +kernel
theorem d22_4 : cod 22 4 = some (.iload_n 2, 5) := by decide +kernel
theorem d22_5 : cod 22 5 = some (.bipush 8, 7) := by decide +kernel
theorem d22_7 : cod 22 7 = some (.if_icmp .ge 21, 10) := by decide +kernel
theorem d22_10 : cod 22 10 = some (.iload_n 1, 11) := by decide +kernel
theorem d22_11 : cod 22 11 = some (.aload_n 0, 12) := by decide +kernel
theorem d22_12 : cod 22 12 = some (.getfield 19, 15) := by decide +kernel
theorem d22_15 : cod 22 15 = some (.iload_n 2, 16) := by decide +kernel
theorem d22_16 : cod 22 16 = some (.iaload, 17) := by decide +kernel
theorem d22_17 : cod 22 17 = some (.invokestatic 79, 20) := by decide +kernel
theorem d22_20 : cod 22 20 = some (.iadd, 21) := by decide +kernel
theorem d22_21 : cod 22 21 = some (.istore_n 1, 22) := by decide +kernel
theorem d22_22 : cod 22 22 = some (.iinc 2 1, 25) := by decide +kernel
theorem d22_25 : cod 22 25 = some (.goto (-21), 28) := by decide +kernel
theorem d22_28 : cod 22 28 = some (.iload_n 1, 29) := by decide +kernel
theorem d22_29 : cod 22 29 = some (.ireturn, 30) := by decide +kernel
theorem d23_0 : cod 23 0 = some (.iconst 0, 1) := by decide +kernel
theorem d23_1 : cod 23 1 = some (.istore_n 2, 2) := by decide +kernel
theorem d23_2 : cod 23 2 = some (.iconst 0, 3) := by decide +kernel
theorem d23_3 : cod 23 3 = some (.istore_n 3, 4) := by decide +kernel
theorem d23_4 : cod 23 4 = some (.iload_n 3, 5) := by decide +kernel
theorem d23_5 : cod 23 5 = some (.bipush 8, 7) := by decide +kernel
theorem d23_7 : cod 23 7 = some (.if_icmp .ge 26, 10) := by decide +kernel
theorem d23_10 : cod 23 10 = some (.iload_n 3, 11) := by decide +kernel
theorem d23_11 : cod 23 11 = some (.iload_n 1, 12) := by decide +kernel
theorem d23_12 : cod 23 12 = some (.invokestatic 85, 15) := by decide +kernel
theorem d23_15 : cod 23 15 = some (.ifCond .eq 12, 18) := by decide +kernel
theorem d23_18 : cod 23 18 = some (.iload_n 2, 19) := by decide +kernel
theorem d23_19 : cod 23 19 = some (.aload_n 0, 20) := by decide +kernel
theorem d23_20 : cod 23 20 = some (.getfield 19, 23) := by decide +kernel
theorem d23_23 : cod 23 23 = some (.iload_n 3, 24) := by decide +kernel
theorem d23_24 : cod 23 24 = some (.iaload, 25) := by decide +kernel
theorem d23_25 : cod 23 25 = some (.ior, 26) := by decide +kernel
theorem d23_26 : cod 23 26 = some (.istore_n 2, 27) := by decide +kernel
theorem d23_27 : cod 23 27 = some (.iinc 3 1, 30) := by decide +kernel
theorem d23_30 : cod 23 30 = some (.goto (-26), 33) := by decide +kernel
theorem d23_33 : cod 23 33 = some (.iload_n 2, 34) := by decide +kernel
theorem d23_34 : cod 23 34 = some (.ireturn, 35) := by decide +kernel
theorem d24_0 : cod 24 0 = some (.aload_n 0, 1) := by decide +kernel
theorem d24_1 : cod 24 1 = some (.invokevirtual 92, 4) := by decide +kernel
theorem d24_4 : cod 24 4 = some (.ifCond .ne 5, 7) := by decide +kernel
theorem d24_7 : cod 24 7 = some (.iconst (-1), 8) := by decide +kernel
theorem d24_8 : cod 24 8 = some (.ireturn, 9) := by decide +kernel
theorem d24_9 : cod 24 9 = some (.iconst 2, 10) := by decide +kernel
theorem d24_10 : cod 24 10 = some (.istore_n 1, 11) := by decide +kernel
theorem d24_11 : cod 24 11 = some (.aload_n 0, 12) := by decide +kernel
theorem d24_12 : cod 24 12 = some (.getfield 22, 15) := by decide +kernel
theorem d24_15 : cod 24 15 = some (.iconst 0, 16) := by decide +kernel
theorem d24_16 : cod 24 16 = some (.iaload, 17) := by decide +kernel
theorem d24_17 : cod 24 17 = some (.aload_n 0, 18) := by decide +kernel
theorem d24_18 : cod 24 18 = some (.getfield 22, 21) := by decide +kernel
theorem d24_21 : cod 24 21 = some (.iconst 2, 22) := by decide +kernel
theorem d24_22 : cod 24 22 = some (.iaload, 23) := by decide +kernel
theorem d24_23 : cod 24 23 = some (.if_icmp .ne 39, 26) := by decide +kernel
theorem d24_26 : cod 24 26 = some (.aload_n 0, 27) := by decide +kernel
theorem d24_27 : cod 24 27 = some (.getfield 22, 30) := by decide +kernel
theorem d24_30 : cod 24 30 = some (.iconst 1, 31) := by decide +kernel
theorem d24_31 : cod 24 31 = some (.iaload, 32) := by decide +kernel
theorem d24_32 : cod 24 32 = some (.aload_n 0, 33) := by decide +kernel
theorem d24_33 : cod 24 33 = some (.getfield 22, 36) := by decide +kernel
theorem d24_36 : cod 24 36 = some (.iconst 3, 37) := by decide +kernel
theorem d24_37 : cod 24 37 = some (.iaload, 38) := by decide +kernel
theorem d24_38 : cod 24 38 = some (.if_icmp .ne 24, 41) := by decide +kernel
theorem d24_41 : cod 24 41 = some (.aload_n 0, 42) := by decide +kernel
theorem d24_42 : cod 24 42 = some (.getfield 22, 45) := by decide +kernel
theorem d24_45 : cod 24 45 = some (.iconst 0, 46) := by decide +kernel
theorem d24_46 : cod 24 46 = some (.iaload, 47) := by decide +kernel
theorem d24_47 : cod 24 47 = some (.aload_n 0, 48) := by decide +kernel
theorem d24_48 : cod 24 48 = some (.getfield 22, 51) := by decide +kernel
theorem d24_51 : cod 24 51 = some (.iconst 1, 52) := by decide +kernel
theorem d24_52 : cod 24 52 = some (.iaload, 53) := by decide +kernel
theorem d24_53 : cod 24 53 = some (.if_icmp .ne 7, 56) := by decide +kernel
theorem d24_56 : cod 24 56 = some (.iconst 0, 57) := by decide +kernel
theorem d24_57 : cod 24 57 = some (.goto 4, 60) := by decide +kernel
theorem d24_60 : cod 24 60 = some (.iconst 1, 61) := by decide +kernel
theorem d24_61 : cod 24 61 = some (.istore_n 1, 62) := by decide +kernel
theorem d24_62 : cod 24 62 = some (.aload_n 0, 63) := by decide +kernel
theorem d24_63 : cod 24 63 = some (.invokevirtual 101, 66) := by decide +kernel
theorem d24_66 : cod 24 66 = some (.ifCond .eq 9, 69) := by decide +kernel
theorem d24_69 : cod 24 69 = some (.iload_n 1, 70) := by decide +kernel
theorem d24_70 : cod 24 70 = some (.iconst 4, 71) := by decide +kernel
theorem d24_71 : cod 24 71 = some (.iadd, 72) := by decide +kernel
theorem d24_72 : cod 24 72 = some (.goto 4, 75) := by decide +kernel
theorem d24_75 : cod 24 75 = some (.iload_n 1, 76) := by decide +kernel
theorem d24_76 : cod 24 76 = some (.ireturn, 77) := by decide +kernel
theorem d25_0 : cod 25 0 = some (.aload_n 0, 1) := by decide +kernel
theorem d25_1 : cod 25 1 = some (.getfield 22, 4) := by decide +kernel
theorem d25_4 : cod 25 4 = some (.iconst 0, 5) := by decide +kernel
theorem d25_5 : cod 25 5 = some (.iaload, 6) := by decide +kernel
theorem d25_6 : cod 25 6 = some (.ifCond .eq 34, 9) := by decide +kernel
theorem d25_9 : cod 25 9 = some (.aload_n 0, 10) := by decide +kernel
theorem d25_10 : cod 25 10 = some (.getfield 22, 13) := by decide +kernel
theorem d25_13 : cod 25 13 = some (.iconst 1, 14) := by decide +kernel
theorem d25_14 : cod 25 14 = some (.iaload, 15) := by decide +kernel
theorem d25_15 : cod 25 15 = some (.ifCond .eq 25, 18) := by decide +kernel
theorem d25_18 : cod 25 18 = some (.aload_n 0, 19) := by decide +kernel
theorem d25_19 : cod 25 19 = some (.getfield 22, 22) := by decide +kernel
theorem d25_22 : cod 25 22 = some (.iconst 2, 23) := by decide +kernel
theorem d25_23 : cod 25 23 = some (.iaload, 24) := by decide +kernel
theorem d25_24 : cod 25 24 = some (.ifCond .eq 16, 27) := by decide +kernel
theorem d25_27 : cod 25 27 = some (.aload_n 0, 28) := by decide +kernel
theorem d25_28 : cod 25 28 = some (.getfield 22, 31) := by decide +kernel
theorem d25_31 : cod 25 31 = some (.iconst 3, 32) := by decide +kernel
theorem d25_32 : cod 25 32 = some (.iaload, 33) := by decide +kernel
theorem d25_33 : cod 25 33 = some (.ifCond .eq 7, 36) := by decide +kernel
theorem d25_36 : cod 25 36 = some (.iconst 1, 37) := by decide +kernel
theorem d25_37 : cod 25 37 = some (.goto 4, 40) := by decide +kernel
theorem d25_40 : cod 25 40 = some (.iconst 0, 41) := by decide +kernel
theorem d25_41 : cod 25 41 = some (.ireturn, 42) := by decide +kernel
theorem d26_0 : cod 26 0 = some (.aload_n 0, 1) := by decide +kernel
theorem d26_1 : cod 26 1 = some (.invokevirtual 92, 4) := by decide +kernel
theorem d26_4 : cod 26 4 = some (.ifCond .eq 47, 7) := by decide +kernel
theorem d26_7 : cod 26 7 = some (.aload_n 0, 8) := by decide +kernel
theorem d26_8 : cod 26 8 = some (.getfield 22, 11) := by decide +kernel
theorem d26_11 : cod 26 11 = some (.iconst 0, 12) := by decide +kernel
theorem d26_12 : cod 26 12 = some (.iaload, 13) := by decide +kernel
theorem d26_13 : cod 26 13 = some (.aload_n 0, 14) := by decide +kernel
theorem d26_14 : cod 26 14 = some (.getfield 22, 17) := by decide +kernel
theorem d26_17 : cod 26 17 = some (.iconst 2, 18) := by decide +kernel
theorem d26_18 : cod 26 18 = some (.iaload, 19) := by decide +kernel
theorem d26_19 : cod 26 19 = some (.isub, 20) := by decide +kernel
theorem d26_20 : cod 26 20 = some (.invokestatic 96, 23) := by decide +kernel
theorem d26_23 : cod 26 23 = some (.iconst 2, 24) := by decide +kernel
theorem d26_24 : cod 26 24 = some (.if_icmp .ge 23, 27) := by decide +kernel
theorem d26_27 : cod 26 27 = some (.aload_n 0, 28) := by decide +kernel
theorem d26_28 : cod 26 28 = some (.getfield 22, 31) := by decide +kernel
theorem d26_31 : cod 26 31 = some (.iconst 1, 32) := by decide +kernel
theorem d26_32 : cod 26 32 = some (.iaload, 33) := by decide +kernel
theorem d26_33 : cod 26 33 = some (.aload_n 0, 34) := by decide +kernel
theorem d26_34 : cod 26 34 = some (.getfield 22, 37) := by decide +kernel
theorem d26_37 : cod 26 37 = some (.iconst 3, 38) := by decide +kernel
theorem d26_38 : cod 26 38 = some (.iaload, 39) := by decide +kernel
theorem d26_39 : cod 26 39 = some (.isub, 40) := by decide +kernel
theorem d26_40 : cod 26 40 = some (.invokestatic 96, 43) := by decide +kernel
theorem d26_43 : cod 26 43 = some (.iconst 2, 44) := by decide +kernel
theorem d26_44 : cod 26 44 = some (.if_icmp .lt 7, 47) := by decide +kernel
theorem d26_47 : cod 26 47 = some (.iconst 1, 48) := by decide +kernel
theorem d26_48 : cod 26 48 = some (.goto 4, 51) := by decide +kernel
theorem d26_51 : cod 26 51 = some (.iconst 0, 52) := by decide +kernel
theorem d26_52 : cod 26 52 = some (.ireturn, 53) := by decide +kernel
theorem d27_0 : cod 27 0 = some (.iconst 0, 1) := by decide +kernel
theorem d27_1 : cod 27 1 = some (.istore_n 1, 2) := by decide +kernel
theorem d27_2 : cod 27 2 = some (.iconst 0, 3) := by decide +kernel
theorem d27_3 : cod 27 3 = some (.istore_n 2, 4) := by decide +kernel
theorem d27_4 : cod 27 4 = some (.iload_n 2, 5) := by decide +kernel
theorem d27_5 : cod 27 5 = some (.aload_n 0, 6) := by decide +kernel
theorem d27_6 : cod 27 6 = some (.invokevirtual 54, 9) := by decide +kernel
theorem d27_9 : cod 27 9 = some (.if_icmp .ge 21, 12) := by decide +kernel
theorem d27_12 : cod 27 12 = some (.iload_n 1, 13) := by decide +kernel
theorem d27_13 : cod 27 13 = some (.aload_n 0, 14) := by decide +kernel
theorem d27_14 : cod 27 14 = some (.getfield 9, 17) := by decide +kernel
theorem d27_17 : cod 27 17 = some (.iload_n 2, 18) := by decide +kernel
theorem d27_18 : cod 27 18 = some (.iaload, 19) := by decide +kernel
theorem d27_19 : cod 27 19 = some (.invokestatic 79, 22) := by decide +kernel
theorem d27_22 : cod 27 22 = some (.iadd, 23) := by decide +kernel
theorem d27_23 : cod 27 23 = some (.istore_n 1, 24) := by decide +kernel
theorem d27_24 : cod 27 24 = some (.iinc 2 1, 27) := by decide +kernel
theorem d27_27 : cod 27 27 = some (.goto (-23), 30) := by decide +kernel
theorem d27_30 : cod 27 30 = some (.iload_n 1, 31) := by decide +kernel
theorem d27_31 : cod 27 31 = some (.ireturn, 32) := by decide +kernel
theorem d28_0 : cod 28 0 = some (.aload_n 0, 1) := by decide +kernel
theorem d28_1 : cod 28 1 = some (.invokespecial 3, 4) := by decide +kernel
theorem d28_4 : cod 28 4 = some (.aload_n 0, 5) := by decide +kernel
theorem d28_5 : cod 28 5 = some (.sipush 192, 8) := by decide +kernel
theorem d28_8 : cod 28 8 = some (.newarray .int, 10) := by decide +kernel
theorem d28_10 : cod 28 10 = some (.putfield 9, 13) := by decide +kernel
theorem d28_13 : cod 28 13 = some (.return_, 14) := by decide +kernel
theorem d29_0 : cod 29 0 = some (.aload_n 0, 1) := by decide +kernel
theorem d29_1 : cod 29 1 = some (.iload_n 1, 2) := by decide +kernel
theorem d29_2 : cod 29 2 = some (.putfield 15, 5) := by decide +kernel
theorem d29_5 : cod 29 5 = some (.aload_n 0, 6) := by decide +kernel
theorem d29_6 : cod 29 6 = some (.iload_n 2, 7) := by decide +kernel
theorem d29_7 : cod 29 7 = some (.putfield 19, 10) := by decide +kernel
theorem d29_10 : cod 29 10 = some (.aload_n 0, 11) := by decide +kernel
theorem d29_11 : cod 29 11 = some (.iconst 0, 12) := by decide +kernel
theorem d29_12 : cod 29 12 = some (.putfield 22, 15) := by decide +kernel
theorem d29_15 : cod 29 15 = some (.aload_n 0, 16) := by decide +kernel
theorem d29_16 : cod 29 16 = some (.getfield 9, 19) := by decide +kernel
theorem d29_19 : cod 29 19 = some (.iconst 0, 20) := by decide +kernel
theorem d29_20 : cod 29 20 = some (.invokestatic 25, 23) := by decide +kernel
theorem d29_23 : cod 29 23 = some (.return_, 24) := by decide +kernel
theorem d30_0 : cod 30 0 = some (.aload_n 0, 1) := by decide +kernel
theorem d30_1 : cod 30 1 = some (.getfield 15, 4) := by decide +kernel
theorem d30_4 : cod 30 4 = some (.aload_n 0, 5) := by decide +kernel
theorem d30_5 : cod 30 5 = some (.getfield 19, 8) := by decide +kernel
theorem d30_8 : cod 30 8 = some (.imul, 9) := by decide +kernel
theorem d30_9 : cod 30 9 = some (.ireturn, 10) := by decide +kernel
theorem d31_0 : cod 31 0 = some (.iload_n 1, 1) := by decide +kernel
theorem d31_1 : cod 31 1 = some (.istore_n 2, 2) := by decide +kernel
theorem d31_2 : cod 31 2 = some (.iconst 0, 3) := by decide +kernel
theorem d31_3 : cod 31 3 = some (.istore_n 3, 4) := by decide +kernel
theorem d31_4 : cod 31 4 = some (.iload_n 3, 5) := by decide +kernel
theorem d31_5 : cod 31 5 = some (.aload_n 0, 6) := by decide +kernel
theorem d31_6 : cod 31 6 = some (.invokevirtual 31, 9) := by decide +kernel
theorem d31_9 : cod 31 9 = some (.if_icmp .ge 92, 12) := by decide +kernel
theorem d31_12 : cod 31 12 = some (.iload_n 2, 13) := by decide +kernel
theorem d31_13 : cod 31 13 = some (.invokestatic 43, 16) := by decide +kernel
theorem d31_16 : cod 31 16 = some (.istore_n 2, 17) := by decide +kernel
theorem d31_17 : cod 31 17 = some (.iload_n 2, 18) := by decide +kernel
theorem d31_18 : cod 31 18 = some (.iconst 3, 19) := by decide +kernel
theorem d31_19 : cod 31 19 = some (.irem, 20) := by decide +kernel
theorem d31_20 : cod 31 20 = some (.istore 4, 22) := by decide +kernel
theorem d31_22 : cod 31 22 = some (.iconst 0, 23) := by decide +kernel
theorem d31_23 : cod 31 23 = some (.istore 5, 25) := by decide +kernel
theorem d31_25 : cod 31 25 = some (.iload 5, 27) := by decide +kernel
theorem d31_27 : cod 31 27 = some (.iload 4, 29) := by decide +kernel
theorem d31_29 : cod 31 29 = some (.if_icmp .ge 66, 32) := by decide +kernel
theorem d31_32 : cod 31 32 = some (.aload_n 0, 33) := by decide +kernel
theorem d31_33 : cod 31 33 = some (.getfield 22, 36) := by decide +kernel
theorem d31_36 : cod 31 36 = some (.bipush 60, 38) := by decide +kernel
theorem d31_38 : cod 31 38 = some (.if_icmp .ge 57, 41) := by decide +kernel
theorem d31_41 : cod 31 41 = some (.iload_n 2, 42) := by decide +kernel
theorem d31_42 : cod 31 42 = some (.invokestatic 43, 45) := by decide +kernel
theorem d31_45 : cod 31 45 = some (.istore_n 2, 46) := by decide +kernel
theorem d31_46 : cod 31 46 = some (.iload_n 2, 47) := by decide +kernel
theorem d31_47 : cod 31 47 = some (.bipush 10, 49) := by decide +kernel
theorem d31_49 : cod 31 49 = some (.irem, 50) := by decide +kernel
theorem d31_50 : cod 31 50 = some (.istore 6, 52) := by decide +kernel
theorem d31_52 : cod 31 52 = some (.iload_n 2, 53) := by decide +kernel
theorem d31_53 : cod 31 53 = some (.invokestatic 43, 56) := by decide +kernel
theorem d31_56 : cod 31 56 = some (.istore_n 2, 57) := by decide +kernel
theorem d31_57 : cod 31 57 = some (.iload_n 2, 58) := by decide +kernel
theorem d31_58 : cod 31 58 = some (.bipush 8, 60) := by decide +kernel
theorem d31_60 : cod 31 60 = some (.irem, 61) := by decide +kernel
theorem d31_61 : cod 31 61 = some (.istore 7, 63) := by decide +kernel
theorem d31_63 : cod 31 63 = some (.iload_n 2, 64) := by decide +kernel
theorem d31_64 : cod 31 64 = some (.invokestatic 43, 67) := by decide +kernel
theorem d31_67 : cod 31 67 = some (.istore_n 2, 68) := by decide +kernel
theorem d31_68 : cod 31 68 = some (.aload_n 0, 69) := by decide +kernel
theorem d31_69 : cod 31 69 = some (.iload_n 3, 70) := by decide +kernel
theorem d31_70 : cod 31 70 = some (.iload 6, 72) := by decide +kernel
theorem d31_72 : cod 31 72 = some (.iload 7, 74) := by decide +kernel
theorem d31_74 : cod 31 74 = some (.iload 7, 76) := by decide +kernel
theorem d31_76 : cod 31 76 = some (.iload_n 2, 77) := by decide +kernel
theorem d31_77 : cod 31 77 = some (.bipush 8, 79) := by decide +kernel
theorem d31_79 : cod 31 79 = some (.irem, 80) := by decide +kernel
theorem d31_80 : cod 31 80 = some (.iadd, 81) := by decide +kernel
theorem d31_81 : cod 31 81 = some (.bipush 7, 83) := by decide +kernel
theorem d31_83 : cod 31 83 = some (.invokestatic 47, 86) := by decide +kernel
theorem d31_86 : cod 31 86 = some (.invokevirtual 53, 89) := by decide +kernel
theorem d31_89 : cod 31 89 = some (.iinc 5 1, 92) := by decide +kernel
theorem d31_92 : cod 31 92 = some (.goto (-67), 95) := by decide +kernel
theorem d31_95 : cod 31 95 = some (.iinc 3 1, 98) := by decide +kernel
theorem d31_98 : cod 31 98 = some (.goto (-94), 101) := by decide +kernel
theorem d31_101 : cod 31 101 = some (.return_, 102) := by decide +kernel
theorem d32_0 : cod 32 0 = some (.bipush 43, 2) := by decide +kernel
theorem d32_2 : cod 32 2 = some (.iload_n 0, 3) := by decide +kernel
theorem d32_3 : cod 32 3 = some (.imul, 4) := by decide +kernel
theorem d32_4 : cod 32 4 = some (.bipush 31, 6) := by decide +kernel
theorem d32_6 : cod 32 6 = some (.iadd, 7) := by decide +kernel
theorem d32_7 : cod 32 7 = some (.bipush 107, 9) := by decide +kernel
theorem d32_9 : cod 32 9 = some (.irem, 10) := by decide +kernel
theorem d32_10 : cod 32 10 = some (.ireturn, 11) := by decide +kernel
theorem d33_0 : cod 33 0 = some (.iload_n 3, 1) := by decide +kernel
theorem d33_1 : cod 33 1 = some (.istore 5, 3) := by decide +kernel
theorem d33_3 : cod 33 3 = some (.iload 5, 5) := by decide +kernel
theorem d33_5 : cod 33 5 = some (.iload 4, 7) := by decide +kernel
theorem d33_7 : cod 33 7 = some (.if_icmp .gt 27, 10) := by decide +kernel
theorem d33_10 : cod 33 10 = some (.aload_n 0, 11) := by decide +kernel
theorem d33_11 : cod 33 11 = some (.getfield 9, 14) := by decide +kernel
theorem d33_14 : cod 33 14 = some (.iload_n 1, 15) := by decide +kernel
theorem d33_15 : cod 33 15 = some (.bipush 8, 17) := by decide +kernel
theorem d33_17 : cod 33 17 = some (.imul, 18) := by decide +kernel
theorem d33_18 : cod 33 18 = some (.iload 5, 20) := by decide +kernel
theorem d33_20 : cod 33 20 = some (.iadd, 21) := by decide +kernel
theorem d33_21 : cod 33 21 = some (.dup2, 22) := by decide +kernel
theorem d33_22 : cod 33 22 = some (.iaload, 23) := by decide +kernel
theorem d33_23 : cod 33 23 = some (.iconst 1, 24) := by decide +kernel
theorem d33_24 : cod 33 24 = some (.iload_n 2, 25) := by decide +kernel
theorem d33_25 : cod 33 25 = some (.ishl, 26) := by decide +kernel
theorem d33_26 : cod 33 26 = some (.ior, 27) := by decide +kernel
theorem d33_27 : cod 33 27 = some (.iastore, 28) := by decide +kernel
theorem d33_28 : cod 33 28 = some (.iinc 5 1, 31) := by decide +kernel
theorem d33_31 : cod 33 31 = some (.goto (-28), 34) := by decide +kernel
theorem d33_34 : cod 33 34 = some (.aload_n 0, 35) := by decide +kernel
theorem d33_35 : cod 33 35 = some (.dup, 36) := by decide +kernel
theorem d33_36 : cod 33 36 = some (.getfield 22, 39) := by decide +kernel
theorem d33_39 : cod 33 39 = some (.iconst 1, 40) := by decide +kernel
theorem d33_40 : cod 33 40 = some (.iadd, 41) := by decide +kernel
theorem d33_41 : cod 33 41 = some (.putfield 22, 44) := by decide +kernel
theorem d33_44 : cod 33 44 = some (.return_, 45) := by decide +kernel
theorem d34_0 : cod 34 0 = some (.aload_n 0, 1) := by decide +kernel
theorem d34_1 : cod 34 1 = some (.getfield 15, 4) := by decide +kernel
theorem d34_4 : cod 34 4 = some (.iconst 1, 5) := by decide +kernel
theorem d34_5 : cod 34 5 = some (.if_icmp .lt 11, 8) := by decide +kernel
theorem d34_8 : cod 34 8 = some (.aload_n 0, 9) := by decide +kernel
theorem d34_9 : cod 34 9 = some (.iload_n 1, 10) := by decide +kernel
theorem d34_10 : cod 34 10 = some (.invokevirtual 39, 13) := by decide +kernel
theorem d34_13 : cod 34 13 = some (.ifCond .ne 5, 16) := by decide +kernel
theorem d34_16 : cod 34 16 = some (.iconst 0, 17) := by decide +kernel
theorem d34_17 : cod 34 17 = some (.ireturn, 18) := by decide +kernel
theorem d34_18 : cod 34 18 = some (.iload_n 1, 19) := by decide +kernel
theorem d34_19 : cod 34 19 = some (.aload_n 0, 20) := by decide +kernel
theorem d34_20 : cod 34 20 = some (.getfield 15, 23) := by decide +kernel
theorem d34_23 : cod 34 23 = some (.irem, 24) := by decide +kernel
theorem d34_24 : cod 34 24 = some (.iload_n 2, 25) := by decide +kernel
theorem d34_25 : cod 34 25 = some (.iadd, 26) := by decide +kernel
theorem d34_26 : cod 34 26 = some (.aload_n 0, 27) := by decide +kernel
theorem d34_27 : cod 34 27 = some (.getfield 15, 30) := by decide +kernel
theorem d34_30 : cod 34 30 = some (.if_icmp .gt 22, 33) := by decide +kernel
theorem d34_33 : cod 34 33 = some (.iload_n 1, 34) := by decide +kernel
theorem d34_34 : cod 34 34 = some (.aload_n 0, 35) := by decide +kernel
theorem d34_35 : cod 34 35 = some (.getfield 15, 38) := by decide +kernel
theorem d34_38 : cod 34 38 = some (.idiv, 39) := by decide +kernel
theorem d34_39 : cod 34 39 = some (.iload_n 3, 40) := by decide +kernel
theorem d34_40 : cod 34 40 = some (.iadd, 41) := by decide +kernel
theorem d34_41 : cod 34 41 = some (.aload_n 0, 42) := by decide +kernel
theorem d34_42 : cod 34 42 = some (.getfield 19, 45) := by decide +kernel
theorem d34_45 : cod 34 45 = some (.if_icmp .gt 7, 48) := by decide +kernel
theorem d34_48 : cod 34 48 = some (.iconst 1, 49) := by decide +kernel
theorem d34_49 : cod 34 49 = some (.goto 4, 52) := by decide +kernel
theorem d34_52 : cod 34 52 = some (.iconst 0, 53) := by decide +kernel
theorem d34_53 : cod 34 53 = some (.ireturn, 54) := by decide +kernel
theorem d35_0 : cod 35 0 = some (.iload_n 1, 1) := by decide +kernel
theorem d35_1 : cod 35 1 = some (.iconst 0, 2) := by decide +kernel
theorem d35_2 : cod 35 2 = some (.aload_n 0, 3) := by decide +kernel
theorem d35_3 : cod 35 3 = some (.invokevirtual 31, 6) := by decide +kernel
theorem d35_6 : cod 35 6 = some (.iconst 1, 7) := by decide +kernel
theorem d35_7 : cod 35 7 = some (.isub, 8) := by decide +kernel
theorem d35_8 : cod 35 8 = some (.invokestatic 35, 11) := by decide +kernel
theorem d35_11 : cod 35 11 = some (.ireturn, 12) := by decide +kernel
theorem d36_0 : cod 36 0 = some (.aload_n 0, 1) := by decide +kernel
theorem d36_1 : cod 36 1 = some (.getfield 9, 4) := by decide +kernel
theorem d36_4 : cod 36 4 = some (.iload_n 1, 5) := by decide +kernel
theorem d36_5 : cod 36 5 = some (.bipush 8, 7) := by decide +kernel
theorem d36_7 : cod 36 7 = some (.imul, 8) := by decide +kernel
theorem d36_8 : cod 36 8 = some (.iload_n 2, 9) := by decide +kernel
theorem d36_9 : cod 36 9 = some (.iadd, 10) := by decide +kernel
theorem d36_10 : cod 36 10 = some (.iaload, 11) := by decide +kernel
theorem d36_11 : cod 36 11 = some (.ireturn, 12) := by decide +kernel
theorem d37_0 : cod 37 0 = some (.aload_n 0, 1) := by decide +kernel
theorem d37_1 : cod 37 1 = some (.invokespecial 3, 4) := by decide +kernel
theorem d37_4 : cod 37 4 = some (.aload_n 0, 5) := by decide +kernel
theorem d37_5 : cod 37 5 = some (.bipush 36, 7) := by decide +kernel
theorem d37_7 : cod 37 7 = some (.newarray .int, 9) := by decide +kernel
theorem d37_9 : cod 37 9 = some (.putfield 9, 12) := by decide +kernel
theorem d37_12 : cod 37 12 = some (.aload_n 0, 13) := by decide +kernel
theorem d37_13 : cod 37 13 = some (.bipush 36, 15) := by decide +kernel
theorem d37_15 : cod 37 15 = some (.newarray .int, 17) := by decide +kernel
theorem d37_17 : cod 37 17 = some (.putfield 15, 20) := by decide +kernel
theorem d37_20 : cod 37 20 = some (.aload_n 0, 21) := by decide +kernel
theorem d37_21 : cod 37 21 = some (.bipush 16, 23) := by decide +kernel
theorem d37_23 : cod 37 23 = some (.newarray .int, 25) := by decide +kernel
theorem d37_25 : cod 37 25 = some (.putfield 18, 28) := by decide +kernel
theorem d37_28 : cod 37 28 = some (.aload_n 0, 29) := by decide +kernel
theorem d37_29 : cod 37 29 = some (.bipush 16, 31) := by decide +kernel
theorem d37_31 : cod 37 31 = some (.newarray .int, 33) := by decide +kernel
theorem d37_33 : cod 37 33 = some (.putfield 21, 36) := by decide +kernel
theorem d37_36 : cod 37 36 = some (.aload_n 0, 37) := by decide +kernel
theorem d37_37 : cod 37 37 = some (.bipush 16, 39) := by decide +kernel
theorem d37_39 : cod 37 39 = some (.newarray .int, 41) := by decide +kernel
theorem d37_41 : cod 37 41 = some (.putfield 24, 44) := by decide +kernel
theorem d37_44 : cod 37 44 = some (.aload_n 0, 45) := by decide +kernel
theorem d37_45 : cod 37 45 = some (.bipush 16, 47) := by decide +kernel
theorem d37_47 : cod 37 47 = some (.newarray .int, 49) := by decide +kernel
theorem d37_49 : cod 37 49 = some (.putfield 27, 52) := by decide +kernel
theorem d37_52 : cod 37 52 = some (.aload_n 0, 53) := by decide +kernel
theorem d37_53 : cod 37 53 = some (.getfield 15, 56) := by decide +kernel
theorem d37_56 : cod 37 56 = some (.sipush 1000, 59) := by decide +kernel
theorem d37_59 : cod 37 59 = some (.invokestatic 30, 62) := by decide +kernel
theorem d37_62 : cod 37 62 = some (.iconst 0, 63) := by decide +kernel
theorem d37_63 : cod 37 63 = some (.istore_n 1, 64) := by decide +kernel
theorem d37_64 : cod 37 64 = some (.iload_n 1, 65) := by decide +kernel
theorem d37_65 : cod 37 65 = some (.bipush 6, 67) := by decide +kernel
theorem d37_67 : cod 37 67 = some (.if_icmp .ge 21, 70) := by decide +kernel
theorem d37_70 : cod 37 70 = some (.aload_n 0, 71) := by decide +kernel
theorem d37_71 : cod 37 71 = some (.getfield 15, 74) := by decide +kernel
theorem d37_74 : cod 37 74 = some (.iload_n 1, 75) := by decide +kernel
theorem d37_75 : cod 37 75 = some (.bipush 6, 77) := by decide +kernel
theorem d37_77 : cod 37 77 = some (.imul, 78) := by decide +kernel
theorem d37_78 : cod 37 78 = some (.iload_n 1, 79) := by decide +kernel
theorem d37_79 : cod 37 79 = some (.iadd, 80) := by decide +kernel
theorem d37_80 : cod 37 80 = some (.iconst 0, 81) := by decide +kernel
theorem d37_81 : cod 37 81 = some (.iastore, 82) := by decide +kernel
theorem d37_82 : cod 37 82 = some (.iinc 1 1, 85) := by decide +kernel
theorem d37_85 : cod 37 85 = some (.goto (-21), 88) := by decide +kernel
theorem d37_88 : cod 37 88 = some (.return_, 89) := by decide +kernel
theorem d38_0 : cod 38 0 = some (.aload_n 0, 1) := by decide +kernel
theorem d38_1 : cod 38 1 = some (.getfield 18, 4) := by decide +kernel
theorem d38_4 : cod 38 4 = some (.aload_n 0, 5) := by decide +kernel
theorem d38_5 : cod 38 5 = some (.getfield 46, 8) := by decide +kernel
theorem d38_8 : cod 38 8 = some (.iload_n 1, 9) := by decide +kernel
theorem d38_9 : cod 38 9 = some (.iastore, 10) := by decide +kernel
theorem d38_10 : cod 38 10 = some (.aload_n 0, 11) := by decide +kernel
theorem d38_11 : cod 38 11 = some (.getfield 21, 14) := by decide +kernel
theorem d38_14 : cod 38 14 = some (.aload_n 0, 15) := by decide +kernel
theorem d38_15 : cod 38 15 = some (.getfield 46, 18) := by decide +kernel
theorem d38_18 : cod 38 18 = some (.iload_n 2, 19) := by decide +kernel
theorem d38_19 : cod 38 19 = some (.iastore, 20) := by decide +kernel
theorem d38_20 : cod 38 20 = some (.aload_n 0, 21) := by decide +kernel
theorem d38_21 : cod 38 21 = some (.getfield 24, 24) := by decide +kernel
theorem d38_24 : cod 38 24 = some (.aload_n 0, 25) := by decide +kernel
theorem d38_25 : cod 38 25 = some (.getfield 46, 28) := by decide +kernel
theorem d38_28 : cod 38 28 = some (.iload_n 3, 29) := by decide +kernel
theorem d38_29 : cod 38 29 = some (.iastore, 30) := by decide +kernel
theorem d38_30 : cod 38 30 = some (.aload_n 0, 31) := by decide +kernel
theorem d38_31 : cod 38 31 = some (.getfield 27, 34) := by decide +kernel
theorem d38_34 : cod 38 34 = some (.aload_n 0, 35) := by decide +kernel
theorem d38_35 : cod 38 35 = some (.getfield 46, 38) := by decide +kernel
theorem d38_38 : cod 38 38 = some (.iload 4, 40) := by decide +kernel
theorem d38_40 : cod 38 40 = some (.iastore, 41) := by decide +kernel
theorem d38_41 : cod 38 41 = some (.aload_n 0, 42) := by decide +kernel
theorem d38_42 : cod 38 42 = some (.dup, 43) := by decide +kernel
theorem d38_43 : cod 38 43 = some (.getfield 46, 46) := by decide +kernel
theorem d38_46 : cod 38 46 = some (.iconst 1, 47) := by decide +kernel
theorem d38_47 : cod 38 47 = some (.iadd, 48) := by decide +kernel
theorem d38_48 : cod 38 48 = some (.putfield 46, 51) := by decide +kernel
theorem d38_51 : cod 38 51 = some (.aload_n 0, 52) := by decide +kernel
theorem d38_52 : cod 38 52 = some (.getfield 46, 55) := by decide +kernel
theorem d38_55 : cod 38 55 = some (.iconst 1, 56) := by decide +kernel
theorem d38_56 : cod 38 56 = some (.isub, 57) := by decide +kernel
theorem d38_57 : cod 38 57 = some (.ireturn, 58) := by decide +kernel
theorem d39_0 : cod 39 0 = some (.aload_n 0, 1) := by decide +kernel
theorem d39_1 : cod 39 1 = some (.getfield 9, 4) := by decide +kernel
theorem d39_4 : cod 39 4 = some (.iload_n 1, 5) := by decide +kernel
theorem d39_5 : cod 39 5 = some (.bipush 6, 7) := by decide +kernel
theorem d39_7 : cod 39 7 = some (.imul, 8) := by decide +kernel
theorem d39_8 : cod 39 8 = some (.iload_n 2, 9) := by decide +kernel
theorem d39_9 : cod 39 9 = some (.iadd, 10) := by decide +kernel
theorem d39_10 : cod 39 10 = some (.iload_n 3, 11) := by decide +kernel
theorem d39_11 : cod 39 11 = some (.iastore, 12) := by decide +kernel
theorem d39_12 : cod 39 12 = some (.aload_n 0, 13) := by decide +kernel
theorem d39_13 : cod 39 13 = some (.getfield 9, 16) := by decide +kernel
theorem d39_16 : cod 39 16 = some (.iload_n 2, 17) := by decide +kernel
theorem d39_17 : cod 39 17 = some (.bipush 6, 19) := by decide +kernel
theorem d39_19 : cod 39 19 = some (.imul, 20) := by decide +kernel
theorem d39_20 : cod 39 20 = some (.iload_n 1, 21) := by decide +kernel
theorem d39_21 : cod 39 21 = some (.iadd, 22) := by decide +kernel
theorem d39_22 : cod 39 22 = some (.iload_n 3, 23) := by decide +kernel
theorem d39_23 : cod 39 23 = some (.iastore, 24) := by decide +kernel
theorem d39_24 : cod 39 24 = some (.iconst 0, 25) := by decide +kernel
theorem d39_25 : cod 39 25 = some (.istore 4, 27) := by decide +kernel
theorem d39_27 : cod 39 27 = some (.iload 4, 29) := by decide +kernel
theorem d39_29 : cod 39 29 = some (.bipush 6, 31) := by decide +kernel
theorem d39_31 : cod 39 31 = some (.if_icmp .ge 77, 34) := by decide +kernel
theorem d39_34 : cod 39 34 = some (.iconst 0, 35) := by decide +kernel
theorem d39_35 : cod 39 35 = some (.istore 5, 37) := by decide +kernel
theorem d39_37 : cod 39 37 = some (.iload 5, 39) := by decide +kernel
theorem d39_39 : cod 39 39 = some (.bipush 6, 41) := by decide +kernel
theorem d39_41 : cod 39 41 = some (.if_icmp .ge 61, 44) := by decide +kernel
theorem d39_44 : cod 39 44 = some (.aload_n 0, 45) := by decide +kernel
theorem d39_45 : cod 39 45 = some (.getfield 9, 48) := by decide +kernel
theorem d39_48 : cod 39 48 = some (.iload 4, 50) := by decide +kernel
theorem d39_50 : cod 39 50 = some (.bipush 6, 52) := by decide +kernel
theorem d39_52 : cod 39 52 = some (.imul, 53) := by decide +kernel
theorem d39_53 : cod 39 53 = some (.iload 5, 55) := by decide +kernel
theorem d39_55 : cod 39 55 = some (.iadd, 56) := by decide +kernel
theorem d39_56 : cod 39 56 = some (.iaload, 57) := by decide +kernel
theorem d39_57 : cod 39 57 = some (.istore 6, 59) := by decide +kernel
theorem d39_59 : cod 39 59 = some (.aload_n 0, 60) := by decide +kernel
theorem d39_60 : cod 39 60 = some (.getfield 15, 63) := by decide +kernel
theorem d39_63 : cod 39 63 = some (.iload 4, 65) := by decide +kernel
theorem d39_65 : cod 39 65 = some (.bipush 6, 67) := by decide +kernel
theorem d39_67 : cod 39 67 = some (.imul, 68) := by decide +kernel
theorem d39_68 : cod 39 68 = some (.iload 5, 70) := by decide +kernel
theorem d39_70 : cod 39 70 = some (.iadd, 71) := by decide +kernel
theorem d39_71 : cod 39 71 = some (.iload 4, 73) := by decide +kernel
theorem d39_73 : cod 39 73 = some (.iload 5, 75) := by decide +kernel
theorem d39_75 : cod 39 75 = some (.if_icmp .ne 7, 78) := by decide +kernel
theorem d39_78 : cod 39 78 = some (.iconst 0, 79) := by decide +kernel
theorem d39_79 : cod 39 79 = some (.goto 16, 82) := by decide +kernel
theorem d39_82 : cod 39 82 = some (.iload 6, 84) := by decide +kernel
theorem d39_84 : cod 39 84 = some (.ifCond .ne 9, 87) := by decide +kernel
theorem d39_87 : cod 39 87 = some (.sipush 1000, 90) := by decide +kernel
theorem d39_90 : cod 39 90 = some (.goto 5, 93) := by decide +kernel
theorem d39_93 : cod 39 93 = some (.iload 6, 95) := by decide +kernel
theorem d39_95 : cod 39 95 = some (.iastore, 96) := by decide +kernel
theorem d39_96 : cod 39 96 = some (.iinc 5 1, 99) := by decide +kernel
theorem d39_99 : cod 39 99 = some (.goto (-62), 102) := by decide +kernel
theorem d39_102 : cod 39 102 = some (.iinc 4 1, 105) := by decide +kernel
theorem d39_105 : cod 39 105 = some (.goto (-78), 108) := by decide +kernel
theorem d39_108 : cod 39 108 = some (.iconst 0, 109) := by decide +kernel
theorem d39_109 : cod 39 109 = some (.istore 4, 111) := by decide +kernel
theorem d39_111 : cod 39 111 = some (.iload 4, 113) := by decide +kernel
theorem d39_113 : cod 39 113 = some (.bipush 6, 115) := by decide +kernel
theorem d39_115 : cod 39 115 = some (.if_icmp .ge 15, 118) := by decide +kernel
theorem d39_118 : cod 39 118 = some (.aload_n 0, 119) := by decide +kernel
theorem d39_119 : cod 39 119 = some (.iload 4, 121) := by decide +kernel
theorem d39_121 : cod 39 121 = some (.invokevirtual 36, 124) := by decide +kernel
theorem d39_124 : cod 39 124 = some (.iinc 4 1, 127) := by decide +kernel
theorem d39_127 : cod 39 127 = some (.goto (-16), 130) := by decide +kernel
theorem d39_130 : cod 39 130 = some (.return_, 131) := by decide +kernel
theorem d40_0 : cod 40 0 = some (.iconst 0, 1) := by decide +kernel
theorem d40_1 : cod 40 1 = some (.istore_n 2, 2) := by decide +kernel
theorem d40_2 : cod 40 2 = some (.iload_n 2, 3) := by decide +kernel
theorem d40_3 : cod 40 3 = some (.bipush 6, 5) := by decide +kernel
theorem d40_5 : cod 40 5 = some (.if_icmp .ge 75, 8) := by decide +kernel
theorem d40_8 : cod 40 8 = some (.iconst 0, 9) := by decide +kernel
theorem d40_9 : cod 40 9 = some (.istore_n 3, 10) := by decide +kernel
theorem d40_10 : cod 40 10 = some (.iload_n 3, 11) := by decide +kernel
theorem d40_11 : cod 40 11 = some (.bipush 6, 13) := by decide +kernel
theorem d40_13 : cod 40 13 = some (.if_icmp .ge 61, 16) := by decide +kernel
theorem d40_16 : cod 40 16 = some (.aload_n 0, 17) := by decide +kernel
theorem d40_17 : cod 40 17 = some (.getfield 15, 20) := by decide +kernel
theorem d40_20 : cod 40 20 = some (.iload_n 2, 21) := by decide +kernel
theorem d40_21 : cod 40 21 = some (.bipush 6, 23) := by decide +kernel
theorem d40_23 : cod 40 23 = some (.imul, 24) := by decide +kernel
theorem d40_24 : cod 40 24 = some (.iload_n 1, 25) := by decide +kernel
theorem d40_25 : cod 40 25 = some (.iadd, 26) := by decide +kernel
theorem d40_26 : cod 40 26 = some (.iaload, 27) := by decide +kernel
theorem d40_27 : cod 40 27 = some (.aload_n 0, 28) := by decide +kernel
theorem d40_28 : cod 40 28 = some (.getfield 15, 31) := by decide +kernel
theorem d40_31 : cod 40 31 = some (.iload_n 1, 32) := by decide +kernel
theorem d40_32 : cod 40 32 = some (.bipush 6, 34) := by decide +kernel
theorem d40_34 : cod 40 34 = some (.imul, 35) := by decide +kernel
theorem d40_35 : cod 40 35 = some (.iload_n 3, 36) := by decide +kernel
theorem d40_36 : cod 40 36 = some (.iadd, 37) := by decide +kernel
theorem d40_37 : cod 40 37 = some (.iaload, 38) := by decide +kernel
theorem d40_38 : cod 40 38 = some (.iadd, 39) := by decide +kernel
theorem d40_39 : cod 40 39 = some (.istore 4, 41) := by decide +kernel
theorem d40_41 : cod 40 41 = some (.aload_n 0, 42) := by decide +kernel
theorem d40_42 : cod 40 42 = some (.getfield 15, 45) := by decide +kernel
theorem d40_45 : cod 40 45 = some (.iload_n 2, 46) := by decide +kernel
theorem d40_46 : cod 40 46 = some (.bipush 6, 48) := by decide +kernel
theorem d40_48 : cod 40 48 = some (.imul, 49) := by decide +kernel
theorem d40_49 : cod 40 49 = some (.iload_n 3, 50) := by decide +kernel
theorem d40_50 : cod 40 50 = some (.iadd, 51) := by decide +kernel
theorem d40_51 : cod 40 51 = some (.aload_n 0, 52) := by decide +kernel
theorem d40_52 : cod 40 52 = some (.getfield 15, 55) := by decide +kernel
theorem d40_55 : cod 40 55 = some (.iload_n 2, 56) := by decide +kernel
theorem d40_56 : cod 40 56 = some (.bipush 6, 58) := by decide +kernel
theorem d40_58 : cod 40 58 = some (.imul, 59) := by decide +kernel
theorem d40_59 : cod 40 59 = some (.iload_n 3, 60) := by decide +kernel
theorem d40_60 : cod 40 60 = some (.iadd, 61) := by decide +kernel
theorem d40_61 : cod 40 61 = some (.iaload, 62) := by decide +kernel
theorem d40_62 : cod 40 62 = some (.iload 4, 64) := by decide +kernel
theorem d40_64 : cod 40 64 = some (.invokestatic 40, 67) := by decide +kernel
theorem d40_67 : cod 40 67 = some (.iastore, 68) := by decide +kernel
theorem d40_68 : cod 40 68 = some (.iinc 3 1, 71) := by decide +kernel
theorem d40_71 : cod 40 71 = some (.goto (-61), 74) := by decide +kernel
theorem d40_74 : cod 40 74 = some (.iinc 2 1, 77) := by decide +kernel
theorem d40_77 : cod 40 77 = some (.goto (-75), 80) := by decide +kernel
theorem d40_80 : cod 40 80 = some (.return_, 81) := by decide +kernel
theorem d41_0 : cod 41 0 = some (.aload_n 0, 1) := by decide +kernel
theorem d41_1 : cod 41 1 = some (.getfield 15, 4) := by decide +kernel
theorem d41_4 : cod 41 4 = some (.iload_n 1, 5) := by decide +kernel
theorem d41_5 : cod 41 5 = some (.bipush 6, 7) := by decide +kernel
theorem d41_7 : cod 41 7 = some (.imul, 8) := by decide +kernel
theorem d41_8 : cod 41 8 = some (.iload_n 2, 9) := by decide +kernel
theorem d41_9 : cod 41 9 = some (.iadd, 10) := by decide +kernel
theorem d41_10 : cod 41 10 = some (.iaload, 11) := by decide +kernel
theorem d41_11 : cod 41 11 = some (.istore_n 3, 12) := by decide +kernel
theorem d41_12 : cod 41 12 = some (.iload_n 3, 13) := by decide +kernel
theorem d41_13 : cod 41 13 = some (.sipush 1000, 16) := by decide +kernel
theorem d41_16 : cod 41 16 = some (.if_icmp .ge 7, 19) := by decide +kernel
theorem d41_19 : cod 41 19 = some (.iload_n 3, 20) := by decide +kernel
theorem d41_20 : cod 41 20 = some (.goto 4, 23) := by decide +kernel
theorem d41_23 : cod 41 23 = some (.iconst (-1), 24) := by decide +kernel
theorem d41_24 : cod 41 24 = some (.ireturn, 25) := by decide +kernel
theorem d42_0 : cod 42 0 = some (.iload_n 1, 1) := by decide +kernel
theorem d42_1 : cod 42 1 = some (.iload_n 2, 2) := by decide +kernel
theorem d42_2 : cod 42 2 = some (.if_icmp .ne 5, 5) := by decide +kernel
theorem d42_5 : cod 42 5 = some (.iconst 0, 6) := by decide +kernel
theorem d42_6 : cod 42 6 = some (.ireturn, 7) := by decide +kernel
theorem d42_7 : cod 42 7 = some (.aload_n 0, 8) := by decide +kernel
theorem d42_8 : cod 42 8 = some (.getfield 15, 11) := by decide +kernel
theorem d42_11 : cod 42 11 = some (.iload_n 1, 12) := by decide +kernel
theorem d42_12 : cod 42 12 = some (.bipush 6, 14) := by decide +kernel
theorem d42_14 : cod 42 14 = some (.imul, 15) := by decide +kernel
theorem d42_15 : cod 42 15 = some (.iload_n 2, 16) := by decide +kernel
theorem d42_16 : cod 42 16 = some (.iadd, 17) := by decide +kernel
theorem d42_17 : cod 42 17 = some (.iaload, 18) := by decide +kernel
theorem d42_18 : cod 42 18 = some (.iconst 3, 19) := by decide +kernel
theorem d42_19 : cod 42 19 = some (.if_icmp .gt 7, 22) := by decide +kernel
theorem d42_22 : cod 42 22 = some (.iconst 1, 23) := by decide +kernel
theorem d42_23 : cod 42 23 = some (.goto 4, 26) := by decide +kernel
theorem d42_26 : cod 42 26 = some (.iconst 2, 27) := by decide +kernel
theorem d42_27 : cod 42 27 = some (.ireturn, 28) := by decide +kernel
theorem d43_0 : cod 43 0 = some (.iconst (-1), 1) := by decide +kernel
theorem d43_1 : cod 43 1 = some (.istore 4, 3) := by decide +kernel
theorem d43_3 : cod 43 3 = some (.iconst 0, 4) := by decide +kernel
theorem d43_4 : cod 43 4 = some (.istore 5, 6) := by decide +kernel
theorem d43_6 : cod 43 6 = some (.iload 5, 8) := by decide +kernel
theorem d43_8 : cod 43 8 = some (.aload_n 0, 9) := by decide +kernel
theorem d43_9 : cod 43 9 = some (.getfield 46, 12) := by decide +kernel
theorem d43_12 : cod 43 12 = some (.if_icmp .ge 75, 15) := by decide +kernel
theorem d43_15 : cod 43 15 = some (.aload_n 0, 16) := by decide +kernel
theorem d43_16 : cod 43 16 = some (.getfield 21, 19) := by decide +kernel
theorem d43_19 : cod 43 19 = some (.iload 5, 21) := by decide +kernel
theorem d43_21 : cod 43 21 = some (.iaload, 22) := by decide +kernel
theorem d43_22 : cod 43 22 = some (.iload_n 2, 23) := by decide +kernel
theorem d43_23 : cod 43 23 = some (.if_icmp .ne 29, 26) := by decide +kernel
theorem d43_26 : cod 43 26 = some (.aload_n 0, 27) := by decide +kernel
theorem d43_27 : cod 43 27 = some (.getfield 24, 30) := by decide +kernel
theorem d43_30 : cod 43 30 = some (.iload 5, 32) := by decide +kernel
theorem d43_32 : cod 43 32 = some (.iaload, 33) := by decide +kernel
theorem d43_33 : cod 43 33 = some (.iload_n 3, 34) := by decide +kernel
theorem d43_34 : cod 43 34 = some (.if_icmp .lt 18, 37) := by decide +kernel
theorem d43_37 : cod 43 37 = some (.aload_n 0, 38) := by decide +kernel
theorem d43_38 : cod 43 38 = some (.getfield 18, 41) := by decide +kernel
theorem d43_41 : cod 43 41 = some (.iload 5, 43) := by decide +kernel
theorem d43_43 : cod 43 43 = some (.iaload, 44) := by decide +kernel
theorem d43_44 : cod 43 44 = some (.iload_n 1, 45) := by decide +kernel
theorem d43_45 : cod 43 45 = some (.if_icmp .gt 7, 48) := by decide +kernel
theorem d43_48 : cod 43 48 = some (.iconst 1, 49) := by decide +kernel
theorem d43_49 : cod 43 49 = some (.goto 4, 52) := by decide +kernel
theorem d43_52 : cod 43 52 = some (.iconst 0, 53) := by decide +kernel
theorem d43_53 : cod 43 53 = some (.istore 6, 55) := by decide +kernel
theorem d43_55 : cod 43 55 = some (.iload 6, 57) := by decide +kernel
theorem d43_57 : cod 43 57 = some (.ifCond .eq 24, 60) := by decide +kernel
theorem d43_60 : cod 43 60 = some (.iload 4, 62) := by decide +kernel
theorem d43_62 : cod 43 62 = some (.iconst (-1), 63) := by decide +kernel
theorem d43_63 : cod 43 63 = some (.if_icmp .eq 14, 66) := by decide +kernel
theorem d43_66 : cod 43 66 = some (.aload_n 0, 67) := by decide +kernel
theorem d43_67 : cod 43 67 = some (.iload 5, 69) := by decide +kernel
theorem d43_69 : cod 43 69 = some (.iload 4, 71) := by decide +kernel
theorem d43_71 : cod 43 71 = some (.invokevirtual 50, 74) := by decide +kernel
theorem d43_74 : cod 43 74 = some (.ifCond .eq 7, 77) := by decide +kernel
theorem d43_77 : cod 43 77 = some (.iload 5, 79) := by decide +kernel
theorem d43_79 : cod 43 79 = some (.istore 4, 81) := by decide +kernel
theorem d43_81 : cod 43 81 = some (.iinc 5 1, 84) := by decide +kernel
theorem d43_84 : cod 43 84 = some (.goto (-78), 87) := by decide +kernel
theorem d43_87 : cod 43 87 = some (.iload 4, 89) := by decide +kernel
theorem d43_89 : cod 43 89 = some (.iconst (-1), 90) := by decide +kernel
theorem d43_90 : cod 43 90 = some (.if_icmp .ne 7, 93) := by decide +kernel
theorem d43_93 : cod 43 93 = some (.iconst (-1), 94) := by decide +kernel
theorem d43_94 : cod 43 94 = some (.goto 10, 97) := by decide +kernel
theorem d43_97 : cod 43 97 = some (.aload_n 0, 98) := by decide +kernel
theorem d43_98 : cod 43 98 = some (.getfield 27, 101) := by decide +kernel
theorem d43_101 : cod 43 101 = some (.iload 4, 103) := by decide +kernel
theorem d43_103 : cod 43 103 = some (.iaload, 104) := by decide +kernel
theorem d43_104 : cod 43 104 = some (.ireturn, 105) := by decide +kernel
theorem d44_0 : cod 44 0 = some (.aload_n 0, 1) := by decide +kernel
theorem d44_1 : cod 44 1 = some (.getfield 24, 4) := by decide +kernel
theorem d44_4 : cod 44 4 = some (.iload_n 1, 5) := by decide +kernel
theorem d44_5 : cod 44 5 = some (.iaload, 6) := by decide +kernel
theorem d44_6 : cod 44 6 = some (.aload_n 0, 7) := by decide +kernel
theorem d44_7 : cod 44 7 = some (.getfield 24, 10) := by decide +kernel
theorem d44_10 : cod 44 10 = some (.iload_n 2, 11) := by decide +kernel
theorem d44_11 : cod 44 11 = some (.iaload, 12) := by decide +kernel
theorem d44_12 : cod 44 12 = some (.if_icmp .eq 24, 15) := by decide +kernel
theorem d44_15 : cod 44 15 = some (.aload_n 0, 16) := by decide +kernel
theorem d44_16 : cod 44 16 = some (.getfield 24, 19) := by decide +kernel
theorem d44_19 : cod 44 19 = some (.iload_n 1, 20) := by decide +kernel
theorem d44_20 : cod 44 20 = some (.iaload, 21) := by decide +kernel
theorem d44_21 : cod 44 21 = some (.aload_n 0, 22) := by decide +kernel
theorem d44_22 : cod 44 22 = some (.getfield 24, 25) := by decide +kernel
theorem d44_25 : cod 44 25 = some (.iload_n 2, 26) := by decide +kernel
theorem d44_26 : cod 44 26 = some (.iaload, 27) := by decide +kernel
theorem d44_27 : cod 44 27 = some (.if_icmp .ge 7, 30) := by decide +kernel
theorem d44_30 : cod 44 30 = some (.iconst 1, 31) := by decide +kernel
theorem d44_31 : cod 44 31 = some (.goto 4, 34) := by decide +kernel
theorem d44_34 : cod 44 34 = some (.iconst 0, 35) := by decide +kernel
theorem d44_35 : cod 44 35 = some (.ireturn, 36) := by decide +kernel
theorem d44_36 : cod 44 36 = some (.aload_n 0, 37) := by decide +kernel
theorem d44_37 : cod 44 37 = some (.getfield 18, 40) := by decide +kernel
theorem d44_40 : cod 44 40 = some (.iload_n 1, 41) := by decide +kernel
theorem d44_41 : cod 44 41 = some (.iaload, 42) := by decide +kernel
theorem d44_42 : cod 44 42 = some (.aload_n 0, 43) := by decide +kernel
theorem d44_43 : cod 44 43 = some (.getfield 18, 46) := by decide +kernel
theorem d44_46 : cod 44 46 = some (.iload_n 2, 47) := by decide +kernel
theorem d44_47 : cod 44 47 = some (.iaload, 48) := by decide +kernel
theorem d44_48 : cod 44 48 = some (.if_icmp .lt 7, 51) := by decide +kernel
theorem d44_51 : cod 44 51 = some (.iconst 1, 52) := by decide +kernel
theorem d44_52 : cod 44 52 = some (.goto 4, 55) := by decide +kernel
theorem d44_55 : cod 44 55 = some (.iconst 0, 56) := by decide +kernel
theorem d44_56 : cod 44 56 = some (.ireturn, 57) := by decide +kernel
theorem d45_0 : cod 45 0 = some (.aload_n 0, 1) := by decide +kernel
theorem d45_1 : cod 45 1 = some (.invokespecial 3, 4) := by decide +kernel
theorem d45_4 : cod 45 4 = some (.aload_n 0, 5) := by decide +kernel
theorem d45_5 : cod 45 5 = some (.bipush 8, 7) := by decide +kernel
theorem d45_7 : cod 45 7 = some (.newarray .boolean, 9) := by decide +kernel
theorem d45_9 : cod 45 9 = some (.putfield 9, 12) := by decide +kernel
theorem d45_12 : cod 45 12 = some (.aload_n 0, 13) := by decide +kernel
theorem d45_13 : cod 45 13 = some (.bipush 8, 15) := by decide +kernel
theorem d45_15 : cod 45 15 = some (.newarray .int, 17) := by decide +kernel
theorem d45_17 : cod 45 17 = some (.putfield 15, 20) := by decide +kernel
theorem d45_20 : cod 45 20 = some (.aload_n 0, 21) := by decide +kernel
theorem d45_21 : cod 45 21 = some (.bipush 8, 23) := by decide +kernel
theorem d45_23 : cod 45 23 = some (.newarray .int, 25) := by decide +kernel
theorem d45_25 : cod 45 25 = some (.putfield 19, 28) := by decide +kernel
theorem d45_28 : cod 45 28 = some (.aload_n 0, 29) := by decide +kernel
theorem d45_29 : cod 45 29 = some (.new 22, 32) := by decide +kernel
theorem d45_32 : cod 45 32 = some (.dup, 33) := by decide +kernel
theorem d45_33 : cod 45 33 = some (.invokespecial 24, 36) := by decide +kernel
theorem d45_36 : cod 45 36 = some (.putfield 25, 39) := by decide +kernel
theorem d45_39 : cod 45 39 = some (.aload_n 0, 40) := by decide +kernel
theorem d45_40 : cod 45 40 = some (.sipush 256, 43) := by decide +kernel
theorem d45_43 : cod 45 43 = some (.newarray .int, 45) := by decide +kernel
theorem d45_45 : cod 45 45 = some (.putfield 29, 48) := by decide +kernel
theorem d45_48 : cod 45 48 = some (.aload_n 0, 49) := by decide +kernel
theorem d45_49 : cod 45 49 = some (.sipush 256, 52) := by decide +kernel
theorem d45_52 : cod 45 52 = some (.newarray .int, 54) := by decide +kernel
theorem d45_54 : cod 45 54 = some (.putfield 32, 57) := by decide +kernel
theorem d45_57 : cod 45 57 = some (.aload_n 0, 58) := by decide +kernel
theorem d45_58 : cod 45 58 = some (.sipush 256, 61) := by decide +kernel
theorem d45_61 : cod 45 61 = some (.newarray .long, 63) := by decide +kernel
theorem d45_63 : cod 45 63 = some (.putfield 35, 66) := by decide +kernel
theorem d45_66 : cod 45 66 = some (.return_, 67) := by decide +kernel
theorem d46_0 : cod 46 0 = some (.aload_n 0, 1) := by decide +kernel
theorem d46_1 : cod 46 1 = some (.iconst 0, 2) := by decide +kernel
theorem d46_2 : cod 46 2 = some (.putfield 39, 5) := by decide +kernel
theorem d46_5 : cod 46 5 = some (.aload_n 0, 6) := by decide +kernel
theorem d46_6 : cod 46 6 = some (.getfield 25, 9) := by decide +kernel
theorem d46_9 : cod 46 9 = some (.invokevirtual 43, 12) := by decide +kernel
theorem d46_12 : cod 46 12 = some (.aload_n 0, 13) := by decide +kernel
theorem d46_13 : cod 46 13 = some (.iconst 0, 14) := by decide +kernel
theorem d46_14 : cod 46 14 = some (.putfield 46, 17) := by decide +kernel
theorem d46_17 : cod 46 17 = some (.return_, 18) := by decide +kernel
theorem d47_0 : cod 47 0 = some (.iconst 0, 1) := by decide +kernel
theorem d47_1 : cod 47 1 = some (.istore_n 3, 2) := by decide +kernel
theorem d47_2 : cod 47 2 = some (.iload_n 3, 3) := by decide +kernel
theorem d47_3 : cod 47 3 = some (.aload_n 0, 4) := by decide +kernel
theorem d47_4 : cod 47 4 = some (.getfield 39, 7) := by decide +kernel
theorem d47_7 : cod 47 7 = some (.if_icmp .ge 31, 10) := by decide +kernel
theorem d47_10 : cod 47 10 = some (.aload_n 0, 11) := by decide +kernel
theorem d47_11 : cod 47 11 = some (.getfield 9, 14) := by decide +kernel
theorem d47_14 : cod 47 14 = some (.iload_n 3, 15) := by decide +kernel
theorem d47_15 : cod 47 15 = some (.baload, 16) := by decide +kernel
theorem d47_16 : cod 47 16 = some (.iload_n 1, 17) := by decide +kernel
theorem d47_17 : cod 47 17 = some (.if_icmp .ne 15, 20) := by decide +kernel
theorem d47_20 : cod 47 20 = some (.aload_n 0, 21) := by decide +kernel
theorem d47_21 : cod 47 21 = some (.getfield 15, 24) := by decide +kernel
theorem d47_24 : cod 47 24 = some (.iload_n 3, 25) := by decide +kernel
theorem d47_25 : cod 47 25 = some (.iaload, 26) := by decide +kernel
theorem d47_26 : cod 47 26 = some (.iload_n 2, 27) := by decide +kernel
theorem d47_27 : cod 47 27 = some (.if_icmp .ne 5, 30) := by decide +kernel
theorem d47_30 : cod 47 30 = some (.iconst 1, 31) := by decide +kernel
theorem d47_31 : cod 47 31 = some (.ireturn, 32) := by decide +kernel
theorem d47_32 : cod 47 32 = some (.iinc 3 1, 35) := by decide +kernel
theorem d47_35 : cod 47 35 = some (.goto (-33), 38) := by decide +kernel
theorem d47_38 : cod 47 38 = some (.iconst 0, 39) := by decide +kernel
theorem d47_39 : cod 47 39 = some (.ireturn, 40) := by decide +kernel
theorem d48_0 : cod 48 0 = some (.aload_n 0, 1) := by decide +kernel
theorem d48_1 : cod 48 1 = some (.getfield 9, 4) := by decide +kernel
theorem d48_4 : cod 48 4 = some (.aload_n 0, 5) := by decide +kernel
theorem d48_5 : cod 48 5 = some (.getfield 39, 8) := by decide +kernel
theorem d48_8 : cod 48 8 = some (.iload_n 1, 9) := by decide +kernel
theorem d48_9 : cod 48 9 = some (.bastore, 10) := by decide +kernel
theorem d48_10 : cod 48 10 = some (.aload_n 0, 11) := by decide +kernel
theorem d48_11 : cod 48 11 = some (.getfield 15, 14) := by decide +kernel
theorem d48_14 : cod 48 14 = some (.aload_n 0, 15) := by decide +kernel
theorem d48_15 : cod 48 15 = some (.getfield 39, 18) := by decide +kernel
theorem d48_18 : cod 48 18 = some (.iload_n 2, 19) := by decide +kernel
theorem d48_19 : cod 48 19 = some (.iastore, 20) := by decide +kernel
theorem d48_20 : cod 48 20 = some (.aload_n 0, 21) := by decide +kernel
theorem d48_21 : cod 48 21 = some (.getfield 19, 24) := by decide +kernel
theorem d48_24 : cod 48 24 = some (.aload_n 0, 25) := by decide +kernel
theorem d48_25 : cod 48 25 = some (.getfield 39, 28) := by decide +kernel
theorem d48_28 : cod 48 28 = some (.iload_n 3, 29) := by decide +kernel
theorem d48_29 : cod 48 29 = some (.iastore, 30) := by decide +kernel
theorem d48_30 : cod 48 30 = some (.aload_n 0, 31) := by decide +kernel
theorem d48_31 : cod 48 31 = some (.dup, 32) := by decide +kernel
theorem d48_32 : cod 48 32 = some (.getfield 39, 35) := by decide +kernel
theorem d48_35 : cod 48 35 = some (.iconst 1, 36) := by decide +kernel
theorem d48_36 : cod 48 36 = some (.iadd, 37) := by decide +kernel
theorem d48_37 : cod 48 37 = some (.putfield 39, 40) := by decide +kernel
theorem d48_40 : cod 48 40 = some (.aload_n 0, 41) := by decide +kernel
theorem d48_41 : cod 48 41 = some (.iconst 0, 42) := by decide +kernel
theorem d48_42 : cod 48 42 = some (.putfield 46, 45) := by decide +kernel
theorem d48_45 : cod 48 45 = some (.aload_n 0, 46) := by decide +kernel
theorem d48_46 : cod 48 46 = some (.getfield 39, 49) := by decide +kernel
theorem d48_49 : cod 48 49 = some (.iconst 1, 50) := by decide +kernel
theorem d48_50 : cod 48 50 = some (.isub, 51) := by decide +kernel
theorem d48_51 : cod 48 51 = some (.ireturn, 52) := by decide +kernel
theorem d49_0 : cod 49 0 = some (.iconst 1, 1) := by decide +kernel
theorem d49_1 : cod 49 1 = some (.aload_n 0, 2) := by decide +kernel
theorem d49_2 : cod 49 2 = some (.getfield 39, 5) := by decide +kernel
theorem d49_5 : cod 49 5 = some (.ishl, 6) := by decide +kernel
theorem d49_6 : cod 49 6 = some (.iconst 1, 7) := by decide +kernel
theorem d49_7 : cod 49 7 = some (.isub, 8) := by decide +kernel
theorem d49_8 : cod 49 8 = some (.ireturn, 9) := by decide +kernel
theorem d50_0 : cod 50 0 = some (.aload_n 0, 1) := by decide +kernel
theorem d50_1 : cod 50 1 = some (.getfield 25, 4) := by decide +kernel
theorem d50_4 : cod 50 4 = some (.new 50, 7) := by decide +kernel
theorem d50_7 : cod 50 7 = some (.dup, 8) := by decide +kernel
theorem d50_8 : cod 50 8 = some (.iload_n 1, 9) := by decide +kernel
theorem d50_9 : cod 50 9 = some (.iload_n 2, 10) := by decide +kernel
theorem d50_10 : cod 50 10 = some (.iload_n 3, 11) := by decide +kernel
theorem d50_11 : cod 50 11 = some (.invokespecial 52, 14) := by decide +kernel
theorem d50_14 : cod 50 14 = some (.invokevirtual 55, 17) := by decide +kernel
theorem d50_17 : cod 50 17 = some (.pop, 18) := by decide +kernel
theorem d50_18 : cod 50 18 = some (.aload_n 0, 19) := by decide +kernel
theorem d50_19 : cod 50 19 = some (.iconst 0, 20) := by decide +kernel
theorem d50_20 : cod 50 20 = some (.putfield 46, 23) := by decide +kernel
theorem d50_23 : cod 50 23 = some (.aload_n 0, 24) := by decide +kernel
theorem d50_24 : cod 50 24 = some (.getfield 25, 27) := by decide +kernel
theorem d50_27 : cod 50 27 = some (.invokevirtual 59, 30) := by decide +kernel
theorem d50_30 : cod 50 30 = some (.iconst 1, 31) := by decide +kernel
theorem d50_31 : cod 50 31 = some (.isub, 32) := by decide +kernel
theorem d50_32 : cod 50 32 = some (.ireturn, 33) := by decide +kernel
theorem d51_0 : cod 51 0 = some (.aload_n 0, 1) := by decide +kernel
theorem d51_1 : cod 51 1 = some (.getfield 46, 4) := by decide +kernel
theorem d51_4 : cod 51 4 = some (.ifCond .eq 12, 7) := by decide +kernel
theorem d51_7 : cod 51 7 = some (.aload_n 0, 8) := by decide +kernel
theorem d51_8 : cod 51 8 = some (.getfield 63, 11) := by decide +kernel
theorem d51_11 : cod 51 11 = some (.iload_n 1, 12) := by decide +kernel
theorem d51_12 : cod 51 12 = some (.if_icmp .ne 4, 15) := by decide +kernel
theorem d51_15 : cod 51 15 = some (.return_, 16) := by decide +kernel
theorem d51_16 : cod 51 16 = some (.aload_n 0, 17) := by decide +kernel
theorem d51_17 : cod 51 17 = some (.iload_n 1, 18) := by decide +kernel
theorem d51_18 : cod 51 18 = some (.putfield 63, 21) := by decide +kernel
theorem d51_21 : cod 51 21 = some (.aload_n 0, 22) := by decide +kernel
theorem d51_22 : cod 51 22 = some (.iconst 1, 23) := by decide +kernel
theorem d51_23 : cod 51 23 = some (.putfield 46, 26) := by decide +kernel
theorem d51_26 : cod 51 26 = some (.aload_n 0, 27) := by decide +kernel
theorem d51_27 : cod 51 27 = some (.getfield 29, 30) := by decide +kernel
theorem d51_30 : cod 51 30 = some (.iconst 0, 31) := by decide +kernel
theorem d51_31 : cod 51 31 = some (.invokestatic 66, 34) := by decide +kernel
theorem d51_34 : cod 51 34 = some (.aload_n 0, 35) := by decide +kernel
theorem d51_35 : cod 51 35 = some (.getfield 32, 38) := by decide +kernel
theorem d51_38 : cod 51 38 = some (.iconst 0, 39) := by decide +kernel
theorem d51_39 : cod 51 39 = some (.invokestatic 66, 42) := by decide +kernel
theorem d51_42 : cod 51 42 = some (.aload_n 0, 43) := by decide +kernel
theorem d51_43 : cod 51 43 = some (.getfield 35, 46) := by decide +kernel
theorem d51_46 : cod 51 46 = some (.lconst 0, 47) := by decide +kernel
theorem d51_47 : cod 51 47 = some (.invokestatic 72, 50) := by decide +kernel
theorem d51_50 : cod 51 50 = some (.aload_n 0, 51) := by decide +kernel
theorem d51_51 : cod 51 51 = some (.lconst 0, 52) := by decide +kernel
theorem d51_52 : cod 51 52 = some (.putfield 75, 55) := by decide +kernel
theorem d51_55 : cod 51 55 = some (.aload_n 0, 56) := by decide +kernel
theorem d51_56 : cod 51 56 = some (.getfield 25, 59) := by decide +kernel
theorem d51_59 : cod 51 59 = some (.invokevirtual 59, 62) := by decide +kernel
theorem d51_62 : cod 51 62 = some (.iconst 1, 63) := by decide +kernel
theorem d51_63 : cod 51 63 = some (.isub, 64) := by decide +kernel
theorem d51_64 : cod 51 64 = some (.istore_n 2, 65) := by decide +kernel
theorem d51_65 : cod 51 65 = some (.iload_n 2, 66) := by decide +kernel
theorem d51_66 : cod 51 66 = some (.ifCond .lt 57, 69) := by decide +kernel
theorem d51_69 : cod 51 69 = some (.aload_n 0, 70) := by decide +kernel
theorem d51_70 : cod 51 70 = some (.aload_n 0, 71) := by decide +kernel
theorem d51_71 : cod 51 71 = some (.getfield 25, 74) := by decide +kernel
theorem d51_74 : cod 51 74 = some (.iload_n 2, 75) := by decide +kernel
theorem d51_75 : cod 51 75 = some (.invokevirtual 79, 78) := by decide +kernel
theorem d51_78 : cod 51 78 = some (.checkcast 50, 81) := by decide +kernel
theorem d51_81 : cod 51 81 = some (.invokevirtual 83, 84) := by decide +kernel
theorem d51_84 : cod 51 84 = some (.ifCond .eq 33, 87) := by decide +kernel
theorem d51_87 : cod 51 87 = some (.aload_n 0, 88) := by decide +kernel
theorem d51_88 : cod 51 88 = some (.dup, 89) := by decide +kernel
theorem d51_89 : cod 51 89 = some (.getfield 75, 92) := by decide +kernel
theorem d51_92 : cod 51 92 = some (.lconst 1, 93) := by decide +kernel
theorem d51_93 : cod 51 93 = some (.iload_n 2, 94) := by decide +kernel
theorem d51_94 : cod 51 94 = some (.lshl, 95) := by decide +kernel
theorem d51_95 : cod 51 95 = some (.lor, 96) := by decide +kernel
theorem d51_96 : cod 51 96 = some (.putfield 75, 99) := by decide +kernel
theorem d51_99 : cod 51 99 = some (.aload_n 0, 100) := by decide +kernel
theorem d51_100 : cod 51 100 = some (.aload_n 0, 101) := by decide +kernel
theorem d51_101 : cod 51 101 = some (.getfield 25, 104) := by decide +kernel
theorem d51_104 : cod 51 104 = some (.iload_n 2, 105) := by decide +kernel
theorem d51_105 : cod 51 105 = some (.invokevirtual 79, 108) := by decide +kernel
theorem d51_108 : cod 51 108 = some (.checkcast 50, 111) := by decide +kernel
theorem d51_111 : cod 51 111 = some (.lconst 1, 112) := by decide +kernel
theorem d51_112 : cod 51 112 = some (.iload_n 2, 113) := by decide +kernel
theorem d51_113 : cod 51 113 = some (.lshl, 114) := by decide +kernel
theorem d51_114 : cod 51 114 = some (.invokevirtual 87, 117) := by decide +kernel
theorem d51_117 : cod 51 117 = some (.iinc 2 (-1), 120) := by decide +kernel
theorem d51_120 : cod 51 120 = some (.goto (-55), 123) := by decide +kernel
theorem d51_123 : cod 51 123 = some (.return_, 124) := by decide +kernel
theorem d52_0 : cod 52 0 = some (.iconst 0, 1) := by decide +kernel
theorem d52_1 : cod 52 1 = some (.istore_n 2, 2) := by decide +kernel
theorem d52_2 : cod 52 2 = some (.iconst 0, 3) := by decide +kernel
theorem d52_3 : cod 52 3 = some (.istore_n 3, 4) := by decide +kernel
theorem d52_4 : cod 52 4 = some (.iload_n 3, 5) := by decide +kernel
theorem d52_5 : cod 52 5 = some (.aload_n 0, 6) := by decide +kernel
theorem d52_6 : cod 52 6 = some (.getfield 39, 9) := by decide +kernel
theorem d52_9 : cod 52 9 = some (.if_icmp .ge 29, 12) := by decide +kernel
theorem d52_12 : cod 52 12 = some (.iload_n 3, 13) := by decide +kernel
theorem d52_13 : cod 52 13 = some (.aload_n 1, 14) := by decide +kernel
theorem d52_14 : cod 52 14 = some (.getfield 94, 17) := by decide +kernel
theorem d52_17 : cod 52 17 = some (.invokestatic 98, 20) := by decide +kernel
theorem d52_20 : cod 52 20 = some (.ifCond .eq 12, 23) := by decide +kernel
theorem d52_23 : cod 52 23 = some (.iload_n 2, 24) := by decide +kernel
theorem d52_24 : cod 52 24 = some (.aload_n 0, 25) := by decide +kernel
theorem d52_25 : cod 52 25 = some (.getfield 19, 28) := by decide +kernel
theorem d52_28 : cod 52 28 = some (.iload_n 3, 29) := by decide +kernel
theorem d52_29 : cod 52 29 = some (.iaload, 30) := by decide +kernel
theorem d52_30 : cod 52 30 = some (.iadd, 31) := by decide +kernel
theorem d52_31 : cod 52 31 = some (.istore_n 2, 32) := by decide +kernel
theorem d52_32 : cod 52 32 = some (.iinc 3 1, 35) := by decide +kernel
theorem d52_35 : cod 52 35 = some (.goto (-31), 38) := by decide +kernel
theorem d52_38 : cod 52 38 = some (.aload_n 1, 39) := by decide +kernel
theorem d52_39 : cod 52 39 = some (.getfield 95, 42) := by decide +kernel
theorem d52_42 : cod 52 42 = some (.iload_n 2, 43) := by decide +kernel
theorem d52_43 : cod 52 43 = some (.if_icmp .lt 19, 46) := by decide +kernel
theorem d52_46 : cod 52 46 = some (.aload_n 1, 47) := by decide +kernel
theorem d52_47 : cod 52 47 = some (.getfield 94, 50) := by decide +kernel
theorem d52_50 : cod 52 50 = some (.aload_n 0, 51) := by decide +kernel
theorem d52_51 : cod 52 51 = some (.getfield 63, 54) := by decide +kernel
theorem d52_54 : cod 52 54 = some (.iand, 55) := by decide +kernel
theorem d52_55 : cod 52 55 = some (.ifCond .ne 7, 58) := by decide +kernel
theorem d52_58 : cod 52 58 = some (.iconst 1, 59) := by decide +kernel
theorem d52_59 : cod 52 59 = some (.goto 4, 62) := by decide +kernel
theorem d52_62 : cod 52 62 = some (.iconst 0, 63) := by decide +kernel
theorem d52_63 : cod 52 63 = some (.ireturn, 64) := by decide +kernel
theorem d53_0 : cod 53 0 = some (.aload_n 0, 1) := by decide +kernel
theorem d53_1 : cod 53 1 = some (.invokevirtual 91, 4) := by decide +kernel
theorem d53_4 : cod 53 4 = some (.istore 4, 6) := by decide +kernel
theorem d53_6 : cod 53 6 = some (.iload 4, 8) := by decide +kernel
theorem d53_8 : cod 53 8 = some (.ifCond .lt 127, 11) := by decide +kernel
theorem d53_11 : cod 53 11 = some (.iload 4, 13) := by decide +kernel
theorem d53_13 : cod 53 13 = some (.aload_n 1, 14) := by decide +kernel
theorem d53_14 : cod 53 14 = some (.getfield 94, 17) := by decide +kernel
theorem d53_17 : cod 53 17 = some (.iand, 18) := by decide +kernel
theorem d53_18 : cod 53 18 = some (.aload_n 1, 19) := by decide +kernel
theorem d53_19 : cod 53 19 = some (.getfield 94, 22) := by decide +kernel
theorem d53_22 : cod 53 22 = some (.if_icmp .ne 107, 25) := by decide +kernel
theorem d53_25 : cod 53 25 = some (.iload 4, 27) := by decide +kernel
theorem d53_27 : cod 53 27 = some (.aload_n 1, 28) := by decide +kernel
theorem d53_28 : cod 53 28 = some (.getfield 94, 31) := by decide +kernel
theorem d53_31 : cod 53 31 = some (.ixor, 32) := by decide +kernel
theorem d53_32 : cod 53 32 = some (.istore 5, 34) := by decide +kernel
theorem d53_34 : cod 53 34 = some (.aload_n 0, 35) := by decide +kernel
theorem d53_35 : cod 53 35 = some (.getfield 29, 38) := by decide +kernel
theorem d53_38 : cod 53 38 = some (.iload 5, 40) := by decide +kernel
theorem d53_40 : cod 53 40 = some (.iaload, 41) := by decide +kernel
theorem d53_41 : cod 53 41 = some (.aload_n 1, 42) := by decide +kernel
theorem d53_42 : cod 53 42 = some (.getfield 95, 45) := by decide +kernel
theorem d53_45 : cod 53 45 = some (.iadd, 46) := by decide +kernel
theorem d53_46 : cod 53 46 = some (.istore 6, 48) := by decide +kernel
theorem d53_48 : cod 53 48 = some (.aload_n 0, 49) := by decide +kernel
theorem d53_49 : cod 53 49 = some (.getfield 32, 52) := by decide +kernel
theorem d53_52 : cod 53 52 = some (.iload 5, 54) := by decide +kernel
theorem d53_54 : cod 53 54 = some (.iaload, 55) := by decide +kernel
theorem d53_55 : cod 53 55 = some (.iconst 1, 56) := by decide +kernel
theorem d53_56 : cod 53 56 = some (.iadd, 57) := by decide +kernel
theorem d53_57 : cod 53 57 = some (.istore 7, 59) := by decide +kernel
theorem d53_59 : cod 53 59 = some (.iload 6, 61) := by decide +kernel
theorem d53_61 : cod 53 61 = some (.aload_n 0, 62) := by decide +kernel
theorem d53_62 : cod 53 62 = some (.getfield 29, 65) := by decide +kernel
theorem d53_65 : cod 53 65 = some (.iload 4, 67) := by decide +kernel
theorem d53_67 : cod 53 67 = some (.iaload, 68) := by decide +kernel
theorem d53_68 : cod 53 68 = some (.if_icmp .gt 27, 71) := by decide +kernel
theorem d53_71 : cod 53 71 = some (.iload 6, 73) := by decide +kernel
theorem d53_73 : cod 53 73 = some (.aload_n 0, 74) := by decide +kernel
theorem d53_74 : cod 53 74 = some (.getfield 29, 77) := by decide +kernel
theorem d53_77 : cod 53 77 = some (.iload 4, 79) := by decide +kernel
theorem d53_79 : cod 53 79 = some (.iaload, 80) := by decide +kernel
theorem d53_80 : cod 53 80 = some (.if_icmp .ne 49, 83) := by decide +kernel
theorem d53_83 : cod 53 83 = some (.iload 7, 85) := by decide +kernel
theorem d53_85 : cod 53 85 = some (.aload_n 0, 86) := by decide +kernel
theorem d53_86 : cod 53 86 = some (.getfield 32, 89) := by decide +kernel
theorem d53_89 : cod 53 89 = some (.iload 4, 91) := by decide +kernel
theorem d53_91 : cod 53 91 = some (.iaload, 92) := by decide +kernel
theorem d53_92 : cod 53 92 = some (.if_icmp .gt 37, 95) := by decide +kernel
theorem d53_95 : cod 53 95 = some (.aload_n 0, 96) := by decide +kernel
theorem d53_96 : cod 53 96 = some (.getfield 29, 99) := by decide +kernel
theorem d53_99 : cod 53 99 = some (.iload 4, 101) := by decide +kernel
theorem d53_101 : cod 53 101 = some (.iload 6, 103) := by decide +kernel
theorem d53_103 : cod 53 103 = some (.iastore, 104) := by decide +kernel
theorem d53_104 : cod 53 104 = some (.aload_n 0, 105) := by decide +kernel
theorem d53_105 : cod 53 105 = some (.getfield 32, 108) := by decide +kernel
theorem d53_108 : cod 53 108 = some (.iload 4, 110) := by decide +kernel
theorem d53_110 : cod 53 110 = some (.iload 7, 112) := by decide +kernel
theorem d53_112 : cod 53 112 = some (.iastore, 113) := by decide +kernel
theorem d53_113 : cod 53 113 = some (.aload_n 0, 114) := by decide +kernel
theorem d53_114 : cod 53 114 = some (.getfield 35, 117) := by decide +kernel
theorem d53_117 : cod 53 117 = some (.iload 4, 119) := by decide +kernel
theorem d53_119 : cod 53 119 = some (.aload_n 0, 120) := by decide +kernel
theorem d53_120 : cod 53 120 = some (.getfield 35, 123) := by decide +kernel
theorem d53_123 : cod 53 123 = some (.iload 5, 125) := by decide +kernel
theorem d53_125 : cod 53 125 = some (.laload, 126) := by decide +kernel
theorem d53_126 : cod 53 126 = some (.lload_n 2, 127) := by decide +kernel
theorem d53_127 : cod 53 127 = some (.lor, 128) := by decide +kernel
theorem d53_128 : cod 53 128 = some (.lastore, 129) := by decide +kernel
theorem d53_129 : cod 53 129 = some (.iinc 4 (-1), 132) := by decide +kernel
theorem d53_132 : cod 53 132 = some (.goto (-126), 135) := by decide +kernel
theorem d53_135 : cod 53 135 = some (.return_, 136) := by decide +kernel
theorem d54_0 : cod 54 0 = some (.aload_n 0, 1) := by decide +kernel
theorem d54_1 : cod 54 1 = some (.getfield 29, 4) := by decide +kernel
theorem d54_4 : cod 54 4 = some (.aload_n 0, 5) := by decide +kernel
theorem d54_5 : cod 54 5 = some (.invokevirtual 91, 8) := by decide +kernel
theorem d54_8 : cod 54 8 = some (.iaload, 9) := by decide +kernel
theorem d54_9 : cod 54 9 = some (.ireturn, 10) := by decide +kernel
theorem d55_0 : cod 55 0 = some (.aload_n 0, 1) := by decide +kernel
theorem d55_1 : cod 55 1 = some (.getfield 32, 4) := by decide +kernel
theorem d55_4 : cod 55 4 = some (.aload_n 0, 5) := by decide +kernel
theorem d55_5 : cod 55 5 = some (.invokevirtual 91, 8) := by decide +kernel
theorem d55_8 : cod 55 8 = some (.iaload, 9) := by decide +kernel
theorem d55_9 : cod 55 9 = some (.ireturn, 10) := by decide +kernel
theorem d56_0 : cod 56 0 = some (.iconst 0, 1) := by decide +kernel
theorem d56_1 : cod 56 1 = some (.istore_n 1, 2) := by decide +kernel
theorem d56_2 : cod 56 2 = some (.iconst 0, 3) := by decide +kernel
theorem d56_3 : cod 56 3 = some (.istore_n 2, 4) := by decide +kernel
theorem d56_4 : cod 56 4 = some (.iload_n 2, 5) := by decide +kernel
theorem d56_5 : cod 56 5 = some (.aload_n 0, 6) := by decide +kernel
theorem d56_6 : cod 56 6 = some (.getfield 25, 9) := by decide +kernel
theorem d56_9 : cod 56 9 = some (.invokevirtual 59, 12) := by decide +kernel
theorem d56_12 : cod 56 12 = some (.if_icmp .ge 34, 15) := by decide +kernel
theorem d56_15 : cod 56 15 = some (.aload_n 0, 16) := by decide +kernel
theorem d56_16 : cod 56 16 = some (.iload_n 2, 17) := by decide +kernel
theorem d56_17 : cod 56 17 = some (.invokevirtual 102, 20) := by decide +kernel
theorem d56_20 : cod 56 20 = some (.ifCond .eq 20, 23) := by decide +kernel
theorem d56_23 : cod 56 23 = some (.iload_n 1, 24) := by decide +kernel
theorem d56_24 : cod 56 24 = some (.aload_n 0, 25) := by decide +kernel
theorem d56_25 : cod 56 25 = some (.getfield 25, 28) := by decide +kernel
theorem d56_28 : cod 56 28 = some (.iload_n 2, 29) := by decide +kernel
theorem d56_29 : cod 56 29 = some (.invokevirtual 79, 32) := by decide +kernel
theorem d56_32 : cod 56 32 = some (.checkcast 50, 35) := by decide +kernel
theorem d56_35 : cod 56 35 = some (.getfield 94, 38) := by decide +kernel
theorem d56_38 : cod 56 38 = some (.ior, 39) := by decide +kernel
theorem d56_39 : cod 56 39 = some (.istore_n 1, 40) := by decide +kernel
theorem d56_40 : cod 56 40 = some (.iinc 2 1, 43) := by decide +kernel
theorem d56_43 : cod 56 43 = some (.goto (-39), 46) := by decide +kernel
theorem d56_46 : cod 56 46 = some (.iload_n 1, 47) := by decide +kernel
theorem d56_47 : cod 56 47 = some (.ireturn, 48) := by decide +kernel
theorem d57_0 : cod 57 0 = some (.aload_n 0, 1) := by decide +kernel
theorem d57_1 : cod 57 1 = some (.getfield 35, 4) := by decide +kernel
theorem d57_4 : cod 57 4 = some (.aload_n 0, 5) := by decide +kernel
theorem d57_5 : cod 57 5 = some (.invokevirtual 91, 8) := by decide +kernel
theorem d57_8 : cod 57 8 = some (.laload, 9) := by decide +kernel
theorem d57_9 : cod 57 9 = some (.iload_n 1, 10) := by decide +kernel
theorem d57_10 : cod 57 10 = some (.lshr, 11) := by decide +kernel
theorem d57_11 : cod 57 11 = some (.lconst 1, 12) := by decide +kernel
theorem d57_12 : cod 57 12 = some (.land, 13) := by decide +kernel
theorem d57_13 : cod 57 13 = some (.lconst 0, 14) := by decide +kernel
theorem d57_14 : cod 57 14 = some (.lcmp, 15) := by decide +kernel
theorem d57_15 : cod 57 15 = some (.ifCond .eq 7, 18) := by decide +kernel
theorem d57_18 : cod 57 18 = some (.iconst 1, 19) := by decide +kernel
theorem d57_19 : cod 57 19 = some (.goto 4, 22) := by decide +kernel
theorem d57_22 : cod 57 22 = some (.iconst 0, 23) := by decide +kernel
theorem d57_23 : cod 57 23 = some (.ireturn, 24) := by decide +kernel
theorem d58_0 : cod 58 0 = some (.iconst 0, 1) := by decide +kernel
theorem d58_1 : cod 58 1 = some (.istore_n 1, 2) := by decide +kernel
theorem d58_2 : cod 58 2 = some (.iload_n 1, 3) := by decide +kernel
theorem d58_3 : cod 58 3 = some (.aload_n 0, 4) := by decide +kernel
theorem d58_4 : cod 58 4 = some (.getfield 25, 7) := by decide +kernel
theorem d58_7 : cod 58 7 = some (.invokevirtual 59, 10) := by decide +kernel
theorem d58_10 : cod 58 10 = some (.if_icmp .ge 19, 13) := by decide +kernel
theorem d58_13 : cod 58 13 = some (.aload_n 0, 14) := by decide +kernel
theorem d58_14 : cod 58 14 = some (.iload_n 1, 15) := by decide +kernel
theorem d58_15 : cod 58 15 = some (.invokevirtual 102, 18) := by decide +kernel
theorem d58_18 : cod 58 18 = some (.ifCond .eq 5, 21) := by decide +kernel
theorem d58_21 : cod 58 21 = some (.iload_n 1, 22) := by decide +kernel
theorem d58_22 : cod 58 22 = some (.ireturn, 23) := by decide +kernel
theorem d58_23 : cod 58 23 = some (.iinc 1 1, 26) := by decide +kernel
theorem d58_26 : cod 58 26 = some (.goto (-24), 29) := by decide +kernel
theorem d58_29 : cod 58 29 = some (.iconst (-1), 30) := by decide +kernel
theorem d58_30 : cod 58 30 = some (.ireturn, 31) := by decide +kernel
theorem d59_0 : cod 59 0 = some (.iconst 0, 1) := by decide +kernel
theorem d59_1 : cod 59 1 = some (.istore_n 1, 2) := by decide +kernel
theorem d59_2 : cod 59 2 = some (.iconst 0, 3) := by decide +kernel
theorem d59_3 : cod 59 3 = some (.istore_n 2, 4) := by decide +kernel
theorem d59_4 : cod 59 4 = some (.iload_n 2, 5) := by decide +kernel
theorem d59_5 : cod 59 5 = some (.aload_n 0, 6) := by decide +kernel
theorem d59_6 : cod 59 6 = some (.getfield 39, 9) := by decide +kernel
theorem d59_9 : cod 59 9 = some (.if_icmp .ge 28, 12) := by decide +kernel
theorem d59_12 : cod 59 12 = some (.aload_n 0, 13) := by decide +kernel
theorem d59_13 : cod 59 13 = some (.iload_n 2, 14) := by decide +kernel
theorem d59_14 : cod 59 14 = some (.invokevirtual 112, 17) := by decide +kernel
theorem d59_17 : cod 59 17 = some (.istore_n 3, 18) := by decide +kernel
theorem d59_18 : cod 59 18 = some (.iload_n 1, 19) := by decide +kernel
theorem d59_19 : cod 59 19 = some (.iload_n 3, 20) := by decide +kernel
theorem d59_20 : cod 59 20 = some (.iconst (-1), 21) := by decide +kernel
theorem d59_21 : cod 59 21 = some (.if_icmp .ne 7, 24) := by decide +kernel
theorem d59_24 : cod 59 24 = some (.iconst 0, 25) := by decide +kernel
theorem d59_25 : cod 59 25 = some (.goto 4, 28) := by decide +kernel
theorem d59_28 : cod 59 28 = some (.iload_n 3, 29) := by decide +kernel
theorem d59_29 : cod 59 29 = some (.iadd, 30) := by decide +kernel
theorem d59_30 : cod 59 30 = some (.istore_n 1, 31) := by decide +kernel
theorem d59_31 : cod 59 31 = some (.iinc 2 1, 34) := by decide +kernel
theorem d59_34 : cod 59 34 = some (.goto (-30), 37) := by decide +kernel
theorem d59_37 : cod 59 37 = some (.aload_n 0, 38) := by decide +kernel
theorem d59_38 : cod 59 38 = some (.invokevirtual 116, 41) := by decide +kernel
theorem d59_41 : cod 59 41 = some (.iload_n 1, 42) := by decide +kernel
theorem d59_42 : cod 59 42 = some (.isub, 43) := by decide +kernel
theorem d59_43 : cod 59 43 = some (.ireturn, 44) := by decide +kernel
theorem d60_0 : cod 60 0 = some (.aload_n 0, 1) := by decide +kernel
theorem d60_1 : cod 60 1 = some (.iload_n 1, 2) := by decide +kernel
theorem d60_2 : cod 60 2 = some (.iconst (-1), 3) := by decide +kernel
theorem d60_3 : cod 60 3 = some (.invokevirtual 125, 6) := by decide +kernel
theorem d60_6 : cod 60 6 = some (.istore_n 2, 7) := by decide +kernel
theorem d60_7 : cod 60 7 = some (.iload_n 2, 8) := by decide +kernel
theorem d60_8 : cod 60 8 = some (.iconst (-1), 9) := by decide +kernel
theorem d60_9 : cod 60 9 = some (.if_icmp .ne 5, 12) := by decide +kernel
theorem d60_12 : cod 60 12 = some (.iconst (-1), 13) := by decide +kernel
theorem d60_13 : cod 60 13 = some (.ireturn, 14) := by decide +kernel
theorem d60_14 : cod 60 14 = some (.aload_n 0, 15) := by decide +kernel
theorem d60_15 : cod 60 15 = some (.iload_n 1, 16) := by decide +kernel
theorem d60_16 : cod 60 16 = some (.aload_n 0, 17) := by decide +kernel
theorem d60_17 : cod 60 17 = some (.getfield 25, 20) := by decide +kernel
theorem d60_20 : cod 60 20 = some (.iload_n 2, 21) := by decide +kernel
theorem d60_21 : cod 60 21 = some (.invokevirtual 79, 24) := by decide +kernel
theorem d60_24 : cod 60 24 = some (.checkcast 50, 27) := by decide +kernel
theorem d60_27 : cod 60 27 = some (.getfield 119, 30) := by decide +kernel
theorem d60_30 : cod 60 30 = some (.invokevirtual 125, 33) := by decide +kernel
theorem d60_33 : cod 60 33 = some (.istore_n 3, 34) := by decide +kernel
theorem d60_34 : cod 60 34 = some (.iload_n 3, 35) := by decide +kernel
theorem d60_35 : cod 60 35 = some (.iconst (-1), 36) := by decide +kernel
theorem d60_36 : cod 60 36 = some (.if_icmp .ne 14, 39) := by decide +kernel
theorem d60_39 : cod 60 39 = some (.aload_n 0, 40) := by decide +kernel
theorem d60_40 : cod 60 40 = some (.getfield 19, 43) := by decide +kernel
theorem d60_43 : cod 60 43 = some (.iload_n 1, 44) := by decide +kernel
theorem d60_44 : cod 60 44 = some (.iaload, 45) := by decide +kernel
theorem d60_45 : cod 60 45 = some (.iconst 1, 46) := by decide +kernel
theorem d60_46 : cod 60 46 = some (.invokestatic 129, 49) := by decide +kernel
theorem d60_49 : cod 60 49 = some (.ireturn, 50) := by decide +kernel
theorem d60_50 : cod 60 50 = some (.aload_n 0, 51) := by decide +kernel
theorem d60_51 : cod 60 51 = some (.getfield 25, 54) := by decide +kernel
theorem d60_54 : cod 60 54 = some (.iload_n 3, 55) := by decide +kernel
theorem d60_55 : cod 60 55 = some (.invokevirtual 79, 58) := by decide +kernel
theorem d60_58 : cod 60 58 = some (.checkcast 50, 61) := by decide +kernel
theorem d60_61 : cod 60 61 = some (.getfield 95, 64) := by decide +kernel
theorem d60_64 : cod 60 64 = some (.istore 4, 66) := by decide +kernel
theorem d60_66 : cod 60 66 = some (.iload 4, 68) := by decide +kernel
theorem d60_68 : cod 60 68 = some (.iload 4, 70) := by decide +kernel
theorem d60_70 : cod 60 70 = some (.invokestatic 134, 73) := by decide +kernel
theorem d60_73 : cod 60 73 = some (.iadd, 74) := by decide +kernel
theorem d60_74 : cod 60 74 = some (.aload_n 0, 75) := by decide +kernel
theorem d60_75 : cod 60 75 = some (.getfield 25, 78) := by decide +kernel
theorem d60_78 : cod 60 78 = some (.iload_n 2, 79) := by decide +kernel
theorem d60_79 : cod 60 79 = some (.invokevirtual 79, 82) := by decide +kernel
theorem d60_82 : cod 60 82 = some (.checkcast 50, 85) := by decide +kernel
theorem d60_85 : cod 60 85 = some (.getfield 95, 88) := by decide +kernel
theorem d60_88 : cod 60 88 = some (.invokestatic 137, 91) := by decide +kernel
theorem d60_91 : cod 60 91 = some (.ireturn, 92) := by decide +kernel
theorem d61_0 : cod 61 0 = some (.iconst (-1), 1) := by decide +kernel
theorem d61_1 : cod 61 1 = some (.istore_n 3, 2) := by decide +kernel
theorem d61_2 : cod 61 2 = some (.iconst 0, 3) := by decide +kernel
theorem d61_3 : cod 61 3 = some (.istore 4, 5) := by decide +kernel
theorem d61_5 : cod 61 5 = some (.iload 4, 7) := by decide +kernel
theorem d61_7 : cod 61 7 = some (.aload_n 0, 8) := by decide +kernel
theorem d61_8 : cod 61 8 = some (.getfield 25, 11) := by decide +kernel
theorem d61_11 : cod 61 11 = some (.invokevirtual 59, 14) := by decide +kernel
theorem d61_14 : cod 61 14 = some (.if_icmp .ge 94, 17) := by decide +kernel
theorem d61_17 : cod 61 17 = some (.aload_n 0, 18) := by decide +kernel
theorem d61_18 : cod 61 18 = some (.getfield 25, 21) := by decide +kernel
theorem d61_21 : cod 61 21 = some (.iload 4, 23) := by decide +kernel
theorem d61_23 : cod 61 23 = some (.invokevirtual 79, 26) := by decide +kernel
theorem d61_26 : cod 61 26 = some (.checkcast 50, 29) := by decide +kernel
theorem d61_29 : cod 61 29 = some (.astore 5, 31) := by decide +kernel
theorem d61_31 : cod 61 31 = some (.aload 5, 33) := by decide +kernel
theorem d61_33 : cod 61 33 = some (.getfield 94, 36) := by decide +kernel
theorem d61_36 : cod 61 36 = some (.iconst 1, 37) := by decide +kernel
theorem d61_37 : cod 61 37 = some (.iload_n 1, 38) := by decide +kernel
theorem d61_38 : cod 61 38 = some (.ishl, 39) := by decide +kernel
theorem d61_39 : cod 61 39 = some (.if_icmp .ne 25, 42) := by decide +kernel
theorem d61_42 : cod 61 42 = some (.aload 5, 44) := by decide +kernel
theorem d61_44 : cod 61 44 = some (.getfield 119, 47) := by decide +kernel
theorem d61_47 : cod 61 47 = some (.iload_n 2, 48) := by decide +kernel
theorem d61_48 : cod 61 48 = some (.if_icmp .eq 16, 51) := by decide +kernel
theorem d61_51 : cod 61 51 = some (.aload_n 0, 52) := by decide +kernel
theorem d61_52 : cod 61 52 = some (.iload 4, 54) := by decide +kernel
theorem d61_54 : cod 61 54 = some (.invokevirtual 122, 57) := by decide +kernel
theorem d61_57 : cod 61 57 = some (.ifCond .eq 7, 60) := by decide +kernel
theorem d61_60 : cod 61 60 = some (.iconst 1, 61) := by decide +kernel
theorem d61_61 : cod 61 61 = some (.goto 4, 64) := by decide +kernel
theorem d61_64 : cod 61 64 = some (.iconst 0, 65) := by decide +kernel
theorem d61_65 : cod 61 65 = some (.istore 6, 67) := by decide +kernel
theorem d61_67 : cod 61 67 = some (.iload 6, 69) := by decide +kernel
theorem d61_69 : cod 61 69 = some (.ifCond .eq 33, 72) := by decide +kernel
theorem d61_72 : cod 61 72 = some (.iload_n 3, 73) := by decide +kernel
theorem d61_73 : cod 61 73 = some (.iconst (-1), 74) := by decide +kernel
theorem d61_74 : cod 61 74 = some (.if_icmp .eq 25, 77) := by decide +kernel
theorem d61_77 : cod 61 77 = some (.aload 5, 79) := by decide +kernel
theorem d61_79 : cod 61 79 = some (.getfield 95, 82) := by decide +kernel
theorem d61_82 : cod 61 82 = some (.aload_n 0, 83) := by decide +kernel
theorem d61_83 : cod 61 83 = some (.getfield 25, 86) := by decide +kernel
theorem d61_86 : cod 61 86 = some (.iload_n 3, 87) := by decide +kernel
theorem d61_87 : cod 61 87 = some (.invokevirtual 79, 90) := by decide +kernel
theorem d61_90 : cod 61 90 = some (.checkcast 50, 93) := by decide +kernel
theorem d61_93 : cod 61 93 = some (.getfield 95, 96) := by decide +kernel
theorem d61_96 : cod 61 96 = some (.if_icmp .le 6, 99) := by decide +kernel
theorem d61_99 : cod 61 99 = some (.iload 4, 101) := by decide +kernel
theorem d61_101 : cod 61 101 = some (.istore_n 3, 102) := by decide +kernel
theorem d61_102 : cod 61 102 = some (.iinc 4 1, 105) := by decide +kernel
theorem d61_105 : cod 61 105 = some (.goto (-100), 108) := by decide +kernel
theorem d61_108 : cod 61 108 = some (.iload_n 3, 109) := by decide +kernel
theorem d61_109 : cod 61 109 = some (.ireturn, 110) := by decide +kernel
theorem d62_0 : cod 62 0 = some (.aload_n 0, 1) := by decide +kernel
theorem d62_1 : cod 62 1 = some (.getfield 75, 4) := by decide +kernel
theorem d62_4 : cod 62 4 = some (.iload_n 1, 5) := by decide +kernel
theorem d62_5 : cod 62 5 = some (.lshr, 6) := by decide +kernel
theorem d62_6 : cod 62 6 = some (.lconst 1, 7) := by decide +kernel
theorem d62_7 : cod 62 7 = some (.land, 8) := by decide +kernel
theorem d62_8 : cod 62 8 = some (.lconst 0, 9) := by decide +kernel
theorem d62_9 : cod 62 9 = some (.lcmp, 10) := by decide +kernel
theorem d62_10 : cod 62 10 = some (.ifCond .eq 7, 13) := by decide +kernel
theorem d62_13 : cod 62 13 = some (.iconst 1, 14) := by decide +kernel
theorem d62_14 : cod 62 14 = some (.goto 4, 17) := by decide +kernel
theorem d62_17 : cod 62 17 = some (.iconst 0, 18) := by decide +kernel
theorem d62_18 : cod 62 18 = some (.ireturn, 19) := by decide +kernel
theorem d63_0 : cod 63 0 = some (.iload_n 0, 1) := by decide +kernel
theorem d63_1 : cod 63 1 = some (.bipush 20, 3) := by decide +kernel
theorem d63_3 : cod 63 3 = some (.if_icmp .ge 5, 6) := by decide +kernel
theorem d63_6 : cod 63 6 = some (.iconst 1, 7) := by decide +kernel
theorem d63_7 : cod 63 7 = some (.ireturn, 8) := by decide +kernel
theorem d63_8 : cod 63 8 = some (.iload_n 0, 9) := by decide +kernel
theorem d63_9 : cod 63 9 = some (.bipush 100, 11) := by decide +kernel
theorem d63_11 : cod 63 11 = some (.if_icmp .ge 5, 14) := by decide +kernel
theorem d63_14 : cod 63 14 = some (.iconst 5, 15) := by decide +kernel
theorem d63_15 : cod 63 15 = some (.ireturn, 16) := by decide +kernel
theorem d63_16 : cod 63 16 = some (.iload_n 0, 17) := by decide +kernel
theorem d63_17 : cod 63 17 = some (.sipush 500, 20) := by decide +kernel
theorem d63_20 : cod 63 20 = some (.if_icmp .ge 8, 23) := by decide +kernel
theorem d63_23 : cod 63 23 = some (.bipush 10, 25) := by decide +kernel
theorem d63_25 : cod 63 25 = some (.goto 5, 28) := by decide +kernel
theorem d63_28 : cod 63 28 = some (.bipush 50, 30) := by decide +kernel
theorem d63_30 : cod 63 30 = some (.ireturn, 31) := by decide +kernel
theorem d64_0 : cod 64 0 = some (.aload_n 0, 1) := by decide +kernel
theorem d64_1 : cod 64 1 = some (.getfield 75, 4) := by decide +kernel
theorem d64_4 : cod 64 4 = some (.invokestatic 106, 7) := by decide +kernel
theorem d64_7 : cod 64 7 = some (.ireturn, 8) := by decide +kernel
theorem d65_0 : cod 65 0 = some (.aload_n 0, 1) := by decide +kernel
theorem d65_1 : cod 65 1 = some (.iload_n 1, 2) := by decide +kernel
theorem d65_2 : cod 65 2 = some (.iconst (-1), 3) := by decide +kernel
theorem d65_3 : cod 65 3 = some (.invokevirtual 125, 6) := by decide +kernel
theorem d65_6 : cod 65 6 = some (.istore_n 2, 7) := by decide +kernel
theorem d65_7 : cod 65 7 = some (.iload_n 2, 8) := by decide +kernel
theorem d65_8 : cod 65 8 = some (.iconst (-1), 9) := by decide +kernel
theorem d65_9 : cod 65 9 = some (.if_icmp .ne 7, 12) := by decide +kernel
theorem d65_12 : cod 65 12 = some (.iconst (-1), 13) := by decide +kernel
theorem d65_13 : cod 65 13 = some (.goto 17, 16) := by decide +kernel
theorem d65_16 : cod 65 16 = some (.aload_n 0, 17) := by decide +kernel
theorem d65_17 : cod 65 17 = some (.getfield 25, 20) := by decide +kernel
theorem d65_20 : cod 65 20 = some (.iload_n 2, 21) := by decide +kernel
theorem d65_21 : cod 65 21 = some (.invokevirtual 79, 24) := by decide +kernel
theorem d65_24 : cod 65 24 = some (.checkcast 50, 27) := by decide +kernel
theorem d65_27 : cod 65 27 = some (.getfield 119, 30) := by decide +kernel
theorem d65_30 : cod 65 30 = some (.ireturn, 31) := by decide +kernel
theorem d66_0 : cod 66 0 = some (.iconst 0, 1) := by decide +kernel
theorem d66_1 : cod 66 1 = some (.istore_n 1, 2) := by decide +kernel
theorem d66_2 : cod 66 2 = some (.iconst 0, 3) := by decide +kernel
theorem d66_3 : cod 66 3 = some (.istore_n 2, 4) := by decide +kernel
theorem d66_4 : cod 66 4 = some (.iload_n 2, 5) := by decide +kernel
theorem d66_5 : cod 66 5 = some (.aload_n 0, 6) := by decide +kernel
theorem d66_6 : cod 66 6 = some (.getfield 25, 9) := by decide +kernel
theorem d66_9 : cod 66 9 = some (.invokevirtual 59, 12) := by decide +kernel
theorem d66_12 : cod 66 12 = some (.if_icmp .ge 55, 15) := by decide +kernel
theorem d66_15 : cod 66 15 = some (.aload_n 0, 16) := by decide +kernel
theorem d66_16 : cod 66 16 = some (.iload_n 2, 17) := by decide +kernel
theorem d66_17 : cod 66 17 = some (.invokevirtual 102, 20) := by decide +kernel
theorem d66_20 : cod 66 20 = some (.ifCond .eq 41, 23) := by decide +kernel
theorem d66_23 : cod 66 23 = some (.iload_n 1, 24) := by decide +kernel
theorem d66_24 : cod 66 24 = some (.aload_n 0, 25) := by decide +kernel
theorem d66_25 : cod 66 25 = some (.getfield 25, 28) := by decide +kernel
theorem d66_28 : cod 66 28 = some (.iload_n 2, 29) := by decide +kernel
theorem d66_29 : cod 66 29 = some (.invokevirtual 79, 32) := by decide +kernel
theorem d66_32 : cod 66 32 = some (.checkcast 50, 35) := by decide +kernel
theorem d66_35 : cod 66 35 = some (.getfield 94, 38) := by decide +kernel
theorem d66_38 : cod 66 38 = some (.iand, 39) := by decide +kernel
theorem d66_39 : cod 66 39 = some (.ifCond .eq 5, 42) := by decide +kernel
theorem d66_42 : cod 66 42 = some (.iconst 0, 43) := by decide +kernel
theorem d66_43 : cod 66 43 = some (.ireturn, 44) := by decide +kernel
theorem d66_44 : cod 66 44 = some (.iload_n 1, 45) := by decide +kernel
theorem d66_45 : cod 66 45 = some (.aload_n 0, 46) := by decide +kernel
theorem d66_46 : cod 66 46 = some (.getfield 25, 49) := by decide +kernel
theorem d66_49 : cod 66 49 = some (.iload_n 2, 50) := by decide +kernel
theorem d66_50 : cod 66 50 = some (.invokevirtual 79, 53) := by decide +kernel
theorem d66_53 : cod 66 53 = some (.checkcast 50, 56) := by decide +kernel
theorem d66_56 : cod 66 56 = some (.getfield 94, 59) := by decide +kernel
theorem d66_59 : cod 66 59 = some (.ior, 60) := by decide +kernel
theorem d66_60 : cod 66 60 = some (.istore_n 1, 61) := by decide +kernel
theorem d66_61 : cod 66 61 = some (.iinc 2 1, 64) := by decide +kernel
theorem d66_64 : cod 66 64 = some (.goto (-60), 67) := by decide +kernel
theorem d66_67 : cod 66 67 = some (.iconst 1, 68) := by decide +kernel
theorem d66_68 : cod 66 68 = some (.ireturn, 69) := by decide +kernel
theorem d67_0 : cod 67 0 = some (.aload_n 0, 1) := by decide +kernel
theorem d67_1 : cod 67 1 = some (.invokespecial 3, 4) := by decide +kernel
theorem d67_4 : cod 67 4 = some (.aload_n 0, 5) := by decide +kernel
theorem d67_5 : cod 67 5 = some (.iconst 3, 6) := by decide +kernel
theorem d67_6 : cod 67 6 = some (.anewarray 9, 9) := by decide +kernel
theorem d67_9 : cod 67 9 = some (.putfield 11, 12) := by decide +kernel
theorem d67_12 : cod 67 12 = some (.aload_n 0, 13) := by decide +kernel
theorem d67_13 : cod 67 13 = some (.bipush 8, 15) := by decide +kernel
theorem d67_15 : cod 67 15 = some (.putfield 17, 18) := by decide +kernel
theorem d67_18 : cod 67 18 = some (.aload_n 0, 19) := by decide +kernel
theorem d67_19 : cod 67 19 = some (.sipush 255, 22) := by decide +kernel
theorem d67_22 : cod 67 22 = some (.putfield 21, 25) := by decide +kernel
theorem d67_25 : cod 67 25 = some (.aload_n 0, 26) := by decide +kernel
theorem d67_26 : cod 67 26 = some (.iconst 3, 27) := by decide +kernel
theorem d67_27 : cod 67 27 = some (.newarray .int, 29) := by decide +kernel
theorem d67_29 : cod 67 29 = some (.putfield 24, 32) := by decide +kernel
theorem d67_32 : cod 67 32 = some (.aload_n 0, 33) := by decide +kernel
theorem d67_33 : cod 67 33 = some (.iconst 3, 34) := by decide +kernel
theorem d67_34 : cod 67 34 = some (.newarray .int, 36) := by decide +kernel
theorem d67_36 : cod 67 36 = some (.putfield 28, 39) := by decide +kernel
theorem d67_39 : cod 67 39 = some (.aload_n 0, 40) := by decide +kernel
theorem d67_40 : cod 67 40 = some (.iconst 3, 41) := by decide +kernel
theorem d67_41 : cod 67 41 = some (.newarray .int, 43) := by decide +kernel
theorem d67_43 : cod 67 43 = some (.putfield 31, 46) := by decide +kernel
theorem d67_46 : cod 67 46 = some (.return_, 47) := by decide +kernel
theorem d68_0 : cod 68 0 = some (.aload_n 0, 1) := by decide +kernel
theorem d68_1 : cod 68 1 = some (.iconst 0, 2) := by decide +kernel
theorem d68_2 : cod 68 2 = some (.putfield 34, 5) := by decide +kernel
theorem d68_5 : cod 68 5 = some (.aload_n 0, 6) := by decide +kernel
theorem d68_6 : cod 68 6 = some (.invokevirtual 37, 9) := by decide +kernel
theorem d68_9 : cod 68 9 = some (.return_, 10) := by decide +kernel
theorem d69_0 : cod 69 0 = some (.aload_n 0, 1) := by decide +kernel
theorem d69_1 : cod 69 1 = some (.getfield 24, 4) := by decide +kernel
theorem d69_4 : cod 69 4 = some (.iconst 0, 5) := by decide +kernel
theorem d69_5 : cod 69 5 = some (.invokestatic 43, 8) := by decide +kernel
theorem d69_8 : cod 69 8 = some (.aload_n 0, 9) := by decide +kernel
theorem d69_9 : cod 69 9 = some (.getfield 34, 12) := by decide +kernel
theorem d69_12 : cod 69 12 = some (.ifCond .ne 22, 15) := by decide +kernel
theorem d69_15 : cod 69 15 = some (.aload_n 0, 16) := by decide +kernel
theorem d69_16 : cod 69 16 = some (.bipush 8, 18) := by decide +kernel
theorem d69_18 : cod 69 18 = some (.putfield 17, 21) := by decide +kernel
theorem d69_21 : cod 69 21 = some (.aload_n 0, 22) := by decide +kernel
theorem d69_22 : cod 69 22 = some (.sipush 255, 25) := by decide +kernel
theorem d69_25 : cod 69 25 = some (.putfield 21, 28) := by decide +kernel
theorem d69_28 : cod 69 28 = some (.aload_n 0, 29) := by decide +kernel
theorem d69_29 : cod 69 29 = some (.iconst 0, 30) := by decide +kernel
theorem d69_30 : cod 69 30 = some (.putfield 49, 33) := by decide +kernel
theorem d69_33 : cod 69 33 = some (.return_, 34) := by decide +kernel
theorem d69_34 : cod 69 34 = some (.aload_n 0, 35) := by decide +kernel
theorem d69_35 : cod 69 35 = some (.iconst 0, 36) := by decide +kernel
theorem d69_36 : cod 69 36 = some (.putfield 17, 39) := by decide +kernel
theorem d69_39 : cod 69 39 = some (.aload_n 0, 40) := by decide +kernel
theorem d69_40 : cod 69 40 = some (.iconst 0, 41) := by decide +kernel
theorem d69_41 : cod 69 41 = some (.putfield 21, 44) := by decide +kernel
theorem d69_44 : cod 69 44 = some (.aload_n 0, 45) := by decide +kernel
theorem d69_45 : cod 69 45 = some (.iconst (-1), 46) := by decide +kernel
theorem d69_46 : cod 69 46 = some (.putfield 49, 49) := by decide +kernel
theorem d69_49 : cod 69 49 = some (.iconst 0, 50) := by decide +kernel
theorem d69_50 : cod 69 50 = some (.istore_n 1, 51) := by decide +kernel
theorem d69_51 : cod 69 51 = some (.iload_n 1, 52) := by decide +kernel
theorem d69_52 : cod 69 52 = some (.bipush 8, 54) := by decide +kernel
theorem d69_54 : cod 69 54 = some (.if_icmp .ge 31, 57) := by decide +kernel
theorem d69_57 : cod 69 57 = some (.aload_n 0, 58) := by decide +kernel
theorem d69_58 : cod 69 58 = some (.iconst 0, 59) := by decide +kernel
theorem d69_59 : cod 69 59 = some (.iload_n 1, 60) := by decide +kernel
theorem d69_60 : cod 69 60 = some (.iconst 0, 61) := by decide +kernel
theorem d69_61 : cod 69 61 = some (.invokevirtual 52, 64) := by decide +kernel
theorem d69_64 : cod 69 64 = some (.ifCond .eq 15, 67) := by decide +kernel
theorem d69_67 : cod 69 67 = some (.aload_n 0, 68) := by decide +kernel
theorem d69_68 : cod 69 68 = some (.dup, 69) := by decide +kernel
theorem d69_69 : cod 69 69 = some (.getfield 21, 72) := by decide +kernel
theorem d69_72 : cod 69 72 = some (.iconst 1, 73) := by decide +kernel
theorem d69_73 : cod 69 73 = some (.iload_n 1, 74) := by decide +kernel
theorem d69_74 : cod 69 74 = some (.ishl, 75) := by decide +kernel
theorem d69_75 : cod 69 75 = some (.ior, 76) := by decide +kernel
theorem d69_76 : cod 69 76 = some (.putfield 21, 79) := by decide +kernel
theorem d69_79 : cod 69 79 = some (.iinc 1 1, 82) := by decide +kernel
theorem d69_82 : cod 69 82 = some (.goto (-31), 85) := by decide +kernel
theorem d69_85 : cod 69 85 = some (.aload_n 0, 86) := by decide +kernel
theorem d69_86 : cod 69 86 = some (.getfield 17, 89) := by decide +kernel
theorem d69_89 : cod 69 89 = some (.ifCond .ne 8, 92) := by decide +kernel
theorem d69_92 : cod 69 92 = some (.aload_n 0, 93) := by decide +kernel
theorem d69_93 : cod 69 93 = some (.iconst 0, 94) := by decide +kernel
theorem d69_94 : cod 69 94 = some (.putfield 49, 97) := by decide +kernel
theorem d69_97 : cod 69 97 = some (.return_, 98) := by decide +kernel
theorem d70_0 : cod 70 0 = some (.iload_n 1, 1) := by decide +kernel
theorem d70_1 : cod 70 1 = some (.aload_n 0, 2) := by decide +kernel
theorem d70_2 : cod 70 2 = some (.getfield 34, 5) := by decide +kernel
theorem d70_5 : cod 70 5 = some (.if_icmp .lt 5, 8) := by decide +kernel
theorem d70_8 : cod 70 8 = some (.iconst 0, 9) := by decide +kernel
theorem d70_9 : cod 70 9 = some (.ireturn, 10) := by decide +kernel
theorem d70_10 : cod 70 10 = some (.aload_n 0, 11) := by decide +kernel
theorem d70_11 : cod 70 11 = some (.getfield 11, 14) := by decide +kernel
theorem d70_14 : cod 70 14 = some (.iload_n 1, 15) := by decide +kernel
theorem d70_15 : cod 70 15 = some (.aaload, 16) := by decide +kernel
theorem d70_16 : cod 70 16 = some (.astore 4, 18) := by decide +kernel
theorem d70_18 : cod 70 18 = some (.aload 4, 20) := by decide +kernel
theorem d70_20 : cod 70 20 = some (.getfield 56, 23) := by decide +kernel
theorem d70_23 : cod 70 23 = some (.iload_n 2, 24) := by decide +kernel
theorem d70_24 : cod 70 24 = some (.iaload, 25) := by decide +kernel
theorem d70_25 : cod 70 25 = some (.aload 4, 27) := by decide +kernel
theorem d70_27 : cod 70 27 = some (.iload_n 3, 28) := by decide +kernel
theorem d70_28 : cod 70 28 = some (.invokevirtual 59, 31) := by decide +kernel
theorem d70_31 : cod 70 31 = some (.iconst (-1), 32) := by decide +kernel
theorem d70_32 : cod 70 32 = some (.ixor, 33) := by decide +kernel
theorem d70_33 : cod 70 33 = some (.iand, 34) := by decide +kernel
theorem d70_34 : cod 70 34 = some (.istore 5, 36) := by decide +kernel
theorem d70_36 : cod 70 36 = some (.iload_n 1, 37) := by decide +kernel
theorem d70_37 : cod 70 37 = some (.aload_n 0, 38) := by decide +kernel
theorem d70_38 : cod 70 38 = some (.getfield 34, 41) := by decide +kernel
theorem d70_41 : cod 70 41 = some (.iconst 1, 42) := by decide +kernel
theorem d70_42 : cod 70 42 = some (.isub, 43) := by decide +kernel
theorem d70_43 : cod 70 43 = some (.if_icmp .ne 11, 46) := by decide +kernel
theorem d70_46 : cod 70 46 = some (.aload_n 0, 47) := by decide +kernel
theorem d70_47 : cod 70 47 = some (.iload 5, 49) := by decide +kernel
theorem d70_49 : cod 70 49 = some (.iload_n 3, 50) := by decide +kernel
theorem d70_50 : cod 70 50 = some (.invokevirtual 63, 53) := by decide +kernel
theorem d70_53 : cod 70 53 = some (.ireturn, 54) := by decide +kernel
theorem d70_54 : cod 70 54 = some (.iconst 0, 55) := by decide +kernel
theorem d70_55 : cod 70 55 = some (.istore 6, 57) := by decide +kernel
theorem d70_57 : cod 70 57 = some (.iconst 0, 58) := by decide +kernel
theorem d70_58 : cod 70 58 = some (.istore 7, 60) := by decide +kernel
theorem d70_60 : cod 70 60 = some (.iload 7, 62) := by decide +kernel
theorem d70_62 : cod 70 62 = some (.bipush 24, 64) := by decide +kernel
theorem d70_64 : cod 70 64 = some (.if_icmp .ge 63, 67) := by decide +kernel
theorem d70_67 : cod 70 67 = some (.iload 7, 69) := by decide +kernel
theorem d70_69 : cod 70 69 = some (.iload 5, 71) := by decide +kernel
theorem d70_71 : cod 70 71 = some (.invokestatic 67, 74) := by decide +kernel
theorem d70_74 : cod 70 74 = some (.ifCond .eq 47, 77) := by decide +kernel
theorem d70_77 : cod 70 77 = some (.aload_n 0, 78) := by decide +kernel
theorem d70_78 : cod 70 78 = some (.getfield 31, 81) := by decide +kernel
theorem d70_81 : cod 70 81 = some (.iload_n 1, 82) := by decide +kernel
theorem d70_82 : cod 70 82 = some (.iload 7, 84) := by decide +kernel
theorem d70_84 : cod 70 84 = some (.iastore, 85) := by decide +kernel
theorem d70_85 : cod 70 85 = some (.aload_n 0, 86) := by decide +kernel
theorem d70_86 : cod 70 86 = some (.iload_n 1, 87) := by decide +kernel
theorem d70_87 : cod 70 87 = some (.iconst 1, 88) := by decide +kernel
theorem d70_88 : cod 70 88 = some (.iadd, 89) := by decide +kernel
theorem d70_89 : cod 70 89 = some (.iload_n 2, 90) := by decide +kernel
theorem d70_90 : cod 70 90 = some (.iload_n 3, 91) := by decide +kernel
theorem d70_91 : cod 70 91 = some (.aload 4, 93) := by decide +kernel
theorem d70_93 : cod 70 93 = some (.iload 7, 95) := by decide +kernel
theorem d70_95 : cod 70 95 = some (.invokevirtual 70, 98) := by decide +kernel
theorem d70_98 : cod 70 98 = some (.ior, 99) := by decide +kernel
theorem d70_99 : cod 70 99 = some (.invokevirtual 52, 102) := by decide +kernel
theorem d70_102 : cod 70 102 = some (.ifCond .eq 19, 105) := by decide +kernel
theorem d70_105 : cod 70 105 = some (.aload_n 0, 106) := by decide +kernel
theorem d70_106 : cod 70 106 = some (.getfield 24, 109) := by decide +kernel
theorem d70_109 : cod 70 109 = some (.iload_n 1, 110) := by decide +kernel
theorem d70_110 : cod 70 110 = some (.dup2, 111) := by decide +kernel
theorem d70_111 : cod 70 111 = some (.iaload, 112) := by decide +kernel
theorem d70_112 : cod 70 112 = some (.iconst 1, 113) := by decide +kernel
theorem d70_113 : cod 70 113 = some (.iload 7, 115) := by decide +kernel
theorem d70_115 : cod 70 115 = some (.ishl, 116) := by decide +kernel
theorem d70_116 : cod 70 116 = some (.ior, 117) := by decide +kernel
theorem d70_117 : cod 70 117 = some (.iastore, 118) := by decide +kernel
theorem d70_118 : cod 70 118 = some (.iconst 1, 119) := by decide +kernel
theorem d70_119 : cod 70 119 = some (.istore 6, 121) := by decide +kernel
theorem d70_121 : cod 70 121 = some (.iinc 7 1, 124) := by decide +kernel
theorem d70_124 : cod 70 124 = some (.goto (-64), 127) := by decide +kernel
theorem d70_127 : cod 70 127 = some (.iload 6, 129) := by decide +kernel
theorem d70_129 : cod 70 129 = some (.ireturn, 130) := by decide +kernel
theorem d71_0 : cod 71 0 = some (.iload_n 1, 1) := by decide +kernel
theorem d71_1 : cod 71 1 = some (.ifCond .ne 5, 4) := by decide +kernel
theorem d71_4 : cod 71 4 = some (.iconst 0, 5) := by decide +kernel
theorem d71_5 : cod 71 5 = some (.ireturn, 6) := by decide +kernel
theorem d71_6 : cod 71 6 = some (.aload_n 0, 7) := by decide +kernel
theorem d71_7 : cod 71 7 = some (.getfield 34, 10) := by decide +kernel
theorem d71_10 : cod 71 10 = some (.iconst 1, 11) := by decide +kernel
theorem d71_11 : cod 71 11 = some (.isub, 12) := by decide +kernel
theorem d71_12 : cod 71 12 = some (.istore_n 3, 13) := by decide +kernel
theorem d71_13 : cod 71 13 = some (.aload_n 0, 14) := by decide +kernel
theorem d71_14 : cod 71 14 = some (.getfield 17, 17) := by decide +kernel
theorem d71_17 : cod 71 17 = some (.ifCond .ne 30, 20) := by decide +kernel
theorem d71_20 : cod 71 20 = some (.aload_n 0, 21) := by decide +kernel
theorem d71_21 : cod 71 21 = some (.getfield 31, 24) := by decide +kernel
theorem d71_24 : cod 71 24 = some (.iload_n 3, 25) := by decide +kernel
theorem d71_25 : cod 71 25 = some (.iload_n 1, 26) := by decide +kernel
theorem d71_26 : cod 71 26 = some (.invokestatic 73, 29) := by decide +kernel
theorem d71_29 : cod 71 29 = some (.iastore, 30) := by decide +kernel
theorem d71_30 : cod 71 30 = some (.aload_n 0, 31) := by decide +kernel
theorem d71_31 : cod 71 31 = some (.getfield 31, 34) := by decide +kernel
theorem d71_34 : cod 71 34 = some (.iconst 0, 35) := by decide +kernel
theorem d71_35 : cod 71 35 = some (.aload_n 0, 36) := by decide +kernel
theorem d71_36 : cod 71 36 = some (.getfield 28, 39) := by decide +kernel
theorem d71_39 : cod 71 39 = some (.iconst 0, 40) := by decide +kernel
theorem d71_40 : cod 71 40 = some (.aload_n 0, 41) := by decide +kernel
theorem d71_41 : cod 71 41 = some (.getfield 34, 44) := by decide +kernel
theorem d71_44 : cod 71 44 = some (.invokestatic 76, 47) := by decide +kernel
theorem d71_47 : cod 71 47 = some (.aload_n 0, 48) := by decide +kernel
theorem d71_48 : cod 71 48 = some (.dup, 49) := by decide +kernel
theorem d71_49 : cod 71 49 = some (.getfield 17, 52) := by decide +kernel
theorem d71_52 : cod 71 52 = some (.iload_n 1, 53) := by decide +kernel
theorem d71_53 : cod 71 53 = some (.invokestatic 82, 56) := by decide +kernel
theorem d71_56 : cod 71 56 = some (.iadd, 57) := by decide +kernel
theorem d71_57 : cod 71 57 = some (.putfield 17, 60) := by decide +kernel
theorem d71_60 : cod 71 60 = some (.aload_n 0, 61) := by decide +kernel
theorem d71_61 : cod 71 61 = some (.getfield 24, 64) := by decide +kernel
theorem d71_64 : cod 71 64 = some (.iload_n 3, 65) := by decide +kernel
theorem d71_65 : cod 71 65 = some (.dup2, 66) := by decide +kernel
theorem d71_66 : cod 71 66 = some (.iaload, 67) := by decide +kernel
theorem d71_67 : cod 71 67 = some (.iload_n 1, 68) := by decide +kernel
theorem d71_68 : cod 71 68 = some (.ior, 69) := by decide +kernel
theorem d71_69 : cod 71 69 = some (.iastore, 70) := by decide +kernel
theorem d71_70 : cod 71 70 = some (.aload_n 0, 71) := by decide +kernel
theorem d71_71 : cod 71 71 = some (.dup, 72) := by decide +kernel
theorem d71_72 : cod 71 72 = some (.getfield 49, 75) := by decide +kernel
theorem d71_75 : cod 71 75 = some (.iload_n 2, 76) := by decide +kernel
theorem d71_76 : cod 71 76 = some (.aload_n 0, 77) := by decide +kernel
theorem d71_77 : cod 71 77 = some (.getfield 11, 80) := by decide +kernel
theorem d71_80 : cod 71 80 = some (.iload_n 3, 81) := by decide +kernel
theorem d71_81 : cod 71 81 = some (.aaload, 82) := by decide +kernel
theorem d71_82 : cod 71 82 = some (.iload_n 1, 83) := by decide +kernel
theorem d71_83 : cod 71 83 = some (.invokevirtual 87, 86) := by decide +kernel
theorem d71_86 : cod 71 86 = some (.ior, 87) := by decide +kernel
theorem d71_87 : cod 71 87 = some (.iand, 88) := by decide +kernel
theorem d71_88 : cod 71 88 = some (.putfield 49, 91) := by decide +kernel
theorem d71_91 : cod 71 91 = some (.iconst 1, 92) := by decide +kernel
theorem d71_92 : cod 71 92 = some (.ireturn, 93) := by decide +kernel
theorem d72_0 : cod 72 0 = some (.aload_n 1, 1) := by decide +kernel
theorem d72_1 : cod 72 1 = some (.aload_n 0, 2) := by decide +kernel
theorem d72_2 : cod 72 2 = some (.getfield 34, 5) := by decide +kernel
theorem d72_5 : cod 72 5 = some (.putfield 40, 8) := by decide +kernel
theorem d72_8 : cod 72 8 = some (.aload_n 0, 9) := by decide +kernel
theorem d72_9 : cod 72 9 = some (.getfield 11, 12) := by decide +kernel
theorem d72_12 : cod 72 12 = some (.aload_n 0, 13) := by decide +kernel
theorem d72_13 : cod 72 13 = some (.getfield 34, 16) := by decide +kernel
theorem d72_16 : cod 72 16 = some (.aload_n 1, 17) := by decide +kernel
theorem d72_17 : cod 72 17 = some (.aastore, 18) := by decide +kernel
theorem d72_18 : cod 72 18 = some (.aload_n 0, 19) := by decide +kernel
theorem d72_19 : cod 72 19 = some (.dup, 20) := by decide +kernel
theorem d72_20 : cod 72 20 = some (.getfield 34, 23) := by decide +kernel
theorem d72_23 : cod 72 23 = some (.iconst 1, 24) := by decide +kernel
theorem d72_24 : cod 72 24 = some (.iadd, 25) := by decide +kernel
theorem d72_25 : cod 72 25 = some (.putfield 34, 28) := by decide +kernel
theorem d72_28 : cod 72 28 = some (.return_, 29) := by decide +kernel
theorem d73_0 : cod 73 0 = some (.iconst 0, 1) := by decide +kernel
theorem d73_1 : cod 73 1 = some (.istore_n 1, 2) := by decide +kernel
theorem d73_2 : cod 73 2 = some (.iconst 0, 3) := by decide +kernel
theorem d73_3 : cod 73 3 = some (.istore_n 2, 4) := by decide +kernel
theorem d73_4 : cod 73 4 = some (.iload_n 2, 5) := by decide +kernel
theorem d73_5 : cod 73 5 = some (.aload_n 0, 6) := by decide +kernel
theorem d73_6 : cod 73 6 = some (.getfield 34, 9) := by decide +kernel
theorem d73_9 : cod 73 9 = some (.if_icmp .ge 25, 12) := by decide +kernel
theorem d73_12 : cod 73 12 = some (.aload_n 0, 13) := by decide +kernel
theorem d73_13 : cod 73 13 = some (.getfield 24, 16) := by decide +kernel
theorem d73_16 : cod 73 16 = some (.iload_n 2, 17) := by decide +kernel
theorem d73_17 : cod 73 17 = some (.iaload, 18) := by decide +kernel
theorem d73_18 : cod 73 18 = some (.invokestatic 82, 21) := by decide +kernel
theorem d73_21 : cod 73 21 = some (.iconst 1, 22) := by decide +kernel
theorem d73_22 : cod 73 22 = some (.if_icmp .ne 6, 25) := by decide +kernel
theorem d73_25 : cod 73 25 = some (.iinc 1 1, 28) := by decide +kernel
theorem d73_28 : cod 73 28 = some (.iinc 2 1, 31) := by decide +kernel
theorem d73_31 : cod 73 31 = some (.goto (-27), 34) := by decide +kernel
theorem d73_34 : cod 73 34 = some (.iload_n 1, 35) := by decide +kernel
theorem d73_35 : cod 73 35 = some (.ireturn, 36) := by decide +kernel
theorem d74_0 : cod 74 0 = some (.aload_n 0, 1) := by decide +kernel
theorem d74_1 : cod 74 1 = some (.getfield 24, 4) := by decide +kernel
theorem d74_4 : cod 74 4 = some (.aload_n 1, 5) := by decide +kernel
theorem d74_5 : cod 74 5 = some (.getfield 40, 8) := by decide +kernel
theorem d74_8 : cod 74 8 = some (.iaload, 9) := by decide +kernel
theorem d74_9 : cod 74 9 = some (.ireturn, 10) := by decide +kernel
theorem d75_0 : cod 75 0 = some (.aload_n 0, 1) := by decide +kernel
theorem d75_1 : cod 75 1 = some (.invokespecial 3, 4) := by decide +kernel
theorem d75_4 : cod 75 4 = some (.aload_n 0, 5) := by decide +kernel
theorem d75_5 : cod 75 5 = some (.bipush 8, 7) := by decide +kernel
theorem d75_7 : cod 75 7 = some (.newarray .boolean, 9) := by decide +kernel
theorem d75_9 : cod 75 9 = some (.putfield 9, 12) := by decide +kernel
theorem d75_12 : cod 75 12 = some (.aload_n 0, 13) := by decide +kernel
theorem d75_13 : cod 75 13 = some (.bipush 24, 15) := by decide +kernel
theorem d75_15 : cod 75 15 = some (.newarray .int, 17) := by decide +kernel
theorem d75_17 : cod 75 17 = some (.putfield 15, 20) := by decide +kernel
theorem d75_20 : cod 75 20 = some (.return_, 21) := by decide +kernel
theorem d76_0 : cod 76 0 = some (.aload_n 0, 1) := by decide +kernel
theorem d76_1 : cod 76 1 = some (.getfield 9, 4) := by decide +kernel
theorem d76_4 : cod 76 4 = some (.iload_n 1, 5) := by decide +kernel
theorem d76_5 : cod 76 5 = some (.baload, 6) := by decide +kernel
theorem d76_6 : cod 76 6 = some (.ifCond .ne 20, 9) := by decide +kernel
theorem d76_9 : cod 76 9 = some (.aload_n 0, 10) := by decide +kernel
theorem d76_10 : cod 76 10 = some (.getfield 9, 13) := by decide +kernel
theorem d76_13 : cod 76 13 = some (.iload_n 1, 14) := by decide +kernel
theorem d76_14 : cod 76 14 = some (.iconst 1, 15) := by decide +kernel
theorem d76_15 : cod 76 15 = some (.bastore, 16) := by decide +kernel
theorem d76_16 : cod 76 16 = some (.aload_n 0, 17) := by decide +kernel
theorem d76_17 : cod 76 17 = some (.dup, 18) := by decide +kernel
theorem d76_18 : cod 76 18 = some (.getfield 19, 21) := by decide +kernel
theorem d76_21 : cod 76 21 = some (.iconst 1, 22) := by decide +kernel
theorem d76_22 : cod 76 22 = some (.iadd, 23) := by decide +kernel
theorem d76_23 : cod 76 23 = some (.putfield 19, 26) := by decide +kernel
theorem d76_26 : cod 76 26 = some (.aload_n 0, 27) := by decide +kernel
theorem d76_27 : cod 76 27 = some (.getfield 15, 30) := by decide +kernel
theorem d76_30 : cod 76 30 = some (.iload_n 1, 31) := by decide +kernel
theorem d76_31 : cod 76 31 = some (.iconst 3, 32) := by decide +kernel
theorem d76_32 : cod 76 32 = some (.imul, 33) := by decide +kernel
theorem d76_33 : cod 76 33 = some (.iload_n 2, 34) := by decide +kernel
theorem d76_34 : cod 76 34 = some (.iastore, 35) := by decide +kernel
theorem d76_35 : cod 76 35 = some (.aload_n 0, 36) := by decide +kernel
theorem d76_36 : cod 76 36 = some (.getfield 15, 39) := by decide +kernel
theorem d76_39 : cod 76 39 = some (.iload_n 1, 40) := by decide +kernel
theorem d76_40 : cod 76 40 = some (.iconst 3, 41) := by decide +kernel
theorem d76_41 : cod 76 41 = some (.imul, 42) := by decide +kernel
theorem d76_42 : cod 76 42 = some (.iconst 1, 43) := by decide +kernel
theorem d76_43 : cod 76 43 = some (.iadd, 44) := by decide +kernel
theorem d76_44 : cod 76 44 = some (.iload_n 3, 45) := by decide +kernel
theorem d76_45 : cod 76 45 = some (.iastore, 46) := by decide +kernel
theorem d76_46 : cod 76 46 = some (.aload_n 0, 47) := by decide +kernel
theorem d76_47 : cod 76 47 = some (.getfield 15, 50) := by decide +kernel
theorem d76_50 : cod 76 50 = some (.iload_n 1, 51) := by decide +kernel
theorem d76_51 : cod 76 51 = some (.iconst 3, 52) := by decide +kernel
theorem d76_52 : cod 76 52 = some (.imul, 53) := by decide +kernel
theorem d76_53 : cod 76 53 = some (.iconst 2, 54) := by decide +kernel
theorem d76_54 : cod 76 54 = some (.iadd, 55) := by decide +kernel
theorem d76_55 : cod 76 55 = some (.iload 4, 57) := by decide +kernel
theorem d76_57 : cod 76 57 = some (.iastore, 58) := by decide +kernel
theorem d76_58 : cod 76 58 = some (.return_, 59) := by decide +kernel
theorem d77_0 : cod 77 0 = some (.aload_n 1, 1) := by decide +kernel
theorem d77_1 : cod 77 1 = some (.getfield 23, 4) := by decide +kernel
theorem d77_4 : cod 77 4 = some (.ifCond .ne 5, 7) := by decide +kernel
theorem d77_7 : cod 77 7 = some (.iconst (-1), 8) := by decide +kernel
theorem d77_8 : cod 77 8 = some (.ireturn, 9) := by decide +kernel
theorem d77_9 : cod 77 9 = some (.iconst (-1), 10) := by decide +kernel
theorem d77_10 : cod 77 10 = some (.istore_n 2, 11) := by decide +kernel
theorem d77_11 : cod 77 11 = some (.iconst 0, 12) := by decide +kernel
theorem d77_12 : cod 77 12 = some (.istore_n 3, 13) := by decide +kernel
theorem d77_13 : cod 77 13 = some (.iload_n 3, 14) := by decide +kernel
theorem d77_14 : cod 77 14 = some (.bipush 8, 16) := by decide +kernel
theorem d77_16 : cod 77 16 = some (.if_icmp .ge 52, 19) := by decide +kernel
theorem d77_19 : cod 77 19 = some (.iload_n 2, 20) := by decide +kernel
theorem d77_20 : cod 77 20 = some (.iconst (-1), 21) := by decide +kernel
theorem d77_21 : cod 77 21 = some (.if_icmp .eq 18, 24) := by decide +kernel
theorem d77_24 : cod 77 24 = some (.aload_n 0, 25) := by decide +kernel
theorem d77_25 : cod 77 25 = some (.iload_n 3, 26) := by decide +kernel
theorem d77_26 : cod 77 26 = some (.aload_n 1, 27) := by decide +kernel
theorem d77_27 : cod 77 27 = some (.invokevirtual 29, 30) := by decide +kernel
theorem d77_30 : cod 77 30 = some (.aload_n 0, 31) := by decide +kernel
theorem d77_31 : cod 77 31 = some (.iload_n 2, 32) := by decide +kernel
theorem d77_32 : cod 77 32 = some (.aload_n 1, 33) := by decide +kernel
theorem d77_33 : cod 77 33 = some (.invokevirtual 29, 36) := by decide +kernel
theorem d77_36 : cod 77 36 = some (.if_icmp .ge 7, 39) := by decide +kernel
theorem d77_39 : cod 77 39 = some (.iconst 1, 40) := by decide +kernel
theorem d77_40 : cod 77 40 = some (.goto 4, 43) := by decide +kernel
theorem d77_43 : cod 77 43 = some (.iconst 0, 44) := by decide +kernel
theorem d77_44 : cod 77 44 = some (.istore 4, 46) := by decide +kernel
theorem d77_46 : cod 77 46 = some (.aload_n 0, 47) := by decide +kernel
theorem d77_47 : cod 77 47 = some (.getfield 9, 50) := by decide +kernel
theorem d77_50 : cod 77 50 = some (.iload_n 3, 51) := by decide +kernel
theorem d77_51 : cod 77 51 = some (.baload, 52) := by decide +kernel
theorem d77_52 : cod 77 52 = some (.ifCond .eq 10, 55) := by decide +kernel
theorem d77_55 : cod 77 55 = some (.iload 4, 57) := by decide +kernel
theorem d77_57 : cod 77 57 = some (.ifCond .eq 5, 60) := by decide +kernel
theorem d77_60 : cod 77 60 = some (.iload_n 3, 61) := by decide +kernel
theorem d77_61 : cod 77 61 = some (.istore_n 2, 62) := by decide +kernel
theorem d77_62 : cod 77 62 = some (.iinc 3 1, 65) := by decide +kernel
theorem d77_65 : cod 77 65 = some (.goto (-52), 68) := by decide +kernel
theorem d77_68 : cod 77 68 = some (.iload_n 2, 69) := by decide +kernel
theorem d77_69 : cod 77 69 = some (.ireturn, 70) := by decide +kernel
theorem d78_0 : cod 78 0 = some (.iconst 0, 1) := by decide +kernel
theorem d78_1 : cod 78 1 = some (.istore_n 3, 2) := by decide +kernel
theorem d78_2 : cod 78 2 = some (.iconst 0, 3) := by decide +kernel
theorem d78_3 : cod 78 3 = some (.istore 4, 5) := by decide +kernel
theorem d78_5 : cod 78 5 = some (.iload 4, 7) := by decide +kernel
theorem d78_7 : cod 78 7 = some (.iconst 3, 8) := by decide +kernel
theorem d78_8 : cod 78 8 = some (.if_icmp .ge 56, 11) := by decide +kernel
theorem d78_11 : cod 78 11 = some (.aload_n 0, 12) := by decide +kernel
theorem d78_12 : cod 78 12 = some (.getfield 15, 15) := by decide +kernel
theorem d78_15 : cod 78 15 = some (.iload_n 1, 16) := by decide +kernel
theorem d78_16 : cod 78 16 = some (.iconst 3, 17) := by decide +kernel
theorem d78_17 : cod 78 17 = some (.imul, 18) := by decide +kernel
theorem d78_18 : cod 78 18 = some (.iload 4, 20) := by decide +kernel
theorem d78_20 : cod 78 20 = some (.iadd, 21) := by decide +kernel
theorem d78_21 : cod 78 21 = some (.iaload, 22) := by decide +kernel
theorem d78_22 : cod 78 22 = some (.istore 5, 24) := by decide +kernel
theorem d78_24 : cod 78 24 = some (.iload 5, 26) := by decide +kernel
theorem d78_26 : cod 78 26 = some (.bipush 99, 28) := by decide +kernel
theorem d78_28 : cod 78 28 = some (.iload 5, 30) := by decide +kernel
theorem d78_30 : cod 78 30 = some (.isub, 31) := by decide +kernel
theorem d78_31 : cod 78 31 = some (.aload_n 2, 32) := by decide +kernel
theorem d78_32 : cod 78 32 = some (.getfield 33, 35) := by decide +kernel
theorem d78_35 : cod 78 35 = some (.imul, 36) := by decide +kernel
theorem d78_36 : cod 78 36 = some (.bipush 100, 38) := by decide +kernel
theorem d78_38 : cod 78 38 = some (.idiv, 39) := by decide +kernel
theorem d78_39 : cod 78 39 = some (.iadd, 40) := by decide +kernel
theorem d78_40 : cod 78 40 = some (.istore 6, 42) := by decide +kernel
theorem d78_42 : cod 78 42 = some (.iload_n 3, 43) := by decide +kernel
theorem d78_43 : cod 78 43 = some (.iload 6, 45) := by decide +kernel
theorem d78_45 : cod 78 45 = some (.aload_n 2, 46) := by decide +kernel
theorem d78_46 : cod 78 46 = some (.getfield 36, 49) := by decide +kernel
theorem d78_49 : cod 78 49 = some (.iload 4, 51) := by decide +kernel
theorem d78_51 : cod 78 51 = some (.iaload, 52) := by decide +kernel
theorem d78_52 : cod 78 52 = some (.isub, 53) := by decide +kernel
theorem d78_53 : cod 78 53 = some (.invokestatic 39, 56) := by decide +kernel
theorem d78_56 : cod 78 56 = some (.iadd, 57) := by decide +kernel
theorem d78_57 : cod 78 57 = some (.istore_n 3, 58) := by decide +kernel
theorem d78_58 : cod 78 58 = some (.iinc 4 1, 61) := by decide +kernel
theorem d78_61 : cod 78 61 = some (.goto (-56), 64) := by decide +kernel
theorem d78_64 : cod 78 64 = some (.iload_n 3, 65) := by decide +kernel
theorem d78_65 : cod 78 65 = some (.ireturn, 66) := by decide +kernel
theorem d79_0 : cod 79 0 = some (.aload_n 0, 1) := by decide +kernel
theorem d79_1 : cod 79 1 = some (.invokespecial 1, 4) := by decide +kernel
theorem d79_4 : cod 79 4 = some (.aload_n 0, 5) := by decide +kernel
theorem d79_5 : cod 79 5 = some (.iload_n 1, 6) := by decide +kernel
theorem d79_6 : cod 79 6 = some (.putfield 7, 9) := by decide +kernel
theorem d79_9 : cod 79 9 = some (.aload_n 0, 10) := by decide +kernel
theorem d79_10 : cod 79 10 = some (.iload_n 2, 11) := by decide +kernel
theorem d79_11 : cod 79 11 = some (.putfield 13, 14) := by decide +kernel
theorem d79_14 : cod 79 14 = some (.aload_n 0, 15) := by decide +kernel
theorem d79_15 : cod 79 15 = some (.iload_n 3, 16) := by decide +kernel
theorem d79_16 : cod 79 16 = some (.putfield 16, 19) := by decide +kernel
theorem d79_19 : cod 79 19 = some (.return_, 20) := by decide +kernel
theorem d80_0 : cod 80 0 = some (.aload_n 0, 1) := by decide +kernel
theorem d80_1 : cod 80 1 = some (.getfield 13, 4) := by decide +kernel
theorem d80_4 : cod 80 4 = some (.iload_n 1, 5) := by decide +kernel
theorem d80_5 : cod 80 5 = some (.if_icmp .gt 15, 8) := by decide +kernel
theorem d80_8 : cod 80 8 = some (.iload_n 1, 9) := by decide +kernel
theorem d80_9 : cod 80 9 = some (.aload_n 0, 10) := by decide +kernel
theorem d80_10 : cod 80 10 = some (.getfield 16, 13) := by decide +kernel
theorem d80_13 : cod 80 13 = some (.if_icmp .gt 7, 16) := by decide +kernel
theorem d80_16 : cod 80 16 = some (.iconst 1, 17) := by decide +kernel
theorem d80_17 : cod 80 17 = some (.goto 4, 20) := by decide +kernel
theorem d80_20 : cod 80 20 = some (.iconst 0, 21) := by decide +kernel
theorem d80_21 : cod 80 21 = some (.ireturn, 22) := by decide +kernel
theorem d81_0 : cod 81 0 = some (.aload_n 0, 1) := by decide +kernel
theorem d81_1 : cod 81 1 = some (.invokespecial 1, 4) := by decide +kernel
theorem d81_4 : cod 81 4 = some (.aload_n 0, 5) := by decide +kernel
theorem d81_5 : cod 81 5 = some (.new 7, 8) := by decide +kernel
theorem d81_8 : cod 81 8 = some (.dup, 9) := by decide +kernel
theorem d81_9 : cod 81 9 = some (.invokespecial 9, 12) := by decide +kernel
theorem d81_12 : cod 81 12 = some (.putfield 10, 15) := by decide +kernel
theorem d81_15 : cod 81 15 = some (.aload_n 0, 16) := by decide +kernel
theorem d81_16 : cod 81 16 = some (.new 16, 19) := by decide +kernel
theorem d81_19 : cod 81 19 = some (.dup, 20) := by decide +kernel
theorem d81_20 : cod 81 20 = some (.invokespecial 18, 23) := by decide +kernel
theorem d81_23 : cod 81 23 = some (.putfield 19, 26) := by decide +kernel
theorem d81_26 : cod 81 26 = some (.aload_n 0, 27) := by decide +kernel
theorem d81_27 : cod 81 27 = some (.bipush 6, 29) := by decide +kernel
theorem d81_29 : cod 81 29 = some (.anewarray 23, 32) := by decide +kernel
theorem d81_32 : cod 81 32 = some (.putfield 25, 35) := by decide +kernel
theorem d81_35 : cod 81 35 = some (.iconst 0, 36) := by decide +kernel
theorem d81_36 : cod 81 36 = some (.istore_n 1, 37) := by decide +kernel
theorem d81_37 : cod 81 37 = some (.iload_n 1, 38) := by decide +kernel
theorem d81_38 : cod 81 38 = some (.bipush 6, 40) := by decide +kernel
theorem d81_40 : cod 81 40 = some (.if_icmp .ge 22, 43) := by decide +kernel
theorem d81_43 : cod 81 43 = some (.aload_n 0, 44) := by decide +kernel
theorem d81_44 : cod 81 44 = some (.getfield 25, 47) := by decide +kernel
theorem d81_47 : cod 81 47 = some (.iload_n 1, 48) := by decide +kernel
theorem d81_48 : cod 81 48 = some (.new 23, 51) := by decide +kernel
theorem d81_51 : cod 81 51 = some (.dup, 52) := by decide +kernel
theorem d81_52 : cod 81 52 = some (.invokespecial 29, 55) := by decide +kernel
theorem d81_55 : cod 81 55 = some (.aastore, 56) := by decide +kernel
theorem d81_56 : cod 81 56 = some (.iinc 1 1, 59) := by decide +kernel
theorem d81_59 : cod 81 59 = some (.goto (-22), 62) := by decide +kernel
theorem d81_62 : cod 81 62 = some (.aload_n 0, 63) := by decide +kernel
theorem d81_63 : cod 81 63 = some (.new 30, 66) := by decide +kernel
theorem d81_66 : cod 81 66 = some (.dup, 67) := by decide +kernel
theorem d81_67 : cod 81 67 = some (.invokespecial 32, 70) := by decide +kernel
theorem d81_70 : cod 81 70 = some (.putfield 33, 73) := by decide +kernel
theorem d81_73 : cod 81 73 = some (.aload_n 0, 74) := by decide +kernel
theorem d81_74 : cod 81 74 = some (.new 16, 77) := by decide +kernel
theorem d81_77 : cod 81 77 = some (.dup, 78) := by decide +kernel
theorem d81_78 : cod 81 78 = some (.invokespecial 18, 81) := by decide +kernel
theorem d81_81 : cod 81 81 = some (.putfield 37, 84) := by decide +kernel
theorem d81_84 : cod 81 84 = some (.aload_n 0, 85) := by decide +kernel
theorem d81_85 : cod 81 85 = some (.new 16, 88) := by decide +kernel
theorem d81_88 : cod 81 88 = some (.dup, 89) := by decide +kernel
theorem d81_89 : cod 81 89 = some (.invokespecial 18, 92) := by decide +kernel
theorem d81_92 : cod 81 92 = some (.putfield 40, 95) := by decide +kernel
theorem d81_95 : cod 81 95 = some (.aload_n 0, 96) := by decide +kernel
theorem d81_96 : cod 81 96 = some (.new 16, 99) := by decide +kernel
theorem d81_99 : cod 81 99 = some (.dup, 100) := by decide +kernel
theorem d81_100 : cod 81 100 = some (.invokespecial 18, 103) := by decide +kernel
theorem d81_103 : cod 81 103 = some (.putfield 43, 106) := by decide +kernel
theorem d81_106 : cod 81 106 = some (.aload_n 0, 107) := by decide +kernel
theorem d81_107 : cod 81 107 = some (.new 46, 110) := by decide +kernel
theorem d81_110 : cod 81 110 = some (.dup, 111) := by decide +kernel
theorem d81_111 : cod 81 111 = some (.invokespecial 48, 114) := by decide +kernel
theorem d81_114 : cod 81 114 = some (.putfield 49, 117) := by decide +kernel
theorem d81_117 : cod 81 117 = some (.aload_n 0, 118) := by decide +kernel
theorem d81_118 : cod 81 118 = some (.new 53, 121) := by decide +kernel
theorem d81_121 : cod 81 121 = some (.dup, 122) := by decide +kernel
theorem d81_122 : cod 81 122 = some (.invokespecial 55, 125) := by decide +kernel
theorem d81_125 : cod 81 125 = some (.putfield 56, 128) := by decide +kernel
theorem d81_128 : cod 81 128 = some (.aload_n 0, 129) := by decide +kernel
theorem d81_129 : cod 81 129 = some (.new 60, 132) := by decide +kernel
theorem d81_132 : cod 81 132 = some (.dup, 133) := by decide +kernel
theorem d81_133 : cod 81 133 = some (.invokespecial 62, 136) := by decide +kernel
theorem d81_136 : cod 81 136 = some (.putfield 63, 139) := by decide +kernel
theorem d81_139 : cod 81 139 = some (.aload_n 0, 140) := by decide +kernel
theorem d81_140 : cod 81 140 = some (.new 67, 143) := by decide +kernel
theorem d81_143 : cod 81 143 = some (.dup, 144) := by decide +kernel
theorem d81_144 : cod 81 144 = some (.invokespecial 69, 147) := by decide +kernel
theorem d81_147 : cod 81 147 = some (.putfield 70, 150) := by decide +kernel
theorem d81_150 : cod 81 150 = some (.aload_n 0, 151) := by decide +kernel
theorem d81_151 : cod 81 151 = some (.bipush 100, 153) := by decide +kernel
theorem d81_153 : cod 81 153 = some (.newarray .int, 155) := by decide +kernel
theorem d81_155 : cod 81 155 = some (.putfield 74, 158) := by decide +kernel
theorem d81_158 : cod 81 158 = some (.aload_n 0, 159) := by decide +kernel
theorem d81_159 : cod 81 159 = some (.sipush 4096, 162) := by decide +kernel
theorem d81_162 : cod 81 162 = some (.newarray .int, 164) := by decide +kernel
theorem d81_164 : cod 81 164 = some (.putfield 78, 167) := by decide +kernel
theorem d81_167 : cod 81 167 = some (.aload_n 0, 168) := by decide +kernel
theorem d81_168 : cod 81 168 = some (.sipush 4096, 171) := by decide +kernel
theorem d81_171 : cod 81 171 = some (.newarray .int, 173) := by decide +kernel
theorem d81_173 : cod 81 173 = some (.putfield 81, 176) := by decide +kernel
theorem d81_176 : cod 81 176 = some (.return_, 177) := by decide +kernel
theorem d82_0 : cod 82 0 = some (.iload_n 1, 1) := by decide +kernel
theorem d82_1 : cod 82 1 = some (.iconst 2, 2) := by decide +kernel
theorem d82_2 : cod 82 2 = some (.bipush 6, 4) := by decide +kernel
theorem d82_4 : cod 82 4 = some (.invokestatic 84, 7) := by decide +kernel
theorem d82_7 : cod 82 7 = some (.ifCond .eq 16, 10) := by decide +kernel
theorem d82_10 : cod 82 10 = some (.iload_n 2, 11) := by decide +kernel
theorem d82_11 : cod 82 11 = some (.iconst 2, 12) := by decide +kernel
theorem d82_12 : cod 82 12 = some (.iconst 4, 13) := by decide +kernel
theorem d82_13 : cod 82 13 = some (.invokestatic 84, 16) := by decide +kernel
theorem d82_16 : cod 82 16 = some (.ifCond .eq 7, 19) := by decide +kernel
theorem d82_19 : cod 82 19 = some (.iconst 1, 20) := by decide +kernel
theorem d82_20 : cod 82 20 = some (.goto 4, 23) := by decide +kernel
theorem d82_23 : cod 82 23 = some (.iconst 0, 24) := by decide +kernel
theorem d82_24 : cod 82 24 = some (.invokestatic 88, 27) := by decide +kernel
theorem d82_27 : cod 82 27 = some (.aload_n 0, 28) := by decide +kernel
theorem d82_28 : cod 82 28 = some (.getfield 10, 31) := by decide +kernel
theorem d82_31 : cod 82 31 = some (.iload_n 1, 32) := by decide +kernel
theorem d82_32 : cod 82 32 = some (.iload_n 2, 33) := by decide +kernel
theorem d82_33 : cod 82 33 = some (.invokevirtual 92, 36) := by decide +kernel
theorem d82_36 : cod 82 36 = some (.aload_n 0, 37) := by decide +kernel
theorem d82_37 : cod 82 37 = some (.getfield 19, 40) := by decide +kernel
theorem d82_40 : cod 82 40 = some (.invokevirtual 96, 43) := by decide +kernel
theorem d82_43 : cod 82 43 = some (.iconst 0, 44) := by decide +kernel
theorem d82_44 : cod 82 44 = some (.istore_n 3, 45) := by decide +kernel
theorem d82_45 : cod 82 45 = some (.iload_n 3, 46) := by decide +kernel
theorem d82_46 : cod 82 46 = some (.bipush 6, 48) := by decide +kernel
theorem d82_48 : cod 82 48 = some (.if_icmp .ge 18, 51) := by decide +kernel
theorem d82_51 : cod 82 51 = some (.aload_n 0, 52) := by decide +kernel
theorem d82_52 : cod 82 52 = some (.getfield 25, 55) := by decide +kernel
theorem d82_55 : cod 82 55 = some (.iload_n 3, 56) := by decide +kernel
theorem d82_56 : cod 82 56 = some (.aaload, 57) := by decide +kernel
theorem d82_57 : cod 82 57 = some (.invokevirtual 99, 60) := by decide +kernel
theorem d82_60 : cod 82 60 = some (.iinc 3 1, 63) := by decide +kernel
theorem d82_63 : cod 82 63 = some (.goto (-18), 66) := by decide +kernel
theorem d82_66 : cod 82 66 = some (.aload_n 0, 67) := by decide +kernel
theorem d82_67 : cod 82 67 = some (.getfield 43, 70) := by decide +kernel
theorem d82_70 : cod 82 70 = some (.invokevirtual 96, 73) := by decide +kernel
theorem d82_73 : cod 82 73 = some (.aload_n 0, 74) := by decide +kernel
theorem d82_74 : cod 82 74 = some (.getfield 56, 77) := by decide +kernel
theorem d82_77 : cod 82 77 = some (.invokevirtual 100, 80) := by decide +kernel
theorem d82_80 : cod 82 80 = some (.aload_n 0, 81) := by decide +kernel
theorem d82_81 : cod 82 81 = some (.getfield 63, 84) := by decide +kernel
theorem d82_84 : cod 82 84 = some (.invokevirtual 103, 87) := by decide +kernel
theorem d82_87 : cod 82 87 = some (.aload_n 0, 88) := by decide +kernel
theorem d82_88 : cod 82 88 = some (.getfield 10, 91) := by decide +kernel
theorem d82_91 : cod 82 91 = some (.invokevirtual 104, 94) := by decide +kernel
theorem d82_94 : cod 82 94 = some (.ireturn, 95) := by decide +kernel
theorem d83_0 : cod 83 0 = some (.iload_n 0, 1) := by decide +kernel
theorem d83_1 : cod 83 1 = some (.iload_n 1, 2) := by decide +kernel
theorem d83_2 : cod 83 2 = some (.if_icmp .lt 12, 5) := by decide +kernel
theorem d83_5 : cod 83 5 = some (.iload_n 0, 6) := by decide +kernel
theorem d83_6 : cod 83 6 = some (.iload_n 2, 7) := by decide +kernel
theorem d83_7 : cod 83 7 = some (.if_icmp .gt 7, 10) := by decide +kernel
theorem d83_10 : cod 83 10 = some (.iconst 1, 11) := by decide +kernel
theorem d83_11 : cod 83 11 = some (.goto 4, 14) := by decide +kernel
theorem d83_14 : cod 83 14 = some (.iconst 0, 15) := by decide +kernel
theorem d83_15 : cod 83 15 = some (.ireturn, 16) := by decide +kernel
theorem d84_0 : cod 84 0 = some (.iload_n 0, 1) := by decide +kernel
theorem d84_1 : cod 84 1 = some (.ifCond .ne 14, 4) := by decide +kernel
theorem d84_4 : cod 84 4 = some (.new 525, 7) := by decide +kernel
theorem d84_7 : cod 84 7 = some (.dup, 8) := by decide +kernel
theorem d84_8 : cod 84 8 = some (.ldc_w 527, 11) := by decide +kernel
theorem d84_11 : cod 84 11 = some (.invokespecial 529, 14) := by decide +kernel
theorem d84_14 : cod 84 14 = some (.athrow, 15) := by decide +kernel
theorem d84_15 : cod 84 15 = some (.return_, 16) := by decide +kernel
theorem d85_0 : cod 85 0 = some (.iconst 0, 1) := by decide +kernel
theorem d85_1 : cod 85 1 = some (.istore_n 1, 2) := by decide +kernel
theorem d85_2 : cod 85 2 = some (.iload_n 1, 3) := by decide +kernel
theorem d85_3 : cod 85 3 = some (.bipush 24, 5) := by decide +kernel
theorem d85_5 : cod 85 5 = some (.if_icmp .ge 19, 8) := by decide +kernel
theorem d85_8 : cod 85 8 = some (.iload_n 1, 9) := by decide +kernel
theorem d85_9 : cod 85 9 = some (.iload_n 0, 10) := by decide +kernel
theorem d85_10 : cod 85 10 = some (.invokestatic 203, 13) := by decide +kernel
theorem d85_13 : cod 85 13 = some (.ifCond .eq 5, 16) := by decide +kernel
theorem d85_16 : cod 85 16 = some (.iload_n 1, 17) := by decide +kernel
theorem d85_17 : cod 85 17 = some (.ireturn, 18) := by decide +kernel
theorem d85_18 : cod 85 18 = some (.iinc 1 1, 21) := by decide +kernel
theorem d85_21 : cod 85 21 = some (.goto (-19), 24) := by decide +kernel
theorem d85_24 : cod 85 24 = some (.iconst (-1), 25) := by decide +kernel
theorem d85_25 : cod 85 25 = some (.ireturn, 26) := by decide +kernel
theorem d86_0 : cod 86 0 = some (.iload_n 1, 1) := by decide +kernel
theorem d86_1 : cod 86 1 = some (.iload_n 0, 2) := by decide +kernel
theorem d86_2 : cod 86 2 = some (.ishr, 3) := by decide +kernel
theorem d86_3 : cod 86 3 = some (.iconst 1, 4) := by decide +kernel
theorem d86_4 : cod 86 4 = some (.iand, 5) := by decide +kernel
theorem d86_5 : cod 86 5 = some (.ifCond .eq 7, 8) := by decide +kernel
theorem d86_8 : cod 86 8 = some (.iconst 1, 9) := by decide +kernel
theorem d86_9 : cod 86 9 = some (.goto 4, 12) := by decide +kernel
theorem d86_12 : cod 86 12 = some (.iconst 0, 13) := by decide +kernel
theorem d86_13 : cod 86 13 = some (.ireturn, 14) := by decide +kernel
theorem d87_0 : cod 87 0 = some (.iload_n 1, 1) := by decide +kernel
theorem d87_1 : cod 87 1 = some (.iconst 0, 2) := by decide +kernel
theorem d87_2 : cod 87 2 = some (.bipush 99, 4) := by decide +kernel
theorem d87_4 : cod 87 4 = some (.invokestatic 84, 7) := by decide +kernel
theorem d87_7 : cod 87 7 = some (.invokestatic 88, 10) := by decide +kernel
theorem d87_10 : cod 87 10 = some (.aload_n 0, 11) := by decide +kernel
theorem d87_11 : cod 87 11 = some (.getfield 10, 14) := by decide +kernel
theorem d87_14 : cod 87 14 = some (.invokevirtual 104, 17) := by decide +kernel
theorem d87_17 : cod 87 17 = some (.ifCond .le 17, 20) := by decide +kernel
theorem d87_20 : cod 87 20 = some (.aload_n 0, 21) := by decide +kernel
theorem d87_21 : cod 87 21 = some (.getfield 19, 24) := by decide +kernel
theorem d87_24 : cod 87 24 = some (.invokevirtual 145, 27) := by decide +kernel
theorem d87_27 : cod 87 27 = some (.ifCond .eq 7, 30) := by decide +kernel
theorem d87_30 : cod 87 30 = some (.iconst 1, 31) := by decide +kernel
theorem d87_31 : cod 87 31 = some (.goto 4, 34) := by decide +kernel
theorem d87_34 : cod 87 34 = some (.iconst 0, 35) := by decide +kernel
theorem d87_35 : cod 87 35 = some (.invokestatic 122, 38) := by decide +kernel
theorem d87_38 : cod 87 38 = some (.aload_n 0, 39) := by decide +kernel
theorem d87_39 : cod 87 39 = some (.getfield 10, 42) := by decide +kernel
theorem d87_42 : cod 87 42 = some (.iload_n 1, 43) := by decide +kernel
theorem d87_43 : cod 87 43 = some (.invokevirtual 149, 46) := by decide +kernel
theorem d87_46 : cod 87 46 = some (.aload_n 0, 47) := by decide +kernel
theorem d87_47 : cod 87 47 = some (.getfield 10, 50) := by decide +kernel
theorem d87_50 : cod 87 50 = some (.getfield 118, 53) := by decide +kernel
theorem d87_53 : cod 87 53 = some (.ireturn, 54) := by decide +kernel
theorem d88_0 : cod 88 0 = some (.iload_n 0, 1) := by decide +kernel
theorem d88_1 : cod 88 1 = some (.ifCond .ne 14, 4) := by decide +kernel
theorem d88_4 : cod 88 4 = some (.new 530, 7) := by decide +kernel
theorem d88_7 : cod 88 7 = some (.dup, 8) := by decide +kernel
theorem d88_8 : cod 88 8 = some (.ldc_w 532, 11) := by decide +kernel
theorem d88_11 : cod 88 11 = some (.invokespecial 534, 14) := by decide +kernel
theorem d88_14 : cod 88 14 = some (.athrow, 15) := by decide +kernel
theorem d88_15 : cod 88 15 = some (.return_, 16) := by decide +kernel
theorem d89_0 : cod 89 0 = some (.iload_n 1, 1) := by decide +kernel
theorem d89_1 : cod 89 1 = some (.invokestatic 276, 4) := by decide +kernel
theorem d89_4 : cod 89 4 = some (.ifCond .eq 36, 7) := by decide +kernel
theorem d89_7 : cod 89 7 = some (.iload_n 2, 8) := by decide +kernel
theorem d89_8 : cod 89 8 = some (.iconst 0, 9) := by decide +kernel
theorem d89_9 : cod 89 9 = some (.iconst 2, 10) := by decide +kernel
theorem d89_10 : cod 89 10 = some (.invokestatic 84, 13) := by decide +kernel
theorem d89_13 : cod 89 13 = some (.ifCond .eq 27, 16) := by decide +kernel
theorem d89_16 : cod 89 16 = some (.iload_n 3, 17) := by decide +kernel
theorem d89_17 : cod 89 17 = some (.iconst 1, 18) := by decide +kernel
theorem d89_18 : cod 89 18 = some (.iconst 4, 19) := by decide +kernel
theorem d89_19 : cod 89 19 = some (.invokestatic 84, 22) := by decide +kernel
theorem d89_22 : cod 89 22 = some (.ifCond .eq 18, 25) := by decide +kernel
theorem d89_25 : cod 89 25 = some (.iload 4, 27) := by decide +kernel
theorem d89_27 : cod 89 27 = some (.iconst 1, 28) := by decide +kernel
theorem d89_28 : cod 89 28 = some (.bipush 99, 30) := by decide +kernel
theorem d89_30 : cod 89 30 = some (.invokestatic 84, 33) := by decide +kernel
theorem d89_33 : cod 89 33 = some (.ifCond .eq 7, 36) := by decide +kernel
theorem d89_36 : cod 89 36 = some (.iconst 1, 37) := by decide +kernel
theorem d89_37 : cod 89 37 = some (.goto 4, 40) := by decide +kernel
theorem d89_40 : cod 89 40 = some (.iconst 0, 41) := by decide +kernel
theorem d89_41 : cod 89 41 = some (.invokestatic 88, 44) := by decide +kernel
theorem d89_44 : cod 89 44 = some (.aload_n 0, 45) := by decide +kernel
theorem d89_45 : cod 89 45 = some (.getfield 33, 48) := by decide +kernel
theorem d89_48 : cod 89 48 = some (.getfield 279, 51) := by decide +kernel
theorem d89_51 : cod 89 51 = some (.bipush 16, 53) := by decide +kernel
theorem d89_53 : cod 89 53 = some (.if_icmp .ge 7, 56) := by decide +kernel
theorem d89_56 : cod 89 56 = some (.iconst 1, 57) := by decide +kernel
theorem d89_57 : cod 89 57 = some (.goto 4, 60) := by decide +kernel
theorem d89_60 : cod 89 60 = some (.iconst 0, 61) := by decide +kernel
theorem d89_61 : cod 89 61 = some (.invokestatic 122, 64) := by decide +kernel
theorem d89_64 : cod 89 64 = some (.aload_n 0, 65) := by decide +kernel
theorem d89_65 : cod 89 65 = some (.getfield 33, 68) := by decide +kernel
theorem d89_68 : cod 89 68 = some (.iload_n 1, 69) := by decide +kernel
theorem d89_69 : cod 89 69 = some (.iload_n 2, 70) := by decide +kernel
theorem d89_70 : cod 89 70 = some (.iload_n 3, 71) := by decide +kernel
theorem d89_71 : cod 89 71 = some (.iload 4, 73) := by decide +kernel
theorem d89_73 : cod 89 73 = some (.invokevirtual 282, 76) := by decide +kernel
theorem d89_76 : cod 89 76 = some (.ireturn, 77) := by decide +kernel
theorem d90_0 : cod 90 0 = some (.iload_n 0, 1) := by decide +kernel
theorem d90_1 : cod 90 1 = some (.iconst 0, 2) := by decide +kernel
theorem d90_2 : cod 90 2 = some (.sipush 999, 5) := by decide +kernel
theorem d90_5 : cod 90 5 = some (.invokestatic 84, 8) := by decide +kernel
theorem d90_8 : cod 90 8 = some (.ireturn, 9) := by decide +kernel
theorem d91_0 : cod 91 0 = some (.iload_n 1, 1) := by decide +kernel
theorem d91_1 : cod 91 1 = some (.iconst 1, 2) := by decide +kernel
theorem d91_2 : cod 91 2 = some (.bipush 99, 4) := by decide +kernel
theorem d91_4 : cod 91 4 = some (.invokestatic 84, 7) := by decide +kernel
theorem d91_7 : cod 91 7 = some (.ifCond .eq 26, 10) := by decide +kernel
theorem d91_10 : cod 91 10 = some (.iload_n 2, 11) := by decide +kernel
theorem d91_11 : cod 91 11 = some (.invokestatic 276, 14) := by decide +kernel
theorem d91_14 : cod 91 14 = some (.ifCond .eq 19, 17) := by decide +kernel
theorem d91_17 : cod 91 17 = some (.iload_n 3, 18) := by decide +kernel
theorem d91_18 : cod 91 18 = some (.invokestatic 276, 21) := by decide +kernel
theorem d91_21 : cod 91 21 = some (.ifCond .eq 12, 24) := by decide +kernel
theorem d91_24 : cod 91 24 = some (.iload_n 2, 25) := by decide +kernel
theorem d91_25 : cod 91 25 = some (.iload_n 3, 26) := by decide +kernel
theorem d91_26 : cod 91 26 = some (.if_icmp .gt 7, 29) := by decide +kernel
theorem d91_29 : cod 91 29 = some (.iconst 1, 30) := by decide +kernel
theorem d91_30 : cod 91 30 = some (.goto 4, 33) := by decide +kernel
theorem d91_33 : cod 91 33 = some (.iconst 0, 34) := by decide +kernel
theorem d91_34 : cod 91 34 = some (.invokestatic 88, 37) := by decide +kernel
theorem d91_37 : cod 91 37 = some (.aload_n 0, 38) := by decide +kernel
theorem d91_38 : cod 91 38 = some (.getfield 37, 41) := by decide +kernel
theorem d91_41 : cod 91 41 = some (.invokevirtual 129, 44) := by decide +kernel
theorem d91_44 : cod 91 44 = some (.bipush 10, 46) := by decide +kernel
theorem d91_46 : cod 91 46 = some (.if_icmp .ge 7, 49) := by decide +kernel
theorem d91_49 : cod 91 49 = some (.iconst 1, 50) := by decide +kernel
theorem d91_50 : cod 91 50 = some (.goto 4, 53) := by decide +kernel
theorem d91_53 : cod 91 53 = some (.iconst 0, 54) := by decide +kernel
theorem d91_54 : cod 91 54 = some (.invokestatic 122, 57) := by decide +kernel
theorem d91_57 : cod 91 57 = some (.aload_n 0, 58) := by decide +kernel
theorem d91_58 : cod 91 58 = some (.getfield 37, 61) := by decide +kernel
theorem d91_61 : cod 91 61 = some (.new 290, 64) := by decide +kernel
theorem d91_64 : cod 91 64 = some (.dup, 65) := by decide +kernel
theorem d91_65 : cod 91 65 = some (.iload_n 1, 66) := by decide +kernel
theorem d91_66 : cod 91 66 = some (.iload_n 2, 67) := by decide +kernel
theorem d91_67 : cod 91 67 = some (.iload_n 3, 68) := by decide +kernel
theorem d91_68 : cod 91 68 = some (.invokespecial 292, 71) := by decide +kernel
theorem d91_71 : cod 91 71 = some (.invokevirtual 294, 74) := by decide +kernel
theorem d91_74 : cod 91 74 = some (.pop, 75) := by decide +kernel
theorem d91_75 : cod 91 75 = some (.aload_n 0, 76) := by decide +kernel
theorem d91_76 : cod 91 76 = some (.getfield 37, 79) := by decide +kernel
theorem d91_79 : cod 91 79 = some (.invokevirtual 129, 82) := by decide +kernel
theorem d91_82 : cod 91 82 = some (.iconst 1, 83) := by decide +kernel
theorem d91_83 : cod 91 83 = some (.isub, 84) := by decide +kernel
theorem d91_84 : cod 91 84 = some (.ireturn, 85) := by decide +kernel
theorem d92_0 : cod 92 0 = some (.iload_n 1, 1) := by decide +kernel
theorem d92_1 : cod 92 1 = some (.invokestatic 266, 4) := by decide +kernel
theorem d92_4 : cod 92 4 = some (.invokestatic 112, 7) := by decide +kernel
theorem d92_7 : cod 92 7 = some (.iload_n 2, 8) := by decide +kernel
theorem d92_8 : cod 92 8 = some (.invokestatic 276, 11) := by decide +kernel
theorem d92_11 : cod 92 11 = some (.ifCond .eq 19, 14) := by decide +kernel
theorem d92_14 : cod 92 14 = some (.iload_n 3, 15) := by decide +kernel
theorem d92_15 : cod 92 15 = some (.invokestatic 276, 18) := by decide +kernel
theorem d92_18 : cod 92 18 = some (.ifCond .eq 12, 21) := by decide +kernel
theorem d92_21 : cod 92 21 = some (.iload_n 2, 22) := by decide +kernel
theorem d92_22 : cod 92 22 = some (.iload_n 3, 23) := by decide +kernel
theorem d92_23 : cod 92 23 = some (.if_icmp .gt 7, 26) := by decide +kernel
theorem d92_26 : cod 92 26 = some (.iconst 1, 27) := by decide +kernel
theorem d92_27 : cod 92 27 = some (.goto 4, 30) := by decide +kernel
theorem d92_30 : cod 92 30 = some (.iconst 0, 31) := by decide +kernel
theorem d92_31 : cod 92 31 = some (.invokestatic 88, 34) := by decide +kernel
theorem d92_34 : cod 92 34 = some (.aload_n 0, 35) := by decide +kernel
theorem d92_35 : cod 92 35 = some (.getfield 40, 38) := by decide +kernel
theorem d92_38 : cod 92 38 = some (.invokevirtual 129, 41) := by decide +kernel
theorem d92_41 : cod 92 41 = some (.bipush 10, 43) := by decide +kernel
theorem d92_43 : cod 92 43 = some (.if_icmp .ge 7, 46) := by decide +kernel
theorem d92_46 : cod 92 46 = some (.iconst 1, 47) := by decide +kernel
theorem d92_47 : cod 92 47 = some (.goto 4, 50) := by decide +kernel
theorem d92_50 : cod 92 50 = some (.iconst 0, 51) := by decide +kernel
theorem d92_51 : cod 92 51 = some (.invokestatic 122, 54) := by decide +kernel
theorem d92_54 : cod 92 54 = some (.aload_n 0, 55) := by decide +kernel
theorem d92_55 : cod 92 55 = some (.getfield 40, 58) := by decide +kernel
theorem d92_58 : cod 92 58 = some (.new 290, 61) := by decide +kernel
theorem d92_61 : cod 92 61 = some (.dup, 62) := by decide +kernel
theorem d92_62 : cod 92 62 = some (.iload_n 1, 63) := by decide +kernel
theorem d92_63 : cod 92 63 = some (.iload_n 2, 64) := by decide +kernel
theorem d92_64 : cod 92 64 = some (.iload_n 3, 65) := by decide +kernel
theorem d92_65 : cod 92 65 = some (.invokespecial 292, 68) := by decide +kernel
theorem d92_68 : cod 92 68 = some (.invokevirtual 294, 71) := by decide +kernel
theorem d92_71 : cod 92 71 = some (.pop, 72) := by decide +kernel
theorem d92_72 : cod 92 72 = some (.aload_n 0, 73) := by decide +kernel
theorem d92_73 : cod 92 73 = some (.getfield 40, 76) := by decide +kernel
theorem d92_76 : cod 92 76 = some (.invokevirtual 129, 79) := by decide +kernel
theorem d92_79 : cod 92 79 = some (.iconst 1, 80) := by decide +kernel
theorem d92_80 : cod 92 80 = some (.isub, 81) := by decide +kernel
theorem d92_81 : cod 92 81 = some (.ireturn, 82) := by decide +kernel
theorem d93_0 : cod 93 0 = some (.iload_n 0, 1) := by decide +kernel
theorem d93_1 : cod 93 1 = some (.iconst 0, 2) := by decide +kernel
theorem d93_2 : cod 93 2 = some (.iconst 5, 3) := by decide +kernel
theorem d93_3 : cod 93 3 = some (.invokestatic 84, 6) := by decide +kernel
theorem d93_6 : cod 93 6 = some (.ireturn, 7) := by decide +kernel
theorem d94_0 : cod 94 0 = some (.iload_n 0, 1) := by decide +kernel
theorem d94_1 : cod 94 1 = some (.ifCond .ne 14, 4) := by decide +kernel
theorem d94_4 : cod 94 4 = some (.new 518, 7) := by decide +kernel
theorem d94_7 : cod 94 7 = some (.dup, 8) := by decide +kernel
theorem d94_8 : cod 94 8 = some (.ldc_w 520, 11) := by decide +kernel
theorem d94_11 : cod 94 11 = some (.invokespecial 522, 14) := by decide +kernel
theorem d94_14 : cod 94 14 = some (.athrow, 15) := by decide +kernel
theorem d94_15 : cod 94 15 = some (.return_, 16) := by decide +kernel
theorem d95_0 : cod 95 0 = some (.iload_n 1, 1) := by decide +kernel
theorem d95_1 : cod 95 1 = some (.iload_n 2, 2) := by decide +kernel
theorem d95_2 : cod 95 2 = some (.invokestatic 153, 5) := by decide +kernel
theorem d95_5 : cod 95 5 = some (.ifCond .eq 14, 8) := by decide +kernel
theorem d95_8 : cod 95 8 = some (.iload_n 3, 9) := by decide +kernel
theorem d95_9 : cod 95 9 = some (.invokestatic 157, 12) := by decide +kernel
theorem d95_12 : cod 95 12 = some (.ifCond .eq 7, 15) := by decide +kernel
theorem d95_15 : cod 95 15 = some (.iconst 1, 16) := by decide +kernel
theorem d95_16 : cod 95 16 = some (.goto 4, 19) := by decide +kernel
theorem d95_19 : cod 95 19 = some (.iconst 0, 20) := by decide +kernel
theorem d95_20 : cod 95 20 = some (.invokestatic 88, 23) := by decide +kernel
theorem d95_23 : cod 95 23 = some (.aload_n 0, 24) := by decide +kernel
theorem d95_24 : cod 95 24 = some (.getfield 10, 27) := by decide +kernel
theorem d95_27 : cod 95 27 = some (.invokevirtual 104, 30) := by decide +kernel
theorem d95_30 : cod 95 30 = some (.ifCond .le 15, 33) := by decide +kernel
theorem d95_33 : cod 95 33 = some (.aload_n 0, 34) := by decide +kernel
theorem d95_34 : cod 95 34 = some (.iload_n 3, 35) := by decide +kernel
theorem d95_35 : cod 95 35 = some (.invokevirtual 160, 38) := by decide +kernel
theorem d95_38 : cod 95 38 = some (.ifCond .eq 7, 41) := by decide +kernel
theorem d95_41 : cod 95 41 = some (.iconst 1, 42) := by decide +kernel
theorem d95_42 : cod 95 42 = some (.goto 4, 45) := by decide +kernel
theorem d95_45 : cod 95 45 = some (.iconst 0, 46) := by decide +kernel
theorem d95_46 : cod 95 46 = some (.invokestatic 122, 49) := by decide +kernel
theorem d95_49 : cod 95 49 = some (.new 136, 52) := by decide +kernel
theorem d95_52 : cod 95 52 = some (.dup, 53) := by decide +kernel
theorem d95_53 : cod 95 53 = some (.aload_n 0, 54) := by decide +kernel
theorem d95_54 : cod 95 54 = some (.getfield 19, 57) := by decide +kernel
theorem d95_57 : cod 95 57 = some (.invokevirtual 129, 60) := by decide +kernel
theorem d95_60 : cod 95 60 = some (.iload_n 1, 61) := by decide +kernel
theorem d95_61 : cod 95 61 = some (.iload_n 2, 62) := by decide +kernel
theorem d95_62 : cod 95 62 = some (.iload_n 3, 63) := by decide +kernel
theorem d95_63 : cod 95 63 = some (.iload 4, 65) := by decide +kernel
theorem d95_65 : cod 95 65 = some (.invokespecial 163, 68) := by decide +kernel
theorem d95_68 : cod 95 68 = some (.astore 5, 70) := by decide +kernel
theorem d95_70 : cod 95 70 = some (.aload_n 0, 71) := by decide +kernel
theorem d95_71 : cod 95 71 = some (.aload 5, 73) := by decide +kernel
theorem d95_73 : cod 95 73 = some (.invokevirtual 166, 76) := by decide +kernel
theorem d95_76 : cod 95 76 = some (.aload 5, 78) := by decide +kernel
theorem d95_78 : cod 95 78 = some (.getfield 170, 81) := by decide +kernel
theorem d95_81 : cod 95 81 = some (.ireturn, 82) := by decide +kernel
theorem d96_0 : cod 96 0 = some (.iload_n 0, 1) := by decide +kernel
theorem d96_1 : cod 96 1 = some (.iconst 1, 2) := by decide +kernel
theorem d96_2 : cod 96 2 = some (.iconst 3, 3) := by decide +kernel
theorem d96_3 : cod 96 3 = some (.invokestatic 84, 6) := by decide +kernel
theorem d96_6 : cod 96 6 = some (.ifCond .eq 16, 9) := by decide +kernel
theorem d96_9 : cod 96 9 = some (.iload_n 1, 10) := by decide +kernel
theorem d96_10 : cod 96 10 = some (.iconst 1, 11) := by decide +kernel
theorem d96_11 : cod 96 11 = some (.iconst 3, 12) := by decide +kernel
theorem d96_12 : cod 96 12 = some (.invokestatic 84, 15) := by decide +kernel
theorem d96_15 : cod 96 15 = some (.ifCond .eq 7, 18) := by decide +kernel
theorem d96_18 : cod 96 18 = some (.iconst 1, 19) := by decide +kernel
theorem d96_19 : cod 96 19 = some (.goto 4, 22) := by decide +kernel
theorem d96_22 : cod 96 22 = some (.iconst 0, 23) := by decide +kernel
theorem d96_23 : cod 96 23 = some (.ireturn, 24) := by decide +kernel
theorem d97_0 : cod 97 0 = some (.iload_n 0, 1) := by decide +kernel
theorem d97_1 : cod 97 1 = some (.iconst 0, 2) := by decide +kernel
theorem d97_2 : cod 97 2 = some (.iconst 5, 3) := by decide +kernel
theorem d97_3 : cod 97 3 = some (.invokestatic 84, 6) := by decide +kernel
theorem d97_6 : cod 97 6 = some (.ireturn, 7) := by decide +kernel
theorem d98_0 : cod 98 0 = some (.aload_n 0, 1) := by decide +kernel
theorem d98_1 : cod 98 1 = some (.getfield 19, 4) := by decide +kernel
theorem d98_4 : cod 98 4 = some (.invokevirtual 129, 7) := by decide +kernel
theorem d98_7 : cod 98 7 = some (.bipush 12, 9) := by decide +kernel
theorem d98_9 : cod 98 9 = some (.if_icmp .ge 20, 12) := by decide +kernel
theorem d98_12 : cod 98 12 = some (.aload_n 0, 13) := by decide +kernel
theorem d98_13 : cod 98 13 = some (.getfield 25, 16) := by decide +kernel
theorem d98_16 : cod 98 16 = some (.iload_n 1, 17) := by decide +kernel
theorem d98_17 : cod 98 17 = some (.aaload, 18) := by decide +kernel
theorem d98_18 : cod 98 18 = some (.getfield 218, 21) := by decide +kernel
theorem d98_21 : cod 98 21 = some (.iconst 3, 22) := by decide +kernel
theorem d98_22 : cod 98 22 = some (.if_icmp .ge 7, 25) := by decide +kernel
theorem d98_25 : cod 98 25 = some (.iconst 1, 26) := by decide +kernel
theorem d98_26 : cod 98 26 = some (.goto 4, 29) := by decide +kernel
theorem d98_29 : cod 98 29 = some (.iconst 0, 30) := by decide +kernel
theorem d98_30 : cod 98 30 = some (.ireturn, 31) := by decide +kernel
theorem d99_0 : cod 99 0 = some (.aload_n 0, 1) := by decide +kernel
theorem d99_1 : cod 99 1 = some (.getfield 19, 4) := by decide +kernel
theorem d99_4 : cod 99 4 = some (.aload_n 1, 5) := by decide +kernel
theorem d99_5 : cod 99 5 = some (.invokevirtual 294, 8) := by decide +kernel
theorem d99_8 : cod 99 8 = some (.pop, 9) := by decide +kernel
theorem d99_9 : cod 99 9 = some (.aload_n 1, 10) := by decide +kernel
theorem d99_10 : cod 99 10 = some (.aload_n 0, 11) := by decide +kernel
theorem d99_11 : cod 99 11 = some (.getfield 10, 14) := by decide +kernel
theorem d99_14 : cod 99 14 = some (.invokevirtual 138, 17) := by decide +kernel
theorem d99_17 : cod 99 17 = some (.aload_n 0, 18) := by decide +kernel
theorem d99_18 : cod 99 18 = some (.getfield 25, 21) := by decide +kernel
theorem d99_21 : cod 99 21 = some (.aload_n 1, 22) := by decide +kernel
theorem d99_22 : cod 99 22 = some (.getfield 186, 25) := by decide +kernel
theorem d99_25 : cod 99 25 = some (.aaload, 26) := by decide +kernel
theorem d99_26 : cod 99 26 = some (.aload_n 1, 27) := by decide +kernel
theorem d99_27 : cod 99 27 = some (.invokevirtual 535, 30) := by decide +kernel
theorem d99_30 : cod 99 30 = some (.aload_n 0, 31) := by decide +kernel
theorem d99_31 : cod 99 31 = some (.getfield 25, 34) := by decide +kernel
theorem d99_34 : cod 99 34 = some (.aload_n 1, 35) := by decide +kernel
theorem d99_35 : cod 99 35 = some (.getfield 186, 38) := by decide +kernel
theorem d99_38 : cod 99 38 = some (.aaload, 39) := by decide +kernel
theorem d99_39 : cod 99 39 = some (.invokevirtual 142, 42) := by decide +kernel
theorem d99_42 : cod 99 42 = some (.return_, 43) := by decide +kernel
theorem d100_0 : cod 100 0 = some (.iload_n 1, 1) := by decide +kernel
theorem d100_1 : cod 100 1 = some (.iload_n 2, 2) := by decide +kernel
theorem d100_2 : cod 100 2 = some (.invokestatic 153, 5) := by decide +kernel
theorem d100_5 : cod 100 5 = some (.istore 6, 7) := by decide +kernel
theorem d100_7 : cod 100 7 = some (.aload_n 0, 8) := by decide +kernel
theorem d100_8 : cod 100 8 = some (.getfield 10, 11) := by decide +kernel
theorem d100_11 : cod 100 11 = some (.iload_n 3, 12) := by decide +kernel
theorem d100_12 : cod 100 12 = some (.invokevirtual 108, 15) := by decide +kernel
theorem d100_15 : cod 100 15 = some (.ifCond .eq 25, 18) := by decide +kernel
theorem d100_18 : cod 100 18 = some (.iload 6, 20) := by decide +kernel
theorem d100_20 : cod 100 20 = some (.ifCond .eq 16, 23) := by decide +kernel
theorem d100_23 : cod 100 23 = some (.aload_n 0, 24) := by decide +kernel
theorem d100_24 : cod 100 24 = some (.getfield 10, 27) := by decide +kernel
theorem d100_27 : cod 100 27 = some (.iload_n 3, 28) := by decide +kernel
theorem d100_28 : cod 100 28 = some (.iload_n 1, 29) := by decide +kernel
theorem d100_29 : cod 100 29 = some (.iload_n 2, 30) := by decide +kernel
theorem d100_30 : cod 100 30 = some (.invokevirtual 189, 33) := by decide +kernel
theorem d100_33 : cod 100 33 = some (.ifCond .eq 7, 36) := by decide +kernel
theorem d100_36 : cod 100 36 = some (.iconst 1, 37) := by decide +kernel
theorem d100_37 : cod 100 37 = some (.goto 4, 40) := by decide +kernel
theorem d100_40 : cod 100 40 = some (.iconst 0, 41) := by decide +kernel
theorem d100_41 : cod 100 41 = some (.invokestatic 112, 44) := by decide +kernel
theorem d100_44 : cod 100 44 = some (.iload 6, 46) := by decide +kernel
theorem d100_46 : cod 100 46 = some (.ifCond .eq 23, 49) := by decide +kernel
theorem d100_49 : cod 100 49 = some (.iload 4, 51) := by decide +kernel
theorem d100_51 : cod 100 51 = some (.invokestatic 115, 54) := by decide +kernel
theorem d100_54 : cod 100 54 = some (.ifCond .eq 15, 57) := by decide +kernel
theorem d100_57 : cod 100 57 = some (.iload 5, 59) := by decide +kernel
theorem d100_59 : cod 100 59 = some (.invokestatic 157, 62) := by decide +kernel
theorem d100_62 : cod 100 62 = some (.ifCond .eq 7, 65) := by decide +kernel
theorem d100_65 : cod 100 65 = some (.iconst 1, 66) := by decide +kernel
theorem d100_66 : cod 100 66 = some (.goto 4, 69) := by decide +kernel
theorem d100_69 : cod 100 69 = some (.iconst 0, 70) := by decide +kernel
theorem d100_70 : cod 100 70 = some (.invokestatic 88, 73) := by decide +kernel
theorem d100_73 : cod 100 73 = some (.aload_n 0, 74) := by decide +kernel
theorem d100_74 : cod 100 74 = some (.iload 5, 76) := by decide +kernel
theorem d100_76 : cod 100 76 = some (.invokevirtual 160, 79) := by decide +kernel
theorem d100_79 : cod 100 79 = some (.invokestatic 122, 82) := by decide +kernel
theorem d100_82 : cod 100 82 = some (.new 136, 85) := by decide +kernel
theorem d100_85 : cod 100 85 = some (.dup, 86) := by decide +kernel
theorem d100_86 : cod 100 86 = some (.aload_n 0, 87) := by decide +kernel
theorem d100_87 : cod 100 87 = some (.getfield 19, 90) := by decide +kernel
theorem d100_90 : cod 100 90 = some (.invokevirtual 129, 93) := by decide +kernel
theorem d100_93 : cod 100 93 = some (.iload_n 1, 94) := by decide +kernel
theorem d100_94 : cod 100 94 = some (.iload_n 2, 95) := by decide +kernel
theorem d100_95 : cod 100 95 = some (.iload 5, 97) := by decide +kernel
theorem d100_97 : cod 100 97 = some (.iconst 0, 98) := by decide +kernel
theorem d100_98 : cod 100 98 = some (.invokespecial 163, 101) := by decide +kernel
theorem d100_101 : cod 100 101 = some (.astore 7, 103) := by decide +kernel
theorem d100_103 : cod 100 103 = some (.aload 7, 105) := by decide +kernel
theorem d100_105 : cod 100 105 = some (.aload_n 0, 106) := by decide +kernel
theorem d100_106 : cod 100 106 = some (.getfield 10, 109) := by decide +kernel
theorem d100_109 : cod 100 109 = some (.iload_n 3, 110) := by decide +kernel
theorem d100_110 : cod 100 110 = some (.iload 4, 112) := by decide +kernel
theorem d100_112 : cod 100 112 = some (.invokevirtual 192, 115) := by decide +kernel
theorem d100_115 : cod 100 115 = some (.aload_n 0, 116) := by decide +kernel
theorem d100_116 : cod 100 116 = some (.aload 7, 118) := by decide +kernel
theorem d100_118 : cod 100 118 = some (.invokevirtual 166, 121) := by decide +kernel
theorem d100_121 : cod 100 121 = some (.aload 7, 123) := by decide +kernel
theorem d100_123 : cod 100 123 = some (.getfield 170, 126) := by decide +kernel
theorem d100_126 : cod 100 126 = some (.ireturn, 127) := by decide +kernel
theorem d101_0 : cod 101 0 = some (.iload_n 0, 1) := by decide +kernel
theorem d101_1 : cod 101 1 = some (.iconst 0, 2) := by decide +kernel
theorem d101_2 : cod 101 2 = some (.bipush 7, 4) := by decide +kernel
theorem d101_4 : cod 101 4 = some (.invokestatic 84, 7) := by decide +kernel
theorem d101_7 : cod 101 7 = some (.ireturn, 8) := by decide +kernel
theorem d102_0 : cod 102 0 = some (.aload_n 0, 1) := by decide +kernel
theorem d102_1 : cod 102 1 = some (.iload_n 1, 2) := by decide +kernel
theorem d102_2 : cod 102 2 = some (.invokevirtual 173, 5) := by decide +kernel
theorem d102_5 : cod 102 5 = some (.ifCond .eq 31, 8) := by decide +kernel
theorem d102_8 : cod 102 8 = some (.iload_n 2, 9) := by decide +kernel
theorem d102_9 : cod 102 9 = some (.iconst 0, 10) := by decide +kernel
theorem d102_10 : cod 102 10 = some (.aload_n 0, 11) := by decide +kernel
theorem d102_11 : cod 102 11 = some (.getfield 19, 14) := by decide +kernel
theorem d102_14 : cod 102 14 = some (.iload_n 1, 15) := by decide +kernel
theorem d102_15 : cod 102 15 = some (.invokevirtual 132, 18) := by decide +kernel
theorem d102_18 : cod 102 18 = some (.checkcast 136, 21) := by decide +kernel
theorem d102_21 : cod 102 21 = some (.invokevirtual 176, 24) := by decide +kernel
theorem d102_24 : cod 102 24 = some (.iconst 1, 25) := by decide +kernel
theorem d102_25 : cod 102 25 = some (.isub, 26) := by decide +kernel
theorem d102_26 : cod 102 26 = some (.invokestatic 84, 29) := by decide +kernel
theorem d102_29 : cod 102 29 = some (.ifCond .eq 7, 32) := by decide +kernel
theorem d102_32 : cod 102 32 = some (.iconst 1, 33) := by decide +kernel
theorem d102_33 : cod 102 33 = some (.goto 4, 36) := by decide +kernel
theorem d102_36 : cod 102 36 = some (.iconst 0, 37) := by decide +kernel
theorem d102_37 : cod 102 37 = some (.invokestatic 112, 40) := by decide +kernel
theorem d102_40 : cod 102 40 = some (.iload_n 3, 41) := by decide +kernel
theorem d102_41 : cod 102 41 = some (.iconst 0, 42) := by decide +kernel
theorem d102_42 : cod 102 42 = some (.sipush 1023, 45) := by decide +kernel
theorem d102_45 : cod 102 45 = some (.invokestatic 84, 48) := by decide +kernel
theorem d102_48 : cod 102 48 = some (.invokestatic 88, 51) := by decide +kernel
theorem d102_51 : cod 102 51 = some (.aload_n 0, 52) := by decide +kernel
theorem d102_52 : cod 102 52 = some (.getfield 19, 55) := by decide +kernel
theorem d102_55 : cod 102 55 = some (.iload_n 1, 56) := by decide +kernel
theorem d102_56 : cod 102 56 = some (.invokevirtual 132, 59) := by decide +kernel
theorem d102_59 : cod 102 59 = some (.checkcast 136, 62) := by decide +kernel
theorem d102_62 : cod 102 62 = some (.astore 5, 64) := by decide +kernel
theorem d102_64 : cod 102 64 = some (.aload 5, 66) := by decide +kernel
theorem d102_66 : cod 102 66 = some (.getfield 179, 69) := by decide +kernel
theorem d102_69 : cod 102 69 = some (.iload_n 2, 70) := by decide +kernel
theorem d102_70 : cod 102 70 = some (.iaload, 71) := by decide +kernel
theorem d102_71 : cod 102 71 = some (.istore 6, 73) := by decide +kernel
theorem d102_73 : cod 102 73 = some (.aload 5, 75) := by decide +kernel
theorem d102_75 : cod 102 75 = some (.getfield 179, 78) := by decide +kernel
theorem d102_78 : cod 102 78 = some (.iload_n 2, 79) := by decide +kernel
theorem d102_79 : cod 102 79 = some (.iload_n 3, 80) := by decide +kernel
theorem d102_80 : cod 102 80 = some (.iastore, 81) := by decide +kernel
theorem d102_81 : cod 102 81 = some (.aload 5, 83) := by decide +kernel
theorem d102_83 : cod 102 83 = some (.getfield 182, 86) := by decide +kernel
theorem d102_86 : cod 102 86 = some (.iload_n 2, 87) := by decide +kernel
theorem d102_87 : cod 102 87 = some (.iload 4, 89) := by decide +kernel
theorem d102_89 : cod 102 89 = some (.bastore, 90) := by decide +kernel
theorem d102_90 : cod 102 90 = some (.aload 5, 92) := by decide +kernel
theorem d102_92 : cod 102 92 = some (.aload_n 0, 93) := by decide +kernel
theorem d102_93 : cod 102 93 = some (.getfield 10, 96) := by decide +kernel
theorem d102_96 : cod 102 96 = some (.invokevirtual 138, 99) := by decide +kernel
theorem d102_99 : cod 102 99 = some (.aload_n 0, 100) := by decide +kernel
theorem d102_100 : cod 102 100 = some (.getfield 25, 103) := by decide +kernel
theorem d102_103 : cod 102 103 = some (.aload 5, 105) := by decide +kernel
theorem d102_105 : cod 102 105 = some (.getfield 186, 108) := by decide +kernel
theorem d102_108 : cod 102 108 = some (.aaload, 109) := by decide +kernel
theorem d102_109 : cod 102 109 = some (.invokevirtual 142, 112) := by decide +kernel
theorem d102_112 : cod 102 112 = some (.iload 6, 114) := by decide +kernel
theorem d102_114 : cod 102 114 = some (.ireturn, 115) := by decide +kernel
theorem d103_0 : cod 103 0 = some (.iload_n 1, 1) := by decide +kernel
theorem d103_1 : cod 103 1 = some (.iconst 0, 2) := by decide +kernel
theorem d103_2 : cod 103 2 = some (.aload_n 0, 3) := by decide +kernel
theorem d103_3 : cod 103 3 = some (.getfield 19, 6) := by decide +kernel
theorem d103_6 : cod 103 6 = some (.invokevirtual 129, 9) := by decide +kernel
theorem d103_9 : cod 103 9 = some (.iconst 1, 10) := by decide +kernel
theorem d103_10 : cod 103 10 = some (.isub, 11) := by decide +kernel
theorem d103_11 : cod 103 11 = some (.invokestatic 84, 14) := by decide +kernel
theorem d103_14 : cod 103 14 = some (.ireturn, 15) := by decide +kernel
theorem d104_0 : cod 104 0 = some (.aload_n 0, 1) := by decide +kernel
theorem d104_1 : cod 104 1 = some (.iload_n 1, 2) := by decide +kernel
theorem d104_2 : cod 104 2 = some (.invokevirtual 173, 5) := by decide +kernel
theorem d104_5 : cod 104 5 = some (.ifCond .eq 16, 8) := by decide +kernel
theorem d104_8 : cod 104 8 = some (.iload_n 2, 9) := by decide +kernel
theorem d104_9 : cod 104 9 = some (.iconst 0, 10) := by decide +kernel
theorem d104_10 : cod 104 10 = some (.iconst 3, 11) := by decide +kernel
theorem d104_11 : cod 104 11 = some (.invokestatic 84, 14) := by decide +kernel
theorem d104_14 : cod 104 14 = some (.ifCond .eq 7, 17) := by decide +kernel
theorem d104_17 : cod 104 17 = some (.iconst 1, 18) := by decide +kernel
theorem d104_18 : cod 104 18 = some (.goto 4, 21) := by decide +kernel
theorem d104_21 : cod 104 21 = some (.iconst 0, 22) := by decide +kernel
theorem d104_22 : cod 104 22 = some (.invokestatic 112, 25) := by decide +kernel
theorem d104_25 : cod 104 25 = some (.iload_n 3, 26) := by decide +kernel
theorem d104_26 : cod 104 26 = some (.iconst 5, 27) := by decide +kernel
theorem d104_27 : cod 104 27 = some (.bipush 20, 29) := by decide +kernel
theorem d104_29 : cod 104 29 = some (.invokestatic 84, 32) := by decide +kernel
theorem d104_32 : cod 104 32 = some (.ifCond .eq 20, 35) := by decide +kernel
theorem d104_35 : cod 104 35 = some (.iload 4, 37) := by decide +kernel
theorem d104_37 : cod 104 37 = some (.bipush 50, 39) := by decide +kernel
theorem d104_39 : cod 104 39 = some (.sipush 400, 42) := by decide +kernel
theorem d104_42 : cod 104 42 = some (.invokestatic 84, 45) := by decide +kernel
theorem d104_45 : cod 104 45 = some (.ifCond .eq 7, 48) := by decide +kernel
theorem d104_48 : cod 104 48 = some (.iconst 1, 49) := by decide +kernel
theorem d104_49 : cod 104 49 = some (.goto 4, 52) := by decide +kernel
theorem d104_52 : cod 104 52 = some (.iconst 0, 53) := by decide +kernel
theorem d104_53 : cod 104 53 = some (.invokestatic 88, 56) := by decide +kernel
theorem d104_56 : cod 104 56 = some (.iload_n 3, 57) := by decide +kernel
theorem d104_57 : cod 104 57 = some (.sipush 200, 60) := by decide +kernel
theorem d104_60 : cod 104 60 = some (.imul, 61) := by decide +kernel
theorem d104_61 : cod 104 61 = some (.iconst 4, 62) := by decide +kernel
theorem d104_62 : cod 104 62 = some (.imul, 63) := by decide +kernel
theorem d104_63 : cod 104 63 = some (.iload 4, 65) := by decide +kernel
theorem d104_65 : cod 104 65 = some (.iconst 2, 66) := by decide +kernel
theorem d104_66 : cod 104 66 = some (.idiv, 67) := by decide +kernel
theorem d104_67 : cod 104 67 = some (.iadd, 68) := by decide +kernel
theorem d104_68 : cod 104 68 = some (.iload 4, 70) := by decide +kernel
theorem d104_70 : cod 104 70 = some (.idiv, 71) := by decide +kernel
theorem d104_71 : cod 104 71 = some (.istore 5, 73) := by decide +kernel
theorem d104_73 : cod 104 73 = some (.aload_n 0, 74) := by decide +kernel
theorem d104_74 : cod 104 74 = some (.getfield 19, 77) := by decide +kernel
theorem d104_77 : cod 104 77 = some (.iload_n 1, 78) := by decide +kernel
theorem d104_78 : cod 104 78 = some (.invokevirtual 132, 81) := by decide +kernel
theorem d104_81 : cod 104 81 = some (.checkcast 136, 84) := by decide +kernel
theorem d104_84 : cod 104 84 = some (.getfield 260, 87) := by decide +kernel
theorem d104_87 : cod 104 87 = some (.iload_n 2, 88) := by decide +kernel
theorem d104_88 : cod 104 88 = some (.iload 5, 90) := by decide +kernel
theorem d104_90 : cod 104 90 = some (.iastore, 91) := by decide +kernel
theorem d104_91 : cod 104 91 = some (.iload 5, 93) := by decide +kernel
theorem d104_93 : cod 104 93 = some (.ireturn, 94) := by decide +kernel
theorem d105_0 : cod 105 0 = some (.iload_n 1, 1) := by decide +kernel
theorem d105_1 : cod 105 1 = some (.invokestatic 266, 4) := by decide +kernel
theorem d105_4 : cod 105 4 = some (.ifCond .eq 14, 7) := by decide +kernel
theorem d105_7 : cod 105 7 = some (.iload_n 2, 8) := by decide +kernel
theorem d105_8 : cod 105 8 = some (.invokestatic 266, 11) := by decide +kernel
theorem d105_11 : cod 105 11 = some (.ifCond .eq 7, 14) := by decide +kernel
theorem d105_14 : cod 105 14 = some (.iconst 1, 15) := by decide +kernel
theorem d105_15 : cod 105 15 = some (.goto 4, 18) := by decide +kernel
theorem d105_18 : cod 105 18 = some (.iconst 0, 19) := by decide +kernel
theorem d105_19 : cod 105 19 = some (.invokestatic 112, 22) := by decide +kernel
theorem d105_22 : cod 105 22 = some (.iload_n 1, 23) := by decide +kernel
theorem d105_23 : cod 105 23 = some (.iload_n 2, 24) := by decide +kernel
theorem d105_24 : cod 105 24 = some (.if_icmp .eq 17, 27) := by decide +kernel
theorem d105_27 : cod 105 27 = some (.iload_n 3, 28) := by decide +kernel
theorem d105_28 : cod 105 28 = some (.iconst 0, 29) := by decide +kernel
theorem d105_29 : cod 105 29 = some (.bipush 9, 31) := by decide +kernel
theorem d105_31 : cod 105 31 = some (.invokestatic 84, 34) := by decide +kernel
theorem d105_34 : cod 105 34 = some (.ifCond .eq 7, 37) := by decide +kernel
theorem d105_37 : cod 105 37 = some (.iconst 1, 38) := by decide +kernel
theorem d105_38 : cod 105 38 = some (.goto 4, 41) := by decide +kernel
theorem d105_41 : cod 105 41 = some (.iconst 0, 42) := by decide +kernel
theorem d105_42 : cod 105 42 = some (.invokestatic 88, 45) := by decide +kernel
theorem d105_45 : cod 105 45 = some (.aload_n 0, 46) := by decide +kernel
theorem d105_46 : cod 105 46 = some (.getfield 33, 49) := by decide +kernel
theorem d105_49 : cod 105 49 = some (.iload_n 1, 50) := by decide +kernel
theorem d105_50 : cod 105 50 = some (.iload_n 2, 51) := by decide +kernel
theorem d105_51 : cod 105 51 = some (.iload_n 3, 52) := by decide +kernel
theorem d105_52 : cod 105 52 = some (.invokevirtual 269, 55) := by decide +kernel
theorem d105_55 : cod 105 55 = some (.aload_n 0, 56) := by decide +kernel
theorem d105_56 : cod 105 56 = some (.getfield 33, 59) := by decide +kernel
theorem d105_59 : cod 105 59 = some (.iload_n 1, 60) := by decide +kernel
theorem d105_60 : cod 105 60 = some (.iload_n 2, 61) := by decide +kernel
theorem d105_61 : cod 105 61 = some (.invokevirtual 273, 64) := by decide +kernel
theorem d105_64 : cod 105 64 = some (.ireturn, 65) := by decide +kernel
theorem d106_0 : cod 106 0 = some (.iload_n 1, 1) := by decide +kernel
theorem d106_1 : cod 106 1 = some (.invokestatic 266, 4) := by decide +kernel
theorem d106_4 : cod 106 4 = some (.ifCond .eq 32, 7) := by decide +kernel
theorem d106_7 : cod 106 7 = some (.iload_n 2, 8) := by decide +kernel
theorem d106_8 : cod 106 8 = some (.invokestatic 266, 11) := by decide +kernel
theorem d106_11 : cod 106 11 = some (.ifCond .eq 25, 14) := by decide +kernel
theorem d106_14 : cod 106 14 = some (.iload 4, 16) := by decide +kernel
theorem d106_16 : cod 106 16 = some (.iconst 0, 17) := by decide +kernel
theorem d106_17 : cod 106 17 = some (.aload_n 0, 18) := by decide +kernel
theorem d106_18 : cod 106 18 = some (.getfield 40, 21) := by decide +kernel
theorem d106_21 : cod 106 21 = some (.invokevirtual 129, 24) := by decide +kernel
theorem d106_24 : cod 106 24 = some (.iconst 1, 25) := by decide +kernel
theorem d106_25 : cod 106 25 = some (.isub, 26) := by decide +kernel
theorem d106_26 : cod 106 26 = some (.invokestatic 84, 29) := by decide +kernel
theorem d106_29 : cod 106 29 = some (.ifCond .eq 7, 32) := by decide +kernel
theorem d106_32 : cod 106 32 = some (.iconst 1, 33) := by decide +kernel
theorem d106_33 : cod 106 33 = some (.goto 4, 36) := by decide +kernel
theorem d106_36 : cod 106 36 = some (.iconst 0, 37) := by decide +kernel
theorem d106_37 : cod 106 37 = some (.invokestatic 112, 40) := by decide +kernel
theorem d106_40 : cod 106 40 = some (.iload_n 3, 41) := by decide +kernel
theorem d106_41 : cod 106 41 = some (.iconst 1, 42) := by decide +kernel
theorem d106_42 : cod 106 42 = some (.iconst 4, 43) := by decide +kernel
theorem d106_43 : cod 106 43 = some (.invokestatic 84, 46) := by decide +kernel
theorem d106_46 : cod 106 46 = some (.ifCond .eq 15, 49) := by decide +kernel
theorem d106_49 : cod 106 49 = some (.iload 5, 51) := by decide +kernel
theorem d106_51 : cod 106 51 = some (.invokestatic 276, 54) := by decide +kernel
theorem d106_54 : cod 106 54 = some (.ifCond .eq 7, 57) := by decide +kernel
theorem d106_57 : cod 106 57 = some (.iconst 1, 58) := by decide +kernel
theorem d106_58 : cod 106 58 = some (.goto 4, 61) := by decide +kernel
theorem d106_61 : cod 106 61 = some (.iconst 0, 62) := by decide +kernel
theorem d106_62 : cod 106 62 = some (.invokestatic 88, 65) := by decide +kernel
theorem d106_65 : cod 106 65 = some (.aload_n 0, 66) := by decide +kernel
theorem d106_66 : cod 106 66 = some (.getfield 43, 69) := by decide +kernel
theorem d106_69 : cod 106 69 = some (.invokevirtual 129, 72) := by decide +kernel
theorem d106_72 : cod 106 72 = some (.bipush 12, 74) := by decide +kernel
theorem d106_74 : cod 106 74 = some (.if_icmp .ge 7, 77) := by decide +kernel
theorem d106_77 : cod 106 77 = some (.iconst 1, 78) := by decide +kernel
theorem d106_78 : cod 106 78 = some (.goto 4, 81) := by decide +kernel
theorem d106_81 : cod 106 81 = some (.iconst 0, 82) := by decide +kernel
theorem d106_82 : cod 106 82 = some (.invokestatic 122, 85) := by decide +kernel
theorem d106_85 : cod 106 85 = some (.new 298, 88) := by decide +kernel
theorem d106_88 : cod 106 88 = some (.dup, 89) := by decide +kernel
theorem d106_89 : cod 106 89 = some (.iload_n 1, 90) := by decide +kernel
theorem d106_90 : cod 106 90 = some (.iload_n 2, 91) := by decide +kernel
theorem d106_91 : cod 106 91 = some (.iload_n 3, 92) := by decide +kernel
theorem d106_92 : cod 106 92 = some (.iload 4, 94) := by decide +kernel
theorem d106_94 : cod 106 94 = some (.iload 5, 96) := by decide +kernel
theorem d106_96 : cod 106 96 = some (.invokespecial 300, 99) := by decide +kernel
theorem d106_99 : cod 106 99 = some (.astore 6, 101) := by decide +kernel
theorem d106_101 : cod 106 101 = some (.aload_n 0, 102) := by decide +kernel
theorem d106_102 : cod 106 102 = some (.getfield 33, 105) := by decide +kernel
theorem d106_105 : cod 106 105 = some (.iload_n 1, 106) := by decide +kernel
theorem d106_106 : cod 106 106 = some (.iload_n 2, 107) := by decide +kernel
theorem d106_107 : cod 106 107 = some (.invokevirtual 273, 110) := by decide +kernel
theorem d106_110 : cod 106 110 = some (.istore 7, 112) := by decide +kernel
theorem d106_112 : cod 106 112 = some (.aload 6, 114) := by decide +kernel
theorem d106_114 : cod 106 114 = some (.iload 7, 116) := by decide +kernel
theorem d106_116 : cod 106 116 = some (.iconst (-1), 117) := by decide +kernel
theorem d106_117 : cod 106 117 = some (.if_icmp .ne 8, 120) := by decide +kernel
theorem d106_120 : cod 106 120 = some (.iload 5, 122) := by decide +kernel
theorem d106_122 : cod 106 122 = some (.goto 8, 125) := by decide +kernel
theorem d106_125 : cod 106 125 = some (.iload 5, 127) := by decide +kernel
theorem d106_127 : cod 106 127 = some (.iload 7, 129) := by decide +kernel
theorem d106_129 : cod 106 129 = some (.iadd, 130) := by decide +kernel
theorem d106_130 : cod 106 130 = some (.putfield 303, 133) := by decide +kernel
theorem d106_133 : cod 106 133 = some (.aload_n 0, 134) := by decide +kernel
theorem d106_134 : cod 106 134 = some (.getfield 43, 137) := by decide +kernel
theorem d106_137 : cod 106 137 = some (.aload 6, 139) := by decide +kernel
theorem d106_139 : cod 106 139 = some (.invokevirtual 294, 142) := by decide +kernel
theorem d106_142 : cod 106 142 = some (.pop, 143) := by decide +kernel
theorem d106_143 : cod 106 143 = some (.aload_n 0, 144) := by decide +kernel
theorem d106_144 : cod 106 144 = some (.getfield 43, 147) := by decide +kernel
theorem d106_147 : cod 106 147 = some (.invokevirtual 129, 150) := by decide +kernel
theorem d106_150 : cod 106 150 = some (.iconst 1, 151) := by decide +kernel
theorem d106_151 : cod 106 151 = some (.isub, 152) := by decide +kernel
theorem d106_152 : cod 106 152 = some (.ireturn, 153) := by decide +kernel
theorem d107_0 : cod 107 0 = some (.aload_n 0, 1) := by decide +kernel
theorem d107_1 : cod 107 1 = some (.iload_n 1, 2) := by decide +kernel
theorem d107_2 : cod 107 2 = some (.invokevirtual 306, 5) := by decide +kernel
theorem d107_5 : cod 107 5 = some (.ifCond .eq 15, 8) := by decide +kernel
theorem d107_8 : cod 107 8 = some (.aload_n 0, 9) := by decide +kernel
theorem d107_9 : cod 107 9 = some (.iload_n 2, 10) := by decide +kernel
theorem d107_10 : cod 107 10 = some (.invokevirtual 309, 13) := by decide +kernel
theorem d107_13 : cod 107 13 = some (.ifCond .eq 7, 16) := by decide +kernel
theorem d107_16 : cod 107 16 = some (.iconst 1, 17) := by decide +kernel
theorem d107_17 : cod 107 17 = some (.goto 4, 20) := by decide +kernel
theorem d107_20 : cod 107 20 = some (.iconst 0, 21) := by decide +kernel
theorem d107_21 : cod 107 21 = some (.invokestatic 112, 24) := by decide +kernel
theorem d107_24 : cod 107 24 = some (.iload_n 3, 25) := by decide +kernel
theorem d107_25 : cod 107 25 = some (.iconst 0, 26) := by decide +kernel
theorem d107_26 : cod 107 26 = some (.iconst 4, 27) := by decide +kernel
theorem d107_27 : cod 107 27 = some (.invokestatic 84, 30) := by decide +kernel
theorem d107_30 : cod 107 30 = some (.invokestatic 88, 33) := by decide +kernel
theorem d107_33 : cod 107 33 = some (.aload_n 0, 34) := by decide +kernel
theorem d107_34 : cod 107 34 = some (.getfield 43, 37) := by decide +kernel
theorem d107_37 : cod 107 37 = some (.iload_n 1, 38) := by decide +kernel
theorem d107_38 : cod 107 38 = some (.invokevirtual 132, 41) := by decide +kernel
theorem d107_41 : cod 107 41 = some (.checkcast 298, 44) := by decide +kernel
theorem d107_44 : cod 107 44 = some (.astore 4, 46) := by decide +kernel
theorem d107_46 : cod 107 46 = some (.aload 4, 48) := by decide +kernel
theorem d107_48 : cod 107 48 = some (.getfield 312, 51) := by decide +kernel
theorem d107_51 : cod 107 51 = some (.iload_n 2, 52) := by decide +kernel
theorem d107_52 : cod 107 52 = some (.iload_n 3, 53) := by decide +kernel
theorem d107_53 : cod 107 53 = some (.iastore, 54) := by decide +kernel
theorem d107_54 : cod 107 54 = some (.aload_n 0, 55) := by decide +kernel
theorem d107_55 : cod 107 55 = some (.aload 4, 57) := by decide +kernel
theorem d107_57 : cod 107 57 = some (.invokevirtual 314, 60) := by decide +kernel
theorem d107_60 : cod 107 60 = some (.ireturn, 61) := by decide +kernel
theorem d108_0 : cod 108 0 = some (.iload_n 1, 1) := by decide +kernel
theorem d108_1 : cod 108 1 = some (.iconst 0, 2) := by decide +kernel
theorem d108_2 : cod 108 2 = some (.aload_n 0, 3) := by decide +kernel
theorem d108_3 : cod 108 3 = some (.getfield 43, 6) := by decide +kernel
theorem d108_6 : cod 108 6 = some (.invokevirtual 129, 9) := by decide +kernel
theorem d108_9 : cod 108 9 = some (.iconst 1, 10) := by decide +kernel
theorem d108_10 : cod 108 10 = some (.isub, 11) := by decide +kernel
theorem d108_11 : cod 108 11 = some (.invokestatic 84, 14) := by decide +kernel
theorem d108_14 : cod 108 14 = some (.ireturn, 15) := by decide +kernel
theorem d109_0 : cod 109 0 = some (.iload_n 1, 1) := by decide +kernel
theorem d109_1 : cod 109 1 = some (.iconst 0, 2) := by decide +kernel
theorem d109_2 : cod 109 2 = some (.aload_n 0, 3) := by decide +kernel
theorem d109_3 : cod 109 3 = some (.getfield 37, 6) := by decide +kernel
theorem d109_6 : cod 109 6 = some (.invokevirtual 129, 9) := by decide +kernel
theorem d109_9 : cod 109 9 = some (.iconst 1, 10) := by decide +kernel
theorem d109_10 : cod 109 10 = some (.isub, 11) := by decide +kernel
theorem d109_11 : cod 109 11 = some (.invokestatic 84, 14) := by decide +kernel
theorem d109_14 : cod 109 14 = some (.ireturn, 15) := by decide +kernel
theorem d110_0 : cod 110 0 = some (.iconst 0, 1) := by decide +kernel
theorem d110_1 : cod 110 1 = some (.istore_n 2, 2) := by decide +kernel
theorem d110_2 : cod 110 2 = some (.iconst 0, 3) := by decide +kernel
theorem d110_3 : cod 110 3 = some (.istore_n 3, 4) := by decide +kernel
theorem d110_4 : cod 110 4 = some (.iload_n 3, 5) := by decide +kernel
theorem d110_5 : cod 110 5 = some (.aload_n 0, 6) := by decide +kernel
theorem d110_6 : cod 110 6 = some (.getfield 37, 9) := by decide +kernel
theorem d110_9 : cod 110 9 = some (.invokevirtual 129, 12) := by decide +kernel
theorem d110_12 : cod 110 12 = some (.if_icmp .ge 33, 15) := by decide +kernel
theorem d110_15 : cod 110 15 = some (.iload_n 2, 16) := by decide +kernel
theorem d110_16 : cod 110 16 = some (.aload_n 1, 17) := by decide +kernel
theorem d110_17 : cod 110 17 = some (.getfield 312, 20) := by decide +kernel
theorem d110_20 : cod 110 20 = some (.iload_n 3, 21) := by decide +kernel
theorem d110_21 : cod 110 21 = some (.iaload, 22) := by decide +kernel
theorem d110_22 : cod 110 22 = some (.aload_n 0, 23) := by decide +kernel
theorem d110_23 : cod 110 23 = some (.getfield 37, 26) := by decide +kernel
theorem d110_26 : cod 110 26 = some (.iload_n 3, 27) := by decide +kernel
theorem d110_27 : cod 110 27 = some (.invokevirtual 132, 30) := by decide +kernel
theorem d110_30 : cod 110 30 = some (.checkcast 290, 33) := by decide +kernel
theorem d110_33 : cod 110 33 = some (.getfield 556, 36) := by decide +kernel
theorem d110_36 : cod 110 36 = some (.imul, 37) := by decide +kernel
theorem d110_37 : cod 110 37 = some (.iadd, 38) := by decide +kernel
theorem d110_38 : cod 110 38 = some (.istore_n 2, 39) := by decide +kernel
theorem d110_39 : cod 110 39 = some (.iinc 3 1, 42) := by decide +kernel
theorem d110_42 : cod 110 42 = some (.goto (-38), 45) := by decide +kernel
theorem d110_45 : cod 110 45 = some (.iload_n 2, 46) := by decide +kernel
theorem d110_46 : cod 110 46 = some (.ireturn, 47) := by decide +kernel
theorem d111_0 : cod 111 0 = some (.aload_n 0, 1) := by decide +kernel
theorem d111_1 : cod 111 1 = some (.iload_n 1, 2) := by decide +kernel
theorem d111_2 : cod 111 2 = some (.invokevirtual 306, 5) := by decide +kernel
theorem d111_5 : cod 111 5 = some (.invokestatic 112, 8) := by decide +kernel
theorem d111_8 : cod 111 8 = some (.iload_n 2, 9) := by decide +kernel
theorem d111_9 : cod 111 9 = some (.invokestatic 276, 12) := by decide +kernel
theorem d111_12 : cod 111 12 = some (.invokestatic 88, 15) := by decide +kernel
theorem d111_15 : cod 111 15 = some (.aload_n 0, 16) := by decide +kernel
theorem d111_16 : cod 111 16 = some (.getfield 43, 19) := by decide +kernel
theorem d111_19 : cod 111 19 = some (.iload_n 1, 20) := by decide +kernel
theorem d111_20 : cod 111 20 = some (.invokevirtual 132, 23) := by decide +kernel
theorem d111_23 : cod 111 23 = some (.checkcast 298, 26) := by decide +kernel
theorem d111_26 : cod 111 26 = some (.astore 4, 28) := by decide +kernel
theorem d111_28 : cod 111 28 = some (.aload 4, 30) := by decide +kernel
theorem d111_30 : cod 111 30 = some (.getfield 303, 33) := by decide +kernel
theorem d111_33 : cod 111 33 = some (.istore 5, 35) := by decide +kernel
theorem d111_35 : cod 111 35 = some (.aload 4, 37) := by decide +kernel
theorem d111_37 : cod 111 37 = some (.iload_n 2, 38) := by decide +kernel
theorem d111_38 : cod 111 38 = some (.putfield 303, 41) := by decide +kernel
theorem d111_41 : cod 111 41 = some (.aload 4, 43) := by decide +kernel
theorem d111_43 : cod 111 43 = some (.iload_n 3, 44) := by decide +kernel
theorem d111_44 : cod 111 44 = some (.putfield 318, 47) := by decide +kernel
theorem d111_47 : cod 111 47 = some (.iload 5, 49) := by decide +kernel
theorem d111_49 : cod 111 49 = some (.ireturn, 50) := by decide +kernel
theorem d112_0 : cod 112 0 = some (.iload_n 1, 1) := by decide +kernel
theorem d112_1 : cod 112 1 = some (.iconst 0, 2) := by decide +kernel
theorem d112_2 : cod 112 2 = some (.aload_n 0, 3) := by decide +kernel
theorem d112_3 : cod 112 3 = some (.getfield 49, 6) := by decide +kernel
theorem d112_6 : cod 112 6 = some (.getfield 350, 9) := by decide +kernel
theorem d112_9 : cod 112 9 = some (.invokestatic 84, 12) := by decide +kernel
theorem d112_12 : cod 112 12 = some (.invokestatic 112, 15) := by decide +kernel
theorem d112_15 : cod 112 15 = some (.iload_n 2, 16) := by decide +kernel
theorem d112_16 : cod 112 16 = some (.iconst 0, 17) := by decide +kernel
theorem d112_17 : cod 112 17 = some (.bipush 7, 19) := by decide +kernel
theorem d112_19 : cod 112 19 = some (.invokestatic 84, 22) := by decide +kernel
theorem d112_22 : cod 112 22 = some (.ifCond .eq 17, 25) := by decide +kernel
theorem d112_25 : cod 112 25 = some (.iload_n 3, 26) := by decide +kernel
theorem d112_26 : cod 112 26 = some (.iconst 0, 27) := by decide +kernel
theorem d112_27 : cod 112 27 = some (.bipush 16, 29) := by decide +kernel
theorem d112_29 : cod 112 29 = some (.invokestatic 84, 32) := by decide +kernel
theorem d112_32 : cod 112 32 = some (.ifCond .eq 7, 35) := by decide +kernel
theorem d112_35 : cod 112 35 = some (.iconst 1, 36) := by decide +kernel
theorem d112_36 : cod 112 36 = some (.goto 4, 39) := by decide +kernel
theorem d112_39 : cod 112 39 = some (.iconst 0, 40) := by decide +kernel
theorem d112_40 : cod 112 40 = some (.invokestatic 88, 43) := by decide +kernel
theorem d112_43 : cod 112 43 = some (.iload_n 1, 44) := by decide +kernel
theorem d112_44 : cod 112 44 = some (.iconst 5, 45) := by decide +kernel
theorem d112_45 : cod 112 45 = some (.if_icmp .ge 7, 48) := by decide +kernel
theorem d112_48 : cod 112 48 = some (.iconst 1, 49) := by decide +kernel
theorem d112_49 : cod 112 49 = some (.goto 4, 52) := by decide +kernel
theorem d112_52 : cod 112 52 = some (.iconst 0, 53) := by decide +kernel
theorem d112_53 : cod 112 53 = some (.invokestatic 122, 56) := by decide +kernel
theorem d112_56 : cod 112 56 = some (.aload_n 0, 57) := by decide +kernel
theorem d112_57 : cod 112 57 = some (.getfield 49, 60) := by decide +kernel
theorem d112_60 : cod 112 60 = some (.iload_n 1, 61) := by decide +kernel
theorem d112_61 : cod 112 61 = some (.iload_n 2, 62) := by decide +kernel
theorem d112_62 : cod 112 62 = some (.iload_n 3, 63) := by decide +kernel
theorem d112_63 : cod 112 63 = some (.invokevirtual 353, 66) := by decide +kernel
theorem d112_66 : cod 112 66 = some (.aload_n 0, 67) := by decide +kernel
theorem d112_67 : cod 112 67 = some (.getfield 49, 70) := by decide +kernel
theorem d112_70 : cod 112 70 = some (.getfield 350, 73) := by decide +kernel
theorem d112_73 : cod 112 73 = some (.ireturn, 74) := by decide +kernel
theorem d113_0 : cod 113 0 = some (.aload_n 0, 1) := by decide +kernel
theorem d113_1 : cod 113 1 = some (.iload_n 1, 2) := by decide +kernel
theorem d113_2 : cod 113 2 = some (.invokevirtual 173, 5) := by decide +kernel
theorem d113_5 : cod 113 5 = some (.invokestatic 112, 8) := by decide +kernel
theorem d113_8 : cod 113 8 = some (.iload_n 2, 9) := by decide +kernel
theorem d113_9 : cod 113 9 = some (.iconst 0, 10) := by decide +kernel
theorem d113_10 : cod 113 10 = some (.bipush 7, 12) := by decide +kernel
theorem d113_12 : cod 113 12 = some (.invokestatic 84, 15) := by decide +kernel
theorem d113_15 : cod 113 15 = some (.ifCond .eq 16, 18) := by decide +kernel
theorem d113_18 : cod 113 18 = some (.iload_n 3, 19) := by decide +kernel
theorem d113_19 : cod 113 19 = some (.iconst 0, 20) := by decide +kernel
theorem d113_20 : cod 113 20 = some (.iconst 2, 21) := by decide +kernel
theorem d113_21 : cod 113 21 = some (.invokestatic 84, 24) := by decide +kernel
theorem d113_24 : cod 113 24 = some (.ifCond .eq 7, 27) := by decide +kernel
theorem d113_27 : cod 113 27 = some (.iconst 1, 28) := by decide +kernel
theorem d113_28 : cod 113 28 = some (.goto 4, 31) := by decide +kernel
theorem d113_31 : cod 113 31 = some (.iconst 0, 32) := by decide +kernel
theorem d113_32 : cod 113 32 = some (.invokestatic 88, 35) := by decide +kernel
theorem d113_35 : cod 113 35 = some (.aload_n 0, 36) := by decide +kernel
theorem d113_36 : cod 113 36 = some (.getfield 19, 39) := by decide +kernel
theorem d113_39 : cod 113 39 = some (.iload_n 1, 40) := by decide +kernel
theorem d113_40 : cod 113 40 = some (.invokevirtual 132, 43) := by decide +kernel
theorem d113_43 : cod 113 43 = some (.checkcast 136, 46) := by decide +kernel
theorem d113_46 : cod 113 46 = some (.astore 4, 48) := by decide +kernel
theorem d113_48 : cod 113 48 = some (.aload 4, 50) := by decide +kernel
theorem d113_50 : cod 113 50 = some (.getfield 356, 53) := by decide +kernel
theorem d113_53 : cod 113 53 = some (.iload_n 2, 54) := by decide +kernel
theorem d113_54 : cod 113 54 = some (.iaload, 55) := by decide +kernel
theorem d113_55 : cod 113 55 = some (.istore 5, 57) := by decide +kernel
theorem d113_57 : cod 113 57 = some (.aload 4, 59) := by decide +kernel
theorem d113_59 : cod 113 59 = some (.getfield 356, 62) := by decide +kernel
theorem d113_62 : cod 113 62 = some (.iload_n 2, 63) := by decide +kernel
theorem d113_63 : cod 113 63 = some (.iload_n 3, 64) := by decide +kernel
theorem d113_64 : cod 113 64 = some (.iastore, 65) := by decide +kernel
theorem d113_65 : cod 113 65 = some (.iload 5, 67) := by decide +kernel
theorem d113_67 : cod 113 67 = some (.ireturn, 68) := by decide +kernel
theorem d114_0 : cod 114 0 = some (.aload_n 0, 1) := by decide +kernel
theorem d114_1 : cod 114 1 = some (.iload_n 1, 2) := by decide +kernel
theorem d114_2 : cod 114 2 = some (.invokevirtual 173, 5) := by decide +kernel
theorem d114_5 : cod 114 5 = some (.invokestatic 112, 8) := by decide +kernel
theorem d114_8 : cod 114 8 = some (.iload_n 2, 9) := by decide +kernel
theorem d114_9 : cod 114 9 = some (.invokestatic 366, 12) := by decide +kernel
theorem d114_12 : cod 114 12 = some (.invokestatic 88, 15) := by decide +kernel
theorem d114_15 : cod 114 15 = some (.aload_n 0, 16) := by decide +kernel
theorem d114_16 : cod 114 16 = some (.getfield 56, 19) := by decide +kernel
theorem d114_19 : cod 114 19 = some (.getfield 369, 22) := by decide +kernel
theorem d114_22 : cod 114 22 = some (.bipush 20, 24) := by decide +kernel
theorem d114_24 : cod 114 24 = some (.if_icmp .ge 7, 27) := by decide +kernel
theorem d114_27 : cod 114 27 = some (.iconst 1, 28) := by decide +kernel
theorem d114_28 : cod 114 28 = some (.goto 4, 31) := by decide +kernel
theorem d114_31 : cod 114 31 = some (.iconst 0, 32) := by decide +kernel
theorem d114_32 : cod 114 32 = some (.invokestatic 122, 35) := by decide +kernel
theorem d114_35 : cod 114 35 = some (.aload_n 0, 36) := by decide +kernel
theorem d114_36 : cod 114 36 = some (.getfield 56, 39) := by decide +kernel
theorem d114_39 : cod 114 39 = some (.iload_n 1, 40) := by decide +kernel
theorem d114_40 : cod 114 40 = some (.iload_n 2, 41) := by decide +kernel
theorem d114_41 : cod 114 41 = some (.aload_n 0, 42) := by decide +kernel
theorem d114_42 : cod 114 42 = some (.getfield 372, 45) := by decide +kernel
theorem d114_45 : cod 114 45 = some (.iload_n 3, 46) := by decide +kernel
theorem d114_46 : cod 114 46 = some (.invokevirtual 375, 49) := by decide +kernel
theorem d114_49 : cod 114 49 = some (.ireturn, 50) := by decide +kernel
theorem d115_0 : cod 115 0 = some (.iload_n 0, 1) := by decide +kernel
theorem d115_1 : cod 115 1 = some (.iconst 0, 2) := by decide +kernel
theorem d115_2 : cod 115 2 = some (.iconst 4, 3) := by decide +kernel
theorem d115_3 : cod 115 3 = some (.invokestatic 84, 6) := by decide +kernel
theorem d115_6 : cod 115 6 = some (.ireturn, 7) := by decide +kernel
theorem d116_0 : cod 116 0 = some (.aload_n 0, 1) := by decide +kernel
theorem d116_1 : cod 116 1 = some (.iload_n 1, 2) := by decide +kernel
theorem d116_2 : cod 116 2 = some (.invokevirtual 173, 5) := by decide +kernel
theorem d116_5 : cod 116 5 = some (.invokestatic 112, 8) := by decide +kernel
theorem d116_8 : cod 116 8 = some (.aload_n 0, 9) := by decide +kernel
theorem d116_9 : cod 116 9 = some (.getfield 19, 12) := by decide +kernel
theorem d116_12 : cod 116 12 = some (.iload_n 1, 13) := by decide +kernel
theorem d116_13 : cod 116 13 = some (.invokevirtual 132, 16) := by decide +kernel
theorem d116_16 : cod 116 16 = some (.checkcast 136, 19) := by decide +kernel
theorem d116_19 : cod 116 19 = some (.astore_n 3, 20) := by decide +kernel
theorem d116_20 : cod 116 20 = some (.aload_n 3, 21) := by decide +kernel
theorem d116_21 : cod 116 21 = some (.getfield 382, 24) := by decide +kernel
theorem d116_24 : cod 116 24 = some (.ifCond .ne 7, 27) := by decide +kernel
theorem d116_27 : cod 116 27 = some (.iconst 1, 28) := by decide +kernel
theorem d116_28 : cod 116 28 = some (.goto 4, 31) := by decide +kernel
theorem d116_31 : cod 116 31 = some (.iconst 0, 32) := by decide +kernel
theorem d116_32 : cod 116 32 = some (.invokestatic 122, 35) := by decide +kernel
theorem d116_35 : cod 116 35 = some (.aload_n 3, 36) := by decide +kernel
theorem d116_36 : cod 116 36 = some (.iconst 1, 37) := by decide +kernel
theorem d116_37 : cod 116 37 = some (.putfield 382, 40) := by decide +kernel
theorem d116_40 : cod 116 40 = some (.aload_n 0, 41) := by decide +kernel
theorem d116_41 : cod 116 41 = some (.getfield 56, 44) := by decide +kernel
theorem d116_44 : cod 116 44 = some (.iload_n 1, 45) := by decide +kernel
theorem d116_45 : cod 116 45 = some (.aload_n 0, 46) := by decide +kernel
theorem d116_46 : cod 116 46 = some (.getfield 372, 49) := by decide +kernel
theorem d116_49 : cod 116 49 = some (.iload_n 2, 50) := by decide +kernel
theorem d116_50 : cod 116 50 = some (.invokevirtual 385, 53) := by decide +kernel
theorem d116_53 : cod 116 53 = some (.ireturn, 54) := by decide +kernel
theorem d117_0 : cod 117 0 = some (.iload_n 1, 1) := by decide +kernel
theorem d117_1 : cod 117 1 = some (.ifCond .eq 11, 4) := by decide +kernel
theorem d117_4 : cod 117 4 = some (.aload_n 0, 5) := by decide +kernel
theorem d117_5 : cod 117 5 = some (.iload_n 2, 6) := by decide +kernel
theorem d117_6 : cod 117 6 = some (.invokevirtual 306, 9) := by decide +kernel
theorem d117_9 : cod 117 9 = some (.goto 8, 12) := by decide +kernel
theorem d117_12 : cod 117 12 = some (.aload_n 0, 13) := by decide +kernel
theorem d117_13 : cod 117 13 = some (.iload_n 2, 14) := by decide +kernel
theorem d117_14 : cod 117 14 = some (.invokevirtual 173, 17) := by decide +kernel
theorem d117_17 : cod 117 17 = some (.invokestatic 112, 20) := by decide +kernel
theorem d117_20 : cod 117 20 = some (.iload_n 3, 21) := by decide +kernel
theorem d117_21 : cod 117 21 = some (.iconst 0, 22) := by decide +kernel
theorem d117_22 : cod 117 22 = some (.sipush 9999, 25) := by decide +kernel
theorem d117_25 : cod 117 25 = some (.invokestatic 84, 28) := by decide +kernel
theorem d117_28 : cod 117 28 = some (.invokestatic 88, 31) := by decide +kernel
theorem d117_31 : cod 117 31 = some (.aload_n 0, 32) := by decide +kernel
theorem d117_32 : cod 117 32 = some (.getfield 63, 35) := by decide +kernel
theorem d117_35 : cod 117 35 = some (.getfield 392, 38) := by decide +kernel
theorem d117_38 : cod 117 38 = some (.bipush 8, 40) := by decide +kernel
theorem d117_40 : cod 117 40 = some (.if_icmp .ge 19, 43) := by decide +kernel
theorem d117_43 : cod 117 43 = some (.aload_n 0, 44) := by decide +kernel
theorem d117_44 : cod 117 44 = some (.getfield 63, 47) := by decide +kernel
theorem d117_47 : cod 117 47 = some (.iload_n 1, 48) := by decide +kernel
theorem d117_48 : cod 117 48 = some (.iload_n 2, 49) := by decide +kernel
theorem d117_49 : cod 117 49 = some (.invokevirtual 395, 52) := by decide +kernel
theorem d117_52 : cod 117 52 = some (.ifCond .ne 7, 55) := by decide +kernel
theorem d117_55 : cod 117 55 = some (.iconst 1, 56) := by decide +kernel
theorem d117_56 : cod 117 56 = some (.goto 4, 59) := by decide +kernel
theorem d117_59 : cod 117 59 = some (.iconst 0, 60) := by decide +kernel
theorem d117_60 : cod 117 60 = some (.invokestatic 122, 63) := by decide +kernel
theorem d117_63 : cod 117 63 = some (.aload_n 0, 64) := by decide +kernel
theorem d117_64 : cod 117 64 = some (.getfield 63, 67) := by decide +kernel
theorem d117_67 : cod 117 67 = some (.iload_n 1, 68) := by decide +kernel
theorem d117_68 : cod 117 68 = some (.iload_n 2, 69) := by decide +kernel
theorem d117_69 : cod 117 69 = some (.iload_n 3, 70) := by decide +kernel
theorem d117_70 : cod 117 70 = some (.invokevirtual 399, 73) := by decide +kernel
theorem d117_73 : cod 117 73 = some (.ireturn, 74) := by decide +kernel
theorem d118_0 : cod 118 0 = some (.iload_n 1, 1) := by decide +kernel
theorem d118_1 : cod 118 1 = some (.iconst 0, 2) := by decide +kernel
theorem d118_2 : cod 118 2 = some (.bipush 9, 4) := by decide +kernel
theorem d118_4 : cod 118 4 = some (.invokestatic 84, 7) := by decide +kernel
theorem d118_7 : cod 118 7 = some (.ifCond .eq 33, 10) := by decide +kernel
theorem d118_10 : cod 118 10 = some (.iload_n 2, 11) := by decide +kernel
theorem d118_11 : cod 118 11 = some (.iconst 1, 12) := by decide +kernel
theorem d118_12 : cod 118 12 = some (.aload_n 0, 13) := by decide +kernel
theorem d118_13 : cod 118 13 = some (.getfield 63, 16) := by decide +kernel
theorem d118_16 : cod 118 16 = some (.invokevirtual 403, 19) := by decide +kernel
theorem d118_19 : cod 118 19 = some (.invokestatic 84, 22) := by decide +kernel
theorem d118_22 : cod 118 22 = some (.ifCond .eq 18, 25) := by decide +kernel
theorem d118_25 : cod 118 25 = some (.iload_n 3, 26) := by decide +kernel
theorem d118_26 : cod 118 26 = some (.iconst 1, 27) := by decide +kernel
theorem d118_27 : cod 118 27 = some (.sipush 9999, 30) := by decide +kernel
theorem d118_30 : cod 118 30 = some (.invokestatic 84, 33) := by decide +kernel
theorem d118_33 : cod 118 33 = some (.ifCond .eq 7, 36) := by decide +kernel
theorem d118_36 : cod 118 36 = some (.iconst 1, 37) := by decide +kernel
theorem d118_37 : cod 118 37 = some (.goto 4, 40) := by decide +kernel
theorem d118_40 : cod 118 40 = some (.iconst 0, 41) := by decide +kernel
theorem d118_41 : cod 118 41 = some (.invokestatic 88, 44) := by decide +kernel
theorem d118_44 : cod 118 44 = some (.aload_n 0, 45) := by decide +kernel
theorem d118_45 : cod 118 45 = some (.getfield 63, 48) := by decide +kernel
theorem d118_48 : cod 118 48 = some (.getfield 406, 51) := by decide +kernel
theorem d118_51 : cod 118 51 = some (.invokevirtual 129, 54) := by decide +kernel
theorem d118_54 : cod 118 54 = some (.bipush 40, 56) := by decide +kernel
theorem d118_56 : cod 118 56 = some (.if_icmp .ge 7, 59) := by decide +kernel
theorem d118_59 : cod 118 59 = some (.iconst 1, 60) := by decide +kernel
theorem d118_60 : cod 118 60 = some (.goto 4, 63) := by decide +kernel
theorem d118_63 : cod 118 63 = some (.iconst 0, 64) := by decide +kernel
theorem d118_64 : cod 118 64 = some (.invokestatic 122, 67) := by decide +kernel
theorem d118_67 : cod 118 67 = some (.aload_n 0, 68) := by decide +kernel
theorem d118_68 : cod 118 68 = some (.getfield 63, 71) := by decide +kernel
theorem d118_71 : cod 118 71 = some (.iload_n 1, 72) := by decide +kernel
theorem d118_72 : cod 118 72 = some (.iload_n 2, 73) := by decide +kernel
theorem d118_73 : cod 118 73 = some (.iload_n 3, 74) := by decide +kernel
theorem d118_74 : cod 118 74 = some (.invokevirtual 409, 77) := by decide +kernel
theorem d118_77 : cod 118 77 = some (.ireturn, 78) := by decide +kernel
theorem d119_0 : cod 119 0 = some (.iload_n 1, 1) := by decide +kernel
theorem d119_1 : cod 119 1 = some (.invokestatic 115, 4) := by decide +kernel
theorem d119_4 : cod 119 4 = some (.ifCond .eq 17, 7) := by decide +kernel
theorem d119_7 : cod 119 7 = some (.iload_n 2, 8) := by decide +kernel
theorem d119_8 : cod 119 8 = some (.iload_n 3, 9) := by decide +kernel
theorem d119_9 : cod 119 9 = some (.iload 4, 11) := by decide +kernel
theorem d119_11 : cod 119 11 = some (.invokestatic 442, 14) := by decide +kernel
theorem d119_14 : cod 119 14 = some (.ifCond .eq 7, 17) := by decide +kernel
theorem d119_17 : cod 119 17 = some (.iconst 1, 18) := by decide +kernel
theorem d119_18 : cod 119 18 = some (.goto 4, 21) := by decide +kernel
theorem d119_21 : cod 119 21 = some (.iconst 0, 22) := by decide +kernel
theorem d119_22 : cod 119 22 = some (.invokestatic 88, 25) := by decide +kernel
theorem d119_25 : cod 119 25 = some (.aload_n 0, 26) := by decide +kernel
theorem d119_26 : cod 119 26 = some (.getfield 70, 29) := by decide +kernel
theorem d119_29 : cod 119 29 = some (.iload_n 1, 30) := by decide +kernel
theorem d119_30 : cod 119 30 = some (.iload_n 2, 31) := by decide +kernel
theorem d119_31 : cod 119 31 = some (.iload_n 3, 32) := by decide +kernel
theorem d119_32 : cod 119 32 = some (.iload 4, 34) := by decide +kernel
theorem d119_34 : cod 119 34 = some (.invokevirtual 445, 37) := by decide +kernel
theorem d119_37 : cod 119 37 = some (.aload_n 0, 38) := by decide +kernel
theorem d119_38 : cod 119 38 = some (.getfield 70, 41) := by decide +kernel
theorem d119_41 : cod 119 41 = some (.getfield 447, 44) := by decide +kernel
theorem d119_44 : cod 119 44 = some (.ireturn, 45) := by decide +kernel
theorem d120_0 : cod 120 0 = some (.iload_n 0, 1) := by decide +kernel
theorem d120_1 : cod 120 1 = some (.iconst 0, 2) := by decide +kernel
theorem d120_2 : cod 120 2 = some (.bipush 99, 4) := by decide +kernel
theorem d120_4 : cod 120 4 = some (.invokestatic 84, 7) := by decide +kernel
theorem d120_7 : cod 120 7 = some (.ifCond .eq 27, 10) := by decide +kernel
theorem d120_10 : cod 120 10 = some (.iload_n 1, 11) := by decide +kernel
theorem d120_11 : cod 120 11 = some (.iconst 0, 12) := by decide +kernel
theorem d120_12 : cod 120 12 = some (.bipush 99, 14) := by decide +kernel
theorem d120_14 : cod 120 14 = some (.invokestatic 84, 17) := by decide +kernel
theorem d120_17 : cod 120 17 = some (.ifCond .eq 17, 20) := by decide +kernel
theorem d120_20 : cod 120 20 = some (.iload_n 2, 21) := by decide +kernel
theorem d120_21 : cod 120 21 = some (.iconst 0, 22) := by decide +kernel
theorem d120_22 : cod 120 22 = some (.bipush 99, 24) := by decide +kernel
theorem d120_24 : cod 120 24 = some (.invokestatic 84, 27) := by decide +kernel
theorem d120_27 : cod 120 27 = some (.ifCond .eq 7, 30) := by decide +kernel
theorem d120_30 : cod 120 30 = some (.iconst 1, 31) := by decide +kernel
theorem d120_31 : cod 120 31 = some (.goto 4, 34) := by decide +kernel
theorem d120_34 : cod 120 34 = some (.iconst 0, 35) := by decide +kernel
theorem d120_35 : cod 120 35 = some (.ireturn, 36) := by decide +kernel
theorem d121_0 : cod 121 0 = some (.aload_n 0, 1) := by decide +kernel
theorem d121_1 : cod 121 1 = some (.iload_n 1, 2) := by decide +kernel
theorem d121_2 : cod 121 2 = some (.invokevirtual 173, 5) := by decide +kernel
theorem d121_5 : cod 121 5 = some (.invokestatic 112, 8) := by decide +kernel
theorem d121_8 : cod 121 8 = some (.iload_n 2, 9) := by decide +kernel
theorem d121_9 : cod 121 9 = some (.iload_n 3, 10) := by decide +kernel
theorem d121_10 : cod 121 10 = some (.iload 4, 12) := by decide +kernel
theorem d121_12 : cod 121 12 = some (.invokestatic 442, 15) := by decide +kernel
theorem d121_15 : cod 121 15 = some (.ifCond .eq 18, 18) := by decide +kernel
theorem d121_18 : cod 121 18 = some (.iload 5, 20) := by decide +kernel
theorem d121_20 : cod 121 20 = some (.iconst 0, 21) := by decide +kernel
theorem d121_21 : cod 121 21 = some (.bipush 50, 23) := by decide +kernel
theorem d121_23 : cod 121 23 = some (.invokestatic 84, 26) := by decide +kernel
theorem d121_26 : cod 121 26 = some (.ifCond .eq 7, 29) := by decide +kernel
theorem d121_29 : cod 121 29 = some (.iconst 1, 30) := by decide +kernel
theorem d121_30 : cod 121 30 = some (.goto 4, 33) := by decide +kernel
theorem d121_33 : cod 121 33 = some (.iconst 0, 34) := by decide +kernel
theorem d121_34 : cod 121 34 = some (.invokestatic 88, 37) := by decide +kernel
theorem d121_37 : cod 121 37 = some (.aload_n 0, 38) := by decide +kernel
theorem d121_38 : cod 121 38 = some (.getfield 19, 41) := by decide +kernel
theorem d121_41 : cod 121 41 = some (.iload_n 1, 42) := by decide +kernel
theorem d121_42 : cod 121 42 = some (.invokevirtual 132, 45) := by decide +kernel
theorem d121_45 : cod 121 45 = some (.checkcast 136, 48) := by decide +kernel
theorem d121_48 : cod 121 48 = some (.astore 6, 50) := by decide +kernel
theorem d121_50 : cod 121 50 = some (.aload 6, 52) := by decide +kernel
theorem d121_52 : cod 121 52 = some (.iconst 1, 53) := by decide +kernel
theorem d121_53 : cod 121 53 = some (.putfield 448, 56) := by decide +kernel
theorem d121_56 : cod 121 56 = some (.aload 6, 58) := by decide +kernel
theorem d121_58 : cod 121 58 = some (.getfield 451, 61) := by decide +kernel
theorem d121_61 : cod 121 61 = some (.iconst 0, 62) := by decide +kernel
theorem d121_62 : cod 121 62 = some (.iload_n 2, 63) := by decide +kernel
theorem d121_63 : cod 121 63 = some (.iastore, 64) := by decide +kernel
theorem d121_64 : cod 121 64 = some (.aload 6, 66) := by decide +kernel
theorem d121_66 : cod 121 66 = some (.getfield 451, 69) := by decide +kernel
theorem d121_69 : cod 121 69 = some (.iconst 1, 70) := by decide +kernel
theorem d121_70 : cod 121 70 = some (.iload_n 3, 71) := by decide +kernel
theorem d121_71 : cod 121 71 = some (.iastore, 72) := by decide +kernel
theorem d121_72 : cod 121 72 = some (.aload 6, 74) := by decide +kernel
theorem d121_74 : cod 121 74 = some (.getfield 451, 77) := by decide +kernel
theorem d121_77 : cod 121 77 = some (.iconst 2, 78) := by decide +kernel
theorem d121_78 : cod 121 78 = some (.iload 4, 80) := by decide +kernel
theorem d121_80 : cod 121 80 = some (.iastore, 81) := by decide +kernel
theorem d121_81 : cod 121 81 = some (.aload 6, 83) := by decide +kernel
theorem d121_83 : cod 121 83 = some (.iload 5, 85) := by decide +kernel
theorem d121_85 : cod 121 85 = some (.putfield 454, 88) := by decide +kernel
theorem d121_88 : cod 121 88 = some (.aload_n 0, 89) := by decide +kernel
theorem d121_89 : cod 121 89 = some (.getfield 70, 92) := by decide +kernel
theorem d121_92 : cod 121 92 = some (.aload 6, 94) := by decide +kernel
theorem d121_94 : cod 121 94 = some (.invokevirtual 457, 97) := by decide +kernel
theorem d121_97 : cod 121 97 = some (.ireturn, 98) := by decide +kernel
theorem d122_0 : cod 122 0 = some (.iload_n 1, 1) := by decide +kernel
theorem d122_1 : cod 122 1 = some (.iconst 1, 2) := by decide +kernel
theorem d122_2 : cod 122 2 = some (.sipush 400, 5) := by decide +kernel
theorem d122_5 : cod 122 5 = some (.invokestatic 84, 8) := by decide +kernel
theorem d122_8 : cod 122 8 = some (.invokestatic 88, 11) := by decide +kernel
theorem d122_11 : cod 122 11 = some (.aload_n 0, 12) := by decide +kernel
theorem d122_12 : cod 122 12 = some (.getfield 372, 15) := by decide +kernel
theorem d122_15 : cod 122 15 = some (.iload_n 1, 16) := by decide +kernel
theorem d122_16 : cod 122 16 = some (.iadd, 17) := by decide +kernel
theorem d122_17 : cod 122 17 = some (.sipush 999, 20) := by decide +kernel
theorem d122_20 : cod 122 20 = some (.if_icmp .gt 7, 23) := by decide +kernel
theorem d122_23 : cod 122 23 = some (.iconst 1, 24) := by decide +kernel
theorem d122_24 : cod 122 24 = some (.goto 4, 27) := by decide +kernel
theorem d122_27 : cod 122 27 = some (.iconst 0, 28) := by decide +kernel
theorem d122_28 : cod 122 28 = some (.invokestatic 122, 31) := by decide +kernel
theorem d122_31 : cod 122 31 = some (.aload_n 0, 32) := by decide +kernel
theorem d122_32 : cod 122 32 = some (.dup, 33) := by decide +kernel
theorem d122_33 : cod 122 33 = some (.getfield 372, 36) := by decide +kernel
theorem d122_36 : cod 122 36 = some (.iload_n 1, 37) := by decide +kernel
theorem d122_37 : cod 122 37 = some (.iadd, 38) := by decide +kernel
theorem d122_38 : cod 122 38 = some (.putfield 372, 41) := by decide +kernel
theorem d122_41 : cod 122 41 = some (.aload_n 0, 42) := by decide +kernel
theorem d122_42 : cod 122 42 = some (.getfield 372, 45) := by decide +kernel
theorem d122_45 : cod 122 45 = some (.ireturn, 46) := by decide +kernel
theorem d123_0 : cod 123 0 = some (.ldc2_w 486, 3) := by decide +kernel
theorem d123_3 : cod 123 3 = some (.aload_n 0, 4) := by decide +kernel
theorem d123_4 : cod 123 4 = some (.getfield 372, 7) := by decide +kernel
theorem d123_7 : cod 123 7 = some (.i2l, 8) := by decide +kernel
theorem d123_8 : cod 123 8 = some (.invokestatic 488, 11) := by decide +kernel
theorem d123_11 : cod 123 11 = some (.lstore_n 1, 12) := by decide +kernel
theorem d123_12 : cod 123 12 = some (.lload_n 1, 13) := by decide +kernel
theorem d123_13 : cod 123 13 = some (.aload_n 0, 14) := by decide +kernel
theorem d123_14 : cod 123 14 = some (.getfield 10, 17) := by decide +kernel
theorem d123_17 : cod 123 17 = some (.getfield 118, 20) := by decide +kernel
theorem d123_20 : cod 123 20 = some (.i2l, 21) := by decide +kernel
theorem d123_21 : cod 123 21 = some (.invokestatic 488, 24) := by decide +kernel
theorem d123_24 : cod 123 24 = some (.lstore_n 1, 25) := by decide +kernel
theorem d123_25 : cod 123 25 = some (.aload_n 0, 26) := by decide +kernel
theorem d123_26 : cod 123 26 = some (.lload_n 1, 27) := by decide +kernel
theorem d123_27 : cod 123 27 = some (.invokevirtual 492, 30) := by decide +kernel
theorem d123_30 : cod 123 30 = some (.lstore_n 1, 31) := by decide +kernel
theorem d123_31 : cod 123 31 = some (.aload_n 0, 32) := by decide +kernel
theorem d123_32 : cod 123 32 = some (.lload_n 1, 33) := by decide +kernel
theorem d123_33 : cod 123 33 = some (.invokevirtual 496, 36) := by decide +kernel
theorem d123_36 : cod 123 36 = some (.lstore_n 1, 37) := by decide +kernel
theorem d123_37 : cod 123 37 = some (.aload_n 0, 38) := by decide +kernel
theorem d123_38 : cod 123 38 = some (.lload_n 1, 39) := by decide +kernel
theorem d123_39 : cod 123 39 = some (.invokevirtual 499, 42) := by decide +kernel
theorem d123_42 : cod 123 42 = some (.lstore_n 1, 43) := by decide +kernel
theorem d123_43 : cod 123 43 = some (.aload_n 0, 44) := by decide +kernel
theorem d123_44 : cod 123 44 = some (.lload_n 1, 45) := by decide +kernel
theorem d123_45 : cod 123 45 = some (.invokevirtual 502, 48) := by decide +kernel
theorem d123_48 : cod 123 48 = some (.lstore_n 1, 49) := by decide +kernel
theorem d123_49 : cod 123 49 = some (.aload_n 0, 50) := by decide +kernel
theorem d123_50 : cod 123 50 = some (.lload_n 1, 51) := by decide +kernel
theorem d123_51 : cod 123 51 = some (.invokevirtual 505, 54) := by decide +kernel
theorem d123_54 : cod 123 54 = some (.lstore_n 1, 55) := by decide +kernel
theorem d123_55 : cod 123 55 = some (.iconst 0, 56) := by decide +kernel
theorem d123_56 : cod 123 56 = some (.istore_n 3, 57) := by decide +kernel
theorem d123_57 : cod 123 57 = some (.iload_n 3, 58) := by decide +kernel
theorem d123_58 : cod 123 58 = some (.iconst 5, 59) := by decide +kernel
theorem d123_59 : cod 123 59 = some (.if_icmp .ge 24, 62) := by decide +kernel
theorem d123_62 : cod 123 62 = some (.lload_n 1, 63) := by decide +kernel
theorem d123_63 : cod 123 63 = some (.aload_n 0, 64) := by decide +kernel
theorem d123_64 : cod 123 64 = some (.getfield 56, 67) := by decide +kernel
theorem d123_67 : cod 123 67 = some (.getfield 389, 70) := by decide +kernel
theorem d123_70 : cod 123 70 = some (.iload_n 3, 71) := by decide +kernel
theorem d123_71 : cod 123 71 = some (.iaload, 72) := by decide +kernel
theorem d123_72 : cod 123 72 = some (.i2l, 73) := by decide +kernel
theorem d123_73 : cod 123 73 = some (.invokestatic 488, 76) := by decide +kernel
theorem d123_76 : cod 123 76 = some (.lstore_n 1, 77) := by decide +kernel
theorem d123_77 : cod 123 77 = some (.iinc 3 1, 80) := by decide +kernel
theorem d123_80 : cod 123 80 = some (.goto (-23), 83) := by decide +kernel
theorem d123_83 : cod 123 83 = some (.aload_n 0, 84) := by decide +kernel
theorem d123_84 : cod 123 84 = some (.lload_n 1, 85) := by decide +kernel
theorem d123_85 : cod 123 85 = some (.invokevirtual 508, 88) := by decide +kernel
theorem d123_88 : cod 123 88 = some (.lstore_n 1, 89) := by decide +kernel
theorem d123_89 : cod 123 89 = some (.lload_n 1, 90) := by decide +kernel
theorem d123_90 : cod 123 90 = some (.aload_n 0, 91) := by decide +kernel
theorem d123_91 : cod 123 91 = some (.bipush 6, 93) := by decide +kernel
theorem d123_93 : cod 123 93 = some (.iconst 0, 94) := by decide +kernel
theorem d123_94 : cod 123 94 = some (.invokevirtual 511, 97) := by decide +kernel
theorem d123_97 : cod 123 97 = some (.i2l, 98) := by decide +kernel
theorem d123_98 : cod 123 98 = some (.invokestatic 488, 101) := by decide +kernel
theorem d123_101 : cod 123 101 = some (.lstore_n 1, 102) := by decide +kernel
theorem d123_102 : cod 123 102 = some (.lload_n 1, 103) := by decide +kernel
theorem d123_103 : cod 123 103 = some (.aload_n 0, 104) := by decide +kernel
theorem d123_104 : cod 123 104 = some (.bipush 6, 106) := by decide +kernel
theorem d123_106 : cod 123 106 = some (.iconst 1, 107) := by decide +kernel
theorem d123_107 : cod 123 107 = some (.invokevirtual 511, 110) := by decide +kernel
theorem d123_110 : cod 123 110 = some (.i2l, 111) := by decide +kernel
theorem d123_111 : cod 123 111 = some (.invokestatic 488, 114) := by decide +kernel
theorem d123_114 : cod 123 114 = some (.lstore_n 1, 115) := by decide +kernel
theorem d123_115 : cod 123 115 = some (.lload_n 1, 116) := by decide +kernel
theorem d123_116 : cod 123 116 = some (.aload_n 0, 117) := by decide +kernel
theorem d123_117 : cod 123 117 = some (.invokevirtual 515, 120) := by decide +kernel
theorem d123_120 : cod 123 120 = some (.ifCond .eq 7, 123) := by decide +kernel
theorem d123_123 : cod 123 123 = some (.lconst 1, 124) := by decide +kernel
theorem d123_124 : cod 123 124 = some (.goto 4, 127) := by decide +kernel
theorem d123_127 : cod 123 127 = some (.lconst 0, 128) := by decide +kernel
theorem d123_128 : cod 123 128 = some (.invokestatic 488, 131) := by decide +kernel
theorem d123_131 : cod 123 131 = some (.lreturn, 132) := by decide +kernel
theorem d124_0 : cod 124 0 = some (.lload_n 0, 1) := by decide +kernel
theorem d124_1 : cod 124 1 = some (.ldc2_w 598, 4) := by decide +kernel
theorem d124_4 : cod 124 4 = some (.lmul, 5) := by decide +kernel
theorem d124_5 : cod 124 5 = some (.lload_n 2, 6) := by decide +kernel
theorem d124_6 : cod 124 6 = some (.ladd, 7) := by decide +kernel
theorem d124_7 : cod 124 7 = some (.lreturn, 8) := by decide +kernel
theorem d125_0 : cod 125 0 = some (.lload_n 1, 1) := by decide +kernel
theorem d125_1 : cod 125 1 = some (.lstore_n 3, 2) := by decide +kernel
theorem d125_2 : cod 125 2 = some (.iconst 0, 3) := by decide +kernel
theorem d125_3 : cod 125 3 = some (.istore 5, 5) := by decide +kernel
theorem d125_5 : cod 125 5 = some (.iload 5, 7) := by decide +kernel
theorem d125_7 : cod 125 7 = some (.aload_n 0, 8) := by decide +kernel
theorem d125_8 : cod 125 8 = some (.getfield 10, 11) := by decide +kernel
theorem d125_11 : cod 125 11 = some (.invokevirtual 104, 14) := by decide +kernel
theorem d125_14 : cod 125 14 = some (.if_icmp .ge 42, 17) := by decide +kernel
theorem d125_17 : cod 125 17 = some (.lload_n 3, 18) := by decide +kernel
theorem d125_18 : cod 125 18 = some (.aload_n 0, 19) := by decide +kernel
theorem d125_19 : cod 125 19 = some (.getfield 10, 22) := by decide +kernel
theorem d125_22 : cod 125 22 = some (.iload 5, 24) := by decide +kernel
theorem d125_24 : cod 125 24 = some (.iconst 0, 25) := by decide +kernel
theorem d125_25 : cod 125 25 = some (.invokevirtual 196, 28) := by decide +kernel
theorem d125_28 : cod 125 28 = some (.i2l, 29) := by decide +kernel
theorem d125_29 : cod 125 29 = some (.invokestatic 488, 32) := by decide +kernel
theorem d125_32 : cod 125 32 = some (.lstore_n 3, 33) := by decide +kernel
theorem d125_33 : cod 125 33 = some (.lload_n 3, 34) := by decide +kernel
theorem d125_34 : cod 125 34 = some (.aload_n 0, 35) := by decide +kernel
theorem d125_35 : cod 125 35 = some (.getfield 10, 38) := by decide +kernel
theorem d125_38 : cod 125 38 = some (.iload 5, 40) := by decide +kernel
theorem d125_40 : cod 125 40 = some (.bipush 7, 42) := by decide +kernel
theorem d125_42 : cod 125 42 = some (.invokevirtual 196, 45) := by decide +kernel
theorem d125_45 : cod 125 45 = some (.i2l, 46) := by decide +kernel
theorem d125_46 : cod 125 46 = some (.invokestatic 488, 49) := by decide +kernel
theorem d125_49 : cod 125 49 = some (.lstore_n 3, 50) := by decide +kernel
theorem d125_50 : cod 125 50 = some (.iinc 5 1, 53) := by decide +kernel
theorem d125_53 : cod 125 53 = some (.goto (-48), 56) := by decide +kernel
theorem d125_56 : cod 125 56 = some (.lload_n 3, 57) := by decide +kernel
theorem d125_57 : cod 125 57 = some (.lreturn, 58) := by decide +kernel
theorem d126_0 : cod 126 0 = some (.lload_n 1, 1) := by decide +kernel
theorem d126_1 : cod 126 1 = some (.lstore_n 3, 2) := by decide +kernel
theorem d126_2 : cod 126 2 = some (.iconst 0, 3) := by decide +kernel
theorem d126_3 : cod 126 3 = some (.istore 5, 5) := by decide +kernel
theorem d126_5 : cod 126 5 = some (.iload 5, 7) := by decide +kernel
theorem d126_7 : cod 126 7 = some (.bipush 6, 9) := by decide +kernel
theorem d126_9 : cod 126 9 = some (.if_icmp .ge 38, 12) := by decide +kernel
theorem d126_12 : cod 126 12 = some (.iconst 0, 13) := by decide +kernel
theorem d126_13 : cod 126 13 = some (.istore 6, 15) := by decide +kernel
theorem d126_15 : cod 126 15 = some (.iload 6, 17) := by decide +kernel
theorem d126_17 : cod 126 17 = some (.iconst 4, 18) := by decide +kernel
theorem d126_18 : cod 126 18 = some (.if_icmp .gt 23, 21) := by decide +kernel
theorem d126_21 : cod 126 21 = some (.lload_n 3, 22) := by decide +kernel
theorem d126_22 : cod 126 22 = some (.aload_n 0, 23) := by decide +kernel
theorem d126_23 : cod 126 23 = some (.iload 5, 25) := by decide +kernel
theorem d126_25 : cod 126 25 = some (.iload 6, 27) := by decide +kernel
theorem d126_27 : cod 126 27 = some (.invokevirtual 600, 30) := by decide +kernel
theorem d126_30 : cod 126 30 = some (.i2l, 31) := by decide +kernel
theorem d126_31 : cod 126 31 = some (.invokestatic 488, 34) := by decide +kernel
theorem d126_34 : cod 126 34 = some (.lstore_n 3, 35) := by decide +kernel
theorem d126_35 : cod 126 35 = some (.iinc 6 1, 38) := by decide +kernel
theorem d126_38 : cod 126 38 = some (.goto (-23), 41) := by decide +kernel
theorem d126_41 : cod 126 41 = some (.iinc 5 1, 44) := by decide +kernel
theorem d126_44 : cod 126 44 = some (.goto (-39), 47) := by decide +kernel
theorem d126_47 : cod 126 47 = some (.lload_n 3, 48) := by decide +kernel
theorem d126_48 : cod 126 48 = some (.lreturn, 49) := by decide +kernel
theorem d127_0 : cod 127 0 = some (.iload_n 1, 1) := by decide +kernel
theorem d127_1 : cod 127 1 = some (.invokestatic 157, 4) := by decide +kernel
theorem d127_4 : cod 127 4 = some (.ifCond .eq 16, 7) := by decide +kernel
theorem d127_7 : cod 127 7 = some (.iload_n 2, 8) := by decide +kernel
theorem d127_8 : cod 127 8 = some (.iconst 0, 9) := by decide +kernel
theorem d127_9 : cod 127 9 = some (.iconst 4, 10) := by decide +kernel
theorem d127_10 : cod 127 10 = some (.invokestatic 84, 13) := by decide +kernel
theorem d127_13 : cod 127 13 = some (.ifCond .eq 7, 16) := by decide +kernel
theorem d127_16 : cod 127 16 = some (.iconst 1, 17) := by decide +kernel
theorem d127_17 : cod 127 17 = some (.goto 4, 20) := by decide +kernel
theorem d127_20 : cod 127 20 = some (.iconst 0, 21) := by decide +kernel
theorem d127_21 : cod 127 21 = some (.invokestatic 88, 24) := by decide +kernel
theorem d127_24 : cod 127 24 = some (.aload_n 0, 25) := by decide +kernel
theorem d127_25 : cod 127 25 = some (.getfield 25, 28) := by decide +kernel
theorem d127_28 : cod 127 28 = some (.iload_n 1, 29) := by decide +kernel
theorem d127_29 : cod 127 29 = some (.aaload, 30) := by decide +kernel
theorem d127_30 : cod 127 30 = some (.astore_n 3, 31) := by decide +kernel
theorem d127_31 : cod 127 31 = some (.iload_n 2, 32) := by decide +kernel
theorem d127_32 : cod 127 32 = some (.tableswitch 52 0 3 #[32, 37, 42, 47], 64) := by decide +kernel
theorem d127_64 : cod 127 64 = some (.aload_n 3, 65) := by decide +kernel
theorem d127_65 : cod 127 65 = some (.getfield 206, 68) := by decide +kernel
theorem d127_68 : cod 127 68 = some (.ireturn, 69) := by decide +kernel
theorem d127_69 : cod 127 69 = some (.aload_n 3, 70) := by decide +kernel
theorem d127_70 : cod 127 70 = some (.getfield 209, 73) := by decide +kernel
theorem d127_73 : cod 127 73 = some (.ireturn, 74) := by decide +kernel
theorem d127_74 : cod 127 74 = some (.aload_n 3, 75) := by decide +kernel
theorem d127_75 : cod 127 75 = some (.invokevirtual 212, 78) := by decide +kernel
theorem d127_78 : cod 127 78 = some (.ireturn, 79) := by decide +kernel
theorem d127_79 : cod 127 79 = some (.aload_n 3, 80) := by decide +kernel
theorem d127_80 : cod 127 80 = some (.getfield 215, 83) := by decide +kernel
theorem d127_83 : cod 127 83 = some (.ireturn, 84) := by decide +kernel
theorem d127_84 : cod 127 84 = some (.aload_n 3, 85) := by decide +kernel
theorem d127_85 : cod 127 85 = some (.getfield 218, 88) := by decide +kernel
theorem d127_88 : cod 127 88 = some (.ireturn, 89) := by decide +kernel
theorem d128_0 : cod 128 0 = some (.lload_n 1, 1) := by decide +kernel
theorem d128_1 : cod 128 1 = some (.lstore_n 3, 2) := by decide +kernel
theorem d128_2 : cod 128 2 = some (.iconst 0, 3) := by decide +kernel
theorem d128_3 : cod 128 3 = some (.istore 5, 5) := by decide +kernel
theorem d128_5 : cod 128 5 = some (.iload 5, 7) := by decide +kernel
theorem d128_7 : cod 128 7 = some (.aload_n 0, 8) := by decide +kernel
theorem d128_8 : cod 128 8 = some (.getfield 19, 11) := by decide +kernel
theorem d128_11 : cod 128 11 = some (.invokevirtual 129, 14) := by decide +kernel
theorem d128_14 : cod 128 14 = some (.if_icmp .ge 119, 17) := by decide +kernel
theorem d128_17 : cod 128 17 = some (.iconst 0, 18) := by decide +kernel
theorem d128_18 : cod 128 18 = some (.istore 6, 20) := by decide +kernel
theorem d128_20 : cod 128 20 = some (.iload 6, 22) := by decide +kernel
theorem d128_22 : cod 128 22 = some (.iconst 5, 23) := by decide +kernel
theorem d128_23 : cod 128 23 = some (.if_icmp .gt 23, 26) := by decide +kernel
theorem d128_26 : cod 128 26 = some (.lload_n 3, 27) := by decide +kernel
theorem d128_27 : cod 128 27 = some (.aload_n 0, 28) := by decide +kernel
theorem d128_28 : cod 128 28 = some (.iload 5, 30) := by decide +kernel
theorem d128_30 : cod 128 30 = some (.iload 6, 32) := by decide +kernel
theorem d128_32 : cod 128 32 = some (.invokevirtual 603, 35) := by decide +kernel
theorem d128_35 : cod 128 35 = some (.i2l, 36) := by decide +kernel
theorem d128_36 : cod 128 36 = some (.invokestatic 488, 39) := by decide +kernel
theorem d128_39 : cod 128 39 = some (.lstore_n 3, 40) := by decide +kernel
theorem d128_40 : cod 128 40 = some (.iinc 6 1, 43) := by decide +kernel
theorem d128_43 : cod 128 43 = some (.goto (-23), 46) := by decide +kernel
theorem d128_46 : cod 128 46 = some (.lload_n 3, 47) := by decide +kernel
theorem d128_47 : cod 128 47 = some (.aload_n 0, 48) := by decide +kernel
theorem d128_48 : cod 128 48 = some (.iload 5, 50) := by decide +kernel
theorem d128_50 : cod 128 50 = some (.invokevirtual 606, 53) := by decide +kernel
theorem d128_53 : cod 128 53 = some (.i2l, 54) := by decide +kernel
theorem d128_54 : cod 128 54 = some (.invokestatic 488, 57) := by decide +kernel
theorem d128_57 : cod 128 57 = some (.lstore_n 3, 58) := by decide +kernel
theorem d128_58 : cod 128 58 = some (.lload_n 3, 59) := by decide +kernel
theorem d128_59 : cod 128 59 = some (.aload_n 0, 60) := by decide +kernel
theorem d128_60 : cod 128 60 = some (.iload 5, 62) := by decide +kernel
theorem d128_62 : cod 128 62 = some (.invokevirtual 609, 65) := by decide +kernel
theorem d128_65 : cod 128 65 = some (.i2l, 66) := by decide +kernel
theorem d128_66 : cod 128 66 = some (.invokestatic 488, 69) := by decide +kernel
theorem d128_69 : cod 128 69 = some (.lstore_n 3, 70) := by decide +kernel
theorem d128_70 : cod 128 70 = some (.lload_n 3, 71) := by decide +kernel
theorem d128_71 : cod 128 71 = some (.aload_n 0, 72) := by decide +kernel
theorem d128_72 : cod 128 72 = some (.iload 5, 74) := by decide +kernel
theorem d128_74 : cod 128 74 = some (.aload_n 0, 75) := by decide +kernel
theorem d128_75 : cod 128 75 = some (.getfield 372, 78) := by decide +kernel
theorem d128_78 : cod 128 78 = some (.invokevirtual 612, 81) := by decide +kernel
theorem d128_81 : cod 128 81 = some (.i2l, 82) := by decide +kernel
theorem d128_82 : cod 128 82 = some (.invokestatic 488, 85) := by decide +kernel
theorem d128_85 : cod 128 85 = some (.lstore_n 3, 86) := by decide +kernel
theorem d128_86 : cod 128 86 = some (.iconst 0, 87) := by decide +kernel
theorem d128_87 : cod 128 87 = some (.istore 6, 89) := by decide +kernel
theorem d128_89 : cod 128 89 = some (.iload 6, 91) := by decide +kernel
theorem d128_91 : cod 128 91 = some (.iconst 2, 92) := by decide +kernel
theorem d128_92 : cod 128 92 = some (.if_icmp .gt 23, 95) := by decide +kernel
theorem d128_95 : cod 128 95 = some (.lload_n 3, 96) := by decide +kernel
theorem d128_96 : cod 128 96 = some (.aload_n 0, 97) := by decide +kernel
theorem d128_97 : cod 128 97 = some (.iload 5, 99) := by decide +kernel
theorem d128_99 : cod 128 99 = some (.iload 6, 101) := by decide +kernel
theorem d128_101 : cod 128 101 = some (.invokevirtual 615, 104) := by decide +kernel
theorem d128_104 : cod 128 104 = some (.i2l, 105) := by decide +kernel
theorem d128_105 : cod 128 105 = some (.invokestatic 488, 108) := by decide +kernel
theorem d128_108 : cod 128 108 = some (.lstore_n 3, 109) := by decide +kernel
theorem d128_109 : cod 128 109 = some (.iinc 6 1, 112) := by decide +kernel
theorem d128_112 : cod 128 112 = some (.goto (-23), 115) := by decide +kernel
theorem d128_115 : cod 128 115 = some (.lload_n 3, 116) := by decide +kernel
theorem d128_116 : cod 128 116 = some (.aload_n 0, 117) := by decide +kernel
theorem d128_117 : cod 128 117 = some (.iload 5, 119) := by decide +kernel
theorem d128_119 : cod 128 119 = some (.invokevirtual 618, 122) := by decide +kernel
theorem d128_122 : cod 128 122 = some (.i2l, 123) := by decide +kernel
theorem d128_123 : cod 128 123 = some (.invokestatic 488, 126) := by decide +kernel
theorem d128_126 : cod 128 126 = some (.lstore_n 3, 127) := by decide +kernel
theorem d128_127 : cod 128 127 = some (.iinc 5 1, 130) := by decide +kernel
theorem d128_130 : cod 128 130 = some (.goto (-125), 133) := by decide +kernel
theorem d128_133 : cod 128 133 = some (.lload_n 3, 134) := by decide +kernel
theorem d128_134 : cod 128 134 = some (.lreturn, 135) := by decide +kernel
theorem d129_0 : cod 129 0 = some (.aload_n 0, 1) := by decide +kernel
theorem d129_1 : cod 129 1 = some (.iload_n 1, 2) := by decide +kernel
theorem d129_2 : cod 129 2 = some (.invokevirtual 173, 5) := by decide +kernel
theorem d129_5 : cod 129 5 = some (.invokestatic 112, 8) := by decide +kernel
theorem d129_8 : cod 129 8 = some (.iload_n 2, 9) := by decide +kernel
theorem d129_9 : cod 129 9 = some (.iconst 0, 10) := by decide +kernel
theorem d129_10 : cod 129 10 = some (.iconst 5, 11) := by decide +kernel
theorem d129_11 : cod 129 11 = some (.invokestatic 84, 14) := by decide +kernel
theorem d129_14 : cod 129 14 = some (.invokestatic 88, 17) := by decide +kernel
theorem d129_17 : cod 129 17 = some (.aload_n 0, 18) := by decide +kernel
theorem d129_18 : cod 129 18 = some (.getfield 19, 21) := by decide +kernel
theorem d129_21 : cod 129 21 = some (.iload_n 1, 22) := by decide +kernel
theorem d129_22 : cod 129 22 = some (.invokevirtual 132, 25) := by decide +kernel
theorem d129_25 : cod 129 25 = some (.checkcast 136, 28) := by decide +kernel
theorem d129_28 : cod 129 28 = some (.astore_n 3, 29) := by decide +kernel
theorem d129_29 : cod 129 29 = some (.iload_n 2, 30) := by decide +kernel
theorem d129_30 : cod 129 30 = some (.tableswitch 72 0 4 #[34, 39, 44, 49, 66], 64) := by decide +kernel
theorem d129_64 : cod 129 64 = some (.aload_n 3, 65) := by decide +kernel
theorem d129_65 : cod 129 65 = some (.getfield 186, 68) := by decide +kernel
theorem d129_68 : cod 129 68 = some (.ireturn, 69) := by decide +kernel
theorem d129_69 : cod 129 69 = some (.aload_n 3, 70) := by decide +kernel
theorem d129_70 : cod 129 70 = some (.invokevirtual 176, 73) := by decide +kernel
theorem d129_73 : cod 129 73 = some (.ireturn, 74) := by decide +kernel
theorem d129_74 : cod 129 74 = some (.aload_n 3, 75) := by decide +kernel
theorem d129_75 : cod 129 75 = some (.invokevirtual 220, 78) := by decide +kernel
theorem d129_78 : cod 129 78 = some (.ireturn, 79) := by decide +kernel
theorem d129_79 : cod 129 79 = some (.aload_n 0, 80) := by decide +kernel
theorem d129_80 : cod 129 80 = some (.getfield 25, 83) := by decide +kernel
theorem d129_83 : cod 129 83 = some (.aload_n 3, 84) := by decide +kernel
theorem d129_84 : cod 129 84 = some (.getfield 186, 87) := by decide +kernel
theorem d129_87 : cod 129 87 = some (.aaload, 88) := by decide +kernel
theorem d129_88 : cod 129 88 = some (.aload_n 3, 89) := by decide +kernel
theorem d129_89 : cod 129 89 = some (.invokevirtual 223, 92) := by decide +kernel
theorem d129_92 : cod 129 92 = some (.invokestatic 227, 95) := by decide +kernel
theorem d129_95 : cod 129 95 = some (.ireturn, 96) := by decide +kernel
theorem d129_96 : cod 129 96 = some (.aload_n 0, 97) := by decide +kernel
theorem d129_97 : cod 129 97 = some (.aload_n 3, 98) := by decide +kernel
theorem d129_98 : cod 129 98 = some (.invokevirtual 233, 101) := by decide +kernel
theorem d129_101 : cod 129 101 = some (.ireturn, 102) := by decide +kernel
theorem d129_102 : cod 129 102 = some (.aload_n 0, 103) := by decide +kernel
theorem d129_103 : cod 129 103 = some (.aload_n 3, 104) := by decide +kernel
theorem d129_104 : cod 129 104 = some (.invokevirtual 236, 107) := by decide +kernel
theorem d129_107 : cod 129 107 = some (.invokestatic 227, 110) := by decide +kernel
theorem d129_110 : cod 129 110 = some (.ireturn, 111) := by decide +kernel
theorem d130_0 : cod 130 0 = some (.aload_n 0, 1) := by decide +kernel
theorem d130_1 : cod 130 1 = some (.getfield 25, 4) := by decide +kernel
theorem d130_4 : cod 130 4 = some (.aload_n 1, 5) := by decide +kernel
theorem d130_5 : cod 130 5 = some (.getfield 186, 8) := by decide +kernel
theorem d130_8 : cod 130 8 = some (.aaload, 9) := by decide +kernel
theorem d130_9 : cod 130 9 = some (.aload_n 1, 10) := by decide +kernel
theorem d130_10 : cod 130 10 = some (.invokevirtual 223, 13) := by decide +kernel
theorem d130_13 : cod 130 13 = some (.istore_n 2, 14) := by decide +kernel
theorem d130_14 : cod 130 14 = some (.iload_n 2, 15) := by decide +kernel
theorem d130_15 : cod 130 15 = some (.invokestatic 227, 18) := by decide +kernel
theorem d130_18 : cod 130 18 = some (.iconst 1, 19) := by decide +kernel
theorem d130_19 : cod 130 19 = some (.if_icmp .ne 10, 22) := by decide +kernel
theorem d130_22 : cod 130 22 = some (.iload_n 2, 23) := by decide +kernel
theorem d130_23 : cod 130 23 = some (.invokestatic 537, 26) := by decide +kernel
theorem d130_26 : cod 130 26 = some (.goto 4, 29) := by decide +kernel
theorem d130_29 : cod 130 29 = some (.iconst (-1), 30) := by decide +kernel
theorem d130_30 : cod 130 30 = some (.ireturn, 31) := by decide +kernel
theorem d131_0 : cod 131 0 = some (.iconst 0, 1) := by decide +kernel
theorem d131_1 : cod 131 1 = some (.istore_n 2, 2) := by decide +kernel
theorem d131_2 : cod 131 2 = some (.iconst 0, 3) := by decide +kernel
theorem d131_3 : cod 131 3 = some (.istore_n 3, 4) := by decide +kernel
theorem d131_4 : cod 131 4 = some (.iload_n 3, 5) := by decide +kernel
theorem d131_5 : cod 131 5 = some (.aload_n 0, 6) := by decide +kernel
theorem d131_6 : cod 131 6 = some (.getfield 19, 9) := by decide +kernel
theorem d131_9 : cod 131 9 = some (.invokevirtual 129, 12) := by decide +kernel
theorem d131_12 : cod 131 12 = some (.if_icmp .ge 33, 15) := by decide +kernel
theorem d131_15 : cod 131 15 = some (.aload_n 1, 16) := by decide +kernel
theorem d131_16 : cod 131 16 = some (.aload_n 0, 17) := by decide +kernel
theorem d131_17 : cod 131 17 = some (.getfield 19, 20) := by decide +kernel
theorem d131_20 : cod 131 20 = some (.iload_n 3, 21) := by decide +kernel
theorem d131_21 : cod 131 21 = some (.invokevirtual 132, 24) := by decide +kernel
theorem d131_24 : cod 131 24 = some (.checkcast 136, 27) := by decide +kernel
theorem d131_27 : cod 131 27 = some (.invokestatic 540, 30) := by decide +kernel
theorem d131_30 : cod 131 30 = some (.ifCond .eq 9, 33) := by decide +kernel
theorem d131_33 : cod 131 33 = some (.iload_n 2, 34) := by decide +kernel
theorem d131_34 : cod 131 34 = some (.iconst 1, 35) := by decide +kernel
theorem d131_35 : cod 131 35 = some (.iload_n 3, 36) := by decide +kernel
theorem d131_36 : cod 131 36 = some (.ishl, 37) := by decide +kernel
theorem d131_37 : cod 131 37 = some (.ior, 38) := by decide +kernel
theorem d131_38 : cod 131 38 = some (.istore_n 2, 39) := by decide +kernel
theorem d131_39 : cod 131 39 = some (.iinc 3 1, 42) := by decide +kernel
theorem d131_42 : cod 131 42 = some (.goto (-38), 45) := by decide +kernel
theorem d131_45 : cod 131 45 = some (.iload_n 2, 46) := by decide +kernel
theorem d131_46 : cod 131 46 = some (.ireturn, 47) := by decide +kernel
theorem d132_0 : cod 132 0 = some (.aload_n 0, 1) := by decide +kernel
theorem d132_1 : cod 132 1 = some (.getfield 186, 4) := by decide +kernel
theorem d132_4 : cod 132 4 = some (.aload_n 1, 5) := by decide +kernel
theorem d132_5 : cod 132 5 = some (.getfield 186, 8) := by decide +kernel
theorem d132_8 : cod 132 8 = some (.if_icmp .eq 25, 11) := by decide +kernel
theorem d132_11 : cod 132 11 = some (.aload_n 0, 12) := by decide +kernel
theorem d132_12 : cod 132 12 = some (.sipush 255, 15) := by decide +kernel
theorem d132_15 : cod 132 15 = some (.invokevirtual 544, 18) := by decide +kernel
theorem d132_18 : cod 132 18 = some (.aload_n 1, 19) := by decide +kernel
theorem d132_19 : cod 132 19 = some (.sipush 255, 22) := by decide +kernel
theorem d132_22 : cod 132 22 = some (.invokevirtual 544, 25) := by decide +kernel
theorem d132_25 : cod 132 25 = some (.iand, 26) := by decide +kernel
theorem d132_26 : cod 132 26 = some (.ifCond .eq 7, 29) := by decide +kernel
theorem d132_29 : cod 132 29 = some (.iconst 1, 30) := by decide +kernel
theorem d132_30 : cod 132 30 = some (.goto 4, 33) := by decide +kernel
theorem d132_33 : cod 132 33 = some (.iconst 0, 34) := by decide +kernel
theorem d132_34 : cod 132 34 = some (.ireturn, 35) := by decide +kernel
theorem d133_0 : cod 133 0 = some (.aload_n 0, 1) := by decide +kernel
theorem d133_1 : cod 133 1 = some (.iload_n 1, 2) := by decide +kernel
theorem d133_2 : cod 133 2 = some (.invokevirtual 173, 5) := by decide +kernel
theorem d133_5 : cod 133 5 = some (.invokestatic 112, 8) := by decide +kernel
theorem d133_8 : cod 133 8 = some (.aload_n 0, 9) := by decide +kernel
theorem d133_9 : cod 133 9 = some (.getfield 19, 12) := by decide +kernel
theorem d133_12 : cod 133 12 = some (.iload_n 1, 13) := by decide +kernel
theorem d133_13 : cod 133 13 = some (.invokevirtual 132, 16) := by decide +kernel
theorem d133_16 : cod 133 16 = some (.checkcast 136, 19) := by decide +kernel
theorem d133_19 : cod 133 19 = some (.invokevirtual 263, 22) := by decide +kernel
theorem d133_22 : cod 133 22 = some (.ireturn, 23) := by decide +kernel
theorem d134_0 : cod 134 0 = some (.aload_n 0, 1) := by decide +kernel
theorem d134_1 : cod 134 1 = some (.iload_n 1, 2) := by decide +kernel
theorem d134_2 : cod 134 2 = some (.invokevirtual 173, 5) := by decide +kernel
theorem d134_5 : cod 134 5 = some (.invokestatic 112, 8) := by decide +kernel
theorem d134_8 : cod 134 8 = some (.aload_n 0, 9) := by decide +kernel
theorem d134_9 : cod 134 9 = some (.getfield 49, 12) := by decide +kernel
theorem d134_12 : cod 134 12 = some (.aload_n 0, 13) := by decide +kernel
theorem d134_13 : cod 134 13 = some (.getfield 19, 16) := by decide +kernel
theorem d134_16 : cod 134 16 = some (.iload_n 1, 17) := by decide +kernel
theorem d134_17 : cod 134 17 = some (.invokevirtual 132, 20) := by decide +kernel
theorem d134_20 : cod 134 20 = some (.checkcast 136, 23) := by decide +kernel
theorem d134_23 : cod 134 23 = some (.invokevirtual 363, 26) := by decide +kernel
theorem d134_26 : cod 134 26 = some (.ireturn, 27) := by decide +kernel
theorem d135_0 : cod 135 0 = some (.aload_n 0, 1) := by decide +kernel
theorem d135_1 : cod 135 1 = some (.iload_n 1, 2) := by decide +kernel
theorem d135_2 : cod 135 2 = some (.invokevirtual 173, 5) := by decide +kernel
theorem d135_5 : cod 135 5 = some (.invokestatic 112, 8) := by decide +kernel
theorem d135_8 : cod 135 8 = some (.iload_n 2, 9) := by decide +kernel
theorem d135_9 : cod 135 9 = some (.invokestatic 276, 12) := by decide +kernel
theorem d135_12 : cod 135 12 = some (.invokestatic 88, 15) := by decide +kernel
theorem d135_15 : cod 135 15 = some (.aload_n 0, 16) := by decide +kernel
theorem d135_16 : cod 135 16 = some (.getfield 56, 19) := by decide +kernel
theorem d135_19 : cod 135 19 = some (.iload_n 1, 20) := by decide +kernel
theorem d135_20 : cod 135 20 = some (.iload_n 2, 21) := by decide +kernel
theorem d135_21 : cod 135 21 = some (.invokevirtual 379, 24) := by decide +kernel
theorem d135_24 : cod 135 24 = some (.ireturn, 25) := by decide +kernel
theorem d136_0 : cod 136 0 = some (.aload_n 0, 1) := by decide +kernel
theorem d136_1 : cod 136 1 = some (.iload_n 1, 2) := by decide +kernel
theorem d136_2 : cod 136 2 = some (.invokevirtual 173, 5) := by decide +kernel
theorem d136_5 : cod 136 5 = some (.invokestatic 112, 8) := by decide +kernel
theorem d136_8 : cod 136 8 = some (.iload_n 2, 9) := by decide +kernel
theorem d136_9 : cod 136 9 = some (.iconst 0, 10) := by decide +kernel
theorem d136_10 : cod 136 10 = some (.iconst 2, 11) := by decide +kernel
theorem d136_11 : cod 136 11 = some (.invokestatic 84, 14) := by decide +kernel
theorem d136_14 : cod 136 14 = some (.invokestatic 88, 17) := by decide +kernel
theorem d136_17 : cod 136 17 = some (.aload_n 0, 18) := by decide +kernel
theorem d136_18 : cod 136 18 = some (.getfield 19, 21) := by decide +kernel
theorem d136_21 : cod 136 21 = some (.iload_n 1, 22) := by decide +kernel
theorem d136_22 : cod 136 22 = some (.invokevirtual 132, 25) := by decide +kernel
theorem d136_25 : cod 136 25 = some (.checkcast 136, 28) := by decide +kernel
theorem d136_28 : cod 136 28 = some (.astore_n 3, 29) := by decide +kernel
theorem d136_29 : cod 136 29 = some (.iload_n 2, 30) := by decide +kernel
theorem d136_30 : cod 136 30 = some (.iconst 2, 31) := by decide +kernel
theorem d136_31 : cod 136 31 = some (.if_icmp .ne 17, 34) := by decide +kernel
theorem d136_34 : cod 136 34 = some (.aload_n 0, 35) := by decide +kernel
theorem d136_35 : cod 136 35 = some (.aload_n 3, 36) := by decide +kernel
theorem d136_36 : cod 136 36 = some (.invokevirtual 460, 39) := by decide +kernel
theorem d136_39 : cod 136 39 = some (.ifCond .eq 7, 42) := by decide +kernel
theorem d136_42 : cod 136 42 = some (.iconst 1, 43) := by decide +kernel
theorem d136_43 : cod 136 43 = some (.goto 4, 46) := by decide +kernel
theorem d136_46 : cod 136 46 = some (.iconst 0, 47) := by decide +kernel
theorem d136_47 : cod 136 47 = some (.ireturn, 48) := by decide +kernel
theorem d136_48 : cod 136 48 = some (.aload_n 0, 49) := by decide +kernel
theorem d136_49 : cod 136 49 = some (.getfield 70, 52) := by decide +kernel
theorem d136_52 : cod 136 52 = some (.aload_n 3, 53) := by decide +kernel
theorem d136_53 : cod 136 53 = some (.invokevirtual 457, 56) := by decide +kernel
theorem d136_56 : cod 136 56 = some (.istore 4, 58) := by decide +kernel
theorem d136_58 : cod 136 58 = some (.iload_n 2, 59) := by decide +kernel
theorem d136_59 : cod 136 59 = some (.ifCond .eq 9, 62) := by decide +kernel
theorem d136_62 : cod 136 62 = some (.iload 4, 64) := by decide +kernel
theorem d136_64 : cod 136 64 = some (.iconst (-1), 65) := by decide +kernel
theorem d136_65 : cod 136 65 = some (.if_icmp .ne 8, 68) := by decide +kernel
theorem d136_68 : cod 136 68 = some (.iload 4, 70) := by decide +kernel
theorem d136_70 : cod 136 70 = some (.goto 13, 73) := by decide +kernel
theorem d136_73 : cod 136 73 = some (.aload_n 0, 74) := by decide +kernel
theorem d136_74 : cod 136 74 = some (.getfield 70, 77) := by decide +kernel
theorem d136_77 : cod 136 77 = some (.iload 4, 79) := by decide +kernel
theorem d136_79 : cod 136 79 = some (.aload_n 3, 80) := by decide +kernel
theorem d136_80 : cod 136 80 = some (.invokevirtual 464, 83) := by decide +kernel
theorem d136_83 : cod 136 83 = some (.ireturn, 84) := by decide +kernel
theorem d137_0 : cod 137 0 = some (.aload_n 0, 1) := by decide +kernel
theorem d137_1 : cod 137 1 = some (.getfield 70, 4) := by decide +kernel
theorem d137_4 : cod 137 4 = some (.aload_n 1, 5) := by decide +kernel
theorem d137_5 : cod 137 5 = some (.invokevirtual 457, 8) := by decide +kernel
theorem d137_8 : cod 137 8 = some (.istore_n 2, 9) := by decide +kernel
theorem d137_9 : cod 137 9 = some (.aload_n 0, 10) := by decide +kernel
theorem d137_10 : cod 137 10 = some (.getfield 25, 13) := by decide +kernel
theorem d137_13 : cod 137 13 = some (.aload_n 1, 14) := by decide +kernel
theorem d137_14 : cod 137 14 = some (.getfield 186, 17) := by decide +kernel
theorem d137_17 : cod 137 17 = some (.aaload, 18) := by decide +kernel
theorem d137_18 : cod 137 18 = some (.getfield 209, 21) := by decide +kernel
theorem d137_21 : cod 137 21 = some (.istore_n 3, 22) := by decide +kernel
theorem d137_22 : cod 137 22 = some (.iload_n 2, 23) := by decide +kernel
theorem d137_23 : cod 137 23 = some (.iconst (-1), 24) := by decide +kernel
theorem d137_24 : cod 137 24 = some (.if_icmp .eq 19, 27) := by decide +kernel
theorem d137_27 : cod 137 27 = some (.iload_n 3, 28) := by decide +kernel
theorem d137_28 : cod 137 28 = some (.ifCond .eq 15, 31) := by decide +kernel
theorem d137_31 : cod 137 31 = some (.iload_n 2, 32) := by decide +kernel
theorem d137_32 : cod 137 32 = some (.iload_n 3, 33) := by decide +kernel
theorem d137_33 : cod 137 33 = some (.invokestatic 203, 36) := by decide +kernel
theorem d137_36 : cod 137 36 = some (.ifCond .ne 7, 39) := by decide +kernel
theorem d137_39 : cod 137 39 = some (.iconst 1, 40) := by decide +kernel
theorem d137_40 : cod 137 40 = some (.goto 4, 43) := by decide +kernel
theorem d137_43 : cod 137 43 = some (.iconst 0, 44) := by decide +kernel
theorem d137_44 : cod 137 44 = some (.ireturn, 45) := by decide +kernel
theorem d138_0 : cod 138 0 = some (.aload_n 0, 1) := by decide +kernel
theorem d138_1 : cod 138 1 = some (.iload_n 1, 2) := by decide +kernel
theorem d138_2 : cod 138 2 = some (.invokevirtual 173, 5) := by decide +kernel
theorem d138_5 : cod 138 5 = some (.invokestatic 112, 8) := by decide +kernel
theorem d138_8 : cod 138 8 = some (.aload_n 0, 9) := by decide +kernel
theorem d138_9 : cod 138 9 = some (.aload_n 0, 10) := by decide +kernel
theorem d138_10 : cod 138 10 = some (.getfield 19, 13) := by decide +kernel
theorem d138_13 : cod 138 13 = some (.iload_n 1, 14) := by decide +kernel
theorem d138_14 : cod 138 14 = some (.invokevirtual 132, 17) := by decide +kernel
theorem d138_17 : cod 138 17 = some (.checkcast 136, 20) := by decide +kernel
theorem d138_20 : cod 138 20 = some (.invokevirtual 468, 23) := by decide +kernel
theorem d138_23 : cod 138 23 = some (.ireturn, 24) := by decide +kernel
theorem d139_0 : cod 139 0 = some (.aload_n 0, 1) := by decide +kernel
theorem d139_1 : cod 139 1 = some (.aload_n 1, 2) := by decide +kernel
theorem d139_2 : cod 139 2 = some (.getfield 170, 5) := by decide +kernel
theorem d139_5 : cod 139 5 = some (.invokevirtual 547, 8) := by decide +kernel
theorem d139_8 : cod 139 8 = some (.ifCond .ne 11, 11) := by decide +kernel
theorem d139_11 : cod 139 11 = some (.aload_n 0, 12) := by decide +kernel
theorem d139_12 : cod 139 12 = some (.aload_n 1, 13) := by decide +kernel
theorem d139_13 : cod 139 13 = some (.invokevirtual 460, 16) := by decide +kernel
theorem d139_16 : cod 139 16 = some (.ifCond .eq 5, 19) := by decide +kernel
theorem d139_19 : cod 139 19 = some (.iconst 0, 20) := by decide +kernel
theorem d139_20 : cod 139 20 = some (.ireturn, 21) := by decide +kernel
theorem d139_21 : cod 139 21 = some (.bipush 20, 23) := by decide +kernel
theorem d139_23 : cod 139 23 = some (.aload_n 1, 24) := by decide +kernel
theorem d139_24 : cod 139 24 = some (.invokevirtual 176, 27) := by decide +kernel
theorem d139_27 : cod 139 27 = some (.imul, 28) := by decide +kernel
theorem d139_28 : cod 139 28 = some (.bipush 15, 30) := by decide +kernel
theorem d139_30 : cod 139 30 = some (.aload_n 1, 31) := by decide +kernel
theorem d139_31 : cod 139 31 = some (.invokevirtual 550, 34) := by decide +kernel
theorem d139_34 : cod 139 34 = some (.imul, 35) := by decide +kernel
theorem d139_35 : cod 139 35 = some (.iadd, 36) := by decide +kernel
theorem d139_36 : cod 139 36 = some (.istore_n 2, 37) := by decide +kernel
theorem d139_37 : cod 139 37 = some (.aload_n 0, 38) := by decide +kernel
theorem d139_38 : cod 139 38 = some (.aload_n 1, 39) := by decide +kernel
theorem d139_39 : cod 139 39 = some (.invokevirtual 233, 42) := by decide +kernel
theorem d139_42 : cod 139 42 = some (.iconst (-1), 43) := by decide +kernel
theorem d139_43 : cod 139 43 = some (.if_icmp .eq 7, 46) := by decide +kernel
theorem d139_46 : cod 139 46 = some (.iload_n 2, 47) := by decide +kernel
theorem d139_47 : cod 139 47 = some (.iconst 2, 48) := by decide +kernel
theorem d139_48 : cod 139 48 = some (.imul, 49) := by decide +kernel
theorem d139_49 : cod 139 49 = some (.istore_n 2, 50) := by decide +kernel
theorem d139_50 : cod 139 50 = some (.aload_n 1, 51) := by decide +kernel
theorem d139_51 : cod 139 51 = some (.invokevirtual 553, 54) := by decide +kernel
theorem d139_54 : cod 139 54 = some (.ifCond .eq 9, 57) := by decide +kernel
theorem d139_57 : cod 139 57 = some (.iload_n 2, 58) := by decide +kernel
theorem d139_58 : cod 139 58 = some (.iconst 3, 59) := by decide +kernel
theorem d139_59 : cod 139 59 = some (.idiv, 60) := by decide +kernel
theorem d139_60 : cod 139 60 = some (.goto 4, 63) := by decide +kernel
theorem d139_63 : cod 139 63 = some (.iload_n 2, 64) := by decide +kernel
theorem d139_64 : cod 139 64 = some (.ireturn, 65) := by decide +kernel
theorem d140_0 : cod 140 0 = some (.aload_n 0, 1) := by decide +kernel
theorem d140_1 : cod 140 1 = some (.getfield 56, 4) := by decide +kernel
theorem d140_4 : cod 140 4 = some (.iload_n 1, 5) := by decide +kernel
theorem d140_5 : cod 140 5 = some (.aload_n 0, 6) := by decide +kernel
theorem d140_6 : cod 140 6 = some (.getfield 372, 9) := by decide +kernel
theorem d140_9 : cod 140 9 = some (.invokevirtual 379, 12) := by decide +kernel
theorem d140_12 : cod 140 12 = some (.ifCond .ge 7, 15) := by decide +kernel
theorem d140_15 : cod 140 15 = some (.iconst 1, 16) := by decide +kernel
theorem d140_16 : cod 140 16 = some (.goto 4, 19) := by decide +kernel
theorem d140_19 : cod 140 19 = some (.iconst 0, 20) := by decide +kernel
theorem d140_20 : cod 140 20 = some (.ireturn, 21) := by decide +kernel
theorem d141_0 : cod 141 0 = some (.lload_n 1, 1) := by decide +kernel
theorem d141_1 : cod 141 1 = some (.lstore_n 3, 2) := by decide +kernel
theorem d141_2 : cod 141 2 = some (.iconst 0, 3) := by decide +kernel
theorem d141_3 : cod 141 3 = some (.istore 5, 5) := by decide +kernel
theorem d141_5 : cod 141 5 = some (.iload 5, 7) := by decide +kernel
theorem d141_7 : cod 141 7 = some (.aload_n 0, 8) := by decide +kernel
theorem d141_8 : cod 141 8 = some (.getfield 43, 11) := by decide +kernel
theorem d141_11 : cod 141 11 = some (.invokevirtual 129, 14) := by decide +kernel
theorem d141_14 : cod 141 14 = some (.if_icmp .ge 51, 17) := by decide +kernel
theorem d141_17 : cod 141 17 = some (.iconst 0, 18) := by decide +kernel
theorem d141_18 : cod 141 18 = some (.istore 6, 20) := by decide +kernel
theorem d141_20 : cod 141 20 = some (.iload 6, 22) := by decide +kernel
theorem d141_22 : cod 141 22 = some (.bipush 7, 24) := by decide +kernel
theorem d141_24 : cod 141 24 = some (.if_icmp .gt 23, 27) := by decide +kernel
theorem d141_27 : cod 141 27 = some (.lload_n 3, 28) := by decide +kernel
theorem d141_28 : cod 141 28 = some (.aload_n 0, 29) := by decide +kernel
theorem d141_29 : cod 141 29 = some (.iload 5, 31) := by decide +kernel
theorem d141_31 : cod 141 31 = some (.iload 6, 33) := by decide +kernel
theorem d141_33 : cod 141 33 = some (.invokevirtual 621, 36) := by decide +kernel
theorem d141_36 : cod 141 36 = some (.i2l, 37) := by decide +kernel
theorem d141_37 : cod 141 37 = some (.invokestatic 488, 40) := by decide +kernel
theorem d141_40 : cod 141 40 = some (.lstore_n 3, 41) := by decide +kernel
theorem d141_41 : cod 141 41 = some (.iinc 6 1, 44) := by decide +kernel
theorem d141_44 : cod 141 44 = some (.goto (-24), 47) := by decide +kernel
theorem d141_47 : cod 141 47 = some (.lload_n 3, 48) := by decide +kernel
theorem d141_48 : cod 141 48 = some (.aload_n 0, 49) := by decide +kernel
theorem d141_49 : cod 141 49 = some (.iload 5, 51) := by decide +kernel
theorem d141_51 : cod 141 51 = some (.invokevirtual 624, 54) := by decide +kernel
theorem d141_54 : cod 141 54 = some (.i2l, 55) := by decide +kernel
theorem d141_55 : cod 141 55 = some (.invokestatic 488, 58) := by decide +kernel
theorem d141_58 : cod 141 58 = some (.lstore_n 3, 59) := by decide +kernel
theorem d141_59 : cod 141 59 = some (.iinc 5 1, 62) := by decide +kernel
theorem d141_62 : cod 141 62 = some (.goto (-57), 65) := by decide +kernel
theorem d141_65 : cod 141 65 = some (.lload_n 3, 66) := by decide +kernel
theorem d141_66 : cod 141 66 = some (.lreturn, 67) := by decide +kernel
theorem d142_0 : cod 142 0 = some (.aload_n 0, 1) := by decide +kernel
theorem d142_1 : cod 142 1 = some (.iload_n 1, 2) := by decide +kernel
theorem d142_2 : cod 142 2 = some (.invokevirtual 306, 5) := by decide +kernel
theorem d142_5 : cod 142 5 = some (.invokestatic 112, 8) := by decide +kernel
theorem d142_8 : cod 142 8 = some (.iload_n 2, 9) := by decide +kernel
theorem d142_9 : cod 142 9 = some (.iconst 0, 10) := by decide +kernel
theorem d142_10 : cod 142 10 = some (.bipush 7, 12) := by decide +kernel
theorem d142_12 : cod 142 12 = some (.invokestatic 84, 15) := by decide +kernel
theorem d142_15 : cod 142 15 = some (.invokestatic 88, 18) := by decide +kernel
theorem d142_18 : cod 142 18 = some (.aload_n 0, 19) := by decide +kernel
theorem d142_19 : cod 142 19 = some (.getfield 43, 22) := by decide +kernel
theorem d142_22 : cod 142 22 = some (.iload_n 1, 23) := by decide +kernel
theorem d142_23 : cod 142 23 = some (.invokevirtual 132, 26) := by decide +kernel
theorem d142_26 : cod 142 26 = some (.checkcast 298, 29) := by decide +kernel
theorem d142_29 : cod 142 29 = some (.astore_n 3, 30) := by decide +kernel
theorem d142_30 : cod 142 30 = some (.iload_n 2, 31) := by decide +kernel
theorem d142_31 : cod 142 31 = some (.tableswitch 88 0 6 #[41, 47, 53, 59, 64, 69, 74], 72) := by decide +kernel
theorem d142_72 : cod 142 72 = some (.aload_n 0, 73) := by decide +kernel
theorem d142_73 : cod 142 73 = some (.aload_n 3, 74) := by decide +kernel
theorem d142_74 : cod 142 74 = some (.invokevirtual 322, 77) := by decide +kernel
theorem d142_77 : cod 142 77 = some (.ireturn, 78) := by decide +kernel
theorem d142_78 : cod 142 78 = some (.aload_n 0, 79) := by decide +kernel
theorem d142_79 : cod 142 79 = some (.aload_n 3, 80) := by decide +kernel
theorem d142_80 : cod 142 80 = some (.invokevirtual 314, 83) := by decide +kernel
theorem d142_83 : cod 142 83 = some (.ireturn, 84) := by decide +kernel
theorem d142_84 : cod 142 84 = some (.aload_n 0, 85) := by decide +kernel
theorem d142_85 : cod 142 85 = some (.aload_n 3, 86) := by decide +kernel
theorem d142_86 : cod 142 86 = some (.invokevirtual 325, 89) := by decide +kernel
theorem d142_89 : cod 142 89 = some (.ireturn, 90) := by decide +kernel
theorem d142_90 : cod 142 90 = some (.aload_n 3, 91) := by decide +kernel
theorem d142_91 : cod 142 91 = some (.getfield 328, 94) := by decide +kernel
theorem d142_94 : cod 142 94 = some (.ireturn, 95) := by decide +kernel
theorem d142_95 : cod 142 95 = some (.aload_n 3, 96) := by decide +kernel
theorem d142_96 : cod 142 96 = some (.getfield 303, 99) := by decide +kernel
theorem d142_99 : cod 142 99 = some (.ireturn, 100) := by decide +kernel
theorem d142_100 : cod 142 100 = some (.aload_n 3, 101) := by decide +kernel
theorem d142_101 : cod 142 101 = some (.invokevirtual 331, 104) := by decide +kernel
theorem d142_104 : cod 142 104 = some (.ireturn, 105) := by decide +kernel
theorem d142_105 : cod 142 105 = some (.aload_n 0, 106) := by decide +kernel
theorem d142_106 : cod 142 106 = some (.aload_n 3, 107) := by decide +kernel
theorem d142_107 : cod 142 107 = some (.invokevirtual 334, 110) := by decide +kernel
theorem d142_110 : cod 142 110 = some (.ifCond .eq 7, 113) := by decide +kernel
theorem d142_113 : cod 142 113 = some (.iconst 1, 114) := by decide +kernel
theorem d142_114 : cod 142 114 = some (.goto 4, 117) := by decide +kernel
theorem d142_117 : cod 142 117 = some (.iconst 0, 118) := by decide +kernel
theorem d142_118 : cod 142 118 = some (.ireturn, 119) := by decide +kernel
theorem d142_119 : cod 142 119 = some (.aload_n 0, 120) := by decide +kernel
theorem d142_120 : cod 142 120 = some (.aload_n 3, 121) := by decide +kernel
theorem d142_121 : cod 142 121 = some (.getfield 338, 124) := by decide +kernel
theorem d142_124 : cod 142 124 = some (.invokevirtual 341, 127) := by decide +kernel
theorem d142_127 : cod 142 127 = some (.ireturn, 128) := by decide +kernel
theorem d143_0 : cod 143 0 = some (.aload_n 0, 1) := by decide +kernel
theorem d143_1 : cod 143 1 = some (.aload_n 1, 2) := by decide +kernel
theorem d143_2 : cod 143 2 = some (.invokevirtual 571, 5) := by decide +kernel
theorem d143_5 : cod 143 5 = some (.aload_n 0, 6) := by decide +kernel
theorem d143_6 : cod 143 6 = some (.aload_n 1, 7) := by decide +kernel
theorem d143_7 : cod 143 7 = some (.invokevirtual 574, 10) := by decide +kernel
theorem d143_10 : cod 143 10 = some (.ior, 11) := by decide +kernel
theorem d143_11 : cod 143 11 = some (.aload_n 0, 12) := by decide +kernel
theorem d143_12 : cod 143 12 = some (.aload_n 1, 13) := by decide +kernel
theorem d143_13 : cod 143 13 = some (.invokevirtual 577, 16) := by decide +kernel
theorem d143_16 : cod 143 16 = some (.ior, 17) := by decide +kernel
theorem d143_17 : cod 143 17 = some (.aload_n 0, 18) := by decide +kernel
theorem d143_18 : cod 143 18 = some (.aload_n 1, 19) := by decide +kernel
theorem d143_19 : cod 143 19 = some (.invokevirtual 325, 22) := by decide +kernel
theorem d143_22 : cod 143 22 = some (.aload_n 0, 23) := by decide +kernel
theorem d143_23 : cod 143 23 = some (.aload_n 1, 24) := by decide +kernel
theorem d143_24 : cod 143 24 = some (.invokevirtual 314, 27) := by decide +kernel
theorem d143_27 : cod 143 27 = some (.aload_n 1, 28) := by decide +kernel
theorem d143_28 : cod 143 28 = some (.getfield 318, 31) := by decide +kernel
theorem d143_31 : cod 143 31 = some (.invokestatic 580, 34) := by decide +kernel
theorem d143_34 : cod 143 34 = some (.ior, 35) := by decide +kernel
theorem d143_35 : cod 143 35 = some (.ireturn, 36) := by decide +kernel
theorem d144_0 : cod 144 0 = some (.aload_n 0, 1) := by decide +kernel
theorem d144_1 : cod 144 1 = some (.getfield 40, 4) := by decide +kernel
theorem d144_4 : cod 144 4 = some (.aload_n 1, 5) := by decide +kernel
theorem d144_5 : cod 144 5 = some (.getfield 338, 8) := by decide +kernel
theorem d144_8 : cod 144 8 = some (.invokevirtual 132, 11) := by decide +kernel
theorem d144_11 : cod 144 11 = some (.checkcast 290, 14) := by decide +kernel
theorem d144_14 : cod 144 14 = some (.astore_n 2, 15) := by decide +kernel
theorem d144_15 : cod 144 15 = some (.aload_n 2, 16) := by decide +kernel
theorem d144_16 : cod 144 16 = some (.getfield 556, 19) := by decide +kernel
theorem d144_19 : cod 144 19 = some (.aload_n 1, 20) := by decide +kernel
theorem d144_20 : cod 144 20 = some (.getfield 559, 23) := by decide +kernel
theorem d144_23 : cod 144 23 = some (.if_icmp .ne 7, 26) := by decide +kernel
theorem d144_26 : cod 144 26 = some (.iconst 0, 27) := by decide +kernel
theorem d144_27 : cod 144 27 = some (.goto 4, 30) := by decide +kernel
theorem d144_30 : cod 144 30 = some (.iconst 1, 31) := by decide +kernel
theorem d144_31 : cod 144 31 = some (.istore_n 3, 32) := by decide +kernel
theorem d144_32 : cod 144 32 = some (.aload_n 2, 33) := by decide +kernel
theorem d144_33 : cod 144 33 = some (.aload_n 1, 34) := by decide +kernel
theorem d144_34 : cod 144 34 = some (.getfield 328, 37) := by decide +kernel
theorem d144_37 : cod 144 37 = some (.invokevirtual 583, 40) := by decide +kernel
theorem d144_40 : cod 144 40 = some (.ifCond .eq 7, 43) := by decide +kernel
theorem d144_43 : cod 144 43 = some (.iload_n 3, 44) := by decide +kernel
theorem d144_44 : cod 144 44 = some (.goto 6, 47) := by decide +kernel
theorem d144_47 : cod 144 47 = some (.iload_n 3, 48) := by decide +kernel
theorem d144_48 : cod 144 48 = some (.iconst 2, 49) := by decide +kernel
theorem d144_49 : cod 144 49 = some (.ior, 50) := by decide +kernel
theorem d144_50 : cod 144 50 = some (.ireturn, 51) := by decide +kernel
theorem d145_0 : cod 145 0 = some (.iconst 0, 1) := by decide +kernel
theorem d145_1 : cod 145 1 = some (.istore_n 2, 2) := by decide +kernel
theorem d145_2 : cod 145 2 = some (.iconst 0, 3) := by decide +kernel
theorem d145_3 : cod 145 3 = some (.istore_n 3, 4) := by decide +kernel
theorem d145_4 : cod 145 4 = some (.iload_n 3, 5) := by decide +kernel
theorem d145_5 : cod 145 5 = some (.aload_n 0, 6) := by decide +kernel
theorem d145_6 : cod 145 6 = some (.getfield 37, 9) := by decide +kernel
theorem d145_9 : cod 145 9 = some (.invokevirtual 129, 12) := by decide +kernel
theorem d145_12 : cod 145 12 = some (.if_icmp .ge 78, 15) := by decide +kernel
theorem d145_15 : cod 145 15 = some (.aload_n 1, 16) := by decide +kernel
theorem d145_16 : cod 145 16 = some (.getfield 312, 19) := by decide +kernel
theorem d145_19 : cod 145 19 = some (.iload_n 3, 20) := by decide +kernel
theorem d145_20 : cod 145 20 = some (.iaload, 21) := by decide +kernel
theorem d145_21 : cod 145 21 = some (.ifCond .le 28, 24) := by decide +kernel
theorem d145_24 : cod 145 24 = some (.aload_n 0, 25) := by decide +kernel
theorem d145_25 : cod 145 25 = some (.getfield 37, 28) := by decide +kernel
theorem d145_28 : cod 145 28 = some (.iload_n 3, 29) := by decide +kernel
theorem d145_29 : cod 145 29 = some (.invokevirtual 132, 32) := by decide +kernel
theorem d145_32 : cod 145 32 = some (.checkcast 290, 35) := by decide +kernel
theorem d145_35 : cod 145 35 = some (.getfield 586, 38) := by decide +kernel
theorem d145_38 : cod 145 38 = some (.aload_n 1, 39) := by decide +kernel
theorem d145_39 : cod 145 39 = some (.getfield 328, 42) := by decide +kernel
theorem d145_42 : cod 145 42 = some (.if_icmp .le 7, 45) := by decide +kernel
theorem d145_45 : cod 145 45 = some (.iload_n 2, 46) := by decide +kernel
theorem d145_46 : cod 145 46 = some (.iconst 4, 47) := by decide +kernel
theorem d145_47 : cod 145 47 = some (.ior, 48) := by decide +kernel
theorem d145_48 : cod 145 48 = some (.istore_n 2, 49) := by decide +kernel
theorem d145_49 : cod 145 49 = some (.aload_n 1, 50) := by decide +kernel
theorem d145_50 : cod 145 50 = some (.getfield 312, 53) := by decide +kernel
theorem d145_53 : cod 145 53 = some (.iload_n 3, 54) := by decide +kernel
theorem d145_54 : cod 145 54 = some (.iaload, 55) := by decide +kernel
theorem d145_55 : cod 145 55 = some (.ifCond .le 29, 58) := by decide +kernel
theorem d145_58 : cod 145 58 = some (.aload_n 0, 59) := by decide +kernel
theorem d145_59 : cod 145 59 = some (.getfield 37, 62) := by decide +kernel
theorem d145_62 : cod 145 62 = some (.iload_n 3, 63) := by decide +kernel
theorem d145_63 : cod 145 63 = some (.invokevirtual 132, 66) := by decide +kernel
theorem d145_66 : cod 145 66 = some (.checkcast 290, 69) := by decide +kernel
theorem d145_69 : cod 145 69 = some (.getfield 587, 72) := by decide +kernel
theorem d145_72 : cod 145 72 = some (.aload_n 1, 73) := by decide +kernel
theorem d145_73 : cod 145 73 = some (.getfield 328, 76) := by decide +kernel
theorem d145_76 : cod 145 76 = some (.if_icmp .ge 8, 79) := by decide +kernel
theorem d145_79 : cod 145 79 = some (.iload_n 2, 80) := by decide +kernel
theorem d145_80 : cod 145 80 = some (.bipush 8, 82) := by decide +kernel
theorem d145_82 : cod 145 82 = some (.ior, 83) := by decide +kernel
theorem d145_83 : cod 145 83 = some (.istore_n 2, 84) := by decide +kernel
theorem d145_84 : cod 145 84 = some (.iinc 3 1, 87) := by decide +kernel
theorem d145_87 : cod 145 87 = some (.goto (-83), 90) := by decide +kernel
theorem d145_90 : cod 145 90 = some (.iload_n 2, 91) := by decide +kernel
theorem d145_91 : cod 145 91 = some (.ireturn, 92) := by decide +kernel
theorem d146_0 : cod 146 0 = some (.aload_n 0, 1) := by decide +kernel
theorem d146_1 : cod 146 1 = some (.getfield 33, 4) := by decide +kernel
theorem d146_4 : cod 146 4 = some (.aload_n 1, 5) := by decide +kernel
theorem d146_5 : cod 146 5 = some (.getfield 559, 8) := by decide +kernel
theorem d146_8 : cod 146 8 = some (.aload_n 1, 9) := by decide +kernel
theorem d146_9 : cod 146 9 = some (.getfield 562, 12) := by decide +kernel
theorem d146_12 : cod 146 12 = some (.invokevirtual 273, 15) := by decide +kernel
theorem d146_15 : cod 146 15 = some (.istore_n 2, 16) := by decide +kernel
theorem d146_16 : cod 146 16 = some (.iload_n 2, 17) := by decide +kernel
theorem d146_17 : cod 146 17 = some (.iconst (-1), 18) := by decide +kernel
theorem d146_18 : cod 146 18 = some (.if_icmp .eq 16, 21) := by decide +kernel
theorem d146_21 : cod 146 21 = some (.aload_n 1, 22) := by decide +kernel
theorem d146_22 : cod 146 22 = some (.getfield 303, 25) := by decide +kernel
theorem d146_25 : cod 146 25 = some (.aload_n 1, 26) := by decide +kernel
theorem d146_26 : cod 146 26 = some (.getfield 328, 29) := by decide +kernel
theorem d146_29 : cod 146 29 = some (.iload_n 2, 30) := by decide +kernel
theorem d146_30 : cod 146 30 = some (.iadd, 31) := by decide +kernel
theorem d146_31 : cod 146 31 = some (.if_icmp .ge 8, 34) := by decide +kernel
theorem d146_34 : cod 146 34 = some (.bipush 64, 36) := by decide +kernel
theorem d146_36 : cod 146 36 = some (.goto 4, 39) := by decide +kernel
theorem d146_39 : cod 146 39 = some (.iconst 0, 40) := by decide +kernel
theorem d146_40 : cod 146 40 = some (.ireturn, 41) := by decide +kernel
theorem d147_0 : cod 147 0 = some (.aload_n 0, 1) := by decide +kernel
theorem d147_1 : cod 147 1 = some (.getfield 33, 4) := by decide +kernel
theorem d147_4 : cod 147 4 = some (.aload_n 1, 5) := by decide +kernel
theorem d147_5 : cod 147 5 = some (.getfield 328, 8) := by decide +kernel
theorem d147_8 : cod 147 8 = some (.aload_n 0, 9) := by decide +kernel
theorem d147_9 : cod 147 9 = some (.getfield 33, 12) := by decide +kernel
theorem d147_12 : cod 147 12 = some (.aload_n 1, 13) := by decide +kernel
theorem d147_13 : cod 147 13 = some (.getfield 559, 16) := by decide +kernel
theorem d147_16 : cod 147 16 = some (.aload_n 1, 17) := by decide +kernel
theorem d147_17 : cod 147 17 = some (.getfield 562, 20) := by decide +kernel
theorem d147_20 : cod 147 20 = some (.invokevirtual 565, 23) := by decide +kernel
theorem d147_23 : cod 147 23 = some (.aload_n 1, 24) := by decide +kernel
theorem d147_24 : cod 147 24 = some (.getfield 568, 27) := by decide +kernel
theorem d147_27 : cod 147 27 = some (.invokevirtual 286, 30) := by decide +kernel
theorem d147_30 : cod 147 30 = some (.ireturn, 31) := by decide +kernel
theorem d148_0 : cod 148 0 = some (.iload_n 0, 1) := by decide +kernel
theorem d148_1 : cod 148 1 = some (.iconst (-1), 2) := by decide +kernel
theorem d148_2 : cod 148 2 = some (.if_icmp .ne 7, 5) := by decide +kernel
theorem d148_5 : cod 148 5 = some (.sipush 128, 8) := by decide +kernel
theorem d148_8 : cod 148 8 = some (.ireturn, 9) := by decide +kernel
theorem d148_9 : cod 148 9 = some (.iload_n 1, 10) := by decide +kernel
theorem d148_10 : cod 148 10 = some (.iload_n 0, 11) := by decide +kernel
theorem d148_11 : cod 148 11 = some (.if_icmp .le 6, 14) := by decide +kernel
theorem d148_14 : cod 148 14 = some (.bipush 32, 16) := by decide +kernel
theorem d148_16 : cod 148 16 = some (.ireturn, 17) := by decide +kernel
theorem d148_17 : cod 148 17 = some (.iload_n 1, 18) := by decide +kernel
theorem d148_18 : cod 148 18 = some (.iload_n 0, 19) := by decide +kernel
theorem d148_19 : cod 148 19 = some (.if_icmp .ge 12, 22) := by decide +kernel
theorem d148_22 : cod 148 22 = some (.iload_n 2, 23) := by decide +kernel
theorem d148_23 : cod 148 23 = some (.ifCond .ne 8, 26) := by decide +kernel
theorem d148_26 : cod 148 26 = some (.bipush 16, 28) := by decide +kernel
theorem d148_28 : cod 148 28 = some (.goto 4, 31) := by decide +kernel
theorem d148_31 : cod 148 31 = some (.iconst 0, 32) := by decide +kernel
theorem d148_32 : cod 148 32 = some (.ireturn, 33) := by decide +kernel
theorem d149_0 : cod 149 0 = some (.aload_n 0, 1) := by decide +kernel
theorem d149_1 : cod 149 1 = some (.aload_n 1, 2) := by decide +kernel
theorem d149_2 : cod 149 2 = some (.invokevirtual 571, 5) := by decide +kernel
theorem d149_5 : cod 149 5 = some (.aload_n 0, 6) := by decide +kernel
theorem d149_6 : cod 149 6 = some (.aload_n 1, 7) := by decide +kernel
theorem d149_7 : cod 149 7 = some (.invokevirtual 574, 10) := by decide +kernel
theorem d149_10 : cod 149 10 = some (.ior, 11) := by decide +kernel
theorem d149_11 : cod 149 11 = some (.aload_n 0, 12) := by decide +kernel
theorem d149_12 : cod 149 12 = some (.aload_n 1, 13) := by decide +kernel
theorem d149_13 : cod 149 13 = some (.invokevirtual 577, 16) := by decide +kernel
theorem d149_16 : cod 149 16 = some (.ior, 17) := by decide +kernel
theorem d149_17 : cod 149 17 = some (.bipush 71, 19) := by decide +kernel
theorem d149_19 : cod 149 19 = some (.iand, 20) := by decide +kernel
theorem d149_20 : cod 149 20 = some (.ifCond .eq 7, 23) := by decide +kernel
theorem d149_23 : cod 149 23 = some (.iconst 1, 24) := by decide +kernel
theorem d149_24 : cod 149 24 = some (.goto 4, 27) := by decide +kernel
theorem d149_27 : cod 149 27 = some (.iconst 0, 28) := by decide +kernel
theorem d149_28 : cod 149 28 = some (.ireturn, 29) := by decide +kernel
theorem d150_0 : cod 150 0 = some (.iconst 0, 1) := by decide +kernel
theorem d150_1 : cod 150 1 = some (.istore_n 2, 2) := by decide +kernel
theorem d150_2 : cod 150 2 = some (.iconst 0, 3) := by decide +kernel
theorem d150_3 : cod 150 3 = some (.istore_n 3, 4) := by decide +kernel
theorem d150_4 : cod 150 4 = some (.iload_n 3, 5) := by decide +kernel
theorem d150_5 : cod 150 5 = some (.aload_n 0, 6) := by decide +kernel
theorem d150_6 : cod 150 6 = some (.getfield 43, 9) := by decide +kernel
theorem d150_9 : cod 150 9 = some (.invokevirtual 129, 12) := by decide +kernel
theorem d150_12 : cod 150 12 = some (.if_icmp .ge 43, 15) := by decide +kernel
theorem d150_15 : cod 150 15 = some (.aload_n 0, 16) := by decide +kernel
theorem d150_16 : cod 150 16 = some (.getfield 43, 19) := by decide +kernel
theorem d150_19 : cod 150 19 = some (.iload_n 3, 20) := by decide +kernel
theorem d150_20 : cod 150 20 = some (.invokevirtual 132, 23) := by decide +kernel
theorem d150_23 : cod 150 23 = some (.checkcast 298, 26) := by decide +kernel
theorem d150_26 : cod 150 26 = some (.astore 4, 28) := by decide +kernel
theorem d150_28 : cod 150 28 = some (.aload 4, 30) := by decide +kernel
theorem d150_30 : cod 150 30 = some (.getfield 338, 33) := by decide +kernel
theorem d150_33 : cod 150 33 = some (.iload_n 1, 34) := by decide +kernel
theorem d150_34 : cod 150 34 = some (.if_icmp .ne 15, 37) := by decide +kernel
theorem d150_37 : cod 150 37 = some (.aload_n 0, 38) := by decide +kernel
theorem d150_38 : cod 150 38 = some (.aload 4, 40) := by decide +kernel
theorem d150_40 : cod 150 40 = some (.invokevirtual 334, 43) := by decide +kernel
theorem d150_43 : cod 150 43 = some (.ifCond .ne 6, 46) := by decide +kernel
theorem d150_46 : cod 150 46 = some (.iinc 2 1, 49) := by decide +kernel
theorem d150_49 : cod 150 49 = some (.iinc 3 1, 52) := by decide +kernel
theorem d150_52 : cod 150 52 = some (.goto (-48), 55) := by decide +kernel
theorem d150_55 : cod 150 55 = some (.iload_n 2, 56) := by decide +kernel
theorem d150_56 : cod 150 56 = some (.ireturn, 57) := by decide +kernel
theorem d151_0 : cod 151 0 = some (.aload_n 0, 1) := by decide +kernel
theorem d151_1 : cod 151 1 = some (.iload_n 1, 2) := by decide +kernel
theorem d151_2 : cod 151 2 = some (.invokevirtual 306, 5) := by decide +kernel
theorem d151_5 : cod 151 5 = some (.invokestatic 112, 8) := by decide +kernel
theorem d151_8 : cod 151 8 = some (.aload_n 0, 9) := by decide +kernel
theorem d151_9 : cod 151 9 = some (.getfield 43, 12) := by decide +kernel
theorem d151_12 : cod 151 12 = some (.iload_n 1, 13) := by decide +kernel
theorem d151_13 : cod 151 13 = some (.invokevirtual 132, 16) := by decide +kernel
theorem d151_16 : cod 151 16 = some (.checkcast 298, 19) := by decide +kernel
theorem d151_19 : cod 151 19 = some (.astore_n 2, 20) := by decide +kernel
theorem d151_20 : cod 151 20 = some (.aload_n 0, 21) := by decide +kernel
theorem d151_21 : cod 151 21 = some (.aload_n 2, 22) := by decide +kernel
theorem d151_22 : cod 151 22 = some (.invokevirtual 325, 25) := by decide +kernel
theorem d151_25 : cod 151 25 = some (.istore_n 3, 26) := by decide +kernel
theorem d151_26 : cod 151 26 = some (.iload_n 3, 27) := by decide +kernel
theorem d151_27 : cod 151 27 = some (.iconst (-1), 28) := by decide +kernel
theorem d151_28 : cod 151 28 = some (.if_icmp .eq 9, 31) := by decide +kernel
theorem d151_31 : cod 151 31 = some (.iload_n 3, 32) := by decide +kernel
theorem d151_32 : cod 151 32 = some (.bipush 99, 34) := by decide +kernel
theorem d151_34 : cod 151 34 = some (.if_icmp .le 5, 37) := by decide +kernel
theorem d151_37 : cod 151 37 = some (.iconst (-1), 38) := by decide +kernel
theorem d151_38 : cod 151 38 = some (.ireturn, 39) := by decide +kernel
theorem d151_39 : cod 151 39 = some (.aload_n 0, 40) := by decide +kernel
theorem d151_40 : cod 151 40 = some (.getfield 74, 43) := by decide +kernel
theorem d151_43 : cod 151 43 = some (.iconst 0, 44) := by decide +kernel
theorem d151_44 : cod 151 44 = some (.iconst 0, 45) := by decide +kernel
theorem d151_45 : cod 151 45 = some (.iastore, 46) := by decide +kernel
theorem d151_46 : cod 151 46 = some (.iconst 1, 47) := by decide +kernel
theorem d151_47 : cod 151 47 = some (.istore 4, 49) := by decide +kernel
theorem d151_49 : cod 151 49 = some (.iload 4, 51) := by decide +kernel
theorem d151_51 : cod 151 51 = some (.iload_n 3, 52) := by decide +kernel
theorem d151_52 : cod 151 52 = some (.if_icmp .gt 26, 55) := by decide +kernel
theorem d151_55 : cod 151 55 = some (.aload_n 0, 56) := by decide +kernel
theorem d151_56 : cod 151 56 = some (.getfield 74, 59) := by decide +kernel
theorem d151_59 : cod 151 59 = some (.iload 4, 61) := by decide +kernel
theorem d151_61 : cod 151 61 = some (.aload_n 0, 62) := by decide +kernel
theorem d151_62 : cod 151 62 = some (.iload 4, 64) := by decide +kernel
theorem d151_64 : cod 151 64 = some (.aload_n 2, 65) := by decide +kernel
theorem d151_65 : cod 151 65 = some (.getfield 328, 68) := by decide +kernel
theorem d151_68 : cod 151 68 = some (.invokevirtual 344, 71) := by decide +kernel
theorem d151_71 : cod 151 71 = some (.iastore, 72) := by decide +kernel
theorem d151_72 : cod 151 72 = some (.iinc 4 1, 75) := by decide +kernel
theorem d151_75 : cod 151 75 = some (.goto (-26), 78) := by decide +kernel
theorem d151_78 : cod 151 78 = some (.aload_n 0, 79) := by decide +kernel
theorem d151_79 : cod 151 79 = some (.getfield 74, 82) := by decide +kernel
theorem d151_82 : cod 151 82 = some (.iload_n 3, 83) := by decide +kernel
theorem d151_83 : cod 151 83 = some (.iaload, 84) := by decide +kernel
theorem d151_84 : cod 151 84 = some (.sipush 1000, 87) := by decide +kernel
theorem d151_87 : cod 151 87 = some (.if_icmp .ge 12, 90) := by decide +kernel
theorem d151_90 : cod 151 90 = some (.aload_n 0, 91) := by decide +kernel
theorem d151_91 : cod 151 91 = some (.getfield 74, 94) := by decide +kernel
theorem d151_94 : cod 151 94 = some (.iload_n 3, 95) := by decide +kernel
theorem d151_95 : cod 151 95 = some (.iaload, 96) := by decide +kernel
theorem d151_96 : cod 151 96 = some (.goto 4, 99) := by decide +kernel
theorem d151_99 : cod 151 99 = some (.iconst (-1), 100) := by decide +kernel
theorem d151_100 : cod 151 100 = some (.ireturn, 101) := by decide +kernel
theorem d152_0 : cod 152 0 = some (.sipush 1000, 3) := by decide +kernel
theorem d152_3 : cod 152 3 = some (.istore_n 3, 4) := by decide +kernel
theorem d152_4 : cod 152 4 = some (.iconst 0, 5) := by decide +kernel
theorem d152_5 : cod 152 5 = some (.istore 4, 7) := by decide +kernel
theorem d152_7 : cod 152 7 = some (.iload 4, 9) := by decide +kernel
theorem d152_9 : cod 152 9 = some (.aload_n 0, 10) := by decide +kernel
theorem d152_10 : cod 152 10 = some (.getfield 37, 13) := by decide +kernel
theorem d152_13 : cod 152 13 = some (.invokevirtual 129, 16) := by decide +kernel
theorem d152_16 : cod 152 16 = some (.if_icmp .ge 60, 19) := by decide +kernel
theorem d152_19 : cod 152 19 = some (.aload_n 0, 20) := by decide +kernel
theorem d152_20 : cod 152 20 = some (.getfield 37, 23) := by decide +kernel
theorem d152_23 : cod 152 23 = some (.iload 4, 25) := by decide +kernel
theorem d152_25 : cod 152 25 = some (.invokevirtual 132, 28) := by decide +kernel
theorem d152_28 : cod 152 28 = some (.checkcast 290, 31) := by decide +kernel
theorem d152_31 : cod 152 31 = some (.astore 5, 33) := by decide +kernel
theorem d152_33 : cod 152 33 = some (.aload 5, 35) := by decide +kernel
theorem d152_35 : cod 152 35 = some (.getfield 556, 38) := by decide +kernel
theorem d152_38 : cod 152 38 = some (.iload_n 1, 39) := by decide +kernel
theorem d152_39 : cod 152 39 = some (.if_icmp .gt 31, 42) := by decide +kernel
theorem d152_42 : cod 152 42 = some (.aload 5, 44) := by decide +kernel
theorem d152_44 : cod 152 44 = some (.iload_n 2, 45) := by decide +kernel
theorem d152_45 : cod 152 45 = some (.invokevirtual 583, 48) := by decide +kernel
theorem d152_48 : cod 152 48 = some (.ifCond .eq 22, 51) := by decide +kernel
theorem d152_51 : cod 152 51 = some (.iload_n 3, 52) := by decide +kernel
theorem d152_52 : cod 152 52 = some (.aload_n 0, 53) := by decide +kernel
theorem d152_53 : cod 152 53 = some (.getfield 74, 56) := by decide +kernel
theorem d152_56 : cod 152 56 = some (.iload_n 1, 57) := by decide +kernel
theorem d152_57 : cod 152 57 = some (.aload 5, 59) := by decide +kernel
theorem d152_59 : cod 152 59 = some (.getfield 556, 62) := by decide +kernel
theorem d152_62 : cod 152 62 = some (.isub, 63) := by decide +kernel
theorem d152_63 : cod 152 63 = some (.iaload, 64) := by decide +kernel
theorem d152_64 : cod 152 64 = some (.iconst 1, 65) := by decide +kernel
theorem d152_65 : cod 152 65 = some (.iadd, 66) := by decide +kernel
theorem d152_66 : cod 152 66 = some (.invokestatic 588, 69) := by decide +kernel
theorem d152_69 : cod 152 69 = some (.istore_n 3, 70) := by decide +kernel
theorem d152_70 : cod 152 70 = some (.iinc 4 1, 73) := by decide +kernel
theorem d152_73 : cod 152 73 = some (.goto (-66), 76) := by decide +kernel
theorem d152_76 : cod 152 76 = some (.iload_n 3, 77) := by decide +kernel
theorem d152_77 : cod 152 77 = some (.ireturn, 78) := by decide +kernel
theorem d153_0 : cod 153 0 = some (.lload_n 1, 1) := by decide +kernel
theorem d153_1 : cod 153 1 = some (.lstore_n 3, 2) := by decide +kernel
theorem d153_2 : cod 153 2 = some (.iconst 0, 3) := by decide +kernel
theorem d153_3 : cod 153 3 = some (.istore 5, 5) := by decide +kernel
theorem d153_5 : cod 153 5 = some (.iload 5, 7) := by decide +kernel
theorem d153_7 : cod 153 7 = some (.aload_n 0, 8) := by decide +kernel
theorem d153_8 : cod 153 8 = some (.getfield 37, 11) := by decide +kernel
theorem d153_11 : cod 153 11 = some (.invokevirtual 129, 14) := by decide +kernel
theorem d153_14 : cod 153 14 = some (.if_icmp .ge 35, 17) := by decide +kernel
theorem d153_17 : cod 153 17 = some (.lload_n 3, 18) := by decide +kernel
theorem d153_18 : cod 153 18 = some (.aload_n 0, 19) := by decide +kernel
theorem d153_19 : cod 153 19 = some (.iload 5, 21) := by decide +kernel
theorem d153_21 : cod 153 21 = some (.iconst 0, 22) := by decide +kernel
theorem d153_22 : cod 153 22 = some (.invokevirtual 627, 25) := by decide +kernel
theorem d153_25 : cod 153 25 = some (.i2l, 26) := by decide +kernel
theorem d153_26 : cod 153 26 = some (.invokestatic 488, 29) := by decide +kernel
theorem d153_29 : cod 153 29 = some (.lstore_n 3, 30) := by decide +kernel
theorem d153_30 : cod 153 30 = some (.lload_n 3, 31) := by decide +kernel
theorem d153_31 : cod 153 31 = some (.aload_n 0, 32) := by decide +kernel
theorem d153_32 : cod 153 32 = some (.iload 5, 34) := by decide +kernel
theorem d153_34 : cod 153 34 = some (.iconst 1, 35) := by decide +kernel
theorem d153_35 : cod 153 35 = some (.invokevirtual 627, 38) := by decide +kernel
theorem d153_38 : cod 153 38 = some (.i2l, 39) := by decide +kernel
theorem d153_39 : cod 153 39 = some (.invokestatic 488, 42) := by decide +kernel
theorem d153_42 : cod 153 42 = some (.lstore_n 3, 43) := by decide +kernel
theorem d153_43 : cod 153 43 = some (.iinc 5 1, 46) := by decide +kernel
theorem d153_46 : cod 153 46 = some (.goto (-41), 49) := by decide +kernel
theorem d153_49 : cod 153 49 = some (.lload_n 3, 50) := by decide +kernel
theorem d153_50 : cod 153 50 = some (.lreturn, 51) := by decide +kernel
theorem d154_0 : cod 154 0 = some (.aload_n 0, 1) := by decide +kernel
theorem d154_1 : cod 154 1 = some (.iload_n 1, 2) := by decide +kernel
theorem d154_2 : cod 154 2 = some (.invokevirtual 309, 5) := by decide +kernel
theorem d154_5 : cod 154 5 = some (.invokestatic 112, 8) := by decide +kernel
theorem d154_8 : cod 154 8 = some (.iload_n 2, 9) := by decide +kernel
theorem d154_9 : cod 154 9 = some (.ifCond .eq 9, 12) := by decide +kernel
theorem d154_12 : cod 154 12 = some (.aload_n 0, 13) := by decide +kernel
theorem d154_13 : cod 154 13 = some (.iload_n 1, 14) := by decide +kernel
theorem d154_14 : cod 154 14 = some (.invokevirtual 347, 17) := by decide +kernel
theorem d154_17 : cod 154 17 = some (.ireturn, 18) := by decide +kernel
theorem d154_18 : cod 154 18 = some (.iconst 0, 19) := by decide +kernel
theorem d154_19 : cod 154 19 = some (.istore_n 3, 20) := by decide +kernel
theorem d154_20 : cod 154 20 = some (.iconst 0, 21) := by decide +kernel
theorem d154_21 : cod 154 21 = some (.istore 4, 23) := by decide +kernel
theorem d154_23 : cod 154 23 = some (.iload 4, 25) := by decide +kernel
theorem d154_25 : cod 154 25 = some (.aload_n 0, 26) := by decide +kernel
theorem d154_26 : cod 154 26 = some (.getfield 43, 29) := by decide +kernel
theorem d154_29 : cod 154 29 = some (.invokevirtual 129, 32) := by decide +kernel
theorem d154_32 : cod 154 32 = some (.if_icmp .ge 29, 35) := by decide +kernel
theorem d154_35 : cod 154 35 = some (.iload_n 3, 36) := by decide +kernel
theorem d154_36 : cod 154 36 = some (.aload_n 0, 37) := by decide +kernel
theorem d154_37 : cod 154 37 = some (.getfield 43, 40) := by decide +kernel
theorem d154_40 : cod 154 40 = some (.iload 4, 42) := by decide +kernel
theorem d154_42 : cod 154 42 = some (.invokevirtual 132, 45) := by decide +kernel
theorem d154_45 : cod 154 45 = some (.checkcast 298, 48) := by decide +kernel
theorem d154_48 : cod 154 48 = some (.getfield 312, 51) := by decide +kernel
theorem d154_51 : cod 154 51 = some (.iload_n 1, 52) := by decide +kernel
theorem d154_52 : cod 154 52 = some (.iaload, 53) := by decide +kernel
theorem d154_53 : cod 154 53 = some (.iadd, 54) := by decide +kernel
theorem d154_54 : cod 154 54 = some (.istore_n 3, 55) := by decide +kernel
theorem d154_55 : cod 154 55 = some (.iinc 4 1, 58) := by decide +kernel
theorem d154_58 : cod 154 58 = some (.goto (-35), 61) := by decide +kernel
theorem d154_61 : cod 154 61 = some (.iload_n 3, 62) := by decide +kernel
theorem d154_62 : cod 154 62 = some (.ireturn, 63) := by decide +kernel
theorem d155_0 : cod 155 0 = some (.iconst 0, 1) := by decide +kernel
theorem d155_1 : cod 155 1 = some (.istore_n 2, 2) := by decide +kernel
theorem d155_2 : cod 155 2 = some (.iconst 0, 3) := by decide +kernel
theorem d155_3 : cod 155 3 = some (.istore_n 3, 4) := by decide +kernel
theorem d155_4 : cod 155 4 = some (.iconst 0, 5) := by decide +kernel
theorem d155_5 : cod 155 5 = some (.istore 4, 7) := by decide +kernel
theorem d155_7 : cod 155 7 = some (.iload 4, 9) := by decide +kernel
theorem d155_9 : cod 155 9 = some (.aload_n 0, 10) := by decide +kernel
theorem d155_10 : cod 155 10 = some (.getfield 43, 13) := by decide +kernel
theorem d155_13 : cod 155 13 = some (.invokevirtual 129, 16) := by decide +kernel
theorem d155_16 : cod 155 16 = some (.if_icmp .ge 50, 19) := by decide +kernel
theorem d155_19 : cod 155 19 = some (.aload_n 0, 20) := by decide +kernel
theorem d155_20 : cod 155 20 = some (.getfield 43, 23) := by decide +kernel
theorem d155_23 : cod 155 23 = some (.iload 4, 25) := by decide +kernel
theorem d155_25 : cod 155 25 = some (.invokevirtual 132, 28) := by decide +kernel
theorem d155_28 : cod 155 28 = some (.checkcast 298, 31) := by decide +kernel
theorem d155_31 : cod 155 31 = some (.astore 5, 33) := by decide +kernel
theorem d155_33 : cod 155 33 = some (.aload_n 0, 34) := by decide +kernel
theorem d155_34 : cod 155 34 = some (.aload 5, 36) := by decide +kernel
theorem d155_36 : cod 155 36 = some (.invokevirtual 334, 39) := by decide +kernel
theorem d155_39 : cod 155 39 = some (.ifCond .ne 21, 42) := by decide +kernel
theorem d155_42 : cod 155 42 = some (.iload_n 2, 43) := by decide +kernel
theorem d155_43 : cod 155 43 = some (.aload 5, 45) := by decide +kernel
theorem d155_45 : cod 155 45 = some (.getfield 312, 48) := by decide +kernel
theorem d155_48 : cod 155 48 = some (.iload_n 1, 49) := by decide +kernel
theorem d155_49 : cod 155 49 = some (.iaload, 50) := by decide +kernel
theorem d155_50 : cod 155 50 = some (.iadd, 51) := by decide +kernel
theorem d155_51 : cod 155 51 = some (.istore_n 2, 52) := by decide +kernel
theorem d155_52 : cod 155 52 = some (.iload_n 3, 53) := by decide +kernel
theorem d155_53 : cod 155 53 = some (.aload 5, 55) := by decide +kernel
theorem d155_55 : cod 155 55 = some (.invokevirtual 331, 58) := by decide +kernel
theorem d155_58 : cod 155 58 = some (.iadd, 59) := by decide +kernel
theorem d155_59 : cod 155 59 = some (.istore_n 3, 60) := by decide +kernel
theorem d155_60 : cod 155 60 = some (.iinc 4 1, 63) := by decide +kernel
theorem d155_63 : cod 155 63 = some (.goto (-56), 66) := by decide +kernel
theorem d155_66 : cod 155 66 = some (.iload_n 3, 67) := by decide +kernel
theorem d155_67 : cod 155 67 = some (.ifCond .ne 7, 70) := by decide +kernel
theorem d155_70 : cod 155 70 = some (.iconst 0, 71) := by decide +kernel
theorem d155_71 : cod 155 71 = some (.goto 10, 74) := by decide +kernel
theorem d155_74 : cod 155 74 = some (.iload_n 2, 75) := by decide +kernel
theorem d155_75 : cod 155 75 = some (.sipush 1000, 78) := by decide +kernel
theorem d155_78 : cod 155 78 = some (.imul, 79) := by decide +kernel
theorem d155_79 : cod 155 79 = some (.iload_n 3, 80) := by decide +kernel
theorem d155_80 : cod 155 80 = some (.idiv, 81) := by decide +kernel
theorem d155_81 : cod 155 81 = some (.ireturn, 82) := by decide +kernel
theorem d156_0 : cod 156 0 = some (.lload_n 1, 1) := by decide +kernel
theorem d156_1 : cod 156 1 = some (.lstore_n 3, 2) := by decide +kernel
theorem d156_2 : cod 156 2 = some (.iconst 0, 3) := by decide +kernel
theorem d156_3 : cod 156 3 = some (.istore 5, 5) := by decide +kernel
theorem d156_5 : cod 156 5 = some (.iload 5, 7) := by decide +kernel
theorem d156_7 : cod 156 7 = some (.bipush 6, 9) := by decide +kernel
theorem d156_9 : cod 156 9 = some (.if_icmp .gt 21, 12) := by decide +kernel
theorem d156_12 : cod 156 12 = some (.lload_n 3, 13) := by decide +kernel
theorem d156_13 : cod 156 13 = some (.aload_n 0, 14) := by decide +kernel
theorem d156_14 : cod 156 14 = some (.iload 5, 16) := by decide +kernel
theorem d156_16 : cod 156 16 = some (.invokevirtual 630, 19) := by decide +kernel
theorem d156_19 : cod 156 19 = some (.i2l, 20) := by decide +kernel
theorem d156_20 : cod 156 20 = some (.invokestatic 488, 23) := by decide +kernel
theorem d156_23 : cod 156 23 = some (.lstore_n 3, 24) := by decide +kernel
theorem d156_24 : cod 156 24 = some (.iinc 5 1, 27) := by decide +kernel
theorem d156_27 : cod 156 27 = some (.goto (-22), 30) := by decide +kernel
theorem d156_30 : cod 156 30 = some (.iconst 0, 31) := by decide +kernel
theorem d156_31 : cod 156 31 = some (.istore 5, 33) := by decide +kernel
theorem d156_33 : cod 156 33 = some (.iload 5, 35) := by decide +kernel
theorem d156_35 : cod 156 35 = some (.aload_n 0, 36) := by decide +kernel
theorem d156_36 : cod 156 36 = some (.getfield 63, 39) := by decide +kernel
theorem d156_39 : cod 156 39 = some (.getfield 392, 42) := by decide +kernel
theorem d156_42 : cod 156 42 = some (.if_icmp .ge 35, 45) := by decide +kernel
theorem d156_45 : cod 156 45 = some (.lload_n 3, 46) := by decide +kernel
theorem d156_46 : cod 156 46 = some (.aload_n 0, 47) := by decide +kernel
theorem d156_47 : cod 156 47 = some (.iload 5, 49) := by decide +kernel
theorem d156_49 : cod 156 49 = some (.iconst 0, 50) := by decide +kernel
theorem d156_50 : cod 156 50 = some (.invokevirtual 633, 53) := by decide +kernel
theorem d156_53 : cod 156 53 = some (.i2l, 54) := by decide +kernel
theorem d156_54 : cod 156 54 = some (.invokestatic 488, 57) := by decide +kernel
theorem d156_57 : cod 156 57 = some (.lstore_n 3, 58) := by decide +kernel
theorem d156_58 : cod 156 58 = some (.lload_n 3, 59) := by decide +kernel
theorem d156_59 : cod 156 59 = some (.aload_n 0, 60) := by decide +kernel
theorem d156_60 : cod 156 60 = some (.iload 5, 62) := by decide +kernel
theorem d156_62 : cod 156 62 = some (.iconst 1, 63) := by decide +kernel
theorem d156_63 : cod 156 63 = some (.invokevirtual 633, 66) := by decide +kernel
theorem d156_66 : cod 156 66 = some (.i2l, 67) := by decide +kernel
theorem d156_67 : cod 156 67 = some (.invokestatic 488, 70) := by decide +kernel
theorem d156_70 : cod 156 70 = some (.lstore_n 3, 71) := by decide +kernel
theorem d156_71 : cod 156 71 = some (.iinc 5 1, 74) := by decide +kernel
theorem d156_74 : cod 156 74 = some (.goto (-41), 77) := by decide +kernel
theorem d156_77 : cod 156 77 = some (.lload_n 3, 78) := by decide +kernel
theorem d156_78 : cod 156 78 = some (.lreturn, 79) := by decide +kernel
theorem d157_0 : cod 157 0 = some (.iload_n 1, 1) := by decide +kernel
theorem d157_1 : cod 157 1 = some (.iconst 0, 2) := by decide +kernel
theorem d157_2 : cod 157 2 = some (.bipush 6, 4) := by decide +kernel
theorem d157_4 : cod 157 4 = some (.invokestatic 84, 7) := by decide +kernel
theorem d157_7 : cod 157 7 = some (.invokestatic 88, 10) := by decide +kernel
theorem d157_10 : cod 157 10 = some (.aload_n 0, 11) := by decide +kernel
theorem d157_11 : cod 157 11 = some (.getfield 63, 14) := by decide +kernel
theorem d157_14 : cod 157 14 = some (.aload_n 0, 15) := by decide +kernel
theorem d157_15 : cod 157 15 = some (.invokevirtual 412, 18) := by decide +kernel
theorem d157_18 : cod 157 18 = some (.invokevirtual 415, 21) := by decide +kernel
theorem d157_21 : cod 157 21 = some (.iload_n 1, 22) := by decide +kernel
theorem d157_22 : cod 157 22 = some (.tableswitch 86 0 5 #[38, 46, 54, 62, 70, 78], 60) := by decide +kernel
theorem d157_60 : cod 157 60 = some (.aload_n 0, 61) := by decide +kernel
theorem d157_61 : cod 157 61 = some (.getfield 63, 64) := by decide +kernel
theorem d157_64 : cod 157 64 = some (.invokevirtual 418, 67) := by decide +kernel
theorem d157_67 : cod 157 67 = some (.ireturn, 68) := by decide +kernel
theorem d157_68 : cod 157 68 = some (.aload_n 0, 69) := by decide +kernel
theorem d157_69 : cod 157 69 = some (.getfield 63, 72) := by decide +kernel
theorem d157_72 : cod 157 72 = some (.invokevirtual 421, 75) := by decide +kernel
theorem d157_75 : cod 157 75 = some (.ireturn, 76) := by decide +kernel
theorem d157_76 : cod 157 76 = some (.aload_n 0, 77) := by decide +kernel
theorem d157_77 : cod 157 77 = some (.getfield 63, 80) := by decide +kernel
theorem d157_80 : cod 157 80 = some (.invokevirtual 424, 83) := by decide +kernel
theorem d157_83 : cod 157 83 = some (.ireturn, 84) := by decide +kernel
theorem d157_84 : cod 157 84 = some (.aload_n 0, 85) := by decide +kernel
theorem d157_85 : cod 157 85 = some (.getfield 63, 88) := by decide +kernel
theorem d157_88 : cod 157 88 = some (.invokevirtual 427, 91) := by decide +kernel
theorem d157_91 : cod 157 91 = some (.ireturn, 92) := by decide +kernel
theorem d157_92 : cod 157 92 = some (.aload_n 0, 93) := by decide +kernel
theorem d157_93 : cod 157 93 = some (.getfield 63, 96) := by decide +kernel
theorem d157_96 : cod 157 96 = some (.invokevirtual 430, 99) := by decide +kernel
theorem d157_99 : cod 157 99 = some (.ireturn, 100) := by decide +kernel
theorem d157_100 : cod 157 100 = some (.aload_n 0, 101) := by decide +kernel
theorem d157_101 : cod 157 101 = some (.getfield 63, 104) := by decide +kernel
theorem d157_104 : cod 157 104 = some (.invokevirtual 433, 107) := by decide +kernel
theorem d157_107 : cod 157 107 = some (.ireturn, 108) := by decide +kernel
theorem d157_108 : cod 157 108 = some (.aload_n 0, 109) := by decide +kernel
theorem d157_109 : cod 157 109 = some (.getfield 63, 112) := by decide +kernel
theorem d157_112 : cod 157 112 = some (.getfield 392, 115) := by decide +kernel
theorem d157_115 : cod 157 115 = some (.ireturn, 116) := by decide +kernel
theorem d158_0 : cod 158 0 = some (.iconst 0, 1) := by decide +kernel
theorem d158_1 : cod 158 1 = some (.istore_n 1, 2) := by decide +kernel
theorem d158_2 : cod 158 2 = some (.iconst 0, 3) := by decide +kernel
theorem d158_3 : cod 158 3 = some (.istore_n 2, 4) := by decide +kernel
theorem d158_4 : cod 158 4 = some (.iload_n 2, 5) := by decide +kernel
theorem d158_5 : cod 158 5 = some (.aload_n 0, 6) := by decide +kernel
theorem d158_6 : cod 158 6 = some (.getfield 63, 9) := by decide +kernel
theorem d158_9 : cod 158 9 = some (.getfield 392, 12) := by decide +kernel
theorem d158_12 : cod 158 12 = some (.if_icmp .ge 66, 15) := by decide +kernel
theorem d158_15 : cod 158 15 = some (.aload_n 0, 16) := by decide +kernel
theorem d158_16 : cod 158 16 = some (.getfield 63, 19) := by decide +kernel
theorem d158_19 : cod 158 19 = some (.getfield 593, 22) := by decide +kernel
theorem d158_22 : cod 158 22 = some (.iload_n 2, 23) := by decide +kernel
theorem d158_23 : cod 158 23 = some (.iaload, 24) := by decide +kernel
theorem d158_24 : cod 158 24 = some (.istore_n 3, 25) := by decide +kernel
theorem d158_25 : cod 158 25 = some (.aload_n 0, 26) := by decide +kernel
theorem d158_26 : cod 158 26 = some (.getfield 63, 29) := by decide +kernel
theorem d158_29 : cod 158 29 = some (.getfield 595, 32) := by decide +kernel
theorem d158_32 : cod 158 32 = some (.iload_n 2, 33) := by decide +kernel
theorem d158_33 : cod 158 33 = some (.baload, 34) := by decide +kernel
theorem d158_34 : cod 158 34 = some (.ifCond .eq 24, 37) := by decide +kernel
theorem d158_37 : cod 158 37 = some (.aload_n 0, 38) := by decide +kernel
theorem d158_38 : cod 158 38 = some (.aload_n 0, 39) := by decide +kernel
theorem d158_39 : cod 158 39 = some (.getfield 43, 42) := by decide +kernel
theorem d158_42 : cod 158 42 = some (.iload_n 3, 43) := by decide +kernel
theorem d158_43 : cod 158 43 = some (.invokevirtual 132, 46) := by decide +kernel
theorem d158_46 : cod 158 46 = some (.checkcast 298, 49) := by decide +kernel
theorem d158_49 : cod 158 49 = some (.invokevirtual 334, 52) := by decide +kernel
theorem d158_52 : cod 158 52 = some (.ifCond .eq 20, 55) := by decide +kernel
theorem d158_55 : cod 158 55 = some (.goto 11, 58) := by decide +kernel
theorem d158_58 : cod 158 58 = some (.aload_n 0, 59) := by decide +kernel
theorem d158_59 : cod 158 59 = some (.iload_n 3, 60) := by decide +kernel
theorem d158_60 : cod 158 60 = some (.invokevirtual 547, 63) := by decide +kernel
theorem d158_63 : cod 158 63 = some (.ifCond .eq 9, 66) := by decide +kernel
theorem d158_66 : cod 158 66 = some (.iload_n 1, 67) := by decide +kernel
theorem d158_67 : cod 158 67 = some (.iconst 1, 68) := by decide +kernel
theorem d158_68 : cod 158 68 = some (.iload_n 2, 69) := by decide +kernel
theorem d158_69 : cod 158 69 = some (.ishl, 70) := by decide +kernel
theorem d158_70 : cod 158 70 = some (.ior, 71) := by decide +kernel
theorem d158_71 : cod 158 71 = some (.istore_n 1, 72) := by decide +kernel
theorem d158_72 : cod 158 72 = some (.iinc 2 1, 75) := by decide +kernel
theorem d158_75 : cod 158 75 = some (.goto (-71), 78) := by decide +kernel
theorem d158_78 : cod 158 78 = some (.iload_n 1, 79) := by decide +kernel
theorem d158_79 : cod 158 79 = some (.ireturn, 80) := by decide +kernel
theorem d159_0 : cod 159 0 = some (.iload_n 1, 1) := by decide +kernel
theorem d159_1 : cod 159 1 = some (.iconst 0, 2) := by decide +kernel
theorem d159_2 : cod 159 2 = some (.aload_n 0, 3) := by decide +kernel
theorem d159_3 : cod 159 3 = some (.getfield 63, 6) := by decide +kernel
theorem d159_6 : cod 159 6 = some (.getfield 392, 9) := by decide +kernel
theorem d159_9 : cod 159 9 = some (.iconst 1, 10) := by decide +kernel
theorem d159_10 : cod 159 10 = some (.isub, 11) := by decide +kernel
theorem d159_11 : cod 159 11 = some (.invokestatic 84, 14) := by decide +kernel
theorem d159_14 : cod 159 14 = some (.invokestatic 112, 17) := by decide +kernel
theorem d159_17 : cod 159 17 = some (.aload_n 0, 18) := by decide +kernel
theorem d159_18 : cod 159 18 = some (.getfield 63, 21) := by decide +kernel
theorem d159_21 : cod 159 21 = some (.aload_n 0, 22) := by decide +kernel
theorem d159_22 : cod 159 22 = some (.invokevirtual 412, 25) := by decide +kernel
theorem d159_25 : cod 159 25 = some (.invokevirtual 415, 28) := by decide +kernel
theorem d159_28 : cod 159 28 = some (.iload_n 2, 29) := by decide +kernel
theorem d159_29 : cod 159 29 = some (.ifCond .eq 14, 32) := by decide +kernel
theorem d159_32 : cod 159 32 = some (.aload_n 0, 33) := by decide +kernel
theorem d159_33 : cod 159 33 = some (.getfield 63, 36) := by decide +kernel
theorem d159_36 : cod 159 36 = some (.iload_n 1, 37) := by decide +kernel
theorem d159_37 : cod 159 37 = some (.invokevirtual 436, 40) := by decide +kernel
theorem d159_40 : cod 159 40 = some (.goto 11, 43) := by decide +kernel
theorem d159_43 : cod 159 43 = some (.aload_n 0, 44) := by decide +kernel
theorem d159_44 : cod 159 44 = some (.getfield 63, 47) := by decide +kernel
theorem d159_47 : cod 159 47 = some (.iload_n 1, 48) := by decide +kernel
theorem d159_48 : cod 159 48 = some (.invokevirtual 439, 51) := by decide +kernel
theorem d159_51 : cod 159 51 = some (.ireturn, 52) := by decide +kernel
theorem d160_0 : cod 160 0 = some (.iload_n 1, 1) := by decide +kernel
theorem d160_1 : cod 160 1 = some (.iconst 0, 2) := by decide +kernel
theorem d160_2 : cod 160 2 = some (.bipush 40, 4) := by decide +kernel
theorem d160_4 : cod 160 4 = some (.invokestatic 84, 7) := by decide +kernel
theorem d160_7 : cod 160 7 = some (.invokestatic 88, 10) := by decide +kernel
theorem d160_10 : cod 160 10 = some (.aload_n 0, 11) := by decide +kernel
theorem d160_11 : cod 160 11 = some (.iload_n 1, 12) := by decide +kernel
theorem d160_12 : cod 160 12 = some (.invokevirtual 471, 15) := by decide +kernel
theorem d160_15 : cod 160 15 = some (.istore_n 3, 16) := by decide +kernel
theorem d160_16 : cod 160 16 = some (.iload_n 2, 17) := by decide +kernel
theorem d160_17 : cod 160 17 = some (.ifCond .eq 7, 20) := by decide +kernel
theorem d160_20 : cod 160 20 = some (.iload_n 3, 21) := by decide +kernel
theorem d160_21 : cod 160 21 = some (.goto 9, 24) := by decide +kernel
theorem d160_24 : cod 160 24 = some (.aload_n 0, 25) := by decide +kernel
theorem d160_25 : cod 160 25 = some (.getfield 81, 28) := by decide +kernel
theorem d160_28 : cod 160 28 = some (.iload_n 3, 29) := by decide +kernel
theorem d160_29 : cod 160 29 = some (.iaload, 30) := by decide +kernel
theorem d160_30 : cod 160 30 = some (.ireturn, 31) := by decide +kernel
theorem d161_0 : cod 161 0 = some (.iconst 0, 1) := by decide +kernel
theorem d161_1 : cod 161 1 = some (.istore_n 2, 2) := by decide +kernel
theorem d161_2 : cod 161 2 = some (.aload_n 0, 3) := by decide +kernel
theorem d161_3 : cod 161 3 = some (.getfield 78, 6) := by decide +kernel
theorem d161_6 : cod 161 6 = some (.iconst 0, 7) := by decide +kernel
theorem d161_7 : cod 161 7 = some (.iconst 0, 8) := by decide +kernel
theorem d161_8 : cod 161 8 = some (.iastore, 9) := by decide +kernel
theorem d161_9 : cod 161 9 = some (.aload_n 0, 10) := by decide +kernel
theorem d161_10 : cod 161 10 = some (.getfield 81, 13) := by decide +kernel
theorem d161_13 : cod 161 13 = some (.iconst 0, 14) := by decide +kernel
theorem d161_14 : cod 161 14 = some (.iconst 0, 15) := by decide +kernel
theorem d161_15 : cod 161 15 = some (.iastore, 16) := by decide +kernel
theorem d161_16 : cod 161 16 = some (.iconst 0, 17) := by decide +kernel
theorem d161_17 : cod 161 17 = some (.istore_n 3, 18) := by decide +kernel
theorem d161_18 : cod 161 18 = some (.iload_n 3, 19) := by decide +kernel
theorem d161_19 : cod 161 19 = some (.aload_n 0, 20) := by decide +kernel
theorem d161_20 : cod 161 20 = some (.getfield 19, 23) := by decide +kernel
theorem d161_23 : cod 161 23 = some (.invokevirtual 129, 26) := by decide +kernel
theorem d161_26 : cod 161 26 = some (.if_icmp .ge 164, 29) := by decide +kernel
theorem d161_29 : cod 161 29 = some (.aload_n 0, 30) := by decide +kernel
theorem d161_30 : cod 161 30 = some (.getfield 19, 33) := by decide +kernel
theorem d161_33 : cod 161 33 = some (.iload_n 3, 34) := by decide +kernel
theorem d161_34 : cod 161 34 = some (.invokevirtual 132, 37) := by decide +kernel
theorem d161_37 : cod 161 37 = some (.checkcast 136, 40) := by decide +kernel
theorem d161_40 : cod 161 40 = some (.astore 4, 42) := by decide +kernel
theorem d161_42 : cod 161 42 = some (.aload_n 0, 43) := by decide +kernel
theorem d161_43 : cod 161 43 = some (.aload 4, 45) := by decide +kernel
theorem d161_45 : cod 161 45 = some (.invokevirtual 236, 48) := by decide +kernel
theorem d161_48 : cod 161 48 = some (.istore 5, 50) := by decide +kernel
theorem d161_50 : cod 161 50 = some (.aload_n 0, 51) := by decide +kernel
theorem d161_51 : cod 161 51 = some (.aload 4, 53) := by decide +kernel
theorem d161_53 : cod 161 53 = some (.invokevirtual 468, 56) := by decide +kernel
theorem d161_56 : cod 161 56 = some (.istore 6, 58) := by decide +kernel
theorem d161_58 : cod 161 58 = some (.iconst 0, 59) := by decide +kernel
theorem d161_59 : cod 161 59 = some (.istore 7, 61) := by decide +kernel
theorem d161_61 : cod 161 61 = some (.iload 7, 63) := by decide +kernel
theorem d161_63 : cod 161 63 = some (.iconst 1, 64) := by decide +kernel
theorem d161_64 : cod 161 64 = some (.iload_n 3, 65) := by decide +kernel
theorem d161_65 : cod 161 65 = some (.ishl, 66) := by decide +kernel
theorem d161_66 : cod 161 66 = some (.if_icmp .ge 118, 69) := by decide +kernel
theorem d161_69 : cod 161 69 = some (.iload 7, 71) := by decide +kernel
theorem d161_71 : cod 161 71 = some (.iconst 1, 72) := by decide +kernel
theorem d161_72 : cod 161 72 = some (.iload_n 3, 73) := by decide +kernel
theorem d161_73 : cod 161 73 = some (.ishl, 74) := by decide +kernel
theorem d161_74 : cod 161 74 = some (.ior, 75) := by decide +kernel
theorem d161_75 : cod 161 75 = some (.istore 8, 77) := by decide +kernel
theorem d161_77 : cod 161 77 = some (.aload_n 0, 78) := by decide +kernel
theorem d161_78 : cod 161 78 = some (.getfield 78, 81) := by decide +kernel
theorem d161_81 : cod 161 81 = some (.iload 8, 83) := by decide +kernel
theorem d161_83 : cod 161 83 = some (.aload_n 0, 84) := by decide +kernel
theorem d161_84 : cod 161 84 = some (.getfield 78, 87) := by decide +kernel
theorem d161_87 : cod 161 87 = some (.iload 7, 89) := by decide +kernel
theorem d161_89 : cod 161 89 = some (.iaload, 90) := by decide +kernel
theorem d161_90 : cod 161 90 = some (.aload 4, 92) := by decide +kernel
theorem d161_92 : cod 161 92 = some (.invokevirtual 176, 95) := by decide +kernel
theorem d161_95 : cod 161 95 = some (.iadd, 96) := by decide +kernel
theorem d161_96 : cod 161 96 = some (.iastore, 97) := by decide +kernel
theorem d161_97 : cod 161 97 = some (.aload_n 0, 98) := by decide +kernel
theorem d161_98 : cod 161 98 = some (.getfield 81, 101) := by decide +kernel
theorem d161_101 : cod 161 101 = some (.iload 7, 103) := by decide +kernel
theorem d161_103 : cod 161 103 = some (.iaload, 104) := by decide +kernel
theorem d161_104 : cod 161 104 = some (.ifCond .lt 26, 107) := by decide +kernel
theorem d161_107 : cod 161 107 = some (.iload 7, 109) := by decide +kernel
theorem d161_109 : cod 161 109 = some (.iload 5, 111) := by decide +kernel
theorem d161_111 : cod 161 111 = some (.iand, 112) := by decide +kernel
theorem d161_112 : cod 161 112 = some (.ifCond .ne 18, 115) := by decide +kernel
theorem d161_115 : cod 161 115 = some (.aload_n 0, 116) := by decide +kernel
theorem d161_116 : cod 161 116 = some (.getfield 78, 119) := by decide +kernel
theorem d161_119 : cod 161 119 = some (.iload 8, 121) := by decide +kernel
theorem d161_121 : cod 161 121 = some (.iaload, 122) := by decide +kernel
theorem d161_122 : cod 161 122 = some (.iload_n 1, 123) := by decide +kernel
theorem d161_123 : cod 161 123 = some (.if_icmp .gt 7, 126) := by decide +kernel
theorem d161_126 : cod 161 126 = some (.iconst 1, 127) := by decide +kernel
theorem d161_127 : cod 161 127 = some (.goto 4, 130) := by decide +kernel
theorem d161_130 : cod 161 130 = some (.iconst 0, 131) := by decide +kernel
theorem d161_131 : cod 161 131 = some (.istore 9, 133) := by decide +kernel
theorem d161_133 : cod 161 133 = some (.aload_n 0, 134) := by decide +kernel
theorem d161_134 : cod 161 134 = some (.getfield 81, 137) := by decide +kernel
theorem d161_137 : cod 161 137 = some (.iload 8, 139) := by decide +kernel
theorem d161_139 : cod 161 139 = some (.iload 9, 141) := by decide +kernel
theorem d161_141 : cod 161 141 = some (.ifCond .eq 16, 144) := by decide +kernel
theorem d161_144 : cod 161 144 = some (.aload_n 0, 145) := by decide +kernel
theorem d161_145 : cod 161 145 = some (.getfield 81, 148) := by decide +kernel
theorem d161_148 : cod 161 148 = some (.iload 7, 150) := by decide +kernel
theorem d161_150 : cod 161 150 = some (.iaload, 151) := by decide +kernel
theorem d161_151 : cod 161 151 = some (.iload 6, 153) := by decide +kernel
theorem d161_153 : cod 161 153 = some (.iadd, 154) := by decide +kernel
theorem d161_154 : cod 161 154 = some (.goto 4, 157) := by decide +kernel
theorem d161_157 : cod 161 157 = some (.iconst (-1), 158) := by decide +kernel
theorem d161_158 : cod 161 158 = some (.iastore, 159) := by decide +kernel
theorem d161_159 : cod 161 159 = some (.aload_n 0, 160) := by decide +kernel
theorem d161_160 : cod 161 160 = some (.getfield 81, 163) := by decide +kernel
theorem d161_163 : cod 161 163 = some (.iload 8, 165) := by decide +kernel
theorem d161_165 : cod 161 165 = some (.iaload, 166) := by decide +kernel
theorem d161_166 : cod 161 166 = some (.aload_n 0, 167) := by decide +kernel
theorem d161_167 : cod 161 167 = some (.getfield 81, 170) := by decide +kernel
theorem d161_170 : cod 161 170 = some (.iload_n 2, 171) := by decide +kernel
theorem d161_171 : cod 161 171 = some (.iaload, 172) := by decide +kernel
theorem d161_172 : cod 161 172 = some (.if_icmp .le 6, 175) := by decide +kernel
theorem d161_175 : cod 161 175 = some (.iload 8, 177) := by decide +kernel
theorem d161_177 : cod 161 177 = some (.istore_n 2, 178) := by decide +kernel
theorem d161_178 : cod 161 178 = some (.iinc 7 1, 181) := by decide +kernel
theorem d161_181 : cod 161 181 = some (.goto (-120), 184) := by decide +kernel
theorem d161_184 : cod 161 184 = some (.iinc 3 1, 187) := by decide +kernel
theorem d161_187 : cod 161 187 = some (.goto (-169), 190) := by decide +kernel
theorem d161_190 : cod 161 190 = some (.iload_n 2, 191) := by decide +kernel
theorem d161_191 : cod 161 191 = some (.ireturn, 192) := by decide +kernel
theorem d162_0 : cod 162 0 = some (.aload_n 0, 1) := by decide +kernel
theorem d162_1 : cod 162 1 = some (.getfield 63, 4) := by decide +kernel
theorem d162_4 : cod 162 4 = some (.aload_n 0, 5) := by decide +kernel
theorem d162_5 : cod 162 5 = some (.invokevirtual 412, 8) := by decide +kernel
theorem d162_8 : cod 162 8 = some (.invokevirtual 415, 11) := by decide +kernel
theorem d162_11 : cod 162 11 = some (.aload_n 0, 12) := by decide +kernel
theorem d162_12 : cod 162 12 = some (.invokevirtual 474, 15) := by decide +kernel
theorem d162_15 : cod 162 15 = some (.ifCond .eq 44, 18) := by decide +kernel
theorem d162_18 : cod 162 18 = some (.aload_n 0, 19) := by decide +kernel
theorem d162_19 : cod 162 19 = some (.invokevirtual 477, 22) := by decide +kernel
theorem d162_22 : cod 162 22 = some (.ifCond .eq 37, 25) := by decide +kernel
theorem d162_25 : cod 162 25 = some (.aload_n 0, 26) := by decide +kernel
theorem d162_26 : cod 162 26 = some (.getfield 63, 29) := by decide +kernel
theorem d162_29 : cod 162 29 = some (.invokevirtual 480, 32) := by decide +kernel
theorem d162_32 : cod 162 32 = some (.ifCond .eq 27, 35) := by decide +kernel
theorem d162_35 : cod 162 35 = some (.aload_n 0, 36) := by decide +kernel
theorem d162_36 : cod 162 36 = some (.getfield 63, 39) := by decide +kernel
theorem d162_39 : cod 162 39 = some (.invokevirtual 430, 42) := by decide +kernel
theorem d162_42 : cod 162 42 = some (.ifCond .lt 17, 45) := by decide +kernel
theorem d162_45 : cod 162 45 = some (.aload_n 0, 46) := by decide +kernel
theorem d162_46 : cod 162 46 = some (.getfield 56, 49) := by decide +kernel
theorem d162_49 : cod 162 49 = some (.invokevirtual 483, 52) := by decide +kernel
theorem d162_52 : cod 162 52 = some (.ifCond .eq 7, 55) := by decide +kernel
theorem d162_55 : cod 162 55 = some (.iconst 1, 56) := by decide +kernel
theorem d162_56 : cod 162 56 = some (.goto 4, 59) := by decide +kernel
theorem d162_59 : cod 162 59 = some (.iconst 0, 60) := by decide +kernel
theorem d162_60 : cod 162 60 = some (.ireturn, 61) := by decide +kernel
theorem d163_0 : cod 163 0 = some (.iconst 0, 1) := by decide +kernel
theorem d163_1 : cod 163 1 = some (.istore_n 1, 2) := by decide +kernel
theorem d163_2 : cod 163 2 = some (.iload_n 1, 3) := by decide +kernel
theorem d163_3 : cod 163 3 = some (.aload_n 0, 4) := by decide +kernel
theorem d163_4 : cod 163 4 = some (.getfield 19, 7) := by decide +kernel
theorem d163_7 : cod 163 7 = some (.invokevirtual 129, 10) := by decide +kernel
theorem d163_10 : cod 163 10 = some (.if_icmp .ge 57, 13) := by decide +kernel
theorem d163_13 : cod 163 13 = some (.aload_n 0, 14) := by decide +kernel
theorem d163_14 : cod 163 14 = some (.getfield 19, 17) := by decide +kernel
theorem d163_17 : cod 163 17 = some (.iload_n 1, 18) := by decide +kernel
theorem d163_18 : cod 163 18 = some (.invokevirtual 132, 21) := by decide +kernel
theorem d163_21 : cod 163 21 = some (.checkcast 136, 24) := by decide +kernel
theorem d163_24 : cod 163 24 = some (.astore_n 2, 25) := by decide +kernel
theorem d163_25 : cod 163 25 = some (.aload_n 0, 26) := by decide +kernel
theorem d163_26 : cod 163 26 = some (.aload_n 2, 27) := by decide +kernel
theorem d163_27 : cod 163 27 = some (.invokevirtual 233, 30) := by decide +kernel
theorem d163_30 : cod 163 30 = some (.istore_n 3, 31) := by decide +kernel
theorem d163_31 : cod 163 31 = some (.iload_n 3, 32) := by decide +kernel
theorem d163_32 : cod 163 32 = some (.iconst (-1), 33) := by decide +kernel
theorem d163_33 : cod 163 33 = some (.if_icmp .eq 28, 36) := by decide +kernel
theorem d163_36 : cod 163 36 = some (.iload_n 3, 37) := by decide +kernel
theorem d163_37 : cod 163 37 = some (.aload_n 2, 38) := by decide +kernel
theorem d163_38 : cod 163 38 = some (.aload_n 0, 39) := by decide +kernel
theorem d163_39 : cod 163 39 = some (.getfield 25, 42) := by decide +kernel
theorem d163_42 : cod 163 42 = some (.aload_n 2, 43) := by decide +kernel
theorem d163_43 : cod 163 43 = some (.getfield 186, 46) := by decide +kernel
theorem d163_46 : cod 163 46 = some (.aaload, 47) := by decide +kernel
theorem d163_47 : cod 163 47 = some (.getfield 209, 50) := by decide +kernel
theorem d163_50 : cod 163 50 = some (.invokevirtual 544, 53) := by decide +kernel
theorem d163_53 : cod 163 53 = some (.invokestatic 203, 56) := by decide +kernel
theorem d163_56 : cod 163 56 = some (.ifCond .ne 5, 59) := by decide +kernel
theorem d163_59 : cod 163 59 = some (.iconst 0, 60) := by decide +kernel
theorem d163_60 : cod 163 60 = some (.ireturn, 61) := by decide +kernel
theorem d163_61 : cod 163 61 = some (.iinc 1 1, 64) := by decide +kernel
theorem d163_64 : cod 163 64 = some (.goto (-62), 67) := by decide +kernel
theorem d163_67 : cod 163 67 = some (.iconst 1, 68) := by decide +kernel
theorem d163_68 : cod 163 68 = some (.ireturn, 69) := by decide +kernel
theorem d164_0 : cod 164 0 = some (.iconst 0, 1) := by decide +kernel
theorem d164_1 : cod 164 1 = some (.istore_n 1, 2) := by decide +kernel
theorem d164_2 : cod 164 2 = some (.iconst 0, 3) := by decide +kernel
theorem d164_3 : cod 164 3 = some (.istore_n 2, 4) := by decide +kernel
theorem d164_4 : cod 164 4 = some (.iload_n 2, 5) := by decide +kernel
theorem d164_5 : cod 164 5 = some (.aload_n 0, 6) := by decide +kernel
theorem d164_6 : cod 164 6 = some (.getfield 40, 9) := by decide +kernel
theorem d164_9 : cod 164 9 = some (.invokevirtual 129, 12) := by decide +kernel
theorem d164_12 : cod 164 12 = some (.if_icmp .ge 17, 15) := by decide +kernel
theorem d164_15 : cod 164 15 = some (.iload_n 1, 16) := by decide +kernel
theorem d164_16 : cod 164 16 = some (.aload_n 0, 17) := by decide +kernel
theorem d164_17 : cod 164 17 = some (.iload_n 2, 18) := by decide +kernel
theorem d164_18 : cod 164 18 = some (.invokevirtual 341, 21) := by decide +kernel
theorem d164_21 : cod 164 21 = some (.iadd, 22) := by decide +kernel
theorem d164_22 : cod 164 22 = some (.istore_n 1, 23) := by decide +kernel
theorem d164_23 : cod 164 23 = some (.iinc 2 1, 26) := by decide +kernel
theorem d164_26 : cod 164 26 = some (.goto (-22), 29) := by decide +kernel
theorem d164_29 : cod 164 29 = some (.iconst 0, 30) := by decide +kernel
theorem d164_30 : cod 164 30 = some (.istore_n 2, 31) := by decide +kernel
theorem d164_31 : cod 164 31 = some (.iconst 0, 32) := by decide +kernel
theorem d164_32 : cod 164 32 = some (.istore_n 3, 33) := by decide +kernel
theorem d164_33 : cod 164 33 = some (.iload_n 3, 34) := by decide +kernel
theorem d164_34 : cod 164 34 = some (.aload_n 0, 35) := by decide +kernel
theorem d164_35 : cod 164 35 = some (.getfield 43, 38) := by decide +kernel
theorem d164_38 : cod 164 38 = some (.invokevirtual 129, 41) := by decide +kernel
theorem d164_41 : cod 164 41 = some (.if_icmp .ge 30, 44) := by decide +kernel
theorem d164_44 : cod 164 44 = some (.aload_n 0, 45) := by decide +kernel
theorem d164_45 : cod 164 45 = some (.aload_n 0, 46) := by decide +kernel
theorem d164_46 : cod 164 46 = some (.getfield 43, 49) := by decide +kernel
theorem d164_49 : cod 164 49 = some (.iload_n 3, 50) := by decide +kernel
theorem d164_50 : cod 164 50 = some (.invokevirtual 132, 53) := by decide +kernel
theorem d164_53 : cod 164 53 = some (.checkcast 298, 56) := by decide +kernel
theorem d164_56 : cod 164 56 = some (.invokevirtual 334, 59) := by decide +kernel
theorem d164_59 : cod 164 59 = some (.ifCond .ne 6, 62) := by decide +kernel
theorem d164_62 : cod 164 62 = some (.iinc 2 1, 65) := by decide +kernel
theorem d164_65 : cod 164 65 = some (.iinc 3 1, 68) := by decide +kernel
theorem d164_68 : cod 164 68 = some (.goto (-35), 71) := by decide +kernel
theorem d164_71 : cod 164 71 = some (.iload_n 1, 72) := by decide +kernel
theorem d164_72 : cod 164 72 = some (.iload_n 2, 73) := by decide +kernel
theorem d164_73 : cod 164 73 = some (.if_icmp .ne 7, 76) := by decide +kernel
theorem d164_76 : cod 164 76 = some (.iconst 1, 77) := by decide +kernel
theorem d164_77 : cod 164 77 = some (.goto 4, 80) := by decide +kernel
theorem d164_80 : cod 164 80 = some (.iconst 0, 81) := by decide +kernel
theorem d164_81 : cod 164 81 = some (.ireturn, 82) := by decide +kernel
theorem d165_0 : cod 165 0 = some (.aload_n 0, 1) := by decide +kernel
theorem d165_1 : cod 165 1 = some (.invokespecial 1, 4) := by decide +kernel
theorem d165_4 : cod 165 4 = some (.aload_n 0, 5) := by decide +kernel
theorem d165_5 : cod 165 5 = some (.getstatic 39, 8) := by decide +kernel
theorem d165_8 : cod 165 8 = some (.putfield 9, 11) := by decide +kernel
theorem d165_11 : cod 165 11 = some (.return_, 12) := by decide +kernel
theorem d166_0 : cod 166 0 = some (.aload_n 0, 1) := by decide +kernel
theorem d166_1 : cod 166 1 = some (.dup, 2) := by decide +kernel
theorem d166_2 : cod 166 2 = some (.getfield 63, 5) := by decide +kernel
theorem d166_5 : cod 166 5 = some (.iconst 1, 6) := by decide +kernel
theorem d166_6 : cod 166 6 = some (.iadd, 7) := by decide +kernel
theorem d166_7 : cod 166 7 = some (.putfield 63, 10) := by decide +kernel
theorem d166_10 : cod 166 10 = some (.aload_n 0, 11) := by decide +kernel
theorem d166_11 : cod 166 11 = some (.getfield 9, 14) := by decide +kernel
theorem d166_14 : cod 166 14 = some (.astore_n 1, 15) := by decide +kernel
theorem d166_15 : cod 166 15 = some (.aload_n 0, 16) := by decide +kernel
theorem d166_16 : cod 166 16 = some (.getfield 48, 19) := by decide +kernel
theorem d166_19 : cod 166 19 = some (.istore_n 2, 20) := by decide +kernel
theorem d166_20 : cod 166 20 = some (.aload_n 0, 21) := by decide +kernel
theorem d166_21 : cod 166 21 = some (.iconst 0, 22) := by decide +kernel
theorem d166_22 : cod 166 22 = some (.dup_x1, 23) := by decide +kernel
theorem d166_23 : cod 166 23 = some (.putfield 48, 26) := by decide +kernel
theorem d166_26 : cod 166 26 = some (.istore_n 3, 27) := by decide +kernel
theorem d166_27 : cod 166 27 = some (.iload_n 3, 28) := by decide +kernel
theorem d166_28 : cod 166 28 = some (.iload_n 2, 29) := by decide +kernel
theorem d166_29 : cod 166 29 = some (.if_icmp .ge 13, 32) := by decide +kernel
theorem d166_32 : cod 166 32 = some (.aload_n 1, 33) := by decide +kernel
theorem d166_33 : cod 166 33 = some (.iload_n 3, 34) := by decide +kernel
theorem d166_34 : cod 166 34 = some (.aconst_null, 35) := by decide +kernel
theorem d166_35 : cod 166 35 = some (.aastore, 36) := by decide +kernel
theorem d166_36 : cod 166 36 = some (.iinc 3 1, 39) := by decide +kernel
theorem d166_39 : cod 166 39 = some (.goto (-12), 42) := by decide +kernel
theorem d166_42 : cod 166 42 = some (.return_, 43) := by decide +kernel
theorem d167_0 : cod 167 0 = some (.aload_n 0, 1) := by decide +kernel
theorem d167_1 : cod 167 1 = some (.getfield 48, 4) := by decide +kernel
theorem d167_4 : cod 167 4 = some (.ifCond .ne 7, 7) := by decide +kernel
theorem d167_7 : cod 167 7 = some (.iconst 1, 8) := by decide +kernel
theorem d167_8 : cod 167 8 = some (.goto 4, 11) := by decide +kernel
theorem d167_11 : cod 167 11 = some (.iconst 0, 12) := by decide +kernel
theorem d167_12 : cod 167 12 = some (.ireturn, 13) := by decide +kernel
theorem d168_0 : cod 168 0 = some (.aload_n 0, 1) := by decide +kernel
theorem d168_1 : cod 168 1 = some (.getfield 48, 4) := by decide +kernel
theorem d168_4 : cod 168 4 = some (.ireturn, 5) := by decide +kernel
theorem d169_0 : cod 169 0 = some (.aload_n 0, 1) := by decide +kernel
theorem d169_1 : cod 169 1 = some (.dup, 2) := by decide +kernel
theorem d169_2 : cod 169 2 = some (.getfield 63, 5) := by decide +kernel
theorem d169_5 : cod 169 5 = some (.iconst 1, 6) := by decide +kernel
theorem d169_6 : cod 169 6 = some (.iadd, 7) := by decide +kernel
theorem d169_7 : cod 169 7 = some (.putfield 63, 10) := by decide +kernel
theorem d169_10 : cod 169 10 = some (.aload_n 0, 11) := by decide +kernel
theorem d169_11 : cod 169 11 = some (.aload_n 1, 12) := by decide +kernel
theorem d169_12 : cod 169 12 = some (.aload_n 0, 13) := by decide +kernel
theorem d169_13 : cod 169 13 = some (.getfield 9, 16) := by decide +kernel
theorem d169_16 : cod 169 16 = some (.aload_n 0, 17) := by decide +kernel
theorem d169_17 : cod 169 17 = some (.getfield 48, 20) := by decide +kernel
theorem d169_20 : cod 169 20 = some (.invokevirtual 131, 23) := by decide +kernel
theorem d169_23 : cod 169 23 = some (.iconst 1, 24) := by decide +kernel
theorem d169_24 : cod 169 24 = some (.ireturn, 25) := by decide +kernel
theorem d170_0 : cod 170 0 = some (.iload_n 3, 1) := by decide +kernel
theorem d170_1 : cod 170 1 = some (.aload_n 2, 2) := by decide +kernel
theorem d170_2 : cod 170 2 = some (.arraylength, 3) := by decide +kernel
theorem d170_3 : cod 170 3 = some (.if_icmp .ne 8, 6) := by decide +kernel
theorem d170_6 : cod 170 6 = some (.aload_n 0, 7) := by decide +kernel
theorem d170_7 : cod 170 7 = some (.invokevirtual 129, 10) := by decide +kernel
theorem d170_10 : cod 170 10 = some (.astore_n 2, 11) := by decide +kernel
theorem d170_11 : cod 170 11 = some (.aload_n 2, 12) := by decide +kernel
theorem d170_12 : cod 170 12 = some (.iload_n 3, 13) := by decide +kernel
theorem d170_13 : cod 170 13 = some (.aload_n 1, 14) := by decide +kernel
theorem d170_14 : cod 170 14 = some (.aastore, 15) := by decide +kernel
theorem d170_15 : cod 170 15 = some (.aload_n 0, 16) := by decide +kernel
theorem d170_16 : cod 170 16 = some (.iload_n 3, 17) := by decide +kernel
theorem d170_17 : cod 170 17 = some (.iconst 1, 18) := by decide +kernel
theorem d170_18 : cod 170 18 = some (.iadd, 19) := by decide +kernel
theorem d170_19 : cod 170 19 = some (.putfield 48, 22) := by decide +kernel
theorem d170_22 : cod 170 22 = some (.return_, 23) := by decide +kernel
theorem d171_0 : cod 171 0 = some (.aload_n 0, 1) := by decide +kernel
theorem d171_1 : cod 171 1 = some (.aload_n 0, 2) := by decide +kernel
theorem d171_2 : cod 171 2 = some (.getfield 48, 5) := by decide +kernel
theorem d171_5 : cod 171 5 = some (.iconst 1, 6) := by decide +kernel
theorem d171_6 : cod 171 6 = some (.iadd, 7) := by decide +kernel
theorem d171_7 : cod 171 7 = some (.invokevirtual 69, 10) := by decide +kernel
theorem d171_10 : cod 171 10 = some (.areturn, 11) := by decide +kernel
theorem d172_0 : cod 172 0 = some (.aload_n 0, 1) := by decide +kernel
theorem d172_1 : cod 172 1 = some (.getfield 9, 4) := by decide +kernel
theorem d172_4 : cod 172 4 = some (.arraylength, 5) := by decide +kernel
theorem d172_5 : cod 172 5 = some (.istore_n 2, 6) := by decide +kernel
theorem d172_6 : cod 172 6 = some (.iload_n 2, 7) := by decide +kernel
theorem d172_7 : cod 172 7 = some (.ifCond .gt 13, 10) := by decide +kernel
theorem d172_10 : cod 172 10 = some (.aload_n 0, 11) := by decide +kernel
theorem d172_11 : cod 172 11 = some (.getfield 9, 14) := by decide +kernel
theorem d172_14 : cod 172 14 = some (.getstatic 39, 17) := by decide +kernel
theorem d172_17 : cod 172 17 = some (.if_acmp .eq 28, 20) := by decide +kernel
theorem d172_20 : cod 172 20 = some (.iload_n 2, 21) := by decide +kernel
theorem d172_21 : cod 172 21 = some (.iload_n 1, 22) := by decide +kernel
theorem d172_22 : cod 172 22 = some (.iload_n 2, 23) := by decide +kernel
theorem d172_23 : cod 172 23 = some (.isub, 24) := by decide +kernel
theorem d172_24 : cod 172 24 = some (.iload_n 2, 25) := by decide +kernel
theorem d172_25 : cod 172 25 = some (.iconst 1, 26) := by decide +kernel
theorem d172_26 : cod 172 26 = some (.ishr, 27) := by decide +kernel
theorem d172_27 : cod 172 27 = some (.invokestatic 73, 30) := by decide +kernel
theorem d172_30 : cod 172 30 = some (.istore_n 3, 31) := by decide +kernel
theorem d172_31 : cod 172 31 = some (.aload_n 0, 32) := by decide +kernel
theorem d172_32 : cod 172 32 = some (.aload_n 0, 33) := by decide +kernel
theorem d172_33 : cod 172 33 = some (.getfield 9, 36) := by decide +kernel
theorem d172_36 : cod 172 36 = some (.iload_n 3, 37) := by decide +kernel
theorem d172_37 : cod 172 37 = some (.invokestatic 66, 40) := by decide +kernel
theorem d172_40 : cod 172 40 = some (.dup_x1, 41) := by decide +kernel
theorem d172_41 : cod 172 41 = some (.putfield 9, 44) := by decide +kernel
theorem d172_44 : cod 172 44 = some (.areturn, 45) := by decide +kernel
theorem d172_45 : cod 172 45 = some (.aload_n 0, 46) := by decide +kernel
theorem d172_46 : cod 172 46 = some (.bipush 10, 48) := by decide +kernel
theorem d172_48 : cod 172 48 = some (.iload_n 1, 49) := by decide +kernel
theorem d172_49 : cod 172 49 = some (.invokestatic 79, 52) := by decide +kernel
theorem d172_52 : cod 172 52 = some (.anewarray 7, 55) := by decide +kernel
theorem d172_55 : cod 172 55 = some (.dup_x1, 56) := by decide +kernel
theorem d172_56 : cod 172 56 = some (.putfield 9, 59) := by decide +kernel
theorem d172_59 : cod 172 59 = some (.areturn, 60) := by decide +kernel
theorem d173_0 : cod 173 0 = some (.iload_n 1, 1) := by decide +kernel
theorem d173_1 : cod 173 1 = some (.aload_n 0, 2) := by decide +kernel
theorem d173_2 : cod 173 2 = some (.getfield 48, 5) := by decide +kernel
theorem d173_5 : cod 173 5 = some (.invokestatic 118, 8) := by decide +kernel
theorem d173_8 : cod 173 8 = some (.pop, 9) := by decide +kernel
theorem d173_9 : cod 173 9 = some (.aload_n 0, 10) := by decide +kernel
theorem d173_10 : cod 173 10 = some (.iload_n 1, 11) := by decide +kernel
theorem d173_11 : cod 173 11 = some (.invokevirtual 123, 14) := by decide +kernel
theorem d173_14 : cod 173 14 = some (.areturn, 15) := by decide +kernel
theorem d174_0 : cod 174 0 = some (.aload_n 0, 1) := by decide +kernel
theorem d174_1 : cod 174 1 = some (.getfield 9, 4) := by decide +kernel
theorem d174_4 : cod 174 4 = some (.iload_n 1, 5) := by decide +kernel
theorem d174_5 : cod 174 5 = some (.aaload, 6) := by decide +kernel
theorem d174_6 : cod 174 6 = some (.areturn, 7) := by decide +kernel
theorem d175_0 : cod 175 0 = some (.iload_n 0, 1) := by decide +kernel
theorem d175_1 : cod 175 1 = some (.ldc 7, 3) := by decide +kernel
theorem d175_3 : cod 175 3 = some (.iand, 4) := by decide +kernel
theorem d175_4 : cod 175 4 = some (.iload_n 1, 5) := by decide +kernel
theorem d175_5 : cod 175 5 = some (.irem, 6) := by decide +kernel
theorem d175_6 : cod 175 6 = some (.ireturn, 7) := by decide +kernel
theorem d176_0 : cod 176 0 = some (.iload_n 1, 1) := by decide +kernel
theorem d176_1 : cod 176 1 = some (.aload_n 0, 2) := by decide +kernel
theorem d176_2 : cod 176 2 = some (.arraylength, 3) := by decide +kernel
theorem d176_3 : cod 176 3 = some (.if_icmp .ge 9, 6) := by decide +kernel
theorem d176_6 : cod 176 6 = some (.aload_n 0, 7) := by decide +kernel
theorem d176_7 : cod 176 7 = some (.iload_n 1, 8) := by decide +kernel
theorem d176_8 : cod 176 8 = some (.iaload, 9) := by decide +kernel
theorem d176_9 : cod 176 9 = some (.goto 9, 12) := by decide +kernel
theorem d176_12 : cod 176 12 = some (.ldc 8, 14) := by decide +kernel
theorem d176_14 : cod 176 14 = some (.iload_n 1, 15) := by decide +kernel
theorem d176_15 : cod 176 15 = some (.iconst 3, 16) := by decide +kernel
theorem d176_16 : cod 176 16 = some (.iadd, 17) := by decide +kernel
theorem d176_17 : cod 176 17 = some (.imul, 18) := by decide +kernel
theorem d176_18 : cod 176 18 = some (.ireturn, 19) := by decide +kernel
theorem d177_0 : cod 177 0 = some (.iload_n 1, 1) := by decide +kernel
theorem d177_1 : cod 177 1 = some (.bipush 6, 3) := by decide +kernel
theorem d177_3 : cod 177 3 = some (.invokestatic 18, 6) := by decide +kernel
theorem d177_6 : cod 177 6 = some (.istore_n 3, 7) := by decide +kernel
theorem d177_7 : cod 177 7 = some (.iload_n 1, 8) := by decide +kernel
theorem d177_8 : cod 177 8 = some (.iconst 3, 9) := by decide +kernel
theorem d177_9 : cod 177 9 = some (.ishr, 10) := by decide +kernel
theorem d177_10 : cod 177 10 = some (.bipush 6, 12) := by decide +kernel
theorem d177_12 : cod 177 12 = some (.invokestatic 18, 15) := by decide +kernel
theorem d177_15 : cod 177 15 = some (.istore 4, 17) := by decide +kernel
theorem d177_17 : cod 177 17 = some (.iload_n 1, 18) := by decide +kernel
theorem d177_18 : cod 177 18 = some (.iconst 5, 19) := by decide +kernel
theorem d177_19 : cod 177 19 = some (.ishr, 20) := by decide +kernel
theorem d177_20 : cod 177 20 = some (.bipush 8, 22) := by decide +kernel
theorem d177_22 : cod 177 22 = some (.invokestatic 18, 25) := by decide +kernel
theorem d177_25 : cod 177 25 = some (.istore 5, 27) := by decide +kernel
theorem d177_27 : cod 177 27 = some (.iload_n 2, 28) := by decide +kernel
theorem d177_28 : cod 177 28 = some (.tableswitch 557 0 15 #[80, 128, 128, 170, 208, 237, 257, 288, 305, 336, 360, 379, 408, 432, 464, 499], 108) := by decide +kernel
theorem d177_108 : cod 177 108 = some (.aload_n 0, 109) := by decide +kernel
theorem d177_109 : cod 177 109 = some (.iconst 1, 110) := by decide +kernel
theorem d177_110 : cod 177 110 = some (.iload_n 1, 111) := by decide +kernel
theorem d177_111 : cod 177 111 = some (.iconst 3, 112) := by decide +kernel
theorem d177_112 : cod 177 112 = some (.invokestatic 18, 115) := by decide +kernel
theorem d177_115 : cod 177 115 = some (.iadd, 116) := by decide +kernel
theorem d177_116 : cod 177 116 = some (.iconst 1, 117) := by decide +kernel
theorem d177_117 : cod 177 117 = some (.iload_n 1, 118) := by decide +kernel
theorem d177_118 : cod 177 118 = some (.iconst 2, 119) := by decide +kernel
theorem d177_119 : cod 177 119 = some (.ishr, 120) := by decide +kernel
theorem d177_120 : cod 177 120 = some (.iconst 2, 121) := by decide +kernel
theorem d177_121 : cod 177 121 = some (.invokestatic 18, 124) := by decide +kernel
theorem d177_124 : cod 177 124 = some (.iadd, 125) := by decide +kernel
theorem d177_125 : cod 177 125 = some (.iload_n 1, 126) := by decide +kernel
theorem d177_126 : cod 177 126 = some (.iconst 4, 127) := by decide +kernel
theorem d177_127 : cod 177 127 = some (.ishr, 128) := by decide +kernel
theorem d177_128 : cod 177 128 = some (.bipush 6, 130) := by decide +kernel
theorem d177_130 : cod 177 130 = some (.invokestatic 18, 133) := by decide +kernel
theorem d177_133 : cod 177 133 = some (.iload_n 1, 134) := by decide +kernel
theorem d177_134 : cod 177 134 = some (.bipush 6, 136) := by decide +kernel
theorem d177_136 : cod 177 136 = some (.ishr, 137) := by decide +kernel
theorem d177_137 : cod 177 137 = some (.iconst 2, 138) := by decide +kernel
theorem d177_138 : cod 177 138 = some (.invokestatic 18, 141) := by decide +kernel
theorem d177_141 : cod 177 141 = some (.ifCond .ne 7, 144) := by decide +kernel
theorem d177_144 : cod 177 144 = some (.iconst 1, 145) := by decide +kernel
theorem d177_145 : cod 177 145 = some (.goto 4, 148) := by decide +kernel
theorem d177_148 : cod 177 148 = some (.iconst 0, 149) := by decide +kernel
theorem d177_149 : cod 177 149 = some (.invokevirtual 48, 152) := by decide +kernel
theorem d177_152 : cod 177 152 = some (.pop, 153) := by decide +kernel
theorem d177_153 : cod 177 153 = some (.goto 445, 156) := by decide +kernel
theorem d177_156 : cod 177 156 = some (.aload_n 0, 157) := by decide +kernel
theorem d177_157 : cod 177 157 = some (.iconst 1, 158) := by decide +kernel
theorem d177_158 : cod 177 158 = some (.iload_n 1, 159) := by decide +kernel
theorem d177_159 : cod 177 159 = some (.iconst 2, 160) := by decide +kernel
theorem d177_160 : cod 177 160 = some (.invokestatic 18, 163) := by decide +kernel
theorem d177_163 : cod 177 163 = some (.iadd, 164) := by decide +kernel
theorem d177_164 : cod 177 164 = some (.iconst 1, 165) := by decide +kernel
theorem d177_165 : cod 177 165 = some (.iload_n 1, 166) := by decide +kernel
theorem d177_166 : cod 177 166 = some (.iconst 2, 167) := by decide +kernel
theorem d177_167 : cod 177 167 = some (.ishr, 168) := by decide +kernel
theorem d177_168 : cod 177 168 = some (.iconst 2, 169) := by decide +kernel
theorem d177_169 : cod 177 169 = some (.invokestatic 18, 172) := by decide +kernel
theorem d177_172 : cod 177 172 = some (.iadd, 173) := by decide +kernel
theorem d177_173 : cod 177 173 = some (.iload_n 1, 174) := by decide +kernel
theorem d177_174 : cod 177 174 = some (.iconst 3, 175) := by decide +kernel
theorem d177_175 : cod 177 175 = some (.ishr, 176) := by decide +kernel
theorem d177_176 : cod 177 176 = some (.bipush 20, 178) := by decide +kernel
theorem d177_178 : cod 177 178 = some (.invokestatic 18, 181) := by decide +kernel
theorem d177_181 : cod 177 181 = some (.iload 5, 183) := by decide +kernel
theorem d177_183 : cod 177 183 = some (.iload_n 1, 184) := by decide +kernel
theorem d177_184 : cod 177 184 = some (.iconst 4, 185) := by decide +kernel
theorem d177_185 : cod 177 185 = some (.ishr, 186) := by decide +kernel
theorem d177_186 : cod 177 186 = some (.bipush 6, 188) := by decide +kernel
theorem d177_188 : cod 177 188 = some (.invokestatic 18, 191) := by decide +kernel
theorem d177_191 : cod 177 191 = some (.invokevirtual 52, 194) := by decide +kernel
theorem d177_194 : cod 177 194 = some (.pop, 195) := by decide +kernel
theorem d177_195 : cod 177 195 = some (.goto 403, 198) := by decide +kernel
theorem d177_198 : cod 177 198 = some (.aload_n 0, 199) := by decide +kernel
theorem d177_199 : cod 177 199 = some (.iload_n 3, 200) := by decide +kernel
theorem d177_200 : cod 177 200 = some (.iload_n 1, 201) := by decide +kernel
theorem d177_201 : cod 177 201 = some (.iconst 3, 202) := by decide +kernel
theorem d177_202 : cod 177 202 = some (.ishr, 203) := by decide +kernel
theorem d177_203 : cod 177 203 = some (.iconst 3, 204) := by decide +kernel
theorem d177_204 : cod 177 204 = some (.invokestatic 18, 207) := by decide +kernel
theorem d177_207 : cod 177 207 = some (.iload_n 1, 208) := by decide +kernel
theorem d177_208 : cod 177 208 = some (.iconst 4, 209) := by decide +kernel
theorem d177_209 : cod 177 209 = some (.ishr, 210) := by decide +kernel
theorem d177_210 : cod 177 210 = some (.sipush 1024, 213) := by decide +kernel
theorem d177_213 : cod 177 213 = some (.invokestatic 18, 216) := by decide +kernel
theorem d177_216 : cod 177 216 = some (.iload_n 1, 217) := by decide +kernel
theorem d177_217 : cod 177 217 = some (.iconst 2, 218) := by decide +kernel
theorem d177_218 : cod 177 218 = some (.invokestatic 18, 221) := by decide +kernel
theorem d177_221 : cod 177 221 = some (.ifCond .ne 7, 224) := by decide +kernel
theorem d177_224 : cod 177 224 = some (.iconst 1, 225) := by decide +kernel
theorem d177_225 : cod 177 225 = some (.goto 4, 228) := by decide +kernel
theorem d177_228 : cod 177 228 = some (.iconst 0, 229) := by decide +kernel
theorem d177_229 : cod 177 229 = some (.invokevirtual 56, 232) := by decide +kernel
theorem d177_232 : cod 177 232 = some (.pop, 233) := by decide +kernel
theorem d177_233 : cod 177 233 = some (.goto 365, 236) := by decide +kernel
theorem d177_236 : cod 177 236 = some (.aload_n 0, 237) := by decide +kernel
theorem d177_237 : cod 177 237 = some (.iload_n 3, 238) := by decide +kernel
theorem d177_238 : cod 177 238 = some (.iload_n 1, 239) := by decide +kernel
theorem d177_239 : cod 177 239 = some (.iconst 3, 240) := by decide +kernel
theorem d177_240 : cod 177 240 = some (.ishr, 241) := by decide +kernel
theorem d177_241 : cod 177 241 = some (.iconst 4, 242) := by decide +kernel
theorem d177_242 : cod 177 242 = some (.invokestatic 18, 245) := by decide +kernel
theorem d177_245 : cod 177 245 = some (.bipush 10, 247) := by decide +kernel
theorem d177_247 : cod 177 247 = some (.iload_n 1, 248) := by decide +kernel
theorem d177_248 : cod 177 248 = some (.iconst 5, 249) := by decide +kernel
theorem d177_249 : cod 177 249 = some (.ishr, 250) := by decide +kernel
theorem d177_250 : cod 177 250 = some (.iconst 2, 251) := by decide +kernel
theorem d177_251 : cod 177 251 = some (.invokestatic 18, 254) := by decide +kernel
theorem d177_254 : cod 177 254 = some (.iadd, 255) := by decide +kernel
theorem d177_255 : cod 177 255 = some (.sipush 200, 258) := by decide +kernel
theorem d177_258 : cod 177 258 = some (.invokevirtual 59, 261) := by decide +kernel
theorem d177_261 : cod 177 261 = some (.pop, 262) := by decide +kernel
theorem d177_262 : cod 177 262 = some (.goto 336, 265) := by decide +kernel
theorem d177_265 : cod 177 265 = some (.aload_n 0, 266) := by decide +kernel
theorem d177_266 : cod 177 266 = some (.iload_n 3, 267) := by decide +kernel
theorem d177_267 : cod 177 267 = some (.iload 4, 269) := by decide +kernel
theorem d177_269 : cod 177 269 = some (.iload_n 1, 270) := by decide +kernel
theorem d177_270 : cod 177 270 = some (.bipush 6, 272) := by decide +kernel
theorem d177_272 : cod 177 272 = some (.ishr, 273) := by decide +kernel
theorem d177_273 : cod 177 273 = some (.bipush 10, 275) := by decide +kernel
theorem d177_275 : cod 177 275 = some (.invokestatic 18, 278) := by decide +kernel
theorem d177_278 : cod 177 278 = some (.invokevirtual 62, 281) := by decide +kernel
theorem d177_281 : cod 177 281 = some (.pop, 282) := by decide +kernel
theorem d177_282 : cod 177 282 = some (.goto 316, 285) := by decide +kernel
theorem d177_285 : cod 177 285 = some (.aload_n 0, 286) := by decide +kernel
theorem d177_286 : cod 177 286 = some (.iload_n 3, 287) := by decide +kernel
theorem d177_287 : cod 177 287 = some (.iload 4, 289) := by decide +kernel
theorem d177_289 : cod 177 289 = some (.iconst 1, 290) := by decide +kernel
theorem d177_290 : cod 177 290 = some (.iload_n 1, 291) := by decide +kernel
theorem d177_291 : cod 177 291 = some (.bipush 6, 293) := by decide +kernel
theorem d177_293 : cod 177 293 = some (.ishr, 294) := by decide +kernel
theorem d177_294 : cod 177 294 = some (.iconst 2, 295) := by decide +kernel
theorem d177_295 : cod 177 295 = some (.invokestatic 18, 298) := by decide +kernel
theorem d177_298 : cod 177 298 = some (.iadd, 299) := by decide +kernel
theorem d177_299 : cod 177 299 = some (.iconst 0, 300) := by decide +kernel
theorem d177_300 : cod 177 300 = some (.iload_n 1, 301) := by decide +kernel
theorem d177_301 : cod 177 301 = some (.iconst 2, 302) := by decide +kernel
theorem d177_302 : cod 177 302 = some (.ishr, 303) := by decide +kernel
theorem d177_303 : cod 177 303 = some (.sipush 600, 306) := by decide +kernel
theorem d177_306 : cod 177 306 = some (.invokestatic 18, 309) := by decide +kernel
theorem d177_309 : cod 177 309 = some (.invokevirtual 65, 312) := by decide +kernel
theorem d177_312 : cod 177 312 = some (.pop, 313) := by decide +kernel
theorem d177_313 : cod 177 313 = some (.goto 285, 316) := by decide +kernel
theorem d177_316 : cod 177 316 = some (.aload_n 0, 317) := by decide +kernel
theorem d177_317 : cod 177 317 = some (.iload_n 3, 318) := by decide +kernel
theorem d177_318 : cod 177 318 = some (.iconst 0, 319) := by decide +kernel
theorem d177_319 : cod 177 319 = some (.iload_n 1, 320) := by decide +kernel
theorem d177_320 : cod 177 320 = some (.iconst 3, 321) := by decide +kernel
theorem d177_321 : cod 177 321 = some (.ishr, 322) := by decide +kernel
theorem d177_322 : cod 177 322 = some (.iconst 5, 323) := by decide +kernel
theorem d177_323 : cod 177 323 = some (.invokestatic 18, 326) := by decide +kernel
theorem d177_326 : cod 177 326 = some (.invokevirtual 68, 329) := by decide +kernel
theorem d177_329 : cod 177 329 = some (.pop, 330) := by decide +kernel
theorem d177_330 : cod 177 330 = some (.goto 268, 333) := by decide +kernel
theorem d177_333 : cod 177 333 = some (.aload_n 0, 334) := by decide +kernel
theorem d177_334 : cod 177 334 = some (.iload_n 3, 335) := by decide +kernel
theorem d177_335 : cod 177 335 = some (.iload_n 1, 336) := by decide +kernel
theorem d177_336 : cod 177 336 = some (.iconst 3, 337) := by decide +kernel
theorem d177_337 : cod 177 337 = some (.ishr, 338) := by decide +kernel
theorem d177_338 : cod 177 338 = some (.sipush 700, 341) := by decide +kernel
theorem d177_341 : cod 177 341 = some (.invokestatic 18, 344) := by decide +kernel
theorem d177_344 : cod 177 344 = some (.iload_n 1, 345) := by decide +kernel
theorem d177_345 : cod 177 345 = some (.iconst 2, 346) := by decide +kernel
theorem d177_346 : cod 177 346 = some (.invokestatic 18, 349) := by decide +kernel
theorem d177_349 : cod 177 349 = some (.ifCond .ne 7, 352) := by decide +kernel
theorem d177_352 : cod 177 352 = some (.iconst 1, 353) := by decide +kernel
theorem d177_353 : cod 177 353 = some (.goto 4, 356) := by decide +kernel
theorem d177_356 : cod 177 356 = some (.iconst 0, 357) := by decide +kernel
theorem d177_357 : cod 177 357 = some (.invokevirtual 71, 360) := by decide +kernel
theorem d177_360 : cod 177 360 = some (.pop, 361) := by decide +kernel
theorem d177_361 : cod 177 361 = some (.goto 237, 364) := by decide +kernel
theorem d177_364 : cod 177 364 = some (.aload_n 0, 365) := by decide +kernel
theorem d177_365 : cod 177 365 = some (.iload_n 1, 366) := by decide +kernel
theorem d177_366 : cod 177 366 = some (.iconst 5, 367) := by decide +kernel
theorem d177_367 : cod 177 367 = some (.invokestatic 18, 370) := by decide +kernel
theorem d177_370 : cod 177 370 = some (.iload 5, 372) := by decide +kernel
theorem d177_372 : cod 177 372 = some (.iload_n 1, 373) := by decide +kernel
theorem d177_373 : cod 177 373 = some (.bipush 6, 375) := by decide +kernel
theorem d177_375 : cod 177 375 = some (.ishr, 376) := by decide +kernel
theorem d177_376 : cod 177 376 = some (.bipush 17, 378) := by decide +kernel
theorem d177_378 : cod 177 378 = some (.invokestatic 18, 381) := by decide +kernel
theorem d177_381 : cod 177 381 = some (.invokevirtual 75, 384) := by decide +kernel
theorem d177_384 : cod 177 384 = some (.pop, 385) := by decide +kernel
theorem d177_385 : cod 177 385 = some (.goto 213, 388) := by decide +kernel
theorem d177_388 : cod 177 388 = some (.aload_n 0, 389) := by decide +kernel
theorem d177_389 : cod 177 389 = some (.iload_n 3, 390) := by decide +kernel
theorem d177_390 : cod 177 390 = some (.iload 5, 392) := by decide +kernel
theorem d177_392 : cod 177 392 = some (.iload_n 1, 393) := by decide +kernel
theorem d177_393 : cod 177 393 = some (.bipush 6, 395) := by decide +kernel
theorem d177_395 : cod 177 395 = some (.ishr, 396) := by decide +kernel
theorem d177_396 : cod 177 396 = some (.iconst 3, 397) := by decide +kernel
theorem d177_397 : cod 177 397 = some (.invokestatic 18, 400) := by decide +kernel
theorem d177_400 : cod 177 400 = some (.invokevirtual 78, 403) := by decide +kernel
theorem d177_403 : cod 177 403 = some (.pop, 404) := by decide +kernel
theorem d177_404 : cod 177 404 = some (.goto 194, 407) := by decide +kernel
theorem d177_407 : cod 177 407 = some (.aload_n 0, 408) := by decide +kernel
theorem d177_408 : cod 177 408 = some (.iload_n 3, 409) := by decide +kernel
theorem d177_409 : cod 177 409 = some (.iload_n 1, 410) := by decide +kernel
theorem d177_410 : cod 177 410 = some (.iconst 3, 411) := by decide +kernel
theorem d177_411 : cod 177 411 = some (.ishr, 412) := by decide +kernel
theorem d177_412 : cod 177 412 = some (.iconst 5, 413) := by decide +kernel
theorem d177_413 : cod 177 413 = some (.invokestatic 18, 416) := by decide +kernel
theorem d177_416 : cod 177 416 = some (.iload_n 1, 417) := by decide +kernel
theorem d177_417 : cod 177 417 = some (.iconst 2, 418) := by decide +kernel
theorem d177_418 : cod 177 418 = some (.invokestatic 18, 421) := by decide +kernel
theorem d177_421 : cod 177 421 = some (.ifCond .ne 7, 424) := by decide +kernel
theorem d177_424 : cod 177 424 = some (.iconst 1, 425) := by decide +kernel
theorem d177_425 : cod 177 425 = some (.goto 4, 428) := by decide +kernel
theorem d177_428 : cod 177 428 = some (.iconst 0, 429) := by decide +kernel
theorem d177_429 : cod 177 429 = some (.invokevirtual 81, 432) := by decide +kernel
theorem d177_432 : cod 177 432 = some (.pop, 433) := by decide +kernel
theorem d177_433 : cod 177 433 = some (.goto 165, 436) := by decide +kernel
theorem d177_436 : cod 177 436 = some (.aload_n 0, 437) := by decide +kernel
theorem d177_437 : cod 177 437 = some (.iload_n 3, 438) := by decide +kernel
theorem d177_438 : cod 177 438 = some (.iload_n 1, 439) := by decide +kernel
theorem d177_439 : cod 177 439 = some (.iconst 3, 440) := by decide +kernel
theorem d177_440 : cod 177 440 = some (.ishr, 441) := by decide +kernel
theorem d177_441 : cod 177 441 = some (.iconst 2, 442) := by decide +kernel
theorem d177_442 : cod 177 442 = some (.invokestatic 18, 445) := by decide +kernel
theorem d177_445 : cod 177 445 = some (.ifCond .ne 7, 448) := by decide +kernel
theorem d177_448 : cod 177 448 = some (.iconst 1, 449) := by decide +kernel
theorem d177_449 : cod 177 449 = some (.goto 4, 452) := by decide +kernel
theorem d177_452 : cod 177 452 = some (.iconst 0, 453) := by decide +kernel
theorem d177_453 : cod 177 453 = some (.invokevirtual 84, 456) := by decide +kernel
theorem d177_456 : cod 177 456 = some (.pop, 457) := by decide +kernel
theorem d177_457 : cod 177 457 = some (.goto 141, 460) := by decide +kernel
theorem d177_460 : cod 177 460 = some (.aload_n 0, 461) := by decide +kernel
theorem d177_461 : cod 177 461 = some (.iload_n 1, 462) := by decide +kernel
theorem d177_462 : cod 177 462 = some (.iconst 3, 463) := by decide +kernel
theorem d177_463 : cod 177 463 = some (.ishr, 464) := by decide +kernel
theorem d177_464 : cod 177 464 = some (.iconst 2, 465) := by decide +kernel
theorem d177_465 : cod 177 465 = some (.invokestatic 18, 468) := by decide +kernel
theorem d177_468 : cod 177 468 = some (.ifCond .ne 7, 471) := by decide +kernel
theorem d177_471 : cod 177 471 = some (.iconst 1, 472) := by decide +kernel
theorem d177_472 : cod 177 472 = some (.goto 4, 475) := by decide +kernel
theorem d177_475 : cod 177 475 = some (.iconst 0, 476) := by decide +kernel
theorem d177_476 : cod 177 476 = some (.iload_n 3, 477) := by decide +kernel
theorem d177_477 : cod 177 477 = some (.iload_n 1, 478) := by decide +kernel
theorem d177_478 : cod 177 478 = some (.iconst 4, 479) := by decide +kernel
theorem d177_479 : cod 177 479 = some (.ishr, 480) := by decide +kernel
theorem d177_480 : cod 177 480 = some (.bipush 50, 482) := by decide +kernel
theorem d177_482 : cod 177 482 = some (.invokestatic 18, 485) := by decide +kernel
theorem d177_485 : cod 177 485 = some (.invokevirtual 88, 488) := by decide +kernel
theorem d177_488 : cod 177 488 = some (.pop, 489) := by decide +kernel
theorem d177_489 : cod 177 489 = some (.goto 109, 492) := by decide +kernel
theorem d177_492 : cod 177 492 = some (.aload_n 0, 493) := by decide +kernel
theorem d177_493 : cod 177 493 = some (.iload_n 1, 494) := by decide +kernel
theorem d177_494 : cod 177 494 = some (.bipush 10, 496) := by decide +kernel
theorem d177_496 : cod 177 496 = some (.invokestatic 18, 499) := by decide +kernel
theorem d177_499 : cod 177 499 = some (.iconst 1, 500) := by decide +kernel
theorem d177_500 : cod 177 500 = some (.iload_n 1, 501) := by decide +kernel
theorem d177_501 : cod 177 501 = some (.iconst 3, 502) := by decide +kernel
theorem d177_502 : cod 177 502 = some (.ishr, 503) := by decide +kernel
theorem d177_503 : cod 177 503 = some (.bipush 15, 505) := by decide +kernel
theorem d177_505 : cod 177 505 = some (.invokestatic 18, 508) := by decide +kernel
theorem d177_508 : cod 177 508 = some (.iadd, 509) := by decide +kernel
theorem d177_509 : cod 177 509 = some (.iconst 1, 510) := by decide +kernel
theorem d177_510 : cod 177 510 = some (.iload_n 1, 511) := by decide +kernel
theorem d177_511 : cod 177 511 = some (.iconst 5, 512) := by decide +kernel
theorem d177_512 : cod 177 512 = some (.ishr, 513) := by decide +kernel
theorem d177_513 : cod 177 513 = some (.sipush 200, 516) := by decide +kernel
theorem d177_516 : cod 177 516 = some (.invokestatic 18, 519) := by decide +kernel
theorem d177_519 : cod 177 519 = some (.iadd, 520) := by decide +kernel
theorem d177_520 : cod 177 520 = some (.invokevirtual 92, 523) := by decide +kernel
theorem d177_523 : cod 177 523 = some (.pop, 524) := by decide +kernel
theorem d177_524 : cod 177 524 = some (.goto 74, 527) := by decide +kernel
theorem d177_527 : cod 177 527 = some (.aload_n 0, 528) := by decide +kernel
theorem d177_528 : cod 177 528 = some (.iload 5, 530) := by decide +kernel
theorem d177_530 : cod 177 530 = some (.iload_n 1, 531) := by decide +kernel
theorem d177_531 : cod 177 531 = some (.bipush 100, 533) := by decide +kernel
theorem d177_533 : cod 177 533 = some (.invokestatic 18, 536) := by decide +kernel
theorem d177_536 : cod 177 536 = some (.iload_n 1, 537) := by decide +kernel
theorem d177_537 : cod 177 537 = some (.iconst 2, 538) := by decide +kernel
theorem d177_538 : cod 177 538 = some (.ishr, 539) := by decide +kernel
theorem d177_539 : cod 177 539 = some (.bipush 100, 541) := by decide +kernel
theorem d177_541 : cod 177 541 = some (.invokestatic 18, 544) := by decide +kernel
theorem d177_544 : cod 177 544 = some (.iload_n 1, 545) := by decide +kernel
theorem d177_545 : cod 177 545 = some (.iconst 4, 546) := by decide +kernel
theorem d177_546 : cod 177 546 = some (.ishr, 547) := by decide +kernel
theorem d177_547 : cod 177 547 = some (.bipush 100, 549) := by decide +kernel
theorem d177_549 : cod 177 549 = some (.invokestatic 18, 552) := by decide +kernel
theorem d177_552 : cod 177 552 = some (.invokevirtual 95, 555) := by decide +kernel
theorem d177_555 : cod 177 555 = some (.pop, 556) := by decide +kernel
theorem d177_556 : cod 177 556 = some (.aload_n 0, 557) := by decide +kernel
theorem d177_557 : cod 177 557 = some (.iload_n 3, 558) := by decide +kernel
theorem d177_558 : cod 177 558 = some (.iload_n 1, 559) := by decide +kernel
theorem d177_559 : cod 177 559 = some (.iconst 1, 560) := by decide +kernel
theorem d177_560 : cod 177 560 = some (.ishr, 561) := by decide +kernel
theorem d177_561 : cod 177 561 = some (.bipush 100, 563) := by decide +kernel
theorem d177_563 : cod 177 563 = some (.invokestatic 18, 566) := by decide +kernel
theorem d177_566 : cod 177 566 = some (.bipush 50, 568) := by decide +kernel
theorem d177_568 : cod 177 568 = some (.bipush 50, 570) := by decide +kernel
theorem d177_570 : cod 177 570 = some (.iload_n 1, 571) := by decide +kernel
theorem d177_571 : cod 177 571 = some (.iconst 3, 572) := by decide +kernel
theorem d177_572 : cod 177 572 = some (.ishr, 573) := by decide +kernel
theorem d177_573 : cod 177 573 = some (.bipush 51, 575) := by decide +kernel
theorem d177_575 : cod 177 575 = some (.invokestatic 18, 578) := by decide +kernel
theorem d177_578 : cod 177 578 = some (.invokevirtual 98, 581) := by decide +kernel
theorem d177_581 : cod 177 581 = some (.pop, 582) := by decide +kernel
theorem d177_582 : cod 177 582 = some (.goto 16, 585) := by decide +kernel
theorem d177_585 : cod 177 585 = some (.aload_n 0, 586) := by decide +kernel
theorem d177_586 : cod 177 586 = some (.iconst 1, 587) := by decide +kernel
theorem d177_587 : cod 177 587 = some (.iload_n 1, 588) := by decide +kernel
theorem d177_588 : cod 177 588 = some (.bipush 30, 590) := by decide +kernel
theorem d177_590 : cod 177 590 = some (.invokestatic 18, 593) := by decide +kernel
theorem d177_593 : cod 177 593 = some (.iadd, 594) := by decide +kernel
theorem d177_594 : cod 177 594 = some (.invokevirtual 101, 597) := by decide +kernel
theorem d177_597 : cod 177 597 = some (.pop, 598) := by decide +kernel
theorem d177_598 : cod 177 598 = some (.goto 12, 601) := by decide +kernel
theorem d177_601 : cod 177 601 = some (.astore 6, 603) := by decide +kernel
theorem d177_603 : cod 177 603 = some (.return_, 604) := by decide +kernel
theorem d177_604 : cod 177 604 = some (.astore 6, 606) := by decide +kernel
theorem d177_606 : cod 177 606 = some (.return_, 607) := by decide +kernel
theorem d177_607 : cod 177 607 = some (.astore 6, 609) := by decide +kernel
theorem d177_609 : cod 177 609 = some (.return_, 610) := by decide +kernel
theorem d177_610 : cod 177 610 = some (.return_, 611) := by decide +kernel
theorem d178_0 : cod 178 0 = some (.aload_n 0, 1) := by decide +kernel
theorem d178_1 : cod 178 1 = some (.invokevirtual 110, 4) := by decide +kernel
theorem d178_4 : cod 178 4 = some (.lstore_n 1, 5) := by decide +kernel
theorem d178_5 : cod 178 5 = some (.aload_n 0, 6) := by decide +kernel
theorem d178_6 : cod 178 6 = some (.invokevirtual 114, 9) := by decide +kernel
theorem d178_9 : cod 178 9 = some (.ifCond .eq 24, 12) := by decide +kernel
theorem d178_12 : cod 178 12 = some (.aload_n 0, 13) := by decide +kernel
theorem d178_13 : cod 178 13 = some (.iconst 4, 14) := by decide +kernel
theorem d178_14 : cod 178 14 = some (.invokevirtual 118, 17) := by decide +kernel
theorem d178_17 : cod 178 17 = some (.ifCond .lt 16, 20) := by decide +kernel
theorem d178_20 : cod 178 20 = some (.aload_n 0, 21) := by decide +kernel
theorem d178_21 : cod 178 21 = some (.iconst 1, 22) := by decide +kernel
theorem d178_22 : cod 178 22 = some (.invokevirtual 118, 25) := by decide +kernel
theorem d178_25 : cod 178 25 = some (.aload_n 0, 26) := by decide +kernel
theorem d178_26 : cod 178 26 = some (.iconst 5, 27) := by decide +kernel
theorem d178_27 : cod 178 27 = some (.invokevirtual 118, 30) := by decide +kernel
theorem d178_30 : cod 178 30 = some (.if_icmp .le 5, 33) := by decide +kernel
theorem d178_33 : cod 178 33 = some (.iconst 0, 34) := by decide +kernel
theorem d178_34 : cod 178 34 = some (.ireturn, 35) := by decide +kernel
theorem d178_35 : cod 178 35 = some (.iconst 0, 36) := by decide +kernel
theorem d178_36 : cod 178 36 = some (.istore_n 3, 37) := by decide +kernel
theorem d178_37 : cod 178 37 = some (.iconst 0, 38) := by decide +kernel
theorem d178_38 : cod 178 38 = some (.istore 4, 40) := by decide +kernel
theorem d178_40 : cod 178 40 = some (.iload 4, 42) := by decide +kernel
theorem d178_42 : cod 178 42 = some (.bipush 6, 44) := by decide +kernel
theorem d178_44 : cod 178 44 = some (.if_icmp .ge 19, 47) := by decide +kernel
theorem d178_47 : cod 178 47 = some (.iload_n 3, 48) := by decide +kernel
theorem d178_48 : cod 178 48 = some (.aload_n 0, 49) := by decide +kernel
theorem d178_49 : cod 178 49 = some (.iload 4, 51) := by decide +kernel
theorem d178_51 : cod 178 51 = some (.iconst 4, 52) := by decide +kernel
theorem d178_52 : cod 178 52 = some (.invokevirtual 121, 55) := by decide +kernel
theorem d178_55 : cod 178 55 = some (.iadd, 56) := by decide +kernel
theorem d178_56 : cod 178 56 = some (.istore_n 3, 57) := by decide +kernel
theorem d178_57 : cod 178 57 = some (.iinc 4 1, 60) := by decide +kernel
theorem d178_60 : cod 178 60 = some (.goto (-20), 63) := by decide +kernel
theorem d178_63 : cod 178 63 = some (.aload_n 0, 64) := by decide +kernel
theorem d178_64 : cod 178 64 = some (.bipush 9, 66) := by decide +kernel
theorem d178_66 : cod 178 66 = some (.iconst 1, 67) := by decide +kernel
theorem d178_67 : cod 178 67 = some (.invokevirtual 124, 70) := by decide +kernel
theorem d178_70 : cod 178 70 = some (.istore 4, 72) := by decide +kernel
theorem d178_72 : cod 178 72 = some (.iconst 0, 73) := by decide +kernel
theorem d178_73 : cod 178 73 = some (.istore 5, 75) := by decide +kernel
theorem d178_75 : cod 178 75 = some (.bipush 9, 77) := by decide +kernel
theorem d178_77 : cod 178 77 = some (.istore 6, 79) := by decide +kernel
theorem d178_79 : cod 178 79 = some (.iconst 0, 80) := by decide +kernel
theorem d178_80 : cod 178 80 = some (.istore 7, 82) := by decide +kernel
theorem d178_82 : cod 178 82 = some (.iload 7, 84) := by decide +kernel
theorem d178_84 : cod 178 84 = some (.iload_n 3, 85) := by decide +kernel
theorem d178_85 : cod 178 85 = some (.if_icmp .ge 192, 88) := by decide +kernel
theorem d178_88 : cod 178 88 = some (.aload_n 0, 89) := by decide +kernel
theorem d178_89 : cod 178 89 = some (.iload 7, 91) := by decide +kernel
theorem d178_91 : cod 178 91 = some (.iconst 0, 92) := by decide +kernel
theorem d178_92 : cod 178 92 = some (.invokevirtual 127, 95) := by decide +kernel
theorem d178_95 : cod 178 95 = some (.istore 8, 97) := by decide +kernel
theorem d178_97 : cod 178 97 = some (.aload_n 0, 98) := by decide +kernel
theorem d178_98 : cod 178 98 = some (.iload 7, 100) := by decide +kernel
theorem d178_100 : cod 178 100 = some (.iconst 4, 101) := by decide +kernel
theorem d178_101 : cod 178 101 = some (.invokevirtual 127, 104) := by decide +kernel
theorem d178_104 : cod 178 104 = some (.istore 9, 106) := by decide +kernel
theorem d178_106 : cod 178 106 = some (.aload_n 0, 107) := by decide +kernel
theorem d178_107 : cod 178 107 = some (.iload 7, 109) := by decide +kernel
theorem d178_109 : cod 178 109 = some (.iconst 3, 110) := by decide +kernel
theorem d178_110 : cod 178 110 = some (.invokevirtual 127, 113) := by decide +kernel
theorem d178_113 : cod 178 113 = some (.iconst 1, 114) := by decide +kernel
theorem d178_114 : cod 178 114 = some (.if_icmp .ne 7, 117) := by decide +kernel
theorem d178_117 : cod 178 117 = some (.iconst 1, 118) := by decide +kernel
theorem d178_118 : cod 178 118 = some (.goto 4, 121) := by decide +kernel
theorem d178_121 : cod 178 121 = some (.iconst 0, 122) := by decide +kernel
theorem d178_122 : cod 178 122 = some (.iload 9, 124) := by decide +kernel
theorem d178_124 : cod 178 124 = some (.ifCond .lt 7, 127) := by decide +kernel
theorem d178_127 : cod 178 127 = some (.iconst 1, 128) := by decide +kernel
theorem d178_128 : cod 178 128 = some (.goto 4, 131) := by decide +kernel
theorem d178_131 : cod 178 131 = some (.iconst 0, 132) := by decide +kernel
theorem d178_132 : cod 178 132 = some (.if_icmp .ne 45, 135) := by decide +kernel
theorem d178_135 : cod 178 135 = some (.aload_n 0, 136) := by decide +kernel
theorem d178_136 : cod 178 136 = some (.iload 8, 138) := by decide +kernel
theorem d178_138 : cod 178 138 = some (.iconst 0, 139) := by decide +kernel
theorem d178_139 : cod 178 139 = some (.invokevirtual 121, 142) := by decide +kernel
theorem d178_142 : cod 178 142 = some (.ifCond .ne 7, 145) := by decide +kernel
theorem d178_145 : cod 178 145 = some (.iconst 1, 146) := by decide +kernel
theorem d178_146 : cod 178 146 = some (.goto 4, 149) := by decide +kernel
theorem d178_149 : cod 178 149 = some (.iconst 0, 150) := by decide +kernel
theorem d178_150 : cod 178 150 = some (.aload_n 0, 151) := by decide +kernel
theorem d178_151 : cod 178 151 = some (.iload 7, 153) := by decide +kernel
theorem d178_153 : cod 178 153 = some (.iconst 3, 154) := by decide +kernel
theorem d178_154 : cod 178 154 = some (.invokevirtual 127, 157) := by decide +kernel
theorem d178_157 : cod 178 157 = some (.ifCond .ne 7, 160) := by decide +kernel
theorem d178_160 : cod 178 160 = some (.iconst 1, 161) := by decide +kernel
theorem d178_161 : cod 178 161 = some (.goto 4, 164) := by decide +kernel
theorem d178_164 : cod 178 164 = some (.iconst 0, 165) := by decide +kernel
theorem d178_165 : cod 178 165 = some (.if_icmp .ne 12, 168) := by decide +kernel
theorem d178_168 : cod 178 168 = some (.aload_n 0, 169) := by decide +kernel
theorem d178_169 : cod 178 169 = some (.iload 7, 171) := by decide +kernel
theorem d178_171 : cod 178 171 = some (.invokevirtual 130, 174) := by decide +kernel
theorem d178_174 : cod 178 174 = some (.ifCond .ge 5, 177) := by decide +kernel
theorem d178_177 : cod 178 177 = some (.iconst 0, 178) := by decide +kernel
theorem d178_178 : cod 178 178 = some (.ireturn, 179) := by decide +kernel
theorem d178_179 : cod 178 179 = some (.iload 9, 181) := by decide +kernel
theorem d178_181 : cod 178 181 = some (.ifCond .lt 20, 184) := by decide +kernel
theorem d178_184 : cod 178 184 = some (.aload_n 0, 185) := by decide +kernel
theorem d178_185 : cod 178 185 = some (.iload 8, 187) := by decide +kernel
theorem d178_187 : cod 178 187 = some (.iconst 3, 188) := by decide +kernel
theorem d178_188 : cod 178 188 = some (.invokevirtual 121, 191) := by decide +kernel
theorem d178_191 : cod 178 191 = some (.iload 9, 193) := by decide +kernel
theorem d178_193 : cod 178 193 = some (.ishr, 194) := by decide +kernel
theorem d178_194 : cod 178 194 = some (.iconst 1, 195) := by decide +kernel
theorem d178_195 : cod 178 195 = some (.iand, 196) := by decide +kernel
theorem d178_196 : cod 178 196 = some (.ifCond .ne 5, 199) := by decide +kernel
theorem d178_199 : cod 178 199 = some (.iconst 0, 200) := by decide +kernel
theorem d178_200 : cod 178 200 = some (.ireturn, 201) := by decide +kernel
theorem d178_201 : cod 178 201 = some (.aload_n 0, 202) := by decide +kernel
theorem d178_202 : cod 178 202 = some (.iload 7, 204) := by decide +kernel
theorem d178_204 : cod 178 204 = some (.iconst 2, 205) := by decide +kernel
theorem d178_205 : cod 178 205 = some (.invokevirtual 133, 208) := by decide +kernel
theorem d178_208 : cod 178 208 = some (.iconst 1, 209) := by decide +kernel
theorem d178_209 : cod 178 209 = some (.if_icmp .ne 12, 212) := by decide +kernel
theorem d178_212 : cod 178 212 = some (.aload_n 0, 213) := by decide +kernel
theorem d178_213 : cod 178 213 = some (.iload 7, 215) := by decide +kernel
theorem d178_215 : cod 178 215 = some (.invokevirtual 130, 218) := by decide +kernel
theorem d178_218 : cod 178 218 = some (.ifCond .gt 15, 221) := by decide +kernel
theorem d178_221 : cod 178 221 = some (.aload_n 0, 222) := by decide +kernel
theorem d178_222 : cod 178 222 = some (.iload 7, 224) := by decide +kernel
theorem d178_224 : cod 178 224 = some (.iconst 0, 225) := by decide +kernel
theorem d178_225 : cod 178 225 = some (.invokevirtual 136, 228) := by decide +kernel
theorem d178_228 : cod 178 228 = some (.bipush (-45), 230) := by decide +kernel
theorem d178_230 : cod 178 230 = some (.if_icmp .ge 5, 233) := by decide +kernel
theorem d178_233 : cod 178 233 = some (.iconst 0, 234) := by decide +kernel
theorem d178_234 : cod 178 234 = some (.ireturn, 235) := by decide +kernel
theorem d178_235 : cod 178 235 = some (.iload 4, 237) := by decide +kernel
theorem d178_237 : cod 178 237 = some (.iload 7, 239) := by decide +kernel
theorem d178_239 : cod 178 239 = some (.ishr, 240) := by decide +kernel
theorem d178_240 : cod 178 240 = some (.iconst 1, 241) := by decide +kernel
theorem d178_241 : cod 178 241 = some (.iand, 242) := by decide +kernel
theorem d178_242 : cod 178 242 = some (.ifCond .ne 6, 245) := by decide +kernel
theorem d178_245 : cod 178 245 = some (.goto 26, 248) := by decide +kernel
theorem d178_248 : cod 178 248 = some (.iload 5, 250) := by decide +kernel
theorem d178_250 : cod 178 250 = some (.aload_n 0, 251) := by decide +kernel
theorem d178_251 : cod 178 251 = some (.iload 7, 253) := by decide +kernel
theorem d178_253 : cod 178 253 = some (.invokevirtual 130, 256) := by decide +kernel
theorem d178_256 : cod 178 256 = some (.iadd, 257) := by decide +kernel
theorem d178_257 : cod 178 257 = some (.istore 5, 259) := by decide +kernel
theorem d178_259 : cod 178 259 = some (.iload 6, 261) := by decide +kernel
theorem d178_261 : cod 178 261 = some (.aload_n 0, 262) := by decide +kernel
theorem d178_262 : cod 178 262 = some (.iload 7, 264) := by decide +kernel
theorem d178_264 : cod 178 264 = some (.iconst 1, 265) := by decide +kernel
theorem d178_265 : cod 178 265 = some (.invokevirtual 127, 268) := by decide +kernel
theorem d178_268 : cod 178 268 = some (.isub, 269) := by decide +kernel
theorem d178_269 : cod 178 269 = some (.istore 6, 271) := by decide +kernel
theorem d178_271 : cod 178 271 = some (.iinc 7 1, 274) := by decide +kernel
theorem d178_274 : cod 178 274 = some (.goto (-192), 277) := by decide +kernel
theorem d178_277 : cod 178 277 = some (.iload 4, 279) := by decide +kernel
theorem d178_279 : cod 178 279 = some (.iload_n 3, 280) := by decide +kernel
theorem d178_280 : cod 178 280 = some (.ishr, 281) := by decide +kernel
theorem d178_281 : cod 178 281 = some (.ifCond .ne 45, 284) := by decide +kernel
theorem d178_284 : cod 178 284 = some (.iload 5, 286) := by decide +kernel
theorem d178_286 : cod 178 286 = some (.aload_n 0, 287) := by decide +kernel
theorem d178_287 : cod 178 287 = some (.bipush 9, 289) := by decide +kernel
theorem d178_289 : cod 178 289 = some (.iconst 0, 290) := by decide +kernel
theorem d178_290 : cod 178 290 = some (.invokevirtual 124, 293) := by decide +kernel
theorem d178_293 : cod 178 293 = some (.if_icmp .ne 33, 296) := by decide +kernel
theorem d178_296 : cod 178 296 = some (.iload 6, 298) := by decide +kernel
theorem d178_298 : cod 178 298 = some (.ifCond .lt 28, 301) := by decide +kernel
theorem d178_301 : cod 178 301 = some (.aload_n 0, 302) := by decide +kernel
theorem d178_302 : cod 178 302 = some (.bipush 8, 304) := by decide +kernel
theorem d178_304 : cod 178 304 = some (.iconst 0, 305) := by decide +kernel
theorem d178_305 : cod 178 305 = some (.invokevirtual 124, 308) := by decide +kernel
theorem d178_308 : cod 178 308 = some (.iload 5, 310) := by decide +kernel
theorem d178_310 : cod 178 310 = some (.if_icmp .gt 16, 313) := by decide +kernel
theorem d178_313 : cod 178 313 = some (.aload_n 0, 314) := by decide +kernel
theorem d178_314 : cod 178 314 = some (.invokevirtual 110, 317) := by decide +kernel
theorem d178_317 : cod 178 317 = some (.lload_n 1, 318) := by decide +kernel
theorem d178_318 : cod 178 318 = some (.lcmp, 319) := by decide +kernel
theorem d178_319 : cod 178 319 = some (.ifCond .ne 7, 322) := by decide +kernel
theorem d178_322 : cod 178 322 = some (.iconst 1, 323) := by decide +kernel
theorem d178_323 : cod 178 323 = some (.goto 4, 326) := by decide +kernel
theorem d178_326 : cod 178 326 = some (.iconst 0, 327) := by decide +kernel
theorem d178_327 : cod 178 327 = some (.ireturn, 328) := by decide +kernel
theorem d179_0 : cod 179 0 = some (.aload_n 0, 1) := by decide +kernel
theorem d179_1 : cod 179 1 = some (.invokespecial 1, 4) := by decide +kernel
theorem d179_4 : cod 179 4 = some (.aload_n 0, 5) := by decide +kernel
theorem d179_5 : cod 179 5 = some (.iconst 0, 6) := by decide +kernel
theorem d179_6 : cod 179 6 = some (.putfield 7, 9) := by decide +kernel
theorem d179_9 : cod 179 9 = some (.return_, 10) := by decide +kernel
theorem d180_0 : cod 180 0 = some (.aload_n 0, 1) := by decide +kernel
theorem d180_1 : cod 180 1 = some (.invokespecial 1, 4) := by decide +kernel
theorem d180_4 : cod 180 4 = some (.return_, 5) := by decide +kernel
theorem d181_0 : cod 181 0 = some (.iconst 0, 1) := by decide +kernel
theorem d181_1 : cod 181 1 = some (.istore_n 2, 2) := by decide +kernel
theorem d181_2 : cod 181 2 = some (.aload_n 0, 3) := by decide +kernel
theorem d181_3 : cod 181 3 = some (.arraylength, 4) := by decide +kernel
theorem d181_4 : cod 181 4 = some (.istore_n 3, 5) := by decide +kernel
theorem d181_5 : cod 181 5 = some (.iload_n 2, 6) := by decide +kernel
theorem d181_6 : cod 181 6 = some (.iload_n 3, 7) := by decide +kernel
theorem d181_7 : cod 181 7 = some (.if_icmp .ge 13, 10) := by decide +kernel
theorem d181_10 : cod 181 10 = some (.aload_n 0, 11) := by decide +kernel
theorem d181_11 : cod 181 11 = some (.iload_n 2, 12) := by decide +kernel
theorem d181_12 : cod 181 12 = some (.iload_n 1, 13) := by decide +kernel
theorem d181_13 : cod 181 13 = some (.iastore, 14) := by decide +kernel
theorem d181_14 : cod 181 14 = some (.iinc 2 1, 17) := by decide +kernel
theorem d181_17 : cod 181 17 = some (.goto (-12), 20) := by decide +kernel
theorem d181_20 : cod 181 20 = some (.return_, 21) := by decide +kernel
theorem d182_0 : cod 182 0 = some (.aload_n 0, 1) := by decide +kernel
theorem d182_1 : cod 182 1 = some (.iload_n 1, 2) := by decide +kernel
theorem d182_2 : cod 182 2 = some (.aload_n 0, 3) := by decide +kernel
theorem d182_3 : cod 182 3 = some (.invokevirtual 86, 6) := by decide +kernel
theorem d182_6 : cod 182 6 = some (.invokestatic 300, 9) := by decide +kernel
theorem d182_9 : cod 182 9 = some (.areturn, 10) := by decide +kernel
theorem d183_0 : cod 183 0 = some (.iconst 0, 1) := by decide +kernel
theorem d183_1 : cod 183 1 = some (.istore_n 3, 2) := by decide +kernel
theorem d183_2 : cod 183 2 = some (.aload_n 0, 3) := by decide +kernel
theorem d183_3 : cod 183 3 = some (.arraylength, 4) := by decide +kernel
theorem d183_4 : cod 183 4 = some (.istore 4, 6) := by decide +kernel
theorem d183_6 : cod 183 6 = some (.iload_n 3, 7) := by decide +kernel
theorem d183_7 : cod 183 7 = some (.iload 4, 9) := by decide +kernel
theorem d183_9 : cod 183 9 = some (.if_icmp .ge 13, 12) := by decide +kernel
theorem d183_12 : cod 183 12 = some (.aload_n 0, 13) := by decide +kernel
theorem d183_13 : cod 183 13 = some (.iload_n 3, 14) := by decide +kernel
theorem d183_14 : cod 183 14 = some (.lload_n 1, 15) := by decide +kernel
theorem d183_15 : cod 183 15 = some (.lastore, 16) := by decide +kernel
theorem d183_16 : cod 183 16 = some (.iinc 3 1, 19) := by decide +kernel
theorem d183_19 : cod 183 19 = some (.goto (-13), 22) := by decide +kernel
theorem d183_22 : cod 183 22 = some (.return_, 23) := by decide +kernel
theorem d184_0 : cod 184 0 = some (.iload_n 0, 1) := by decide +kernel
theorem d184_1 : cod 184 1 = some (.iload_n 1, 2) := by decide +kernel
theorem d184_2 : cod 184 2 = some (.aconst_null, 3) := by decide +kernel
theorem d184_3 : cod 184 3 = some (.invokestatic 105, 6) := by decide +kernel
theorem d184_6 : cod 184 6 = some (.ireturn, 7) := by decide +kernel
theorem d185_0 : cod 185 0 = some (.iload_n 0, 1) := by decide +kernel
theorem d185_1 : cod 185 1 = some (.ifCond .lt 8, 4) := by decide +kernel
theorem d185_4 : cod 185 4 = some (.iload_n 0, 5) := by decide +kernel
theorem d185_5 : cod 185 5 = some (.iload_n 1, 6) := by decide +kernel
theorem d185_6 : cod 185 6 = some (.if_icmp .lt 10, 9) := by decide +kernel
theorem d185_9 : cod 185 9 = some (.aload_n 2, 10) := by decide +kernel
theorem d185_10 : cod 185 10 = some (.iload_n 0, 11) := by decide +kernel
theorem d185_11 : cod 185 11 = some (.iload_n 1, 12) := by decide +kernel
theorem d185_12 : cod 185 12 = some (.invokestatic 95, 15) := by decide +kernel
theorem d185_15 : cod 185 15 = some (.athrow, 16) := by decide +kernel
theorem d185_16 : cod 185 16 = some (.iload_n 0, 17) := by decide +kernel
theorem d185_17 : cod 185 17 = some (.ireturn, 18) := by decide +kernel
theorem d186_0 : cod 186 0 = some (.iload_n 0, 1) := by decide +kernel
theorem d186_1 : cod 186 1 = some (.iload_n 0, 2) := by decide +kernel
theorem d186_2 : cod 186 2 = some (.iconst 1, 3) := by decide +kernel
theorem d186_3 : cod 186 3 = some (.iushr, 4) := by decide +kernel
theorem d186_4 : cod 186 4 = some (.ldc_w 265, 7) := by decide +kernel
theorem d186_7 : cod 186 7 = some (.iand, 8) := by decide +kernel
theorem d186_8 : cod 186 8 = some (.isub, 9) := by decide +kernel
theorem d186_9 : cod 186 9 = some (.istore_n 0, 10) := by decide +kernel
theorem d186_10 : cod 186 10 = some (.iload_n 0, 11) := by decide +kernel
theorem d186_11 : cod 186 11 = some (.ldc_w 266, 14) := by decide +kernel
theorem d186_14 : cod 186 14 = some (.iand, 15) := by decide +kernel
theorem d186_15 : cod 186 15 = some (.iload_n 0, 16) := by decide +kernel
theorem d186_16 : cod 186 16 = some (.iconst 2, 17) := by decide +kernel
theorem d186_17 : cod 186 17 = some (.iushr, 18) := by decide +kernel
theorem d186_18 : cod 186 18 = some (.ldc_w 266, 21) := by decide +kernel
theorem d186_21 : cod 186 21 = some (.iand, 22) := by decide +kernel
theorem d186_22 : cod 186 22 = some (.iadd, 23) := by decide +kernel
theorem d186_23 : cod 186 23 = some (.istore_n 0, 24) := by decide +kernel
theorem d186_24 : cod 186 24 = some (.iload_n 0, 25) := by decide +kernel
theorem d186_25 : cod 186 25 = some (.iload_n 0, 26) := by decide +kernel
theorem d186_26 : cod 186 26 = some (.iconst 4, 27) := by decide +kernel
theorem d186_27 : cod 186 27 = some (.iushr, 28) := by decide +kernel
theorem d186_28 : cod 186 28 = some (.iadd, 29) := by decide +kernel
theorem d186_29 : cod 186 29 = some (.ldc_w 267, 32) := by decide +kernel
theorem d186_32 : cod 186 32 = some (.iand, 33) := by decide +kernel
theorem d186_33 : cod 186 33 = some (.istore_n 0, 34) := by decide +kernel
theorem d186_34 : cod 186 34 = some (.iload_n 0, 35) := by decide +kernel
theorem d186_35 : cod 186 35 = some (.iload_n 0, 36) := by decide +kernel
theorem d186_36 : cod 186 36 = some (.bipush 8, 38) := by decide +kernel
theorem d186_38 : cod 186 38 = some (.iushr, 39) := by decide +kernel
theorem d186_39 : cod 186 39 = some (.iadd, 40) := by decide +kernel
theorem d186_40 : cod 186 40 = some (.istore_n 0, 41) := by decide +kernel
theorem d186_41 : cod 186 41 = some (.iload_n 0, 42) := by decide +kernel
theorem d186_42 : cod 186 42 = some (.iload_n 0, 43) := by decide +kernel
theorem d186_43 : cod 186 43 = some (.bipush 16, 45) := by decide +kernel
theorem d186_45 : cod 186 45 = some (.iushr, 46) := by decide +kernel
theorem d186_46 : cod 186 46 = some (.iadd, 47) := by decide +kernel
theorem d186_47 : cod 186 47 = some (.istore_n 0, 48) := by decide +kernel
theorem d186_48 : cod 186 48 = some (.iload_n 0, 49) := by decide +kernel
theorem d186_49 : cod 186 49 = some (.bipush 63, 51) := by decide +kernel
theorem d186_51 : cod 186 51 = some (.iand, 52) := by decide +kernel
theorem d186_52 : cod 186 52 = some (.ireturn, 53) := by decide +kernel
theorem d187_0 : cod 187 0 = some (.lload_n 0, 1) := by decide +kernel
theorem d187_1 : cod 187 1 = some (.lload_n 0, 2) := by decide +kernel
theorem d187_2 : cod 187 2 = some (.iconst 1, 3) := by decide +kernel
theorem d187_3 : cod 187 3 = some (.lushr, 4) := by decide +kernel
theorem d187_4 : cod 187 4 = some (.ldc2_w 314, 7) := by decide +kernel
theorem d187_7 : cod 187 7 = some (.land, 8) := by decide +kernel
theorem d187_8 : cod 187 8 = some (.lsub, 9) := by decide +kernel
theorem d187_9 : cod 187 9 = some (.lstore_n 0, 10) := by decide +kernel
theorem d187_10 : cod 187 10 = some (.lload_n 0, 11) := by decide +kernel
theorem d187_11 : cod 187 11 = some (.ldc2_w 316, 14) := by decide +kernel
theorem d187_14 : cod 187 14 = some (.land, 15) := by decide +kernel
theorem d187_15 : cod 187 15 = some (.lload_n 0, 16) := by decide +kernel
theorem d187_16 : cod 187 16 = some (.iconst 2, 17) := by decide +kernel
theorem d187_17 : cod 187 17 = some (.lushr, 18) := by decide +kernel
theorem d187_18 : cod 187 18 = some (.ldc2_w 316, 21) := by decide +kernel
theorem d187_21 : cod 187 21 = some (.land, 22) := by decide +kernel
theorem d187_22 : cod 187 22 = some (.ladd, 23) := by decide +kernel
theorem d187_23 : cod 187 23 = some (.lstore_n 0, 24) := by decide +kernel
theorem d187_24 : cod 187 24 = some (.lload_n 0, 25) := by decide +kernel
theorem d187_25 : cod 187 25 = some (.lload_n 0, 26) := by decide +kernel
theorem d187_26 : cod 187 26 = some (.iconst 4, 27) := by decide +kernel
theorem d187_27 : cod 187 27 = some (.lushr, 28) := by decide +kernel
theorem d187_28 : cod 187 28 = some (.ladd, 29) := by decide +kernel
theorem d187_29 : cod 187 29 = some (.ldc2_w 318, 32) := by decide +kernel
theorem d187_32 : cod 187 32 = some (.land, 33) := by decide +kernel
theorem d187_33 : cod 187 33 = some (.lstore_n 0, 34) := by decide +kernel
theorem d187_34 : cod 187 34 = some (.lload_n 0, 35) := by decide +kernel
theorem d187_35 : cod 187 35 = some (.lload_n 0, 36) := by decide +kernel
theorem d187_36 : cod 187 36 = some (.bipush 8, 38) := by decide +kernel
theorem d187_38 : cod 187 38 = some (.lushr, 39) := by decide +kernel
theorem d187_39 : cod 187 39 = some (.ladd, 40) := by decide +kernel
theorem d187_40 : cod 187 40 = some (.lstore_n 0, 41) := by decide +kernel
theorem d187_41 : cod 187 41 = some (.lload_n 0, 42) := by decide +kernel
theorem d187_42 : cod 187 42 = some (.lload_n 0, 43) := by decide +kernel
theorem d187_43 : cod 187 43 = some (.bipush 16, 45) := by decide +kernel
theorem d187_45 : cod 187 45 = some (.lushr, 46) := by decide +kernel
theorem d187_46 : cod 187 46 = some (.ladd, 47) := by decide +kernel
theorem d187_47 : cod 187 47 = some (.lstore_n 0, 48) := by decide +kernel
theorem d187_48 : cod 187 48 = some (.lload_n 0, 49) := by decide +kernel
theorem d187_49 : cod 187 49 = some (.lload_n 0, 50) := by decide +kernel
theorem d187_50 : cod 187 50 = some (.bipush 32, 52) := by decide +kernel
theorem d187_52 : cod 187 52 = some (.lushr, 53) := by decide +kernel
theorem d187_53 : cod 187 53 = some (.ladd, 54) := by decide +kernel
theorem d187_54 : cod 187 54 = some (.lstore_n 0, 55) := by decide +kernel
theorem d187_55 : cod 187 55 = some (.lload_n 0, 56) := by decide +kernel
theorem d187_56 : cod 187 56 = some (.l2i, 57) := by decide +kernel
theorem d187_57 : cod 187 57 = some (.bipush 127, 59) := by decide +kernel
theorem d187_59 : cod 187 59 = some (.iand, 60) := by decide +kernel
theorem d187_60 : cod 187 60 = some (.ireturn, 61) := by decide +kernel
theorem d188_0 : cod 188 0 = some (.iload_n 0, 1) := by decide +kernel
theorem d188_1 : cod 188 1 = some (.iload_n 1, 2) := by decide +kernel
theorem d188_2 : cod 188 2 = some (.if_icmp .gt 7, 5) := by decide +kernel
theorem d188_5 : cod 188 5 = some (.iload_n 0, 6) := by decide +kernel
theorem d188_6 : cod 188 6 = some (.goto 4, 9) := by decide +kernel
theorem d188_9 : cod 188 9 = some (.iload_n 1, 10) := by decide +kernel
theorem d188_10 : cod 188 10 = some (.ireturn, 11) := by decide +kernel
theorem d189_0 : cod 189 0 = some (.iload_n 0, 1) := by decide +kernel
theorem d189_1 : cod 189 1 = some (.iload_n 1, 2) := by decide +kernel
theorem d189_2 : cod 189 2 = some (.if_icmp .lt 7, 5) := by decide +kernel
theorem d189_5 : cod 189 5 = some (.iload_n 0, 6) := by decide +kernel
theorem d189_6 : cod 189 6 = some (.goto 4, 9) := by decide +kernel
theorem d189_9 : cod 189 9 = some (.iload_n 1, 10) := by decide +kernel
theorem d189_10 : cod 189 10 = some (.ireturn, 11) := by decide +kernel
theorem d190_0 : cod 190 0 = some (.iload_n 0, 1) := by decide +kernel
theorem d190_1 : cod 190 1 = some (.ifCond .ge 8, 4) := by decide +kernel
theorem d190_4 : cod 190 4 = some (.iload_n 0, 5) := by decide +kernel
theorem d190_5 : cod 190 5 = some (.ineg, 6) := by decide +kernel
theorem d190_6 : cod 190 6 = some (.goto 4, 9) := by decide +kernel
theorem d190_9 : cod 190 9 = some (.iload_n 0, 10) := by decide +kernel
theorem d190_10 : cod 190 10 = some (.ireturn, 11) := by decide +kernel
theorem d191_0 : cod 191 0 = some (.iload_n 0, 1) := by decide +kernel
theorem d191_1 : cod 191 1 = some (.iload_n 1, 2) := by decide +kernel
theorem d191_2 : cod 191 2 = some (.iload_n 2, 3) := by decide +kernel
theorem d191_3 : cod 191 3 = some (.invokestatic 194, 6) := by decide +kernel
theorem d191_6 : cod 191 6 = some (.iadd, 7) := by decide +kernel
theorem d191_7 : cod 191 7 = some (.istore_n 3, 8) := by decide +kernel
theorem d191_8 : cod 191 8 = some (.iconst 0, 9) := by decide +kernel
theorem d191_9 : cod 191 9 = some (.iload_n 3, 10) := by decide +kernel
theorem d191_10 : cod 191 10 = some (.if_icmp .ge 11, 13) := by decide +kernel
theorem d191_13 : cod 191 13 = some (.iload_n 3, 14) := by decide +kernel
theorem d191_14 : cod 191 14 = some (.ldc 200, 16) := by decide +kernel
theorem d191_16 : cod 191 16 = some (.if_icmp .gt 5, 19) := by decide +kernel
theorem d191_19 : cod 191 19 = some (.iload_n 3, 20) := by decide +kernel
theorem d191_20 : cod 191 20 = some (.ireturn, 21) := by decide +kernel
theorem d191_21 : cod 191 21 = some (.iload_n 0, 22) := by decide +kernel
theorem d191_22 : cod 191 22 = some (.iload_n 1, 23) := by decide +kernel
theorem d191_23 : cod 191 23 = some (.invokestatic 201, 26) := by decide +kernel
theorem d191_26 : cod 191 26 = some (.ireturn, 27) := by decide +kernel
theorem d192_0 : cod 192 0 = some (.iload_n 0, 1) := by decide +kernel
theorem d192_1 : cod 192 1 = some (.iload_n 1, 2) := by decide +kernel
theorem d192_2 : cod 192 2 = some (.iadd, 3) := by decide +kernel
theorem d192_3 : cod 192 3 = some (.istore_n 2, 4) := by decide +kernel
theorem d192_4 : cod 192 4 = some (.iload_n 2, 5) := by decide +kernel
theorem d192_5 : cod 192 5 = some (.ifCond .ge 44, 8) := by decide +kernel
theorem d192_8 : cod 192 8 = some (.new 204, 11) := by decide +kernel
theorem d192_11 : cod 192 11 = some (.dup, 12) := by decide +kernel
theorem d192_12 : cod 192 12 = some (.new 89, 15) := by decide +kernel
theorem d192_15 : cod 192 15 = some (.dup, 16) := by decide +kernel
theorem d192_16 : cod 192 16 = some (.invokespecial 91, 19) := by decide +kernel
theorem d192_19 : cod 192 19 = some (.ldc 206, 21) := by decide +kernel
theorem d192_21 : cod 192 21 = some (.invokevirtual 94, 24) := by decide +kernel
theorem d192_24 : cod 192 24 = some (.iload_n 0, 25) := by decide +kernel
theorem d192_25 : cod 192 25 = some (.invokevirtual 98, 28) := by decide +kernel
theorem d192_28 : cod 192 28 = some (.ldc 208, 30) := by decide +kernel
theorem d192_30 : cod 192 30 = some (.invokevirtual 94, 33) := by decide +kernel
theorem d192_33 : cod 192 33 = some (.iload_n 1, 34) := by decide +kernel
theorem d192_34 : cod 192 34 = some (.invokevirtual 98, 37) := by decide +kernel
theorem d192_37 : cod 192 37 = some (.ldc 210, 39) := by decide +kernel
theorem d192_39 : cod 192 39 = some (.invokevirtual 94, 42) := by decide +kernel
theorem d192_42 : cod 192 42 = some (.invokevirtual 101, 45) := by decide +kernel
theorem d192_45 : cod 192 45 = some (.invokespecial 212, 48) := by decide +kernel
theorem d192_48 : cod 192 48 = some (.athrow, 49) := by decide +kernel
theorem d192_49 : cod 192 49 = some (.iload_n 2, 50) := by decide +kernel
theorem d192_50 : cod 192 50 = some (.ldc 200, 52) := by decide +kernel
theorem d192_52 : cod 192 52 = some (.if_icmp .gt 6, 55) := by decide +kernel
theorem d192_55 : cod 192 55 = some (.ldc 200, 57) := by decide +kernel
theorem d192_57 : cod 192 57 = some (.ireturn, 58) := by decide +kernel
theorem d192_58 : cod 192 58 = some (.iload_n 2, 59) := by decide +kernel
theorem d192_59 : cod 192 59 = some (.ireturn, 60) := by decide +kernel
theorem d193_0 : cod 193 0 = some (.new 9, 3) := by decide +kernel
theorem d193_3 : cod 193 3 = some (.dup, 4) := by decide +kernel
theorem d193_4 : cod 193 4 = some (.invokespecial 11, 7) := by decide +kernel
theorem d193_7 : cod 193 7 = some (.astore_n 1, 8) := by decide +kernel
theorem d193_8 : cod 193 8 = some (.aload_n 1, 9) := by decide +kernel
theorem d193_9 : cod 193 9 = some (.iconst 2, 10) := by decide +kernel
theorem d193_10 : cod 193 10 = some (.aload_n 0, 11) := by decide +kernel
theorem d193_11 : cod 193 11 = some (.iconst 1, 12) := by decide +kernel
theorem d193_12 : cod 193 12 = some (.invokestatic 12, 15) := by decide +kernel
theorem d193_15 : cod 193 15 = some (.iconst 5, 16) := by decide +kernel
theorem d193_16 : cod 193 16 = some (.invokestatic 18, 19) := by decide +kernel
theorem d193_19 : cod 193 19 = some (.iadd, 20) := by decide +kernel
theorem d193_20 : cod 193 20 = some (.iconst 2, 21) := by decide +kernel
theorem d193_21 : cod 193 21 = some (.aload_n 0, 22) := by decide +kernel
theorem d193_22 : cod 193 22 = some (.iconst 2, 23) := by decide +kernel
theorem d193_23 : cod 193 23 = some (.invokestatic 12, 26) := by decide +kernel
theorem d193_26 : cod 193 26 = some (.iconst 3, 27) := by decide +kernel
theorem d193_27 : cod 193 27 = some (.invokestatic 18, 30) := by decide +kernel
theorem d193_30 : cod 193 30 = some (.iadd, 31) := by decide +kernel
theorem d193_31 : cod 193 31 = some (.invokevirtual 22, 34) := by decide +kernel
theorem d193_34 : cod 193 34 = some (.pop, 35) := by decide +kernel
theorem d193_35 : cod 193 35 = some (.aload_n 1, 36) := by decide +kernel
theorem d193_36 : cod 193 36 = some (.aload_n 0, 37) := by decide +kernel
theorem d193_37 : cod 193 37 = some (.iconst 3, 38) := by decide +kernel
theorem d193_38 : cod 193 38 = some (.invokestatic 12, 41) := by decide +kernel
theorem d193_41 : cod 193 41 = some (.bipush 100, 43) := by decide +kernel
theorem d193_43 : cod 193 43 = some (.invokestatic 18, 46) := by decide +kernel
theorem d193_46 : cod 193 46 = some (.invokevirtual 25, 49) := by decide +kernel
theorem d193_49 : cod 193 49 = some (.pop, 50) := by decide +kernel
theorem d193_50 : cod 193 50 = some (.aload_n 1, 51) := by decide +kernel
theorem d193_51 : cod 193 51 = some (.iconst 0, 52) := by decide +kernel
theorem d193_52 : cod 193 52 = some (.iconst 1, 53) := by decide +kernel
theorem d193_53 : cod 193 53 = some (.iconst 2, 54) := by decide +kernel
theorem d193_54 : cod 193 54 = some (.iconst 1, 55) := by decide +kernel
theorem d193_55 : cod 193 55 = some (.aload_n 0, 56) := by decide +kernel
theorem d193_56 : cod 193 56 = some (.iconst 4, 57) := by decide +kernel
theorem d193_57 : cod 193 57 = some (.invokestatic 12, 60) := by decide +kernel
theorem d193_60 : cod 193 60 = some (.bipush 20, 62) := by decide +kernel
theorem d193_62 : cod 193 62 = some (.invokestatic 18, 65) := by decide +kernel
theorem d193_65 : cod 193 65 = some (.iadd, 66) := by decide +kernel
theorem d193_66 : cod 193 66 = some (.invokevirtual 29, 69) := by decide +kernel
theorem d193_69 : cod 193 69 = some (.pop, 70) := by decide +kernel
theorem d193_70 : cod 193 70 = some (.aload_n 1, 71) := by decide +kernel
theorem d193_71 : cod 193 71 = some (.iconst 0, 72) := by decide +kernel
theorem d193_72 : cod 193 72 = some (.iconst 0, 73) := by decide +kernel
theorem d193_73 : cod 193 73 = some (.sipush 999, 76) := by decide +kernel
theorem d193_76 : cod 193 76 = some (.invokevirtual 33, 79) := by decide +kernel
theorem d193_79 : cod 193 79 = some (.pop, 80) := by decide +kernel
theorem d193_80 : cod 193 80 = some (.aload_n 1, 81) := by decide +kernel
theorem d193_81 : cod 193 81 = some (.iconst 1, 82) := by decide +kernel
theorem d193_82 : cod 193 82 = some (.aload_n 0, 83) := by decide +kernel
theorem d193_83 : cod 193 83 = some (.iconst 5, 84) := by decide +kernel
theorem d193_84 : cod 193 84 = some (.invokestatic 12, 87) := by decide +kernel
theorem d193_87 : cod 193 87 = some (.bipush 9, 89) := by decide +kernel
theorem d193_89 : cod 193 89 = some (.invokestatic 18, 92) := by decide +kernel
theorem d193_92 : cod 193 92 = some (.iadd, 93) := by decide +kernel
theorem d193_93 : cod 193 93 = some (.iconst 0, 94) := by decide +kernel
theorem d193_94 : cod 193 94 = some (.sipush 500, 97) := by decide +kernel
theorem d193_97 : cod 193 97 = some (.invokevirtual 37, 100) := by decide +kernel
theorem d193_100 : cod 193 100 = some (.pop, 101) := by decide +kernel
theorem d193_101 : cod 193 101 = some (.iconst 0, 102) := by decide +kernel
theorem d193_102 : cod 193 102 = some (.istore_n 2, 103) := by decide +kernel
theorem d193_103 : cod 193 103 = some (.iload_n 2, 104) := by decide +kernel
theorem d193_104 : cod 193 104 = some (.bipush 50, 106) := by decide +kernel
theorem d193_106 : cod 193 106 = some (.if_icmp .ge 54, 109) := by decide +kernel
theorem d193_109 : cod 193 109 = some (.aload_n 0, 110) := by decide +kernel
theorem d193_110 : cod 193 110 = some (.iload_n 2, 111) := by decide +kernel
theorem d193_111 : cod 193 111 = some (.bipush 16, 113) := by decide +kernel
theorem d193_113 : cod 193 113 = some (.irem, 114) := by decide +kernel
theorem d193_114 : cod 193 114 = some (.invokestatic 12, 117) := by decide +kernel
theorem d193_117 : cod 193 117 = some (.bipush 37, 119) := by decide +kernel
theorem d193_119 : cod 193 119 = some (.iload_n 2, 120) := by decide +kernel
theorem d193_120 : cod 193 120 = some (.imul, 121) := by decide +kernel
theorem d193_121 : cod 193 121 = some (.iadd, 122) := by decide +kernel
theorem d193_122 : cod 193 122 = some (.istore_n 3, 123) := by decide +kernel
theorem d193_123 : cod 193 123 = some (.aload_n 1, 124) := by decide +kernel
theorem d193_124 : cod 193 124 = some (.iload_n 3, 125) := by decide +kernel
theorem d193_125 : cod 193 125 = some (.iconst 2, 126) := by decide +kernel
theorem d193_126 : cod 193 126 = some (.ishr, 127) := by decide +kernel
theorem d193_127 : cod 193 127 = some (.iload_n 3, 128) := by decide +kernel
theorem d193_128 : cod 193 128 = some (.bipush 17, 130) := by decide +kernel
theorem d193_130 : cod 193 130 = some (.invokestatic 18, 133) := by decide +kernel
theorem d193_133 : cod 193 133 = some (.invokestatic 40, 136) := by decide +kernel
theorem d193_136 : cod 193 136 = some (.iload_n 2, 137) := by decide +kernel
theorem d193_137 : cod 193 137 = some (.bipush 8, 139) := by decide +kernel
theorem d193_139 : cod 193 139 = some (.irem, 140) := by decide +kernel
theorem d193_140 : cod 193 140 = some (.bipush 7, 142) := by decide +kernel
theorem d193_142 : cod 193 142 = some (.if_icmp .ne 12, 145) := by decide +kernel
theorem d193_145 : cod 193 145 = some (.aload_n 1, 146) := by decide +kernel
theorem d193_146 : cod 193 146 = some (.invokestatic 44, 149) := by decide +kernel
theorem d193_149 : cod 193 149 = some (.ifCond .ne 5, 152) := by decide +kernel
theorem d193_152 : cod 193 152 = some (.iconst 0, 153) := by decide +kernel
theorem d193_153 : cod 193 153 = some (.ireturn, 154) := by decide +kernel
theorem d193_154 : cod 193 154 = some (.iinc 2 1, 157) := by decide +kernel
theorem d193_157 : cod 193 157 = some (.goto (-54), 160) := by decide +kernel
theorem d193_160 : cod 193 160 = some (.iconst 1, 161) := by decide +kernel
theorem d193_161 : cod 193 161 = some (.ireturn, 162) := by decide +kernel
end
section
/-! OUR MACHINE: whole numbers that are cut to 32 or 64 bits where they are used, references as numbers of cells, calls nested. -/
abbrev XV : Type := Int ⊕ (Int ⊕ Option Nat)
abbrev vI (z : Int) : XV := Sum.inl z
abbrev vL (z : Int) : XV := Sum.inr (Sum.inl z)
abbrev vR (r : Option Nat) : XV := Sum.inr (Sum.inr r)
abbrev XL : Type := List (Option XV)
/-- cells; cells and slots made; tags; lengths; numbers; references -/
abbrev Hp : Type := Nat × Nat × Nat × (Nat → Nat) × (Nat → Nat) × (Nat → Nat → Int) × (Nat → Nat → Option Nat)
abbrev XO : Type := Option XV ⊕ Nat
def hN (h : Hp) : Nat := h.1
def hC (h : Hp) : Nat := h.2.1
def hS (h : Hp) : Nat := h.2.2.1
def hT (h : Hp) : Nat → Nat := h.2.2.2.1
def hL (h : Hp) : Nat → Nat := h.2.2.2.2.1
def hI (h : Hp) : Nat → Nat → Int := h.2.2.2.2.2.1
def hR (h : Hp) : Nat → Nat → Option Nat := h.2.2.2.2.2.2
def u1 {α : Type} (f : Nat → α) (a : Nat) (v : α) : Nat → α := fun b => if b = a then v else f b
def u2 {α : Type} (f : Nat → Nat → α) (a k : Nat) (v : α) : Nat → Nat → α := fun b j => if b = a ∧ j = k then v else f b j
/-- a whole row -/
def ur {α : Type} (f : Nat → Nat → α) (a : Nat) (g : Nat → α) : Nat → Nat → α := fun b j => if b = a then g j else f b j
def sI (h : Hp) (a k : Nat) (v : Int) : Hp := (hN h, hC h, hS h, hT h, hL h, u2 (hI h) a k v, hR h)
def sR (h : Hp) (a k : Nat) (v : Option Nat) : Hp := (hN h, hC h, hS h, hT h, hL h, hI h, u2 (hR h) a k v)
def sIr (h : Hp) (a : Nat) (g : Nat → Int) : Hp := (hN h, hC h, hS h, hT h, hL h, ur (hI h) a g, hR h)
def sRr (h : Hp) (a : Nat) (g : Nat → Option Nat) : Hp := (hN h, hC h, hS h, hT h, hL h, hI h, ur (hR h) a g)
/-- a new cell: tag, length (of a row), slots that it costs -/
def alc (h : Hp) (t len sl : Nat) : Hp := (hN h + 1, hC h + 1, hS h + sl, u1 (hT h) (hN h) t, u1 (hL h) (hN h) len, ur (hI h) (hN h) (fun _ => 0), ur (hR h) (hN h) (fun _ => none))
/-- cells that we don't number -/
def tck (h : Hp) (c s : Nat) : Hp := (hN h, hC h + c, hS h + s, hT h, hL h, hI h, hR h)
def r32 (z : Int) : Bool := decide (-2147483648 ≤ z) && decide (z < 2147483648)
def w32 (z : Int) : Int := (Int32.ofInt z).toInt
def w64 (z : Int) : Int := (Int64.ofInt z).toInt
def o32 (f : Int32 → Int32 → Int32) (x y : Int) : Int := (f (Int32.ofInt x) (Int32.ofInt y)).toInt
def o64 (f : Int64 → Int64 → Int64) (x y : Int) : Int := (f (Int64.ofInt x) (Int64.ofInt y)).toInt
abbrev fand (x y : Int32) : Int32 := x &&& y
abbrev fior (x y : Int32) : Int32 := x ||| y
abbrev fxor (x y : Int32) : Int32 := x ^^^ y
abbrev fshl (x y : Int32) : Int32 := x <<< (y &&& 31)
abbrev fshr (x y : Int32) : Int32 := x >>> (y &&& 31)
abbrev fush (x y : Int32) : Int32 := (x.toUInt32 >>> (y.toUInt32 &&& Int32.toUInt32 31)).toInt32
abbrev gand (x y : Int64) : Int64 := x &&& y
abbrev gior (x y : Int64) : Int64 := x ||| y
def lshlZ (x s : Int) : Int := (Int64.ofInt x <<< ((Int32.ofInt s).toInt64 &&& 63)).toInt
def lshrZ (x s : Int) : Int := (Int64.ofInt x >>> ((Int32.ofInt s).toInt64 &&& 63)).toInt
def lushZ (x s : Int) : Int := ((Int64.ofInt x).toUInt64 >>> ((Int32.ofInt s).toInt64.toUInt64 &&& Int64.toUInt64 63)).toInt64.toInt
def cmpZ (x y : Int) : Int := if w64 y < w64 x then 1 else if w64 x = w64 y then 0 else -1
def cnd (c : ClassFile.Cond) (x y : Int) : Bool := match c with
  | .eq => decide (x = y)
  | .ne => decide (x ≠ y)
  | .lt => decide (x < y)
  | .ge => decide (y ≤ x)
  | .gt => decide (y < x)
  | .le => decide (x ≤ y)
def ln {α : Type} : List α → Nat → Option α
  | [], _ => none
  | a :: _, 0 => some a
  | _ :: l, n + 1 => ln l n
def isL (v : XV) : Bool := match v with
  | .inr (.inl _) => true
  | _ => false
def clr (a : Option XV) : Option XV := match a with
  | some (.inr (.inl _)) => none
  | a => a
/-- storing a value of one slot; of two -/
def st1 : XL → Nat → XV → Option XL
  | [], _, _ => none
  | _ :: l, 0, v => some (some v :: l)
  | a :: l, n + 1, v => match n with
    | 0 => (st1 l 0 v).map (fun l' => clr a :: l')
    | k + 1 => (st1 l (k + 1) v).map (fun l' => a :: l')
def st2 : XL → Nat → XV → Option XL
  | [], _, _ => none
  | a :: l, n, v => match n with
    | 0 => match l with
      | [] => none
      | _ :: l' => some (some v :: none :: l')
    | m + 1 => match m with
      | 0 => (st2 l 0 v).map (fun l' => clr a :: l')
      | k + 1 => (st2 l (k + 1) v).map (fun l' => a :: l')
def entL : List XV → XL
  | [] => []
  | v :: vs => if isL v then some v :: none :: entL vs else some v :: entL vs
def padL (l : XL) (n : Nat) : XL := l ++ List.replicate (n - l.length) none
def ent (z : Nat) (as : List XV) : XL := padL (entL as) (mLoc z)
def tgt (pc : Nat) (off : Int) : Option Nat := if 0 ≤ (pc : Int) + off then some ((pc : Int) + off).toNat else none
/-- instructions that touch the stack of operands alone -/
def sop (c : Nat) (i : Instr) (st : List XV) : Option (List XV) := match i with
  | .iconst n => some (vI n :: st)
  | .bipush n => if -128 ≤ n ∧ n < 128 then some (vI n :: st) else none
  | .sipush n => if -32768 ≤ n ∧ n < 32768 then some (vI n :: st) else none
  | .lconst n => some (vL (n : Nat) :: st)
  | .aconst_null => some (vR none :: st)
  | .ldc k => match lkp cstL c k with | some z => some (vI z :: st) | none => none
  | .ldc_w k => match lkp cstL c k with | some z => some (vI z :: st) | none => none
  | .ldc2_w k => match lkp cstJ c k with | some z => some (vL z :: st) | none => none
  | .iadd => match st with | .inl y :: .inl x :: r => some (vI (x + y) :: r) | _ => none
  | .isub => match st with | .inl y :: .inl x :: r => some (vI (x - y) :: r) | _ => none
  | .imul => match st with | .inl y :: .inl x :: r => some (vI (x * y) :: r) | _ => none
  | .ineg => match st with | .inl x :: r => some (vI (-x) :: r) | _ => none
  | .idiv => match st with | .inl y :: .inl x :: r => if r32 x && r32 y && decide (y ≠ 0) then some (vI (x.tdiv y) :: r) else none | _ => none
  | .irem => match st with | .inl y :: .inl x :: r => if r32 x && r32 y && decide (y ≠ 0) then some (vI (x.tmod y) :: r) else none | _ => none
  | .iand => match st with | .inl y :: .inl x :: r => some (vI (o32 fand x y) :: r) | _ => none
  | .ior => match st with | .inl y :: .inl x :: r => some (vI (o32 fior x y) :: r) | _ => none
  | .ixor => match st with | .inl y :: .inl x :: r => some (vI (o32 fxor x y) :: r) | _ => none
  | .ishl => match st with | .inl y :: .inl x :: r => some (vI (o32 fshl x y) :: r) | _ => none
  | .ishr => match st with | .inl y :: .inl x :: r => some (vI (o32 fshr x y) :: r) | _ => none
  | .iushr => match st with | .inl y :: .inl x :: r => some (vI (o32 fush x y) :: r) | _ => none
  | .ladd => match st with | .inr (.inl y) :: .inr (.inl x) :: r => some (vL (x + y) :: r) | _ => none
  | .lsub => match st with | .inr (.inl y) :: .inr (.inl x) :: r => some (vL (x - y) :: r) | _ => none
  | .lmul => match st with | .inr (.inl y) :: .inr (.inl x) :: r => some (vL (x * y) :: r) | _ => none
  | .land => match st with | .inr (.inl y) :: .inr (.inl x) :: r => some (vL (o64 gand x y) :: r) | _ => none
  | .lor => match st with | .inr (.inl y) :: .inr (.inl x) :: r => some (vL (o64 gior x y) :: r) | _ => none
  | .lshl => match st with | .inl y :: .inr (.inl x) :: r => some (vL (lshlZ x y) :: r) | _ => none
  | .lshr => match st with | .inl y :: .inr (.inl x) :: r => some (vL (lshrZ x y) :: r) | _ => none
  | .lushr => match st with | .inl y :: .inr (.inl x) :: r => some (vL (lushZ x y) :: r) | _ => none
  | .lcmp => match st with | .inr (.inl y) :: .inr (.inl x) :: r => some (vI (cmpZ x y) :: r) | _ => none
  | .i2l => match st with | .inl x :: r => some (vL (w32 x) :: r) | _ => none
  | .l2i => match st with | .inr (.inl x) :: r => some (vI x :: r) | _ => none
  | .dup => match st with | a :: r => if isL a then none else some (a :: a :: r) | _ => none
  | .dup_x1 => match st with | a :: b :: r => if isL a || isL b then none else some (a :: b :: a :: r) | _ => none
  | .dup2 => match st with | a :: b :: r => if isL a || isL b then none else some (a :: b :: a :: b :: r) | _ => none
  | .pop => match st with | a :: r => if isL a then none else some r | _ => none
  | _ => none
/-- loads and stores of locals -/
def lop (i : Instr) (ls : XL) (st : List XV) : Option (XL × List XV) :=
  let ldi (k : Nat) : Option (XL × List XV) := match ln ls k with | some (some (.inl x)) => some (ls, vI x :: st) | _ => none
  let ldl (k : Nat) : Option (XL × List XV) := match ln ls k with | some (some (.inr (.inl x))) => some (ls, vL x :: st) | _ => none
  let lda (k : Nat) : Option (XL × List XV) := match ln ls k with | some (some (.inr (.inr x))) => some (ls, vR x :: st) | _ => none
  let sti (k : Nat) : Option (XL × List XV) := match st with | .inl x :: r => (st1 ls k (vI x)).map (fun l => (l, r)) | _ => none
  let sta (k : Nat) : Option (XL × List XV) := match st with | .inr (.inr x) :: r => (st1 ls k (vR x)).map (fun l => (l, r)) | _ => none
  let stl (k : Nat) : Option (XL × List XV) := match st with | .inr (.inl x) :: r => (st2 ls k (vL x)).map (fun l => (l, r)) | _ => none
  match i with
  | .iload k => ldi k
  | .iload_n k => ldi k
  | .lload k => ldl k
  | .lload_n k => ldl k
  | .aload k => lda k
  | .aload_n k => lda k
  | .istore k => sti k
  | .istore_n k => sti k
  | .astore k => sta k
  | .astore_n k => sta k
  | .lstore k => stl k
  | .lstore_n k => stl k
  | .iinc k n => match ln ls k with | some (some (.inl x)) => (st1 ls k (vI (x + n))).map (fun l => (l, st)) | _ => none
  | _ => none
/-- jumps -/
def jop (pc nx : Nat) (i : Instr) (st : List XV) : Option (Nat × List XV) := match i with
  | .goto o => match tgt pc o with | some t => some (t, st) | none => none
  | .ifCond c o => match st, tgt pc o with
    | .inl x :: r, some t => if r32 x then some (if cnd c x 0 then t else nx, r) else none
    | _, _ => none
  | .if_icmp c o => match st, tgt pc o with
    | .inl y :: .inl x :: r, some t => if r32 x && r32 y then some (if cnd c x y then t else nx, r) else none
    | _, _ => none
  | .if_acmp c o => match st, tgt pc o with
    | .inr (.inr y) :: .inr (.inr x) :: r, some t => some (if (match c with | .eq => decide (x = y) | .ne => decide (x ≠ y)) then t else nx, r)
    | _, _ => none
  | .tableswitch df lo hi os => match st with
    | .inl x :: r => if r32 x then (if lo ≤ x ∧ x ≤ hi then (match os[(x - lo).toNat]? with | some o => (match tgt pc o with | some t => some (t, r) | none => none) | none => none) else (match tgt pc df with | some t => some (t, r) | none => none)) else none
    | _ => none
  | _ => none
def nwTag (a : ArrayType) : Nat := match a with
  | .int => 100
  | .boolean => 101
  | .long => 102
  | _ => 0
/-- cells -/
def hop (D : Nat → Nat → Bool) (y c : Nat) (i : Instr) (st : List XV) (h : Hp) : Option (List XV × Hp) := match i with
  | .getfield k => match lkp fldL c k with
    | some (t, j, kd, _) => (match st with
      | .inr (.inr (some a)) :: r => if a < hN h ∧ hT h a = t ∧ D a j = true then
          some ((if kd = 3 then vR (hR h a j) else if kd = 2 then vL (hI h a j) else vI (hI h a j)) :: r, h) else none
      | _ => none)
    | none => none
  | .putfield k => match lkp fldL c k with
    | some (t, j, kd, fin) => (match st with
      | .inr (.inr q) :: .inr (.inr (some a)) :: r => if a < hN h ∧ hT h a = t ∧ D a j = true ∧ (fin = true → isIni y = true ∧ c = t) ∧ kd = 3 then some (r, sR h a j q) else none
      | .inr (.inl x) :: .inr (.inr (some a)) :: r => if a < hN h ∧ hT h a = t ∧ D a j = true ∧ (fin = true → isIni y = true ∧ c = t) ∧ kd = 2 then some (r, sI h a j x) else none
      | .inl x :: .inr (.inr (some a)) :: r => if a < hN h ∧ hT h a = t ∧ D a j = true ∧ (fin = true → isIni y = true ∧ c = t) ∧ (kd = 0 ∨ (kd = 1 ∧ (x = 0 ∨ x = 1))) then some (r, sI h a j x) else none
      | _ => none)
    | none => none
  | .getstatic k => if c = 12 ∧ k = 39 then some (vR (some 0) :: st, h) else none
  | .iaload => match st with
    | .inl x :: .inr (.inr (some a)) :: r => if a < hN h ∧ hT h a = 100 ∧ 0 ≤ x ∧ x < hL h a ∧ D a x.toNat = true then some (vI (hI h a x.toNat) :: r, h) else none
    | _ => none
  | .baload => match st with
    | .inl x :: .inr (.inr (some a)) :: r => if a < hN h ∧ hT h a = 101 ∧ 0 ≤ x ∧ x < hL h a ∧ D a x.toNat = true then some (vI (hI h a x.toNat) :: r, h) else none
    | _ => none
  | .laload => match st with
    | .inl x :: .inr (.inr (some a)) :: r => if a < hN h ∧ hT h a = 102 ∧ 0 ≤ x ∧ x < hL h a ∧ D a x.toNat = true then some (vL (hI h a x.toNat) :: r, h) else none
    | _ => none
  | .aaload => match st with
    | .inl x :: .inr (.inr (some a)) :: r => if a < hN h ∧ 103 ≤ hT h a ∧ hT h a ≤ 105 ∧ 0 ≤ x ∧ x < hL h a ∧ D a x.toNat = true then some (vR (hR h a x.toNat) :: r, h) else none
    | _ => none
  | .iastore => match st with
    | .inl v :: .inl x :: .inr (.inr (some a)) :: r => if 2 ≤ a ∧ a < hN h ∧ hT h a = 100 ∧ 0 ≤ x ∧ x < hL h a ∧ D a x.toNat = true then some (r, sI h a x.toNat v) else none
    | _ => none
  | .bastore => match st with
    | .inl v :: .inl x :: .inr (.inr (some a)) :: r => if 2 ≤ a ∧ a < hN h ∧ hT h a = 101 ∧ 0 ≤ x ∧ x < hL h a ∧ D a x.toNat = true ∧ (v = 0 ∨ v = 1) then some (r, sI h a x.toNat v) else none
    | _ => none
  | .lastore => match st with
    | .inr (.inl v) :: .inl x :: .inr (.inr (some a)) :: r => if 2 ≤ a ∧ a < hN h ∧ hT h a = 102 ∧ 0 ≤ x ∧ x < hL h a ∧ D a x.toNat = true then some (r, sI h a x.toNat v) else none
    | _ => none
  | .aastore => match st with
    | .inr (.inr none) :: .inl x :: .inr (.inr (some a)) :: r => if 2 ≤ a ∧ a < hN h ∧ 103 ≤ hT h a ∧ hT h a ≤ 105 ∧ 0 ≤ x ∧ x < hL h a ∧ D a x.toNat = true then some (r, sR h a x.toNat none) else none
    | .inr (.inr (some b)) :: .inl x :: .inr (.inr (some a)) :: r => if 2 ≤ a ∧ a < hN h ∧ 0 ≤ x ∧ x < hL h a ∧ D a x.toNat = true ∧ b < hN h ∧ ((hT h a = 103 ∧ hT h b < 13) ∨ (hT h a = 104 ∧ hT h b = 8) ∨ (hT h a = 105 ∧ hT h b = 4)) then some (r, sR h a x.toNat (some b)) else none
    | _ => none
  | .arraylength => match st with
    | .inr (.inr (some a)) :: r => if a < hN h ∧ 100 ≤ hT h a ∧ hT h a ≤ 105 then some (vI (hL h a) :: r, h) else none
    | _ => none
  | .new k => match lkp newL c k with
    | some (t, n) => some (vR (some (hN h)) :: st, alc h t 0 n)
    | none => none
  | .newarray t => match st with
    | .inl x :: r => if nwTag t ≠ 0 ∧ 0 ≤ x ∧ x < 60000 then some (vR (some (hN h)) :: r, alc h (nwTag t) x.toNat x.toNat) else none
    | _ => none
  | .anewarray k => match lkp anwL c k with
    | some g => (match st with
      | .inl x :: r => if 0 ≤ x ∧ x < 60000 then some (vR (some (hN h)) :: r, alc h g x.toNat x.toNat) else none
      | _ => none)
    | none => none
  | .checkcast k => match lkp cstT c k with
    | some t => (match st with
      | .inr (.inr (some a)) :: r => if a < hN h ∧ hT h a = t then some (vR (some a) :: r, h) else none
      | _ => none)
    | none => none
  | _ => none
def popN (n : Nat) (st : List XV) : Option (List XV × List XV) := if n ≤ st.length then some ((st.take n).reverse, st.drop n) else none
/-- the members of the machine's own that we take as one step: a copy of a row, of a list's row -/
def cpyI (h : Hp) (a b n : Nat) : Hp := sIr h b (fun j => if j < n then hI h a j else hI h b j)
def cpyR (h : Hp) (a n : Nat) : Hp := sRr (alc h 103 n n) (hN h) (fun j => if j < hL h a then hR h a j else none)
def elB (h : Hp) (a j : Nat) : Bool := match hR h a j with
  | none => true
  | some b => decide (hT h b < 13)
def nat (D : Nat → Nat → Bool) (z : Nat) (as : List XV) (h : Hp) : Option (Option XV × Hp) := match z, as with
  | 900, [.inr (.inr (some a)), .inl 0, .inr (.inr (some b)), .inl 0, .inl n] =>
    if 2 ≤ a ∧ a < hN h ∧ 2 ≤ b ∧ b < hN h ∧ hT h a = 100 ∧ hT h b = 100 ∧ 0 ≤ n ∧ n ≤ hL h a ∧ n ≤ hL h b ∧ (∀ j, j < n.toNat → D a j = true ∧ D b j = true) then some (none, cpyI h a b n.toNat) else none
  | 902, [.inr (.inr (some a)), .inl n] =>
    if 2 ≤ a ∧ a < hN h ∧ hT h a = 103 ∧ 0 ≤ n ∧ n < 60000 ∧ (hL h a : Int) ≤ n ∧ (∀ j, j < hL h a → D a j = true ∧ elB h a j = true) then some (some (vR (some (hN h))), cpyR h a n.toNat) else none
  | 903, [.inl x, .inl y] => if r32 x = true ∧ r32 y = true then some (some (vI (if y < x then y else x)), h) else none
  | 904, [.inl x, .inl y] => if r32 x = true ∧ r32 y = true then some (some (vI (if x < y then y else x)), h) else none
  | 905, [.inl x] => if r32 x = true then some (some (vI (if 0 ≤ x then x else 0 - x)), h) else none
  | _, _ => none
/-- words that operands take -/
def szS (st : List XV) : Nat := (st.map (fun v => if isL v then 2 else 1)).sum
abbrev Out : Type := (Nat × XL × List XV × Hp) ⊕ ((XO × Hp) ⊕ (Nat × List XV × List XV))
def oSt (nx : Nat) (ls : XL) (h : Hp) (o : Option (List XV)) : Option Out := match o with
  | some st => some (.inl (nx, ls, st, h))
  | none => none
/-- the whole of one instruction -/
def stp (D : Nat → Nat → Bool) (y pc nx : Nat) (i : Instr) (ls : XL) (st : List XV) (h : Hp) : Option Out :=
  match sop (cls y) i st with
  | some st' => some (.inl (nx, ls, st', h))
  | none => match lop i ls st with
    | some (ls', st') => some (.inl (nx, ls', st', h))
    | none => match jop pc nx i st with
      | some (t, st') => some (.inl (t, ls, st', h))
      | none => match hop D y (cls y) i st h with
        | some (st', h') => some (.inl (nx, ls, st', h'))
        | none => match i with
          | .return_ => if mRet y = 4 then some (.inr (.inl (.inl none, h))) else none
          | .ireturn => match st with
            | [.inl x] => if mRet y = 0 ∨ (mRet y = 1 ∧ (x = 0 ∨ x = 1)) then some (.inr (.inl (.inl (some (vI x)), h))) else none
            | _ => none
          | .lreturn => match st with
            | [.inr (.inl x)] => if mRet y = 2 then some (.inr (.inl (.inl (some (vL x)), h))) else none
            | _ => none
          | .areturn => match st with
            | [.inr (.inr x)] => if mRet y = 3 then some (.inr (.inl (.inl (some (vR x)), h))) else none
            | _ => none
          | .new k => match lkp excL (cls y) k with
            | some e => if szS st ≤ 8 then some (.inr (.inl (.inr e, tck h 1 6))) else none
            | none => none
          | .invokestatic k => match lkp mthL (cls y) k with
            | some z => match popN (mArg z) st with
              | some (as, r) => if 8 < szS r then none else if 900 ≤ z then (match nat D z as h with
                  | some (v, h') => some (.inl (nx, ls, v.toList ++ r, h'))
                  | none => none) else (if mKnd z = 0 then some (.inr (.inr (z, as, r))) else none)
              | none => none
            | none => none
          | .invokevirtual k => match lkp mthL (cls y) k with
            | some z => match popN (mArg z) st with
              | some (.inr (.inr (some a)) :: as, r) => if mKnd z = 1 ∧ a < hN h ∧ 2 ≤ a ∧ hT h a = mTag z ∧ szS r ≤ 8 then some (.inr (.inr (z, vR (some a) :: as, r))) else none
              | _ => none
            | none => none
          | .invokespecial k => match lkp mthL (cls y) k with
            | some z => match popN (mArg z) st with
              | some (.inr (.inr (some a)) :: as, r) => if 8 < szS r then none else if z = 901 then (if as = [] then some (.inl (nx, ls, r, h)) else none) else if mKnd z = 2 ∧ a < hN h ∧ 2 ≤ a then some (.inr (.inr (z, vR (some a) :: as, r))) else none
              | _ => none
            | none => none
          | _ => none
/-- fuel n, depth d -/
def exec (D : Nat → Nat → Bool) : Nat → Nat → Nat → Nat → XL → List XV → Hp → Option (XO × Hp)
  | 0, _, _, _, _, _, _ => none
  | n + 1, d, y, pc, ls, st, h => match cod y pc with
    | none => none
    | some (i, nx) => match stp D y pc nx i ls st h with
      | none => none
      | some (.inl (pc', ls', st', h')) => exec D n d y pc' ls' st' h'
      | some (.inr (.inl r)) => some r
      | some (.inr (.inr (z, as, r))) => match d with
        | 0 => none
        | d' + 1 => match exec D n d' z 0 (ent z as) [] h with
          | none => none
          | some (.inl v, h1) => exec D n (d' + 1) y nx ls (v.toList ++ r) h1
          | some (.inr e, h1) => if hnd y pc e then some (.inl none, h1) else some (.inr e, h1)
theorem exec_mono {D : Nat → Nat → Bool} : ∀ {n d y pc : Nat} {ls : XL} {st : List XV} {h : Hp} {r : XO × Hp}, exec D n d y pc ls st h = some r → exec D (n + 1) d y pc ls st h = some r := by
  intro n
  induction n with
  | zero => intro d y pc ls st h r e; simp [exec] at e
  | succ n ih =>
    intro d y pc ls st h r e
    rw [exec] at e ⊢
    split at e
    · cases e
    · split at e
      · cases e
      · exact ih e
      · exact e
      · split at e
        · cases e
        · split at e
          · cases e
          · rename_i q; rw [ih q]; exact ih e
          · rename_i q; rw [ih q]; exact e
theorem exec_le {D : Nat → Nat → Bool} {n m d y pc : Nat} {ls : XL} {st : List XV} {h : Hp} {r : XO × Hp} (hm : n ≤ m) (e : exec D n d y pc ls st h = some r) : exec D m d y pc ls st h = some r := by
  induction m with
  | zero =>
    have : n = 0 := by omega
    subst this; exact e
  | succ m ih =>
    rcases Nat.lt_or_ge m n with q | q
    · have : n = m + 1 := by omega
      subst this; exact e
    · exact exec_mono (ih q)
def wp (D : Nat → Nat → Bool) (d y pc : Nat) (ls : XL) (st : List XV) (h : Hp) (Q : XO × Hp → Prop) : Prop := ∃ (n : Nat) (r : XO × Hp), exec D n d y pc ls st h = some r ∧ Q r
theorem wp_mono {D : Nat → Nat → Bool} {d y pc : Nat} {ls : XL} {st : List XV} {h : Hp} {Q Q' : XO × Hp → Prop} (k : wp D d y pc ls st h Q) (i : ∀ r, Q r → Q' r) : wp D d y pc ls st h Q' := by
  obtain ⟨n, r, e, q⟩ := k
  exact ⟨n, r, e, i r q⟩
section RULES
variable {D : Nat → Nat → Bool} {d y pc nx : Nat} {ls : XL} {st : List XV} {h : Hp} {Q : XO × Hp → Prop}
theorem wp_loc {i : Instr} {pc' : Nat} {ls' : XL} {st' : List XV} {h' : Hp} (hd : cod y pc = some (i, nx)) (hs : stp D y pc nx i ls st h = some (.inl (pc', ls', st', h'))) (k : wp D d y pc' ls' st' h' Q) : wp D d y pc ls st h Q := by
  obtain ⟨n, r, e, q⟩ := k
  refine ⟨n + 1, r, ?_, q⟩
  rw [exec, hd]; dsimp only; rw [hs]; exact e
theorem wp_fin {i : Instr} {r : XO × Hp} (hd : cod y pc = some (i, nx)) (hs : stp D y pc nx i ls st h = some (.inr (.inl r))) (k : Q r) : wp D d y pc ls st h Q := by
  refine ⟨1, r, ?_, k⟩
  rw [exec, hd]; dsimp only; rw [hs]
theorem wp_cal {i : Instr} {z : Nat} {as r : List XV} {Q1 : XO × Hp → Prop} (hd : cod y pc = some (i, nx)) (hs : stp D y pc nx i ls st h = some (.inr (.inr (z, as, r)))) (c : wp D d z 0 (ent z as) [] h Q1)
    (k : ∀ (v : Option XV) (h1 : Hp), Q1 (.inl v, h1) → wp D (d + 1) y nx ls (v.toList ++ r) h1 Q) (kx : ∀ (e : Nat) (h1 : Hp), Q1 (.inr e, h1) → Q (if hnd y pc e then (.inl none, h1) else (.inr e, h1))) : wp D (d + 1) y pc ls st h Q := by
  obtain ⟨n, ⟨o, h1⟩, e, q⟩ := c
  cases o with
  | inl v =>
    obtain ⟨n2, r2, e2, q2⟩ := k v h1 q
    refine ⟨n + n2 + 1, r2, ?_, q2⟩
    rw [exec, hd]; dsimp only; rw [hs]; dsimp only
    rw [exec_le (show n ≤ n + n2 by omega) e]
    exact exec_le (show n2 ≤ n + n2 by omega) e2
  | inr x =>
    refine ⟨n + 1, _, ?_, kx x h1 q⟩
    rw [exec, hd]; dsimp only; rw [hs]; dsimp only
    rw [e]
    dsimp only
    split <;> rfl
end RULES
end
section
/-! ===== our machine beside the machine: values, locals, cells ===== -/
def cv (ad : Nat → Nat) (v : XV) : Value := match v with
  | .inl z => .int (Int32.ofInt z)
  | .inr (.inl z) => .long (Int64.ofInt z)
  | .inr (.inr r) => va_rf (r.map ad)
def clV (n : Nat) (v : XV) : Prop := match v with
  | .inr (.inr (some b)) => b < n
  | _ => True
def clS (n : Nat) (st : List XV) : Prop := ∀ v ∈ st, clV n v
def clL (n : Nat) (ls : XL) : Prop := ∀ (k : Nat) (v : XV), ln ls k = some (some v) → clV n v
theorem clS_cons {n : Nat} {v : XV} {st : List XV} : clS n (v :: st) ↔ clV n v ∧ clS n st := by simp [clS]
theorem clV_mono {n m : Nat} (h : n ≤ m) {v : XV} (c : clV n v) : clV m v := by
  rcases v with z | z | r
  · trivial
  · trivial
  · cases r with
    | none => trivial
    | some b => exact Nat.lt_of_lt_of_le c h
theorem clS_mono {n m : Nat} (h : n ≤ m) {st : List XV} (c : clS n st) : clS m st := fun v hv => clV_mono h (c v hv)
theorem clL_mono {n m : Nat} (h : n ≤ m) {ls : XL} (c : clL n ls) : clL m ls := fun k v hv => clV_mono h (c k v hv)
theorem cv_ext {ad ad' : Nat → Nat} {n : Nat} (ha : ∀ a, a < n → ad' a = ad a) {v : XV} (c : clV n v) : cv ad' v = cv ad v := by
  rcases v with z | z | r
  · rfl
  · rfl
  · cases r with
    | none => rfl
    | some b => show va_rf (some (ad' b)) = va_rf (some (ad b)); rw [ha b c]
theorem map_ext {ad ad' : Nat → Nat} {n : Nat} (ha : ∀ a, a < n → ad' a = ad a) {st : List XV} (c : clS n st) : st.map (cv ad') = st.map (cv ad) :=
  List.map_congr_left fun v hv => cv_ext ha (c v hv)
theorem cv_cat (ad : Nat → Nat) (v : XV) : (cv ad v).category = if isL v then 2 else 1 := by
  rcases v with z | z | r
  · rfl
  · rfl
  · cases r <;> rfl
def toL (ad : Nat → Nat) : Nat → XL → List (Nat × Value)
  | _, [] => []
  | i, none :: l => toL ad (i + 1) l
  | i, some v :: l => (i, cv ad v) :: toL ad (i + 1) l
theorem mem_toL {ad : Nat → Nat} {ls : XL} : ∀ {i : Nat} {q : Nat × Value}, q ∈ toL ad i ls ↔ ∃ (j : Nat) (w : XV), ln ls j = some (some w) ∧ q = (i + j, cv ad w) := by
  induction ls with
  | nil => intro i q; simp [toL, ln]
  | cons a l ih =>
    intro i q
    cases a with
    | none =>
      simp only [toL]
      rw [ih]
      constructor
      · rintro ⟨j, w, h, rfl⟩
        exact ⟨j + 1, w, h, by rw [Nat.add_assoc, Nat.add_comm 1 j]⟩
      · rintro ⟨j, w, h, rfl⟩
        cases j with
        | zero => simp [ln] at h
        | succ j => exact ⟨j, w, h, by rw [Nat.add_assoc, Nat.add_comm 1 j]⟩
    | some v =>
      simp only [toL, List.mem_cons]
      rw [ih]
      constructor
      · rintro (rfl | ⟨j, w, h, rfl⟩)
        · exact ⟨0, v, rfl, rfl⟩
        · exact ⟨j + 1, w, h, by rw [Nat.add_assoc, Nat.add_comm 1 j]⟩
      · rintro ⟨j, w, h, rfl⟩
        cases j with
        | zero =>
          simp only [ln, Option.some.injEq] at h
          subst h; exact Or.inl rfl
        | succ j => exact Or.inr ⟨j, w, h, by rw [Nat.add_assoc, Nat.add_comm 1 j]⟩
theorem ln_lt {α : Type} {l : List α} : ∀ {k : Nat} {v : α}, ln l k = some v → k < l.length := by
  induction l with
  | nil => intro k v h; simp [ln] at h
  | cons a l ih =>
    intro k v h
    cases k with
    | zero => simp
    | succ k => simpa using ih h
theorem st1_spec : ∀ {ls ls' : XL} {k : Nat} {v : XV}, st1 ls k v = some ls' → ls'.length = ls.length ∧ k < ls.length ∧ ∀ (j : Nat) (w : XV), ln ls' j = some (some w) → (j = k ∧ w = v) ∨ (j ≠ k ∧ ln ls j = some (some w) ∧ ¬ (j + 1 = k ∧ isL w = true)) := by
  intro ls
  induction ls with
  | nil => intro ls' k v h; simp [st1] at h
  | cons a l ih =>
    intro ls' k v h
    cases k with
    | zero =>
      simp only [st1, Option.some.injEq] at h
      subst h
      refine ⟨rfl, by simp, fun j w hj => ?_⟩
      cases j with
      | zero => simp only [ln, Option.some.injEq] at hj; exact Or.inl ⟨rfl, hj.symm⟩
      | succ j => exact Or.inr ⟨by omega, hj, by omega⟩
    | succ k =>
      cases k with
      | zero =>
        simp only [st1] at h
        cases hm : st1 l 0 v with
        | none => rw [hm] at h; cases h
        | some l' =>
          rw [hm] at h
          simp only [Option.map_some, Option.some.injEq] at h
          subst h
          obtain ⟨h1, h2, h3⟩ := ih hm
          refine ⟨by simp [h1], by simp; omega, fun j w hj => ?_⟩
          cases j with
          | zero =>
            simp only [ln, Option.some.injEq] at hj
            refine Or.inr ⟨by omega, ?_, ?_⟩
            · cases a with
              | none => simp [clr] at hj
              | some x =>
                rcases x with z | z | r
                · simpa [clr, ln] using hj
                · simp [clr] at hj
                · simpa [clr, ln] using hj
            · rintro ⟨-, hw⟩
              cases a with
              | none => simp [clr] at hj
              | some x =>
                rcases x with z | z | r
                · simp only [clr, Option.some.injEq] at hj; subst hj; cases hw
                · simp [clr] at hj
                · simp only [clr, Option.some.injEq] at hj; subst hj; cases hw
          | succ j =>
            rcases h3 j w hj with ⟨rfl, rfl⟩ | ⟨q1, q2, q3⟩
            · exact Or.inl ⟨rfl, rfl⟩
            · exact Or.inr ⟨by omega, q2, by omega⟩
      | succ k =>
        simp only [st1] at h
        cases hm : st1 l (k + 1) v with
        | none => rw [hm] at h; cases h
        | some l' =>
          rw [hm] at h
          simp only [Option.map_some, Option.some.injEq] at h
          subst h
          obtain ⟨h1, h2, h3⟩ := ih hm
          refine ⟨by simp [h1], by simp; omega, fun j w hj => ?_⟩
          cases j with
          | zero => exact Or.inr ⟨by omega, hj, by omega⟩
          | succ j =>
            rcases h3 j w hj with ⟨rfl, rfl⟩ | ⟨q1, q2, q3⟩
            · exact Or.inl ⟨rfl, rfl⟩
            · exact Or.inr ⟨by omega, q2, fun q => q3 ⟨by omega, q.2⟩⟩
theorem st2_spec : ∀ {ls ls' : XL} {k : Nat} {v : XV}, st2 ls k v = some ls' → ls'.length = ls.length ∧ k + 1 < ls.length ∧ ∀ (j : Nat) (w : XV), ln ls' j = some (some w) → (j = k ∧ w = v) ∨ (j ≠ k ∧ j ≠ k + 1 ∧ ln ls j = some (some w) ∧ ¬ (j + 1 = k ∧ isL w = true)) := by
  intro ls
  induction ls with
  | nil => intro ls' k v h; simp [st2] at h
  | cons a l ih =>
    intro ls' k v h
    cases k with
    | zero =>
      cases l with
      | nil => simp [st2] at h
      | cons b l =>
        simp only [st2, Option.some.injEq] at h
        subst h
        refine ⟨rfl, by simp, fun j w hj => ?_⟩
        cases j with
        | zero => simp only [ln, Option.some.injEq] at hj; exact Or.inl ⟨rfl, hj.symm⟩
        | succ j =>
          cases j with
          | zero => simp [ln] at hj
          | succ j => exact Or.inr ⟨by omega, by omega, hj, by omega⟩
    | succ k =>
      cases k with
      | zero =>
        simp only [st2] at h
        cases hm : st2 l 0 v with
        | none => rw [hm] at h; cases h
        | some l' =>
          rw [hm] at h
          simp only [Option.map_some, Option.some.injEq] at h
          subst h
          obtain ⟨h1, h2, h3⟩ := ih hm
          refine ⟨by simp [h1], by simp; omega, fun j w hj => ?_⟩
          cases j with
          | zero =>
            simp only [ln, Option.some.injEq] at hj
            refine Or.inr ⟨by omega, by omega, ?_, ?_⟩
            · cases a with
              | none => simp [clr] at hj
              | some x =>
                rcases x with z | z | r
                · simpa [clr, ln] using hj
                · simp [clr] at hj
                · simpa [clr, ln] using hj
            · rintro ⟨-, hw⟩
              cases a with
              | none => simp [clr] at hj
              | some x =>
                rcases x with z | z | r
                · simp only [clr, Option.some.injEq] at hj; subst hj; cases hw
                · simp [clr] at hj
                · simp only [clr, Option.some.injEq] at hj; subst hj; cases hw
          | succ j =>
            rcases h3 j w hj with ⟨rfl, rfl⟩ | ⟨q1, q2, q3, q4⟩
            · exact Or.inl ⟨rfl, rfl⟩
            · exact Or.inr ⟨by omega, by omega, q3, by omega⟩
      | succ k =>
        simp only [st2] at h
        cases hm : st2 l (k + 1) v with
        | none => rw [hm] at h; cases h
        | some l' =>
          rw [hm] at h
          simp only [Option.map_some, Option.some.injEq] at h
          subst h
          obtain ⟨h1, h2, h3⟩ := ih hm
          refine ⟨by simp [h1], by simp; omega, fun j w hj => ?_⟩
          cases j with
          | zero => exact Or.inr ⟨by omega, by omega, hj, by omega⟩
          | succ j =>
            rcases h3 j w hj with ⟨rfl, rfl⟩ | ⟨q1, q2, q3, q4⟩
            · exact Or.inl ⟨rfl, rfl⟩
            · exact Or.inr ⟨by omega, by omega, q3, fun q => q4 ⟨by omega, q.2⟩⟩
/-- the locals of the frame hold ours -/
def LR (ad : Nat → Nat) (nL : Nat) (lsR : Array Slot) (ls : XL) : Prop := lv_has lsR nL (toL ad 0 ls) ∧ ls.length = nL
theorem LR.load {ad : Nat → Nat} {nL : Nat} {lsR : Array Slot} {ls : XL} (h : LR ad nL lsR ls) {k : Nat} {v : XV} (e : ln ls k = some (some v)) : lsR[k]? = some (.val (cv ad v)) :=
  h.1.2.2 (k, cv ad v) (mem_toL.mpr ⟨k, v, e, by rw [Nat.zero_add]⟩)
theorem LR.sub {ad : Nat → Nat} {nL : Nat} {lsR : Array Slot} {ls : XL} {lv : List (Nat × Value)} (h : lv_has lsR nL lv) (hl : ls.length = nL) (hs : ∀ q ∈ toL ad 0 ls, q ∈ lv) : LR ad nL lsR ls :=
  ⟨⟨h.1, h.2.1, fun q hq => h.2.2 q (hs q hq)⟩, hl⟩
theorem LR.ext {ad ad' : Nat → Nat} {nL n : Nat} {lsR : Array Slot} {ls : XL} (h : LR ad nL lsR ls) (c : clL n ls) (ha : ∀ a, a < n → ad' a = ad a) : LR ad' nL lsR ls := by
  refine ⟨⟨h.1.1, h.1.2.1, fun q hq => ?_⟩, h.2⟩
  obtain ⟨j, w, e, rfl⟩ := mem_toL.mp hq
  rw [cv_ext ha (c j w e)]
  exact h.1.2.2 _ (mem_toL.mpr ⟨j, w, e, rfl⟩)
theorem LR.st1 {ad : Nat → Nat} {nL : Nat} {lsR lsR' : Array Slot} {ls ls' : XL} {k : Nat} {v : XV} (h : LR ad nL lsR ls) (e : st1 ls k v = some ls') (h' : lv_has lsR' nL ((k, cv ad v) :: (toL ad 0 ls).filter (fun q => !(q.1 == k) && !(q.1 + 1 == k && q.2.category == 2)))) : LR ad nL lsR' ls' := by
  obtain ⟨e1, e2, e3⟩ := st1_spec e
  refine LR.sub h' (by rw [e1]; exact h.2) fun q hq => ?_
  obtain ⟨j, w, ew, rfl⟩ := mem_toL.mp hq
  rcases e3 j w ew with ⟨rfl, rfl⟩ | ⟨q1, q2, q3⟩
  · rw [Nat.zero_add]; exact List.mem_cons_self
  · refine List.mem_cons_of_mem _ (List.mem_filter.mpr ⟨mem_toL.mpr ⟨j, w, q2, rfl⟩, ?_⟩)
    rw [cv_cat]
    simp only [Nat.zero_add]
    have a1 : (j == k) = false := by simpa using q1
    rw [a1]
    by_cases hj : j + 1 = k
    · have : isL w = false := by
        cases hw : isL w with
        | false => rfl
        | true => exact absurd ⟨hj, hw⟩ q3
      simp [this]
    · simp [hj]
theorem LR.st2 {ad : Nat → Nat} {nL : Nat} {lsR lsR' : Array Slot} {ls ls' : XL} {k : Nat} {v : XV} (h : LR ad nL lsR ls) (e : st2 ls k v = some ls') (h' : lv_has lsR' nL ((k, cv ad v) :: (toL ad 0 ls).filter (fun q => !(q.1 == k) && (!(q.1 == k + 1) && !(q.1 + 1 == k && q.2.category == 2))))) : LR ad nL lsR' ls' := by
  obtain ⟨e1, e2, e3⟩ := st2_spec e
  refine LR.sub h' (by rw [e1]; exact h.2) fun q hq => ?_
  obtain ⟨j, w, ew, rfl⟩ := mem_toL.mp hq
  rcases e3 j w ew with ⟨rfl, rfl⟩ | ⟨q1, q0, q2, q3⟩
  · rw [Nat.zero_add]; exact List.mem_cons_self
  · refine List.mem_cons_of_mem _ (List.mem_filter.mpr ⟨mem_toL.mpr ⟨j, w, q2, rfl⟩, ?_⟩)
    rw [cv_cat]
    simp only [Nat.zero_add]
    have a1 : (j == k) = false := by simpa using q1
    have a2 : (j == k + 1) = false := by simpa using q0
    rw [a1, a2]
    by_cases hj : j + 1 = k
    · have : isL w = false := by
        cases hw : isL w with
        | false => rfl
        | true => exact absurd ⟨hj, hw⟩ q3
      simp [this]
    · simp [hj]
theorem clL_st1 {n : Nat} {ls ls' : XL} {k : Nat} {v : XV} (c : clL n ls) (cv : clV n v) (e : st1 ls k v = some ls') : clL n ls' := by
  obtain ⟨-, -, e3⟩ := st1_spec e
  intro j w hj
  rcases e3 j w hj with ⟨-, rfl⟩ | ⟨-, q2, -⟩
  · exact cv
  · exact c j w q2
theorem clL_st2 {n : Nat} {ls ls' : XL} {k : Nat} {v : XV} (c : clL n ls) (cv : clV n v) (e : st2 ls k v = some ls') : clL n ls' := by
  obtain ⟨-, -, e3⟩ := st2_spec e
  intro j w hj
  rcases e3 j w hj with ⟨-, rfl⟩ | ⟨-, -, q2, -⟩
  · exact cv
  · exact c j w q2
/-- what is fixed from the law's start on: the first address of ours, the two old cells, the script, classes, places of fields, classes of rows -/
abbrev XE : Type := Nat × Nat × Nat × Nat × (Nat → Int32) × (Nat → ClassId) × (Nat → Nat → Nat) × (Nat → ClassId)
def eB (E : XE) : Nat := E.1
def e0 (E : XE) : Nat := E.2.1
def e1 (E : XE) : Nat := E.2.2.1
def eL (E : XE) : Nat := E.2.2.2.1
def eX (E : XE) : Nat → Int32 := E.2.2.2.2.1
def eC (E : XE) : Nat → ClassId := E.2.2.2.2.2.1
def eI (E : XE) : Nat → Nat → Nat := E.2.2.2.2.2.2.1
def eA (E : XE) : Nat → ClassId := E.2.2.2.2.2.2.2
def eN (E : XE) : Nat → Prop := fun q => eB E ≤ q
def fv (ad : Nat → Nat) (h : Hp) (a j kd : Nat) : Value := match kd with
  | 3 => va_rf ((hR h a j).map ad)
  | 2 => .long (Int64.ofInt (hI h a j))
  | _ => .int (Int32.ofInt (hI h a j))
def fvl (ad : Nat → Nat) (h : Hp) (a : Nat) : Nat → List Nat → List Value
  | _, [] => []
  | j, k :: ks => fv ad h a j k :: fvl ad h a (j + 1) ks
def cE (E : XE) (ad : Nat → Nat) (h : Hp) (a : Nat) : va_E :=
  if hT h a = 100 then .inl (eA E 0, hL h a, .inl (fun j => Int32.ofInt (hI h a j)))
  else if hT h a = 101 then .inl (eA E 1, hL h a, .inl (fun j => Int32.ofInt (hI h a j)))
  else if hT h a = 102 then .inl (eA E 2, hL h a, .inr (.inl (fun j => Int64.ofInt (hI h a j))))
  else if 103 ≤ hT h a then .inl (eA E (hT h a - 100), hL h a, .inr (.inr (.inr (.inr (fun j => (hR h a j).map ad)))))
  else .inr (hT h a, fvl ad h a 0 (kdl (hT h a)))
def WL (E : XE) (ad : Nat → Nat) (h : Hp) : va_W := (List.range (hN h - 2)).map (fun i => (ad (i + 2), cE E ad h (i + 2)))
theorem WL_get {E : XE} {ad : Nat → Nat} {h : Hp} {a : Nat} (h2 : 2 ≤ a) (ha : a < hN h) : (WL E ad h)[a - 2]? = some (ad a, cE E ad h a) := by
  have : a - 2 < hN h - 2 := by omega
  simp only [WL, List.getElem?_map, List.getElem?_range this, Option.map_some]
  rw [show a - 2 + 2 = a by omega]
theorem WL_set {E : XE} {ad : Nat → Nat} {h h' : Hp} {a : Nat} (h2 : 2 ≤ a) (ha : a < hN h) (hn : hN h' = hN h) (ho : ∀ b, b ≠ a → cE E ad h' b = cE E ad h b) {e : va_E} (he : e = cE E ad h' a) : (WL E ad h).set (a - 2) (ad a, e) = WL E ad h' := by
  subst he
  apply List.ext_getElem?
  intro i
  rw [List.getElem?_set]
  simp only [WL, List.length_map, List.length_range, List.getElem?_map, hn]
  by_cases hi : a - 2 = i
  · subst hi
    have : a - 2 < hN h - 2 := by omega
    rw [if_pos rfl, if_pos this, List.getElem?_range this, Option.map_some]
    rw [show a - 2 + 2 = a by omega]
  · rw [if_neg hi]
    cases hr : (List.range (hN h - 2))[i]? with
    | none => rfl
    | some j =>
      have : j = i := by
        have := List.getElem?_eq_some_iff.mp hr
        obtain ⟨q1, q2⟩ := this
        simpa using q2.symm
      subst this
      simp only [Option.map_some]
      rw [ho (j + 2) (by omega)]
theorem WL_push {E : XE} {ad ad' : Nat → Nat} {h h' : Hp} {q : Nat} {e : va_E} (h2 : 2 ≤ hN h) (hn : hN h' = hN h + 1) (ha : ∀ a, a < hN h → ad' a = ad a) (hq : ad' (hN h) = q) (ho : ∀ b, b < hN h → cE E ad' h' b = cE E ad h b) (he : e = cE E ad' h' (hN h)) : WL E ad h ++ [(q, e)] = WL E ad' h' := by
  subst he; subst hq
  simp only [WL, hn]
  rw [show hN h + 1 - 2 = (hN h - 2) + 1 by omega, List.range_succ, List.map_append]
  congr 1
  · apply List.map_congr_left
    intro i hi
    have : i < hN h - 2 := List.mem_range.mp hi
    rw [ha (i + 2) (by omega), ho (i + 2) (by omega)]
  · simp only [List.map_cons, List.map_nil]
    rw [show hN h - 2 + 2 = hN h by omega]
theorem fvl_get {ad : Nat → Nat} {h : Hp} {a : Nat} : ∀ {ks : List Nat} {i j kd : Nat}, ks[j]? = some kd → (fvl ad h a i ks)[j]? = some (fv ad h a (i + j) kd) := by
  intro ks
  induction ks with
  | nil => intro i j kd e; simp at e
  | cons k ks ih =>
    intro i j kd e
    cases j with
    | zero => simp only [List.getElem?_cons_zero, Option.some.injEq] at e; subst e; rfl
    | succ j =>
      simp only [List.getElem?_cons_succ] at e
      simp only [fvl, List.getElem?_cons_succ]
      rw [ih e, Nat.add_assoc, Nat.add_comm 1 j]
theorem fvl_len {ad : Nat → Nat} {h : Hp} {a : Nat} : ∀ {ks : List Nat} {i : Nat}, (fvl ad h a i ks).length = ks.length := by
  intro ks
  induction ks with
  | nil => intro i; rfl
  | cons k ks ih => intro i; simp [fvl, ih]
theorem fvl_set {ad : Nat → Nat} {h h' : Hp} {a : Nat} : ∀ {ks : List Nat} {i j kd : Nat}, ks[j]? = some kd → (∀ (x k : Nat), x ≠ i + j → fv ad h' a x k = fv ad h a x k) → (fvl ad h a i ks).set j (fv ad h' a (i + j) kd) = fvl ad h' a i ks := by
  intro ks
  induction ks with
  | nil => intro i j kd e; simp at e
  | cons k ks ih =>
    intro i j kd e ho
    cases j with
    | zero =>
      simp only [List.getElem?_cons_zero, Option.some.injEq] at e
      subst e
      simp only [fvl, List.set_cons_zero, Nat.add_zero]
      congr 1
      have : ∀ (l : List Nat) (x : Nat), i < x → fvl ad h a x l = fvl ad h' a x l := by
        intro l
        induction l with
        | nil => intro x _; rfl
        | cons b l ihl =>
          intro x hx
          simp only [fvl]
          rw [ho x b (by omega), ihl (x + 1) (by omega)]
      exact this ks (i + 1) (by omega)
    | succ j =>
      simp only [List.getElem?_cons_succ] at e
      simp only [fvl, List.set_cons_succ]
      rw [ho i k (by omega)]
      congr 1
      have := ih (i := i + 1) e (fun x k hx => ho x k (by omega))
      rw [show i + 1 + j = i + (j + 1) by omega] at this
      exact this
theorem fvl_congr {ad ad' : Nat → Nat} {h h' : Hp} {a : Nat} (ho : ∀ x k, fv ad' h' a x k = fv ad h a x k) : ∀ {ks : List Nat} {i : Nat}, fvl ad' h' a i ks = fvl ad h a i ks := by
  intro ks
  induction ks with
  | nil => intro i; rfl
  | cons k ks ih => intro i; simp only [fvl]; rw [ho, ih]
theorem cE_congr {E : XE} {ad ad' : Nat → Nat} {h h' : Hp} {a : Nat} (hT' : hT h' a = hT h a) (hL' : hL h' a = hL h a) (hI' : hI h' a = hI h a) (hR' : ∀ j, (hR h' a j).map ad' = (hR h a j).map ad) : cE E ad' h' a = cE E ad h a := by
  have h1 : fvl ad' h' a 0 (kdl (hT h' a)) = fvl ad h a 0 (kdl (hT h a)) := by
    rw [hT']
    apply fvl_congr
    intro x k
    unfold fv
    rw [hI', hR']
  unfold cE
  rw [h1, hT', hL', hI', funext hR']
end
section
/-! ===== one instruction of ours is one of the machine's: stack, locals, jumps ===== -/
theorem dec_of {y pc nx k : Nat} {i : Instr} (h : cod y pc = some (i, nx)) (hl : lenI i = some k) : decode (bts y) pc = .ok (i, k) ∧ nx = pc + k := by
  obtain ⟨n, h1, h2, h3⟩ := cod_of h
  unfold lenOk at h3
  rw [hl] at h3
  have : k = n := by simpa using h3
  subst this
  exact ⟨h1, h2⟩
theorem r32_iff {x : Int} : r32 x = true ↔ -2147483648 ≤ x ∧ x < 2147483648 := by simp [r32]
theorem r32_toInt {x : Int} (h : r32 x = true) : (Int32.ofInt x).toInt = x := by
  obtain ⟨h1, h2⟩ := r32_iff.mp h
  exact Int32.toInt_ofInt_of_le (by omega) (by omega)
theorem r32_eq {x y : Int} (hx : r32 x = true) (hy : r32 y = true) : Int32.ofInt x = Int32.ofInt y ↔ x = y := by
  constructor
  · intro h
    have := congrArg Int32.toInt h
    rwa [r32_toInt hx, r32_toInt hy] at this
  · intro h; rw [h]
theorem r32_lt {x y : Int} (hx : r32 x = true) (hy : r32 y = true) : Int32.ofInt x < Int32.ofInt y ↔ x < y := by
  rw [Int32.lt_iff_toInt_lt, r32_toInt hx, r32_toInt hy]
theorem r32_le {x y : Int} (hx : r32 x = true) (hy : r32 y = true) : Int32.ofInt x ≤ Int32.ofInt y ↔ x ≤ y := by
  rw [Int32.le_iff_toInt_le, r32_toInt hx, r32_toInt hy]
theorem r32_0 : r32 0 = true := by decide
theorem of0 : Int32.ofInt 0 = 0 := by decide
theorem div_conv {x y : Int} (hx : r32 x = true) (hy : r32 y = true) : Int32.ofInt (x.tdiv y) = Int32.ofInt x / Int32.ofInt y := by
  obtain ⟨h1, h2⟩ := r32_iff.mp hx
  obtain ⟨h3, h4⟩ := r32_iff.mp hy
  apply Int32.ofInt_tdiv
  · show (-2147483648 : Int) ≤ x; omega
  · show x ≤ (2147483647 : Int); omega
  · show (-2147483648 : Int) ≤ y; omega
  · show y ≤ (2147483647 : Int); omega
theorem rem_conv {x y : Int} (hx : r32 x = true) (hy : r32 y = true) : Int32.ofInt (x.tmod y) = Int32.ofInt x - Int32.ofInt x / Int32.ofInt y * Int32.ofInt y := by
  rw [← div_conv hx hy, ← Int32.ofInt_mul, ← Int32.ofInt_sub]
  congr 1
  have := Int.tmod_add_mul_tdiv x y
  rw [Int.mul_comm] at this
  omega
theorem nz_conv {y : Int} (hy : r32 y = true) (h : y ≠ 0) : ¬ Int32.ofInt y = 0 := by
  intro q
  rw [← of0] at q
  exact h ((r32_eq hy r32_0).mp q)
theorem tgt_of {pc : Nat} {off : Int} {t : Nat} (h : tgt pc off = some t) : (pc : Int) + off = (t : Int) := by
  unfold tgt at h
  split at h
  · cases h; omega
  · cases h
theorem lkp_in {α : Type} {l : List (Nat × Nat × α)} {c k : Nat} {v : α} (h : lkp l c k = some v) : (c, k, v) ∈ l := lkp_mem h
theorem cstL_w {c k : Nat} {z : Int} (h : lkp cstL c k = some z) : Cond.constant (cnm c) k (Int32.ofInt z) ∈ LWG := by
  have h1 := lkp_mem h
  rw [cstL_X] at h1
  obtain ⟨e, he, hq⟩ := List.mem_map.mp h1
  have h2 := List.all_eq_true.mp ciX_ok e he
  simp only [Prod.mk.injEq] at hq
  obtain ⟨rfl, rfl, rfl⟩ := hq
  exact atI_mem h2
theorem cstJ_w {c k : Nat} {z : Int} (h : lkp cstJ c k = some z) : Cond.constantLong (cnm c) k (Int64.ofInt z) ∈ LWG := by
  have h1 := lkp_mem h
  rw [cstJ_X] at h1
  obtain ⟨e, he, hq⟩ := List.mem_map.mp h1
  have h2 := List.all_eq_true.mp cjX_ok e he
  simp only [Prod.mk.injEq] at hq
  obtain ⟨rfl, rfl, rfl⟩ := hq
  exact atI_mem h2
section SOP
variable {p : Program} {l : Launch} {e : Env} {R : Room} {s : State} {m : MethodId} {args : Array Value} {below : List Frame} {meth : Method} {c : Code} {H : Heap} {locs : List Loc} {cells slots : Nat} {Q : State → Prop} {y pc nx : Nat} {lsR : Array Slot} {ad : Nat → Nat}
set_option maxHeartbeats 4000000 in
theorem sim_sop (hx : p.tables.exec = Jvm.exec) (hb : c.code = bts y) (hown : s.vm.findClass (cnm (cls y)) = some m.cls) (hts : ∀ w ∈ LWG, w.before args s = true) {i : Instr} (hd : cod y pc = some (i, nx)) {st st' : List XV} (hs : sop (cls y) i st = some st')
    (kk : W p l e R s m args below meth c H locs cells slots Q (F0 m nx lsR (st'.map (cv ad)))) : W p l e R s m args below meth c H locs cells slots Q (F0 m pc lsR (st.map (cv ad))) := by
  cases i with
  | iconst n =>
    obtain ⟨d1, rfl⟩ := dec_of hd rfl
    cases hs
    exact lv_iconst hx hb d1 rfl kk
  | bipush n =>
    obtain ⟨d1, rfl⟩ := dec_of hd rfl
    simp only [sop] at hs
    split at hs
    · rename_i q
      cases hs
      refine lv_bipush hx hb d1 (v := Int32.ofInt n) ?_ kk
      apply Int32.toInt_inj.mp
      rw [Int8.toInt_toInt32, Int8.toInt_ofInt_of_le (by omega) (by omega), Int32.toInt_ofInt_of_le (by omega) (by omega)]
    · cases hs
  | sipush n =>
    obtain ⟨d1, rfl⟩ := dec_of hd rfl
    simp only [sop] at hs
    split at hs
    · rename_i q
      cases hs
      refine lv_sipush hx hb d1 (v := Int32.ofInt n) ?_ kk
      apply Int32.toInt_inj.mp
      rw [Int16.toInt_toInt32, Int16.toInt_ofInt_of_le (by omega) (by omega), Int32.toInt_ofInt_of_le (by omega) (by omega)]
    · cases hs
  | lconst n =>
    obtain ⟨d1, rfl⟩ := dec_of hd rfl
    cases hs
    refine lv_lconst hx hb d1 (v := Int64.ofInt (n : Nat)) ?_ kk
    rfl
  | aconst_null =>
    obtain ⟨d1, rfl⟩ := dec_of hd rfl
    cases hs
    exact lv_null hx hb d1 kk
  | ldc k =>
    obtain ⟨d1, rfl⟩ := dec_of hd rfl
    simp only [sop] at hs
    split at hs
    · rename_i z q
      cases hs
      exact lv_ldc hx hb hown (hts _ (cstL_w q)) d1 kk
    · cases hs
  | ldc_w k =>
    obtain ⟨d1, rfl⟩ := dec_of hd rfl
    simp only [sop] at hs
    split at hs
    · rename_i z q
      cases hs
      exact lv_ldcw hx hb hown (hts _ (cstL_w q)) d1 kk
    · cases hs
  | ldc2_w k =>
    obtain ⟨d1, rfl⟩ := dec_of hd rfl
    simp only [sop] at hs
    split at hs
    · rename_i z q
      cases hs
      exact lv_ldc2 hx hb hown (hts _ (cstJ_w q)) d1 kk
    · cases hs
  | iadd =>
    obtain ⟨d1, rfl⟩ := dec_of hd rfl
    simp only [sop] at hs
    split at hs
    · rename_i y2 x2 r2
      cases hs
      refine lv_iadd hx hb d1 ?_
      have kk := kk
      simp only [List.map_cons, cv, Int32.ofInt_add] at kk
      exact kk
    · cases hs
  | isub =>
    obtain ⟨d1, rfl⟩ := dec_of hd rfl
    simp only [sop] at hs
    split at hs
    · rename_i y2 x2 r2
      cases hs
      refine lv_isub hx hb d1 ?_
      have kk := kk
      simp only [List.map_cons, cv, Int32.ofInt_sub] at kk
      exact kk
    · cases hs
  | imul =>
    obtain ⟨d1, rfl⟩ := dec_of hd rfl
    simp only [sop] at hs
    split at hs
    · rename_i y2 x2 r2
      cases hs
      refine lv_imul hx hb d1 ?_
      have kk := kk
      simp only [List.map_cons, cv, Int32.ofInt_mul] at kk
      exact kk
    · cases hs
  | ineg =>
    obtain ⟨d1, rfl⟩ := dec_of hd rfl
    simp only [sop] at hs
    split at hs
    · cases hs
      refine lv_ineg hx hb d1 ?_
      have kk := kk
      simp only [List.map_cons, cv, Int32.ofInt_neg] at kk
      exact kk
    · cases hs
  | idiv =>
    obtain ⟨d1, rfl⟩ := dec_of hd rfl
    simp only [sop] at hs
    split at hs
    · split at hs
      · rename_i q
        simp only [Bool.and_eq_true, decide_eq_true_eq] at q
        cases hs
        refine lv_idiv hx hb d1 (nz_conv q.1.2 q.2) ?_
        have kk := kk
        simp only [List.map_cons, cv, div_conv q.1.1 q.1.2] at kk
        exact kk
      · cases hs
    · cases hs
  | irem =>
    obtain ⟨d1, rfl⟩ := dec_of hd rfl
    simp only [sop] at hs
    split at hs
    · split at hs
      · rename_i q
        simp only [Bool.and_eq_true, decide_eq_true_eq] at q
        cases hs
        refine lv_irem hx hb d1 (nz_conv q.1.2 q.2) ?_
        have kk := kk
        simp only [List.map_cons, cv, rem_conv q.1.1 q.1.2] at kk
        exact kk
      · cases hs
    · cases hs
  | iand =>
    obtain ⟨d1, rfl⟩ := dec_of hd rfl
    simp only [sop] at hs
    split at hs
    · rename_i y2 x2 r2
      cases hs
      refine lv_iand hx hb d1 ?_
      have kk := kk
      simp only [List.map_cons, cv, o32, Int32.ofInt_toInt] at kk
      exact kk
    · cases hs
  | ior =>
    obtain ⟨d1, rfl⟩ := dec_of hd rfl
    simp only [sop] at hs
    split at hs
    · rename_i y2 x2 r2
      cases hs
      refine lv_ior hx hb d1 ?_
      have kk := kk
      simp only [List.map_cons, cv, o32, Int32.ofInt_toInt] at kk
      exact kk
    · cases hs
  | ixor =>
    obtain ⟨d1, rfl⟩ := dec_of hd rfl
    simp only [sop] at hs
    split at hs
    · rename_i y2 x2 r2
      cases hs
      refine lv_ixor hx hb d1 ?_
      have kk := kk
      simp only [List.map_cons, cv, o32, Int32.ofInt_toInt] at kk
      exact kk
    · cases hs
  | ishl =>
    obtain ⟨d1, rfl⟩ := dec_of hd rfl
    simp only [sop] at hs
    split at hs
    · rename_i y2 x2 r2
      cases hs
      refine lv_ishl hx hb d1 ?_
      have kk := kk
      simp only [List.map_cons, cv, o32, Int32.ofInt_toInt] at kk
      exact kk
    · cases hs
  | ishr =>
    obtain ⟨d1, rfl⟩ := dec_of hd rfl
    simp only [sop] at hs
    split at hs
    · rename_i y2 x2 r2
      cases hs
      refine lv_ishr hx hb d1 ?_
      have kk := kk
      simp only [List.map_cons, cv, o32, Int32.ofInt_toInt] at kk
      exact kk
    · cases hs
  | iushr =>
    obtain ⟨d1, rfl⟩ := dec_of hd rfl
    simp only [sop] at hs
    split at hs
    · rename_i y2 x2 r2
      cases hs
      refine lv_iushr hx hb d1 rfl ?_
      have kk := kk
      simp only [List.map_cons, cv, o32, Int32.ofInt_toInt] at kk
      exact kk
    · cases hs
  | ladd =>
    obtain ⟨d1, rfl⟩ := dec_of hd rfl
    simp only [sop] at hs
    split at hs
    · rename_i y2 x2 r2
      cases hs
      refine lv_ladd hx hb d1 ?_
      have kk := kk
      simp only [List.map_cons, cv, Int64.ofInt_add] at kk
      exact kk
    · cases hs
  | lsub =>
    obtain ⟨d1, rfl⟩ := dec_of hd rfl
    simp only [sop] at hs
    split at hs
    · rename_i y2 x2 r2
      cases hs
      refine lv_lsub hx hb d1 ?_
      have kk := kk
      simp only [List.map_cons, cv, Int64.ofInt_sub] at kk
      exact kk
    · cases hs
  | lmul =>
    obtain ⟨d1, rfl⟩ := dec_of hd rfl
    simp only [sop] at hs
    split at hs
    · rename_i y2 x2 r2
      cases hs
      refine lv_lmul hx hb d1 ?_
      have kk := kk
      simp only [List.map_cons, cv, Int64.ofInt_mul] at kk
      exact kk
    · cases hs
  | land =>
    obtain ⟨d1, rfl⟩ := dec_of hd rfl
    simp only [sop] at hs
    split at hs
    · rename_i y2 x2 r2
      cases hs
      refine lv_land hx hb d1 ?_
      have kk := kk
      simp only [List.map_cons, cv, o64, Int64.ofInt_toInt] at kk
      exact kk
    · cases hs
  | lor =>
    obtain ⟨d1, rfl⟩ := dec_of hd rfl
    simp only [sop] at hs
    split at hs
    · rename_i y2 x2 r2
      cases hs
      refine lv_lor hx hb d1 ?_
      have kk := kk
      simp only [List.map_cons, cv, o64, Int64.ofInt_toInt] at kk
      exact kk
    · cases hs
  | lshl =>
    obtain ⟨d1, rfl⟩ := dec_of hd rfl
    simp only [sop] at hs
    split at hs
    · rename_i y2 x2 r2
      cases hs
      refine lv_lshl hx hb d1 rfl ?_
      have kk := kk
      simp only [List.map_cons, cv, lshlZ, Int64.ofInt_toInt] at kk
      exact kk
    · cases hs
  | lshr =>
    obtain ⟨d1, rfl⟩ := dec_of hd rfl
    simp only [sop] at hs
    split at hs
    · rename_i y2 x2 r2
      cases hs
      refine lv_lshr hx hb d1 rfl ?_
      have kk := kk
      simp only [List.map_cons, cv, lshrZ, Int64.ofInt_toInt] at kk
      exact kk
    · cases hs
  | lushr =>
    obtain ⟨d1, rfl⟩ := dec_of hd rfl
    simp only [sop] at hs
    split at hs
    · rename_i y2 x2 r2
      cases hs
      refine lv_lushr hx hb d1 rfl ?_
      have kk := kk
      simp only [List.map_cons, cv, lushZ, Int64.ofInt_toInt] at kk
      exact kk
    · cases hs
  | lcmp =>
    obtain ⟨d1, rfl⟩ := dec_of hd rfl
    simp only [sop] at hs
    split at hs
    · rename_i y2 x2 r2
      cases hs
      refine W.lcmp hx hb (x := Int64.ofInt x2) (y := Int64.ofInt y2) d1 ?_
      have kk := kk
      simp only [List.map_cons, cv] at kk
      have e : lg_cmp (Int64.ofInt x2) (Int64.ofInt y2) = Int32.ofInt (cmpZ x2 y2) := by
        unfold lg_cmp cmpZ w64
        by_cases q1 : (Int64.ofInt y2).toInt < (Int64.ofInt x2).toInt
        · rw [if_pos (Int64.lt_iff_toInt_lt.mpr q1), if_pos q1]; rfl
        · rw [if_neg (fun q => q1 (Int64.lt_iff_toInt_lt.mp q)), if_neg q1]
          by_cases q2 : (Int64.ofInt x2).toInt = (Int64.ofInt y2).toInt
          · rw [if_pos (Int64.toInt_inj.mp q2), if_pos q2]; rfl
          · rw [if_neg (fun q => q2 (congrArg Int64.toInt q)), if_neg q2]; rfl
      first | (rw [e]; exact kk) | (show W p l e R s m args below meth c H locs cells slots Q (F0 m (pc + 1) lsR (.int (lg_cmp (Int64.ofInt x2) (Int64.ofInt y2)) :: _)); rw [e]; exact kk)
    · cases hs
  | i2l =>
    obtain ⟨d1, rfl⟩ := dec_of hd rfl
    simp only [sop] at hs
    split at hs
    · rename_i x2 r2
      cases hs
      refine lv_i2l hx hb d1 (v := Int64.ofInt (w32 x2)) ?_ kk
      exact (Int64.ofInt_int32ToInt _).symm
    · cases hs
  | l2i =>
    obtain ⟨d1, rfl⟩ := dec_of hd rfl
    simp only [sop] at hs
    split at hs
    · rename_i x2 r2
      cases hs
      exact lv_l2i hx hb d1 (by simp) kk
    · cases hs
  | dup =>
    obtain ⟨d1, rfl⟩ := dec_of hd rfl
    simp only [sop] at hs
    split at hs
    · rename_i a2 r2
      split at hs
      · cases hs
      · rename_i q; cases hs
        exact lv_dup hx hb d1 (by rw [cv_cat, if_neg q]) kk
    · cases hs
  | dup_x1 =>
    obtain ⟨d1, rfl⟩ := dec_of hd rfl
    simp only [sop] at hs
    split at hs
    · rename_i a2 b2 r2
      split at hs
      · cases hs
      · rename_i q; cases hs
        simp only [Bool.or_eq_true, not_or] at q
        exact lv_dup_x1 hx hb d1 (by rw [cv_cat, if_neg q.1]) (by rw [cv_cat, if_neg q.2]) kk
    · cases hs
  | dup2 =>
    obtain ⟨d1, rfl⟩ := dec_of hd rfl
    simp only [sop] at hs
    split at hs
    · rename_i a2 b2 r2
      split at hs
      · cases hs
      · rename_i q; cases hs
        simp only [Bool.or_eq_true, not_or] at q
        exact lv_dup2_11 hx hb d1 (by rw [cv_cat, if_neg q.1]) (by rw [cv_cat, if_neg q.2]) kk
    · cases hs
  | pop =>
    obtain ⟨d1, rfl⟩ := dec_of hd rfl
    simp only [sop] at hs
    split at hs
    · rename_i a2 r2
      split at hs
      · cases hs
      · rename_i q; cases hs
        exact lv_pop hx hb d1 (by rw [cv_cat, if_neg q]) kk
    · cases hs
  | _ => cases hs
theorem rf_cv {x : Option Nat} : cv ad (.inr (.inr x)) = va_rf (x.map ad) := rfl
set_option maxHeartbeats 4000000 in
theorem sim_lop (hx : p.tables.exec = Jvm.exec) (hb : c.code = bts y) {i : Instr} (hd : cod y pc = some (i, nx)) {nL : Nat} {ls ls' : XL} {st st' : List XV} (hl : LR ad nL lsR ls) (hs : lop i ls st = some (ls', st'))
    (kk : ∀ lsR' : Array Slot, LR ad nL lsR' ls' → W p l e R s m args below meth c H locs cells slots Q (F0 m nx lsR' (st'.map (cv ad)))) : W p l e R s m args below meth c H locs cells slots Q (F0 m pc lsR (st.map (cv ad))) := by
  cases i with
  | iload k =>
    obtain ⟨d1, rfl⟩ := dec_of hd rfl
    simp only [lop] at hs
    split at hs
    · rename_i x2 q
      cases hs
      exact lv_iload hx hb d1 (hl.load q) (kk _ hl)
    · cases hs
  | iload_n k =>
    obtain ⟨d1, rfl⟩ := dec_of hd rfl
    simp only [lop] at hs
    split at hs
    · rename_i x2 q
      cases hs
      exact lv_iload_n hx hb d1 rfl (hl.load q) (kk _ hl)
    · cases hs
  | lload k =>
    obtain ⟨d1, rfl⟩ := dec_of hd rfl
    simp only [lop] at hs
    split at hs
    · rename_i x2 q
      cases hs
      exact lv_lload hx hb d1 (hl.load q) (kk _ hl)
    · cases hs
  | lload_n k =>
    obtain ⟨d1, rfl⟩ := dec_of hd rfl
    simp only [lop] at hs
    split at hs
    · rename_i x2 q
      cases hs
      exact lv_lload_n hx hb d1 rfl (hl.load q) (kk _ hl)
    · cases hs
  | aload k =>
    obtain ⟨d1, rfl⟩ := dec_of hd rfl
    simp only [lop] at hs
    split at hs
    · rename_i x2 q
      cases hs
      have ql := hl.load q
      cases x2 with
      | none => exact lv_aloadN hx hb d1 ql (kk _ hl)
      | some x3 => exact lv_aload hx hb d1 ql (kk _ hl)
    · cases hs
  | aload_n k =>
    obtain ⟨d1, rfl⟩ := dec_of hd rfl
    simp only [lop] at hs
    split at hs
    · rename_i x2 q
      cases hs
      have ql := hl.load q
      cases x2 with
      | none => exact lv_aload_nN hx hb d1 rfl ql (kk _ hl)
      | some x3 => exact lv_aload_n hx hb d1 rfl ql (kk _ hl)
    · cases hs
  | istore k =>
    obtain ⟨d1, rfl⟩ := dec_of hd rfl
    simp only [lop] at hs
    split at hs
    · rename_i x2 r2
      cases hm : st1 ls k _ with
      | none => rw [hm] at hs; cases hs
      | some l2 =>
        rw [hm] at hs
        simp only [Option.map_some, Option.some.injEq, Prod.mk.injEq] at hs
        obtain ⟨rfl, rfl⟩ := hs
        have hk := (st1_spec hm).2.1
        rw [hl.2] at hk
        exact lv_istore hx hb d1 hl.1 hk rfl (fun lsR' h' => kk lsR' (hl.st1 hm h'))
    · cases hs
  | istore_n k =>
    obtain ⟨d1, rfl⟩ := dec_of hd rfl
    simp only [lop] at hs
    split at hs
    · rename_i x2 r2
      cases hm : st1 ls k _ with
      | none => rw [hm] at hs; cases hs
      | some l2 =>
        rw [hm] at hs
        simp only [Option.map_some, Option.some.injEq, Prod.mk.injEq] at hs
        obtain ⟨rfl, rfl⟩ := hs
        have hk := (st1_spec hm).2.1
        rw [hl.2] at hk
        exact lv_istore_n hx hb d1 rfl hl.1 hk rfl (fun lsR' h' => kk lsR' (hl.st1 hm h'))
    · cases hs
  | lstore k =>
    obtain ⟨d1, rfl⟩ := dec_of hd rfl
    simp only [lop] at hs
    split at hs
    · rename_i x2 r2
      cases hm : st2 ls k _ with
      | none => rw [hm] at hs; cases hs
      | some l2 =>
        rw [hm] at hs
        simp only [Option.map_some, Option.some.injEq, Prod.mk.injEq] at hs
        obtain ⟨rfl, rfl⟩ := hs
        have hk := (st2_spec hm).2.1
        rw [hl.2] at hk
        exact lv_lstore hx hb d1 hl.1 hk rfl (fun lsR' h' => kk lsR' (hl.st2 hm h'))
    · cases hs
  | lstore_n k =>
    obtain ⟨d1, rfl⟩ := dec_of hd rfl
    simp only [lop] at hs
    split at hs
    · rename_i x2 r2
      cases hm : st2 ls k _ with
      | none => rw [hm] at hs; cases hs
      | some l2 =>
        rw [hm] at hs
        simp only [Option.map_some, Option.some.injEq, Prod.mk.injEq] at hs
        obtain ⟨rfl, rfl⟩ := hs
        have hk := (st2_spec hm).2.1
        rw [hl.2] at hk
        exact lv_lstore_n hx hb d1 rfl hl.1 hk rfl (fun lsR' h' => kk lsR' (hl.st2 hm h'))
    · cases hs
  | astore k =>
    obtain ⟨d1, rfl⟩ := dec_of hd rfl
    simp only [lop] at hs
    split at hs
    · rename_i x2 r2
      cases hm : st1 ls k _ with
      | none => rw [hm] at hs; cases hs
      | some l2 =>
        rw [hm] at hs
        simp only [Option.map_some, Option.some.injEq, Prod.mk.injEq] at hs
        obtain ⟨rfl, rfl⟩ := hs
        have hk := (st1_spec hm).2.1
        rw [hl.2] at hk
        cases x2 with
        | none => exact lv_astoreN hx hb d1 hl.1 hk rfl (fun lsR' h' => kk lsR' (hl.st1 hm h'))
        | some x3 => exact lv_astore hx hb d1 hl.1 hk rfl (fun lsR' h' => kk lsR' (hl.st1 hm h'))
    · cases hs
  | astore_n k =>
    obtain ⟨d1, rfl⟩ := dec_of hd rfl
    simp only [lop] at hs
    split at hs
    · rename_i x2 r2
      cases hm : st1 ls k _ with
      | none => rw [hm] at hs; cases hs
      | some l2 =>
        rw [hm] at hs
        simp only [Option.map_some, Option.some.injEq, Prod.mk.injEq] at hs
        obtain ⟨rfl, rfl⟩ := hs
        have hk := (st1_spec hm).2.1
        rw [hl.2] at hk
        cases x2 with
        | none => exact lv_astore_nN hx hb d1 rfl hl.1 hk rfl (fun lsR' h' => kk lsR' (hl.st1 hm h'))
        | some x3 => exact lv_astore_n hx hb d1 rfl hl.1 hk rfl (fun lsR' h' => kk lsR' (hl.st1 hm h'))
    · cases hs
  | iinc k n =>
    obtain ⟨d1, rfl⟩ := dec_of hd rfl
    simp only [lop] at hs
    split at hs
    · rename_i x2 q
      cases hm : st1 ls k (vI (x2 + n)) with
      | none => rw [hm] at hs; cases hs
      | some l2 =>
        rw [hm] at hs
        simp only [Option.map_some, Option.some.injEq, Prod.mk.injEq] at hs
        obtain ⟨rfl, rfl⟩ := hs
        have hk := (st1_spec hm).2.1
        rw [hl.2] at hk
        obtain ⟨k9, hk9⟩ := List.getElem?_of_mem (mem_toL (ad := ad) (i := 0).mpr ⟨k, _, q, rfl⟩)
        rw [Nat.zero_add] at hk9
        exact lv_iinc hx hb d1 hl.1 (k := k9) hk9 (v := Int32.ofInt (x2 + n)) (Int32.ofInt_add x2 n).symm hk rfl (fun lsR' h' => kk lsR' (hl.st1 hm h'))
    · cases hs
  | _ => cases hs
set_option maxHeartbeats 4000000 in
theorem sim_jop (hx : p.tables.exec = Jvm.exec) (hb : c.code = bts y) {n : Nat} (hinj : ∀ a b : Nat, a < n → b < n → ad a = ad b → a = b) {i : Instr} (hd : cod y pc = some (i, nx)) {t : Nat} {st st' : List XV} (hc : clS n st) (hs : jop pc nx i st = some (t, st'))
    (kk : W p l e R s m args below meth c H locs cells slots Q (F0 m t lsR (st'.map (cv ad)))) : W p l e R s m args below meth c H locs cells slots Q (F0 m pc lsR (st.map (cv ad))) := by
  cases i with
  | goto o =>
    obtain ⟨d1, rfl⟩ := dec_of hd rfl
    simp only [jop] at hs
    split at hs
    · rename_i t2 q
      cases hs
      exact lv_goto hx hb d1 (tgt_of q) kk
    · cases hs
  | ifCond c2 o =>
    obtain ⟨d1, rfl⟩ := dec_of hd rfl
    simp only [jop] at hs
    split at hs
    · rename_i x2 r2 t2 q
      have tq := tgt_of q
      split at hs
      · rename_i hr
        have h0 := r32_eq hr r32_0
        have h1 := r32_lt hr r32_0
        have h2 := r32_lt r32_0 hr
        have h3 := r32_le hr r32_0
        have h4 := r32_le r32_0 hr
        rw [of0] at h0 h1 h2 h3 h4
        simp only [Option.some.injEq, Prod.mk.injEq] at hs
        obtain ⟨ht, rfl⟩ := hs
        cases c2 with
        | eq =>
          simp only [cnd, decide_eq_true_eq] at ht
          refine lv_if_eq hx hb d1 tq (fun q9 => ?_) (fun q9 => ?_)
          · rw [if_pos (by first | exact h0.mp q9 | exact fun w => q9 (h0.mpr w))] at ht
            subst ht; exact kk
          · rw [if_neg (by first | exact fun w => q9 (h0.mpr w) | exact fun w => w (h0.mp q9) | exact fun w => q9 (fun z => w (h0.mp z)) | exact fun w => w (h0.mp (Decidable.not_not.mp q9)))] at ht
            subst ht; exact kk
        | ne =>
          simp only [cnd, decide_eq_true_eq] at ht
          refine lv_if_ne hx hb d1 tq (fun q9 => ?_) (fun q9 => ?_)
          · rw [if_pos (by first | exact h0.mp q9 | exact fun w => q9 (h0.mpr w))] at ht
            subst ht; exact kk
          · rw [if_neg (by first | exact fun w => q9 (h0.mpr w) | exact fun w => w (h0.mp q9) | exact fun w => q9 (fun z => w (h0.mp z)) | exact fun w => w (h0.mp (Decidable.not_not.mp q9)))] at ht
            subst ht; exact kk
        | lt =>
          simp only [cnd, decide_eq_true_eq] at ht
          refine lv_if_lt hx hb d1 tq (fun q9 => ?_) (fun q9 => ?_)
          · rw [if_pos (by first | exact h1.mp q9 | exact fun w => q9 (h1.mpr w))] at ht
            subst ht; exact kk
          · rw [if_neg (by first | exact fun w => q9 (h1.mpr w) | exact fun w => w (h1.mp q9) | exact fun w => q9 (fun z => w (h1.mp z)) | exact fun w => w (h1.mp (Decidable.not_not.mp q9)))] at ht
            subst ht; exact kk
        | ge =>
          simp only [cnd, decide_eq_true_eq] at ht
          refine lv_if_ge hx hb d1 tq (fun q9 => ?_) (fun q9 => ?_)
          · rw [if_pos (by first | exact h4.mp q9 | exact fun w => q9 (h4.mpr w))] at ht
            subst ht; exact kk
          · rw [if_neg (by first | exact fun w => q9 (h4.mpr w) | exact fun w => w (h4.mp q9) | exact fun w => q9 (fun z => w (h4.mp z)) | exact fun w => w (h4.mp (Decidable.not_not.mp q9)))] at ht
            subst ht; exact kk
        | gt =>
          simp only [cnd, decide_eq_true_eq] at ht
          refine lv_if_gt hx hb d1 tq (fun q9 => ?_) (fun q9 => ?_)
          · rw [if_pos (by first | exact h2.mp q9 | exact fun w => q9 (h2.mpr w))] at ht
            subst ht; exact kk
          · rw [if_neg (by first | exact fun w => q9 (h2.mpr w) | exact fun w => w (h2.mp q9) | exact fun w => q9 (fun z => w (h2.mp z)) | exact fun w => w (h2.mp (Decidable.not_not.mp q9)))] at ht
            subst ht; exact kk
        | le =>
          simp only [cnd, decide_eq_true_eq] at ht
          refine lv_if_le hx hb d1 tq (fun q9 => ?_) (fun q9 => ?_)
          · rw [if_pos (by first | exact h3.mp q9 | exact fun w => q9 (h3.mpr w))] at ht
            subst ht; exact kk
          · rw [if_neg (by first | exact fun w => q9 (h3.mpr w) | exact fun w => w (h3.mp q9) | exact fun w => q9 (fun z => w (h3.mp z)) | exact fun w => w (h3.mp (Decidable.not_not.mp q9)))] at ht
            subst ht; exact kk
      · cases hs
    · cases hs
  | if_icmp c2 o =>
    obtain ⟨d1, rfl⟩ := dec_of hd rfl
    simp only [jop] at hs
    split at hs
    · rename_i y2 x2 r2 t2 q
      have tq := tgt_of q
      split at hs
      · rename_i hr
        simp only [Bool.and_eq_true] at hr
        have h0 := r32_eq hr.1 hr.2
        have h1 := r32_lt hr.1 hr.2
        have h2 := r32_lt hr.2 hr.1
        have h3 := r32_le hr.1 hr.2
        have h4 := r32_le hr.2 hr.1
        simp only [Option.some.injEq, Prod.mk.injEq] at hs
        obtain ⟨ht, rfl⟩ := hs
        cases c2 with
        | eq =>
          simp only [cnd, decide_eq_true_eq] at ht
          refine lv_icmp_eq hx hb d1 tq (fun q9 => ?_) (fun q9 => ?_)
          · rw [if_pos (by first | exact h0.mp q9 | exact fun w => q9 (h0.mpr w))] at ht
            subst ht; exact kk
          · rw [if_neg (by first | exact fun w => q9 (h0.mpr w) | exact fun w => w (h0.mp q9) | exact fun w => q9 (fun z => w (h0.mp z)) | exact fun w => w (h0.mp (Decidable.not_not.mp q9)))] at ht
            subst ht; exact kk
        | ne =>
          simp only [cnd, decide_eq_true_eq] at ht
          refine lv_icmp_ne hx hb d1 tq (fun q9 => ?_) (fun q9 => ?_)
          · rw [if_pos (by first | exact h0.mp q9 | exact fun w => q9 (h0.mpr w))] at ht
            subst ht; exact kk
          · rw [if_neg (by first | exact fun w => q9 (h0.mpr w) | exact fun w => w (h0.mp q9) | exact fun w => q9 (fun z => w (h0.mp z)) | exact fun w => w (h0.mp (Decidable.not_not.mp q9)))] at ht
            subst ht; exact kk
        | lt =>
          simp only [cnd, decide_eq_true_eq] at ht
          refine lv_icmp_lt hx hb d1 tq (fun q9 => ?_) (fun q9 => ?_)
          · rw [if_pos (by first | exact h1.mp q9 | exact fun w => q9 (h1.mpr w))] at ht
            subst ht; exact kk
          · rw [if_neg (by first | exact fun w => q9 (h1.mpr w) | exact fun w => w (h1.mp q9) | exact fun w => q9 (fun z => w (h1.mp z)) | exact fun w => w (h1.mp (Decidable.not_not.mp q9)))] at ht
            subst ht; exact kk
        | ge =>
          simp only [cnd, decide_eq_true_eq] at ht
          refine lv_icmp_ge hx hb d1 tq (fun q9 => ?_) (fun q9 => ?_)
          · rw [if_pos (by first | exact h4.mp q9 | exact fun w => q9 (h4.mpr w))] at ht
            subst ht; exact kk
          · rw [if_neg (by first | exact fun w => q9 (h4.mpr w) | exact fun w => w (h4.mp q9) | exact fun w => q9 (fun z => w (h4.mp z)) | exact fun w => w (h4.mp (Decidable.not_not.mp q9)))] at ht
            subst ht; exact kk
        | gt =>
          simp only [cnd, decide_eq_true_eq] at ht
          refine lv_icmp_gt hx hb d1 tq (fun q9 => ?_) (fun q9 => ?_)
          · rw [if_pos (by first | exact h2.mp q9 | exact fun w => q9 (h2.mpr w))] at ht
            subst ht; exact kk
          · rw [if_neg (by first | exact fun w => q9 (h2.mpr w) | exact fun w => w (h2.mp q9) | exact fun w => q9 (fun z => w (h2.mp z)) | exact fun w => w (h2.mp (Decidable.not_not.mp q9)))] at ht
            subst ht; exact kk
        | le =>
          simp only [cnd, decide_eq_true_eq] at ht
          refine lv_icmp_le hx hb d1 tq (fun q9 => ?_) (fun q9 => ?_)
          · rw [if_pos (by first | exact h3.mp q9 | exact fun w => q9 (h3.mpr w))] at ht
            subst ht; exact kk
          · rw [if_neg (by first | exact fun w => q9 (h3.mpr w) | exact fun w => w (h3.mp q9) | exact fun w => q9 (fun z => w (h3.mp z)) | exact fun w => w (h3.mp (Decidable.not_not.mp q9)))] at ht
            subst ht; exact kk
      · cases hs
    · cases hs
  | if_acmp c2 o =>
    obtain ⟨d1, rfl⟩ := dec_of hd rfl
    simp only [jop] at hs
    split at hs
    · rename_i y2 x2 r2 t2 q
      have tq := tgt_of q
      have hcy : clV n (vR y2) := (clS_cons.mp hc).1
      have hcx : clV n (vR x2) := (clS_cons.mp (clS_cons.mp hc).2).1
      have hqq : x2.map ad = y2.map ad ↔ x2 = y2 := by
        constructor
        · intro w
          cases x2 with
          | none => cases y2 with
            | none => rfl
            | some b => cases w
          | some a => cases y2 with
            | none => cases w
            | some b =>
              simp only [Option.map_some, Option.some.injEq] at w
              rw [hinj a b hcx hcy w]
        · intro w; rw [w]
      simp only [Option.some.injEq, Prod.mk.injEq] at hs
      obtain ⟨ht, rfl⟩ := hs
      cases c2 with
      | eq =>
        simp only [decide_eq_true_eq] at ht
        refine lv_acmp_eq hx hb (rx := x2.map ad) (ry := y2.map ad) d1 tq (fun q9 => ?_) (fun q9 => ?_)
        · rw [if_pos (hqq.mp q9)] at ht
          subst ht; exact kk
        · rw [if_neg (fun w => q9 (hqq.mpr w))] at ht
          subst ht; exact kk
      | ne =>
        simp only [decide_eq_true_eq] at ht
        refine lv_acmp_ne hx hb (rx := x2.map ad) (ry := y2.map ad) d1 tq (fun q9 => ?_) (fun q9 => ?_)
        · rw [if_pos (fun w => q9 (hqq.mpr w))] at ht
          subst ht; exact kk
        · rw [if_neg (fun w => w (hqq.mp q9))] at ht
          subst ht; exact kk
    · cases hs
  | tableswitch df lo hi os =>
    obtain ⟨len, d1, rfl, -⟩ := cod_of hd
    simp only [jop] at hs
    split at hs
    · rename_i x2 r2
      split at hs
      · rename_i hr
        have hti := r32_toInt hr
        split at hs
        · rename_i hin
          split at hs
          · rename_i o ho
            split at hs
            · rename_i t2 q
              cases hs
              exact lv_tableIn hx hb (x := Int32.ofInt x2) d1 (by rw [hti]; omega) (by rw [hti]; omega) (by rw [hti]; exact ho) (tgt_of q) kk
            · cases hs
          · cases hs
        · rename_i hin
          split at hs
          · rename_i t2 q
            cases hs
            exact lv_tableOut hx hb (x := Int32.ofInt x2) d1 (by rw [hti]; omega) (tgt_of q) kk
          · cases hs
      · cases hs
    · cases hs
  | _ => cases hs
end SOP
end
section
/-! ===== cells ===== -/
def xty (E : XE) : List (ClassId × FieldType) := [(eA E 0, .int), (eA E 1, .boolean), (eA E 2, .long), (eA E 3, .object "java/lang/Object"), (eA E 4, .object "PerfgaugeHouse$Sheet"), (eA E 5, .object "PerfgaugeHouse$Piece")]
def kdT (ty : FieldType) : Nat := match ty with
  | .int => 0
  | .boolean => 1
  | .long => 2
  | .object _ => 3
  | .array _ => 3
  | _ => 9
/-- what the world gives beside our cells, at a method's start -/
def CX (E : XE) (U : State) : Prop :=
  va_K (eC E, eI E) xcl (xty E) U ∧
  va_Z "java/util/ArrayList" "DEFAULTCAPACITY_EMPTY_ELEMENTDATA" "[Ljava/lang/Object;" (.ref (e0 E)) (eN E) U U.heap ∧
  va_T (.object "java/lang/Object") (e0 E) 0 (fun _ => .null) (eN E) U U.heap ∧
  (va_X (e1 E) (eL E) (eX E) U U.heap ∧ e1 E < U.heap.size ∧ ¬ eN E (e1 E) ∧ e0 E ≠ e1 E ∧ eB E ≤ U.heap.size) ∧
  (vx_Zq Bundle.tN "UNASSIGNED_STACK" Bundle.steD (eN E) U U.heap ∧ vx_Zq Bundle.tN "SUPPRESSED_SENTINEL" Bundle.listD (eN E) U U.heap) ∧
  ((∃ sa, vk_R "PerfgaugeHouse" 520 "there is no such thing" sa U) ∧ (∃ sa, vk_R "PerfgaugeHouse" 527 "what is given is out of its range" sa U) ∧ (∃ sa, vk_R "PerfgaugeHouse" 532 "this cannot be done now" sa U)) ∧
  (∀ q ∈ nestW, va_Nw (.methodLinkNest q.1 q.2.1 q.2.2.1 q.2.2.2) U) ∧
  (va_AO "java/lang/Object" U ∧ va_AO "PerfgaugeHouse$Sheet" U ∧ va_AO "PerfgaugeHouse$Piece" U) ∧
  (∀ t : Nat, t < 13 → ∀ q : vw_C, xcl[t]? = some q → va_Nw (.castable q.1 "java/lang/Object") U) ∧
  (va_Nc "java/lang/IllegalArgumentException" "java/lang/IndexOutOfBoundsException" U ∧ va_Nc "java/lang/IllegalStateException" "java/lang/IndexOutOfBoundsException" U ∧ va_Nc "java/lang/IllegalStateException" "java/lang/IllegalArgumentException" U) ∧
  (va_Nw (.castable "java/lang/IndexOutOfBoundsException" "java/lang/IndexOutOfBoundsException") U ∧ va_Nw (.castable "java/lang/IllegalArgumentException" "java/lang/IllegalArgumentException") U ∧ va_Nw (.castable "java/lang/IllegalStateException" "java/lang/IllegalStateException") U) ∧
  (∃ mi, va_Mi "[Ljava/lang/Object;" mi U) ∧ va_Dc U
def okH (E : XE) (h : Hp) : Prop := 2 ≤ hN h ∧ (∀ a k b, a < hN h → hR h a k = some b → b < hN h) ∧ (∀ a, a < hN h → hL h a ≤ 65536) ∧ (hT h 0 = 103 ∧ hL h 0 = 0) ∧ (hT h 1 = 100 ∧ hL h 1 = eL E ∧ ∀ j, j < eL E → Int32.ofInt (hI h 1 j) = eX E j)
def GR (E : XE) (ad : Nat → Nat) (h : Hp) (H0 H : Heap) (locs : List Loc) : Prop := va_P (eC E, eI E) xcl (WL E ad h) H ∧ va_D (eN E) (WL E ad h) ∧ va_S (eN E) H0 H locs ∧ okH E h ∧ ad 0 = e0 E ∧ ad 1 = e1 E
theorem CX.moved {E : XE} {s U : State} (h : CX E s) (hW : s.WarmedH U.vm) (hsz : s.heap.size ≤ U.heap.size) (hq : ∀ q : Nat, q < s.heap.size → ¬ eN E q → U.heap[q]? = s.heap[q]?) : CX E U := by
  have hvm := hW.alike
  obtain ⟨h1, h2, h3, ⟨h4, h5, h6, h7, h7b⟩, ⟨h8, h9⟩, ⟨⟨s1, h10⟩, ⟨s2, h11⟩, ⟨s3, h12⟩⟩, h13, ⟨h14, h15, h16⟩, h17, ⟨h18, h19, h20⟩, ⟨h21, h22, h23⟩, ⟨mi, h24⟩, h25⟩ := h
  refine ⟨va_K.moved hvm h1, (va_Z.moved hvm h2).kept hq, (va_T.moved hvm h3).kept hq, ⟨?_, by omega, h6, h7, by omega⟩, ⟨(vx_Zq.moved hvm h8).kept hq, (vx_Zq.moved hvm h9).kept hq⟩, ⟨⟨s1, h10.warm hW⟩, ⟨s2, h11.warm hW⟩, ⟨s3, h12.warm hW⟩⟩, fun q hq9 => va_Nw.warmM hW (h13 q hq9), ⟨va_AO.moved hvm h14, va_AO.moved hvm h15, va_AO.moved hvm h16⟩, fun t ht q hq9 => va_Nw.warmC hW (h17 t ht q hq9), ⟨va_Nc.moved hvm h18, va_Nc.moved hvm h19, va_Nc.moved hvm h20⟩, ⟨va_Nw.warmC hW h21, va_Nw.warmC hW h22, va_Nw.warmC hW h23⟩, ⟨mi, va_Mi.moved hvm h24⟩, va_Dc.moved hvm h25⟩
  obtain ⟨scr, q1, q2, q3, q4, q5⟩ := h4
  exact ⟨scr, by rw [hq _ h5 h6]; exact q1, State.isArrayOf_alike hvm q2, q3, q4, q5⟩
theorem GR.inj {E : XE} {ad : Nat → Nat} {h : Hp} {H0 H : Heap} {locs : List Loc} (g : GR E ad h H0 H locs) {s : State} (c : CX E s) : ∀ a b : Nat, a < hN h → b < hN h → ad a = ad b → a = b := by
  obtain ⟨hP, hD, -, hO, h0, h1⟩ := g
  obtain ⟨-, -, ⟨-, -, -, -, -, -, -, n0⟩, ⟨-, -, n1, n01, -⟩, -⟩ := c
  have big : ∀ a, 2 ≤ a → a < hN h → eN E (ad a) := fun a h2 ha => hD.2 _ _ (WL_get h2 ha)
  have d01 : ad 0 ≠ ad 1 := by rw [h0, h1]; exact n01
  have d0 : ∀ a, 2 ≤ a → a < hN h → ad a ≠ ad 0 := fun a h2 ha q => n0 (by rw [← h0, ← q]; exact big a h2 ha)
  have d1 : ∀ a, 2 ≤ a → a < hN h → ad a ≠ ad 1 := fun a h2 ha q => n1 (by rw [← h1, ← q]; exact big a h2 ha)
  intro a b ha hb e
  rcases Nat.lt_or_ge a 2 with qa | qa
  · rcases Nat.lt_or_ge b 2 with qb | qb
    · have : a = 0 ∨ a = 1 := by omega
      have : b = 0 ∨ b = 1 := by omega
      rcases ‹a = 0 ∨ a = 1› with rfl | rfl <;> rcases ‹b = 0 ∨ b = 1› with rfl | rfl
      · rfl
      · exact absurd e d01
      · exact absurd e.symm d01
      · rfl
    · have : a = 0 ∨ a = 1 := by omega
      rcases this with rfl | rfl
      · exact absurd e.symm (d0 b qb hb)
      · exact absurd e.symm (d1 b qb hb)
  · rcases Nat.lt_or_ge b 2 with qb | qb
    · have : b = 0 ∨ b = 1 := by omega
      rcases this with rfl | rfl
      · exact absurd e (d0 a qa ha)
      · exact absurd e (d1 a qa ha)
    · have := hD.1 _ _ _ _ (WL_get qa ha) (WL_get qb hb) e
      omega
theorem fld_w {c k t j kd : Nat} {fin : Bool} (h : lkp fldL c k = some (t, j, kd, fin)) : ∃ (C : String) (T : u_T) (N : Nat) (ref : String), xcl[t]? = some (C, T, N) ∧ j < N ∧ Cond.fieldLink (cnm c) k ref (T j).2.1 (T j).2.2.1 ∈ LWG ∧ (ref = (T j).1 ∨ Cond.sameField ref (T j).1 (T j).2.1 (T j).2.2.1 ∈ LWG) ∧ (T j).2.2.2 = fin ∧ (fin = true → (T j).1 = cnm t) ∧ (kdl t)[j]? = some kd := by
  have h1 := lkp_mem h
  rw [fldL_X] at h1
  obtain ⟨e, he, hq⟩ := List.mem_map.mp h1
  have h2 := List.all_eq_true.mp fldX_ok e he
  obtain ⟨c', k', t', j', kd', fin', i, ref, sf⟩ := e
  simp only [Prod.mk.injEq] at hq
  obtain ⟨rfl, rfl, rfl, rfl, rfl, rfl⟩ := hq
  simp only [fldChk] at h2
  cases hx : xcl[t']? with
  | none => rw [hx] at h2; cases h2
  | some q =>
    obtain ⟨C, T, N⟩ := q
    rw [hx] at h2
    simp only [Bool.and_eq_true, decide_eq_true_eq, Bool.or_eq_true, beq_iff_eq, Bool.not_eq_true'] at h2
    obtain ⟨⟨⟨⟨⟨a1, a2⟩, a3⟩, a4⟩, a5⟩, a6⟩ := h2
    refine ⟨C, T, N, ref, rfl, a1, atI_mem a2, ?_, a4, fun q => ?_, a6⟩
    · rcases a3 with q | q
      · exact Or.inl q
      · exact Or.inr (atI_mem q)
    · rcases a5 with q2 | q2
      · rw [q] at q2; cases q2
      · exact q2
theorem cls_w : ∀ (t : Nat) (C : String) (T : u_T) (N : Nat), xcl[t]? = some (C, T, N) → (∀ w ∈ u_ws C T N, w ∈ LWG) ∧ t < 13 ∧ C = cnm t ∧ (kdl t).length = N ∧ ∃ ty : Nat → FieldType, (∀ k, k < N → parseFieldDescriptor (T k).2.2.1 = some (ty k)) ∧ (∀ a, a < N → ∀ b, b < N → a ≠ b → (T a).2.1 ≠ (T b).2.1) ∧ ∀ k, k < N → (kdl t)[k]? = some (kdT (ty k)) ∧ kdT (ty k) ≠ 9 := by
  intro t C T N h
  match t, h with
  | 0, h => simp only [xcl, List.getElem?_cons_succ, List.getElem?_cons_zero, Option.some.injEq, Prod.mk.injEq] at h; obtain ⟨rfl, rfl, rfl⟩ := h; exact ⟨cin0, by decide, by decide +kernel, by decide +kernel, cY0, by decide +kernel, by decide +kernel, by decide +kernel⟩
  | 1, h => simp only [xcl, List.getElem?_cons_succ, List.getElem?_cons_zero, Option.some.injEq, Prod.mk.injEq] at h; obtain ⟨rfl, rfl, rfl⟩ := h; exact ⟨cin1, by decide, by decide +kernel, by decide +kernel, cY1, by decide +kernel, by decide +kernel, by decide +kernel⟩
  | 2, h => simp only [xcl, List.getElem?_cons_succ, List.getElem?_cons_zero, Option.some.injEq, Prod.mk.injEq] at h; obtain ⟨rfl, rfl, rfl⟩ := h; exact ⟨cin2, by decide, by decide +kernel, by decide +kernel, cY2, by decide +kernel, by decide +kernel, by decide +kernel⟩
  | 3, h => simp only [xcl, List.getElem?_cons_succ, List.getElem?_cons_zero, Option.some.injEq, Prod.mk.injEq] at h; obtain ⟨rfl, rfl, rfl⟩ := h; exact ⟨cin3, by decide, by decide +kernel, by decide +kernel, cY3, by decide +kernel, by decide +kernel, by decide +kernel⟩
  | 4, h => simp only [xcl, List.getElem?_cons_succ, List.getElem?_cons_zero, Option.some.injEq, Prod.mk.injEq] at h; obtain ⟨rfl, rfl, rfl⟩ := h; exact ⟨cin4, by decide, by decide +kernel, by decide +kernel, cY4, by decide +kernel, by decide +kernel, by decide +kernel⟩
  | 5, h => simp only [xcl, List.getElem?_cons_succ, List.getElem?_cons_zero, Option.some.injEq, Prod.mk.injEq] at h; obtain ⟨rfl, rfl, rfl⟩ := h; exact ⟨cin5, by decide, by decide +kernel, by decide +kernel, cY5, by decide +kernel, by decide +kernel, by decide +kernel⟩
  | 6, h => simp only [xcl, List.getElem?_cons_succ, List.getElem?_cons_zero, Option.some.injEq, Prod.mk.injEq] at h; obtain ⟨rfl, rfl, rfl⟩ := h; exact ⟨cin6, by decide, by decide +kernel, by decide +kernel, cY6, by decide +kernel, by decide +kernel, by decide +kernel⟩
  | 7, h => simp only [xcl, List.getElem?_cons_succ, List.getElem?_cons_zero, Option.some.injEq, Prod.mk.injEq] at h; obtain ⟨rfl, rfl, rfl⟩ := h; exact ⟨cin7, by decide, by decide +kernel, by decide +kernel, cY7, by decide +kernel, by decide +kernel, by decide +kernel⟩
  | 8, h => simp only [xcl, List.getElem?_cons_succ, List.getElem?_cons_zero, Option.some.injEq, Prod.mk.injEq] at h; obtain ⟨rfl, rfl, rfl⟩ := h; exact ⟨cin8, by decide, by decide +kernel, by decide +kernel, cY8, by decide +kernel, by decide +kernel, by decide +kernel⟩
  | 9, h => simp only [xcl, List.getElem?_cons_succ, List.getElem?_cons_zero, Option.some.injEq, Prod.mk.injEq] at h; obtain ⟨rfl, rfl, rfl⟩ := h; exact ⟨cin9, by decide, by decide +kernel, by decide +kernel, cY9, by decide +kernel, by decide +kernel, by decide +kernel⟩
  | 10, h => simp only [xcl, List.getElem?_cons_succ, List.getElem?_cons_zero, Option.some.injEq, Prod.mk.injEq] at h; obtain ⟨rfl, rfl, rfl⟩ := h; exact ⟨cin10, by decide, by decide +kernel, by decide +kernel, cY10, by decide +kernel, by decide +kernel, by decide +kernel⟩
  | 11, h => simp only [xcl, List.getElem?_cons_succ, List.getElem?_cons_zero, Option.some.injEq, Prod.mk.injEq] at h; obtain ⟨rfl, rfl, rfl⟩ := h; exact ⟨cin11, by decide, by decide +kernel, by decide +kernel, cY11, by decide +kernel, by decide +kernel, by decide +kernel⟩
  | 12, h => simp only [xcl, List.getElem?_cons_succ, List.getElem?_cons_zero, Option.some.injEq, Prod.mk.injEq] at h; obtain ⟨rfl, rfl, rfl⟩ := h; exact ⟨cin12, by decide, by decide +kernel, by decide +kernel, cY12, by decide +kernel, by decide +kernel, by decide +kernel⟩
  | n + 13, h => simp [xcl] at h
theorem cE_obj {E : XE} {ad : Nat → Nat} {h : Hp} {a t : Nat} (e : hT h a = t) (ht : t < 13) : cE E ad h a = .inr (t, fvl ad h a 0 (kdl t)) := by
  unfold cE
  rw [e, if_neg (by omega), if_neg (by omega), if_neg (by omega), if_neg (by omega)]
theorem cE_100 {E : XE} {ad : Nat → Nat} {h : Hp} {a : Nat} (e : hT h a = 100) : cE E ad h a = .inl (eA E 0, hL h a, .inl (fun j => Int32.ofInt (hI h a j))) := by
  unfold cE; rw [if_pos e]
theorem cE_101 {E : XE} {ad : Nat → Nat} {h : Hp} {a : Nat} (e : hT h a = 101) : cE E ad h a = .inl (eA E 1, hL h a, .inl (fun j => Int32.ofInt (hI h a j))) := by
  unfold cE; rw [e, if_neg (by omega), if_pos rfl]
theorem cE_102 {E : XE} {ad : Nat → Nat} {h : Hp} {a : Nat} (e : hT h a = 102) : cE E ad h a = .inl (eA E 2, hL h a, .inr (.inl (fun j => Int64.ofInt (hI h a j)))) := by
  unfold cE; rw [e, if_neg (by omega), if_neg (by omega), if_pos rfl]
theorem cE_103 {E : XE} {ad : Nat → Nat} {h : Hp} {a t : Nat} (e : hT h a = t) (ht : 103 ≤ t) : cE E ad h a = .inl (eA E (t - 100), hL h a, .inr (.inr (.inr (.inr (fun j => (hR h a j).map ad))))) := by
  unfold cE; rw [e, if_neg (by omega), if_neg (by omega), if_neg (by omega), if_pos ht]
theorem xty_get {E : XE} {t : Nat} (h1 : 103 ≤ t) (h2 : t ≤ 105) : (xty E)[t - 100]? = some (eA E (t - 100), .object (aEl t)) := by
  rcases (show t = 103 ∨ t = 104 ∨ t = 105 by omega) with rfl | rfl | rfl <;> rfl
theorem ix_conv {x : Int} {n : Nat} (h0 : 0 ≤ x) (h1 : x < n) (hn : n ≤ 65536) : vp_in (Int32.ofInt x) n ∧ (Int32.ofInt x).toNatClampNeg = x.toNat := by
  have e : (Int32.ofInt x).toInt = x := Int32.toInt_ofInt_of_le (by omega) (by omega)
  have e2 : (Int32.ofInt x).toNatClampNeg = x.toNat := by
    show (Int32.ofInt x).toInt.toNat = x.toNat
    rw [e]
  refine ⟨?_, e2⟩
  rintro (q | q)
  · have := Int32.lt_iff_toInt_lt.mp q
    rw [e] at this
    have h0' : (0 : Int32).toInt = 0 := by decide
    rw [h0'] at this
    omega
  · rw [e2] at q; omega
theorem sI_N {h : Hp} {a k : Nat} {v : Int} : hN (sI h a k v) = hN h := rfl
theorem sI_T {h : Hp} {a k : Nat} {v : Int} : hT (sI h a k v) = hT h := rfl
theorem sI_L {h : Hp} {a k : Nat} {v : Int} : hL (sI h a k v) = hL h := rfl
theorem sI_R {h : Hp} {a k : Nat} {v : Int} : hR (sI h a k v) = hR h := rfl
theorem sI_I {h : Hp} {a k : Nat} {v : Int} : hI (sI h a k v) = u2 (hI h) a k v := rfl
theorem sR_R {h : Hp} {a k : Nat} {v : Option Nat} : hR (sR h a k v) = u2 (hR h) a k v := rfl
theorem u2_ne {α : Type} {f : Nat → Nat → α} {a b k : Nat} {v : α} (h : b ≠ a) : u2 f a k v b = f b := by
  funext j; simp [u2, h]
theorem okH_sI {E : XE} {h : Hp} {a k : Nat} {v : Int} (ha : 2 ≤ a) (o : okH E h) : okH E (sI h a k v) := by
  obtain ⟨o1, o2, o3, o4, o5, o6, o7⟩ := o
  refine ⟨o1, o2, o3, o4, o5, o6, fun j hj => ?_⟩
  rw [sI_I, u2_ne (by omega)]
  exact o7 j hj
theorem okH_sR {E : XE} {h : Hp} {a k : Nat} {v : Option Nat} (hv : ∀ b, v = some b → b < hN h) (o : okH E h) : okH E (sR h a k v) := by
  obtain ⟨o1, o2, o3, o4⟩ := o
  refine ⟨o1, fun x y b hx hy => ?_, o3, o4⟩
  rw [sR_R] at hy
  simp only [u2] at hy
  split at hy
  · exact hv b hy
  · exact o2 x y b hx hy
theorem okH_alc {E : XE} {h : Hp} {t len sl : Nat} (hl : len ≤ 65536) (o : okH E h) : okH E (alc h t len sl) := by
  obtain ⟨o1, o2, o3, ⟨o4, o4b⟩, o5, o6, o7⟩ := o
  have nb : ∀ b, b < hN h → b ≠ hN h := fun b q => by omega
  refine ⟨by show 2 ≤ hN h + 1; omega, fun a k b ha e => ?_, fun a ha => ?_, ⟨?_, ?_⟩, ?_, ?_, fun j hj => ?_⟩
  · show b < hN h + 1
    have e : ur (hR h) (hN h) (fun _ => none) a k = some b := e
    simp only [ur] at e
    split at e
    · cases e
    · have ha : a < hN h + 1 := ha
      have := o2 a k b (by omega) e
      omega
  · show u1 (hL h) (hN h) len a ≤ 65536
    simp only [u1]
    split
    · exact hl
    · have ha : a < hN h + 1 := ha
      exact o3 a (by omega)
  · show u1 (hT h) (hN h) t 0 = 103
    simp only [u1]; rw [if_neg (nb 0 (by omega))]; exact o4
  · show u1 (hL h) (hN h) len 0 = 0
    simp only [u1]; rw [if_neg (nb 0 (by omega))]; exact o4b
  · show u1 (hT h) (hN h) t 1 = 100
    simp only [u1]; rw [if_neg (nb 1 (by omega))]; exact o5
  · show u1 (hL h) (hN h) len 1 = eL E
    simp only [u1]; rw [if_neg (nb 1 (by omega))]; exact o6
  · show Int32.ofInt (ur (hI h) (hN h) (fun _ => 0) 1 j) = eX E j
    simp only [ur]; rw [if_neg (nb 1 (by omega))]; exact o7 j hj
/-- a store into one of our cells -/
theorem GR.set {E : XE} {ad : Nat → Nat} {h h' : Hp} {H0 H1 : Heap} {locs1 : List Loc} {a : Nat} {e : va_E} (h2 : 2 ≤ a) (ha : a < hN h) (h0 : ad 0 = e0 E) (h1 : ad 1 = e1 E) (hn : hN h' = hN h) (hTT : hT h' = hT h) (hLL : hL h' = hL h) (ho : ∀ b, b ≠ a → hI h' b = hI h b ∧ hR h' b = hR h b) (he : e = cE E ad h' a) (hok : okH E h')
    (hP : va_P (eC E, eI E) xcl ((WL E ad h).set (a - 2) (ad a, e)) H1) (hD : va_D (eN E) ((WL E ad h).set (a - 2) (ad a, e))) (hS : va_S (eN E) H0 H1 locs1) : GR E ad h' H0 H1 locs1 := by
  have hw := WL_set (E := E) (ad := ad) h2 ha hn (fun b hb => cE_congr (by rw [hTT]) (by rw [hLL]) (ho b hb).1 (fun j => by rw [(ho b hb).2])) he
  rw [hw] at hP hD
  exact ⟨hP, hD, hS, hok, h0, h1⟩
/-- a new cell -/
theorem GR.push {E : XE} {ad : Nat → Nat} {h : Hp} {H0 H1 : Heap} {locs1 : List Loc} {t len sl q : Nat} {e : va_E} (o : okH E h) (h0 : ad 0 = e0 E) (h1 : ad 1 = e1 E) (hl : len ≤ 65536) (he : e = cE E (u1 ad (hN h) q) (alc h t len sl) (hN h))
    (hP : va_P (eC E, eI E) xcl (WL E ad h ++ [(q, e)]) H1) (hD : va_D (eN E) (WL E ad h ++ [(q, e)])) (hS : va_S (eN E) H0 H1 locs1) : GR E (u1 ad (hN h) q) (alc h t len sl) H0 H1 locs1 := by
  obtain ⟨o1, o2, -⟩ := id o
  have ha : ∀ a, a < hN h → u1 ad (hN h) q a = ad a := fun a ha => by simp only [u1]; rw [if_neg (by omega)]
  have hw := WL_push (E := E) (ad := ad) (ad' := u1 ad (hN h) q) (h := h) (h' := alc h t len sl) (q := q) (e := e) o1 rfl ha (by simp [u1]) (fun b hb => by
    apply cE_congr
    · show u1 (hT h) (hN h) t b = hT h b
      simp only [u1]; rw [if_neg (by omega)]
    · show u1 (hL h) (hN h) len b = hL h b
      simp only [u1]; rw [if_neg (by omega)]
    · show ur (hI h) (hN h) (fun _ => 0) b = hI h b
      funext j; simp only [ur]; rw [if_neg (by omega)]
    · intro j
      have e1 : hR (alc h t len sl) b j = hR h b j := by
        show ur (hR h) (hN h) (fun _ => none) b j = hR h b j
        simp only [ur]; rw [if_neg (by omega)]
      rw [e1]
      cases hr : hR h b j with
      | none => rfl
      | some x => simp only [Option.map_some]; rw [ha x (o2 b j x hb hr)]) he
  rw [hw] at hP hD
  refine ⟨hP, hD, hS, okH_alc hl o, ?_, ?_⟩
  · rw [ha 0 (by omega)]; exact h0
  · rw [ha 1 (by omega)]; exact h1
end
section
/-! ===== an instruction on cells ===== -/
theorem newL_w {c k t n : Nat} (h : lkp newL c k = some (t, n)) : ∃ (C : String) (T : u_T), xcl[t]? = some (C, T, n) ∧ Cond.classLink (cnm c) k C ∈ LWG ∧ Cond.instantiable C n ∈ LWG ∧ Cond.initialized C ∈ LWG := by
  have h1 := lkp_mem h
  rw [newL_X] at h1
  obtain ⟨e, he, hq⟩ := List.mem_map.mp h1
  have h2 := List.all_eq_true.mp newX_ok e he
  obtain ⟨c', k', t', n', i1, i2, i3⟩ := e
  simp only [Prod.mk.injEq] at hq
  obtain ⟨rfl, rfl, rfl, rfl⟩ := hq
  simp only [newChk] at h2
  cases hx : xcl[t']? with
  | none => rw [hx] at h2; cases h2
  | some q =>
    obtain ⟨C, T, N⟩ := q
    rw [hx] at h2
    simp only [Bool.and_eq_true, decide_eq_true_eq] at h2
    obtain ⟨⟨⟨rfl, a2⟩, a3⟩, a4⟩ := h2
    exact ⟨C, T, rfl, atI_mem a2, atI_mem a3, atI_mem a4⟩
theorem anwL_w {c k g : Nat} (h : lkp anwL c k = some g) : Cond.classLink (cnm c) k (aEl g) ∈ LWG ∧ 103 ≤ g ∧ g ≤ 105 := by
  have h1 := lkp_mem h
  rw [anwL_X] at h1
  obtain ⟨e, he, hq⟩ := List.mem_map.mp h1
  have h2 := List.all_eq_true.mp anwX_ok e he
  obtain ⟨c', k', g', i⟩ := e
  simp only [Prod.mk.injEq] at hq
  obtain ⟨rfl, rfl, rfl⟩ := hq
  simp only [Bool.and_eq_true, decide_eq_true_eq] at h2
  exact ⟨atI_mem h2.1.1, h2.1.2, h2.2⟩
theorem cstT_w {c k t : Nat} (h : lkp cstT c k = some t) : ∃ (C : String) (T : u_T) (N : Nat), xcl[t]? = some (C, T, N) ∧ Cond.classLink (cnm c) k C ∈ LWG := by
  have h1 := lkp_mem h
  rw [cstT_X] at h1
  obtain ⟨e, he, hq⟩ := List.mem_map.mp h1
  have h2 := List.all_eq_true.mp cstX_ok e he
  obtain ⟨c', k', t', i⟩ := e
  simp only [Prod.mk.injEq] at hq
  obtain ⟨rfl, rfl, rfl⟩ := hq
  simp only at h2
  cases hx : xcl[t']? with
  | none => rw [hx] at h2; cases h2
  | some q =>
    obtain ⟨C, T, N⟩ := q
    rw [hx] at h2
    exact ⟨C, T, N, rfl, atI_mem h2⟩
theorem acls_w : Cond.arrayClass .int ∈ LWG ∧ Cond.arrayClass .boolean ∈ LWG ∧ Cond.arrayClass .long ∈ LWG := ⟨by decide +kernel, by decide +kernel, by decide +kernel⟩
theorem bool_n {x : Int} (h : x = 0 ∨ x = 1) : narrow .boolean (.int (Int32.ofInt x)) = .int (Int32.ofInt x) ∧ fits .boolean (.int (Int32.ofInt x)) = true ∧ vp_nar .boolean (Int32.ofInt x) = Int32.ofInt x := by
  rcases h with rfl | rfl <;> exact ⟨by decide, by decide, by decide⟩
theorem ieq {cA : ClassId} {n : Nat} {f g : Nat → Int32} (q : ∀ k, f k = g k) : (.inl (cA, n, .inl f) : va_E) = .inl (cA, n, .inl g) := by rw [funext q]
theorem leq {cA : ClassId} {n : Nat} {f g : Nat → Int64} (q : ∀ k, f k = g k) : (.inl (cA, n, .inr (.inl f)) : va_E) = .inl (cA, n, .inr (.inl g)) := by rw [funext q]
theorem qeq {cA : ClassId} {n : Nat} {f g : Nat → Option Nat} (q : ∀ k, f k = g k) : (.inl (cA, n, .inr (.inr (.inr (.inr f)))) : va_E) = .inl (cA, n, .inr (.inr (.inr (.inr g)))) := by rw [funext q]
theorem oeq {t : Nat} {f g : List Value} (q : f = g) : (.inr (t, f) : va_E) = .inr (t, g) := by rw [q]
theorem fv_eq {ad : Nat → Nat} {h : Hp} {a j kd : Nat} : cv ad (if kd = 3 then vR (hR h a j) else if kd = 2 then vL (hI h a j) else vI (hI h a j)) = fv ad h a j kd := by
  unfold fv
  by_cases h3 : kd = 3
  · subst h3; rfl
  · by_cases h2 : kd = 2
    · subst h2; rfl
    · rw [if_neg h3, if_neg h2]
      split
      · exact absurd rfl h3
      · exact absurd rfl h2
      · rfl
section HOP
variable {p : Program} {l : Launch} {e : Env} {R : Room} {s : State} {m : MethodId} {args : Array Value} {below : List Frame} {meth : Method} {c : Code} {H : Heap} {locs : List Loc} {cells slots : Nat} {Q : State → Prop} {y pc nx : Nat} {lsR : Array Slot} {ad : Nat → Nat} {E : XE} {h h' : Hp} {D : Nat → Nat → Bool}
theorem GR.cell {H0 : Heap} (g : GR E ad h H0 H locs) {a : Nat} (h2 : 2 ≤ a) (ha : a < hN h) : va_at (eC E, eI E) xcl (ad a, cE E ad h a) H := g.1 _ _ (WL_get h2 ha)
theorem GR.fresh {H0 : Heap} (g : GR E ad h H0 H locs) : ∀ q, H0.size ≤ q → eB E ≤ H0.size → eN E q := fun q h1 h2 => Nat.le_trans h2 h1
set_option maxHeartbeats 8000000 in
theorem sim_hop (hx : p.tables.exec = Jvm.exec) (hb : c.code = bts y) (hown : s.vm.findClass (cnm (cls y)) = some m.cls) (hts : ∀ w ∈ LWG, w.before args s = true) (hcx : CX E s) (hini : isIni y = true → meth.name = "<init>") {i : Instr} (hd : cod y pc = some (i, nx)) {st st' : List XV} (hs : hop D y (cls y) i st h = some (st', h'))
    (hG : GR E ad h s.heap H locs) (hc : clS (hN h) st) (hr1 : cells + (hC h' - hC h) ≤ R.cells) (hr2 : slots + (hS h' - hS h) ≤ R.slots)
    (kk : ∀ (ad' : Nat → Nat) (H' : Heap) (locs' : List Loc), (∀ a, a < hN h → ad' a = ad a) → GR E ad' h' s.heap H' locs' → W p l e R s m args below meth c H' locs' (cells + (hC h' - hC h)) (slots + (hS h' - hS h)) Q (F0 m nx lsR (st'.map (cv ad')))) :
    W p l e R s m args below meth c H locs cells slots Q (F0 m pc lsR (st.map (cv ad))) := by
  obtain ⟨hP, hD, hS0, hO, had0, had1⟩ := id hG
  have hK := hcx.1
  have hsz : eB E ≤ s.heap.size := hcx.2.2.2.1.2.2.2.2
  have hA : ∀ q, s.heap.size ≤ q → eN E q := fun q hq => Nat.le_trans hsz hq
  obtain ⟨o1, o2, o3, ⟨o4, o4b⟩, o5, o6, o7⟩ := id hO
  cases i with
  | getfield k =>
    obtain ⟨d1, rfl⟩ := dec_of hd rfl
    simp only [hop] at hs
    split at hs
    · rename_i t j kd fin hf
      obtain ⟨C, T, N, ref, hxc, hj, hlk, hsm, hfin, hdecl, hkd⟩ := fld_w hf
      obtain ⟨hin, ht13, hCn, hlen, ty, hty, hnm, hkk⟩ := cls_w t C T N hxc
      split at hs
      · rename_i a r
        split at hs
        · rename_i hq
          obtain ⟨ha, hta, -⟩ := hq
          simp only [Option.some.injEq, Prod.mk.injEq] at hs
          obtain ⟨rfl, rfl⟩ := hs
          have h2 : 2 ≤ a := by
            rcases Nat.lt_or_ge a 2 with q | q
            · have : a = 0 ∨ a = 1 := by omega
              rcases this with rfl | rfl <;> omega
            · exact q
          have hg := WL_get (E := E) (ad := ad) h2 ha
          rw [cE_obj hta ht13] at hg
          have hv := fvl_get (ad := ad) (h := h) (a := a) (i := 0) hkd
          rw [Nat.zero_add] at hv
          have kk0 := kk ad H locs (fun _ _ => rfl) hG
          simp only [Nat.sub_self, Nat.add_zero] at kk0
          refine va_get hx hb hts hin hown hK hP (a - 2) hg hxc j hj (hts _ hlk) (fun x hx9 => ?_) hv d1 ?_
          · rcases hsm with rfl | q
            · exact hx9
            · exact u_same (hts _ q) x hx9
          · rw [List.map_cons, fv_eq] at kk0
            exact kk0
        · cases hs
      · cases hs
    · cases hs
  | putfield k =>
    obtain ⟨d1, rfl⟩ := dec_of hd rfl
    simp only [hop] at hs
    split at hs
    · rename_i t j kd fin hf
      obtain ⟨C, T, N, ref, hxc, hj, hlk, hsm, hfin, hdecl, hkd⟩ := fld_w hf
      obtain ⟨hin, ht13, hCn, hlen, ty, hty, hnm, hkk⟩ := cls_w t C T N hxc
      have hsame : ∀ x, s.fieldFound? (T j).1 (T j).2.1 (T j).2.2.1 = some x → s.fieldFound? ref (T j).2.1 (T j).2.2.1 = some x := fun x hx9 => by
        rcases hsm with rfl | q
        · exact hx9
        · exact u_same (hts _ q) x hx9
      have hkt : kd = kdT (ty j) := Option.some.inj (hkd.symm.trans (hkk j hj).1)
      have h2a : ∀ a, hT h a = t → 2 ≤ a := fun a hta => by
        rcases Nat.lt_or_ge a 2 with q | q
        · have : a = 0 ∨ a = 1 := by omega
          rcases this with rfl | rfl <;> omega
        · exact q
      have fin : ∀ (a : Nat) (h9 : Hp) (r : List XV) (v : Value), a < hN h → hT h a = t → (fin = true → isIni y = true ∧ cls y = t) → narrow (ty j) v = v → fits (ty j) v = true → v = fv ad h9 a j kd → hN h9 = hN h → hC h9 = hC h → hS h9 = hS h → hT h9 = hT h → hL h9 = hL h → (∀ b, b ≠ a → hI h9 b = hI h b ∧ hR h9 b = hR h b) → (∀ x, x ≠ j → hI h9 a x = hI h a x ∧ hR h9 a x = hR h a x) → okH E h9 → (r, h9) = (st', h') → W p l e R s m args below meth c H locs cells slots Q (F0 m pc lsR (v :: .ref (ad a) :: r.map (cv ad))) := by
        intro a h9 r v ha hta hfi hnv hfv ev n1 n2 n3 n4 n5 n6 n7 ok9 eq
        simp only [Prod.mk.injEq] at eq
        obtain ⟨rfl, rfl⟩ := eq
        have h2 := h2a a hta
        have hg := WL_get (E := E) (ad := ad) h2 ha
        rw [cE_obj hta ht13] at hg
        have hset : (fvl ad h a 0 (kdl t)).set j v = fvl ad h9 a 0 (kdl t) := by
          rw [ev]
          have := fvl_set (ad := ad) (h := h) (h' := h9) (a := a) (i := 0) hkd (fun x k9 hx9 => by
            unfold fv
            rw [(n7 x (by omega)).1, (n7 x (by omega)).2])
          rw [Nat.zero_add] at this
          exact this
        have he : (Sum.inr (t, (fvl ad h a 0 (kdl t)).set j v) : va_E) = cE E ad h9 a := by
          rw [cE_obj (by rw [n4]; exact hta) ht13, hset]
        have kk1 : ∀ (H1 : Heap) (locs1 : List Loc), va_P (eC E, eI E) xcl ((WL E ad h).set (a - 2) (ad a, .inr (t, (fvl ad h a 0 (kdl t)).set j v))) H1 → va_D (eN E) ((WL E ad h).set (a - 2) (ad a, .inr (t, (fvl ad h a 0 (kdl t)).set j v))) → va_S (eN E) s.heap H1 locs1 → W p l e R s m args below meth c H1 locs1 cells slots Q (F0 m (pc + 3) lsR (r.map (cv ad))) := fun H1 locs1 q1 q2 q3 => by
          have k9 := kk ad H1 locs1 (fun _ _ => rfl) (GR.set h2 ha had0 had1 n1 n4 n5 n6 he ok9 q1 q2 q3)
          rw [n2, n3, Nat.sub_self, Nat.sub_self, Nat.add_zero, Nat.add_zero] at k9
          exact k9
        cases hfin9 : (T j).2.2.2 with
        | false => exact va_put hx hb hts hin ty hty hnm hown hK hP hD hS0 (a - 2) hg hxc j hj (hts _ hlk) hsame hfin9 (hty j hj) hnv hfv (by rw [fvl_len, hlen]; exact hj) d1 kk1
        | true =>
          have hf9 : fin = true := by rw [← hfin]; exact hfin9
          obtain ⟨i1, i2⟩ := hfi hf9
          exact va_putF hx hb hts hin ty hty hnm hown hK hP hD hS0 (a - 2) hg hxc j hj (hts _ hlk) hsame hfin9 (hini i1) (by rw [i2]; exact hdecl hf9) (hty j hj) hnv hfv (by rw [fvl_len, hlen]; exact hj) d1 kk1
      split at hs
      · rename_i q9 a r
        split at hs
        · rename_i hq
          obtain ⟨ha, hta, -, hfi, hk3⟩ := hq
          have hcq : clV (hN h) (vR q9) := (clS_cons.mp hc).1
          have ev : va_rf (q9.map ad) = fv ad (sR h a j q9) a j kd := by
            rw [hk3]
            show va_rf (q9.map ad) = va_rf ((u2 (hR h) a j q9 a j).map ad)
            simp [u2]
          have hrt : (∃ n9, ty j = .object n9) ∨ ∃ t9, ty j = .array t9 := by
            have k3 : kdT (ty j) = 3 := by rw [← hkt]; exact hk3
            cases htt : ty j <;> rw [htt] at k3 <;> first | exact Or.inl ⟨_, rfl⟩ | exact Or.inr ⟨_, rfl⟩ | (simp [kdT] at k3; done)
          refine fin a (sR h a j q9) r (va_rf (q9.map ad)) ha hta hfi ?_ ?_ ev rfl rfl rfl rfl rfl (fun b hb9 => ⟨rfl, u2_ne hb9⟩) (fun x hx9 => ⟨rfl, by show u2 (hR h) a j q9 a x = _; simp [u2, hx9]⟩) (okH_sR (fun b hb9 => by rw [hb9] at hcq; exact hcq) hO) (Option.some.inj hs)
          · rcases hrt with ⟨n9, e9⟩ | ⟨t9, e9⟩ <;> rw [e9] <;> cases q9 <;> rfl
          · rcases hrt with ⟨n9, e9⟩ | ⟨t9, e9⟩ <;> rw [e9] <;> cases q9 <;> rfl
        · cases hs
      · rename_i x9 a r
        split at hs
        · rename_i hq
          obtain ⟨ha, hta, -, hfi, hk3⟩ := hq
          have ev : Value.long (Int64.ofInt x9) = fv ad (sI h a j x9) a j kd := by
            rw [hk3]
            show _ = Value.long (Int64.ofInt (u2 (hI h) a j x9 a j))
            simp [u2]
          have hrt : ty j = .long := by
            have k3 : kdT (ty j) = 2 := by rw [← hkt]; exact hk3
            cases htt : ty j <;> rw [htt] at k3 <;> first | rfl | (simp [kdT] at k3; done)
          refine fin a (sI h a j x9) r _ ha hta hfi ?_ ?_ ev rfl rfl rfl rfl rfl (fun b hb9 => ⟨u2_ne hb9, rfl⟩) (fun x hx9 => ⟨by show u2 (hI h) a j x9 a x = _; simp [u2, hx9], rfl⟩) (okH_sI (h2a a hta) hO) (Option.some.inj hs)
          · rw [hrt]; rfl
          · rw [hrt]; rfl
        · cases hs
      · rename_i x9 a r
        split at hs
        · rename_i hq
          obtain ⟨ha, hta, -, hfi, hk3⟩ := hq
          have ev : Value.int (Int32.ofInt x9) = fv ad (sI h a j x9) a j kd := by
            have : kd ≠ 3 ∧ kd ≠ 2 := by omega
            unfold fv
            split
            · omega
            · omega
            · show _ = Value.int (Int32.ofInt (u2 (hI h) a j x9 a j))
              simp [u2]
          have hnf : narrow (ty j) (.int (Int32.ofInt x9)) = .int (Int32.ofInt x9) ∧ fits (ty j) (.int (Int32.ofInt x9)) = true := by
            rcases hk3 with hk3 | ⟨hk3, hx01⟩
            · have k3 : kdT (ty j) = 0 := by rw [← hkt]; exact hk3
              have hrt : ty j = .int := by
                cases htt : ty j <;> rw [htt] at k3 <;> first | rfl | (simp [kdT] at k3; done)
              rw [hrt]; exact ⟨rfl, rfl⟩
            · have k3 : kdT (ty j) = 1 := by rw [← hkt]; exact hk3
              have hrt : ty j = .boolean := by
                cases htt : ty j <;> rw [htt] at k3 <;> first | rfl | (simp [kdT] at k3; done)
              rw [hrt]; exact ⟨(bool_n hx01).1, (bool_n hx01).2.1⟩
          exact fin a (sI h a j x9) r _ ha hta hfi hnf.1 hnf.2 ev rfl rfl rfl rfl rfl (fun b hb9 => ⟨u2_ne hb9, rfl⟩) (fun x hx9 => ⟨by show u2 (hI h) a j x9 a x = _; simp [u2, hx9], rfl⟩) (okH_sI (h2a a hta) hO) (Option.some.inj hs)
        · cases hs
      · cases hs
    · cases hs
  | getstatic k =>
    obtain ⟨d1, rfl⟩ := dec_of hd rfl
    simp only [hop] at hs
    split at hs
    · rename_i hq
      obtain ⟨hcl, rfl⟩ := hq
      simp only [Option.some.injEq, Prod.mk.injEq] at hs
      obtain ⟨rfl, rfl⟩ := hs
      rw [hcl] at hown
      have kk0 := kk ad H locs (fun _ _ => rfl) hG
      simp only [Nat.sub_self, Nat.add_zero] at kk0
      refine va_gets hx hb hcx.2.1 hS0 hown (hts (.fieldLink "java/util/ArrayList" 39 "java/util/ArrayList" "DEFAULTCAPACITY_EMPTY_ELEMENTDATA" "[Ljava/lang/Object;") (by decide +kernel)) (fun x hx9 => hx9) d1 ?_
      rw [List.map_cons] at kk0
      have e2 : cv ad (vR (some 0)) = .ref (e0 E) := by show Value.ref (ad 0) = _; rw [had0]
      rw [e2] at kk0
      exact kk0
    · cases hs
  | iaload =>
    obtain ⟨d1, rfl⟩ := dec_of hd rfl
    simp only [hop] at hs
    split at hs
    · rename_i x a r
      split at hs
      · rename_i hq
        obtain ⟨ha, hta, hx0, hx1, -⟩ := hq
        simp only [Option.some.injEq, Prod.mk.injEq] at hs
        obtain ⟨rfl, rfl⟩ := hs
        obtain ⟨hin, hcl⟩ := ix_conv hx0 hx1 (o3 a ha)
        have kk0 := kk ad H locs (fun _ _ => rfl) hG
        simp only [Nat.sub_self, Nat.add_zero] at kk0
        by_cases ha1 : a = 1
        · subst ha1
          obtain ⟨hX, hbl, hbA, -⟩ := hcx.2.2.2.1
          have hin2 : vp_in (Int32.ofInt x) (eL E) := by rw [← o6]; exact hin
          show W p l e R s m args below meth c H locs cells slots Q (F0 m pc lsR (Value.int (Int32.ofInt x) :: Value.ref (ad 1) :: r.map (cv ad)))
          rw [had1]
          refine va_sld hx hb hX hbl hbA hS0 hin2 d1 ?_
          rw [hcl, ← o7 x.toNat (by omega)]
          exact kk0
        have h2 : 2 ≤ a := by
          rcases Nat.lt_or_ge a 2 with q | q
          · have : a = 0 ∨ a = 1 := by omega
            rcases this with rfl | rfl <;> omega
          · exact q
        have hg := WL_get (E := E) (ad := ad) h2 ha
        rw [cE_100 hta] at hg
        refine va_iald hx hb hK hP (a - 2) 0 hg rfl hin d1 ?_
        rw [hcl]
        exact kk0
      · cases hs
    · cases hs
  | baload =>
    obtain ⟨d1, rfl⟩ := dec_of hd rfl
    simp only [hop] at hs
    split at hs
    · rename_i x a r
      split at hs
      · rename_i hq
        obtain ⟨ha, hta, hx0, hx1, -⟩ := hq
        simp only [Option.some.injEq, Prod.mk.injEq] at hs
        obtain ⟨rfl, rfl⟩ := hs
        obtain ⟨hin, hcl⟩ := ix_conv hx0 hx1 (o3 a ha)
        have kk0 := kk ad H locs (fun _ _ => rfl) hG
        simp only [Nat.sub_self, Nat.add_zero] at kk0
        have h2 : 2 ≤ a := by
          rcases Nat.lt_or_ge a 2 with q | q
          · have : a = 0 ∨ a = 1 := by omega
            rcases this with rfl | rfl <;> omega
          · exact q
        have hg := WL_get (E := E) (ad := ad) h2 ha
        rw [cE_101 hta] at hg
        refine va_zald hx hb hK hP (a - 2) 1 hg rfl hin d1 ?_
        rw [hcl]
        exact kk0
      · cases hs
    · cases hs
  | laload =>
    obtain ⟨d1, rfl⟩ := dec_of hd rfl
    simp only [hop] at hs
    split at hs
    · rename_i x a r
      split at hs
      · rename_i hq
        obtain ⟨ha, hta, hx0, hx1, -⟩ := hq
        simp only [Option.some.injEq, Prod.mk.injEq] at hs
        obtain ⟨rfl, rfl⟩ := hs
        obtain ⟨hin, hcl⟩ := ix_conv hx0 hx1 (o3 a ha)
        have kk0 := kk ad H locs (fun _ _ => rfl) hG
        simp only [Nat.sub_self, Nat.add_zero] at kk0
        have h2 : 2 ≤ a := by
          rcases Nat.lt_or_ge a 2 with q | q
          · have : a = 0 ∨ a = 1 := by omega
            rcases this with rfl | rfl <;> omega
          · exact q
        have hg := WL_get (E := E) (ad := ad) h2 ha
        rw [cE_102 hta] at hg
        refine va_lald hx hb hK hP (a - 2) 2 hg rfl hin d1 ?_
        rw [hcl]
        exact kk0
      · cases hs
    · cases hs
  | aaload =>
    obtain ⟨d1, rfl⟩ := dec_of hd rfl
    simp only [hop] at hs
    split at hs
    · rename_i x a r
      split at hs
      · rename_i hq
        obtain ⟨ha, ht1, ht2, hx0, hx1, -⟩ := hq
        simp only [Option.some.injEq, Prod.mk.injEq] at hs
        obtain ⟨rfl, rfl⟩ := hs
        obtain ⟨hin, hcl⟩ := ix_conv hx0 hx1 (o3 a ha)
        have kk0 := kk ad H locs (fun _ _ => rfl) hG
        simp only [Nat.sub_self, Nat.add_zero] at kk0
        have h2 : 2 ≤ a := by
          rcases Nat.lt_or_ge a 2 with q | q
          · have : a = 0 ∨ a = 1 := by omega
            rcases this with rfl | rfl <;> omega
          · exact q
        have hg := WL_get (E := E) (ad := ad) h2 ha
        rw [cE_103 rfl ht1] at hg
        refine va_aldq hx hb hK hP (a - 2) (hT h a - 100) hg (xty_get ht1 ht2) hin d1 ?_
        rw [hcl]
        exact kk0
      · cases hs
    · cases hs
  | iastore =>
    obtain ⟨d1, rfl⟩ := dec_of hd rfl
    simp only [hop] at hs
    split at hs
    · rename_i v x a r
      split at hs
      · rename_i hq
        obtain ⟨h2, ha, hta, hx0, hx1, hq9⟩ := hq
        simp only [Option.some.injEq, Prod.mk.injEq] at hs
        obtain ⟨rfl, rfl⟩ := hs
        obtain ⟨hin, hcl⟩ := ix_conv hx0 hx1 (o3 a ha)
        have hg := WL_get (E := E) (ad := ad) h2 ha
        rw [cE_100 hta] at hg
        refine va_iast hx hb hK hP hD hS0 (a - 2) 0 hg rfl hin d1 (fun H1 locs1 q1 q2 q3 => ?_)
        have k9 := kk ad H1 locs1 (fun _ _ => rfl) (GR.set h2 ha had0 had1 rfl rfl rfl (fun b hb9 => ⟨u2_ne hb9, rfl⟩) ?_ (okH_sI h2 hO) q1 q2 q3)
        · rw [show hC (sI h a x.toNat v) - hC h = 0 from Nat.sub_self _, show hS (sI h a x.toNat v) - hS h = 0 from Nat.sub_self _, Nat.add_zero, Nat.add_zero] at k9
          exact k9
        · rw [cE_100 (by exact hta)]
          refine ieq (fun k => ?_)
          rw [hcl]
          show (if k = x.toNat then Int32.ofInt v else Int32.ofInt (hI h a k)) = Int32.ofInt (u2 (hI h) a x.toNat v a k)
          simp only [u2, true_and]
          split <;> rfl
      · cases hs
    · cases hs
  | bastore =>
    obtain ⟨d1, rfl⟩ := dec_of hd rfl
    simp only [hop] at hs
    split at hs
    · rename_i v x a r
      split at hs
      · rename_i hq
        obtain ⟨h2, ha, hta, hx0, hx1, hq9⟩ := hq
        simp only [Option.some.injEq, Prod.mk.injEq] at hs
        obtain ⟨rfl, rfl⟩ := hs
        obtain ⟨hin, hcl⟩ := ix_conv hx0 hx1 (o3 a ha)
        have hg := WL_get (E := E) (ad := ad) h2 ha
        rw [cE_101 hta] at hg
        refine va_zast hx hb hK hP hD hS0 (a - 2) 1 hg rfl hin d1 (fun H1 locs1 q1 q2 q3 => ?_)
        have k9 := kk ad H1 locs1 (fun _ _ => rfl) (GR.set h2 ha had0 had1 rfl rfl rfl (fun b hb9 => ⟨u2_ne hb9, rfl⟩) ?_ (okH_sI h2 hO) q1 q2 q3)
        · rw [show hC (sI h a x.toNat v) - hC h = 0 from Nat.sub_self _, show hS (sI h a x.toNat v) - hS h = 0 from Nat.sub_self _, Nat.add_zero, Nat.add_zero] at k9
          exact k9
        · rw [cE_101 (by exact hta), (bool_n hq9.2).2.2]
          refine ieq (fun k => ?_)
          rw [hcl]
          show (if k = x.toNat then Int32.ofInt v else Int32.ofInt (hI h a k)) = Int32.ofInt (u2 (hI h) a x.toNat v a k)
          simp only [u2, true_and]
          split <;> rfl
      · cases hs
    · cases hs
  | lastore =>
    obtain ⟨d1, rfl⟩ := dec_of hd rfl
    simp only [hop] at hs
    split at hs
    · rename_i v x a r
      split at hs
      · rename_i hq
        obtain ⟨h2, ha, hta, hx0, hx1, hq9⟩ := hq
        simp only [Option.some.injEq, Prod.mk.injEq] at hs
        obtain ⟨rfl, rfl⟩ := hs
        obtain ⟨hin, hcl⟩ := ix_conv hx0 hx1 (o3 a ha)
        have hg := WL_get (E := E) (ad := ad) h2 ha
        rw [cE_102 hta] at hg
        refine va_last hx hb hK hP hD hS0 (a - 2) 2 hg rfl hin d1 (fun H1 locs1 q1 q2 q3 => ?_)
        have k9 := kk ad H1 locs1 (fun _ _ => rfl) (GR.set h2 ha had0 had1 rfl rfl rfl (fun b hb9 => ⟨u2_ne hb9, rfl⟩) ?_ (okH_sI h2 hO) q1 q2 q3)
        · rw [show hC (sI h a x.toNat v) - hC h = 0 from Nat.sub_self _, show hS (sI h a x.toNat v) - hS h = 0 from Nat.sub_self _, Nat.add_zero, Nat.add_zero] at k9
          exact k9
        · rw [cE_102 (by exact hta)]
          refine leq (fun k => ?_)
          rw [hcl]
          show (if k = x.toNat then Int64.ofInt v else Int64.ofInt (hI h a k)) = Int64.ofInt (u2 (hI h) a x.toNat v a k)
          simp only [u2, true_and]
          split <;> rfl
      · cases hs
    · cases hs
  | aastore =>
    obtain ⟨d1, rfl⟩ := dec_of hd rfl
    simp only [hop] at hs
    split at hs
    · rename_i x a r
      split at hs
      · rename_i hq
        obtain ⟨h2, ha, ht1, ht2, hx0, hx1, -⟩ := hq
        simp only [Option.some.injEq, Prod.mk.injEq] at hs
        obtain ⟨rfl, rfl⟩ := hs
        obtain ⟨hin, hcl⟩ := ix_conv hx0 hx1 (o3 a ha)
        have hg := WL_get (E := E) (ad := ad) h2 ha
        rw [cE_103 rfl ht1] at hg
        refine va_astqN hx hb hK hP hD hS0 (a - 2) (hT h a - 100) hg (xty_get ht1 ht2) hin d1 (fun H1 locs1 q1 q2 q3 => ?_)
        have k9 := kk ad H1 locs1 (fun _ _ => rfl) (GR.set h2 ha had0 had1 rfl rfl rfl (fun b hb9 => ⟨rfl, u2_ne hb9⟩) ?_ (okH_sR (fun b hb9 => by cases hb9) hO) q1 q2 q3)
        · rw [show hC (sR h a x.toNat none) - hC h = 0 from Nat.sub_self _, show hS (sR h a x.toNat none) - hS h = 0 from Nat.sub_self _, Nat.add_zero, Nat.add_zero] at k9
          exact k9
        · rw [cE_103 (h := sR h a x.toNat none) (t := hT h a) rfl ht1]
          refine qeq (fun k => ?_)
          rw [hcl]
          show (if k = x.toNat then none else (hR h a k).map ad) = (u2 (hR h) a x.toNat none a k).map ad
          simp only [u2, true_and]
          split <;> rfl
      · cases hs
    · rename_i b x a r
      split at hs
      · rename_i hq
        obtain ⟨h2, ha, hx0, hx1, -, hbn, hel⟩ := hq
        simp only [Option.some.injEq, Prod.mk.injEq] at hs
        obtain ⟨rfl, rfl⟩ := hs
        have ht1 : 103 ≤ hT h a := by omega
        have ht2 : hT h a ≤ 105 := by omega
        have htb : hT h b < 13 := by omega
        have hb2 : 2 ≤ b := by
          rcases Nat.lt_or_ge b 2 with q | q
          · have : b = 0 ∨ b = 1 := by omega
            rcases this with rfl | rfl <;> omega
          · exact q
        obtain ⟨hin, hcl⟩ := ix_conv hx0 hx1 (o3 a ha)
        have hg := WL_get (E := E) (ad := ad) h2 ha
        rw [cE_103 rfl ht1] at hg
        have hgb := WL_get (E := E) (ad := ad) hb2 hbn
        rw [cE_obj rfl htb] at hgb
        obtain ⟨q0, hq0⟩ : ∃ q : vw_C, xcl[hT h b]? = some q := ⟨_, List.getElem?_eq_getElem (by show hT h b < 13; exact htb)⟩
        have fin : ∀ (H1 : Heap) (locs1 : List Loc), va_P (eC E, eI E) xcl ((WL E ad h).set (a - 2) (ad a, .inl (eA E (hT h a - 100), hL h a, .inr (.inr (.inr (.inr (va_up (fun j => (hR h a j).map ad) (Int32.ofInt x).toNatClampNeg (some (ad b))))))))) H1 → va_D (eN E) ((WL E ad h).set (a - 2) (ad a, .inl (eA E (hT h a - 100), hL h a, .inr (.inr (.inr (.inr (va_up (fun j => (hR h a j).map ad) (Int32.ofInt x).toNatClampNeg (some (ad b))))))))) → va_S (eN E) s.heap H1 locs1 → W p l e R s m args below meth c H1 locs1 cells slots Q (F0 m (pc + 1) lsR (r.map (cv ad))) := fun H1 locs1 q1 q2 q3 => by
          have k9 := kk ad H1 locs1 (fun _ _ => rfl) (GR.set h2 ha had0 had1 rfl rfl rfl (fun b hb9 => ⟨rfl, u2_ne hb9⟩) ?_ (okH_sR (fun b9 hb9 => by cases hb9; exact hbn) hO) q1 q2 q3)
          · rw [show hC (sR h a x.toNat (some b)) - hC h = 0 from Nat.sub_self _, show hS (sR h a x.toNat (some b)) - hS h = 0 from Nat.sub_self _, Nat.add_zero, Nat.add_zero] at k9
            exact k9
          · rw [cE_103 (h := sR h a x.toNat (some b)) (t := hT h a) rfl ht1]
            refine qeq (fun k => ?_)
            rw [hcl]
            show (if k = x.toNat then some (ad b) else (hR h a k).map ad) = (u2 (hR h) a x.toNat (some b) a k).map ad
            simp only [u2, true_and]
            split <;> rfl
        rcases hel with ⟨q1, q2⟩ | ⟨q1, q2⟩ | ⟨q1, q2⟩
        · have hany : va_Any "java/lang/Object" s H (ad b) := by
            obtain ⟨C, T, N⟩ := q0
            obtain ⟨r9, h9, cell, c1, c2, c3, c4⟩ := hP _ _ hgb
            have hr9 : r9 = (C, T, N) := Option.some.inj (h9.symm.trans hq0)
            subst hr9
            have hkn := hK.1 _ _ hq0
            obtain ⟨-, hca, kC, hkC, -⟩ := hkn
            refine ⟨cell, c1, by rw [c3]; rfl, ⟨kC, by rw [c2]; exact hkC⟩, fun comp hcomp => ?_⟩
            have hcst := hcx.2.2.2.2.2.2.2.2.1 _ htb _ hq0
            obtain ⟨c3', c4', z1, z2, z3⟩ := Cond.castable_spec (va_Nw.use (A := args) rfl hcst)
            cases Option.some.inj (z1.symm.trans hca)
            cases Option.some.inj (z2.symm.trans hcomp)
            rw [c2]; exact z3
          refine va_astqM hx hb hK hP hD hS0 (a - 2) (hT h a - 100) hg (by rw [q1]; rfl) hany hin d1 fin
        · refine va_astq hx hb hK hP hD hS0 (a - 2) (hT h a - 100) (b - 2) (hT h b) hg ?_ hgb hq0 hin d1 fin
          have := xty_get (E := E) ht1 ht2
          rw [this, q1]
          rw [q2] at hq0
          have : q0 = ("PerfgaugeHouse$Sheet", cT8, 8) := Option.some.inj (hq0.symm.trans rfl)
          rw [this]; rfl
        · refine va_astq hx hb hK hP hD hS0 (a - 2) (hT h a - 100) (b - 2) (hT h b) hg ?_ hgb hq0 hin d1 fin
          have := xty_get (E := E) ht1 ht2
          rw [this, q1]
          rw [q2] at hq0
          have : q0 = ("PerfgaugeHouse$Piece", cT4, 16) := Option.some.inj (hq0.symm.trans rfl)
          rw [this]; rfl
      · cases hs
    · cases hs
  | arraylength =>
    obtain ⟨d1, rfl⟩ := dec_of hd rfl
    simp only [hop] at hs
    split at hs
    · rename_i a r
      split at hs
      · rename_i hq
        obtain ⟨ha, ht1, ht2⟩ := hq
        simp only [Option.some.injEq, Prod.mk.injEq] at hs
        obtain ⟨rfl, rfl⟩ := hs
        have kk0 := kk ad H locs (fun _ _ => rfl) hG
        simp only [Nat.sub_self, Nat.add_zero] at kk0
        have eI : Int32.ofInt ((hL h a : Nat) : Int) = Int32.ofNat (hL h a) := rfl
        by_cases ha0 : a = 0
        · subst ha0
          show W p l e R s m args below meth c H locs cells slots Q (F0 m pc lsR (Value.ref (ad 0) :: r.map (cv ad)))
          rw [had0]
          exact va_tlen (v := Int32.ofInt ((hL h 0 : Nat) : Int)) hx hb hcx.2.2.1 hS0 (by rw [o4b]; rfl) d1 kk0
        · by_cases ha1 : a = 1
          · subst ha1
            obtain ⟨hX, hbl, hbA, -⟩ := hcx.2.2.2.1
            show W p l e R s m args below meth c H locs cells slots Q (F0 m pc lsR (Value.ref (ad 1) :: r.map (cv ad)))
            rw [had1]
            refine va_slen hx hb hX hbl hbA hS0 d1 ?_
            rw [← o6]
            exact kk0
          · have h2 : 2 ≤ a := by omega
            have hg := WL_get (E := E) (ad := ad) h2 ha
            rcases (show hT h a = 100 ∨ hT h a = 101 ∨ hT h a = 102 ∨ 103 ≤ hT h a by omega) with q | q | q | q
            · rw [cE_100 q] at hg
              exact va_alen hx hb hK hP (a - 2) 0 hg rfl eI.symm d1 kk0
            · rw [cE_101 q] at hg
              exact va_alen hx hb hK hP (a - 2) 1 hg rfl eI.symm d1 kk0
            · rw [cE_102 q] at hg
              exact va_alen hx hb hK hP (a - 2) 2 hg rfl eI.symm d1 kk0
            · rw [cE_103 rfl q] at hg
              exact va_alen hx hb hK hP (a - 2) (hT h a - 100) hg (xty_get q ht2) eI.symm d1 kk0
      · cases hs
    · cases hs
  | new k =>
    obtain ⟨d1, rfl⟩ := dec_of hd rfl
    simp only [hop] at hs
    split at hs
    · rename_i t n hf
      simp only [Option.some.injEq, Prod.mk.injEq] at hs
      obtain ⟨rfl, rfl⟩ := hs
      obtain ⟨C, T, hxc, hlk, hins, hini9⟩ := newL_w hf
      obtain ⟨hin, ht13, hCn, hlen, ty, hty, hnm, hkk⟩ := cls_w t C T n hxc
      have eC1 : hC (alc h t 0 n) - hC h = 1 := by show hC h + 1 - hC h = 1; omega
      have eS1 : hS (alc h t 0 n) - hS h = n := by show hS h + n - hS h = n; omega
      rw [eC1] at hr1
      rw [eS1] at hr2
      rw [eC1, eS1] at kk
      have hfs : ∀ (q : Nat), cE E (u1 ad (hN h) q) (alc h t 0 n) (hN h) = .inr (t, fvl ad (alc h t 0 n) (hN h) 0 (kdl t)) := fun q => by
        rw [cE_obj (by show u1 (hT h) (hN h) t (hN h) = t; simp [u1]) ht13]
        refine oeq ?_
        apply fvl_congr
        intro x k9
        unfold fv
        have : hR (alc h t 0 n) (hN h) x = none := by show ur (hR h) (hN h) (fun _ => none) (hN h) x = none; simp [ur]
        rw [this]; rfl
      refine va_new (ci := t) (fs := fvl ad (alc h t 0 n) (hN h) 0 (kdl t)) hx hb hts hin ty hty hown (hts _ hlk) (hts _ hins) (hts _ hini9) hK hP hD hS0 hA hxc (fun j hj => ?_) hr1 hr2 d1 (fun q H1 q1 q2 q3 => ?_)
      · obtain ⟨k1, k2⟩ := hkk j hj
        have hv := fvl_get (ad := ad) (h := alc h t 0 n) (a := hN h) (i := 0) k1
        unfold vp_V
        rw [List.getD_eq_getElem?_getD, hv, Nat.zero_add]
        have r1 : hR (alc h t 0 n) (hN h) j = none := by show ur (hR h) (hN h) (fun _ => none) (hN h) j = none; simp [ur]
        have r2 : hI (alc h t 0 n) (hN h) j = 0 := by show ur (hI h) (hN h) (fun _ => 0) (hN h) j = 0; simp [ur]
        unfold fv
        rw [r1, r2]
        cases htt : ty j <;> rw [htt] at k2 <;> first | rfl | exact absurd rfl k2
      · have k9 := kk (u1 ad (hN h) q) H1 locs (fun a ha => by simp only [u1]; rw [if_neg (by omega)]) (GR.push hO had0 had1 (by omega) (hfs q).symm q1 q2 q3)
        rw [List.map_cons] at k9
        have e9 : cv (u1 ad (hN h) q) (vR (some (hN h))) = .ref q := by show Value.ref (u1 ad (hN h) q (hN h)) = _; simp [u1]
        rw [e9, map_ext (n := hN h) (ad := ad) (fun a ha => by simp only [u1]; rw [if_neg (by omega)]) hc] at k9
        exact k9
    · cases hs
  | newarray t =>
    obtain ⟨d1, rfl⟩ := dec_of hd rfl
    simp only [hop] at hs
    split at hs
    · rename_i x r
      split at hs
      · rename_i hq
        obtain ⟨ht0, hx0, hx1⟩ := hq
        simp only [Option.some.injEq, Prod.mk.injEq] at hs
        obtain ⟨rfl, rfl⟩ := hs
        have eC1 : hC (alc h (nwTag t) x.toNat x.toNat) - hC h = 1 := by show hC h + 1 - hC h = 1; omega
        have eS1 : hS (alc h (nwTag t) x.toNat x.toNat) - hS h = x.toNat := by show hS h + x.toNat - hS h = x.toNat; omega
        rw [eC1] at hr1
        rw [eS1] at hr2
        rw [eC1, eS1] at kk
        have eti : (Int32.ofInt x).toInt = x := Int32.toInt_ofInt_of_le (by omega) (by omega)
        have hng : ¬ Int32.ofInt x < 0 := fun q => by
          have := Int32.lt_iff_toInt_lt.mp q
          rw [eti] at this
          have h0' : (0 : Int32).toInt = 0 := by decide
          rw [h0'] at this; omega
        have hcl : (Int32.ofInt x).toNatClampNeg = x.toNat := by
          show (Int32.ofInt x).toInt.toNat = x.toNat
          rw [eti]
        have hc' := (clS_cons.mp hc).2
        have fin : ∀ (q : Nat) (H1 : Heap) (e9 : va_E), e9 = cE E (u1 ad (hN h) q) (alc h (nwTag t) x.toNat x.toNat) (hN h) → va_P (eC E, eI E) xcl (WL E ad h ++ [(q, e9)]) H1 → va_D (eN E) (WL E ad h ++ [(q, e9)]) → va_S (eN E) s.heap H1 locs → W p l e R s m args below meth c H1 locs (cells + 1) (slots + x.toNat) Q (F0 m (pc + 2) lsR (.ref q :: r.map (cv ad))) := fun q H1 e9 he q1 q2 q3 => by
          have k9 := kk (u1 ad (hN h) q) H1 locs (fun a ha => by simp only [u1]; rw [if_neg (by omega)]) (GR.push hO had0 had1 (by omega) he q1 q2 q3)
          rw [List.map_cons] at k9
          have e9 : cv (u1 ad (hN h) q) (vR (some (hN h))) = .ref q := by show Value.ref (u1 ad (hN h) q (hN h)) = _; simp [u1]
          rw [e9, map_ext (n := hN h) (ad := ad) (fun a ha => by simp only [u1]; rw [if_neg (by omega)]) hc'] at k9
          exact k9
        have eT : ∀ t9, nwTag t = t9 → hT (alc h (nwTag t) x.toNat x.toNat) (hN h) = t9 := fun t9 q => by show u1 (hT h) (hN h) (nwTag t) (hN h) = t9; simp [u1, q]
        have eL : hL (alc h (nwTag t) x.toNat x.toNat) (hN h) = x.toNat := by show u1 (hL h) (hN h) x.toNat (hN h) = _; simp [u1]
        have eI0 : ∀ j, hI (alc h (nwTag t) x.toNat x.toNat) (hN h) j = 0 := fun j => by show ur (hI h) (hN h) (fun _ => 0) (hN h) j = 0; simp [ur]
        cases t with
        | int =>
          refine va_newa (a0 := (x.toNat, .inl (fun _ => 0))) hx hb (atype := .int) (hts _ acls_w.1) rfl hK hP hD hS0 hA (fun cA => rfl) hng hcl (by show x.toNat * 4 ≤ _; omega) hr1 hr2 d1 (fun q cA H1 k0 q1 q2 q3 => ?_)
          have ecA : cA = eA E 0 := by
            have z1 := (hK.2 0 _ rfl).2
            have z2 := (k0.2 6 (cA, .int) rfl).2
            exact Option.some.inj (z2.symm.trans z1)
          subst ecA
          refine fin q H1 _ ?_ q1 q2 q3
          rw [cE_100 (eT 100 rfl), eL]
          exact ieq (fun j => by rw [eI0]; rfl)
        | boolean =>
          refine va_newa (a0 := (x.toNat, .inl (fun _ => 0))) hx hb (atype := .boolean) (hts _ acls_w.2.1) rfl hK hP hD hS0 hA (fun cA => rfl) hng hcl (by show x.toNat * 1 ≤ _; omega) hr1 hr2 d1 (fun q cA H1 k0 q1 q2 q3 => ?_)
          have ecA : cA = eA E 1 := by
            have z1 := (hK.2 1 _ rfl).2
            have z2 := (k0.2 6 (cA, .boolean) rfl).2
            exact Option.some.inj (z2.symm.trans z1)
          subst ecA
          refine fin q H1 _ ?_ q1 q2 q3
          rw [cE_101 (eT 101 rfl), eL]
          exact ieq (fun j => by rw [eI0]; rfl)
        | long =>
          refine va_newa (a0 := (x.toNat, .inr (.inl (fun _ => 0)))) hx hb (atype := .long) (hts _ acls_w.2.2) rfl hK hP hD hS0 hA (fun cA => rfl) hng hcl (by show x.toNat * 8 ≤ _; omega) hr1 hr2 d1 (fun q cA H1 k0 q1 q2 q3 => ?_)
          have ecA : cA = eA E 2 := by
            have z1 := (hK.2 2 _ rfl).2
            have z2 := (k0.2 6 (cA, .long) rfl).2
            exact Option.some.inj (z2.symm.trans z1)
          subst ecA
          refine fin q H1 _ ?_ q1 q2 q3
          rw [cE_102 (eT 102 rfl), eL]
          exact leq (fun j => by rw [eI0]; rfl)
        | _ => exact absurd rfl ht0
      · cases hs
    · cases hs
  | anewarray k =>
    obtain ⟨d1, rfl⟩ := dec_of hd rfl
    simp only [hop] at hs
    split at hs
    · rename_i g hf
      obtain ⟨hlk, hg1, hg2⟩ := anwL_w hf
      split at hs
      · rename_i x r
        split at hs
        · rename_i hq
          obtain ⟨hx0, hx1⟩ := hq
          simp only [Option.some.injEq, Prod.mk.injEq] at hs
          obtain ⟨rfl, rfl⟩ := hs
          have eC1 : hC (alc h g x.toNat x.toNat) - hC h = 1 := by show hC h + 1 - hC h = 1; omega
          have eS1 : hS (alc h g x.toNat x.toNat) - hS h = x.toNat := by show hS h + x.toNat - hS h = x.toNat; omega
          rw [eC1] at hr1
          rw [eS1] at hr2
          rw [eC1, eS1] at kk
          have eti : (Int32.ofInt x).toInt = x := Int32.toInt_ofInt_of_le (by omega) (by omega)
          have hng : ¬ Int32.ofInt x < 0 := fun q => by
            have := Int32.lt_iff_toInt_lt.mp q
            rw [eti] at this
            have h0' : (0 : Int32).toInt = 0 := by decide
            rw [h0'] at this; omega
          have hcl : (Int32.ofInt x).toNatClampNeg = x.toNat := by
            show (Int32.ofInt x).toInt.toNat = x.toNat
            rw [eti]
          have hc' := (clS_cons.mp hc).2
          have hover : va_AO (aEl g) s := by
            obtain ⟨b1, b2, b3⟩ := hcx.2.2.2.2.2.2.2.1
            rcases (show g = 103 ∨ g = 104 ∨ g = 105 by omega) with rfl | rfl | rfl
            · exact b1
            · exact b2
            · exact b3
          refine va_newq hx hb hown (hts _ hlk) hover hK hP hD hS0 hA hng hcl (by omega) hr1 hr2 d1 (fun q cA H1 k0 q1 q2 q3 => ?_)
          have ecA : cA = eA E (g - 100) := by
            have z1 := (hK.2 (g - 100) _ (xty_get hg1 hg2)).2
            have z2 := (k0.2 6 (cA, .object (aEl g)) rfl).2
            obtain ⟨k1, c1, x1, x2, x3, x4⟩ := z1
            obtain ⟨k2, c2, y1, y2, y3, y4⟩ := z2
            exact Option.some.inj (y4.symm.trans x4)
          subst ecA
          have k9 := kk (u1 ad (hN h) q) H1 locs (fun a ha => by simp only [u1]; rw [if_neg (by omega)]) (GR.push hO had0 had1 (by omega) ?_ q1 q2 q3)
          · rw [List.map_cons] at k9
            have e9 : cv (u1 ad (hN h) q) (vR (some (hN h))) = .ref q := by show Value.ref (u1 ad (hN h) q (hN h)) = _; simp [u1]
            rw [e9, map_ext (n := hN h) (ad := ad) (fun a ha => by simp only [u1]; rw [if_neg (by omega)]) hc'] at k9
            exact k9
          · rw [cE_103 (h := alc h g x.toNat x.toNat) (t := g) (by show u1 (hT h) (hN h) g (hN h) = g; simp [u1]) hg1]
            have eL : hL (alc h g x.toNat x.toNat) (hN h) = x.toNat := by show u1 (hL h) (hN h) x.toNat (hN h) = _; simp [u1]
            rw [eL]
            refine qeq (fun j => ?_)
            have : hR (alc h g x.toNat x.toNat) (hN h) j = none := by show ur (hR h) (hN h) (fun _ => none) (hN h) j = none; simp [ur]
            rw [this]; rfl
        · cases hs
      · cases hs
    · cases hs
  | checkcast k =>
    obtain ⟨d1, rfl⟩ := dec_of hd rfl
    simp only [hop] at hs
    split at hs
    · rename_i t hf
      obtain ⟨C, T, N, hxc, hlk⟩ := cstT_w hf
      obtain ⟨hin, ht13, hCn, hlen, ty, hty, hnm, hkk⟩ := cls_w t C T N hxc
      split at hs
      · rename_i a r
        split at hs
        · rename_i hq
          obtain ⟨ha, hta⟩ := hq
          simp only [Option.some.injEq, Prod.mk.injEq] at hs
          obtain ⟨rfl, rfl⟩ := hs
          have kk0 := kk ad H locs (fun _ _ => rfl) hG
          simp only [Nat.sub_self, Nat.add_zero] at kk0
          have h2 : 2 ≤ a := by
            rcases Nat.lt_or_ge a 2 with q | q
            · have : a = 0 ∨ a = 1 := by omega
              rcases this with rfl | rfl <;> omega
            · exact q
          have hg := hG.cell h2 ha
          rw [cE_obj hta ht13] at hg
          obtain ⟨r9, h9, cell, c1, c2, c3, c4⟩ := hg
          have hr9 : r9 = (C, T, N) := Option.some.inj (h9.symm.trans hxc)
          subst hr9
          obtain ⟨-, hca⟩ := hK.1 _ _ hxc
          exact va_castS hx hb hown (hts _ hlk) hca ⟨cell, c1, by rw [c3]; rfl, by rw [c2]; exact hca.1⟩ d1 kk0
        · cases hs
      · cases hs
    · cases hs
  | _ => cases hs
end HOP
end
section
/-! ===== references stay within the cells; nothing shrinks ===== -/
theorem clS_nil {n : Nat} : clS n [] := fun _ h => absurd h List.not_mem_nil
set_option maxHeartbeats 4000000 in
theorem sop_cl {n c : Nat} {i : Instr} {st st' : List XV} (hc : clS n st) (hs : sop c i st = some st') : clS n st' := by
  cases i <;> simp only [sop] at hs <;> first
    | (cases hs; done)
    | (cases hs; exact clS_cons.mpr ⟨trivial, hc⟩)
    | (split at hs <;> first
        | (cases hs; done)
        | (cases hs; exact clS_cons.mpr ⟨trivial, hc⟩)
        | (cases hs; exact clS_cons.mpr ⟨trivial, (clS_cons.mp (clS_cons.mp hc).2).2⟩)
        | (cases hs; exact clS_cons.mpr ⟨trivial, (clS_cons.mp hc).2⟩)
        | (split at hs <;> first
            | (cases hs; done)
            | (cases hs; exact clS_cons.mpr ⟨trivial, (clS_cons.mp (clS_cons.mp hc).2).2⟩)
            | (cases hs; exact clS_cons.mpr ⟨(clS_cons.mp hc).1, hc⟩)
            | (cases hs; exact (clS_cons.mp hc).2)
            | (cases hs; have h1 := clS_cons.mp hc; have h2 := clS_cons.mp h1.2; exact clS_cons.mpr ⟨h1.1, clS_cons.mpr ⟨h2.1, clS_cons.mpr ⟨h1.1, h2.2⟩⟩⟩)
            | (cases hs; have h1 := clS_cons.mp hc; have h2 := clS_cons.mp h1.2; exact clS_cons.mpr ⟨h1.1, clS_cons.mpr ⟨h2.1, hc⟩⟩)))
set_option maxHeartbeats 4000000 in
theorem lop_cl {n : Nat} {i : Instr} {ls ls' : XL} {st st' : List XV} (hl : clL n ls) (hc : clS n st) (hs : lop i ls st = some (ls', st')) : clL n ls' ∧ clS n st' := by
  have ldr : ∀ k x, ln ls k = some (some (.inr (.inr x))) → clV n (vR x) := fun k x e => hl k _ e
  have st1c : ∀ (k : Nat) (v : XV) (r : List XV), clV n v → clS n r → (st1 ls k v).map (fun l => (l, r)) = some (ls', st') → clL n ls' ∧ clS n st' := by
    intro k v r hv hr e
    cases hm : st1 ls k v with
    | none => rw [hm] at e; cases e
    | some l2 =>
      rw [hm] at e
      simp only [Option.map_some, Option.some.injEq, Prod.mk.injEq] at e
      obtain ⟨rfl, rfl⟩ := e
      exact ⟨clL_st1 hl hv hm, hr⟩
  have st2c : ∀ (k : Nat) (v : XV) (r : List XV), clV n v → clS n r → (st2 ls k v).map (fun l => (l, r)) = some (ls', st') → clL n ls' ∧ clS n st' := by
    intro k v r hv hr e
    cases hm : st2 ls k v with
    | none => rw [hm] at e; cases e
    | some l2 =>
      rw [hm] at e
      simp only [Option.map_some, Option.some.injEq, Prod.mk.injEq] at e
      obtain ⟨rfl, rfl⟩ := e
      exact ⟨clL_st2 hl hv hm, hr⟩
  cases i <;> simp only [lop] at hs <;> first
    | (cases hs; done)
    | (split at hs <;> first
        | (cases hs; done)
        | (cases hs; exact ⟨hl, clS_cons.mpr ⟨trivial, hc⟩⟩)
        | (rename_i q; cases hs; exact ⟨hl, clS_cons.mpr ⟨ldr _ _ q, hc⟩⟩)
        | (refine st1c _ _ _ ?_ ?_ hs <;> first | exact True.intro | exact (clS_cons.mp hc).1 | exact (clS_cons.mp hc).2 | exact hc)
        | (refine st2c _ _ _ ?_ ?_ hs <;> first | exact True.intro | exact (clS_cons.mp hc).1 | exact (clS_cons.mp hc).2 | exact hc))
set_option maxHeartbeats 4000000 in
theorem jop_cl {n pc nx t : Nat} {i : Instr} {st st' : List XV} (hc : clS n st) (hs : jop pc nx i st = some (t, st')) : clS n st' := by
  cases i with
  | goto o =>
    simp only [jop] at hs
    split at hs
    · cases hs; exact hc
    · cases hs
  | ifCond c o =>
    simp only [jop] at hs
    split at hs
    · split at hs
      · simp only [Option.some.injEq, Prod.mk.injEq] at hs
        obtain ⟨-, rfl⟩ := hs
        exact (clS_cons.mp hc).2
      · cases hs
    · cases hs
  | if_icmp c o =>
    simp only [jop] at hs
    split at hs
    · split at hs
      · simp only [Option.some.injEq, Prod.mk.injEq] at hs
        obtain ⟨-, rfl⟩ := hs
        exact (clS_cons.mp (clS_cons.mp hc).2).2
      · cases hs
    · cases hs
  | if_acmp c o =>
    simp only [jop] at hs
    split at hs
    · simp only [Option.some.injEq, Prod.mk.injEq] at hs
      obtain ⟨-, rfl⟩ := hs
      exact (clS_cons.mp (clS_cons.mp hc).2).2
    · cases hs
  | tableswitch df lo hi os =>
    simp only [jop] at hs
    split at hs
    · split at hs
      · split at hs
        · split at hs
          · split at hs
            · cases hs; exact (clS_cons.mp hc).2
            · cases hs
          · cases hs
        · split at hs
          · cases hs; exact (clS_cons.mp hc).2
          · cases hs
      · cases hs
    · cases hs
  | _ => cases hs
/-- later cells: no fewer, none lost -/
def leH (h h' : Hp) : Prop := hN h ≤ hN h' ∧ hC h ≤ hC h' ∧ hS h ≤ hS h'
theorem leH.rfl {h : Hp} : leH h h := ⟨Nat.le_refl _, Nat.le_refl _, Nat.le_refl _⟩
theorem leH.trans {a b c : Hp} (h : leH a b) (k : leH b c) : leH a c := ⟨Nat.le_trans h.1 k.1, Nat.le_trans h.2.1 k.2.1, Nat.le_trans h.2.2 k.2.2⟩
theorem leH_alc {h : Hp} {t len sl : Nat} : leH h (alc h t len sl) := ⟨Nat.le_succ _, Nat.le_succ _, Nat.le_add_right _ _⟩
set_option maxHeartbeats 8000000 in
theorem hop_cl {E : XE} {D : Nat → Nat → Bool} {y c : Nat} {i : Instr} {st st' : List XV} {h h' : Hp} (hO : okH E h) (hc : clS (hN h) st) (hs : hop D y c i st h = some (st', h')) : leH h h' ∧ clS (hN h') st' := by
  obtain ⟨o1, o2, -⟩ := id hO
  have al : ∀ (t len sl : Nat) (r : List XV), clS (hN h) r → leH h (alc h t len sl) ∧ clS (hN (alc h t len sl)) (vR (some (hN h)) :: r) := fun t len sl r hr => ⟨leH_alc, clS_cons.mpr ⟨Nat.lt_succ_self _, clS_mono (Nat.le_succ _) hr⟩⟩
  have okr : ∀ a j, a < hN h → clV (hN h) (vR (hR h a j)) := fun a j ha => by
    cases hr : hR h a j with
    | none => trivial
    | some b => exact o2 a j b ha hr
  cases i <;> simp only [hop] at hs <;> first
    | (cases hs; done)
    | skip
  case getfield k =>
    split at hs
    · split at hs
      · split at hs
        · rename_i hq
          simp only [Option.some.injEq, Prod.mk.injEq] at hs
          obtain ⟨rfl, rfl⟩ := hs
          refine ⟨leH.rfl, clS_cons.mpr ⟨?_, (clS_cons.mp hc).2⟩⟩
          split
          · exact okr _ _ hq.1
          · split <;> trivial
        · cases hs
      · cases hs
    · cases hs
  case putfield k =>
    split at hs
    · split at hs <;> first
        | (cases hs; done)
        | (split at hs
           · cases hs; exact ⟨leH.rfl, (clS_cons.mp (clS_cons.mp hc).2).2⟩
           · cases hs)
    · cases hs
  case getstatic k =>
    split at hs
    · cases hs; exact ⟨leH.rfl, clS_cons.mpr ⟨by show 0 < hN h; omega, hc⟩⟩
    · cases hs
  case aaload =>
    split at hs
    · split at hs
      · rename_i x a r hq
        simp only [Option.some.injEq, Prod.mk.injEq] at hs
        obtain ⟨rfl, rfl⟩ := hs
        refine ⟨leH.rfl, clS_cons.mpr ⟨?_, (clS_cons.mp (clS_cons.mp hc).2).2⟩⟩
        cases hr : hR h a x.toNat with
        | none => trivial
        | some b => exact o2 a _ b hq.1 hr
      · cases hs
    · cases hs
  case new k =>
    split at hs
    · cases hs; exact al _ _ _ _ hc
    · cases hs
  case newarray t =>
    split at hs
    · split at hs
      · cases hs; exact al _ _ _ _ (clS_cons.mp hc).2
      · cases hs
    · cases hs
  case anewarray k =>
    split at hs
    · split at hs
      · split at hs
        · cases hs; exact al _ _ _ _ (clS_cons.mp hc).2
        · cases hs
      · cases hs
    · cases hs
  case checkcast k =>
    split at hs
    · split at hs
      · split at hs
        · cases hs; exact ⟨leH.rfl, hc⟩
        · cases hs
      · cases hs
    · cases hs
  case arraylength =>
    split at hs
    · split at hs
      · cases hs; exact ⟨leH.rfl, clS_cons.mpr ⟨trivial, (clS_cons.mp hc).2⟩⟩
      · cases hs
    · cases hs
  all_goals
    split at hs <;> first
      | (cases hs; done)
      | (split at hs
         · cases hs; first
            | exact ⟨leH.rfl, clS_cons.mpr ⟨trivial, (clS_cons.mp (clS_cons.mp hc).2).2⟩⟩
            | exact ⟨leH.rfl, (clS_cons.mp (clS_cons.mp (clS_cons.mp hc).2).2).2⟩
         · cases hs)
theorem popN_cl {n k : Nat} {st as r : List XV} (hc : clS n st) (h : popN k st = some (as, r)) : clS n as ∧ clS n r ∧ st = as.reverse ++ r ∧ as.length = k := by
  unfold popN at h
  split at h
  · rename_i hk
    cases h
    refine ⟨fun v hv => hc v (List.mem_of_mem_take (List.mem_reverse.mp hv)), fun v hv => hc v (List.mem_of_mem_drop hv), ?_, ?_⟩
    · rw [List.reverse_reverse, List.take_append_drop]
    · simp; omega
  · cases h
theorem nat_cl {E : XE} {D : Nat → Nat → Bool} {z : Nat} {as : List XV} {v : Option XV} {h h' : Hp} (hO : okH E h) (hs : nat D z as h = some (v, h')) : leH h h' ∧ (∀ w, v = some w → clV (hN h') w) := by
  unfold nat at hs
  split at hs <;> first
    | (cases hs; done)
    | (split at hs
       · simp only [Option.some.injEq, Prod.mk.injEq] at hs
         obtain ⟨rfl, rfl⟩ := hs
         first
          | (refine ⟨leH.rfl, ?_⟩; intro w hw; cases hw; done)
          | (refine ⟨leH.rfl, ?_⟩; intro w hw; cases hw; exact True.intro)
          | (refine ⟨⟨Nat.le_refl _, Nat.le_refl _, Nat.le_refl _⟩, ?_⟩; intro w hw; cases hw; done)
          | (refine ⟨⟨Nat.le_succ _, Nat.le_succ _, Nat.le_add_right _ _⟩, ?_⟩; intro w hw; cases hw; exact Nat.lt_succ_self _)
       · cases hs)
theorem szS_eq {ad : Nat → Nat} {st : List XV} : ((st.map (cv ad)).map fun v => v.category).sum = szS st := by
  unfold szS
  rw [List.map_map]
  congr 1
  apply List.map_congr_left
  intro v _
  exact cv_cat ad v
end
