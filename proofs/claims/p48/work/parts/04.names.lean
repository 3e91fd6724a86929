/-! ===== classes, methods, words ===== -/
def cT0 : u_T := fun k => match k with
  | 0 => ("PerfgaugeHouse$Bid", "bidder", "I", true)
  | 1 => ("PerfgaugeHouse$Bid", "items", "I", true)
  | _ => ("PerfgaugeHouse$Bid", "amount", "I", true)
def cY0 : Nat → FieldType := fun k => match k with
  | 0 => .int
  | 1 => .int
  | _ => .int
def cT1 : u_T := fun k => match k with
  | 0 => ("PerfgaugeHouse$Cover", "from", "I", true)
  | 1 => ("PerfgaugeHouse$Cover", "to", "I", true)
  | 2 => ("PerfgaugeHouse$Cover", "weight", "I", true)
  | 3 => ("PerfgaugeHouse$Cover", "die", "I", true)
  | 4 => ("PerfgaugeHouse$Cover", "day", "I", true)
  | 5 => ("PerfgaugeHouse$Cover", "arrived", "I", false)
  | 6 => ("PerfgaugeHouse$Cover", "isTaxed", "Z", false)
  | _ => ("PerfgaugeHouse$Cover", "stamps", "[I", true)
def cY1 : Nat → FieldType := fun k => match k with
  | 0 => .int
  | 1 => .int
  | 2 => .int
  | 3 => .int
  | 4 => .int
  | 5 => .int
  | 6 => .boolean
  | _ => .array .int
def cT2 : u_T := fun k => match k with
  | 0 => ("PerfgaugeHouse$Experts", "trust", "[I", true)
  | 1 => ("PerfgaugeHouse$Experts", "opinions", "I", false)
  | 2 => ("PerfgaugeHouse$Experts", "opinionPiece", "[I", true)
  | 3 => ("PerfgaugeHouse$Experts", "opinionExpert", "[I", true)
  | 4 => ("PerfgaugeHouse$Experts", "opinionDay", "[I", true)
  | _ => ("PerfgaugeHouse$Experts", "isGood", "[Z", true)
def cY2 : Nat → FieldType := fun k => match k with
  | 0 => .array .int
  | 1 => .int
  | 2 => .array .int
  | 3 => .array .int
  | 4 => .array .int
  | _ => .array .boolean
def cT3 : u_T := fun k => match k with
  | 0 => ("PerfgaugeHouse$Hands", "count", "I", false)
  | _ => ("PerfgaugeHouse$Hands", "often", "[I", true)
def cY3 : Nat → FieldType := fun k => match k with
  | 0 => .int
  | _ => .array .int
def cT4 : u_T := fun k => match k with
  | 0 => ("PerfgaugeHouse$Piece", "number", "I", true)
  | 1 => ("PerfgaugeHouse$Piece", "wide", "I", true)
  | 2 => ("PerfgaugeHouse$Piece", "high", "I", true)
  | 3 => ("PerfgaugeHouse$Piece", "sheet", "I", true)
  | 4 => ("PerfgaugeHouse$Piece", "isTop", "Z", true)
  | 5 => ("PerfgaugeHouse$Piece", "place", "I", false)
  | 6 => ("PerfgaugeHouse$Piece", "seen", "[I", true)
  | 7 => ("PerfgaugeHouse$Piece", "isClear", "[Z", true)
  | 8 => ("PerfgaugeHouse$Piece", "fits", "[I", true)
  | 9 => ("PerfgaugeHouse$Piece", "plateWide", "I", false)
  | 10 => ("PerfgaugeHouse$Piece", "gauges", "[I", true)
  | 11 => ("PerfgaugeHouse$Piece", "marks", "[I", true)
  | 12 => ("PerfgaugeHouse$Piece", "isTruthTold", "Z", false)
  | 13 => ("PerfgaugeHouse$Piece", "hasShade", "Z", false)
  | 14 => ("PerfgaugeHouse$Piece", "shade", "[I", true)
  | _ => ("PerfgaugeHouse$Piece", "light", "I", false)
def cY4 : Nat → FieldType := fun k => match k with
  | 0 => .int
  | 1 => .int
  | 2 => .int
  | 3 => .int
  | 4 => .boolean
  | 5 => .int
  | 6 => .array .int
  | 7 => .array .boolean
  | 8 => .array .int
  | 9 => .int
  | 10 => .array .int
  | 11 => .array .int
  | 12 => .boolean
  | 13 => .boolean
  | 14 => .array .int
  | _ => .int
def cT5 : u_T := fun k => match k with
  | 0 => ("PerfgaugeHouse$Plate", "wide", "I", false)
  | 1 => ("PerfgaugeHouse$Plate", "high", "I", false)
  | 2 => ("PerfgaugeHouse$Plate", "flaws", "I", false)
  | _ => ("PerfgaugeHouse$Plate", "faces", "[I", true)
def cY5 : Nat → FieldType := fun k => match k with
  | 0 => .int
  | 1 => .int
  | 2 => .int
  | _ => .array .int
def cT6 : u_T := fun k => match k with
  | 0 => ("PerfgaugeHouse$Post", "roads", "[I", true)
  | 1 => ("PerfgaugeHouse$Post", "ways", "[I", true)
  | 2 => ("PerfgaugeHouse$Post", "rates", "I", false)
  | 3 => ("PerfgaugeHouse$Post", "rateFrom", "[I", true)
  | 4 => ("PerfgaugeHouse$Post", "rateDistance", "[I", true)
  | 5 => ("PerfgaugeHouse$Post", "rateWeight", "[I", true)
  | _ => ("PerfgaugeHouse$Post", "ratePrice", "[I", true)
def cY6 : Nat → FieldType := fun k => match k with
  | 0 => .array .int
  | 1 => .array .int
  | 2 => .int
  | 3 => .array .int
  | 4 => .array .int
  | 5 => .array .int
  | _ => .array .int
def cT7 : u_T := fun k => match k with
  | 0 => ("PerfgaugeHouse$Sale", "items", "I", false)
  | 1 => ("PerfgaugeHouse$Sale", "isCover", "[Z", true)
  | 2 => ("PerfgaugeHouse$Sale", "number", "[I", true)
  | 3 => ("PerfgaugeHouse$Sale", "reserve", "[I", true)
  | 4 => ("PerfgaugeHouse$Sale", "bids", "Ljava/util/ArrayList;", true)
  | 5 => ("PerfgaugeHouse$Sale", "barred", "I", false)
  | 6 => ("PerfgaugeHouse$Sale", "isSettled", "Z", false)
  | 7 => ("PerfgaugeHouse$Sale", "counting", "J", false)
  | 8 => ("PerfgaugeHouse$Sale", "amounts", "[I", true)
  | 9 => ("PerfgaugeHouse$Sale", "counts", "[I", true)
  | _ => ("PerfgaugeHouse$Sale", "choices", "[J", true)
def cY7 : Nat → FieldType := fun k => match k with
  | 0 => .int
  | 1 => .array .boolean
  | 2 => .array .int
  | 3 => .array .int
  | 4 => .object "java/util/ArrayList"
  | 5 => .int
  | 6 => .boolean
  | 7 => .long
  | 8 => .array .int
  | 9 => .array .int
  | _ => .array .long
def cT8 : u_T := fun k => match k with
  | 0 => ("PerfgaugeHouse$Sheet", "members", "[LPerfgaugeHouse$Piece;", true)
  | 1 => ("PerfgaugeHouse$Sheet", "size", "I", false)
  | 2 => ("PerfgaugeHouse$Sheet", "platings", "I", false)
  | 3 => ("PerfgaugeHouse$Sheet", "printings", "I", false)
  | 4 => ("PerfgaugeHouse$Sheet", "covered", "I", false)
  | 5 => ("PerfgaugeHouse$Sheet", "places", "[I", true)
  | 6 => ("PerfgaugeHouse$Sheet", "first", "[I", true)
  | _ => ("PerfgaugeHouse$Sheet", "tried", "[I", true)
def cY8 : Nat → FieldType := fun k => match k with
  | 0 => .array (.object "PerfgaugeHouse$Piece")
  | 1 => .int
  | 2 => .int
  | 3 => .int
  | 4 => .int
  | 5 => .array .int
  | 6 => .array .int
  | _ => .array .int
def cT9 : u_T := fun k => match k with
  | 0 => ("PerfgaugeHouse$Standards", "count", "I", false)
  | 1 => ("PerfgaugeHouse$Standards", "isTold", "[Z", true)
  | _ => ("PerfgaugeHouse$Standards", "numbers", "[I", true)
def cY9 : Nat → FieldType := fun k => match k with
  | 0 => .int
  | 1 => .array .boolean
  | _ => .array .int
def cT10 : u_T := fun k => match k with
  | 0 => ("PerfgaugeHouse$Term", "what", "I", true)
  | 1 => ("PerfgaugeHouse$Term", "from", "I", true)
  | _ => ("PerfgaugeHouse$Term", "to", "I", true)
def cY10 : Nat → FieldType := fun k => match k with
  | 0 => .int
  | 1 => .int
  | _ => .int
def cT11 : u_T := fun k => match k with
  | 0 => ("PerfgaugeHouse", "plate", "LPerfgaugeHouse$Plate;", true)
  | 1 => ("PerfgaugeHouse", "pieces", "Ljava/util/ArrayList;", true)
  | 2 => ("PerfgaugeHouse", "sheets", "[LPerfgaugeHouse$Sheet;", true)
  | 3 => ("PerfgaugeHouse", "post", "LPerfgaugeHouse$Post;", true)
  | 4 => ("PerfgaugeHouse", "issues", "Ljava/util/ArrayList;", true)
  | 5 => ("PerfgaugeHouse", "dies", "Ljava/util/ArrayList;", true)
  | 6 => ("PerfgaugeHouse", "covers", "Ljava/util/ArrayList;", true)
  | 7 => ("PerfgaugeHouse", "hands", "LPerfgaugeHouse$Hands;", true)
  | 8 => ("PerfgaugeHouse", "experts", "LPerfgaugeHouse$Experts;", true)
  | 9 => ("PerfgaugeHouse", "sale", "LPerfgaugeHouse$Sale;", true)
  | 10 => ("PerfgaugeHouse", "standards", "LPerfgaugeHouse$Standards;", true)
  | 11 => ("PerfgaugeHouse", "today", "I", false)
  | 12 => ("PerfgaugeHouse", "fewestStamps", "[I", true)
  | 13 => ("PerfgaugeHouse", "frameStamps", "[I", true)
  | _ => ("PerfgaugeHouse", "frameValues", "[I", true)
def cY11 : Nat → FieldType := fun k => match k with
  | 0 => .object "PerfgaugeHouse$Plate"
  | 1 => .object "java/util/ArrayList"
  | 2 => .array (.object "PerfgaugeHouse$Sheet")
  | 3 => .object "PerfgaugeHouse$Post"
  | 4 => .object "java/util/ArrayList"
  | 5 => .object "java/util/ArrayList"
  | 6 => .object "java/util/ArrayList"
  | 7 => .object "PerfgaugeHouse$Hands"
  | 8 => .object "PerfgaugeHouse$Experts"
  | 9 => .object "PerfgaugeHouse$Sale"
  | 10 => .object "PerfgaugeHouse$Standards"
  | 11 => .int
  | 12 => .array .int
  | 13 => .array .int
  | _ => .array .int
def cT12 : u_T := fun k => match k with
  | 0 => ("java/util/AbstractList", "modCount", "I", false)
  | 1 => ("java/util/ArrayList", "elementData", "[Ljava/lang/Object;", false)
  | _ => ("java/util/ArrayList", "size", "I", false)
def cY12 : Nat → FieldType := fun k => match k with
  | 0 => .int
  | 1 => .array (.object "java/lang/Object")
  | _ => .int
abbrev xcl : List vw_C := [("PerfgaugeHouse$Bid", cT0, 3), ("PerfgaugeHouse$Cover", cT1, 8), ("PerfgaugeHouse$Experts", cT2, 6), ("PerfgaugeHouse$Hands", cT3, 2), ("PerfgaugeHouse$Piece", cT4, 16), ("PerfgaugeHouse$Plate", cT5, 4), ("PerfgaugeHouse$Post", cT6, 7), ("PerfgaugeHouse$Sale", cT7, 11), ("PerfgaugeHouse$Sheet", cT8, 8), ("PerfgaugeHouse$Standards", cT9, 3), ("PerfgaugeHouse$Term", cT10, 3), ("PerfgaugeHouse", cT11, 15), ("java/util/ArrayList", cT12, 3)]
def KDS : List (List Nat) := [[0, 0, 0], [0, 0, 0, 0, 0, 0, 1, 3], [3, 0, 3, 3, 3, 3], [0, 3], [0, 0, 0, 0, 1, 0, 3, 3, 3, 0, 3, 3, 1, 1, 3, 0], [0, 0, 0, 3], [3, 3, 0, 3, 3, 3, 3], [0, 3, 3, 3, 3, 0, 1, 2, 3, 3, 3], [3, 0, 0, 0, 0, 3, 3, 3], [0, 3, 3], [0, 0, 0], [3, 3, 3, 3, 3, 3, 3, 3, 3, 3, 3, 0, 3, 3, 3], [0, 3, 0]]
def kdl (t : Nat) : List Nat := (KDS[t]?).getD []
/-- the classes whose pools our methods use -/
def CNM : List String := ["PerfgaugeHouse$Bid", "PerfgaugeHouse$Cover", "PerfgaugeHouse$Experts", "PerfgaugeHouse$Hands", "PerfgaugeHouse$Piece", "PerfgaugeHouse$Plate", "PerfgaugeHouse$Post", "PerfgaugeHouse$Sale", "PerfgaugeHouse$Sheet", "PerfgaugeHouse$Standards", "PerfgaugeHouse$Term", "PerfgaugeHouse", "java/util/ArrayList", "PerfgaugeHouseLaw", "java/util/AbstractList", "java/util/AbstractCollection", "java/util/Arrays", "java/util/Objects", "jdk/internal/util/Preconditions", "java/lang/Integer", "java/lang/Long", "java/lang/Math", "jdk/internal/util/ArraysSupport"]
def cnm (c : Nat) : String := (CNM[c]?).getD ""
def yNm (z : Nat) : MethodName := match z with
  | 0 => ⟨"PerfgaugeHouse$Bid", "<init>", "(III)V"⟩
  | 1 => ⟨"PerfgaugeHouse$Cover", "<init>", "(IIIII)V"⟩
  | 2 => ⟨"PerfgaugeHouse$Cover", "allStamps", "()I"⟩
  | 3 => ⟨"PerfgaugeHouse$Experts", "<init>", "()V"⟩
  | 4 => ⟨"PerfgaugeHouse$Experts", "forgetOpinions", "()V"⟩
  | 5 => ⟨"PerfgaugeHouse$Experts", "addOpinion", "(IIIZ)I"⟩
  | 6 => ⟨"PerfgaugeHouse$Experts", "learn", "(IIZ)I"⟩
  | 7 => ⟨"PerfgaugeHouse$Experts", "heldBy", "(III)I"⟩
  | 8 => ⟨"PerfgaugeHouse$Experts", "standingOf", "(II)I"⟩
  | 9 => ⟨"PerfgaugeHouse$Experts", "areTrustsInRange", "()Z"⟩
  | 10 => ⟨"PerfgaugeHouse$Hands", "<init>", "()V"⟩
  | 11 => ⟨"PerfgaugeHouse$Hands", "tell", "(III)V"⟩
  | 12 => ⟨"PerfgaugeHouse$Hands", "likelyFor", "(LPerfgaugeHouse$Piece;)I"⟩
  | 13 => ⟨"PerfgaugeHouse$Hands", "weightFor", "(LPerfgaugeHouse$Piece;I)J"⟩
  | 14 => ⟨"PerfgaugeHouse$Piece", "clashesWith", "(I)I"⟩
  | 15 => ⟨"PerfgaugeHouse$Piece", "coveredFromAll", "(I)I"⟩
  | 16 => ⟨"PerfgaugeHouse$Piece", "coveredFrom", "(I)I"⟩
  | 17 => ⟨"PerfgaugeHouse$Piece", "<init>", "(IIIIZ)V"⟩
  | 18 => ⟨"PerfgaugeHouse$Piece", "fitAnew", "(LPerfgaugeHouse$Plate;)V"⟩
  | 19 => ⟨"PerfgaugeHouse$Piece", "fitsAt", "(LPerfgaugeHouse$Plate;II)Z"⟩
  | 20 => ⟨"PerfgaugeHouse$Piece", "stamps", "()I"⟩
  | 21 => ⟨"PerfgaugeHouse$Piece", "tearFrom", "(LPerfgaugeHouse$Plate;II)V"⟩
  | 22 => ⟨"PerfgaugeHouse$Piece", "fitPairs", "()I"⟩
  | 23 => ⟨"PerfgaugeHouse$Piece", "fitWithin", "(I)I"⟩
  | 24 => ⟨"PerfgaugeHouse$Piece", "perforation", "()I"⟩
  | 25 => ⟨"PerfgaugeHouse$Piece", "isGauged", "()Z"⟩
  | 26 => ⟨"PerfgaugeHouse$Piece", "isCut", "()Z"⟩
  | 27 => ⟨"PerfgaugeHouse$Piece", "seenKinds", "()I"⟩
  | 28 => ⟨"PerfgaugeHouse$Plate", "<init>", "()V"⟩
  | 29 => ⟨"PerfgaugeHouse$Plate", "begin", "(II)V"⟩
  | 30 => ⟨"PerfgaugeHouse$Plate", "positions", "()I"⟩
  | 31 => ⟨"PerfgaugeHouse$Plate", "engraveBy", "(I)V"⟩
  | 32 => ⟨"PerfgaugeHouse$Plate", "drawAfter", "(I)I"⟩
  | 33 => ⟨"PerfgaugeHouse$Plate", "addFlaw", "(IIII)V"⟩
  | 34 => ⟨"PerfgaugeHouse$Plate", "holds", "(III)Z"⟩
  | 35 => ⟨"PerfgaugeHouse$Plate", "has", "(I)Z"⟩
  | 36 => ⟨"PerfgaugeHouse$Plate", "faceAt", "(II)I"⟩
  | 37 => ⟨"PerfgaugeHouse$Post", "<init>", "()V"⟩
  | 38 => ⟨"PerfgaugeHouse$Post", "addRate", "(IIII)I"⟩
  | 39 => ⟨"PerfgaugeHouse$Post", "lay", "(III)V"⟩
  | 40 => ⟨"PerfgaugeHouse$Post", "shortenThrough", "(I)V"⟩
  | 41 => ⟨"PerfgaugeHouse$Post", "wayOf", "(II)I"⟩
  | 42 => ⟨"PerfgaugeHouse$Post", "distanceOf", "(II)I"⟩
  | 43 => ⟨"PerfgaugeHouse$Post", "priceOn", "(III)I"⟩
  | 44 => ⟨"PerfgaugeHouse$Post", "goesBefore", "(II)Z"⟩
  | 45 => ⟨"PerfgaugeHouse$Sale", "<init>", "()V"⟩
  | 46 => ⟨"PerfgaugeHouse$Sale", "clear", "()V"⟩
  | 47 => ⟨"PerfgaugeHouse$Sale", "offers", "(ZI)Z"⟩
  | 48 => ⟨"PerfgaugeHouse$Sale", "addItem", "(ZII)I"⟩
  | 49 => ⟨"PerfgaugeHouse$Sale", "allItems", "()I"⟩
  | 50 => ⟨"PerfgaugeHouse$Sale", "addBid", "(III)I"⟩
  | 51 => ⟨"PerfgaugeHouse$Sale", "settle", "(I)V"⟩
  | 52 => ⟨"PerfgaugeHouse$Sale", "countsNow", "(LPerfgaugeHouse$Bid;)Z"⟩
  | 53 => ⟨"PerfgaugeHouse$Sale", "offer", "(LPerfgaugeHouse$Bid;J)V"⟩
  | 54 => ⟨"PerfgaugeHouse$Sale", "bestAmount", "()I"⟩
  | 55 => ⟨"PerfgaugeHouse$Sale", "bestCount", "()I"⟩
  | 56 => ⟨"PerfgaugeHouse$Sale", "soldItems", "()I"⟩
  | 57 => ⟨"PerfgaugeHouse$Sale", "isChosen", "(I)Z"⟩
  | 58 => ⟨"PerfgaugeHouse$Sale", "firstBid", "()I"⟩
  | 59 => ⟨"PerfgaugeHouse$Sale", "gain", "()I"⟩
  | 60 => ⟨"PerfgaugeHouse$Sale", "alonePrice", "(I)I"⟩
  | 61 => ⟨"PerfgaugeHouse$Sale", "greatestAlone", "(II)I"⟩
  | 62 => ⟨"PerfgaugeHouse$Sale", "isCounting", "(I)Z"⟩
  | 63 => ⟨"PerfgaugeHouse$Sale", "stepOf", "(I)I"⟩
  | 64 => ⟨"PerfgaugeHouse$Sale", "countingBids", "()I"⟩
  | 65 => ⟨"PerfgaugeHouse$Sale", "aloneBidder", "(I)I"⟩
  | 66 => ⟨"PerfgaugeHouse$Sale", "isWithoutCommonItems", "()Z"⟩
  | 67 => ⟨"PerfgaugeHouse$Sheet", "<init>", "()V"⟩
  | 68 => ⟨"PerfgaugeHouse$Sheet", "clear", "()V"⟩
  | 69 => ⟨"PerfgaugeHouse$Sheet", "plateAnew", "()V"⟩
  | 70 => ⟨"PerfgaugeHouse$Sheet", "placeFrom", "(III)Z"⟩
  | 71 => ⟨"PerfgaugeHouse$Sheet", "placeLast", "(II)Z"⟩
  | 72 => ⟨"PerfgaugeHouse$Sheet", "add", "(LPerfgaugeHouse$Piece;)V"⟩
  | 73 => ⟨"PerfgaugeHouse$Sheet", "certainPieces", "()I"⟩
  | 74 => ⟨"PerfgaugeHouse$Sheet", "placesOf", "(LPerfgaugeHouse$Piece;)I"⟩
  | 75 => ⟨"PerfgaugeHouse$Standards", "<init>", "()V"⟩
  | 76 => ⟨"PerfgaugeHouse$Standards", "tell", "(IIII)V"⟩
  | 77 => ⟨"PerfgaugeHouse$Standards", "nearTo", "(LPerfgaugeHouse$Piece;)I"⟩
  | 78 => ⟨"PerfgaugeHouse$Standards", "difference", "(ILPerfgaugeHouse$Piece;)I"⟩
  | 79 => ⟨"PerfgaugeHouse$Term", "<init>", "(III)V"⟩
  | 80 => ⟨"PerfgaugeHouse$Term", "isOn", "(I)Z"⟩
  | 81 => ⟨"PerfgaugeHouse", "<init>", "()V"⟩
  | 82 => ⟨"PerfgaugeHouse", "plate", "(II)I"⟩
  | 83 => ⟨"PerfgaugeHouse", "isWithin", "(III)Z"⟩
  | 84 => ⟨"PerfgaugeHouse", "checkGiven", "(Z)V"⟩
  | 85 => ⟨"PerfgaugeHouse", "smallestOf", "(I)I"⟩
  | 86 => ⟨"PerfgaugeHouse", "isInSet", "(II)Z"⟩
  | 87 => ⟨"PerfgaugeHouse", "engrave", "(I)I"⟩
  | 88 => ⟨"PerfgaugeHouse", "checkState", "(Z)V"⟩
  | 89 => ⟨"PerfgaugeHouse", "rate", "(IIII)I"⟩
  | 90 => ⟨"PerfgaugeHouse", "isDay", "(I)Z"⟩
  | 91 => ⟨"PerfgaugeHouse", "issue", "(III)I"⟩
  | 92 => ⟨"PerfgaugeHouse", "die", "(III)I"⟩
  | 93 => ⟨"PerfgaugeHouse", "isTown", "(I)Z"⟩
  | 94 => ⟨"PerfgaugeHouse", "checkThere", "(Z)V"⟩
  | 95 => ⟨"PerfgaugeHouse", "piece", "(IIIZ)I"⟩
  | 96 => ⟨"PerfgaugeHouse", "isPieceSize", "(II)Z"⟩
  | 97 => ⟨"PerfgaugeHouse", "isSheet", "(I)Z"⟩
  | 98 => ⟨"PerfgaugeHouse", "hasRoomForPiece", "(I)Z"⟩
  | 99 => ⟨"PerfgaugeHouse", "keepPiece", "(LPerfgaugeHouse$Piece;)V"⟩
  | 100 => ⟨"PerfgaugeHouse", "tear", "(IIIII)I"⟩
  | 101 => ⟨"PerfgaugeHouse", "isPrinting", "(I)Z"⟩
  | 102 => ⟨"PerfgaugeHouse", "seen", "(IIIZ)I"⟩
  | 103 => ⟨"PerfgaugeHouse", "isPiece", "(I)Z"⟩
  | 104 => ⟨"PerfgaugeHouse", "edge", "(IIII)I"⟩
  | 105 => ⟨"PerfgaugeHouse", "road", "(III)I"⟩
  | 106 => ⟨"PerfgaugeHouse", "cover", "(IIIII)I"⟩
  | 107 => ⟨"PerfgaugeHouse", "stick", "(III)I"⟩
  | 108 => ⟨"PerfgaugeHouse", "isCoverNumber", "(I)Z"⟩
  | 109 => ⟨"PerfgaugeHouse", "isIssue", "(I)Z"⟩
  | 110 => ⟨"PerfgaugeHouse", "paidFor", "(LPerfgaugeHouse$Cover;)I"⟩
  | 111 => ⟨"PerfgaugeHouse", "arrive", "(IIZ)I"⟩
  | 112 => ⟨"PerfgaugeHouse", "hand", "(III)I"⟩
  | 113 => ⟨"PerfgaugeHouse", "mark", "(III)I"⟩
  | 114 => ⟨"PerfgaugeHouse", "opine", "(IIZ)I"⟩
  | 115 => ⟨"PerfgaugeHouse", "isExpert", "(I)Z"⟩
  | 116 => ⟨"PerfgaugeHouse", "truth", "(IZ)I"⟩
  | 117 => ⟨"PerfgaugeHouse", "item", "(ZII)I"⟩
  | 118 => ⟨"PerfgaugeHouse", "bid", "(III)I"⟩
  | 119 => ⟨"PerfgaugeHouse", "standard", "(IIII)I"⟩
  | 120 => ⟨"PerfgaugeHouse", "isShade", "(III)Z"⟩
  | 121 => ⟨"PerfgaugeHouse", "shade", "(IIIII)I"⟩
  | 122 => ⟨"PerfgaugeHouse", "pass", "(I)I"⟩
  | 123 => ⟨"PerfgaugeHouse", "digest", "()J"⟩
  | 124 => ⟨"PerfgaugeHouse", "mix", "(JJ)J"⟩
  | 125 => ⟨"PerfgaugeHouse", "mixFaces", "(J)J"⟩
  | 126 => ⟨"PerfgaugeHouse", "mixSheets", "(J)J"⟩
  | 127 => ⟨"PerfgaugeHouse", "plating", "(II)I"⟩
  | 128 => ⟨"PerfgaugeHouse", "mixPieces", "(J)J"⟩
  | 129 => ⟨"PerfgaugeHouse", "ofPiece", "(II)I"⟩
  | 130 => ⟨"PerfgaugeHouse", "certainPosition", "(LPerfgaugeHouse$Piece;)I"⟩
  | 131 => ⟨"PerfgaugeHouse", "alikeTo", "(LPerfgaugeHouse$Piece;)I"⟩
  | 132 => ⟨"PerfgaugeHouse", "isAlike", "(LPerfgaugeHouse$Piece;LPerfgaugeHouse$Piece;)Z"⟩
  | 133 => ⟨"PerfgaugeHouse", "holes", "(I)I"⟩
  | 134 => ⟨"PerfgaugeHouse", "likely", "(I)I"⟩
  | 135 => ⟨"PerfgaugeHouse", "standing", "(II)I"⟩
  | 136 => ⟨"PerfgaugeHouse", "near", "(II)I"⟩
  | 137 => ⟨"PerfgaugeHouse", "isContradicted", "(LPerfgaugeHouse$Piece;)Z"⟩
  | 138 => ⟨"PerfgaugeHouse", "value", "(I)I"⟩
  | 139 => ⟨"PerfgaugeHouse", "valueOf", "(LPerfgaugeHouse$Piece;)I"⟩
  | 140 => ⟨"PerfgaugeHouse", "isBad", "(I)Z"⟩
  | 141 => ⟨"PerfgaugeHouse", "mixCovers", "(J)J"⟩
  | 142 => ⟨"PerfgaugeHouse", "ofCover", "(II)I"⟩
  | 143 => ⟨"PerfgaugeHouse", "faultsOf", "(LPerfgaugeHouse$Cover;)I"⟩
  | 144 => ⟨"PerfgaugeHouse", "dieFaults", "(LPerfgaugeHouse$Cover;)I"⟩
  | 145 => ⟨"PerfgaugeHouse", "stampFaults", "(LPerfgaugeHouse$Cover;)I"⟩
  | 146 => ⟨"PerfgaugeHouse", "wayFaults", "(LPerfgaugeHouse$Cover;)I"⟩
  | 147 => ⟨"PerfgaugeHouse", "priceFor", "(LPerfgaugeHouse$Cover;)I"⟩
  | 148 => ⟨"PerfgaugeHouse", "priceFaults", "(IIZ)I"⟩
  | 149 => ⟨"PerfgaugeHouse", "isImpossible", "(LPerfgaugeHouse$Cover;)Z"⟩
  | 150 => ⟨"PerfgaugeHouse", "wearOf", "(I)I"⟩
  | 151 => ⟨"PerfgaugeHouse", "franking", "(I)I"⟩
  | 152 => ⟨"PerfgaugeHouse", "fewestFor", "(II)I"⟩
  | 153 => ⟨"PerfgaugeHouse", "mixIssues", "(J)J"⟩
  | 154 => ⟨"PerfgaugeHouse", "ofIssue", "(IZ)I"⟩
  | 155 => ⟨"PerfgaugeHouse", "scarcityOf", "(I)I"⟩
  | 156 => ⟨"PerfgaugeHouse", "mixSale", "(J)J"⟩
  | 157 => ⟨"PerfgaugeHouse", "ofSale", "(I)I"⟩
  | 158 => ⟨"PerfgaugeHouse", "barredItems", "()I"⟩
  | 159 => ⟨"PerfgaugeHouse", "alone", "(IZ)I"⟩
  | 160 => ⟨"PerfgaugeHouse", "frame", "(IZ)I"⟩
  | 161 => ⟨"PerfgaugeHouse", "bestFrame", "(I)I"⟩
  | 162 => ⟨"PerfgaugeHouse", "isSound", "()Z"⟩
  | 163 => ⟨"PerfgaugeHouse", "areCertainPiecesFitting", "()Z"⟩
  | 164 => ⟨"PerfgaugeHouse", "areWearsOfPossibleCovers", "()Z"⟩
  | 165 => ⟨"java/util/ArrayList", "<init>", "()V"⟩
  | 166 => ⟨"java/util/ArrayList", "clear", "()V"⟩
  | 167 => ⟨"java/util/ArrayList", "isEmpty", "()Z"⟩
  | 168 => ⟨"java/util/ArrayList", "size", "()I"⟩
  | 169 => ⟨"java/util/ArrayList", "add", "(Ljava/lang/Object;)Z"⟩
  | 170 => ⟨"java/util/ArrayList", "add", "(Ljava/lang/Object;[Ljava/lang/Object;I)V"⟩
  | 171 => ⟨"java/util/ArrayList", "grow", "()[Ljava/lang/Object;"⟩
  | 172 => ⟨"java/util/ArrayList", "grow", "(I)[Ljava/lang/Object;"⟩
  | 173 => ⟨"java/util/ArrayList", "get", "(I)Ljava/lang/Object;"⟩
  | 174 => ⟨"java/util/ArrayList", "elementData", "(I)Ljava/lang/Object;"⟩
  | 175 => ⟨"PerfgaugeHouseLaw", "below", "(II)I"⟩
  | 176 => ⟨"PerfgaugeHouseLaw", "cell", "([II)I"⟩
  | 177 => ⟨"PerfgaugeHouseLaw", "act", "(LPerfgaugeHouse;II)V"⟩
  | 178 => ⟨"PerfgaugeHouseLaw", "isAsked", "(LPerfgaugeHouse;)Z"⟩
  | 179 => ⟨"java/util/AbstractList", "<init>", "()V"⟩
  | 180 => ⟨"java/util/AbstractCollection", "<init>", "()V"⟩
  | 181 => ⟨"java/util/Arrays", "fill", "([II)V"⟩
  | 182 => ⟨"java/util/Arrays", "copyOf", "([Ljava/lang/Object;I)[Ljava/lang/Object;"⟩
  | 183 => ⟨"java/util/Arrays", "fill", "([JJ)V"⟩
  | 184 => ⟨"java/util/Objects", "checkIndex", "(II)I"⟩
  | 185 => ⟨"jdk/internal/util/Preconditions", "checkIndex", "(IILjava/util/function/BiFunction;)I"⟩
  | 186 => ⟨"java/lang/Integer", "bitCount", "(I)I"⟩
  | 187 => ⟨"java/lang/Long", "bitCount", "(J)I"⟩
  | 188 => ⟨"java/lang/Math", "min", "(II)I"⟩
  | 189 => ⟨"java/lang/Math", "max", "(II)I"⟩
  | 190 => ⟨"java/lang/Math", "abs", "(I)I"⟩
  | 191 => ⟨"jdk/internal/util/ArraysSupport", "newLength", "(III)I"⟩
  | 192 => ⟨"jdk/internal/util/ArraysSupport", "hugeLength", "(II)I"⟩
  | 193 => ⟨"PerfgaugeHouseLaw", "law", "([I)Z"⟩
  | _ => ⟨"", "", ""⟩
def rtT (z : Nat) : Option FieldType := match z with
  | 2 => some (.int)
  | 5 => some (.int)
  | 6 => some (.int)
  | 7 => some (.int)
  | 8 => some (.int)
  | 9 => some (.boolean)
  | 12 => some (.int)
  | 13 => some (.long)
  | 14 => some (.int)
  | 15 => some (.int)
  | 16 => some (.int)
  | 19 => some (.boolean)
  | 20 => some (.int)
  | 22 => some (.int)
  | 23 => some (.int)
  | 24 => some (.int)
  | 25 => some (.boolean)
  | 26 => some (.boolean)
  | 27 => some (.int)
  | 30 => some (.int)
  | 32 => some (.int)
  | 34 => some (.boolean)
  | 35 => some (.boolean)
  | 36 => some (.int)
  | 38 => some (.int)
  | 41 => some (.int)
  | 42 => some (.int)
  | 43 => some (.int)
  | 44 => some (.boolean)
  | 47 => some (.boolean)
  | 48 => some (.int)
  | 49 => some (.int)
  | 50 => some (.int)
  | 52 => some (.boolean)
  | 54 => some (.int)
  | 55 => some (.int)
  | 56 => some (.int)
  | 57 => some (.boolean)
  | 58 => some (.int)
  | 59 => some (.int)
  | 60 => some (.int)
  | 61 => some (.int)
  | 62 => some (.boolean)
  | 63 => some (.int)
  | 64 => some (.int)
  | 65 => some (.int)
  | 66 => some (.boolean)
  | 70 => some (.boolean)
  | 71 => some (.boolean)
  | 73 => some (.int)
  | 74 => some (.int)
  | 77 => some (.int)
  | 78 => some (.int)
  | 80 => some (.boolean)
  | 82 => some (.int)
  | 83 => some (.boolean)
  | 85 => some (.int)
  | 86 => some (.boolean)
  | 87 => some (.int)
  | 89 => some (.int)
  | 90 => some (.boolean)
  | 91 => some (.int)
  | 92 => some (.int)
  | 93 => some (.boolean)
  | 95 => some (.int)
  | 96 => some (.boolean)
  | 97 => some (.boolean)
  | 98 => some (.boolean)
  | 100 => some (.int)
  | 101 => some (.boolean)
  | 102 => some (.int)
  | 103 => some (.boolean)
  | 104 => some (.int)
  | 105 => some (.int)
  | 106 => some (.int)
  | 107 => some (.int)
  | 108 => some (.boolean)
  | 109 => some (.boolean)
  | 110 => some (.int)
  | 111 => some (.int)
  | 112 => some (.int)
  | 113 => some (.int)
  | 114 => some (.int)
  | 115 => some (.boolean)
  | 116 => some (.int)
  | 117 => some (.int)
  | 118 => some (.int)
  | 119 => some (.int)
  | 120 => some (.boolean)
  | 121 => some (.int)
  | 122 => some (.int)
  | 123 => some (.long)
  | 124 => some (.long)
  | 125 => some (.long)
  | 126 => some (.long)
  | 127 => some (.int)
  | 128 => some (.long)
  | 129 => some (.int)
  | 130 => some (.int)
  | 131 => some (.int)
  | 132 => some (.boolean)
  | 133 => some (.int)
  | 134 => some (.int)
  | 135 => some (.int)
  | 136 => some (.int)
  | 137 => some (.boolean)
  | 138 => some (.int)
  | 139 => some (.int)
  | 140 => some (.boolean)
  | 141 => some (.long)
  | 142 => some (.int)
  | 143 => some (.int)
  | 144 => some (.int)
  | 145 => some (.int)
  | 146 => some (.int)
  | 147 => some (.int)
  | 148 => some (.int)
  | 149 => some (.boolean)
  | 150 => some (.int)
  | 151 => some (.int)
  | 152 => some (.int)
  | 153 => some (.long)
  | 154 => some (.int)
  | 155 => some (.int)
  | 156 => some (.long)
  | 157 => some (.int)
  | 158 => some (.int)
  | 159 => some (.int)
  | 160 => some (.int)
  | 161 => some (.int)
  | 162 => some (.boolean)
  | 163 => some (.boolean)
  | 164 => some (.boolean)
  | 167 => some (.boolean)
  | 168 => some (.int)
  | 169 => some (.boolean)
  | 171 => some (.array (.object "java/lang/Object"))
  | 172 => some (.array (.object "java/lang/Object"))
  | 173 => some (.object "java/lang/Object")
  | 174 => some (.object "java/lang/Object")
  | 175 => some (.int)
  | 176 => some (.int)
  | 178 => some (.boolean)
  | 182 => some (.array (.object "java/lang/Object"))
  | 184 => some (.int)
  | 185 => some (.int)
  | 186 => some (.int)
  | 187 => some (.int)
  | 188 => some (.int)
  | 189 => some (.int)
  | 190 => some (.int)
  | 191 => some (.int)
  | 192 => some (.int)
  | 193 => some (.boolean)
  | _ => none
def LWG : List Cond := lw_tbl.filter goodWord
theorem lwg_of {w : Cond} {i : Nat} (h : (lw_tbl[i]?).map (fun v => decide (v = w) && goodWord v) = some true) : w ∈ LWG := by
  cases e : lw_tbl[i]? with
  | none => rw [e] at h; cases h
  | some v =>
    rw [e] at h
    simp only [Option.map_some, Option.some.injEq, Bool.and_eq_true, decide_eq_true_eq] at h
    obtain ⟨rfl, hg⟩ := h
    exact List.mem_filter.mpr ⟨List.mem_of_getElem? e, hg⟩
theorem lwg_good : ∀ w ∈ LWG, goodWord w = true := fun w h => (List.mem_filter.mp h).2
def atI (i : Nat) (w : Cond) : Bool := match lw_tbl[i]? with
  | some v => decide (v = w) && goodWord v
  | none => false
theorem atI_mem {w : Cond} {i : Nat} (h : atI i w = true) : w ∈ LWG := by
  apply lwg_of (i := i)
  unfold atI at h
  cases e : lw_tbl[i]? with
  | none => rw [e] at h; cases h
  | some v => rw [e] at h; simpa using h
/-- places of the words of a method: code, instance or static, selects, initialized -/
def mPl : List (Nat × Nat × Nat × Nat × Nat) := [(0, 980, 979, 9999, 73), (1, 862, 861, 9999, 72), (2, 1203, 1201, 1202, 72), (3, 219, 218, 9999, 55), (4, 491, 489, 490, 55), (5, 937, 935, 936, 55), (6, 945, 943, 944, 55), (7, 949, 948, 14, 55), (8, 1126, 1124, 1125, 55), (9, 1352, 1350, 1351, 55), (10, 205, 204, 9999, 54), (11, 922, 920, 921, 54), (12, 1114, 1112, 1113, 54), (13, 1118, 1116, 1117, 54), (14, 457, 455, 456, 69), (15, 480, 478, 479, 69), (16, 485, 483, 484, 69), (17, 698, 697, 9999, 69), (18, 769, 767, 768, 69), (19, 774, 773, 8, 69), (20, 787, 785, 786, 69), (21, 809, 807, 808, 69), (22, 1067, 1065, 1066, 69), (23, 1089, 1087, 1088, 69), (24, 1097, 1095, 1096, 69), (25, 1101, 1099, 1100, 69), (26, 1105, 1103, 1104, 69), (27, 1151, 1149, 1150, 69), (28, 87, 86, 9999, 47), (29, 435, 433, 434, 47), (30, 500, 498, 499, 47), (31, 531, 529, 530, 47), (32, 535, 534, 9999, 47), (33, 542, 540, 541, 47), (34, 778, 776, 777, 47), (35, 782, 780, 781, 47), (36, 791, 789, 790, 47), (37, 173, 172, 9999, 52), (38, 553, 551, 552, 52), (39, 844, 842, 843, 52), (40, 848, 847, 10, 52), (41, 853, 851, 852, 52), (42, 1188, 1186, 1187, 52), (43, 1192, 1190, 1191, 52), (44, 1196, 1195, 29, 52), (45, 248, 247, 9999, 56), (46, 495, 493, 494, 56), (47, 959, 957, 958, 56), (48, 963, 961, 962, 56), (49, 971, 969, 970, 56), (50, 975, 973, 974, 56), (51, 1248, 1246, 1247, 56), (52, 1257, 1256, 37, 56), (53, 1262, 1261, 38, 56), (54, 1267, 1265, 1266, 56), (55, 1271, 1269, 1270, 56), (56, 1275, 1273, 1274, 56), (57, 1279, 1278, 39, 56), (58, 1283, 1281, 1282, 56), (59, 1287, 1285, 1286, 56), (60, 1291, 1289, 1290, 56), (61, 1295, 1294, 40, 56), (62, 1299, 1298, 41, 56), (63, 1303, 1302, 9999, 56), (64, 1309, 1307, 1308, 56), (65, 1323, 1321, 1322, 56), (66, 1348, 1346, 1347, 56), (67, 136, 135, 9999, 51), (68, 444, 442, 443, 51), (69, 448, 446, 447, 51), (70, 453, 452, 1, 51), (71, 461, 460, 2, 51), (72, 795, 793, 794, 51), (73, 1055, 1053, 1054, 51), (74, 1072, 1070, 1071, 51), (75, 295, 294, 9999, 57), (76, 1007, 1005, 1006, 57), (77, 1015, 1013, 1014, 57), (78, 1019, 1017, 1018, 57), (79, 566, 565, 9999, 67), (80, 1172, 1170, 1171, 67), (81, 79, 78, 9999, 46), (82, 357, 355, 356, 46), (83, 360, 359, 9999, 46), (84, 363, 362, 9999, 46), (85, 464, 463, 9999, 46), (86, 467, 466, 9999, 46), (87, 504, 502, 503, 46), (88, 511, 510, 9999, 46), (89, 546, 544, 545, 46), (90, 549, 548, 9999, 46), (91, 557, 555, 556, 46), (92, 643, 641, 642, 46), (93, 646, 645, 9999, 46), (94, 649, 648, 9999, 46), (95, 683, 681, 682, 46), (96, 686, 685, 9999, 46), (97, 689, 688, 9999, 46), (98, 693, 692, 6, 46), (99, 765, 764, 7, 46), (100, 800, 798, 799, 46), (101, 805, 804, 9999, 46), (102, 813, 811, 812, 46), (103, 817, 816, 9, 46), (104, 836, 834, 835, 46), (105, 840, 838, 839, 46), (106, 857, 855, 856, 46), (107, 898, 896, 897, 46), (108, 902, 901, 11, 46), (109, 906, 905, 12, 46), (110, 910, 909, 13, 46), (111, 914, 912, 913, 46), (112, 918, 916, 917, 46), (113, 926, 924, 925, 46), (114, 930, 928, 929, 46), (115, 933, 932, 9999, 46), (116, 941, 939, 940, 46), (117, 955, 953, 954, 46), (118, 967, 965, 966, 46), (119, 1000, 998, 999, 46), (120, 1003, 1002, 9999, 46), (121, 1011, 1009, 1010, 46), (122, 1026, 1024, 1025, 46), (123, 1033, 1031, 1032, 46), (124, 1037, 1036, 9999, 46), (125, 1042, 1041, 15, 46), (126, 1047, 1046, 16, 46), (127, 1051, 1049, 1050, 46), (128, 1059, 1058, 17, 46), (129, 1063, 1061, 1062, 46), (130, 1077, 1076, 18, 46), (131, 1082, 1081, 19, 46), (132, 1085, 1084, 9999, 46), (133, 1093, 1091, 1092, 46), (134, 1110, 1108, 1109, 46), (135, 1122, 1120, 1121, 46), (136, 1130, 1128, 1129, 46), (137, 1134, 1133, 20, 46), (138, 1139, 1137, 1138, 46), (139, 1143, 1142, 21, 46), (140, 1147, 1146, 22, 46), (141, 1156, 1155, 23, 46), (142, 1160, 1158, 1159, 46), (143, 1164, 1163, 24, 46), (144, 1168, 1167, 25, 46), (145, 1176, 1175, 26, 46), (146, 1180, 1179, 27, 46), (147, 1184, 1183, 28, 46), (148, 1199, 1198, 9999, 46), (149, 1207, 1206, 30, 46), (150, 1211, 1210, 31, 46), (151, 1215, 1213, 1214, 46), (152, 1219, 1218, 32, 46), (153, 1224, 1223, 33, 46), (154, 1228, 1226, 1227, 46), (155, 1232, 1231, 34, 46), (156, 1236, 1235, 35, 46), (157, 1240, 1238, 1239, 46), (158, 1244, 1243, 36, 46), (159, 1319, 1317, 1318, 46), (160, 1328, 1326, 1327, 46), (161, 1332, 1331, 42, 46), (162, 1336, 1334, 1335, 46), (163, 1340, 1339, 43, 46), (164, 1344, 1343, 44, 46), (165, 109, 108, 9999, 50), (166, 440, 438, 439, 50), (167, 508, 506, 507, 50), (168, 561, 559, 560, 50), (169, 584, 582, 583, 50), (170, 588, 587, 3, 50), (171, 592, 591, 4, 50), (172, 596, 595, 5, 50), (173, 821, 819, 820, 50), (174, 831, 829, 830, 50), (175, 668, 667, 9999, 45), (176, 672, 671, 9999, 45), (177, 9999, 675, 9999, 45), (178, 1029, 1028, 9999, 45), (179, 112, 111, 9999, 49), (180, 115, 114, 9999, 48), (181, 177, 176, 9999, 53), (183, 1252, 1251, 9999, 53), (184, 824, 823, 9999, 70), (185, 827, 826, 9999, 71), (186, 473, 472, 9999, 63), (187, 1312, 1311, 9999, 74), (191, 599, 598, 9999, 68), (192, 606, 605, 9999, 68)]
/-- fields: as fldL, with the place of the link, the class that the link names, the place of sameField (9999: not wanted) -/
def fldX : List (Nat × Nat × Nat × Nat × Nat × Bool × Nat × String × Nat) := [(5, 15, 5, 0, 0, false, 89, "PerfgaugeHouse$Plate", 9999), (4, 58, 5, 0, 0, false, 90, "PerfgaugeHouse$Plate", 9999), (5, 19, 5, 1, 0, false, 91, "PerfgaugeHouse$Plate", 9999), (5, 22, 5, 2, 0, false, 92, "PerfgaugeHouse$Plate", 9999), (11, 118, 5, 2, 0, false, 93, "PerfgaugeHouse$Plate", 9999), (5, 9, 5, 3, 3, true, 94, "PerfgaugeHouse$Plate", 9999), (12, 9, 12, 1, 3, false, 119, "java/util/ArrayList", 9999), (12, 48, 12, 2, 0, false, 120, "java/util/ArrayList", 9999), (14, 7, 12, 0, 0, false, 121, "java/util/AbstractList", 9999), (12, 63, 12, 0, 0, false, 122, "java/util/ArrayList", 123), (8, 11, 8, 0, 3, true, 140, "PerfgaugeHouse$Sheet", 9999), (8, 34, 8, 1, 0, false, 141, "PerfgaugeHouse$Sheet", 9999), (11, 218, 8, 1, 0, false, 142, "PerfgaugeHouse$Sheet", 9999), (8, 17, 8, 2, 0, false, 143, "PerfgaugeHouse$Sheet", 9999), (11, 206, 8, 2, 0, false, 144, "PerfgaugeHouse$Sheet", 9999), (8, 21, 8, 3, 0, false, 145, "PerfgaugeHouse$Sheet", 9999), (11, 209, 8, 3, 0, false, 146, "PerfgaugeHouse$Sheet", 9999), (8, 49, 8, 4, 0, false, 147, "PerfgaugeHouse$Sheet", 9999), (11, 215, 8, 4, 0, false, 148, "PerfgaugeHouse$Sheet", 9999), (8, 24, 8, 5, 3, true, 149, "PerfgaugeHouse$Sheet", 9999), (8, 28, 8, 6, 3, true, 150, "PerfgaugeHouse$Sheet", 9999), (8, 31, 8, 7, 3, true, 151, "PerfgaugeHouse$Sheet", 9999), (6, 9, 6, 0, 3, true, 178, "PerfgaugeHouse$Post", 9999), (6, 15, 6, 1, 3, true, 179, "PerfgaugeHouse$Post", 9999), (6, 46, 6, 2, 0, false, 180, "PerfgaugeHouse$Post", 9999), (11, 279, 6, 2, 0, false, 181, "PerfgaugeHouse$Post", 9999), (6, 18, 6, 3, 3, true, 182, "PerfgaugeHouse$Post", 9999), (6, 21, 6, 4, 3, true, 183, "PerfgaugeHouse$Post", 9999), (6, 24, 6, 5, 3, true, 184, "PerfgaugeHouse$Post", 9999), (6, 27, 6, 6, 3, true, 185, "PerfgaugeHouse$Post", 9999), (3, 15, 3, 0, 0, false, 207, "PerfgaugeHouse$Hands", 9999), (11, 350, 3, 0, 0, false, 208, "PerfgaugeHouse$Hands", 9999), (3, 9, 3, 1, 3, true, 209, "PerfgaugeHouse$Hands", 9999), (2, 9, 2, 0, 3, true, 222, "PerfgaugeHouse$Experts", 9999), (11, 389, 2, 0, 3, true, 223, "PerfgaugeHouse$Experts", 9999), (2, 34, 2, 1, 0, false, 224, "PerfgaugeHouse$Experts", 9999), (11, 369, 2, 1, 0, false, 225, "PerfgaugeHouse$Experts", 9999), (2, 15, 2, 2, 3, true, 226, "PerfgaugeHouse$Experts", 9999), (2, 18, 2, 3, 3, true, 227, "PerfgaugeHouse$Experts", 9999), (2, 21, 2, 4, 3, true, 228, "PerfgaugeHouse$Experts", 9999), (2, 24, 2, 5, 3, true, 229, "PerfgaugeHouse$Experts", 9999), (7, 39, 7, 0, 0, false, 252, "PerfgaugeHouse$Sale", 9999), (11, 392, 7, 0, 0, false, 253, "PerfgaugeHouse$Sale", 9999), (7, 9, 7, 1, 3, true, 254, "PerfgaugeHouse$Sale", 9999), (11, 595, 7, 1, 3, true, 255, "PerfgaugeHouse$Sale", 9999), (7, 15, 7, 2, 3, true, 256, "PerfgaugeHouse$Sale", 9999), (11, 593, 7, 2, 3, true, 257, "PerfgaugeHouse$Sale", 9999), (7, 19, 7, 3, 3, true, 258, "PerfgaugeHouse$Sale", 9999), (7, 25, 7, 4, 3, true, 259, "PerfgaugeHouse$Sale", 9999), (11, 406, 7, 4, 3, true, 260, "PerfgaugeHouse$Sale", 9999), (7, 63, 7, 5, 0, false, 261, "PerfgaugeHouse$Sale", 9999), (7, 46, 7, 6, 1, false, 262, "PerfgaugeHouse$Sale", 9999), (7, 75, 7, 7, 2, false, 263, "PerfgaugeHouse$Sale", 9999), (7, 29, 7, 8, 3, true, 264, "PerfgaugeHouse$Sale", 9999), (7, 32, 7, 9, 3, true, 265, "PerfgaugeHouse$Sale", 9999), (7, 35, 7, 10, 3, true, 266, "PerfgaugeHouse$Sale", 9999), (9, 19, 9, 0, 0, false, 297, "PerfgaugeHouse$Standards", 9999), (11, 447, 9, 0, 0, false, 298, "PerfgaugeHouse$Standards", 9999), (9, 9, 9, 1, 3, true, 299, "PerfgaugeHouse$Standards", 9999), (9, 15, 9, 2, 3, true, 300, "PerfgaugeHouse$Standards", 9999), (11, 10, 11, 0, 3, true, 308, "PerfgaugeHouse", 9999), (11, 19, 11, 1, 3, true, 309, "PerfgaugeHouse", 9999), (11, 25, 11, 2, 3, true, 310, "PerfgaugeHouse", 9999), (11, 33, 11, 3, 3, true, 311, "PerfgaugeHouse", 9999), (11, 37, 11, 4, 3, true, 312, "PerfgaugeHouse", 9999), (11, 40, 11, 5, 3, true, 313, "PerfgaugeHouse", 9999), (11, 43, 11, 6, 3, true, 314, "PerfgaugeHouse", 9999), (11, 49, 11, 7, 3, true, 315, "PerfgaugeHouse", 9999), (11, 56, 11, 8, 3, true, 316, "PerfgaugeHouse", 9999), (11, 63, 11, 9, 3, true, 317, "PerfgaugeHouse", 9999), (11, 70, 11, 10, 3, true, 318, "PerfgaugeHouse", 9999), (11, 372, 11, 11, 0, false, 319, "PerfgaugeHouse", 9999), (11, 74, 11, 12, 3, true, 320, "PerfgaugeHouse", 9999), (11, 78, 11, 13, 3, true, 321, "PerfgaugeHouse", 9999), (11, 81, 11, 14, 3, true, 322, "PerfgaugeHouse", 9999), (10, 7, 10, 0, 0, true, 568, "PerfgaugeHouse$Term", 9999), (11, 556, 10, 0, 0, true, 569, "PerfgaugeHouse$Term", 9999), (10, 13, 10, 1, 0, true, 570, "PerfgaugeHouse$Term", 9999), (11, 586, 10, 1, 0, true, 571, "PerfgaugeHouse$Term", 9999), (10, 16, 10, 2, 0, true, 572, "PerfgaugeHouse$Term", 9999), (11, 587, 10, 2, 0, true, 573, "PerfgaugeHouse$Term", 9999), (4, 31, 4, 0, 0, true, 701, "PerfgaugeHouse$Piece", 9999), (11, 170, 4, 0, 0, true, 702, "PerfgaugeHouse$Piece", 9999), (4, 35, 4, 1, 0, true, 703, "PerfgaugeHouse$Piece", 9999), (4, 38, 4, 2, 0, true, 704, "PerfgaugeHouse$Piece", 9999), (4, 41, 4, 3, 0, true, 705, "PerfgaugeHouse$Piece", 9999), (11, 186, 4, 3, 0, true, 706, "PerfgaugeHouse$Piece", 9999), (4, 44, 4, 4, 1, true, 707, "PerfgaugeHouse$Piece", 9999), (8, 40, 4, 5, 0, false, 708, "PerfgaugeHouse$Piece", 9999), (4, 9, 4, 6, 3, true, 709, "PerfgaugeHouse$Piece", 9999), (11, 179, 4, 6, 3, true, 710, "PerfgaugeHouse$Piece", 9999), (4, 15, 4, 7, 3, true, 711, "PerfgaugeHouse$Piece", 9999), (11, 182, 4, 7, 3, true, 712, "PerfgaugeHouse$Piece", 9999), (4, 19, 4, 8, 3, true, 713, "PerfgaugeHouse$Piece", 9999), (8, 56, 4, 8, 3, true, 714, "PerfgaugeHouse$Piece", 9999), (4, 65, 4, 9, 0, false, 715, "PerfgaugeHouse$Piece", 9999), (4, 22, 4, 10, 3, true, 716, "PerfgaugeHouse$Piece", 9999), (11, 260, 4, 10, 3, true, 717, "PerfgaugeHouse$Piece", 9999), (4, 25, 4, 11, 3, true, 718, "PerfgaugeHouse$Piece", 9999), (3, 19, 4, 11, 3, true, 719, "PerfgaugeHouse$Piece", 9999), (11, 356, 4, 11, 3, true, 720, "PerfgaugeHouse$Piece", 9999), (11, 382, 4, 12, 1, false, 721, "PerfgaugeHouse$Piece", 9999), (9, 23, 4, 13, 1, false, 722, "PerfgaugeHouse$Piece", 9999), (11, 448, 4, 13, 1, false, 723, "PerfgaugeHouse$Piece", 9999), (4, 28, 4, 14, 3, true, 724, "PerfgaugeHouse$Piece", 9999), (9, 36, 4, 14, 3, true, 725, "PerfgaugeHouse$Piece", 9999), (11, 451, 4, 14, 3, true, 726, "PerfgaugeHouse$Piece", 9999), (9, 33, 4, 15, 0, false, 727, "PerfgaugeHouse$Piece", 9999), (11, 454, 4, 15, 0, false, 728, "PerfgaugeHouse$Piece", 9999), (1, 15, 1, 0, 0, true, 864, "PerfgaugeHouse$Cover", 9999), (11, 559, 1, 0, 0, true, 865, "PerfgaugeHouse$Cover", 9999), (1, 19, 1, 1, 0, true, 866, "PerfgaugeHouse$Cover", 9999), (11, 562, 1, 1, 0, true, 867, "PerfgaugeHouse$Cover", 9999), (1, 22, 1, 2, 0, true, 868, "PerfgaugeHouse$Cover", 9999), (11, 568, 1, 2, 0, true, 869, "PerfgaugeHouse$Cover", 9999), (1, 25, 1, 3, 0, true, 870, "PerfgaugeHouse$Cover", 9999), (11, 338, 1, 3, 0, true, 871, "PerfgaugeHouse$Cover", 9999), (1, 28, 1, 4, 0, true, 872, "PerfgaugeHouse$Cover", 9999), (11, 328, 1, 4, 0, true, 873, "PerfgaugeHouse$Cover", 9999), (11, 303, 1, 5, 0, false, 874, "PerfgaugeHouse$Cover", 9999), (11, 318, 1, 6, 1, false, 875, "PerfgaugeHouse$Cover", 9999), (1, 9, 1, 7, 3, true, 876, "PerfgaugeHouse$Cover", 9999), (11, 312, 1, 7, 3, true, 877, "PerfgaugeHouse$Cover", 9999), (0, 7, 0, 0, 0, true, 982, "PerfgaugeHouse$Bid", 9999), (7, 119, 0, 0, 0, true, 983, "PerfgaugeHouse$Bid", 9999), (0, 13, 0, 1, 0, true, 984, "PerfgaugeHouse$Bid", 9999), (7, 94, 0, 1, 0, true, 985, "PerfgaugeHouse$Bid", 9999), (0, 16, 0, 2, 0, true, 986, "PerfgaugeHouse$Bid", 9999), (7, 95, 0, 2, 0, true, 987, "PerfgaugeHouse$Bid", 9999)]
/-- calls: as mthL, with the place of the link, and whether it is a nest mate's -/
def mthX : List (Nat × Nat × Nat × Nat × Bool) := [(13, 11, 81, 77, false), (11, 1, 901, 80, false), (11, 9, 28, 85, true), (5, 3, 901, 88, false), (11, 18, 165, 107, false), (12, 1, 179, 110, false), (14, 1, 180, 113, false), (15, 1, 901, 116, false), (11, 29, 67, 134, true), (8, 3, 901, 137, false), (11, 32, 37, 171, false), (6, 3, 901, 174, false), (6, 30, 181, 175, false), (11, 48, 10, 203, true), (3, 3, 901, 206, false), (11, 55, 3, 217, false), (2, 3, 901, 220, false), (2, 28, 181, 221, false), (11, 62, 45, 246, true), (7, 3, 901, 249, false), (7, 24, 165, 251, false), (11, 69, 75, 293, true), (9, 3, 901, 296, false), (13, 22, 82, 354, false), (11, 84, 83, 358, false), (11, 88, 84, 361, false), (11, 92, 29, 432, false), (5, 25, 181, 436, false), (11, 96, 166, 437, false), (11, 99, 68, 441, false), (8, 37, 69, 445, false), (8, 43, 181, 449, false), (8, 52, 70, 450, false), (8, 59, 14, 454, false), (8, 63, 71, 458, false), (8, 73, 85, 462, true), (11, 203, 86, 465, false), (8, 76, 900, 468, false), (8, 82, 186, 471, false), (8, 87, 15, 477, false), (4, 85, 86, 481, true), (4, 89, 16, 482, false), (8, 67, 86, 486, true), (8, 70, 16, 487, false), (11, 100, 4, 488, false), (11, 103, 46, 492, false), (7, 43, 166, 496, false), (11, 104, 30, 497, false), (13, 25, 87, 501, false), (11, 145, 167, 505, false), (11, 122, 88, 509, false), (11, 149, 31, 528, false), (5, 31, 30, 532, false), (5, 43, 32, 533, false), (5, 47, 903, 536, false), (5, 53, 33, 539, false), (13, 29, 89, 543, false), (11, 276, 90, 547, false), (11, 282, 38, 550, false), (13, 37, 91, 554, false), (11, 129, 168, 558, false), (11, 292, 79, 564, false), (10, 1, 901, 567, false), (11, 294, 169, 581, false), (12, 131, 170, 585, false), (12, 129, 171, 589, false), (12, 69, 172, 593, false), (12, 73, 191, 597, false), (22, 194, 904, 600, false), (22, 201, 192, 604, false), (12, 66, 902, 607, false), (16, 304, 903, 636, false), (16, 150, 900, 637, false), (12, 79, 904, 638, false), (13, 33, 92, 640, false), (11, 266, 93, 644, false), (11, 112, 94, 647, false), (13, 18, 175, 666, false), (13, 12, 176, 670, false), (13, 40, 177, 674, false), (13, 48, 95, 680, false), (11, 153, 96, 684, false), (11, 157, 97, 687, false), (11, 160, 98, 690, false), (11, 163, 17, 696, false), (4, 3, 901, 699, false), (4, 48, 181, 700, false), (11, 166, 99, 762, false), (11, 138, 18, 766, false), (4, 68, 30, 770, false), (4, 71, 19, 771, false), (4, 75, 34, 775, false), (5, 39, 35, 779, false), (5, 35, 83, 783, true), (4, 54, 20, 784, false), (4, 61, 36, 788, false), (11, 535, 72, 792, false), (11, 142, 69, 796, false), (13, 52, 100, 797, false), (11, 108, 35, 801, false), (11, 189, 34, 802, false), (11, 115, 101, 803, false), (11, 192, 21, 806, false), (13, 56, 102, 810, false), (11, 173, 103, 814, false), (11, 132, 173, 818, false), (12, 118, 184, 822, false), (17, 105, 185, 825, false), (12, 123, 174, 828, false), (11, 176, 20, 832, false), (13, 59, 104, 833, false), (13, 62, 105, 837, false), (11, 269, 39, 841, false), (6, 36, 40, 845, false), (6, 40, 903, 849, false), (11, 273, 41, 850, false), (13, 65, 106, 854, false), (11, 300, 1, 860, false), (1, 3, 901, 863, false), (13, 68, 107, 895, false), (11, 306, 108, 899, false), (11, 309, 109, 903, false), (11, 314, 110, 907, false), (13, 71, 111, 911, false), (13, 75, 112, 915, false), (11, 353, 11, 919, false), (13, 78, 113, 923, false), (13, 81, 114, 927, false), (11, 366, 115, 931, false), (11, 375, 5, 934, false), (13, 84, 116, 938, false), (11, 385, 6, 942, false), (2, 38, 7, 946, false), (2, 42, 903, 950, false), (2, 48, 904, 951, false), (13, 88, 117, 952, false), (11, 395, 47, 956, false), (11, 399, 48, 960, false), (13, 92, 118, 964, false), (11, 403, 49, 968, false), (11, 409, 50, 972, false), (7, 52, 0, 978, false), (0, 1, 901, 981, false), (7, 55, 169, 995, false), (7, 59, 168, 996, false), (13, 95, 119, 997, false), (11, 442, 120, 1001, false), (11, 445, 76, 1004, false), (13, 98, 121, 1008, false), (11, 457, 77, 1012, false), (9, 29, 78, 1016, false), (9, 39, 905, 1020, false), (13, 101, 122, 1023, false), (13, 44, 178, 1027, false), (13, 110, 123, 1030, false), (11, 488, 124, 1035, false), (11, 492, 125, 1039, false), (11, 196, 36, 1043, false), (11, 496, 126, 1044, false), (11, 600, 127, 1048, false), (11, 212, 73, 1052, false), (11, 499, 128, 1056, false), (11, 603, 129, 1060, false), (11, 220, 22, 1064, false), (4, 79, 186, 1068, false), (11, 223, 74, 1069, false), (11, 227, 186, 1073, false), (11, 233, 130, 1074, false), (11, 537, 85, 1078, false), (11, 236, 131, 1079, false), (11, 540, 132, 1083, false), (11, 544, 23, 1086, false), (11, 606, 133, 1090, false), (11, 263, 24, 1094, false), (4, 92, 25, 1098, false), (4, 101, 26, 1102, false), (4, 96, 905, 1106, false), (11, 609, 134, 1107, false), (11, 363, 12, 1111, false), (3, 24, 13, 1115, false), (11, 612, 135, 1119, false), (11, 379, 8, 1123, false), (11, 615, 136, 1127, false), (11, 460, 137, 1131, false), (11, 464, 78, 1135, false), (11, 618, 138, 1136, false), (11, 468, 139, 1140, false), (11, 547, 140, 1144, false), (11, 550, 27, 1148, false), (11, 553, 26, 1152, false), (11, 502, 141, 1153, false), (11, 621, 142, 1157, false), (11, 322, 143, 1161, false), (11, 571, 144, 1165, false), (11, 583, 80, 1169, false), (11, 574, 145, 1173, false), (11, 577, 146, 1177, false), (11, 325, 147, 1181, false), (11, 565, 42, 1185, false), (11, 286, 43, 1189, false), (6, 50, 44, 1193, false), (11, 580, 148, 1197, false), (11, 331, 2, 1200, false), (11, 334, 149, 1204, false), (11, 341, 150, 1208, false), (11, 624, 151, 1212, false), (11, 344, 152, 1216, false), (11, 588, 903, 1220, false), (11, 505, 153, 1221, false), (11, 627, 154, 1225, false), (11, 347, 155, 1229, false), (11, 508, 156, 1233, false), (11, 630, 157, 1237, false), (11, 412, 158, 1241, false), (11, 415, 51, 1245, false), (7, 66, 181, 1249, false), (7, 72, 183, 1250, false), (7, 79, 173, 1253, false), (7, 83, 52, 1254, false), (7, 98, 86, 1258, true), (7, 87, 53, 1259, false), (7, 91, 49, 1263, false), (11, 418, 54, 1264, false), (11, 421, 55, 1268, false), (11, 424, 56, 1272, false), (7, 102, 57, 1276, false), (11, 427, 58, 1280, false), (11, 430, 59, 1284, false), (7, 112, 60, 1288, false), (7, 125, 61, 1292, false), (7, 122, 62, 1296, false), (7, 129, 904, 1300, false), (7, 134, 63, 1301, false), (7, 137, 903, 1304, false), (7, 116, 54, 1305, false), (11, 433, 64, 1306, false), (7, 106, 187, 1310, false), (11, 633, 159, 1316, false), (11, 436, 65, 1320, false), (11, 439, 60, 1324, false), (11, 511, 160, 1325, false), (11, 471, 161, 1329, false), (11, 515, 162, 1333, false), (11, 474, 163, 1337, false), (11, 477, 164, 1341, false), (11, 480, 66, 1345, false), (11, 483, 9, 1349, false), (2, 51, 83, 1353, true), (13, 114, 162, 1354, false), (13, 118, 157, 1355, false), (13, 121, 127, 1356, false), (13, 124, 160, 1357, false), (13, 127, 129, 1358, false), (13, 130, 138, 1359, false), (13, 133, 136, 1360, false), (13, 136, 135, 1361, false)]
def newX : List (Nat × Nat × Nat × Nat × Nat × Nat × Nat) := [(13, 9, 11, 15, 75, 76, 46), (11, 7, 5, 4, 83, 84, 47), (11, 16, 12, 3, 105, 106, 50), (11, 23, 8, 8, 131, 133, 51), (8, 9, 4, 16, 138, 695, 69), (11, 30, 6, 7, 169, 170, 52), (11, 46, 3, 2, 201, 202, 54), (11, 53, 2, 6, 215, 216, 55), (11, 60, 7, 11, 244, 245, 56), (7, 22, 12, 3, 250, 106, 50), (11, 67, 9, 3, 291, 292, 57), (11, 290, 10, 3, 562, 563, 67), (11, 136, 4, 16, 694, 695, 69), (11, 298, 1, 8, 858, 859, 72), (7, 50, 0, 3, 976, 977, 73)]
def anwX : List (Nat × Nat × Nat × Nat) := [(11, 23, 104, 131), (8, 9, 105, 138), (16, 2, 103, 635), (12, 7, 103, 639), (11, 136, 105, 694)]
def cstX : List (Nat × Nat × Nat × Nat) := [(13, 9, 11, 75), (11, 7, 5, 83), (11, 16, 12, 105), (11, 23, 8, 131), (8, 9, 4, 138), (11, 30, 6, 169), (11, 46, 3, 201), (11, 53, 2, 215), (11, 60, 7, 244), (7, 22, 12, 250), (11, 67, 9, 291), (11, 290, 10, 562), (11, 136, 4, 694), (11, 298, 1, 858), (7, 50, 0, 976)]
def ciX : List (Nat × Nat × Int × Nat) := [(19, 265, 1431655765, 474), (19, 266, 858993459, 475), (19, 267, 252645135, 476), (22, 200, 2147483639, 603), (13, 7, 2147483647, 669), (13, 8, 790386105, 673)]
def cjX : List (Nat × Nat × Int × Nat) := [(11, 486, 58267, 1034), (11, 598, 31, 1038), (20, 314, 6148914691236517205, 1313), (20, 316, 3689348814741910323, 1314), (20, 318, 1085102592571150095, 1315)]

theorem lkp_mem {α : Type} {l : List (Nat × Nat × α)} {c k : Nat} {v : α} (h : lkp l c k = some v) : (c, k, v) ∈ l := by
  induction l with
  | nil => simp [lkp] at h
  | cons a l ih =>
    obtain ⟨a1, a2, a3⟩ := a
    simp only [lkp] at h
    split at h
    · rename_i q; obtain ⟨rfl, rfl⟩ := q; cases h; exact List.mem_cons_self
    · exact List.mem_cons_of_mem _ (ih h)
def fldChk (e : Nat × Nat × Nat × Nat × Nat × Bool × Nat × String × Nat) : Bool := match e with
  | (c, k, t, j, kd, fin, i, ref, sf) => match xcl[t]? with
    | some (_, T, N) => decide (j < N) && atI i (.fieldLink (cnm c) k ref (T j).2.1 (T j).2.2.1) && (decide (ref = (T j).1) || atI sf (.sameField ref (T j).1 (T j).2.1 (T j).2.2.1)) && ((T j).2.2.2 == fin) && (!fin || decide ((T j).1 = cnm t)) && decide ((kdl t)[j]? = some kd)
    | none => false
set_option maxRecDepth 100000 in
theorem fldX_ok : fldX.all fldChk = true := by decide +kernel
theorem fldL_X : fldL = fldX.map (fun e => (e.1, e.2.1, e.2.2.1, e.2.2.2.1, e.2.2.2.2.1, e.2.2.2.2.2.1)) := by decide +kernel
def pNm (z : Nat) : MethodName := if z = 900 then arraycopyName else if z = 901 then Lib.objectInit else if z = 902 then yNm 182 else if z = 903 then Lib.Math.min.name else if z = 904 then Lib.Math.max.name else Lib.Math.abs.name
def nestW : List (String × Nat × MethodName × String) := (mthX.filter (fun e => e.2.2.2.2)).map (fun e => (cnm e.1, e.2.1, yNm e.2.2.1, "PerfgaugeHouse"))
def mthChk (e : Nat × Nat × Nat × Nat × Bool) : Bool := match e with
  | (c, k, z, i, nest) => if 900 ≤ z then atI i (.methodLink (cnm c) k (pNm z)) else (if nest then nestW.any (fun q => decide (q = (cnm c, k, yNm z, "PerfgaugeHouse"))) else atI i (.methodLink (cnm c) k (yNm z)))
set_option maxRecDepth 100000 in
theorem mthX_ok : mthX.all mthChk = true := by decide +kernel
theorem mthL_X : mthL = mthX.map (fun e => (e.1, e.2.1, e.2.2.1)) := by decide +kernel

/-- a method's words: instance or static, selects, initialized; its arguments -/
def mPlA (e : Nat × Nat × Nat × Nat × Nat) : Bool := match e with
  | (z, _, im, se, ini) => atI im (if mKnd z = 0 then .static (yNm z) else .instanceMethod (yNm z)) && (mKnd z != 1 || atI se (.selects (yNm z).cls (yNm z) (yNm z))) && atI ini (.initialized (yNm z).cls)
set_option maxRecDepth 100000 in
theorem mPlA_ok : mPl.all mPlA = true := by decide +kernel
def mPlB1 (z : Nat) : Bool := decide ((yNm z).cls = cnm (cls z))
set_option maxRecDepth 100000 in
theorem mPlB1_ok : mPl.all (fun e => mPlB1 e.1) = true := by decide +kernel
def mPlB2 (z : Nat) : Bool := decide ((yNm z).cls ≠ "java/lang/invoke/MethodHandle") && decide ((yNm z).cls ≠ "java/lang/invoke/VarHandle")
set_option maxRecDepth 100000 in
theorem mPlB2_ok : mPl.all (fun e => mPlB2 e.1) = true := by decide +kernel
def mPlB3 (z : Nat) : Bool := (decide (mKnd z = 2) == decide ((yNm z).name = "<init>"))
set_option maxRecDepth 100000 in
theorem mPlB3_ok : mPl.all (fun e => mPlB3 e.1) = true := by decide +kernel
def mPlB4 (z : Nat) : Bool := decide (mKnd z ≠ 2 ∨ rtT z = none)
set_option maxRecDepth 100000 in
theorem mPlB4_ok : mPl.all (fun e => mPlB4 e.1) = true := by decide +kernel
def mPlB5 (z : Nat) : Bool := plainName (yNm z).cls
set_option maxRecDepth 100000 in
theorem mPlB5_ok : mPl.all (fun e => mPlB5 e.1) = true := by decide +kernel
def mPlB6 (z : Nat) : Bool := (match rtT z with | none => mRet z == 4 | some .int => mRet z == 0 | some .boolean => mRet z == 1 | some .long => mRet z == 2 | some (.object _) => mRet z == 3 | some (.array _) => mRet z == 3 | _ => false)
set_option maxRecDepth 100000 in
theorem mPlB6_ok : mPl.all (fun e => mPlB6 e.1) = true := by decide +kernel
def mPlB7 (z : Nat) : Bool := (mKnd z != 1 || decide ((xcl[mTag z]?).map (fun q => q.1) = some (yNm z).cls))
set_option maxRecDepth 100000 in
theorem mPlB7_ok : mPl.all (fun e => mPlB7 e.1) = true := by decide +kernel
def mPlB8 (z : Nat) : Bool := decide (mLoc z ≤ 20) && decide (1 ≤ mArg z ∨ mKnd z = 0)
set_option maxRecDepth 100000 in
theorem mPlB8_ok : mPl.all (fun e => mPlB8 e.1) = true := by decide +kernel
def mPlC (e : Nat × Nat × Nat × Nat × Nat) : Bool := match e with
  | (z, _, _, _, _) => decide ((parseMethodDescriptor (yNm z).desc).map (fun d => d.parameters.length) = some (if mKnd z = 0 then mArg z else mArg z - 1))
set_option maxRecDepth 100000 in
theorem mPlC_ok : mPl.all mPlC = true := by decide +kernel
def newChk (e : Nat × Nat × Nat × Nat × Nat × Nat × Nat) : Bool := match e with
  | (c, k, t, n, i1, i2, i3) => match xcl[t]? with
    | some (C, _, N) => decide (N = n) && atI i1 (.classLink (cnm c) k C) && atI i2 (.instantiable C N) && atI i3 (.initialized C)
    | none => false
theorem newX_ok : newX.all newChk = true := by decide +kernel
theorem newL_X : newL = newX.map (fun e => (e.1, e.2.1, e.2.2.1, e.2.2.2.1)) := by decide +kernel
def aEl (g : Nat) : String := if g = 103 then "java/lang/Object" else if g = 104 then "PerfgaugeHouse$Sheet" else "PerfgaugeHouse$Piece"
theorem anwX_ok : anwX.all (fun e => atI e.2.2.2 (.classLink (cnm e.1) e.2.1 (aEl e.2.2.1)) && decide (103 ≤ e.2.2.1) && decide (e.2.2.1 ≤ 105)) = true := by decide +kernel
theorem anwL_X : anwL = anwX.map (fun e => (e.1, e.2.1, e.2.2.1)) := by decide +kernel
theorem cstX_ok : cstX.all (fun e => match xcl[e.2.2.1]? with | some (C, _, _) => atI e.2.2.2 (.classLink (cnm e.1) e.2.1 C) | none => false) = true := by decide +kernel
theorem cstT_X : cstT = cstX.map (fun e => (e.1, e.2.1, e.2.2.1)) := by decide +kernel
theorem ciX_ok : ciX.all (fun e => atI e.2.2.2 (.constant (cnm e.1) e.2.1 (Int32.ofInt e.2.2.1))) = true := by decide +kernel
theorem cstL_X : cstL = ciX.map (fun e => (e.1, e.2.1, e.2.2.1)) := by decide +kernel
theorem cjX_ok : cjX.all (fun e => atI e.2.2.2 (.constantLong (cnm e.1) e.2.1 (Int64.ofInt e.2.2.1))) = true := by decide +kernel
theorem cstJ_X : cstJ = cjX.map (fun e => (e.1, e.2.1, e.2.2.1)) := by decide +kernel
theorem cin0 : ∀ w ∈ u_ws (xcl[0]).1 (xcl[0]).2.1 (xcl[0]).2.2, w ∈ LWG := by decide +kernel
theorem cin1 : ∀ w ∈ u_ws (xcl[1]).1 (xcl[1]).2.1 (xcl[1]).2.2, w ∈ LWG := by decide +kernel
theorem cin2 : ∀ w ∈ u_ws (xcl[2]).1 (xcl[2]).2.1 (xcl[2]).2.2, w ∈ LWG := by decide +kernel
theorem cin3 : ∀ w ∈ u_ws (xcl[3]).1 (xcl[3]).2.1 (xcl[3]).2.2, w ∈ LWG := by decide +kernel
theorem cin4 : ∀ w ∈ u_ws (xcl[4]).1 (xcl[4]).2.1 (xcl[4]).2.2, w ∈ LWG := by decide +kernel
theorem cin5 : ∀ w ∈ u_ws (xcl[5]).1 (xcl[5]).2.1 (xcl[5]).2.2, w ∈ LWG := by decide +kernel
theorem cin6 : ∀ w ∈ u_ws (xcl[6]).1 (xcl[6]).2.1 (xcl[6]).2.2, w ∈ LWG := by decide +kernel
theorem cin7 : ∀ w ∈ u_ws (xcl[7]).1 (xcl[7]).2.1 (xcl[7]).2.2, w ∈ LWG := by decide +kernel
theorem cin8 : ∀ w ∈ u_ws (xcl[8]).1 (xcl[8]).2.1 (xcl[8]).2.2, w ∈ LWG := by decide +kernel
theorem cin9 : ∀ w ∈ u_ws (xcl[9]).1 (xcl[9]).2.1 (xcl[9]).2.2, w ∈ LWG := by decide +kernel
theorem cin10 : ∀ w ∈ u_ws (xcl[10]).1 (xcl[10]).2.1 (xcl[10]).2.2, w ∈ LWG := by decide +kernel
theorem cin11 : ∀ w ∈ u_ws (xcl[11]).1 (xcl[11]).2.1 (xcl[11]).2.2, w ∈ LWG := by decide +kernel
theorem cin12 : ∀ w ∈ u_ws (xcl[12]).1 (xcl[12]).2.1 (xcl[12]).2.2, w ∈ LWG := by decide +kernel
set_option maxRecDepth 100000 in
theorem cw_0 : Cond.code (yNm 0) (bts 0) (mLoc 0) (rtT 0) ∈ lw_tbl := List.mem_of_getElem? (i := 980) rfl
set_option maxRecDepth 100000 in
theorem cw_1 : Cond.code (yNm 1) (bts 1) (mLoc 1) (rtT 1) ∈ lw_tbl := List.mem_of_getElem? (i := 862) rfl
set_option maxRecDepth 100000 in
theorem cw_2 : Cond.code (yNm 2) (bts 2) (mLoc 2) (rtT 2) ∈ lw_tbl := List.mem_of_getElem? (i := 1203) rfl
set_option maxRecDepth 100000 in
theorem cw_3 : Cond.code (yNm 3) (bts 3) (mLoc 3) (rtT 3) ∈ lw_tbl := List.mem_of_getElem? (i := 219) rfl
set_option maxRecDepth 100000 in
theorem cw_4 : Cond.code (yNm 4) (bts 4) (mLoc 4) (rtT 4) ∈ lw_tbl := List.mem_of_getElem? (i := 491) rfl
set_option maxRecDepth 100000 in
theorem cw_5 : Cond.code (yNm 5) (bts 5) (mLoc 5) (rtT 5) ∈ lw_tbl := List.mem_of_getElem? (i := 937) rfl
set_option maxRecDepth 100000 in
theorem cw_6 : Cond.code (yNm 6) (bts 6) (mLoc 6) (rtT 6) ∈ lw_tbl := List.mem_of_getElem? (i := 945) rfl
set_option maxRecDepth 100000 in
theorem cw_7 : Cond.code (yNm 7) (bts 7) (mLoc 7) (rtT 7) ∈ lw_tbl := List.mem_of_getElem? (i := 949) rfl
set_option maxRecDepth 100000 in
theorem cw_8 : Cond.code (yNm 8) (bts 8) (mLoc 8) (rtT 8) ∈ lw_tbl := List.mem_of_getElem? (i := 1126) rfl
set_option maxRecDepth 100000 in
theorem cw_9 : Cond.code (yNm 9) (bts 9) (mLoc 9) (rtT 9) ∈ lw_tbl := List.mem_of_getElem? (i := 1352) rfl
set_option maxRecDepth 100000 in
theorem cw_10 : Cond.code (yNm 10) (bts 10) (mLoc 10) (rtT 10) ∈ lw_tbl := List.mem_of_getElem? (i := 205) rfl
set_option maxRecDepth 100000 in
theorem cw_11 : Cond.code (yNm 11) (bts 11) (mLoc 11) (rtT 11) ∈ lw_tbl := List.mem_of_getElem? (i := 922) rfl
set_option maxRecDepth 100000 in
theorem cw_12 : Cond.code (yNm 12) (bts 12) (mLoc 12) (rtT 12) ∈ lw_tbl := List.mem_of_getElem? (i := 1114) rfl
set_option maxRecDepth 100000 in
theorem cw_13 : Cond.code (yNm 13) (bts 13) (mLoc 13) (rtT 13) ∈ lw_tbl := List.mem_of_getElem? (i := 1118) rfl
set_option maxRecDepth 100000 in
theorem cw_14 : Cond.code (yNm 14) (bts 14) (mLoc 14) (rtT 14) ∈ lw_tbl := List.mem_of_getElem? (i := 457) rfl
set_option maxRecDepth 100000 in
theorem cw_15 : Cond.code (yNm 15) (bts 15) (mLoc 15) (rtT 15) ∈ lw_tbl := List.mem_of_getElem? (i := 480) rfl
set_option maxRecDepth 100000 in
theorem cw_16 : Cond.code (yNm 16) (bts 16) (mLoc 16) (rtT 16) ∈ lw_tbl := List.mem_of_getElem? (i := 485) rfl
set_option maxRecDepth 100000 in
theorem cw_17 : Cond.code (yNm 17) (bts 17) (mLoc 17) (rtT 17) ∈ lw_tbl := List.mem_of_getElem? (i := 698) rfl
set_option maxRecDepth 100000 in
theorem cw_18 : Cond.code (yNm 18) (bts 18) (mLoc 18) (rtT 18) ∈ lw_tbl := List.mem_of_getElem? (i := 769) rfl
set_option maxRecDepth 100000 in
theorem cw_19 : Cond.code (yNm 19) (bts 19) (mLoc 19) (rtT 19) ∈ lw_tbl := List.mem_of_getElem? (i := 774) rfl
set_option maxRecDepth 100000 in
theorem cw_20 : Cond.code (yNm 20) (bts 20) (mLoc 20) (rtT 20) ∈ lw_tbl := List.mem_of_getElem? (i := 787) rfl
set_option maxRecDepth 100000 in
theorem cw_21 : Cond.code (yNm 21) (bts 21) (mLoc 21) (rtT 21) ∈ lw_tbl := List.mem_of_getElem? (i := 809) rfl
set_option maxRecDepth 100000 in
theorem cw_22 : Cond.code (yNm 22) (bts 22) (mLoc 22) (rtT 22) ∈ lw_tbl := List.mem_of_getElem? (i := 1067) rfl
set_option maxRecDepth 100000 in
theorem cw_23 : Cond.code (yNm 23) (bts 23) (mLoc 23) (rtT 23) ∈ lw_tbl := List.mem_of_getElem? (i := 1089) rfl
set_option maxRecDepth 100000 in
theorem cw_24 : Cond.code (yNm 24) (bts 24) (mLoc 24) (rtT 24) ∈ lw_tbl := List.mem_of_getElem? (i := 1097) rfl
set_option maxRecDepth 100000 in
theorem cw_25 : Cond.code (yNm 25) (bts 25) (mLoc 25) (rtT 25) ∈ lw_tbl := List.mem_of_getElem? (i := 1101) rfl
set_option maxRecDepth 100000 in
theorem cw_26 : Cond.code (yNm 26) (bts 26) (mLoc 26) (rtT 26) ∈ lw_tbl := List.mem_of_getElem? (i := 1105) rfl
set_option maxRecDepth 100000 in
theorem cw_27 : Cond.code (yNm 27) (bts 27) (mLoc 27) (rtT 27) ∈ lw_tbl := List.mem_of_getElem? (i := 1151) rfl
set_option maxRecDepth 100000 in
theorem cw_28 : Cond.code (yNm 28) (bts 28) (mLoc 28) (rtT 28) ∈ lw_tbl := List.mem_of_getElem? (i := 87) rfl
set_option maxRecDepth 100000 in
theorem cw_29 : Cond.code (yNm 29) (bts 29) (mLoc 29) (rtT 29) ∈ lw_tbl := List.mem_of_getElem? (i := 435) rfl
set_option maxRecDepth 100000 in
theorem cw_30 : Cond.code (yNm 30) (bts 30) (mLoc 30) (rtT 30) ∈ lw_tbl := List.mem_of_getElem? (i := 500) rfl
set_option maxRecDepth 100000 in
theorem cw_31 : Cond.code (yNm 31) (bts 31) (mLoc 31) (rtT 31) ∈ lw_tbl := List.mem_of_getElem? (i := 531) rfl
set_option maxRecDepth 100000 in
theorem cw_32 : Cond.code (yNm 32) (bts 32) (mLoc 32) (rtT 32) ∈ lw_tbl := List.mem_of_getElem? (i := 535) rfl
set_option maxRecDepth 100000 in
theorem cw_33 : Cond.code (yNm 33) (bts 33) (mLoc 33) (rtT 33) ∈ lw_tbl := List.mem_of_getElem? (i := 542) rfl
set_option maxRecDepth 100000 in
theorem cw_34 : Cond.code (yNm 34) (bts 34) (mLoc 34) (rtT 34) ∈ lw_tbl := List.mem_of_getElem? (i := 778) rfl
set_option maxRecDepth 100000 in
theorem cw_35 : Cond.code (yNm 35) (bts 35) (mLoc 35) (rtT 35) ∈ lw_tbl := List.mem_of_getElem? (i := 782) rfl
set_option maxRecDepth 100000 in
theorem cw_36 : Cond.code (yNm 36) (bts 36) (mLoc 36) (rtT 36) ∈ lw_tbl := List.mem_of_getElem? (i := 791) rfl
set_option maxRecDepth 100000 in
theorem cw_37 : Cond.code (yNm 37) (bts 37) (mLoc 37) (rtT 37) ∈ lw_tbl := List.mem_of_getElem? (i := 173) rfl
set_option maxRecDepth 100000 in
theorem cw_38 : Cond.code (yNm 38) (bts 38) (mLoc 38) (rtT 38) ∈ lw_tbl := List.mem_of_getElem? (i := 553) rfl
set_option maxRecDepth 100000 in
theorem cw_39 : Cond.code (yNm 39) (bts 39) (mLoc 39) (rtT 39) ∈ lw_tbl := List.mem_of_getElem? (i := 844) rfl
set_option maxRecDepth 100000 in
theorem cw_40 : Cond.code (yNm 40) (bts 40) (mLoc 40) (rtT 40) ∈ lw_tbl := List.mem_of_getElem? (i := 848) rfl
set_option maxRecDepth 100000 in
theorem cw_41 : Cond.code (yNm 41) (bts 41) (mLoc 41) (rtT 41) ∈ lw_tbl := List.mem_of_getElem? (i := 853) rfl
set_option maxRecDepth 100000 in
theorem cw_42 : Cond.code (yNm 42) (bts 42) (mLoc 42) (rtT 42) ∈ lw_tbl := List.mem_of_getElem? (i := 1188) rfl
set_option maxRecDepth 100000 in
theorem cw_43 : Cond.code (yNm 43) (bts 43) (mLoc 43) (rtT 43) ∈ lw_tbl := List.mem_of_getElem? (i := 1192) rfl
set_option maxRecDepth 100000 in
theorem cw_44 : Cond.code (yNm 44) (bts 44) (mLoc 44) (rtT 44) ∈ lw_tbl := List.mem_of_getElem? (i := 1196) rfl
set_option maxRecDepth 100000 in
theorem cw_45 : Cond.code (yNm 45) (bts 45) (mLoc 45) (rtT 45) ∈ lw_tbl := List.mem_of_getElem? (i := 248) rfl
set_option maxRecDepth 100000 in
theorem cw_46 : Cond.code (yNm 46) (bts 46) (mLoc 46) (rtT 46) ∈ lw_tbl := List.mem_of_getElem? (i := 495) rfl
set_option maxRecDepth 100000 in
theorem cw_47 : Cond.code (yNm 47) (bts 47) (mLoc 47) (rtT 47) ∈ lw_tbl := List.mem_of_getElem? (i := 959) rfl
set_option maxRecDepth 100000 in
theorem cw_48 : Cond.code (yNm 48) (bts 48) (mLoc 48) (rtT 48) ∈ lw_tbl := List.mem_of_getElem? (i := 963) rfl
set_option maxRecDepth 100000 in
theorem cw_49 : Cond.code (yNm 49) (bts 49) (mLoc 49) (rtT 49) ∈ lw_tbl := List.mem_of_getElem? (i := 971) rfl
set_option maxRecDepth 100000 in
theorem cw_50 : Cond.code (yNm 50) (bts 50) (mLoc 50) (rtT 50) ∈ lw_tbl := List.mem_of_getElem? (i := 975) rfl
set_option maxRecDepth 100000 in
theorem cw_51 : Cond.code (yNm 51) (bts 51) (mLoc 51) (rtT 51) ∈ lw_tbl := List.mem_of_getElem? (i := 1248) rfl
set_option maxRecDepth 100000 in
theorem cw_52 : Cond.code (yNm 52) (bts 52) (mLoc 52) (rtT 52) ∈ lw_tbl := List.mem_of_getElem? (i := 1257) rfl
set_option maxRecDepth 100000 in
theorem cw_53 : Cond.code (yNm 53) (bts 53) (mLoc 53) (rtT 53) ∈ lw_tbl := List.mem_of_getElem? (i := 1262) rfl
set_option maxRecDepth 100000 in
theorem cw_54 : Cond.code (yNm 54) (bts 54) (mLoc 54) (rtT 54) ∈ lw_tbl := List.mem_of_getElem? (i := 1267) rfl
set_option maxRecDepth 100000 in
theorem cw_55 : Cond.code (yNm 55) (bts 55) (mLoc 55) (rtT 55) ∈ lw_tbl := List.mem_of_getElem? (i := 1271) rfl
set_option maxRecDepth 100000 in
theorem cw_56 : Cond.code (yNm 56) (bts 56) (mLoc 56) (rtT 56) ∈ lw_tbl := List.mem_of_getElem? (i := 1275) rfl
set_option maxRecDepth 100000 in
theorem cw_57 : Cond.code (yNm 57) (bts 57) (mLoc 57) (rtT 57) ∈ lw_tbl := List.mem_of_getElem? (i := 1279) rfl
set_option maxRecDepth 100000 in
theorem cw_58 : Cond.code (yNm 58) (bts 58) (mLoc 58) (rtT 58) ∈ lw_tbl := List.mem_of_getElem? (i := 1283) rfl
set_option maxRecDepth 100000 in
theorem cw_59 : Cond.code (yNm 59) (bts 59) (mLoc 59) (rtT 59) ∈ lw_tbl := List.mem_of_getElem? (i := 1287) rfl
set_option maxRecDepth 100000 in
theorem cw_60 : Cond.code (yNm 60) (bts 60) (mLoc 60) (rtT 60) ∈ lw_tbl := List.mem_of_getElem? (i := 1291) rfl
set_option maxRecDepth 100000 in
theorem cw_61 : Cond.code (yNm 61) (bts 61) (mLoc 61) (rtT 61) ∈ lw_tbl := List.mem_of_getElem? (i := 1295) rfl
set_option maxRecDepth 100000 in
theorem cw_62 : Cond.code (yNm 62) (bts 62) (mLoc 62) (rtT 62) ∈ lw_tbl := List.mem_of_getElem? (i := 1299) rfl
set_option maxRecDepth 100000 in
theorem cw_63 : Cond.code (yNm 63) (bts 63) (mLoc 63) (rtT 63) ∈ lw_tbl := List.mem_of_getElem? (i := 1303) rfl
set_option maxRecDepth 100000 in
theorem cw_64 : Cond.code (yNm 64) (bts 64) (mLoc 64) (rtT 64) ∈ lw_tbl := List.mem_of_getElem? (i := 1309) rfl
set_option maxRecDepth 100000 in
theorem cw_65 : Cond.code (yNm 65) (bts 65) (mLoc 65) (rtT 65) ∈ lw_tbl := List.mem_of_getElem? (i := 1323) rfl
set_option maxRecDepth 100000 in
theorem cw_66 : Cond.code (yNm 66) (bts 66) (mLoc 66) (rtT 66) ∈ lw_tbl := List.mem_of_getElem? (i := 1348) rfl
set_option maxRecDepth 100000 in
theorem cw_67 : Cond.code (yNm 67) (bts 67) (mLoc 67) (rtT 67) ∈ lw_tbl := List.mem_of_getElem? (i := 136) rfl
set_option maxRecDepth 100000 in
theorem cw_68 : Cond.code (yNm 68) (bts 68) (mLoc 68) (rtT 68) ∈ lw_tbl := List.mem_of_getElem? (i := 444) rfl
set_option maxRecDepth 100000 in
theorem cw_69 : Cond.code (yNm 69) (bts 69) (mLoc 69) (rtT 69) ∈ lw_tbl := List.mem_of_getElem? (i := 448) rfl
set_option maxRecDepth 100000 in
theorem cw_70 : Cond.code (yNm 70) (bts 70) (mLoc 70) (rtT 70) ∈ lw_tbl := List.mem_of_getElem? (i := 453) rfl
set_option maxRecDepth 100000 in
theorem cw_71 : Cond.code (yNm 71) (bts 71) (mLoc 71) (rtT 71) ∈ lw_tbl := List.mem_of_getElem? (i := 461) rfl
set_option maxRecDepth 100000 in
theorem cw_72 : Cond.code (yNm 72) (bts 72) (mLoc 72) (rtT 72) ∈ lw_tbl := List.mem_of_getElem? (i := 795) rfl
set_option maxRecDepth 100000 in
theorem cw_73 : Cond.code (yNm 73) (bts 73) (mLoc 73) (rtT 73) ∈ lw_tbl := List.mem_of_getElem? (i := 1055) rfl
set_option maxRecDepth 100000 in
theorem cw_74 : Cond.code (yNm 74) (bts 74) (mLoc 74) (rtT 74) ∈ lw_tbl := List.mem_of_getElem? (i := 1072) rfl
set_option maxRecDepth 100000 in
theorem cw_75 : Cond.code (yNm 75) (bts 75) (mLoc 75) (rtT 75) ∈ lw_tbl := List.mem_of_getElem? (i := 295) rfl
set_option maxRecDepth 100000 in
theorem cw_76 : Cond.code (yNm 76) (bts 76) (mLoc 76) (rtT 76) ∈ lw_tbl := List.mem_of_getElem? (i := 1007) rfl
set_option maxRecDepth 100000 in
theorem cw_77 : Cond.code (yNm 77) (bts 77) (mLoc 77) (rtT 77) ∈ lw_tbl := List.mem_of_getElem? (i := 1015) rfl
set_option maxRecDepth 100000 in
theorem cw_78 : Cond.code (yNm 78) (bts 78) (mLoc 78) (rtT 78) ∈ lw_tbl := List.mem_of_getElem? (i := 1019) rfl
set_option maxRecDepth 100000 in
theorem cw_79 : Cond.code (yNm 79) (bts 79) (mLoc 79) (rtT 79) ∈ lw_tbl := List.mem_of_getElem? (i := 566) rfl
set_option maxRecDepth 100000 in
theorem cw_80 : Cond.code (yNm 80) (bts 80) (mLoc 80) (rtT 80) ∈ lw_tbl := List.mem_of_getElem? (i := 1172) rfl
set_option maxRecDepth 100000 in
theorem cw_81 : Cond.code (yNm 81) (bts 81) (mLoc 81) (rtT 81) ∈ lw_tbl := List.mem_of_getElem? (i := 79) rfl
set_option maxRecDepth 100000 in
theorem cw_82 : Cond.code (yNm 82) (bts 82) (mLoc 82) (rtT 82) ∈ lw_tbl := List.mem_of_getElem? (i := 357) rfl
set_option maxRecDepth 100000 in
theorem cw_83 : Cond.code (yNm 83) (bts 83) (mLoc 83) (rtT 83) ∈ lw_tbl := List.mem_of_getElem? (i := 360) rfl
set_option maxRecDepth 100000 in
theorem cw_84 : Cond.code (yNm 84) (bts 84) (mLoc 84) (rtT 84) ∈ lw_tbl := List.mem_of_getElem? (i := 363) rfl
set_option maxRecDepth 100000 in
theorem cw_85 : Cond.code (yNm 85) (bts 85) (mLoc 85) (rtT 85) ∈ lw_tbl := List.mem_of_getElem? (i := 464) rfl
set_option maxRecDepth 100000 in
theorem cw_86 : Cond.code (yNm 86) (bts 86) (mLoc 86) (rtT 86) ∈ lw_tbl := List.mem_of_getElem? (i := 467) rfl
set_option maxRecDepth 100000 in
theorem cw_87 : Cond.code (yNm 87) (bts 87) (mLoc 87) (rtT 87) ∈ lw_tbl := List.mem_of_getElem? (i := 504) rfl
set_option maxRecDepth 100000 in
theorem cw_88 : Cond.code (yNm 88) (bts 88) (mLoc 88) (rtT 88) ∈ lw_tbl := List.mem_of_getElem? (i := 511) rfl
set_option maxRecDepth 100000 in
theorem cw_89 : Cond.code (yNm 89) (bts 89) (mLoc 89) (rtT 89) ∈ lw_tbl := List.mem_of_getElem? (i := 546) rfl
set_option maxRecDepth 100000 in
theorem cw_90 : Cond.code (yNm 90) (bts 90) (mLoc 90) (rtT 90) ∈ lw_tbl := List.mem_of_getElem? (i := 549) rfl
set_option maxRecDepth 100000 in
theorem cw_91 : Cond.code (yNm 91) (bts 91) (mLoc 91) (rtT 91) ∈ lw_tbl := List.mem_of_getElem? (i := 557) rfl
set_option maxRecDepth 100000 in
theorem cw_92 : Cond.code (yNm 92) (bts 92) (mLoc 92) (rtT 92) ∈ lw_tbl := List.mem_of_getElem? (i := 643) rfl
set_option maxRecDepth 100000 in
theorem cw_93 : Cond.code (yNm 93) (bts 93) (mLoc 93) (rtT 93) ∈ lw_tbl := List.mem_of_getElem? (i := 646) rfl
set_option maxRecDepth 100000 in
theorem cw_94 : Cond.code (yNm 94) (bts 94) (mLoc 94) (rtT 94) ∈ lw_tbl := List.mem_of_getElem? (i := 649) rfl
set_option maxRecDepth 100000 in
theorem cw_95 : Cond.code (yNm 95) (bts 95) (mLoc 95) (rtT 95) ∈ lw_tbl := List.mem_of_getElem? (i := 683) rfl
set_option maxRecDepth 100000 in
theorem cw_96 : Cond.code (yNm 96) (bts 96) (mLoc 96) (rtT 96) ∈ lw_tbl := List.mem_of_getElem? (i := 686) rfl
set_option maxRecDepth 100000 in
theorem cw_97 : Cond.code (yNm 97) (bts 97) (mLoc 97) (rtT 97) ∈ lw_tbl := List.mem_of_getElem? (i := 689) rfl
set_option maxRecDepth 100000 in
theorem cw_98 : Cond.code (yNm 98) (bts 98) (mLoc 98) (rtT 98) ∈ lw_tbl := List.mem_of_getElem? (i := 693) rfl
set_option maxRecDepth 100000 in
theorem cw_99 : Cond.code (yNm 99) (bts 99) (mLoc 99) (rtT 99) ∈ lw_tbl := List.mem_of_getElem? (i := 765) rfl
set_option maxRecDepth 100000 in
theorem cw_100 : Cond.code (yNm 100) (bts 100) (mLoc 100) (rtT 100) ∈ lw_tbl := List.mem_of_getElem? (i := 800) rfl
set_option maxRecDepth 100000 in
theorem cw_101 : Cond.code (yNm 101) (bts 101) (mLoc 101) (rtT 101) ∈ lw_tbl := List.mem_of_getElem? (i := 805) rfl
set_option maxRecDepth 100000 in
theorem cw_102 : Cond.code (yNm 102) (bts 102) (mLoc 102) (rtT 102) ∈ lw_tbl := List.mem_of_getElem? (i := 813) rfl
set_option maxRecDepth 100000 in
theorem cw_103 : Cond.code (yNm 103) (bts 103) (mLoc 103) (rtT 103) ∈ lw_tbl := List.mem_of_getElem? (i := 817) rfl
set_option maxRecDepth 100000 in
theorem cw_104 : Cond.code (yNm 104) (bts 104) (mLoc 104) (rtT 104) ∈ lw_tbl := List.mem_of_getElem? (i := 836) rfl
set_option maxRecDepth 100000 in
theorem cw_105 : Cond.code (yNm 105) (bts 105) (mLoc 105) (rtT 105) ∈ lw_tbl := List.mem_of_getElem? (i := 840) rfl
set_option maxRecDepth 100000 in
theorem cw_106 : Cond.code (yNm 106) (bts 106) (mLoc 106) (rtT 106) ∈ lw_tbl := List.mem_of_getElem? (i := 857) rfl
set_option maxRecDepth 100000 in
theorem cw_107 : Cond.code (yNm 107) (bts 107) (mLoc 107) (rtT 107) ∈ lw_tbl := List.mem_of_getElem? (i := 898) rfl
set_option maxRecDepth 100000 in
theorem cw_108 : Cond.code (yNm 108) (bts 108) (mLoc 108) (rtT 108) ∈ lw_tbl := List.mem_of_getElem? (i := 902) rfl
set_option maxRecDepth 100000 in
theorem cw_109 : Cond.code (yNm 109) (bts 109) (mLoc 109) (rtT 109) ∈ lw_tbl := List.mem_of_getElem? (i := 906) rfl
set_option maxRecDepth 100000 in
theorem cw_110 : Cond.code (yNm 110) (bts 110) (mLoc 110) (rtT 110) ∈ lw_tbl := List.mem_of_getElem? (i := 910) rfl
set_option maxRecDepth 100000 in
theorem cw_111 : Cond.code (yNm 111) (bts 111) (mLoc 111) (rtT 111) ∈ lw_tbl := List.mem_of_getElem? (i := 914) rfl
set_option maxRecDepth 100000 in
theorem cw_112 : Cond.code (yNm 112) (bts 112) (mLoc 112) (rtT 112) ∈ lw_tbl := List.mem_of_getElem? (i := 918) rfl
set_option maxRecDepth 100000 in
theorem cw_113 : Cond.code (yNm 113) (bts 113) (mLoc 113) (rtT 113) ∈ lw_tbl := List.mem_of_getElem? (i := 926) rfl
set_option maxRecDepth 100000 in
theorem cw_114 : Cond.code (yNm 114) (bts 114) (mLoc 114) (rtT 114) ∈ lw_tbl := List.mem_of_getElem? (i := 930) rfl
set_option maxRecDepth 100000 in
theorem cw_115 : Cond.code (yNm 115) (bts 115) (mLoc 115) (rtT 115) ∈ lw_tbl := List.mem_of_getElem? (i := 933) rfl
set_option maxRecDepth 100000 in
theorem cw_116 : Cond.code (yNm 116) (bts 116) (mLoc 116) (rtT 116) ∈ lw_tbl := List.mem_of_getElem? (i := 941) rfl
set_option maxRecDepth 100000 in
theorem cw_117 : Cond.code (yNm 117) (bts 117) (mLoc 117) (rtT 117) ∈ lw_tbl := List.mem_of_getElem? (i := 955) rfl
set_option maxRecDepth 100000 in
theorem cw_118 : Cond.code (yNm 118) (bts 118) (mLoc 118) (rtT 118) ∈ lw_tbl := List.mem_of_getElem? (i := 967) rfl
set_option maxRecDepth 100000 in
theorem cw_119 : Cond.code (yNm 119) (bts 119) (mLoc 119) (rtT 119) ∈ lw_tbl := List.mem_of_getElem? (i := 1000) rfl
set_option maxRecDepth 100000 in
theorem cw_120 : Cond.code (yNm 120) (bts 120) (mLoc 120) (rtT 120) ∈ lw_tbl := List.mem_of_getElem? (i := 1003) rfl
set_option maxRecDepth 100000 in
theorem cw_121 : Cond.code (yNm 121) (bts 121) (mLoc 121) (rtT 121) ∈ lw_tbl := List.mem_of_getElem? (i := 1011) rfl
set_option maxRecDepth 100000 in
theorem cw_122 : Cond.code (yNm 122) (bts 122) (mLoc 122) (rtT 122) ∈ lw_tbl := List.mem_of_getElem? (i := 1026) rfl
set_option maxRecDepth 100000 in
theorem cw_123 : Cond.code (yNm 123) (bts 123) (mLoc 123) (rtT 123) ∈ lw_tbl := List.mem_of_getElem? (i := 1033) rfl
set_option maxRecDepth 100000 in
theorem cw_124 : Cond.code (yNm 124) (bts 124) (mLoc 124) (rtT 124) ∈ lw_tbl := List.mem_of_getElem? (i := 1037) rfl
set_option maxRecDepth 100000 in
theorem cw_125 : Cond.code (yNm 125) (bts 125) (mLoc 125) (rtT 125) ∈ lw_tbl := List.mem_of_getElem? (i := 1042) rfl
set_option maxRecDepth 100000 in
theorem cw_126 : Cond.code (yNm 126) (bts 126) (mLoc 126) (rtT 126) ∈ lw_tbl := List.mem_of_getElem? (i := 1047) rfl
set_option maxRecDepth 100000 in
theorem cw_127 : Cond.code (yNm 127) (bts 127) (mLoc 127) (rtT 127) ∈ lw_tbl := List.mem_of_getElem? (i := 1051) rfl
set_option maxRecDepth 100000 in
theorem cw_128 : Cond.code (yNm 128) (bts 128) (mLoc 128) (rtT 128) ∈ lw_tbl := List.mem_of_getElem? (i := 1059) rfl
set_option maxRecDepth 100000 in
theorem cw_129 : Cond.code (yNm 129) (bts 129) (mLoc 129) (rtT 129) ∈ lw_tbl := List.mem_of_getElem? (i := 1063) rfl
set_option maxRecDepth 100000 in
theorem cw_130 : Cond.code (yNm 130) (bts 130) (mLoc 130) (rtT 130) ∈ lw_tbl := List.mem_of_getElem? (i := 1077) rfl
set_option maxRecDepth 100000 in
theorem cw_131 : Cond.code (yNm 131) (bts 131) (mLoc 131) (rtT 131) ∈ lw_tbl := List.mem_of_getElem? (i := 1082) rfl
set_option maxRecDepth 100000 in
theorem cw_132 : Cond.code (yNm 132) (bts 132) (mLoc 132) (rtT 132) ∈ lw_tbl := List.mem_of_getElem? (i := 1085) rfl
set_option maxRecDepth 100000 in
theorem cw_133 : Cond.code (yNm 133) (bts 133) (mLoc 133) (rtT 133) ∈ lw_tbl := List.mem_of_getElem? (i := 1093) rfl
set_option maxRecDepth 100000 in
theorem cw_134 : Cond.code (yNm 134) (bts 134) (mLoc 134) (rtT 134) ∈ lw_tbl := List.mem_of_getElem? (i := 1110) rfl
set_option maxRecDepth 100000 in
theorem cw_135 : Cond.code (yNm 135) (bts 135) (mLoc 135) (rtT 135) ∈ lw_tbl := List.mem_of_getElem? (i := 1122) rfl
set_option maxRecDepth 100000 in
theorem cw_136 : Cond.code (yNm 136) (bts 136) (mLoc 136) (rtT 136) ∈ lw_tbl := List.mem_of_getElem? (i := 1130) rfl
set_option maxRecDepth 100000 in
theorem cw_137 : Cond.code (yNm 137) (bts 137) (mLoc 137) (rtT 137) ∈ lw_tbl := List.mem_of_getElem? (i := 1134) rfl
set_option maxRecDepth 100000 in
theorem cw_138 : Cond.code (yNm 138) (bts 138) (mLoc 138) (rtT 138) ∈ lw_tbl := List.mem_of_getElem? (i := 1139) rfl
set_option maxRecDepth 100000 in
theorem cw_139 : Cond.code (yNm 139) (bts 139) (mLoc 139) (rtT 139) ∈ lw_tbl := List.mem_of_getElem? (i := 1143) rfl
set_option maxRecDepth 100000 in
theorem cw_140 : Cond.code (yNm 140) (bts 140) (mLoc 140) (rtT 140) ∈ lw_tbl := List.mem_of_getElem? (i := 1147) rfl
set_option maxRecDepth 100000 in
theorem cw_141 : Cond.code (yNm 141) (bts 141) (mLoc 141) (rtT 141) ∈ lw_tbl := List.mem_of_getElem? (i := 1156) rfl
set_option maxRecDepth 100000 in
theorem cw_142 : Cond.code (yNm 142) (bts 142) (mLoc 142) (rtT 142) ∈ lw_tbl := List.mem_of_getElem? (i := 1160) rfl
set_option maxRecDepth 100000 in
theorem cw_143 : Cond.code (yNm 143) (bts 143) (mLoc 143) (rtT 143) ∈ lw_tbl := List.mem_of_getElem? (i := 1164) rfl
set_option maxRecDepth 100000 in
theorem cw_144 : Cond.code (yNm 144) (bts 144) (mLoc 144) (rtT 144) ∈ lw_tbl := List.mem_of_getElem? (i := 1168) rfl
set_option maxRecDepth 100000 in
theorem cw_145 : Cond.code (yNm 145) (bts 145) (mLoc 145) (rtT 145) ∈ lw_tbl := List.mem_of_getElem? (i := 1176) rfl
set_option maxRecDepth 100000 in
theorem cw_146 : Cond.code (yNm 146) (bts 146) (mLoc 146) (rtT 146) ∈ lw_tbl := List.mem_of_getElem? (i := 1180) rfl
set_option maxRecDepth 100000 in
theorem cw_147 : Cond.code (yNm 147) (bts 147) (mLoc 147) (rtT 147) ∈ lw_tbl := List.mem_of_getElem? (i := 1184) rfl
set_option maxRecDepth 100000 in
theorem cw_148 : Cond.code (yNm 148) (bts 148) (mLoc 148) (rtT 148) ∈ lw_tbl := List.mem_of_getElem? (i := 1199) rfl
set_option maxRecDepth 100000 in
theorem cw_149 : Cond.code (yNm 149) (bts 149) (mLoc 149) (rtT 149) ∈ lw_tbl := List.mem_of_getElem? (i := 1207) rfl
set_option maxRecDepth 100000 in
theorem cw_150 : Cond.code (yNm 150) (bts 150) (mLoc 150) (rtT 150) ∈ lw_tbl := List.mem_of_getElem? (i := 1211) rfl
set_option maxRecDepth 100000 in
theorem cw_151 : Cond.code (yNm 151) (bts 151) (mLoc 151) (rtT 151) ∈ lw_tbl := List.mem_of_getElem? (i := 1215) rfl
set_option maxRecDepth 100000 in
theorem cw_152 : Cond.code (yNm 152) (bts 152) (mLoc 152) (rtT 152) ∈ lw_tbl := List.mem_of_getElem? (i := 1219) rfl
set_option maxRecDepth 100000 in
theorem cw_153 : Cond.code (yNm 153) (bts 153) (mLoc 153) (rtT 153) ∈ lw_tbl := List.mem_of_getElem? (i := 1224) rfl
set_option maxRecDepth 100000 in
theorem cw_154 : Cond.code (yNm 154) (bts 154) (mLoc 154) (rtT 154) ∈ lw_tbl := List.mem_of_getElem? (i := 1228) rfl
set_option maxRecDepth 100000 in
theorem cw_155 : Cond.code (yNm 155) (bts 155) (mLoc 155) (rtT 155) ∈ lw_tbl := List.mem_of_getElem? (i := 1232) rfl
set_option maxRecDepth 100000 in
theorem cw_156 : Cond.code (yNm 156) (bts 156) (mLoc 156) (rtT 156) ∈ lw_tbl := List.mem_of_getElem? (i := 1236) rfl
set_option maxRecDepth 100000 in
theorem cw_157 : Cond.code (yNm 157) (bts 157) (mLoc 157) (rtT 157) ∈ lw_tbl := List.mem_of_getElem? (i := 1240) rfl
set_option maxRecDepth 100000 in
theorem cw_158 : Cond.code (yNm 158) (bts 158) (mLoc 158) (rtT 158) ∈ lw_tbl := List.mem_of_getElem? (i := 1244) rfl
set_option maxRecDepth 100000 in
theorem cw_159 : Cond.code (yNm 159) (bts 159) (mLoc 159) (rtT 159) ∈ lw_tbl := List.mem_of_getElem? (i := 1319) rfl
set_option maxRecDepth 100000 in
theorem cw_160 : Cond.code (yNm 160) (bts 160) (mLoc 160) (rtT 160) ∈ lw_tbl := List.mem_of_getElem? (i := 1328) rfl
set_option maxRecDepth 100000 in
theorem cw_161 : Cond.code (yNm 161) (bts 161) (mLoc 161) (rtT 161) ∈ lw_tbl := List.mem_of_getElem? (i := 1332) rfl
set_option maxRecDepth 100000 in
theorem cw_162 : Cond.code (yNm 162) (bts 162) (mLoc 162) (rtT 162) ∈ lw_tbl := List.mem_of_getElem? (i := 1336) rfl
set_option maxRecDepth 100000 in
theorem cw_163 : Cond.code (yNm 163) (bts 163) (mLoc 163) (rtT 163) ∈ lw_tbl := List.mem_of_getElem? (i := 1340) rfl
set_option maxRecDepth 100000 in
theorem cw_164 : Cond.code (yNm 164) (bts 164) (mLoc 164) (rtT 164) ∈ lw_tbl := List.mem_of_getElem? (i := 1344) rfl
set_option maxRecDepth 100000 in
theorem cw_165 : Cond.code (yNm 165) (bts 165) (mLoc 165) (rtT 165) ∈ lw_tbl := List.mem_of_getElem? (i := 109) rfl
set_option maxRecDepth 100000 in
theorem cw_166 : Cond.code (yNm 166) (bts 166) (mLoc 166) (rtT 166) ∈ lw_tbl := List.mem_of_getElem? (i := 440) rfl
set_option maxRecDepth 100000 in
theorem cw_167 : Cond.code (yNm 167) (bts 167) (mLoc 167) (rtT 167) ∈ lw_tbl := List.mem_of_getElem? (i := 508) rfl
set_option maxRecDepth 100000 in
theorem cw_168 : Cond.code (yNm 168) (bts 168) (mLoc 168) (rtT 168) ∈ lw_tbl := List.mem_of_getElem? (i := 561) rfl
set_option maxRecDepth 100000 in
theorem cw_169 : Cond.code (yNm 169) (bts 169) (mLoc 169) (rtT 169) ∈ lw_tbl := List.mem_of_getElem? (i := 584) rfl
set_option maxRecDepth 100000 in
theorem cw_170 : Cond.code (yNm 170) (bts 170) (mLoc 170) (rtT 170) ∈ lw_tbl := List.mem_of_getElem? (i := 588) rfl
set_option maxRecDepth 100000 in
theorem cw_171 : Cond.code (yNm 171) (bts 171) (mLoc 171) (rtT 171) ∈ lw_tbl := List.mem_of_getElem? (i := 592) rfl
set_option maxRecDepth 100000 in
theorem cw_172 : Cond.code (yNm 172) (bts 172) (mLoc 172) (rtT 172) ∈ lw_tbl := List.mem_of_getElem? (i := 596) rfl
set_option maxRecDepth 100000 in
theorem cw_173 : Cond.code (yNm 173) (bts 173) (mLoc 173) (rtT 173) ∈ lw_tbl := List.mem_of_getElem? (i := 821) rfl
set_option maxRecDepth 100000 in
theorem cw_174 : Cond.code (yNm 174) (bts 174) (mLoc 174) (rtT 174) ∈ lw_tbl := List.mem_of_getElem? (i := 831) rfl
set_option maxRecDepth 100000 in
theorem cw_175 : Cond.code (yNm 175) (bts 175) (mLoc 175) (rtT 175) ∈ lw_tbl := List.mem_of_getElem? (i := 668) rfl
set_option maxRecDepth 100000 in
theorem cw_176 : Cond.code (yNm 176) (bts 176) (mLoc 176) (rtT 176) ∈ lw_tbl := List.mem_of_getElem? (i := 672) rfl
set_option maxRecDepth 100000 in
theorem cw_178 : Cond.code (yNm 178) (bts 178) (mLoc 178) (rtT 178) ∈ lw_tbl := List.mem_of_getElem? (i := 1029) rfl
set_option maxRecDepth 100000 in
theorem cw_179 : Cond.code (yNm 179) (bts 179) (mLoc 179) (rtT 179) ∈ lw_tbl := List.mem_of_getElem? (i := 112) rfl
set_option maxRecDepth 100000 in
theorem cw_180 : Cond.code (yNm 180) (bts 180) (mLoc 180) (rtT 180) ∈ lw_tbl := List.mem_of_getElem? (i := 115) rfl
set_option maxRecDepth 100000 in
theorem cw_181 : Cond.code (yNm 181) (bts 181) (mLoc 181) (rtT 181) ∈ lw_tbl := List.mem_of_getElem? (i := 177) rfl
set_option maxRecDepth 100000 in
theorem cw_183 : Cond.code (yNm 183) (bts 183) (mLoc 183) (rtT 183) ∈ lw_tbl := List.mem_of_getElem? (i := 1252) rfl
set_option maxRecDepth 100000 in
theorem cw_184 : Cond.code (yNm 184) (bts 184) (mLoc 184) (rtT 184) ∈ lw_tbl := List.mem_of_getElem? (i := 824) rfl
set_option maxRecDepth 100000 in
theorem cw_185 : Cond.code (yNm 185) (bts 185) (mLoc 185) (rtT 185) ∈ lw_tbl := List.mem_of_getElem? (i := 827) rfl
set_option maxRecDepth 100000 in
theorem cw_186 : Cond.code (yNm 186) (bts 186) (mLoc 186) (rtT 186) ∈ lw_tbl := List.mem_of_getElem? (i := 473) rfl
set_option maxRecDepth 100000 in
theorem cw_187 : Cond.code (yNm 187) (bts 187) (mLoc 187) (rtT 187) ∈ lw_tbl := List.mem_of_getElem? (i := 1312) rfl
set_option maxRecDepth 100000 in
theorem cw_191 : Cond.code (yNm 191) (bts 191) (mLoc 191) (rtT 191) ∈ lw_tbl := List.mem_of_getElem? (i := 599) rfl
set_option maxRecDepth 100000 in
theorem cw_192 : Cond.code (yNm 192) (bts 192) (mLoc 192) (rtT 192) ∈ lw_tbl := List.mem_of_getElem? (i := 606) rfl
set_option maxRecDepth 100000 in
theorem cwAll : ∀ z ∈ ([0, 1, 2, 3, 4, 5, 6, 7, 8, 9, 10, 11, 12, 13, 14, 15, 16, 17, 18, 19, 20, 21, 22, 23, 24, 25, 26, 27, 28, 29, 30, 31, 32, 33, 34, 35, 36, 37, 38, 39, 40, 41, 42, 43, 44, 45, 46, 47, 48, 49, 50, 51, 52, 53, 54, 55, 56, 57, 58, 59, 60, 61, 62, 63, 64, 65, 66, 67, 68, 69, 70, 71, 72, 73, 74, 75, 76, 77, 78, 79, 80, 81, 82, 83, 84, 85, 86, 87, 88, 89, 90, 91, 92, 93, 94, 95, 96, 97, 98, 99, 100, 101, 102, 103, 104, 105, 106, 107, 108, 109, 110, 111, 112, 113, 114, 115, 116, 117, 118, 119, 120, 121, 122, 123, 124, 125, 126, 127, 128, 129, 130, 131, 132, 133, 134, 135, 136, 137, 138, 139, 140, 141, 142, 143, 144, 145, 146, 147, 148, 149, 150, 151, 152, 153, 154, 155, 156, 157, 158, 159, 160, 161, 162, 163, 164, 165, 166, 167, 168, 169, 170, 171, 172, 173, 174, 175, 176, 178, 179, 180, 181, 183, 184, 185, 186, 187, 191, 192] : List Nat), Cond.code (yNm z) (bts z) (mLoc z) (rtT z) ∈ lw_tbl := List.forall_mem_cons.mpr ⟨cw_0, List.forall_mem_cons.mpr ⟨cw_1, List.forall_mem_cons.mpr ⟨cw_2, List.forall_mem_cons.mpr ⟨cw_3, List.forall_mem_cons.mpr ⟨cw_4, List.forall_mem_cons.mpr ⟨cw_5, List.forall_mem_cons.mpr ⟨cw_6, List.forall_mem_cons.mpr ⟨cw_7, List.forall_mem_cons.mpr ⟨cw_8, List.forall_mem_cons.mpr ⟨cw_9, List.forall_mem_cons.mpr ⟨cw_10, List.forall_mem_cons.mpr ⟨cw_11, List.forall_mem_cons.mpr ⟨cw_12, List.forall_mem_cons.mpr ⟨cw_13, List.forall_mem_cons.mpr ⟨cw_14, List.forall_mem_cons.mpr ⟨cw_15, List.forall_mem_cons.mpr ⟨cw_16, List.forall_mem_cons.mpr ⟨cw_17, List.forall_mem_cons.mpr ⟨cw_18, List.forall_mem_cons.mpr ⟨cw_19, List.forall_mem_cons.mpr ⟨cw_20, List.forall_mem_cons.mpr ⟨cw_21, List.forall_mem_cons.mpr ⟨cw_22, List.forall_mem_cons.mpr ⟨cw_23, List.forall_mem_cons.mpr ⟨cw_24, List.forall_mem_cons.mpr ⟨cw_25, List.forall_mem_cons.mpr ⟨cw_26, List.forall_mem_cons.mpr ⟨cw_27, List.forall_mem_cons.mpr ⟨cw_28, List.forall_mem_cons.mpr ⟨cw_29, List.forall_mem_cons.mpr ⟨cw_30, List.forall_mem_cons.mpr ⟨cw_31, List.forall_mem_cons.mpr ⟨cw_32, List.forall_mem_cons.mpr ⟨cw_33, List.forall_mem_cons.mpr ⟨cw_34, List.forall_mem_cons.mpr ⟨cw_35, List.forall_mem_cons.mpr ⟨cw_36, List.forall_mem_cons.mpr ⟨cw_37, List.forall_mem_cons.mpr ⟨cw_38, List.forall_mem_cons.mpr ⟨cw_39, List.forall_mem_cons.mpr ⟨cw_40, List.forall_mem_cons.mpr ⟨cw_41, List.forall_mem_cons.mpr ⟨cw_42, List.forall_mem_cons.mpr ⟨cw_43, List.forall_mem_cons.mpr ⟨cw_44, List.forall_mem_cons.mpr ⟨cw_45, List.forall_mem_cons.mpr ⟨cw_46, List.forall_mem_cons.mpr ⟨cw_47, List.forall_mem_cons.mpr ⟨cw_48, List.forall_mem_cons.mpr ⟨cw_49, List.forall_mem_cons.mpr ⟨cw_50, List.forall_mem_cons.mpr ⟨cw_51, List.forall_mem_cons.mpr ⟨cw_52, List.forall_mem_cons.mpr ⟨cw_53, List.forall_mem_cons.mpr ⟨cw_54, List.forall_mem_cons.mpr ⟨cw_55, List.forall_mem_cons.mpr ⟨cw_56, List.forall_mem_cons.mpr ⟨cw_57, List.forall_mem_cons.mpr ⟨cw_58, List.forall_mem_cons.mpr ⟨cw_59, List.forall_mem_cons.mpr ⟨cw_60, List.forall_mem_cons.mpr ⟨cw_61, List.forall_mem_cons.mpr ⟨cw_62, List.forall_mem_cons.mpr ⟨cw_63, List.forall_mem_cons.mpr ⟨cw_64, List.forall_mem_cons.mpr ⟨cw_65, List.forall_mem_cons.mpr ⟨cw_66, List.forall_mem_cons.mpr ⟨cw_67, List.forall_mem_cons.mpr ⟨cw_68, List.forall_mem_cons.mpr ⟨cw_69, List.forall_mem_cons.mpr ⟨cw_70, List.forall_mem_cons.mpr ⟨cw_71, List.forall_mem_cons.mpr ⟨cw_72, List.forall_mem_cons.mpr ⟨cw_73, List.forall_mem_cons.mpr ⟨cw_74, List.forall_mem_cons.mpr ⟨cw_75, List.forall_mem_cons.mpr ⟨cw_76, List.forall_mem_cons.mpr ⟨cw_77, List.forall_mem_cons.mpr ⟨cw_78, List.forall_mem_cons.mpr ⟨cw_79, List.forall_mem_cons.mpr ⟨cw_80, List.forall_mem_cons.mpr ⟨cw_81, List.forall_mem_cons.mpr ⟨cw_82, List.forall_mem_cons.mpr ⟨cw_83, List.forall_mem_cons.mpr ⟨cw_84, List.forall_mem_cons.mpr ⟨cw_85, List.forall_mem_cons.mpr ⟨cw_86, List.forall_mem_cons.mpr ⟨cw_87, List.forall_mem_cons.mpr ⟨cw_88, List.forall_mem_cons.mpr ⟨cw_89, List.forall_mem_cons.mpr ⟨cw_90, List.forall_mem_cons.mpr ⟨cw_91, List.forall_mem_cons.mpr ⟨cw_92, List.forall_mem_cons.mpr ⟨cw_93, List.forall_mem_cons.mpr ⟨cw_94, List.forall_mem_cons.mpr ⟨cw_95, List.forall_mem_cons.mpr ⟨cw_96, List.forall_mem_cons.mpr ⟨cw_97, List.forall_mem_cons.mpr ⟨cw_98, List.forall_mem_cons.mpr ⟨cw_99, List.forall_mem_cons.mpr ⟨cw_100, List.forall_mem_cons.mpr ⟨cw_101, List.forall_mem_cons.mpr ⟨cw_102, List.forall_mem_cons.mpr ⟨cw_103, List.forall_mem_cons.mpr ⟨cw_104, List.forall_mem_cons.mpr ⟨cw_105, List.forall_mem_cons.mpr ⟨cw_106, List.forall_mem_cons.mpr ⟨cw_107, List.forall_mem_cons.mpr ⟨cw_108, List.forall_mem_cons.mpr ⟨cw_109, List.forall_mem_cons.mpr ⟨cw_110, List.forall_mem_cons.mpr ⟨cw_111, List.forall_mem_cons.mpr ⟨cw_112, List.forall_mem_cons.mpr ⟨cw_113, List.forall_mem_cons.mpr ⟨cw_114, List.forall_mem_cons.mpr ⟨cw_115, List.forall_mem_cons.mpr ⟨cw_116, List.forall_mem_cons.mpr ⟨cw_117, List.forall_mem_cons.mpr ⟨cw_118, List.forall_mem_cons.mpr ⟨cw_119, List.forall_mem_cons.mpr ⟨cw_120, List.forall_mem_cons.mpr ⟨cw_121, List.forall_mem_cons.mpr ⟨cw_122, List.forall_mem_cons.mpr ⟨cw_123, List.forall_mem_cons.mpr ⟨cw_124, List.forall_mem_cons.mpr ⟨cw_125, List.forall_mem_cons.mpr ⟨cw_126, List.forall_mem_cons.mpr ⟨cw_127, List.forall_mem_cons.mpr ⟨cw_128, List.forall_mem_cons.mpr ⟨cw_129, List.forall_mem_cons.mpr ⟨cw_130, List.forall_mem_cons.mpr ⟨cw_131, List.forall_mem_cons.mpr ⟨cw_132, List.forall_mem_cons.mpr ⟨cw_133, List.forall_mem_cons.mpr ⟨cw_134, List.forall_mem_cons.mpr ⟨cw_135, List.forall_mem_cons.mpr ⟨cw_136, List.forall_mem_cons.mpr ⟨cw_137, List.forall_mem_cons.mpr ⟨cw_138, List.forall_mem_cons.mpr ⟨cw_139, List.forall_mem_cons.mpr ⟨cw_140, List.forall_mem_cons.mpr ⟨cw_141, List.forall_mem_cons.mpr ⟨cw_142, List.forall_mem_cons.mpr ⟨cw_143, List.forall_mem_cons.mpr ⟨cw_144, List.forall_mem_cons.mpr ⟨cw_145, List.forall_mem_cons.mpr ⟨cw_146, List.forall_mem_cons.mpr ⟨cw_147, List.forall_mem_cons.mpr ⟨cw_148, List.forall_mem_cons.mpr ⟨cw_149, List.forall_mem_cons.mpr ⟨cw_150, List.forall_mem_cons.mpr ⟨cw_151, List.forall_mem_cons.mpr ⟨cw_152, List.forall_mem_cons.mpr ⟨cw_153, List.forall_mem_cons.mpr ⟨cw_154, List.forall_mem_cons.mpr ⟨cw_155, List.forall_mem_cons.mpr ⟨cw_156, List.forall_mem_cons.mpr ⟨cw_157, List.forall_mem_cons.mpr ⟨cw_158, List.forall_mem_cons.mpr ⟨cw_159, List.forall_mem_cons.mpr ⟨cw_160, List.forall_mem_cons.mpr ⟨cw_161, List.forall_mem_cons.mpr ⟨cw_162, List.forall_mem_cons.mpr ⟨cw_163, List.forall_mem_cons.mpr ⟨cw_164, List.forall_mem_cons.mpr ⟨cw_165, List.forall_mem_cons.mpr ⟨cw_166, List.forall_mem_cons.mpr ⟨cw_167, List.forall_mem_cons.mpr ⟨cw_168, List.forall_mem_cons.mpr ⟨cw_169, List.forall_mem_cons.mpr ⟨cw_170, List.forall_mem_cons.mpr ⟨cw_171, List.forall_mem_cons.mpr ⟨cw_172, List.forall_mem_cons.mpr ⟨cw_173, List.forall_mem_cons.mpr ⟨cw_174, List.forall_mem_cons.mpr ⟨cw_175, List.forall_mem_cons.mpr ⟨cw_176, List.forall_mem_cons.mpr ⟨cw_178, List.forall_mem_cons.mpr ⟨cw_179, List.forall_mem_cons.mpr ⟨cw_180, List.forall_mem_cons.mpr ⟨cw_181, List.forall_mem_cons.mpr ⟨cw_183, List.forall_mem_cons.mpr ⟨cw_184, List.forall_mem_cons.mpr ⟨cw_185, List.forall_mem_cons.mpr ⟨cw_186, List.forall_mem_cons.mpr ⟨cw_187, List.forall_mem_cons.mpr ⟨cw_191, List.forall_mem_cons.mpr ⟨cw_192, fun _ h => absurd h List.not_mem_nil⟩⟩⟩⟩⟩⟩⟩⟩⟩⟩⟩⟩⟩⟩⟩⟩⟩⟩⟩⟩⟩⟩⟩⟩⟩⟩⟩⟩⟩⟩⟩⟩⟩⟩⟩⟩⟩⟩⟩⟩⟩⟩⟩⟩⟩⟩⟩⟩⟩⟩⟩⟩⟩⟩⟩⟩⟩⟩⟩⟩⟩⟩⟩⟩⟩⟩⟩⟩⟩⟩⟩⟩⟩⟩⟩⟩⟩⟩⟩⟩⟩⟩⟩⟩⟩⟩⟩⟩⟩⟩⟩⟩⟩⟩⟩⟩⟩⟩⟩⟩⟩⟩⟩⟩⟩⟩⟩⟩⟩⟩⟩⟩⟩⟩⟩⟩⟩⟩⟩⟩⟩⟩⟩⟩⟩⟩⟩⟩⟩⟩⟩⟩⟩⟩⟩⟩⟩⟩⟩⟩⟩⟩⟩⟩⟩⟩⟩⟩⟩⟩⟩⟩⟩⟩⟩⟩⟩⟩⟩⟩⟩⟩⟩⟩⟩⟩⟩⟩⟩⟩⟩⟩⟩⟩⟩⟩⟩⟩⟩⟩⟩⟩⟩⟩⟩⟩⟩⟩
/-- what is known of a method that is called -/
def MOK (z : Nat) : Prop := (z = 177 ∨ Cond.code (yNm z) (bts z) (mLoc z) (rtT z) ∈ LWG) ∧ (mKnd z = 0 → Cond.static (yNm z) ∈ LWG) ∧ (mKnd z ≠ 0 → Cond.instanceMethod (yNm z) ∈ LWG) ∧ (mKnd z = 1 → Cond.selects (yNm z).cls (yNm z) (yNm z) ∈ LWG) ∧ Cond.initialized (yNm z).cls ∈ LWG ∧ (yNm z).cls = cnm (cls z) ∧ ((yNm z).cls ≠ "java/lang/invoke/MethodHandle" ∧ (yNm z).cls ≠ "java/lang/invoke/VarHandle") ∧ (mKnd z = 2 ↔ (yNm z).name = "<init>") ∧ (mKnd z = 2 → rtT z = none) ∧ plainName (yNm z).cls = true ∧ (mKnd z = 1 → (xcl[mTag z]?).map (fun q => q.1) = some (yNm z).cls) ∧ mLoc z ≤ 20 ∧ ((parseMethodDescriptor (yNm z).desc).map (fun d => d.parameters.length) = some (if mKnd z = 0 then mArg z else mArg z - 1)) ∧ (1 ≤ mArg z ∨ mKnd z = 0)
theorem mthL_in : mthL.all (fun e => decide (900 ≤ e.2.2) || mPl.any (fun q => q.1 == e.2.2)) = true := by decide +kernel
theorem mPl_z : mPl.all (fun e => decide (e.1 = 177) || ([0, 1, 2, 3, 4, 5, 6, 7, 8, 9, 10, 11, 12, 13, 14, 15, 16, 17, 18, 19, 20, 21, 22, 23, 24, 25, 26, 27, 28, 29, 30, 31, 32, 33, 34, 35, 36, 37, 38, 39, 40, 41, 42, 43, 44, 45, 46, 47, 48, 49, 50, 51, 52, 53, 54, 55, 56, 57, 58, 59, 60, 61, 62, 63, 64, 65, 66, 67, 68, 69, 70, 71, 72, 73, 74, 75, 76, 77, 78, 79, 80, 81, 82, 83, 84, 85, 86, 87, 88, 89, 90, 91, 92, 93, 94, 95, 96, 97, 98, 99, 100, 101, 102, 103, 104, 105, 106, 107, 108, 109, 110, 111, 112, 113, 114, 115, 116, 117, 118, 119, 120, 121, 122, 123, 124, 125, 126, 127, 128, 129, 130, 131, 132, 133, 134, 135, 136, 137, 138, 139, 140, 141, 142, 143, 144, 145, 146, 147, 148, 149, 150, 151, 152, 153, 154, 155, 156, 157, 158, 159, 160, 161, 162, 163, 164, 165, 166, 167, 168, 169, 170, 171, 172, 173, 174, 175, 176, 178, 179, 180, 181, 183, 184, 185, 186, 187, 191, 192] : List Nat).contains e.1) = true := by decide +kernel
theorem MOK_of {e : Nat × Nat × Nat × Nat × Nat} (he : e ∈ mPl) : MOK e.1 := by
  have ha := List.all_eq_true.mp mPlA_ok e he
  have hc := List.all_eq_true.mp mPlC_ok e he
  have h1 := List.all_eq_true.mp mPlB1_ok e he
  have h2 := List.all_eq_true.mp mPlB2_ok e he
  have h3 := List.all_eq_true.mp mPlB3_ok e he
  have h4 := List.all_eq_true.mp mPlB4_ok e he
  have h5 := List.all_eq_true.mp mPlB5_ok e he
  have h7 := List.all_eq_true.mp mPlB7_ok e he
  have h8 := List.all_eq_true.mp mPlB8_ok e he
  have hz := List.all_eq_true.mp mPl_z e he
  obtain ⟨z, co, im, se, ini⟩ := e
  simp only [mPlA, Bool.and_eq_true, Bool.or_eq_true] at ha
  simp only [mPlC, decide_eq_true_eq] at hc
  simp only [mPlB1, decide_eq_true_eq] at h1
  simp only [mPlB2, Bool.and_eq_true, decide_eq_true_eq] at h2
  simp only [mPlB3, beq_iff_eq, decide_eq_decide] at h3
  simp only [mPlB4, decide_eq_true_eq] at h4
  simp only [mPlB5] at h5
  simp only [mPlB7, Bool.or_eq_true, decide_eq_true_eq, bne_iff_ne] at h7
  simp only [mPlB8, Bool.and_eq_true, decide_eq_true_eq] at h8
  simp only [Bool.or_eq_true, decide_eq_true_eq, List.contains_iff_mem] at hz
  obtain ⟨⟨a1, a2⟩, a3⟩ := ha
  refine ⟨?_, fun q => ?_, fun q => ?_, fun q => ?_, atI_mem a3, h1, h2, h3, fun q => ?_, h5, fun q => ?_, h8.1, hc, h8.2⟩
  · rcases hz with q | q
    · exact Or.inl q
    · exact Or.inr (List.mem_filter.mpr ⟨cwAll z q, rfl⟩)
  · rw [if_pos q] at a1; exact atI_mem a1
  · rw [if_neg q] at a1; exact atI_mem a1
  · rcases a2 with w | w
    · simp [q] at w
    · exact atI_mem w
  · rcases h4 with w | w
    · exact absurd q w
    · exact w
  · rcases h7 with w | w
    · exact absurd q w
    · exact w
theorem mth_w {c k z : Nat} (h : lkp mthL c k = some z) : (900 ≤ z ∧ Cond.methodLink (cnm c) k (pNm z) ∈ LWG) ∨ (¬ 900 ≤ z ∧ MOK z ∧ (Cond.methodLink (cnm c) k (yNm z) ∈ LWG ∨ (cnm c, k, yNm z, "PerfgaugeHouse") ∈ nestW)) := by
  have h1 := lkp_mem h
  have h0 := List.all_eq_true.mp mthL_in _ h1
  rw [mthL_X] at h1
  obtain ⟨e, he, hq⟩ := List.mem_map.mp h1
  have h2 := List.all_eq_true.mp mthX_ok e he
  obtain ⟨c', k', z', i, nest⟩ := e
  simp only [Prod.mk.injEq] at hq
  obtain ⟨rfl, rfl, rfl⟩ := hq
  simp only [mthChk] at h2
  simp only [Bool.or_eq_true, decide_eq_true_eq, List.any_eq_true, beq_iff_eq] at h0
  by_cases h9 : 900 ≤ z'
  · rw [if_pos h9] at h2
    exact Or.inl ⟨h9, atI_mem h2⟩
  · rw [if_neg h9] at h2
    refine Or.inr ⟨h9, ?_, ?_⟩
    · rcases h0 with w | ⟨q, hq, rfl⟩
      · exact absurd w h9
      · exact MOK_of hq
    · cases nest with
      | true =>
        simp only [if_true, List.any_eq_true, decide_eq_true_eq] at h2
        obtain ⟨q, hq, rfl⟩ := h2
        exact Or.inr hq
      | false => exact Or.inl (atI_mem h2)
