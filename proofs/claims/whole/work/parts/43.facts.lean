/-! ===== links, classes, methods: facts of the tables ===== -/
theorem zg0 {w : Cond} (i : Nat) (h : (k2_sels lw_privs)[i]? = some w) : w ∈ lw_tbl := List.mem_append_left _ (List.mem_of_getElem? h)
theorem zg1 {w : Cond} (i : Nat) (h : tables_1_1[i]? = some w) : w ∈ lw_tbl := List.mem_append_right _ (show w ∈ tables_1_1 ++ (tables_1_2 ++ (tables_1_3 ++ (tables_1_4 ++ (tables_1_5 ++ tables_1_6)))) from List.mem_append_left _ (List.mem_of_getElem? h))
theorem zg2 {w : Cond} (i : Nat) (h : tables_1_2[i]? = some w) : w ∈ lw_tbl := List.mem_append_right _ (show w ∈ tables_1_1 ++ (tables_1_2 ++ (tables_1_3 ++ (tables_1_4 ++ (tables_1_5 ++ tables_1_6)))) from List.mem_append_right _ (List.mem_append_left _ (List.mem_of_getElem? h)))
theorem zg3 {w : Cond} (i : Nat) (h : tables_1_3[i]? = some w) : w ∈ lw_tbl := List.mem_append_right _ (show w ∈ tables_1_1 ++ (tables_1_2 ++ (tables_1_3 ++ (tables_1_4 ++ (tables_1_5 ++ tables_1_6)))) from List.mem_append_right _ (List.mem_append_right _ (List.mem_append_left _ (List.mem_of_getElem? h))))
theorem zg4 {w : Cond} (i : Nat) (h : tables_1_4[i]? = some w) : w ∈ lw_tbl := List.mem_append_right _ (show w ∈ tables_1_1 ++ (tables_1_2 ++ (tables_1_3 ++ (tables_1_4 ++ (tables_1_5 ++ tables_1_6)))) from List.mem_append_right _ (List.mem_append_right _ (List.mem_append_right _ (List.mem_append_left _ (List.mem_of_getElem? h)))))
theorem zg5 {w : Cond} (i : Nat) (h : tables_1_5[i]? = some w) : w ∈ lw_tbl := List.mem_append_right _ (show w ∈ tables_1_1 ++ (tables_1_2 ++ (tables_1_3 ++ (tables_1_4 ++ (tables_1_5 ++ tables_1_6)))) from List.mem_append_right _ (List.mem_append_right _ (List.mem_append_right _ (List.mem_append_right _ (List.mem_append_left _ (List.mem_of_getElem? h))))))
theorem zg6 {w : Cond} (i : Nat) (h : tables_1_6[i]? = some w) : w ∈ lw_tbl := List.mem_append_right _ (show w ∈ tables_1_1 ++ (tables_1_2 ++ (tables_1_3 ++ (tables_1_4 ++ (tables_1_5 ++ tables_1_6)))) from List.mem_append_right _ (List.mem_append_right _ (List.mem_append_right _ (List.mem_append_right _ (List.mem_append_right _ (List.mem_of_getElem? h))))))
theorem zmg {w : Cond} (h : w ∈ lw_tbl) (hg : goodWord w = true) : w ∈ zGw := List.mem_filter.mpr ⟨h, hg⟩
theorem zmn {w : Cond} (h : w ∈ lw_tbl) (hg : zNq w = true) : w ∈ zNst := List.mem_filter.mpr ⟨h, hg⟩
theorem zk0 : Cond.methodLink "BitOff$Acts" 1 ⟨"java/lang/Object", "<init>", "()V"⟩ ∈ zGw := zmg (zg1 193 rfl) rfl
theorem zk1 : Cond.fieldLink "BitOff$Acts" 9 "BitOff$Acts" "bodies" "[I" ∈ zGw := zmg (zg1 194 rfl) rfl
theorem zk2 : Cond.fieldLink "BitOff$Acts" 13 "BitOff$Acts" "kind" "I" ∈ zGw := zmg (zg1 198 rfl) rfl
theorem zk3 : Cond.methodLink "BitOff$Acts" 17 ⟨"BitOff$Acts", "hangs", "(III)I"⟩ ∈ zGw := zmg (zg3 238 rfl) rfl
theorem zk4 : Cond.methodLink "BitOff$Acts" 21 ⟨"BitOff$Acts", "falls", "(III)I"⟩ ∈ zGw := zmg (zg4 6 rfl) rfl
theorem zk5 : Cond.methodLink "BitOff$Acts" 24 ⟨"BitOff$Acts", "tells", "(III)I"⟩ ∈ zGw := zmg (zg4 10 rfl) rfl
theorem zk6 : Cond.fieldLink "BitOff$Acts" 27 "BitOff$Acts" "ran" "I" ∈ zGw := zmg (zg1 196 rfl) rfl
theorem zk7 : Cond.methodLink "BitOff$Acts" 30 ⟨"BitOff$Acts", "begin", "(I)V"⟩ ∈ zGw := zmg (zg4 2 rfl) rfl
theorem zk8 : Cond.fieldLink "BitOff$Acts" 36 "BitOff$Acts" "v" "I" ∈ zGw := zmg (zg1 200 rfl) rfl
theorem zk9 : Cond.fieldLink "BitOff$Acts" 39 "BitOff$Acts" "number" "I" ∈ zGw := zmg (zg1 202 rfl) rfl
theorem zk10 : Cond.methodLink "BitOff$Kitchen" 1 ⟨"java/lang/Object", "<init>", "()V"⟩ ∈ zGw := zmg (zg1 29 rfl) rfl
theorem zk11 : Cond.fieldLink "BitOff$Kitchen" 9 "BitOff$Kitchen" "changes" "[I" ∈ zGw := zmg (zg1 30 rfl) rfl
theorem zk12 : Cond.fieldLink "BitOff$Kitchen" 13 "BitOff$Kitchen" "codeEnds" "[I" ∈ zGw := zmg (zg1 31 rfl) rfl
theorem zk13 : Cond.fieldLink "BitOff$Kitchen" 18 "BitOff$Kitchen" "codes" "[I" ∈ zGw := zmg (zg1 33 rfl) rfl
theorem zk14 : Cond.fieldLink "BitOff$Kitchen" 21 "BitOff$Kitchen" "give" "I" ∈ zGw := zmg (zg1 35 rfl) rfl
theorem zk15 : Cond.fieldLink "BitOff$Kitchen" 25 "BitOff$Kitchen" "leave" "I" ∈ zGw := zmg (zg1 38 rfl) rfl
theorem zk16 : Cond.fieldLink "BitOff$Kitchen" 28 "BitOff$Kitchen" "judgements" "I" ∈ zGw := zmg (zg1 32 rfl) rfl
theorem zk17 : Cond.fieldLink "BitOff$Kitchen" 31 "BitOff$Kitchen" "codesUsed" "I" ∈ zGw := zmg (zg1 34 rfl) rfl
theorem zk18 : Cond.fieldLink "BitOff$Kitchen" 34 "BitOff$Kitchen" "half" "Z" ∈ zGw := zmg (zg1 42 rfl) rfl
theorem zk19 : Cond.methodLink "BitOff$Kitchen" 38 ⟨"BitOff$Kitchen", "isSo", "(II[I)Z"⟩ ∈ zGw := zmg (zg2 57 rfl) rfl
theorem zk20 : Cond.methodLink "BitOff$Notes" 1 ⟨"java/lang/Object", "<init>", "()V"⟩ ∈ zGw := zmg (zg1 135 rfl) rfl
theorem zk21 : Cond.fieldLink "BitOff$Notes" 9 "BitOff$Notes" "seen" "[I" ∈ zGw := zmg (zg1 136 rfl) rfl
theorem zk22 : Cond.fieldLink "BitOff$Notes" 13 "BitOff$Notes" "planSteps" "[I" ∈ zGw := zmg (zg1 140 rfl) rfl
theorem zk23 : Cond.fieldLink "BitOff$Notes" 16 "BitOff$Notes" "bookSides" "[I" ∈ zGw := zmg (zg1 144 rfl) rfl
theorem zk24 : Cond.fieldLink "BitOff$Notes" 19 "BitOff$Notes" "bookLengths" "[I" ∈ zGw := zmg (zg1 146 rfl) rfl
theorem zk25 : Cond.methodLink "BitOff$Notes" 22 ⟨"java/lang/System", "arraycopy", "(Ljava/lang/Object;ILjava/lang/Object;II)V"⟩ ∈ zGw := zmg (zg3 225 rfl) rfl
theorem zk26 : Cond.fieldLink "BitOff$Notes" 28 "BitOff$Notes" "seenRows" "I" ∈ zGw := zmg (zg1 138 rfl) rfl
theorem zk27 : Cond.fieldLink "BitOff$Notes" 32 "BitOff$Notes" "planRows" "I" ∈ zGw := zmg (zg1 142 rfl) rfl
theorem zk28 : Cond.fieldLink "BitOff$Notes" 35 "BitOff$Notes" "bookRows" "I" ∈ zGw := zmg (zg1 148 rfl) rfl
theorem zk29 : Cond.methodLink "BitOff$Reader" 1 ⟨"java/lang/Object", "<init>", "()V"⟩ ∈ zGw := zmg (zg1 171 rfl) rfl
theorem zk30 : Cond.fieldLink "BitOff$Reader" 9 "BitOff$Reader" "text" "[B" ∈ zGw := zmg (zg1 172 rfl) rfl
theorem zk31 : Cond.fieldLink "BitOff$Reader" 13 "BitOff$Reader" "length" "I" ∈ zGw := zmg (zg1 173 rfl) rfl
theorem zk32 : Cond.fieldLink "BitOff$Reader" 17 "BitOff$Reader" "into" "LBitOff$Kitchen;" ∈ zGw := zmg (zg1 177 rfl) rfl
theorem zk33 : Cond.fieldLink "BitOff$Reader" 26 "BitOff$Reader" "at" "I" ∈ zGw := zmg (zg1 175 rfl) rfl
theorem zk34 : Cond.methodLink "BitOff$Reader" 29 ⟨"BitOff$Reader", "readsClause", "()Z"⟩ ∈ zGw := zmg (zg2 104 rfl) rfl
theorem zk35 : Cond.methodLink "BitOff$Reader" 33 ⟨"BitOff$Reader", "takes", "(C)Z"⟩ ∈ zGw := zmg (zg2 161 rfl) rfl
theorem zk36 : Cond.methodLink "BitOff$Reader" 39 ⟨"BitOff$Reader", "takesWord", "(Ljava/lang/String;)Z"⟩ ∈ zGw := zmg (zg2 109 rfl) rfl
theorem zk37 : Cond.methodLink "BitOff$Reader" 43 ⟨"BitOff$Reader", "readsJudgement", "(I)Z"⟩ ∈ zGw := zmg (zg2 165 rfl) rfl
theorem zk38 : Cond.methodLink "BitOff$Reader" 51 ⟨"BitOff$Reader", "number", "()I"⟩ ∈ zGw := zmg (zg2 169 rfl) rfl
theorem zk39 : Cond.methodLink "BitOff$Reader" 70 ⟨"BitOff$Reader", "readsEither", "(I)Z"⟩ ∈ zGw := zmg (zg2 173 rfl) rfl
theorem zk40 : Cond.methodLink "BitOff$Reader" 77 ⟨"BitOff$Reader", "readsPart", "(I)Z"⟩ ∈ zGw := zmg (zg2 177 rfl) rfl
theorem zk41 : Cond.methodLink "BitOff$Reader" 85 ⟨"BitOff$Reader", "takesOneOf", "(Ljava/lang/String;)I"⟩ ∈ zGw := zmg (zg2 186 rfl) rfl
theorem zk42 : Cond.methodLink "BitOff$Reader" 91 ⟨"java/lang/String", "length", "()I"⟩ ∈ zGw := zmg (zg2 113 rfl) rfl
theorem zk43 : Cond.methodLink "BitOff$Reader" 95 ⟨"java/lang/String", "charAt", "(I)C"⟩ ∈ zGw := zmg (zg2 123 rfl) rfl
theorem zk44 : Cond.methodLink "BitOff$Reader" 99 ⟨"java/lang/String", "indexOf", "(I)I"⟩ ∈ zGw := zmg (zg2 190 rfl) rfl
theorem zk45 : Cond.methodLink "BitOff$Table" 3 ⟨"java/lang/Object", "<init>", "()V"⟩ ∈ zGw := zmg (zg1 67 rfl) rfl
theorem zk46 : Cond.fieldLink "BitOff$Table" 9 "BitOff$Table" "kinds" "[I" ∈ zGw := zmg (zg1 70 rfl) rfl
theorem zk47 : Cond.fieldLink "BitOff$Table" 15 "BitOff$Table" "numbers" "[I" ∈ zGw := zmg (zg1 72 rfl) rfl
theorem zk48 : Cond.fieldLink "BitOff$Table" 18 "BitOff$Table" "lengths" "[I" ∈ zGw := zmg (zg1 74 rfl) rfl
theorem zk49 : Cond.fieldLink "BitOff$Table" 21 "BitOff$Table" "cuts" "[I" ∈ zGw := zmg (zg1 76 rfl) rfl
theorem zk50 : Cond.fieldLink "BitOff$Table" 24 "BitOff$Table" "rows" "[I" ∈ zGw := zmg (zg1 78 rfl) rfl
theorem zk51 : Cond.fieldLink "BitOff$Table" 29 "BitOff$Table" "letters" "[I" ∈ zGw := zmg (zg1 91 rfl) rfl
theorem zk52 : Cond.fieldLink "BitOff$Table" 32 "BitOff$Table" "following" "LBitOff$Kitchen;" ∈ zGw := zmg (zg1 84 rfl) rfl
theorem zk53 : Cond.fieldLink "BitOff$Table" 40 "BitOff$Table" "give" "I" ∈ zGw := zmg (zg1 85 rfl) rfl
theorem zk54 : Cond.fieldLink "BitOff$Table" 44 "BitOff$Table" "leave" "I" ∈ zGw := zmg (zg1 87 rfl) rfl
theorem zk55 : Cond.fieldLink "BitOff$Table" 49 "BitOff$Table" "half" "Z" ∈ zGw := zmg (zg1 89 rfl) rfl
theorem zk56 : Cond.fieldLink "BitOff$Table" 50 "BitOff$Table" "people" "I" ∈ zGw := zmg (zg1 69 rfl) rfl
theorem zk57 : Cond.methodLink "BitOff$Table" 53 ⟨"java/lang/System", "arraycopy", "(Ljava/lang/Object;ILjava/lang/Object;II)V"⟩ ∈ zGw := zmg (zg3 78 rfl) rfl
theorem zk58 : Cond.fieldLink "BitOff$Table" 59 "BitOff$Table" "snips" "I" ∈ zGw := zmg (zg1 80 rfl) rfl
theorem zk59 : Cond.fieldLink "BitOff$Table" 62 "BitOff$Table" "days" "I" ∈ zGw := zmg (zg1 82 rfl) rfl
theorem zk60 : Cond.fieldLink "BitOff$Table" 65 "BitOff$Table" "cutMore" "I" ∈ zGw := zmg (zg1 95 rfl) rfl
theorem zk61 : Cond.fieldLink "BitOff$Table" 68 "BitOff$Table" "KIND_ABOVE" "[I" ∈ zGw := zmg (zg4 25 rfl) rfl
theorem zk62 : Cond.methodLink "BitOff$Table" 75 ⟨"java/lang/Math", "min", "(II)I"⟩ ∈ zGw := zmg (zg2 73 rfl) rfl
theorem zk63 : Cond.methodLink "BitOff$Table" 81 ⟨"java/lang/Math", "max", "(II)I"⟩ ∈ zGw := zmg (zg3 33 rfl) rfl
theorem zk64 : Cond.methodLink "BitOff$Table" 84 ⟨"BitOff$Table", "greatestLong", "()I"⟩ ∈ zGw := zmg (zg3 29 rfl) rfl
theorem zk65 : Cond.methodLink "BitOff$Table" 88 ⟨"BitOff$Table", "leastLong", "()I"⟩ ∈ zGw := zmg (zg3 34 rfl) rfl
theorem zk66 : Cond.fieldLink "BitOff$Table" 91 "BitOff$Table" "looksLongest" "I" ∈ zGw := zmg (zg1 92 rfl) rfl
theorem zk67 : Cond.methodLink "BitOff$Table" 94 ⟨"BitOff$Table", "looksOf", "(I)I"⟩ ∈ zGw := zmg (zg3 46 rfl) rfl
theorem zk68 : Cond.methodLink "BitOff$Table" 98 ⟨"BitOff$Table", "gapSeen", "()I"⟩ ∈ zGw := zmg (zg3 42 rfl) rfl
theorem zk69 : Cond.methodLink "BitOff$Table" 101 ⟨"BitOff$Table", "cutOff", "(II)V"⟩ ∈ zGw := zmg (zg3 55 rfl) rfl
theorem zk70 : Cond.methodLink "BitOff$Table" 105 ⟨"BitOff$Table", "cutLongest", "()I"⟩ ∈ zGw := zmg (zg3 85 rfl) rfl
theorem zk71 : Cond.methodLink "BitOff$Table" 108 ⟨"BitOff$Table", "spread", "()I"⟩ ∈ zGw := zmg (zg3 86 rfl) rfl
theorem zk72 : Cond.methodLink "BitOff$Table" 111 ⟨"BitOff$Table", "takenBy", "(II)I"⟩ ∈ zGw := zmg (zg3 59 rfl) rfl
theorem zk73 : Cond.fieldLink "BitOff$Table" 114 "BitOff$Table" "lastTaken" "I" ∈ zGw := zmg (zg1 93 rfl) rfl
theorem zk74 : Cond.constant "BitOff$Table" 117 99999 ∈ zGw := zmg (zg3 60 rfl) rfl
theorem zk75 : Cond.methodLink "BitOff$Table" 118 ⟨"BitOff$Table", "growsBy", "(I)I"⟩ ∈ zGw := zmg (zg3 69 rfl) rfl
theorem zk76 : Cond.methodLink "BitOff$Tapes" 1 ⟨"java/lang/Object", "<init>", "()V"⟩ ∈ zGw := zmg (zg1 220 rfl) rfl
theorem zk77 : Cond.fieldLink "BitOff$Tapes" 9 "BitOff$Tapes" "sorts" "[I" ∈ zGw := zmg (zg1 223 rfl) rfl
theorem zk78 : Cond.fieldLink "BitOff$Tapes" 13 "BitOff$Tapes" "sizes" "[I" ∈ zGw := zmg (zg1 225 rfl) rfl
theorem zk79 : Cond.classLink "BitOff$Tapes" 16 "[[J" ∈ zGw := zmg (zg1 221 rfl) rfl
theorem zk80 : Cond.fieldLink "BitOff$Tapes" 18 "BitOff$Tapes" "rows" "[[J" ∈ zGw := zmg (zg1 226 rfl) rfl
theorem zk81 : Cond.methodLink "BitOff$Tapes" 21 ⟨"BitOff$Tapes", "holds", "(I)Z"⟩ ∈ zGw := zmg (zg3 216 rfl) rfl
theorem zk82 : Cond.methodLink "BitOff" 3 ⟨"java/lang/Object", "<init>", "()V"⟩ ∈ zGw := zmg (zg1 21 rfl) rfl
theorem zk83 : Cond.classLink "BitOff" 9 "BitOff$Kitchen" ∈ zGw := zmg (zg1 24 rfl) rfl
theorem zk84 : Cond.instantiable "BitOff$Kitchen" 8 ∈ zGw := zmg (zg1 25 rfl) rfl
theorem zk85 : Cond.initialized "BitOff$Kitchen" ∈ zGw := zmg (zg1 2 rfl) rfl
theorem zk86 : Cond.classLink "BitOff" 12 "BitOff$Table" ∈ zGw := zmg (zg1 62 rfl) rfl
theorem zk87 : Cond.instantiable "BitOff$Table" 16 ∈ zGw := zmg (zg1 63 rfl) rfl
theorem zk88 : Cond.initialized "BitOff$Table" ∈ zGw := zmg (zg1 3 rfl) rfl
theorem zk89 : Cond.fieldLink "BitOff" 17 "BitOff" "table" "LBitOff$Table;" ∈ zGw := zmg (zg1 236 rfl) rfl
theorem zk90 : Cond.fieldLink "BitOff" 23 "BitOff" "pictureTable" "LBitOff$Table;" ∈ zGw := zmg (zg1 238 rfl) rfl
theorem zk91 : Cond.fieldLink "BitOff" 26 "BitOff" "trial" "LBitOff$Table;" ∈ zGw := zmg (zg2 1 rfl) rfl
theorem zk92 : Cond.classLink "BitOff" 29 "BitOff$Notes" ∈ zGw := zmg (zg1 130 rfl) rfl
theorem zk93 : Cond.instantiable "BitOff$Notes" 7 ∈ zGw := zmg (zg1 131 rfl) rfl
theorem zk94 : Cond.initialized "BitOff$Notes" ∈ zGw := zmg (zg1 4 rfl) rfl
theorem zk95 : Cond.fieldLink "BitOff" 32 "BitOff" "notes" "LBitOff$Notes;" ∈ zGw := zmg (zg1 237 rfl) rfl
theorem zk96 : Cond.fieldLink "BitOff" 36 "BitOff" "pictureNotes" "LBitOff$Notes;" ∈ zGw := zmg (zg1 239 rfl) rfl
theorem zk97 : Cond.fieldLink "BitOff" 39 "BitOff" "kitchens" "[LBitOff$Kitchen;" ∈ zGw := zmg (zg2 2 rfl) rfl
theorem zk98 : Cond.classLink "BitOff" 43 "BitOff$Reader" ∈ zGw := zmg (zg1 166 rfl) rfl
theorem zk99 : Cond.instantiable "BitOff$Reader" 4 ∈ zGw := zmg (zg1 167 rfl) rfl
theorem zk100 : Cond.initialized "BitOff$Reader" ∈ zGw := zmg (zg1 5 rfl) rfl
theorem zk101 : Cond.fieldLink "BitOff" 46 "BitOff" "reader" "LBitOff$Reader;" ∈ zGw := zmg (zg2 4 rfl) rfl
theorem zk102 : Cond.classLink "BitOff" 50 "BitOff$Acts" ∈ zGw := zmg (zg1 188 rfl) rfl
theorem zk103 : Cond.instantiable "BitOff$Acts" 5 ∈ zGw := zmg (zg1 189 rfl) rfl
theorem zk104 : Cond.initialized "BitOff$Acts" ∈ zGw := zmg (zg1 6 rfl) rfl
theorem zk105 : Cond.fieldLink "BitOff" 53 "BitOff" "acts" "LBitOff$Acts;" ∈ zGw := zmg (zg2 5 rfl) rfl
theorem zk106 : Cond.classLink "BitOff" 57 "BitOff$Tapes" ∈ zGw := zmg (zg1 215 rfl) rfl
theorem zk107 : Cond.instantiable "BitOff$Tapes" 3 ∈ zGw := zmg (zg1 216 rfl) rfl
theorem zk108 : Cond.initialized "BitOff$Tapes" ∈ zGw := zmg (zg1 7 rfl) rfl
theorem zk109 : Cond.fieldLink "BitOff" 60 "BitOff" "tapes" "LBitOff$Tapes;" ∈ zGw := zmg (zg2 6 rfl) rfl
theorem zk110 : Cond.methodLink "BitOff" 64 ⟨"BitOff", "isWithin", "(III)Z"⟩ ∈ zGw := zmg (zg2 34 rfl) rfl
theorem zk111 : Cond.methodLink "BitOff" 76 ⟨"BitOff", "isSide", "(I)Z"⟩ ∈ zGw := zmg (zg2 45 rfl) rfl
theorem zk112 : Cond.fieldLink "BitOff" 113 "BitOff" "kitchensRead" "I" ∈ zGw := zmg (zg2 3 rfl) rfl
theorem zk113 : Cond.constant "BitOff" 169 1000000 ∈ zGw := zmg (zg3 104 rfl) rfl
theorem zk114 : Cond.methodLink "BitOff" 177 ⟨"BitOff", "wobbles", "()I"⟩ ∈ zGw := zmg (zg3 131 rfl) rfl
theorem zk115 : Cond.methodLink "BitOff" 186 ⟨"BitOff", "takesWhatWasSeen", "()Z"⟩ ∈ zGw := zmg (zg3 152 rfl) rfl
theorem zk116 : Cond.constantLong "BitOff" 189 (-9223372036854775808) ∈ zGw := zmg (zg3 164 rfl) rfl
theorem zk117 : Cond.methodLink "BitOff" 191 ⟨"BitOff", "lowestTerms", "(III)J"⟩ ∈ zGw := zmg (zg3 165 rfl) rfl
theorem zk118 : Cond.fieldLink "BitOff" 239 "BitOff" "pictured" "Z" ∈ zGw := zmg (zg2 0 rfl) rfl
theorem zk119 : Cond.methodLink "BitOff" 274 ⟨"java/lang/System", "arraycopy", "(Ljava/lang/Object;ILjava/lang/Object;II)V"⟩ ∈ zGw := zmg (zg4 58 rfl) rfl
theorem zk120 : Cond.methodLink "BitOffModel" 1 ⟨"java/lang/Object", "<init>", "()V"⟩ ∈ zGw := zmg (zg4 64 rfl) rfl
theorem zk121 : Cond.fieldLink "BitOffModel" 7 "BitOffModel" "sides" "I" ∈ zGw := zmg (zg4 66 rfl) rfl
theorem zk122 : Cond.fieldLink "BitOffModel" 13 "BitOffModel" "snips" "I" ∈ zGw := zmg (zg4 67 rfl) rfl
theorem zk123 : Cond.fieldLink "BitOffModel" 16 "BitOffModel" "days" "I" ∈ zGw := zmg (zg4 68 rfl) rfl
theorem zk124 : Cond.fieldLink "BitOffModel" 19 "BitOffModel" "kind" "[I" ∈ zGw := zmg (zg4 69 rfl) rfl
theorem zk125 : Cond.fieldLink "BitOffModel" 23 "BitOffModel" "v" "[I" ∈ zGw := zmg (zg4 70 rfl) rfl
theorem zk126 : Cond.fieldLink "BitOffModel" 26 "BitOffModel" "tall" "[I" ∈ zGw := zmg (zg4 71 rfl) rfl
theorem zk127 : Cond.fieldLink "BitOffModel" 29 "BitOffModel" "off" "[I" ∈ zGw := zmg (zg4 72 rfl) rfl
theorem zk128 : Cond.fieldLink "BitOffModel" 32 "BitOffModel" "rows" "[I" ∈ zGw := zmg (zg4 73 rfl) rfl
theorem zk129 : Cond.fieldLink "BitOffModel" 35 "BitOffModel" "kitchens" "I" ∈ zGw := zmg (zg4 74 rfl) rfl
theorem zk130 : Cond.fieldLink "BitOffModel" 38 "BitOffModel" "the" "I" ∈ zGw := zmg (zg4 75 rfl) rfl
theorem zk131 : Cond.fieldLink "BitOffModel" 41 "BitOffModel" "fed" "I" ∈ zGw := zmg (zg4 76 rfl) rfl
theorem zk132 : Cond.fieldLink "BitOffModel" 44 "BitOffModel" "at" "I" ∈ zGw := zmg (zg4 77 rfl) rfl
theorem zk133 : Cond.fieldLink "BitOffModel" 47 "BitOffModel" "digits" "I" ∈ zGw := zmg (zg4 78 rfl) rfl
theorem zk134 : Cond.fieldLink "BitOffModel" 50 "BitOffModel" "text" "[I" ∈ zGw := zmg (zg4 79 rfl) rfl
theorem zk135 : Cond.fieldLink "BitOffModel" 53 "BitOffModel" "clauses" "[I" ∈ zGw := zmg (zg4 80 rfl) rfl
theorem zk136 : Cond.fieldLink "BitOffModel" 56 "BitOffModel" "word" "[I" ∈ zGw := zmg (zg4 81 rfl) rfl
theorem zk137 : Cond.fieldLink "BitOffModel" 59 "BitOffModel" "number" "[I" ∈ zGw := zmg (zg4 82 rfl) rfl
theorem zk138 : Cond.fieldLink "BitOffModel" 62 "BitOffModel" "from" "[I" ∈ zGw := zmg (zg4 83 rfl) rfl
theorem zk139 : Cond.fieldLink "BitOffModel" 65 "BitOffModel" "to" "[I" ∈ zGw := zmg (zg4 84 rfl) rfl
theorem zk140 : Cond.fieldLink "BitOffModel" 68 "BitOffModel" "sign" "[I" ∈ zGw := zmg (zg4 85 rfl) rfl
theorem zk141 : Cond.fieldLink "BitOffModel" 71 "BitOffModel" "waits" "[I" ∈ zGw := zmg (zg4 86 rfl) rfl
theorem zk142 : Cond.fieldLink "BitOffModel" 74 "BitOffModel" "signs" "I" ∈ zGw := zmg (zg4 87 rfl) rfl
theorem zk143 : Cond.fieldLink "BitOffModel" 77 "BitOffModel" "waiting" "I" ∈ zGw := zmg (zg4 88 rfl) rfl
theorem zk144 : Cond.fieldLink "BitOffModel" 80 "BitOffModel" "open" "I" ∈ zGw := zmg (zg4 89 rfl) rfl
theorem zk145 : Cond.fieldLink "BitOffModel" 83 "BitOffModel" "letters" "[I" ∈ zGw := zmg (zg4 90 rfl) rfl
theorem zk146 : Cond.fieldLink "BitOffModel" 86 "BitOffModel" "giveInMind" "I" ∈ zGw := zmg (zg4 91 rfl) rfl
theorem zk147 : Cond.fieldLink "BitOffModel" 89 "BitOffModel" "leaveInMind" "I" ∈ zGw := zmg (zg4 92 rfl) rfl
theorem zk148 : Cond.fieldLink "BitOffModel" 92 "BitOffModel" "halfInMind" "I" ∈ zGw := zmg (zg4 93 rfl) rfl
theorem zk149 : Cond.fieldLink "BitOffModel" 95 "BitOffModel" "pile" "[Z" ∈ zGw := zmg (zg4 94 rfl) rfl
theorem zk150 : Cond.constant "BitOffModel" 99 99999 ∈ zGw := zmg (zg4 65 rfl) rfl
theorem zk151 : Cond.fieldLink "BitOffModel" 100 "BitOffModel" "mostOff" "I" ∈ zGw := zmg (zg4 95 rfl) rfl
theorem zk152 : Cond.fieldLink "BitOffModel" 103 "BitOffModel" "tookLast" "I" ∈ zGw := zmg (zg4 96 rfl) rfl
theorem zk153 : Cond.fieldLink "BitOffModel" 106 "BitOffModel" "keptSnips" "I" ∈ zGw := zmg (zg4 97 rfl) rfl
theorem zk154 : Cond.fieldLink "BitOffModel" 109 "BitOffModel" "keptDays" "I" ∈ zGw := zmg (zg4 98 rfl) rfl
theorem zk155 : Cond.fieldLink "BitOffModel" 112 "BitOffModel" "keptTall" "[I" ∈ zGw := zmg (zg4 99 rfl) rfl
theorem zk156 : Cond.fieldLink "BitOffModel" 115 "BitOffModel" "keptOff" "[I" ∈ zGw := zmg (zg4 100 rfl) rfl
theorem zk157 : Cond.fieldLink "BitOffModel" 118 "BitOffModel" "seen" "I" ∈ zGw := zmg (zg4 101 rfl) rfl
theorem zk158 : Cond.fieldLink "BitOffModel" 121 "BitOffModel" "seenTaken" "[I" ∈ zGw := zmg (zg4 102 rfl) rfl
theorem zk159 : Cond.fieldLink "BitOffModel" 124 "BitOffModel" "plans" "I" ∈ zGw := zmg (zg4 103 rfl) rfl
theorem zk160 : Cond.fieldLink "BitOffModel" 127 "BitOffModel" "books" "I" ∈ zGw := zmg (zg4 104 rfl) rfl
theorem zk161 : Cond.fieldLink "BitOffModel" 130 "BitOffModel" "planWhat" "[I" ∈ zGw := zmg (zg4 105 rfl) rfl
theorem zk162 : Cond.fieldLink "BitOffModel" 133 "BitOffModel" "bookWho" "[I" ∈ zGw := zmg (zg4 106 rfl) rfl
theorem zk163 : Cond.fieldLink "BitOffModel" 136 "BitOffModel" "bookLong" "[I" ∈ zGw := zmg (zg4 107 rfl) rfl
theorem zk164 : Cond.fieldLink "BitOffModel" 139 "BitOffModel" "hasImage" "Z" ∈ zGw := zmg (zg4 108 rfl) rfl
theorem zk165 : Cond.fieldLink "BitOffModel" 143 "BitOffModel" "imageThe" "I" ∈ zGw := zmg (zg4 109 rfl) rfl
theorem zk166 : Cond.fieldLink "BitOffModel" 146 "BitOffModel" "imageSides" "I" ∈ zGw := zmg (zg4 110 rfl) rfl
theorem zk167 : Cond.fieldLink "BitOffModel" 149 "BitOffModel" "imageSnips" "I" ∈ zGw := zmg (zg4 111 rfl) rfl
theorem zk168 : Cond.fieldLink "BitOffModel" 152 "BitOffModel" "imageDays" "I" ∈ zGw := zmg (zg4 112 rfl) rfl
theorem zk169 : Cond.fieldLink "BitOffModel" 155 "BitOffModel" "imageSeen" "I" ∈ zGw := zmg (zg4 113 rfl) rfl
theorem zk170 : Cond.fieldLink "BitOffModel" 158 "BitOffModel" "imagePlans" "I" ∈ zGw := zmg (zg4 114 rfl) rfl
theorem zk171 : Cond.fieldLink "BitOffModel" 161 "BitOffModel" "imageBooks" "I" ∈ zGw := zmg (zg4 115 rfl) rfl
theorem zk172 : Cond.fieldLink "BitOffModel" 164 "BitOffModel" "imageKind" "[I" ∈ zGw := zmg (zg4 116 rfl) rfl
theorem zk173 : Cond.fieldLink "BitOffModel" 167 "BitOffModel" "imageV" "[I" ∈ zGw := zmg (zg4 117 rfl) rfl
theorem zk174 : Cond.fieldLink "BitOffModel" 170 "BitOffModel" "imageTall" "[I" ∈ zGw := zmg (zg4 118 rfl) rfl
theorem zk175 : Cond.fieldLink "BitOffModel" 173 "BitOffModel" "imageOff" "[I" ∈ zGw := zmg (zg4 119 rfl) rfl
theorem zk176 : Cond.fieldLink "BitOffModel" 176 "BitOffModel" "imageRows" "[I" ∈ zGw := zmg (zg4 120 rfl) rfl
theorem zk177 : Cond.fieldLink "BitOffModel" 179 "BitOffModel" "imageTaken" "[I" ∈ zGw := zmg (zg4 121 rfl) rfl
theorem zk178 : Cond.fieldLink "BitOffModel" 182 "BitOffModel" "imagePlan" "[I" ∈ zGw := zmg (zg4 122 rfl) rfl
theorem zk179 : Cond.fieldLink "BitOffModel" 185 "BitOffModel" "imageWho" "[I" ∈ zGw := zmg (zg4 123 rfl) rfl
theorem zk180 : Cond.fieldLink "BitOffModel" 188 "BitOffModel" "imageLong" "[I" ∈ zGw := zmg (zg4 124 rfl) rfl
theorem zk181 : Cond.fieldLink "BitOffModel" 191 "BitOffModel" "ran" "I" ∈ zGw := zmg (zg4 125 rfl) rfl
theorem zk182 : Cond.fieldLink "BitOffModel" 194 "BitOffModel" "bodies" "[I" ∈ zGw := zmg (zg4 126 rfl) rfl
theorem zk183 : Cond.fieldLink "BitOffModel" 197 "BitOffModel" "sort" "[I" ∈ zGw := zmg (zg4 127 rfl) rfl
theorem zk184 : Cond.fieldLink "BitOffModel" 200 "BitOffModel" "length" "[I" ∈ zGw := zmg (zg4 128 rfl) rfl
theorem zk185 : Cond.fieldLink "BitOffModel" 203 "BitOffModel" "item" "[J" ∈ zGw := zmg (zg4 129 rfl) rfl
theorem zk186 : Cond.fieldLink "BitOffModel" 207 "BitOffModel" "aside" "[J" ∈ zGw := zmg (zg4 130 rfl) rfl
theorem zk187 : Cond.methodLink "BitOffModel" 210 ⟨"BitOffModel", "in", "(III)Z"⟩ ∈ zGw := zmg (zg5 27 rfl) rfl
theorem zk188 : Cond.methodLink "BitOffModel" 214 ⟨"BitOffModel", "isLength", "(I)Z"⟩ ∈ zGw := zmg (zg5 31 rfl) rfl
theorem zk189 : Cond.methodLink "BitOffModel" 218 ⟨"BitOffModel", "isSide", "(I)Z"⟩ ∈ zGw := zmg (zg5 39 rfl) rfl
theorem zk190 : Cond.methodLink "BitOffModel" 221 ⟨"BitOffModel", "next", "()I"⟩ ∈ zGw := zmg (zg5 67 rfl) rfl
theorem zk191 : Cond.methodLink "BitOffModel" 225 ⟨"BitOffModel", "takes", "(I)Z"⟩ ∈ zGw := zmg (zg5 79 rfl) rfl
theorem zk192 : Cond.methodLink "BitOffModel" 228 ⟨"BitOffModel", "takesAlone", "(II)Z"⟩ ∈ zGw := zmg (zg5 75 rfl) rfl
theorem zk193 : Cond.methodLink "BitOffModel" 232 ⟨"BitOffModel", "isDigit", "()Z"⟩ ∈ zGw := zmg (zg5 87 rfl) rfl
theorem zk194 : Cond.methodLink "BitOffModel" 236 ⟨"BitOffModel", "emits", "(I)V"⟩ ∈ zGw := zmg (zg5 103 rfl) rfl
theorem zk195 : Cond.methodLink "BitOffModel" 240 ⟨"BitOffModel", "place", "(I)I"⟩ ∈ zGw := zmg (zg5 99 rfl) rfl
theorem zk196 : Cond.methodLink "BitOffModel" 244 ⟨"BitOffModel", "takesNumber", "()Z"⟩ ∈ zGw := zmg (zg5 83 rfl) rfl
theorem zk197 : Cond.methodLink "BitOffModel" 247 ⟨"BitOffModel", "whole", "()V"⟩ ∈ zGw := zmg (zg5 107 rfl) rfl
theorem zk198 : Cond.methodLink "BitOffModel" 250 ⟨"BitOffModel", "takesTest", "()Z"⟩ ∈ zGw := zmg (zg5 95 rfl) rfl
theorem zk199 : Cond.methodLink "BitOffModel" 253 ⟨"BitOffModel", "settle", "(I)V"⟩ ∈ zGw := zmg (zg5 111 rfl) rfl
theorem zk200 : Cond.methodLink "BitOffModel" 256 ⟨"BitOffModel", "takesWord", "(II)Z"⟩ ∈ zGw := zmg (zg5 71 rfl) rfl
theorem zk201 : Cond.methodLink "BitOffModel" 259 ⟨"BitOffModel", "takesHead", "(I)Z"⟩ ∈ zGw := zmg (zg5 63 rfl) rfl
theorem zk202 : Cond.methodLink "BitOffModel" 262 ⟨"BitOffModel", "takesE", "(I)Z"⟩ ∈ zGw := zmg (zg5 91 rfl) rfl
theorem zk203 : Cond.methodLink "BitOffModel" 265 ⟨"BitOffModel", "takesClause", "(I)Z"⟩ ∈ zGw := zmg (zg5 59 rfl) rfl
theorem zk204 : Cond.methodLink "BitOffModel" 268 ⟨"BitOffModel", "goesText", "(I)Z"⟩ ∈ zGw := zmg (zg5 55 rfl) rfl
theorem zk205 : Cond.methodLink "BitOffModel" 271 ⟨"BitOffModel", "begin", "()I"⟩ ∈ zGw := zmg (zg5 131 rfl) rfl
theorem zk206 : Cond.methodLink "BitOffModel" 274 ⟨"BitOffModel", "behind", "()I"⟩ ∈ zGw := zmg (zg5 135 rfl) rfl
theorem zk207 : Cond.methodLink "BitOffModel" 277 ⟨"BitOffModel", "lastOf", "(II)I"⟩ ∈ zGw := zmg (zg5 127 rfl) rfl
theorem zk208 : Cond.methodLink "BitOffModel" 281 ⟨"BitOffModel", "factOf", "(II)I"⟩ ∈ zGw := zmg (zg5 155 rfl) rfl
theorem zk209 : Cond.methodLink "BitOffModel" 284 ⟨"BitOffModel", "holds", "(II)Z"⟩ ∈ zGw := zmg (zg5 151 rfl) rfl
theorem zk210 : Cond.methodLink "BitOffModel" 287 ⟨"BitOffModel", "give", "()I"⟩ ∈ zGw := zmg (zg5 123 rfl) rfl
theorem zk211 : Cond.methodLink "BitOffModel" 290 ⟨"BitOffModel", "least", "(II)I"⟩ ∈ zGw := zmg (zg5 139 rfl) rfl
theorem zk212 : Cond.methodLink "BitOffModel" 293 ⟨"BitOffModel", "takenOf", "(II)I"⟩ ∈ zGw := zmg (zg5 119 rfl) rfl
theorem zk213 : Cond.methodLink "BitOffModel" 296 ⟨"BitOffModel", "looks", "(I)I"⟩ ∈ zGw := zmg (zg5 147 rfl) rfl
theorem zk214 : Cond.methodLink "BitOffModel" 299 ⟨"BitOffModel", "growsOf", "(I)I"⟩ ∈ zGw := zmg (zg5 159 rfl) rfl
theorem zk215 : Cond.methodLink "BitOffModel" 302 ⟨"BitOffModel", "longest", "()I"⟩ ∈ zGw := zmg (zg5 179 rfl) rfl
theorem zk216 : Cond.methodLink "BitOffModel" 305 ⟨"BitOffModel", "apart", "()I"⟩ ∈ zGw := zmg (zg5 175 rfl) rfl
theorem zk217 : Cond.methodLink "BitOffModel" 308 ⟨"BitOffModel", "leave", "()I"⟩ ∈ zGw := zmg (zg5 183 rfl) rfl
theorem zk218 : Cond.methodLink "BitOffModel" 311 ⟨"BitOffModel", "isDone", "()Z"⟩ ∈ zGw := zmg (zg5 171 rfl) rfl
theorem zk219 : Cond.methodLink "BitOffModel" 314 ⟨"BitOffModel", "isHalf", "()Z"⟩ ∈ zGw := zmg (zg5 187 rfl) rfl
theorem zk220 : Cond.methodLink "BitOffModel" 317 ⟨"BitOffModel", "cuts", "(II)V"⟩ ∈ zGw := zmg (zg5 191 rfl) rfl
theorem zk221 : Cond.methodLink "BitOffModel" 321 ⟨"BitOffModel", "goSnip", "()I"⟩ ∈ zGw := zmg (zg5 167 rfl) rfl
theorem zk222 : Cond.methodLink "BitOffModel" 324 ⟨"BitOffModel", "goDay", "()V"⟩ ∈ zGw := zmg (zg5 199 rfl) rfl
theorem zk223 : Cond.methodLink "BitOffModel" 327 ⟨"BitOffModel", "offNow", "()I"⟩ ∈ zGw := zmg (zg5 207 rfl) rfl
theorem zk224 : Cond.constant "BitOffModel" 330 2000000000 ∈ zGw := zmg (zg5 223 rfl) rfl
theorem zk225 : Cond.methodLink "BitOffModel" 331 ⟨"BitOffModel", "isSnips", "(I)Z"⟩ ∈ zGw := zmg (zg5 215 rfl) rfl
theorem zk226 : Cond.methodLink "BitOffModel" 334 ⟨"BitOffModel", "save", "()V"⟩ ∈ zGw := zmg (zg5 219 rfl) rfl
theorem zk227 : Cond.methodLink "BitOffModel" 337 ⟨"BitOffModel", "goSnips", "(I)I"⟩ ∈ zGw := zmg (zg5 224 rfl) rfl
theorem zk228 : Cond.methodLink "BitOffModel" 340 ⟨"BitOffModel", "allOff", "()I"⟩ ∈ zGw := zmg (zg5 228 rfl) rfl
theorem zk229 : Cond.methodLink "BitOffModel" 343 ⟨"BitOffModel", "putBack", "()V"⟩ ∈ zGw := zmg (zg5 232 rfl) rfl
theorem zk230 : Cond.methodLink "BitOffModel" 346 ⟨"BitOffModel", "offBehind", "()I"⟩ ∈ zGw := zmg (zg6 12 rfl) rfl
theorem zk231 : Cond.methodLink "BitOffModel" 349 ⟨"BitOffModel", "wobble", "()I"⟩ ∈ zGw := zmg (zg6 36 rfl) rfl
theorem zk232 : Cond.methodLink "BitOffModel" 352 ⟨"BitOffModel", "isSeen", "()Z"⟩ ∈ zGw := zmg (zg6 60 rfl) rfl
theorem zk233 : Cond.methodLink "BitOffModel" 355 ⟨"BitOffModel", "divisor", "(II)I"⟩ ∈ zGw := zmg (zg6 77 rfl) rfl
theorem zk234 : Cond.constantLong "BitOffModel" 358 (-9223372036854775808) ∈ zGw := zmg (zg6 72 rfl) rfl
theorem zk235 : Cond.methodLink "BitOffModel" 360 ⟨"BitOffModel", "lowest", "(III)J"⟩ ∈ zGw := zmg (zg6 73 rfl) rfl
theorem zk236 : Cond.methodLink "BitOffModel" 364 ⟨"BitOffModel", "isTape", "(I)Z"⟩ ∈ zGw := zmg (zg6 105 rfl) rfl
theorem zk237 : Cond.methodLink "BitOffModel" 367 ⟨"BitOffModel", "body", "(I)V"⟩ ∈ zGw := zmg (zg6 125 rfl) rfl
theorem zk238 : Cond.methodLink "BitOffModel" 370 ⟨"BitOffModel", "sideHangs", "(II)I"⟩ ∈ zGw := zmg (zg6 129 rfl) rfl
theorem zk239 : Cond.methodLink "BitOffModel" 373 ⟨"BitOffModel", "hangsAct", "(II)I"⟩ ∈ zGw := zmg (zg6 121 rfl) rfl
theorem zk240 : Cond.methodLink "BitOffModel" 376 ⟨"BitOffModel", "sideFalls", "(II)I"⟩ ∈ zGw := zmg (zg6 141 rfl) rfl
theorem zk241 : Cond.methodLink "BitOffModel" 379 ⟨"BitOffModel", "springyFalls", "(II)I"⟩ ∈ zGw := zmg (zg6 137 rfl) rfl
theorem zk242 : Cond.methodLink "BitOffModel" 382 ⟨"BitOffModel", "fallsAct", "(II)I"⟩ ∈ zGw := zmg (zg6 133 rfl) rfl
theorem zk243 : Cond.methodLink "BitOffModel" 385 ⟨"BitOffModel", "sideTells", "(II)I"⟩ ∈ zGw := zmg (zg6 149 rfl) rfl
theorem zk244 : Cond.methodLink "BitOffModel" 388 ⟨"BitOffModel", "tellsAct", "(II)I"⟩ ∈ zGw := zmg (zg6 145 rfl) rfl
theorem zk245 : Cond.methodLink "BitOffModel" 391 ⟨"BitOffModel", "narrow", "(IJ)J"⟩ ∈ zGw := zmg (zg6 173 rfl) rfl
theorem zk246 : Cond.fieldLink "java/lang/String" 1053 "jdk/internal/util/Preconditions" "SIOOBE_FORMATTER" "Ljava/util/function/BiFunction;" ∈ zGw := zmg (zg2 137 rfl) rfl
theorem zk247 : Cond.methodLink "java/lang/String" 1059 ⟨"jdk/internal/util/Preconditions", "checkIndex", "(IILjava/util/function/BiFunction;)I"⟩ ∈ zGw := zmg (zg2 139 rfl) rfl
theorem zk248 : Cond.fieldLink "java/lang/String" 9 "java/lang/String" "value" "[B" ∈ zGw := zmg (zg6 186 rfl) rfl
theorem zk249 : Cond.methodLink "java/lang/String" 335 ⟨"java/lang/String", "coder", "()B"⟩ ∈ zGw := zmg (zg2 117 rfl) rfl
theorem zk250 : Cond.fieldLink "java/lang/String" 38 "java/lang/String" "COMPACT_STRINGS" "Z" ∈ zGw := zmg (zg2 121 rfl) rfl
theorem zk251 : Cond.fieldLink "java/lang/String" 15 "java/lang/String" "coder" "B" ∈ zGw := zmg (zg6 187 rfl) rfl
theorem zk252 : Cond.methodLink "java/lang/String" 492 ⟨"java/lang/String", "isLatin1", "()Z"⟩ ∈ zGw := zmg (zg2 127 rfl) rfl
theorem zk253 : Cond.methodLink "java/lang/String" 495 ⟨"java/lang/StringLatin1", "charAt", "([BI)C"⟩ ∈ zGw := zmg (zg2 131 rfl) rfl
theorem zk254 : Cond.methodLink "java/lang/StringLatin1" 9 ⟨"java/lang/String", "checkIndex", "(II)V"⟩ ∈ zGw := zmg (zg2 134 rfl) rfl
theorem zk255 : Cond.methodLink "java/lang/String" 633 ⟨"java/lang/String", "indexOf", "(II)I"⟩ ∈ zGw := zmg (zg2 194 rfl) rfl
theorem zk256 : Cond.methodLink "java/lang/String" 505 ⟨"java/lang/String", "length", "()I"⟩ ∈ zGw := zmg (zg2 198 rfl) rfl
theorem zk257 : Cond.methodLink "java/lang/String" 637 ⟨"java/lang/StringLatin1", "indexOf", "([BIII)I"⟩ ∈ zGw := zmg (zg2 199 rfl) rfl
theorem zk258 : Cond.methodLink "java/lang/StringLatin1" 88 ⟨"java/lang/StringLatin1", "canEncode", "(I)Z"⟩ ∈ zGw := zmg (zg2 202 rfl) rfl
theorem zk259 : Cond.methodLink "java/lang/StringLatin1" 92 ⟨"java/lang/Math", "max", "(II)I"⟩ ∈ zGw := zmg (zg2 205 rfl) rfl
theorem zk260 : Cond.methodLink "java/lang/StringLatin1" 38 ⟨"java/lang/Math", "min", "(II)I"⟩ ∈ zGw := zmg (zg2 208 rfl) rfl
theorem zk261 : Cond.methodLink "java/lang/StringLatin1" 95 ⟨"java/lang/StringLatin1", "indexOfChar", "([BIII)I"⟩ ∈ zGw := zmg (zg2 209 rfl) rfl
theorem zk262 : Cond.classLink "BitOffLaw" 7 "BitOff" ∈ zGw := zmg (zg1 16 rfl) rfl
theorem zk263 : Cond.instantiable "BitOff" 11 ∈ zGw := zmg (zg1 17 rfl) rfl
theorem zk264 : Cond.initialized "BitOff" ∈ zGw := zmg (zg1 1 rfl) rfl
theorem zk265 : Cond.methodLink "BitOffLaw" 9 ⟨"BitOff", "<init>", "()V"⟩ ∈ zGw := zmg (zg1 18 rfl) rfl
theorem zk266 : Cond.classLink "BitOffLaw" 10 "BitOffModel" ∈ zGw := zmg (zg4 59 rfl) rfl
theorem zk267 : Cond.instantiable "BitOffModel" 65 ∈ zGw := zmg (zg4 60 rfl) rfl
theorem zk268 : Cond.initialized "BitOffModel" ∈ zGw := zmg (zg1 8 rfl) rfl
theorem zk269 : Cond.methodLink "BitOffLaw" 12 ⟨"BitOffModel", "<init>", "()V"⟩ ∈ zGw := zmg (zg4 61 rfl) rfl
theorem zk270 : Cond.methodLink "BitOffLaw" 13 ⟨"BitOff", "side", "(III)I"⟩ ∈ zGw := zmg (zg2 30 rfl) rfl
theorem zk271 : Cond.methodLink "BitOffLaw" 17 ⟨"BitOffModel", "side", "(III)I"⟩ ∈ zGw := zmg (zg5 23 rfl) rfl
theorem zk272 : Cond.methodLink "BitOffLaw" 18 ⟨"BitOff", "of", "(II)I"⟩ ∈ zGw := zmg (zg2 41 rfl) rfl
theorem zk273 : Cond.methodLink "BitOffLaw" 22 ⟨"BitOffModel", "of", "(II)I"⟩ ∈ zGw := zmg (zg5 143 rfl) rfl
theorem zk274 : Cond.methodLink "BitOffLaw" 23 ⟨"BitOff", "taken", "(II)I"⟩ ∈ zGw := zmg (zg2 65 rfl) rfl
theorem zk275 : Cond.methodLink "BitOffLaw" 26 ⟨"BitOffModel", "taken", "(II)I"⟩ ∈ zGw := zmg (zg5 115 rfl) rfl
theorem zk276 : Cond.methodLink "BitOffLaw" 27 ⟨"BitOff", "set", "(II)I"⟩ ∈ zGw := zmg (zg2 76 rfl) rfl
theorem zk277 : Cond.methodLink "BitOffLaw" 30 ⟨"BitOffModel", "set", "(II)I"⟩ ∈ zGw := zmg (zg5 35 rfl) rfl
theorem zk278 : Cond.methodLink "BitOffLaw" 31 ⟨"BitOff", "row", "(III)I"⟩ ∈ zGw := zmg (zg2 80 rfl) rfl
theorem zk279 : Cond.methodLink "BitOffLaw" 34 ⟨"BitOffModel", "row", "(III)I"⟩ ∈ zGw := zmg (zg5 43 rfl) rfl
theorem zk280 : Cond.methodLink "BitOffLaw" 35 ⟨"BitOff", "feed", "(I)I"⟩ ∈ zGw := zmg (zg2 84 rfl) rfl
theorem zk281 : Cond.methodLink "BitOffLaw" 39 ⟨"BitOffModel", "feed", "(I)I"⟩ ∈ zGw := zmg (zg5 47 rfl) rfl
theorem zk282 : Cond.methodLink "BitOffLaw" 40 ⟨"BitOff", "kitchen", "()I"⟩ ∈ zGw := zmg (zg2 92 rfl) rfl
theorem zk283 : Cond.methodLink "BitOffLaw" 44 ⟨"BitOffModel", "kitchen", "()I"⟩ ∈ zGw := zmg (zg5 51 rfl) rfl
theorem zk284 : Cond.methodLink "BitOffLaw" 45 ⟨"BitOff", "told", "(I)I"⟩ ∈ zGw := zmg (zg3 21 rfl) rfl
theorem zk285 : Cond.methodLink "BitOffLaw" 48 ⟨"BitOffModel", "told", "(I)I"⟩ ∈ zGw := zmg (zg5 203 rfl) rfl
theorem zk286 : Cond.methodLink "BitOffLaw" 49 ⟨"BitOff", "snip", "()I"⟩ ∈ zGw := zmg (zg3 47 rfl) rfl
theorem zk287 : Cond.methodLink "BitOffLaw" 52 ⟨"BitOffModel", "snip", "()I"⟩ ∈ zGw := zmg (zg5 163 rfl) rfl
theorem zk288 : Cond.methodLink "BitOffLaw" 53 ⟨"BitOff", "pass", "(I)I"⟩ ∈ zGw := zmg (zg3 61 rfl) rfl
theorem zk289 : Cond.methodLink "BitOffLaw" 56 ⟨"BitOffModel", "pass", "(I)I"⟩ ∈ zGw := zmg (zg5 195 rfl) rfl
theorem zk290 : Cond.methodLink "BitOffLaw" 57 ⟨"BitOff", "on", "(II)I"⟩ ∈ zGw := zmg (zg3 70 rfl) rfl
theorem zk291 : Cond.methodLink "BitOffLaw" 60 ⟨"BitOffModel", "on", "(II)I"⟩ ∈ zGw := zmg (zg5 211 rfl) rfl
theorem zk292 : Cond.methodLink "BitOffLaw" 61 ⟨"BitOff", "ends", "()I"⟩ ∈ zGw := zmg (zg3 87 rfl) rfl
theorem zk293 : Cond.methodLink "BitOffLaw" 64 ⟨"BitOffModel", "ends", "()I"⟩ ∈ zGw := zmg (zg5 236 rfl) rfl
theorem zk294 : Cond.methodLink "BitOffLaw" 65 ⟨"BitOff", "shortest", "(I)I"⟩ ∈ zGw := zmg (zg3 91 rfl) rfl
theorem zk295 : Cond.methodLink "BitOffLaw" 68 ⟨"BitOffModel", "shortest", "(I)I"⟩ ∈ zGw := zmg (zg6 0 rfl) rfl
theorem zk296 : Cond.methodLink "BitOffLaw" 69 ⟨"BitOff", "sides", "(I)I"⟩ ∈ zGw := zmg (zg3 96 rfl) rfl
theorem zk297 : Cond.methodLink "BitOffLaw" 72 ⟨"BitOffModel", "sides", "(I)I"⟩ ∈ zGw := zmg (zg6 4 rfl) rfl
theorem zk298 : Cond.methodLink "BitOffLaw" 73 ⟨"BitOff", "leaves", "(I)I"⟩ ∈ zGw := zmg (zg3 100 rfl) rfl
theorem zk299 : Cond.methodLink "BitOffLaw" 76 ⟨"BitOffModel", "leaves", "(I)I"⟩ ∈ zGw := zmg (zg6 8 rfl) rfl
theorem zk300 : Cond.methodLink "BitOffLaw" 77 ⟨"BitOff", "halves", "()I"⟩ ∈ zGw := zmg (zg3 106 rfl) rfl
theorem zk301 : Cond.methodLink "BitOffLaw" 80 ⟨"BitOffModel", "halves", "()I"⟩ ∈ zGw := zmg (zg6 16 rfl) rfl
theorem zk302 : Cond.methodLink "BitOffLaw" 81 ⟨"BitOff", "first", "(I)I"⟩ ∈ zGw := zmg (zg3 110 rfl) rfl
theorem zk303 : Cond.methodLink "BitOffLaw" 84 ⟨"BitOffModel", "first", "(I)I"⟩ ∈ zGw := zmg (zg6 20 rfl) rfl
theorem zk304 : Cond.methodLink "BitOffLaw" 85 ⟨"BitOff", "twice", "()I"⟩ ∈ zGw := zmg (zg3 115 rfl) rfl
theorem zk305 : Cond.methodLink "BitOffLaw" 88 ⟨"BitOffModel", "twice", "()I"⟩ ∈ zGw := zmg (zg6 24 rfl) rfl
theorem zk306 : Cond.methodLink "BitOffLaw" 89 ⟨"BitOff", "pad", "()I"⟩ ∈ zGw := zmg (zg3 119 rfl) rfl
theorem zk307 : Cond.methodLink "BitOffLaw" 92 ⟨"BitOffModel", "pad", "()I"⟩ ∈ zGw := zmg (zg6 28 rfl) rfl
theorem zk308 : Cond.methodLink "BitOffLaw" 93 ⟨"BitOff", "wobbles", "()I"⟩ ∈ zGw := zmg (zg3 123 rfl) rfl
theorem zk309 : Cond.methodLink "BitOffLaw" 96 ⟨"BitOffModel", "wobbles", "()I"⟩ ∈ zGw := zmg (zg6 32 rfl) rfl
theorem zk310 : Cond.methodLink "BitOffLaw" 97 ⟨"BitOff", "leg", "()I"⟩ ∈ zGw := zmg (zg3 127 rfl) rfl
theorem zk311 : Cond.methodLink "BitOffLaw" 100 ⟨"BitOffModel", "leg", "()I"⟩ ∈ zGw := zmg (zg6 40 rfl) rfl
theorem zk312 : Cond.methodLink "BitOffLaw" 101 ⟨"BitOff", "grown", "(I)I"⟩ ∈ zGw := zmg (zg3 132 rfl) rfl
theorem zk313 : Cond.methodLink "BitOffLaw" 104 ⟨"BitOffModel", "grown", "(I)I"⟩ ∈ zGw := zmg (zg6 44 rfl) rfl
theorem zk314 : Cond.methodLink "BitOffLaw" 105 ⟨"BitOff", "reaches", "(II)I"⟩ ∈ zGw := zmg (zg3 136 rfl) rfl
theorem zk315 : Cond.methodLink "BitOffLaw" 108 ⟨"BitOffModel", "reaches", "(II)I"⟩ ∈ zGw := zmg (zg6 48 rfl) rfl
theorem zk316 : Cond.methodLink "BitOffLaw" 109 ⟨"BitOff", "see", "(I)I"⟩ ∈ zGw := zmg (zg3 140 rfl) rfl
theorem zk317 : Cond.methodLink "BitOffLaw" 112 ⟨"BitOffModel", "see", "(I)I"⟩ ∈ zGw := zmg (zg6 52 rfl) rfl
theorem zk318 : Cond.methodLink "BitOffLaw" 113 ⟨"BitOff", "was", "(II)I"⟩ ∈ zGw := zmg (zg3 148 rfl) rfl
theorem zk319 : Cond.methodLink "BitOffLaw" 116 ⟨"BitOffModel", "was", "(II)I"⟩ ∈ zGw := zmg (zg6 56 rfl) rfl
theorem zk320 : Cond.methodLink "BitOffLaw" 117 ⟨"BitOff", "now", "()I"⟩ ∈ zGw := zmg (zg3 156 rfl) rfl
theorem zk321 : Cond.methodLink "BitOffLaw" 120 ⟨"BitOffModel", "now", "()I"⟩ ∈ zGw := zmg (zg6 64 rfl) rfl
theorem zk322 : Cond.methodLink "BitOffLaw" 121 ⟨"BitOff", "odds", "(II)J"⟩ ∈ zGw := zmg (zg3 160 rfl) rfl
theorem zk323 : Cond.methodLink "BitOffLaw" 125 ⟨"BitOffModel", "odds", "(II)J"⟩ ∈ zGw := zmg (zg6 68 rfl) rfl
theorem zk324 : Cond.methodLink "BitOffLaw" 126 ⟨"BitOff", "mean", "(II)J"⟩ ∈ zGw := zmg (zg3 168 rfl) rfl
theorem zk325 : Cond.methodLink "BitOffLaw" 129 ⟨"BitOffModel", "mean", "(II)J"⟩ ∈ zGw := zmg (zg6 81 rfl) rfl
theorem zk326 : Cond.methodLink "BitOffLaw" 130 ⟨"BitOff", "plan", "(I)I"⟩ ∈ zGw := zmg (zg3 176 rfl) rfl
theorem zk327 : Cond.methodLink "BitOffLaw" 133 ⟨"BitOffModel", "plan", "(I)I"⟩ ∈ zGw := zmg (zg6 85 rfl) rfl
theorem zk328 : Cond.methodLink "BitOffLaw" 134 ⟨"BitOff", "planned", "(I)I"⟩ ∈ zGw := zmg (zg3 184 rfl) rfl
theorem zk329 : Cond.methodLink "BitOffLaw" 137 ⟨"BitOffModel", "planned", "(I)I"⟩ ∈ zGw := zmg (zg6 89 rfl) rfl
theorem zk330 : Cond.methodLink "BitOffLaw" 138 ⟨"BitOff", "book", "(II)I"⟩ ∈ zGw := zmg (zg3 188 rfl) rfl
theorem zk331 : Cond.methodLink "BitOffLaw" 141 ⟨"BitOffModel", "book", "(II)I"⟩ ∈ zGw := zmg (zg6 93 rfl) rfl
theorem zk332 : Cond.methodLink "BitOffLaw" 142 ⟨"BitOff", "looked", "()I"⟩ ∈ zGw := zmg (zg3 196 rfl) rfl
theorem zk333 : Cond.methodLink "BitOffLaw" 145 ⟨"BitOffModel", "looked", "()I"⟩ ∈ zGw := zmg (zg6 97 rfl) rfl
theorem zk334 : Cond.methodLink "BitOffLaw" 146 ⟨"BitOff", "judge", "(II)I"⟩ ∈ zGw := zmg (zg3 200 rfl) rfl
theorem zk335 : Cond.methodLink "BitOffLaw" 149 ⟨"BitOffModel", "judge", "(II)I"⟩ ∈ zGw := zmg (zg6 101 rfl) rfl
theorem zk336 : Cond.methodLink "BitOffLaw" 150 ⟨"BitOff", "image", "()I"⟩ ∈ zGw := zmg (zg3 217 rfl) rfl
theorem zk337 : Cond.methodLink "BitOffLaw" 153 ⟨"BitOffModel", "image", "()I"⟩ ∈ zGw := zmg (zg6 109 rfl) rfl
theorem zk338 : Cond.methodLink "BitOffLaw" 154 ⟨"BitOff", "undo", "()I"⟩ ∈ zGw := zmg (zg3 226 rfl) rfl
theorem zk339 : Cond.methodLink "BitOffLaw" 157 ⟨"BitOffModel", "undo", "()I"⟩ ∈ zGw := zmg (zg6 113 rfl) rfl
theorem zk340 : Cond.methodLink "BitOffLaw" 158 ⟨"BitOff", "act", "(III)I"⟩ ∈ zGw := zmg (zg3 230 rfl) rfl
theorem zk341 : Cond.methodLink "BitOffLaw" 161 ⟨"BitOffModel", "act", "(III)I"⟩ ∈ zGw := zmg (zg6 117 rfl) rfl
theorem zk342 : Cond.methodLink "BitOffLaw" 162 ⟨"BitOff", "trace", "(I)I"⟩ ∈ zGw := zmg (zg4 14 rfl) rfl
theorem zk343 : Cond.methodLink "BitOffLaw" 165 ⟨"BitOffModel", "trace", "(I)I"⟩ ∈ zGw := zmg (zg6 153 rfl) rfl
theorem zk344 : Cond.methodLink "BitOffLaw" 166 ⟨"BitOff", "cast", "(II)I"⟩ ∈ zGw := zmg (zg4 18 rfl) rfl
theorem zk345 : Cond.methodLink "BitOffLaw" 169 ⟨"BitOffModel", "cast", "(II)I"⟩ ∈ zGw := zmg (zg6 157 rfl) rfl
theorem zk346 : Cond.methodLink "BitOffLaw" 170 ⟨"BitOff", "count", "(I)I"⟩ ∈ zGw := zmg (zg4 27 rfl) rfl
theorem zk347 : Cond.methodLink "BitOffLaw" 173 ⟨"BitOffModel", "count", "(I)I"⟩ ∈ zGw := zmg (zg6 161 rfl) rfl
theorem zk348 : Cond.methodLink "BitOffLaw" 174 ⟨"BitOff", "tape", "(III)I"⟩ ∈ zGw := zmg (zg4 31 rfl) rfl
theorem zk349 : Cond.methodLink "BitOffLaw" 177 ⟨"BitOffModel", "tape", "(III)I"⟩ ∈ zGw := zmg (zg6 165 rfl) rfl
theorem zk350 : Cond.constantLong "BitOffLaw" 178 4294967295 ∈ zGw := zmg (zg6 185 rfl) rfl
theorem zk351 : Cond.methodLink "BitOffLaw" 180 ⟨"BitOff", "item", "(IIJ)I"⟩ ∈ zGw := zmg (zg4 39 rfl) rfl
theorem zk352 : Cond.methodLink "BitOffLaw" 184 ⟨"BitOffModel", "item", "(IIJ)I"⟩ ∈ zGw := zmg (zg6 169 rfl) rfl
theorem zk353 : Cond.methodLink "BitOffLaw" 185 ⟨"BitOff", "read", "(II)J"⟩ ∈ zGw := zmg (zg4 46 rfl) rfl
theorem zk354 : Cond.methodLink "BitOffLaw" 188 ⟨"BitOffModel", "read", "(II)J"⟩ ∈ zGw := zmg (zg6 177 rfl) rfl
theorem zk355 : Cond.methodLink "BitOffLaw" 189 ⟨"BitOff", "shift", "(IIIII)I"⟩ ∈ zGw := zmg (zg4 50 rfl) rfl
theorem zk356 : Cond.methodLink "BitOffLaw" 193 ⟨"BitOffModel", "shift", "(IIIII)I"⟩ ∈ zGw := zmg (zg6 181 rfl) rfl
theorem zk357 : Cond.instanceMethod ⟨"java/lang/Object", "<init>", "()V"⟩ ∈ zGw := zmg (zg1 22 rfl) rfl
theorem zk358 : Cond.code ⟨"java/lang/Object", "<init>", "()V"⟩ object_method_1_code 1 (Option.none : Option Jvm.ClassFile.FieldType) ∈ zGw := zmg (zg1 23 rfl) rfl
theorem zk359 : Cond.native ⟨"java/lang/System", "arraycopy", "(Ljava/lang/Object;ILjava/lang/Object;II)V"⟩ ∈ zGw := zmg (zg3 80 rfl) rfl
theorem zk360 : Cond.static ⟨"java/lang/System", "arraycopy", "(Ljava/lang/Object;ILjava/lang/Object;II)V"⟩ ∈ zGw := zmg (zg3 79 rfl) rfl
theorem zk361 : Cond.initialized "java/lang/System" ∈ zGw := zmg (zg1 15 rfl) rfl
theorem zk362 : Cond.static ⟨"java/lang/Math", "min", "(II)I"⟩ ∈ zGw := zmg (zg2 74 rfl) rfl
theorem zk363 : Cond.initialized "java/lang/Math" ∈ zGw := zmg (zg1 9 rfl) rfl
theorem zk364 : Cond.code ⟨"java/lang/Math", "min", "(II)I"⟩ prog_11_method_69_code 2 (Option.some Jvm.ClassFile.FieldType.int) ∈ zGw := zmg (zg2 75 rfl) rfl
theorem zk365 : Cond.static ⟨"java/lang/Math", "max", "(II)I"⟩ ∈ zGw := zmg (zg2 206 rfl) rfl
theorem zk366 : Cond.code ⟨"java/lang/Math", "max", "(II)I"⟩ prog_11_method_65_code 2 (Option.some Jvm.ClassFile.FieldType.int) ∈ zGw := zmg (zg2 207 rfl) rfl
theorem zk367 : Cond.arrayClass Jvm.ClassFile.FieldType.int ∈ zGw := zmg (zg1 61 rfl) rfl
theorem zk368 : Cond.arrayClass Jvm.ClassFile.FieldType.byte ∈ zGw := zmg (zg1 187 rfl) rfl
theorem zk369 : Cond.arrayClass Jvm.ClassFile.FieldType.boolean ∈ zGw := zmg (zg5 22 rfl) rfl
theorem zk370 : Cond.arrayClass Jvm.ClassFile.FieldType.long ∈ zGw := zmg (zg1 235 rfl) rfl
theorem zk371 : Cond.instanceMethod ⟨"BitOff$Acts", "hangs", "(III)I"⟩ ∈ zGw := zmg (zg4 0 rfl) rfl
theorem zk372 : Cond.instanceMethod ⟨"BitOff$Acts", "falls", "(III)I"⟩ ∈ zGw := zmg (zg4 8 rfl) rfl
theorem zk373 : Cond.instanceMethod ⟨"BitOff$Acts", "tells", "(III)I"⟩ ∈ zGw := zmg (zg4 12 rfl) rfl
theorem zk374 : Cond.instanceMethod ⟨"BitOff$Acts", "begin", "(I)V"⟩ ∈ zGw := zmg (zg4 4 rfl) rfl
theorem zk375 : Cond.instanceMethod ⟨"BitOff$Kitchen", "isSo", "(II[I)Z"⟩ ∈ zGw := zmg (zg2 59 rfl) rfl
theorem zk376 : Cond.instanceMethod ⟨"BitOff$Kitchen", "empty", "()V"⟩ ∈ zGw := zmg (zg2 102 rfl) rfl
theorem zk377 : Cond.instanceMethod ⟨"BitOff$Reader", "readsClause", "()Z"⟩ ∈ zGw := zmg (zg2 106 rfl) rfl
theorem zk378 : Cond.instanceMethod ⟨"BitOff$Reader", "takes", "(C)Z"⟩ ∈ zGw := zmg (zg2 163 rfl) rfl
theorem zk379 : Cond.instanceMethod ⟨"BitOff$Reader", "takesWord", "(Ljava/lang/String;)Z"⟩ ∈ zGw := zmg (zg2 111 rfl) rfl
theorem zk380 : Cond.instanceMethod ⟨"BitOff$Reader", "readsJudgement", "(I)Z"⟩ ∈ zGw := zmg (zg2 167 rfl) rfl
theorem zk381 : Cond.instanceMethod ⟨"BitOff$Reader", "number", "()I"⟩ ∈ zGw := zmg (zg2 171 rfl) rfl
theorem zk382 : Cond.instanceMethod ⟨"BitOff$Reader", "readsEither", "(I)Z"⟩ ∈ zGw := zmg (zg2 175 rfl) rfl
theorem zk383 : Cond.instanceMethod ⟨"BitOff$Kitchen", "addJudgement", "(I)V"⟩ ∈ zGw := zmg (zg3 10 rfl) rfl
theorem zk384 : Cond.instanceMethod ⟨"BitOff$Reader", "readsPart", "(I)Z"⟩ ∈ zGw := zmg (zg2 179 rfl) rfl
theorem zk385 : Cond.instanceMethod ⟨"BitOff$Kitchen", "addCode", "(I)V"⟩ ∈ zGw := zmg (zg2 183 rfl) rfl
theorem zk386 : Cond.instanceMethod ⟨"BitOff$Reader", "takesOneOf", "(Ljava/lang/String;)I"⟩ ∈ zGw := zmg (zg2 188 rfl) rfl
theorem zk387 : Cond.instanceMethod ⟨"java/lang/String", "length", "()I"⟩ ∈ zGw := zmg (zg2 114 rfl) rfl
theorem zk388 : Cond.instanceMethod ⟨"java/lang/String", "charAt", "(I)C"⟩ ∈ zGw := zmg (zg2 124 rfl) rfl
theorem zk389 : Cond.instanceMethod ⟨"java/lang/String", "indexOf", "(I)I"⟩ ∈ zGw := zmg (zg2 191 rfl) rfl
theorem zk390 : Cond.instanceMethod ⟨"BitOff$Kitchen", "misjudged", "([I)I"⟩ ∈ zGw := zmg (zg2 55 rfl) rfl
theorem zk391 : Cond.instanceMethod ⟨"BitOff$Table", "greatestLong", "()I"⟩ ∈ zGw := zmg (zg3 31 rfl) rfl
theorem zk392 : Cond.instanceMethod ⟨"BitOff$Table", "leastLong", "()I"⟩ ∈ zGw := zmg (zg3 36 rfl) rfl
theorem zk393 : Cond.instanceMethod ⟨"BitOff$Table", "looksOf", "(I)I"⟩ ∈ zGw := zmg (zg2 51 rfl) rfl
theorem zk394 : Cond.instanceMethod ⟨"BitOff$Table", "gapSeen", "()I"⟩ ∈ zGw := zmg (zg3 44 rfl) rfl
theorem zk395 : Cond.instanceMethod ⟨"BitOff$Table", "cutOff", "(II)V"⟩ ∈ zGw := zmg (zg3 57 rfl) rfl
theorem zk396 : Cond.instanceMethod ⟨"BitOff$Table", "cutLongest", "()I"⟩ ∈ zGw := zmg (zg3 53 rfl) rfl
theorem zk397 : Cond.instanceMethod ⟨"BitOff$Table", "spread", "()I"⟩ ∈ zGw := zmg (zg3 27 rfl) rfl
theorem zk398 : Cond.instanceMethod ⟨"BitOff$Table", "takenBy", "(II)I"⟩ ∈ zGw := zmg (zg2 71 rfl) rfl
theorem zk399 : Cond.instanceMethod ⟨"BitOff$Table", "growsBy", "(I)I"⟩ ∈ zGw := zmg (zg2 63 rfl) rfl
theorem zk400 : Cond.instanceMethod ⟨"BitOff$Tapes", "holds", "(I)Z"⟩ ∈ zGw := zmg (zg3 210 rfl) rfl
theorem zk401 : Cond.instanceMethod ⟨"BitOff$Kitchen", "<init>", "()V"⟩ ∈ zGw := zmg (zg1 27 rfl) rfl
theorem zk402 : Cond.instanceMethod ⟨"BitOff$Table", "<init>", "(LBitOff$Kitchen;)V"⟩ ∈ zGw := zmg (zg1 65 rfl) rfl
theorem zk403 : Cond.instanceMethod ⟨"BitOff$Notes", "<init>", "()V"⟩ ∈ zGw := zmg (zg1 133 rfl) rfl
theorem zk404 : Cond.instanceMethod ⟨"BitOff$Reader", "<init>", "()V"⟩ ∈ zGw := zmg (zg1 169 rfl) rfl
theorem zk405 : Cond.instanceMethod ⟨"BitOff$Acts", "<init>", "()V"⟩ ∈ zGw := zmg (zg1 191 rfl) rfl
theorem zk406 : Cond.instanceMethod ⟨"BitOff$Tapes", "<init>", "()V"⟩ ∈ zGw := zmg (zg1 218 rfl) rfl
theorem zk407 : Cond.static ⟨"BitOff", "isWithin", "(III)Z"⟩ ∈ zGw := zmg (zg2 35 rfl) rfl
theorem zk408 : Cond.instanceMethod ⟨"BitOff$Table", "join", "(III)I"⟩ ∈ zGw := zmg (zg2 39 rfl) rfl
theorem zk409 : Cond.instanceMethod ⟨"BitOff", "isSide", "(I)Z"⟩ ∈ zGw := zmg (zg2 47 rfl) rfl
theorem zk410 : Cond.instanceMethod ⟨"BitOff$Reader", "append", "(I)Z"⟩ ∈ zGw := zmg (zg2 90 rfl) rfl
theorem zk411 : Cond.instanceMethod ⟨"BitOff$Reader", "readsAll", "(LBitOff$Kitchen;)Z"⟩ ∈ zGw := zmg (zg2 98 rfl) rfl
theorem zk412 : Cond.instanceMethod ⟨"BitOff$Table", "follow", "(LBitOff$Kitchen;)V"⟩ ∈ zGw := zmg (zg3 19 rfl) rfl
theorem zk413 : Cond.instanceMethod ⟨"BitOff$Table", "isDone", "()Z"⟩ ∈ zGw := zmg (zg3 40 rfl) rfl
theorem zk414 : Cond.instanceMethod ⟨"BitOff$Table", "growADay", "()V"⟩ ∈ zGw := zmg (zg3 67 rfl) rfl
theorem zk415 : Cond.instanceMethod ⟨"BitOff$Table", "copyFrom", "(LBitOff$Table;)V"⟩ ∈ zGw := zmg (zg3 76 rfl) rfl
theorem zk416 : Cond.instanceMethod ⟨"BitOff$Table", "cutTimes", "(I)I"⟩ ∈ zGw := zmg (zg3 83 rfl) rfl
theorem zk417 : Cond.instanceMethod ⟨"BitOff", "wobbles", "()I"⟩ ∈ zGw := zmg (zg3 124 rfl) rfl
theorem zk418 : Cond.instanceMethod ⟨"BitOff$Notes", "addSeen", "(I)Z"⟩ ∈ zGw := zmg (zg3 146 rfl) rfl
theorem zk419 : Cond.instanceMethod ⟨"BitOff", "takesWhatWasSeen", "()Z"⟩ ∈ zGw := zmg (zg3 154 rfl) rfl
theorem zk420 : Cond.static ⟨"BitOff", "lowestTerms", "(III)J"⟩ ∈ zGw := zmg (zg3 166 rfl) rfl
theorem zk421 : Cond.instanceMethod ⟨"BitOff$Table", "allLong", "()I"⟩ ∈ zGw := zmg (zg3 174 rfl) rfl
theorem zk422 : Cond.instanceMethod ⟨"BitOff$Notes", "addPlan", "(I)Z"⟩ ∈ zGw := zmg (zg3 182 rfl) rfl
theorem zk423 : Cond.instanceMethod ⟨"BitOff$Notes", "addBook", "(II)Z"⟩ ∈ zGw := zmg (zg3 194 rfl) rfl
theorem zk424 : Cond.instanceMethod ⟨"BitOff$Tapes", "isTape", "(I)Z"⟩ ∈ zGw := zmg (zg3 206 rfl) rfl
theorem zk425 : Cond.instanceMethod ⟨"BitOff$Tapes", "isPlace", "(IJ)Z"⟩ ∈ zGw := zmg (zg3 214 rfl) rfl
theorem zk426 : Cond.instanceMethod ⟨"BitOff$Notes", "copyFrom", "(LBitOff$Notes;)V"⟩ ∈ zGw := zmg (zg3 223 rfl) rfl
theorem zk427 : Cond.instanceMethod ⟨"BitOff$Acts", "perform", "(II)I"⟩ ∈ zGw := zmg (zg3 236 rfl) rfl
theorem zk428 : Cond.static ⟨"BitOff$Table", "isOfKind", "(II)Z"⟩ ∈ zGw := zmg (zg4 23 rfl) rfl
theorem zk429 : Cond.instanceMethod ⟨"BitOff$Tapes", "makeRow", "(III)V"⟩ ∈ zGw := zmg (zg4 37 rfl) rfl
theorem zk430 : Cond.static ⟨"BitOff$Tapes", "fitted", "(IJ)J"⟩ ∈ zGw := zmg (zg4 44 rfl) rfl
theorem zk431 : Cond.instanceMethod ⟨"BitOff$Tapes", "isStretch", "(III)Z"⟩ ∈ zGw := zmg (zg4 56 rfl) rfl
theorem zk432 : Cond.instanceMethod ⟨"BitOffModel", "in", "(III)Z"⟩ ∈ zGw := zmg (zg5 29 rfl) rfl
theorem zk433 : Cond.instanceMethod ⟨"BitOffModel", "isLength", "(I)Z"⟩ ∈ zGw := zmg (zg5 33 rfl) rfl
theorem zk434 : Cond.instanceMethod ⟨"BitOffModel", "isSide", "(I)Z"⟩ ∈ zGw := zmg (zg5 41 rfl) rfl
theorem zk435 : Cond.instanceMethod ⟨"BitOffModel", "next", "()I"⟩ ∈ zGw := zmg (zg5 69 rfl) rfl
theorem zk436 : Cond.instanceMethod ⟨"BitOffModel", "takes", "(I)Z"⟩ ∈ zGw := zmg (zg5 81 rfl) rfl
theorem zk437 : Cond.instanceMethod ⟨"BitOffModel", "takesAlone", "(II)Z"⟩ ∈ zGw := zmg (zg5 77 rfl) rfl
theorem zk438 : Cond.instanceMethod ⟨"BitOffModel", "isDigit", "()Z"⟩ ∈ zGw := zmg (zg5 89 rfl) rfl
theorem zk439 : Cond.instanceMethod ⟨"BitOffModel", "emits", "(I)V"⟩ ∈ zGw := zmg (zg5 105 rfl) rfl
theorem zk440 : Cond.instanceMethod ⟨"BitOffModel", "place", "(I)I"⟩ ∈ zGw := zmg (zg5 101 rfl) rfl
theorem zk441 : Cond.instanceMethod ⟨"BitOffModel", "takesNumber", "()Z"⟩ ∈ zGw := zmg (zg5 85 rfl) rfl
theorem zk442 : Cond.instanceMethod ⟨"BitOffModel", "whole", "()V"⟩ ∈ zGw := zmg (zg5 109 rfl) rfl
theorem zk443 : Cond.instanceMethod ⟨"BitOffModel", "takesTest", "()Z"⟩ ∈ zGw := zmg (zg5 97 rfl) rfl
theorem zk444 : Cond.instanceMethod ⟨"BitOffModel", "settle", "(I)V"⟩ ∈ zGw := zmg (zg5 113 rfl) rfl
theorem zk445 : Cond.instanceMethod ⟨"BitOffModel", "takesWord", "(II)Z"⟩ ∈ zGw := zmg (zg5 73 rfl) rfl
theorem zk446 : Cond.instanceMethod ⟨"BitOffModel", "takesHead", "(I)Z"⟩ ∈ zGw := zmg (zg5 65 rfl) rfl
theorem zk447 : Cond.instanceMethod ⟨"BitOffModel", "takesE", "(I)Z"⟩ ∈ zGw := zmg (zg5 93 rfl) rfl
theorem zk448 : Cond.instanceMethod ⟨"BitOffModel", "takesClause", "(I)Z"⟩ ∈ zGw := zmg (zg5 61 rfl) rfl
theorem zk449 : Cond.instanceMethod ⟨"BitOffModel", "goesText", "(I)Z"⟩ ∈ zGw := zmg (zg5 57 rfl) rfl
theorem zk450 : Cond.instanceMethod ⟨"BitOffModel", "begin", "()I"⟩ ∈ zGw := zmg (zg5 133 rfl) rfl
theorem zk451 : Cond.instanceMethod ⟨"BitOffModel", "behind", "()I"⟩ ∈ zGw := zmg (zg5 137 rfl) rfl
theorem zk452 : Cond.instanceMethod ⟨"BitOffModel", "lastOf", "(II)I"⟩ ∈ zGw := zmg (zg5 129 rfl) rfl
theorem zk453 : Cond.instanceMethod ⟨"BitOffModel", "factOf", "(II)I"⟩ ∈ zGw := zmg (zg5 157 rfl) rfl
theorem zk454 : Cond.instanceMethod ⟨"BitOffModel", "holds", "(II)Z"⟩ ∈ zGw := zmg (zg5 153 rfl) rfl
theorem zk455 : Cond.instanceMethod ⟨"BitOffModel", "give", "()I"⟩ ∈ zGw := zmg (zg5 125 rfl) rfl
theorem zk456 : Cond.instanceMethod ⟨"BitOffModel", "least", "(II)I"⟩ ∈ zGw := zmg (zg5 141 rfl) rfl
theorem zk457 : Cond.instanceMethod ⟨"BitOffModel", "takenOf", "(II)I"⟩ ∈ zGw := zmg (zg5 121 rfl) rfl
theorem zk458 : Cond.instanceMethod ⟨"BitOffModel", "looks", "(I)I"⟩ ∈ zGw := zmg (zg5 149 rfl) rfl
theorem zk459 : Cond.instanceMethod ⟨"BitOffModel", "growsOf", "(I)I"⟩ ∈ zGw := zmg (zg5 161 rfl) rfl
theorem zk460 : Cond.instanceMethod ⟨"BitOffModel", "longest", "()I"⟩ ∈ zGw := zmg (zg5 181 rfl) rfl
theorem zk461 : Cond.instanceMethod ⟨"BitOffModel", "apart", "()I"⟩ ∈ zGw := zmg (zg5 177 rfl) rfl
theorem zk462 : Cond.instanceMethod ⟨"BitOffModel", "leave", "()I"⟩ ∈ zGw := zmg (zg5 185 rfl) rfl
theorem zk463 : Cond.instanceMethod ⟨"BitOffModel", "isDone", "()Z"⟩ ∈ zGw := zmg (zg5 173 rfl) rfl
theorem zk464 : Cond.instanceMethod ⟨"BitOffModel", "isHalf", "()Z"⟩ ∈ zGw := zmg (zg5 189 rfl) rfl
theorem zk465 : Cond.instanceMethod ⟨"BitOffModel", "cuts", "(II)V"⟩ ∈ zGw := zmg (zg5 193 rfl) rfl
theorem zk466 : Cond.instanceMethod ⟨"BitOffModel", "goSnip", "()I"⟩ ∈ zGw := zmg (zg5 169 rfl) rfl
theorem zk467 : Cond.instanceMethod ⟨"BitOffModel", "goDay", "()V"⟩ ∈ zGw := zmg (zg5 201 rfl) rfl
theorem zk468 : Cond.instanceMethod ⟨"BitOffModel", "offNow", "()I"⟩ ∈ zGw := zmg (zg5 209 rfl) rfl
theorem zk469 : Cond.instanceMethod ⟨"BitOffModel", "isSnips", "(I)Z"⟩ ∈ zGw := zmg (zg5 217 rfl) rfl
theorem zk470 : Cond.instanceMethod ⟨"BitOffModel", "save", "()V"⟩ ∈ zGw := zmg (zg5 221 rfl) rfl
theorem zk471 : Cond.instanceMethod ⟨"BitOffModel", "goSnips", "(I)I"⟩ ∈ zGw := zmg (zg5 226 rfl) rfl
theorem zk472 : Cond.instanceMethod ⟨"BitOffModel", "allOff", "()I"⟩ ∈ zGw := zmg (zg5 230 rfl) rfl
theorem zk473 : Cond.instanceMethod ⟨"BitOffModel", "putBack", "()V"⟩ ∈ zGw := zmg (zg5 234 rfl) rfl
theorem zk474 : Cond.instanceMethod ⟨"BitOffModel", "offBehind", "()I"⟩ ∈ zGw := zmg (zg6 14 rfl) rfl
theorem zk475 : Cond.instanceMethod ⟨"BitOffModel", "wobble", "()I"⟩ ∈ zGw := zmg (zg6 38 rfl) rfl
theorem zk476 : Cond.instanceMethod ⟨"BitOffModel", "isSeen", "()Z"⟩ ∈ zGw := zmg (zg6 62 rfl) rfl
theorem zk477 : Cond.instanceMethod ⟨"BitOffModel", "divisor", "(II)I"⟩ ∈ zGw := zmg (zg6 79 rfl) rfl
theorem zk478 : Cond.instanceMethod ⟨"BitOffModel", "lowest", "(III)J"⟩ ∈ zGw := zmg (zg6 75 rfl) rfl
theorem zk479 : Cond.instanceMethod ⟨"BitOffModel", "isTape", "(I)Z"⟩ ∈ zGw := zmg (zg6 107 rfl) rfl
theorem zk480 : Cond.instanceMethod ⟨"BitOffModel", "body", "(I)V"⟩ ∈ zGw := zmg (zg6 127 rfl) rfl
theorem zk481 : Cond.instanceMethod ⟨"BitOffModel", "sideHangs", "(II)I"⟩ ∈ zGw := zmg (zg6 131 rfl) rfl
theorem zk482 : Cond.instanceMethod ⟨"BitOffModel", "hangsAct", "(II)I"⟩ ∈ zGw := zmg (zg6 123 rfl) rfl
theorem zk483 : Cond.instanceMethod ⟨"BitOffModel", "sideFalls", "(II)I"⟩ ∈ zGw := zmg (zg6 143 rfl) rfl
theorem zk484 : Cond.instanceMethod ⟨"BitOffModel", "springyFalls", "(II)I"⟩ ∈ zGw := zmg (zg6 139 rfl) rfl
theorem zk485 : Cond.instanceMethod ⟨"BitOffModel", "fallsAct", "(II)I"⟩ ∈ zGw := zmg (zg6 135 rfl) rfl
theorem zk486 : Cond.instanceMethod ⟨"BitOffModel", "sideTells", "(II)I"⟩ ∈ zGw := zmg (zg6 151 rfl) rfl
theorem zk487 : Cond.instanceMethod ⟨"BitOffModel", "tellsAct", "(II)I"⟩ ∈ zGw := zmg (zg6 147 rfl) rfl
theorem zk488 : Cond.instanceMethod ⟨"BitOffModel", "narrow", "(IJ)J"⟩ ∈ zGw := zmg (zg6 175 rfl) rfl
theorem zk489 : Cond.static ⟨"jdk/internal/util/Preconditions", "checkIndex", "(IILjava/util/function/BiFunction;)I"⟩ ∈ zGw := zmg (zg2 140 rfl) rfl
theorem zk490 : Cond.initialized "jdk/internal/util/Preconditions" ∈ zGw := zmg (zg1 12 rfl) rfl
theorem zk491 : Cond.code ⟨"jdk/internal/util/Preconditions", "checkIndex", "(IILjava/util/function/BiFunction;)I"⟩ prog_16_method_11_code 3 (Option.some Jvm.ClassFile.FieldType.int) ∈ zGw := zmg (zg2 141 rfl) rfl
theorem zk492 : Cond.instanceMethod ⟨"java/lang/String", "coder", "()B"⟩ ∈ zGw := zmg (zg2 118 rfl) rfl
theorem zk493 : Cond.instanceMethod ⟨"java/lang/String", "isLatin1", "()Z"⟩ ∈ zGw := zmg (zg2 128 rfl) rfl
theorem zk494 : Cond.static ⟨"java/lang/StringLatin1", "charAt", "([BI)C"⟩ ∈ zGw := zmg (zg2 132 rfl) rfl
theorem zk495 : Cond.static ⟨"java/lang/String", "checkIndex", "(II)V"⟩ ∈ zGw := zmg (zg2 135 rfl) rfl
theorem zk496 : Cond.instanceMethod ⟨"java/lang/String", "indexOf", "(II)I"⟩ ∈ zGw := zmg (zg2 195 rfl) rfl
theorem zk497 : Cond.static ⟨"java/lang/StringLatin1", "indexOf", "([BIII)I"⟩ ∈ zGw := zmg (zg2 200 rfl) rfl
theorem zk498 : Cond.static ⟨"java/lang/StringLatin1", "canEncode", "(I)Z"⟩ ∈ zGw := zmg (zg2 203 rfl) rfl
theorem zk499 : Cond.static ⟨"java/lang/StringLatin1", "indexOfChar", "([BIII)I"⟩ ∈ zGw := zmg (zg2 210 rfl) rfl
theorem zk500 : Cond.instanceMethod ⟨"BitOff", "<init>", "()V"⟩ ∈ zGw := zmg (zg1 19 rfl) rfl
theorem zk501 : Cond.instanceMethod ⟨"BitOffModel", "<init>", "()V"⟩ ∈ zGw := zmg (zg4 62 rfl) rfl
theorem zk502 : Cond.instanceMethod ⟨"BitOff", "side", "(III)I"⟩ ∈ zGw := zmg (zg2 31 rfl) rfl
theorem zk503 : Cond.instanceMethod ⟨"BitOffModel", "side", "(III)I"⟩ ∈ zGw := zmg (zg5 24 rfl) rfl
theorem zk504 : Cond.instanceMethod ⟨"BitOff", "of", "(II)I"⟩ ∈ zGw := zmg (zg2 42 rfl) rfl
theorem zk505 : Cond.instanceMethod ⟨"BitOffModel", "of", "(II)I"⟩ ∈ zGw := zmg (zg5 144 rfl) rfl
theorem zk506 : Cond.instanceMethod ⟨"BitOff", "taken", "(II)I"⟩ ∈ zGw := zmg (zg2 66 rfl) rfl
theorem zk507 : Cond.instanceMethod ⟨"BitOffModel", "taken", "(II)I"⟩ ∈ zGw := zmg (zg5 116 rfl) rfl
theorem zk508 : Cond.instanceMethod ⟨"BitOff", "set", "(II)I"⟩ ∈ zGw := zmg (zg2 77 rfl) rfl
theorem zk509 : Cond.instanceMethod ⟨"BitOffModel", "set", "(II)I"⟩ ∈ zGw := zmg (zg5 36 rfl) rfl
theorem zk510 : Cond.instanceMethod ⟨"BitOff", "row", "(III)I"⟩ ∈ zGw := zmg (zg2 81 rfl) rfl
theorem zk511 : Cond.instanceMethod ⟨"BitOffModel", "row", "(III)I"⟩ ∈ zGw := zmg (zg5 44 rfl) rfl
theorem zk512 : Cond.instanceMethod ⟨"BitOff", "feed", "(I)I"⟩ ∈ zGw := zmg (zg2 85 rfl) rfl
theorem zk513 : Cond.instanceMethod ⟨"BitOffModel", "feed", "(I)I"⟩ ∈ zGw := zmg (zg5 48 rfl) rfl
theorem zk514 : Cond.instanceMethod ⟨"BitOff", "kitchen", "()I"⟩ ∈ zGw := zmg (zg2 93 rfl) rfl
theorem zk515 : Cond.instanceMethod ⟨"BitOffModel", "kitchen", "()I"⟩ ∈ zGw := zmg (zg5 52 rfl) rfl
theorem zk516 : Cond.instanceMethod ⟨"BitOff", "told", "(I)I"⟩ ∈ zGw := zmg (zg3 22 rfl) rfl
theorem zk517 : Cond.instanceMethod ⟨"BitOffModel", "told", "(I)I"⟩ ∈ zGw := zmg (zg5 204 rfl) rfl
theorem zk518 : Cond.instanceMethod ⟨"BitOff", "snip", "()I"⟩ ∈ zGw := zmg (zg3 48 rfl) rfl
theorem zk519 : Cond.instanceMethod ⟨"BitOffModel", "snip", "()I"⟩ ∈ zGw := zmg (zg5 164 rfl) rfl
theorem zk520 : Cond.instanceMethod ⟨"BitOff", "pass", "(I)I"⟩ ∈ zGw := zmg (zg3 62 rfl) rfl
theorem zk521 : Cond.instanceMethod ⟨"BitOffModel", "pass", "(I)I"⟩ ∈ zGw := zmg (zg5 196 rfl) rfl
theorem zk522 : Cond.instanceMethod ⟨"BitOff", "on", "(II)I"⟩ ∈ zGw := zmg (zg3 71 rfl) rfl
theorem zk523 : Cond.instanceMethod ⟨"BitOffModel", "on", "(II)I"⟩ ∈ zGw := zmg (zg5 212 rfl) rfl
theorem zk524 : Cond.instanceMethod ⟨"BitOff", "ends", "()I"⟩ ∈ zGw := zmg (zg3 88 rfl) rfl
theorem zk525 : Cond.instanceMethod ⟨"BitOffModel", "ends", "()I"⟩ ∈ zGw := zmg (zg5 237 rfl) rfl
theorem zk526 : Cond.instanceMethod ⟨"BitOff", "shortest", "(I)I"⟩ ∈ zGw := zmg (zg3 92 rfl) rfl
theorem zk527 : Cond.instanceMethod ⟨"BitOffModel", "shortest", "(I)I"⟩ ∈ zGw := zmg (zg6 1 rfl) rfl
theorem zk528 : Cond.instanceMethod ⟨"BitOff", "sides", "(I)I"⟩ ∈ zGw := zmg (zg3 97 rfl) rfl
theorem zk529 : Cond.instanceMethod ⟨"BitOffModel", "sides", "(I)I"⟩ ∈ zGw := zmg (zg6 5 rfl) rfl
theorem zk530 : Cond.instanceMethod ⟨"BitOff", "leaves", "(I)I"⟩ ∈ zGw := zmg (zg3 101 rfl) rfl
theorem zk531 : Cond.instanceMethod ⟨"BitOffModel", "leaves", "(I)I"⟩ ∈ zGw := zmg (zg6 9 rfl) rfl
theorem zk532 : Cond.instanceMethod ⟨"BitOff", "halves", "()I"⟩ ∈ zGw := zmg (zg3 107 rfl) rfl
theorem zk533 : Cond.instanceMethod ⟨"BitOffModel", "halves", "()I"⟩ ∈ zGw := zmg (zg6 17 rfl) rfl
theorem zk534 : Cond.instanceMethod ⟨"BitOff", "first", "(I)I"⟩ ∈ zGw := zmg (zg3 111 rfl) rfl
theorem zk535 : Cond.instanceMethod ⟨"BitOffModel", "first", "(I)I"⟩ ∈ zGw := zmg (zg6 21 rfl) rfl
theorem zk536 : Cond.instanceMethod ⟨"BitOff", "twice", "()I"⟩ ∈ zGw := zmg (zg3 116 rfl) rfl
theorem zk537 : Cond.instanceMethod ⟨"BitOffModel", "twice", "()I"⟩ ∈ zGw := zmg (zg6 25 rfl) rfl
theorem zk538 : Cond.instanceMethod ⟨"BitOff", "pad", "()I"⟩ ∈ zGw := zmg (zg3 120 rfl) rfl
theorem zk539 : Cond.instanceMethod ⟨"BitOffModel", "pad", "()I"⟩ ∈ zGw := zmg (zg6 29 rfl) rfl
theorem zk540 : Cond.instanceMethod ⟨"BitOffModel", "wobbles", "()I"⟩ ∈ zGw := zmg (zg6 33 rfl) rfl
theorem zk541 : Cond.instanceMethod ⟨"BitOff", "leg", "()I"⟩ ∈ zGw := zmg (zg3 128 rfl) rfl
theorem zk542 : Cond.instanceMethod ⟨"BitOffModel", "leg", "()I"⟩ ∈ zGw := zmg (zg6 41 rfl) rfl
theorem zk543 : Cond.instanceMethod ⟨"BitOff", "grown", "(I)I"⟩ ∈ zGw := zmg (zg3 133 rfl) rfl
theorem zk544 : Cond.instanceMethod ⟨"BitOffModel", "grown", "(I)I"⟩ ∈ zGw := zmg (zg6 45 rfl) rfl
theorem zk545 : Cond.instanceMethod ⟨"BitOff", "reaches", "(II)I"⟩ ∈ zGw := zmg (zg3 137 rfl) rfl
theorem zk546 : Cond.instanceMethod ⟨"BitOffModel", "reaches", "(II)I"⟩ ∈ zGw := zmg (zg6 49 rfl) rfl
theorem zk547 : Cond.instanceMethod ⟨"BitOff", "see", "(I)I"⟩ ∈ zGw := zmg (zg3 141 rfl) rfl
theorem zk548 : Cond.instanceMethod ⟨"BitOffModel", "see", "(I)I"⟩ ∈ zGw := zmg (zg6 53 rfl) rfl
theorem zk549 : Cond.instanceMethod ⟨"BitOff", "was", "(II)I"⟩ ∈ zGw := zmg (zg3 149 rfl) rfl
theorem zk550 : Cond.instanceMethod ⟨"BitOffModel", "was", "(II)I"⟩ ∈ zGw := zmg (zg6 57 rfl) rfl
theorem zk551 : Cond.instanceMethod ⟨"BitOff", "now", "()I"⟩ ∈ zGw := zmg (zg3 157 rfl) rfl
theorem zk552 : Cond.instanceMethod ⟨"BitOffModel", "now", "()I"⟩ ∈ zGw := zmg (zg6 65 rfl) rfl
theorem zk553 : Cond.instanceMethod ⟨"BitOff", "odds", "(II)J"⟩ ∈ zGw := zmg (zg3 161 rfl) rfl
theorem zk554 : Cond.instanceMethod ⟨"BitOffModel", "odds", "(II)J"⟩ ∈ zGw := zmg (zg6 69 rfl) rfl
theorem zk555 : Cond.instanceMethod ⟨"BitOff", "mean", "(II)J"⟩ ∈ zGw := zmg (zg3 169 rfl) rfl
theorem zk556 : Cond.instanceMethod ⟨"BitOffModel", "mean", "(II)J"⟩ ∈ zGw := zmg (zg6 82 rfl) rfl
theorem zk557 : Cond.instanceMethod ⟨"BitOff", "plan", "(I)I"⟩ ∈ zGw := zmg (zg3 177 rfl) rfl
theorem zk558 : Cond.instanceMethod ⟨"BitOffModel", "plan", "(I)I"⟩ ∈ zGw := zmg (zg6 86 rfl) rfl
theorem zk559 : Cond.instanceMethod ⟨"BitOff", "planned", "(I)I"⟩ ∈ zGw := zmg (zg3 185 rfl) rfl
theorem zk560 : Cond.instanceMethod ⟨"BitOffModel", "planned", "(I)I"⟩ ∈ zGw := zmg (zg6 90 rfl) rfl
theorem zk561 : Cond.instanceMethod ⟨"BitOff", "book", "(II)I"⟩ ∈ zGw := zmg (zg3 189 rfl) rfl
theorem zk562 : Cond.instanceMethod ⟨"BitOffModel", "book", "(II)I"⟩ ∈ zGw := zmg (zg6 94 rfl) rfl
theorem zk563 : Cond.instanceMethod ⟨"BitOff", "looked", "()I"⟩ ∈ zGw := zmg (zg3 197 rfl) rfl
theorem zk564 : Cond.instanceMethod ⟨"BitOffModel", "looked", "()I"⟩ ∈ zGw := zmg (zg6 98 rfl) rfl
theorem zk565 : Cond.instanceMethod ⟨"BitOff", "judge", "(II)I"⟩ ∈ zGw := zmg (zg3 201 rfl) rfl
theorem zk566 : Cond.instanceMethod ⟨"BitOffModel", "judge", "(II)I"⟩ ∈ zGw := zmg (zg6 102 rfl) rfl
theorem zk567 : Cond.instanceMethod ⟨"BitOff", "image", "()I"⟩ ∈ zGw := zmg (zg3 218 rfl) rfl
theorem zk568 : Cond.instanceMethod ⟨"BitOffModel", "image", "()I"⟩ ∈ zGw := zmg (zg6 110 rfl) rfl
theorem zk569 : Cond.instanceMethod ⟨"BitOff", "undo", "()I"⟩ ∈ zGw := zmg (zg3 227 rfl) rfl
theorem zk570 : Cond.instanceMethod ⟨"BitOffModel", "undo", "()I"⟩ ∈ zGw := zmg (zg6 114 rfl) rfl
theorem zk571 : Cond.instanceMethod ⟨"BitOff", "act", "(III)I"⟩ ∈ zGw := zmg (zg3 231 rfl) rfl
theorem zk572 : Cond.instanceMethod ⟨"BitOffModel", "act", "(III)I"⟩ ∈ zGw := zmg (zg6 118 rfl) rfl
theorem zk573 : Cond.instanceMethod ⟨"BitOff", "trace", "(I)I"⟩ ∈ zGw := zmg (zg4 15 rfl) rfl
theorem zk574 : Cond.instanceMethod ⟨"BitOffModel", "trace", "(I)I"⟩ ∈ zGw := zmg (zg6 154 rfl) rfl
theorem zk575 : Cond.instanceMethod ⟨"BitOff", "cast", "(II)I"⟩ ∈ zGw := zmg (zg4 19 rfl) rfl
theorem zk576 : Cond.instanceMethod ⟨"BitOffModel", "cast", "(II)I"⟩ ∈ zGw := zmg (zg6 158 rfl) rfl
theorem zk577 : Cond.instanceMethod ⟨"BitOff", "count", "(I)I"⟩ ∈ zGw := zmg (zg4 28 rfl) rfl
theorem zk578 : Cond.instanceMethod ⟨"BitOffModel", "count", "(I)I"⟩ ∈ zGw := zmg (zg6 162 rfl) rfl
theorem zk579 : Cond.instanceMethod ⟨"BitOff", "tape", "(III)I"⟩ ∈ zGw := zmg (zg4 32 rfl) rfl
theorem zk580 : Cond.instanceMethod ⟨"BitOffModel", "tape", "(III)I"⟩ ∈ zGw := zmg (zg6 166 rfl) rfl
theorem zk581 : Cond.instanceMethod ⟨"BitOff", "item", "(IIJ)I"⟩ ∈ zGw := zmg (zg4 40 rfl) rfl
theorem zk582 : Cond.instanceMethod ⟨"BitOffModel", "item", "(IIJ)I"⟩ ∈ zGw := zmg (zg6 170 rfl) rfl
theorem zk583 : Cond.instanceMethod ⟨"BitOff", "read", "(II)J"⟩ ∈ zGw := zmg (zg4 47 rfl) rfl
theorem zk584 : Cond.instanceMethod ⟨"BitOffModel", "read", "(II)J"⟩ ∈ zGw := zmg (zg6 178 rfl) rfl
theorem zk585 : Cond.instanceMethod ⟨"BitOff", "shift", "(IIIII)I"⟩ ∈ zGw := zmg (zg4 51 rfl) rfl
theorem zk586 : Cond.instanceMethod ⟨"BitOffModel", "shift", "(IIIII)I"⟩ ∈ zGw := zmg (zg6 182 rfl) rfl
theorem zk587 : Cond.code ⟨"BitOff$Acts", "<init>", "()V"⟩ prog_2_method_1_code 1 (Option.none : Option Jvm.ClassFile.FieldType) ∈ zGw := zmg (zg1 192 rfl) rfl
theorem zk588 : Cond.code ⟨"BitOff$Acts", "perform", "(II)I"⟩ prog_2_method_2_code 3 (Option.some Jvm.ClassFile.FieldType.int) ∈ zGw := zmg (zg3 237 rfl) rfl
theorem zk589 : Cond.code ⟨"BitOff$Acts", "begin", "(I)V"⟩ prog_2_method_3_code 2 (Option.none : Option Jvm.ClassFile.FieldType) ∈ zGw := zmg (zg4 5 rfl) rfl
theorem zk590 : Cond.code ⟨"BitOff$Acts", "hangs", "(III)I"⟩ prog_2_method_4_code 4 (Option.some Jvm.ClassFile.FieldType.int) ∈ zGw := zmg (zg4 1 rfl) rfl
theorem zk591 : Cond.code ⟨"BitOff$Acts", "falls", "(III)I"⟩ prog_2_method_5_code 4 (Option.some Jvm.ClassFile.FieldType.int) ∈ zGw := zmg (zg4 9 rfl) rfl
theorem zk592 : Cond.code ⟨"BitOff$Acts", "tells", "(III)I"⟩ prog_2_method_6_code 4 (Option.some Jvm.ClassFile.FieldType.int) ∈ zGw := zmg (zg4 13 rfl) rfl
theorem zk593 : Cond.code ⟨"BitOff$Kitchen", "<init>", "()V"⟩ prog_3_method_1_code 1 (Option.none : Option Jvm.ClassFile.FieldType) ∈ zGw := zmg (zg1 28 rfl) rfl
theorem zk594 : Cond.code ⟨"BitOff$Kitchen", "empty", "()V"⟩ prog_3_method_2_code 1 (Option.none : Option Jvm.ClassFile.FieldType) ∈ zGw := zmg (zg2 103 rfl) rfl
theorem zk595 : Cond.code ⟨"BitOff$Kitchen", "addCode", "(I)V"⟩ prog_3_method_3_code 2 (Option.none : Option Jvm.ClassFile.FieldType) ∈ zGw := zmg (zg2 184 rfl) rfl
theorem zk596 : Cond.code ⟨"BitOff$Kitchen", "addJudgement", "(I)V"⟩ prog_3_method_4_code 2 (Option.none : Option Jvm.ClassFile.FieldType) ∈ zGw := zmg (zg3 11 rfl) rfl
theorem zk597 : Cond.code ⟨"BitOff$Kitchen", "misjudged", "([I)I"⟩ prog_3_method_5_code 5 (Option.some Jvm.ClassFile.FieldType.int) ∈ zGw := zmg (zg2 56 rfl) rfl
theorem zk598 : Cond.code ⟨"BitOff$Kitchen", "isSo", "(II[I)Z"⟩ prog_3_method_6_code 10 (Option.some Jvm.ClassFile.FieldType.boolean) ∈ zGw := zmg (zg2 60 rfl) rfl
theorem zk599 : Cond.code ⟨"BitOff$Notes", "<init>", "()V"⟩ prog_4_method_1_code 1 (Option.none : Option Jvm.ClassFile.FieldType) ∈ zGw := zmg (zg1 134 rfl) rfl
theorem zk600 : Cond.code ⟨"BitOff$Notes", "copyFrom", "(LBitOff$Notes;)V"⟩ prog_4_method_2_code 2 (Option.none : Option Jvm.ClassFile.FieldType) ∈ zGw := zmg (zg3 224 rfl) rfl
theorem zk601 : Cond.code ⟨"BitOff$Notes", "addSeen", "(I)Z"⟩ prog_4_method_3_code 2 (Option.some Jvm.ClassFile.FieldType.boolean) ∈ zGw := zmg (zg3 147 rfl) rfl
theorem zk602 : Cond.code ⟨"BitOff$Notes", "addPlan", "(I)Z"⟩ prog_4_method_4_code 2 (Option.some Jvm.ClassFile.FieldType.boolean) ∈ zGw := zmg (zg3 183 rfl) rfl
theorem zk603 : Cond.code ⟨"BitOff$Notes", "addBook", "(II)Z"⟩ prog_4_method_5_code 3 (Option.some Jvm.ClassFile.FieldType.boolean) ∈ zGw := zmg (zg3 195 rfl) rfl
theorem zk604 : Cond.code ⟨"BitOff$Reader", "<init>", "()V"⟩ prog_5_method_1_code 1 (Option.none : Option Jvm.ClassFile.FieldType) ∈ zGw := zmg (zg1 170 rfl) rfl
theorem zk605 : Cond.code ⟨"BitOff$Reader", "append", "(I)Z"⟩ prog_5_method_2_code 2 (Option.some Jvm.ClassFile.FieldType.boolean) ∈ zGw := zmg (zg2 91 rfl) rfl
theorem zk606 : Cond.code ⟨"BitOff$Reader", "readsAll", "(LBitOff$Kitchen;)Z"⟩ prog_5_method_3_code 3 (Option.some Jvm.ClassFile.FieldType.boolean) ∈ zGw := zmg (zg2 99 rfl) rfl
theorem zk607 : Cond.code ⟨"BitOff$Reader", "readsClause", "()Z"⟩ prog_5_method_4_code 2 (Option.some Jvm.ClassFile.FieldType.boolean) ∈ zGw := zmg (zg2 107 rfl) rfl
theorem zk608 : Cond.code ⟨"BitOff$Reader", "readsJudgement", "(I)Z"⟩ prog_5_method_5_code 3 (Option.some Jvm.ClassFile.FieldType.boolean) ∈ zGw := zmg (zg2 168 rfl) rfl
theorem zk609 : Cond.code ⟨"BitOff$Reader", "readsEither", "(I)Z"⟩ prog_5_method_6_code 5 (Option.some Jvm.ClassFile.FieldType.boolean) ∈ zGw := zmg (zg2 176 rfl) rfl
theorem zk610 : Cond.code ⟨"BitOff$Reader", "readsPart", "(I)Z"⟩ prog_5_method_7_code 5 (Option.some Jvm.ClassFile.FieldType.boolean) ∈ zGw := zmg (zg2 180 rfl) rfl
theorem zk611 : Cond.code ⟨"BitOff$Reader", "number", "()I"⟩ prog_5_method_8_code 3 (Option.some Jvm.ClassFile.FieldType.int) ∈ zGw := zmg (zg2 172 rfl) rfl
theorem zk612 : Cond.code ⟨"BitOff$Reader", "takes", "(C)Z"⟩ prog_5_method_9_code 2 (Option.some Jvm.ClassFile.FieldType.boolean) ∈ zGw := zmg (zg2 164 rfl) rfl
theorem zk613 : Cond.code ⟨"BitOff$Reader", "takesWord", "(Ljava/lang/String;)Z"⟩ prog_5_method_10_code 3 (Option.some Jvm.ClassFile.FieldType.boolean) ∈ zGw := zmg (zg2 112 rfl) rfl
theorem zk614 : Cond.code ⟨"BitOff$Reader", "takesOneOf", "(Ljava/lang/String;)I"⟩ prog_5_method_11_code 3 (Option.some Jvm.ClassFile.FieldType.int) ∈ zGw := zmg (zg2 189 rfl) rfl
theorem zk615 : Cond.code ⟨"BitOff$Table", "<init>", "(LBitOff$Kitchen;)V"⟩ prog_6_method_1_code 2 (Option.none : Option Jvm.ClassFile.FieldType) ∈ zGw := zmg (zg1 66 rfl) rfl
theorem zk616 : Cond.code ⟨"BitOff$Table", "follow", "(LBitOff$Kitchen;)V"⟩ prog_6_method_2_code 2 (Option.none : Option Jvm.ClassFile.FieldType) ∈ zGw := zmg (zg3 20 rfl) rfl
theorem zk617 : Cond.code ⟨"BitOff$Table", "copyFrom", "(LBitOff$Table;)V"⟩ prog_6_method_3_code 2 (Option.none : Option Jvm.ClassFile.FieldType) ∈ zGw := zmg (zg3 77 rfl) rfl
theorem zk618 : Cond.code ⟨"BitOff$Table", "join", "(III)I"⟩ prog_6_method_4_code 6 (Option.some Jvm.ClassFile.FieldType.int) ∈ zGw := zmg (zg2 40 rfl) rfl
theorem zk619 : Cond.code ⟨"BitOff$Table", "isOfKind", "(II)Z"⟩ prog_6_method_5_code 4 (Option.some Jvm.ClassFile.FieldType.boolean) ∈ zGw := zmg (zg4 24 rfl) rfl
theorem zk620 : Cond.code ⟨"BitOff$Table", "looksOf", "(I)I"⟩ prog_6_method_6_code 2 (Option.some Jvm.ClassFile.FieldType.int) ∈ zGw := zmg (zg2 52 rfl) rfl
theorem zk621 : Cond.code ⟨"BitOff$Table", "takenBy", "(II)I"⟩ prog_6_method_7_code 6 (Option.some Jvm.ClassFile.FieldType.int) ∈ zGw := zmg (zg2 72 rfl) rfl
theorem zk622 : Cond.code ⟨"BitOff$Table", "growsBy", "(I)I"⟩ prog_6_method_8_code 2 (Option.some Jvm.ClassFile.FieldType.int) ∈ zGw := zmg (zg2 64 rfl) rfl
theorem zk623 : Cond.code ⟨"BitOff$Table", "greatestLong", "()I"⟩ prog_6_method_9_code 3 (Option.some Jvm.ClassFile.FieldType.int) ∈ zGw := zmg (zg3 32 rfl) rfl
theorem zk624 : Cond.code ⟨"BitOff$Table", "leastLong", "()I"⟩ prog_6_method_10_code 3 (Option.some Jvm.ClassFile.FieldType.int) ∈ zGw := zmg (zg3 37 rfl) rfl
theorem zk625 : Cond.code ⟨"BitOff$Table", "allLong", "()I"⟩ prog_6_method_11_code 3 (Option.some Jvm.ClassFile.FieldType.int) ∈ zGw := zmg (zg3 175 rfl) rfl
theorem zk626 : Cond.code ⟨"BitOff$Table", "spread", "()I"⟩ prog_6_method_12_code 1 (Option.some Jvm.ClassFile.FieldType.int) ∈ zGw := zmg (zg3 28 rfl) rfl
theorem zk627 : Cond.code ⟨"BitOff$Table", "gapSeen", "()I"⟩ prog_6_method_13_code 5 (Option.some Jvm.ClassFile.FieldType.int) ∈ zGw := zmg (zg3 45 rfl) rfl
theorem zk628 : Cond.code ⟨"BitOff$Table", "isDone", "()Z"⟩ prog_6_method_14_code 1 (Option.some Jvm.ClassFile.FieldType.boolean) ∈ zGw := zmg (zg3 41 rfl) rfl
theorem zk629 : Cond.code ⟨"BitOff$Table", "cutLongest", "()I"⟩ prog_6_method_15_code 2 (Option.some Jvm.ClassFile.FieldType.int) ∈ zGw := zmg (zg3 54 rfl) rfl
theorem zk630 : Cond.code ⟨"BitOff$Table", "cutTimes", "(I)I"⟩ prog_6_method_16_code 3 (Option.some Jvm.ClassFile.FieldType.int) ∈ zGw := zmg (zg3 84 rfl) rfl
theorem zk631 : Cond.code ⟨"BitOff$Table", "cutOff", "(II)V"⟩ prog_6_method_17_code 3 (Option.none : Option Jvm.ClassFile.FieldType) ∈ zGw := zmg (zg3 58 rfl) rfl
theorem zk632 : Cond.code ⟨"BitOff$Table", "growADay", "()V"⟩ prog_6_method_18_code 2 (Option.none : Option Jvm.ClassFile.FieldType) ∈ zGw := zmg (zg3 68 rfl) rfl
theorem zk633 : Cond.code ⟨"BitOff$Tapes", "<init>", "()V"⟩ prog_7_method_1_code 2 (Option.none : Option Jvm.ClassFile.FieldType) ∈ zGw := zmg (zg1 219 rfl) rfl
theorem zk634 : Cond.code ⟨"BitOff$Tapes", "isTape", "(I)Z"⟩ prog_7_method_2_code 2 (Option.some Jvm.ClassFile.FieldType.boolean) ∈ zGw := zmg (zg3 207 rfl) rfl
theorem zk635 : Cond.code ⟨"BitOff$Tapes", "holds", "(I)Z"⟩ prog_7_method_3_code 2 (Option.some Jvm.ClassFile.FieldType.boolean) ∈ zGw := zmg (zg3 211 rfl) rfl
theorem zk636 : Cond.code ⟨"BitOff$Tapes", "isPlace", "(IJ)Z"⟩ prog_7_method_4_code 4 (Option.some Jvm.ClassFile.FieldType.boolean) ∈ zGw := zmg (zg3 215 rfl) rfl
theorem zk637 : Cond.code ⟨"BitOff$Tapes", "isStretch", "(III)Z"⟩ prog_7_method_5_code 4 (Option.some Jvm.ClassFile.FieldType.boolean) ∈ zGw := zmg (zg4 57 rfl) rfl
theorem zk638 : Cond.code ⟨"BitOff$Tapes", "makeRow", "(III)V"⟩ prog_7_method_6_code 5 (Option.none : Option Jvm.ClassFile.FieldType) ∈ zGw := zmg (zg4 38 rfl) rfl
theorem zk639 : Cond.code ⟨"BitOff$Tapes", "fitted", "(IJ)J"⟩ prog_7_method_7_code 3 (Option.some Jvm.ClassFile.FieldType.long) ∈ zGw := zmg (zg4 45 rfl) rfl
theorem zk640 : Cond.code ⟨"BitOff", "<init>", "()V"⟩ prog_1_method_1_code 3 (Option.none : Option Jvm.ClassFile.FieldType) ∈ zGw := zmg (zg1 20 rfl) rfl
theorem zk641 : Cond.code ⟨"BitOff", "side", "(III)I"⟩ prog_1_method_2_code 4 (Option.some Jvm.ClassFile.FieldType.int) ∈ zGw := zmg (zg2 33 rfl) rfl
theorem zk642 : Cond.code ⟨"BitOff", "of", "(II)I"⟩ prog_1_method_3_code 3 (Option.some Jvm.ClassFile.FieldType.int) ∈ zGw := zmg (zg2 44 rfl) rfl
theorem zk643 : Cond.code ⟨"BitOff", "taken", "(II)I"⟩ prog_1_method_4_code 3 (Option.some Jvm.ClassFile.FieldType.int) ∈ zGw := zmg (zg2 68 rfl) rfl
theorem zk644 : Cond.code ⟨"BitOff", "set", "(II)I"⟩ prog_1_method_5_code 4 (Option.some Jvm.ClassFile.FieldType.int) ∈ zGw := zmg (zg2 79 rfl) rfl
theorem zk645 : Cond.code ⟨"BitOff", "row", "(III)I"⟩ prog_1_method_6_code 6 (Option.some Jvm.ClassFile.FieldType.int) ∈ zGw := zmg (zg2 83 rfl) rfl
theorem zk646 : Cond.code ⟨"BitOff", "feed", "(I)I"⟩ prog_1_method_7_code 2 (Option.some Jvm.ClassFile.FieldType.int) ∈ zGw := zmg (zg2 87 rfl) rfl
theorem zk647 : Cond.code ⟨"BitOff", "kitchen", "()I"⟩ prog_1_method_8_code 3 (Option.some Jvm.ClassFile.FieldType.int) ∈ zGw := zmg (zg2 95 rfl) rfl
theorem zk648 : Cond.code ⟨"BitOff", "told", "(I)I"⟩ prog_1_method_9_code 2 (Option.some Jvm.ClassFile.FieldType.int) ∈ zGw := zmg (zg3 24 rfl) rfl
theorem zk649 : Cond.code ⟨"BitOff", "snip", "()I"⟩ prog_1_method_10_code 1 (Option.some Jvm.ClassFile.FieldType.int) ∈ zGw := zmg (zg3 50 rfl) rfl
theorem zk650 : Cond.code ⟨"BitOff", "pass", "(I)I"⟩ prog_1_method_11_code 3 (Option.some Jvm.ClassFile.FieldType.int) ∈ zGw := zmg (zg3 64 rfl) rfl
theorem zk651 : Cond.code ⟨"BitOff", "on", "(II)I"⟩ prog_1_method_12_code 5 (Option.some Jvm.ClassFile.FieldType.int) ∈ zGw := zmg (zg3 73 rfl) rfl
theorem zk652 : Cond.code ⟨"BitOff", "ends", "()I"⟩ prog_1_method_13_code 2 (Option.some Jvm.ClassFile.FieldType.int) ∈ zGw := zmg (zg3 90 rfl) rfl
theorem zk653 : Cond.code ⟨"BitOff", "shortest", "(I)I"⟩ prog_1_method_14_code 2 (Option.some Jvm.ClassFile.FieldType.int) ∈ zGw := zmg (zg3 94 rfl) rfl
theorem zk654 : Cond.code ⟨"BitOff", "sides", "(I)I"⟩ prog_1_method_15_code 5 (Option.some Jvm.ClassFile.FieldType.int) ∈ zGw := zmg (zg3 99 rfl) rfl
theorem zk655 : Cond.code ⟨"BitOff", "leaves", "(I)I"⟩ prog_1_method_16_code 8 (Option.some Jvm.ClassFile.FieldType.int) ∈ zGw := zmg (zg3 103 rfl) rfl
theorem zk656 : Cond.code ⟨"BitOff", "halves", "()I"⟩ prog_1_method_17_code 2 (Option.some Jvm.ClassFile.FieldType.int) ∈ zGw := zmg (zg3 109 rfl) rfl
theorem zk657 : Cond.code ⟨"BitOff", "first", "(I)I"⟩ prog_1_method_18_code 6 (Option.some Jvm.ClassFile.FieldType.int) ∈ zGw := zmg (zg3 113 rfl) rfl
theorem zk658 : Cond.code ⟨"BitOff", "twice", "()I"⟩ prog_1_method_19_code 2 (Option.some Jvm.ClassFile.FieldType.int) ∈ zGw := zmg (zg3 118 rfl) rfl
theorem zk659 : Cond.code ⟨"BitOff", "pad", "()I"⟩ prog_1_method_20_code 6 (Option.some Jvm.ClassFile.FieldType.int) ∈ zGw := zmg (zg3 122 rfl) rfl
theorem zk660 : Cond.code ⟨"BitOff", "wobbles", "()I"⟩ prog_1_method_21_code 2 (Option.some Jvm.ClassFile.FieldType.int) ∈ zGw := zmg (zg3 126 rfl) rfl
theorem zk661 : Cond.code ⟨"BitOff", "leg", "()I"⟩ prog_1_method_22_code 5 (Option.some Jvm.ClassFile.FieldType.int) ∈ zGw := zmg (zg3 130 rfl) rfl
theorem zk662 : Cond.code ⟨"BitOff", "grown", "(I)I"⟩ prog_1_method_23_code 3 (Option.some Jvm.ClassFile.FieldType.int) ∈ zGw := zmg (zg3 135 rfl) rfl
theorem zk663 : Cond.code ⟨"BitOff", "reaches", "(II)I"⟩ prog_1_method_24_code 4 (Option.some Jvm.ClassFile.FieldType.int) ∈ zGw := zmg (zg3 139 rfl) rfl
theorem zk664 : Cond.code ⟨"BitOff", "see", "(I)I"⟩ prog_1_method_25_code 2 (Option.some Jvm.ClassFile.FieldType.int) ∈ zGw := zmg (zg3 143 rfl) rfl
theorem zk665 : Cond.code ⟨"BitOff", "was", "(II)I"⟩ prog_1_method_26_code 6 (Option.some Jvm.ClassFile.FieldType.int) ∈ zGw := zmg (zg3 151 rfl) rfl
theorem zk666 : Cond.code ⟨"BitOff", "now", "()I"⟩ prog_1_method_27_code 1 (Option.some Jvm.ClassFile.FieldType.int) ∈ zGw := zmg (zg3 159 rfl) rfl
theorem zk667 : Cond.code ⟨"BitOff", "odds", "(II)J"⟩ prog_1_method_28_code 5 (Option.some Jvm.ClassFile.FieldType.long) ∈ zGw := zmg (zg3 163 rfl) rfl
theorem zk668 : Cond.code ⟨"BitOff", "mean", "(II)J"⟩ prog_1_method_29_code 3 (Option.some Jvm.ClassFile.FieldType.long) ∈ zGw := zmg (zg3 171 rfl) rfl
theorem zk669 : Cond.code ⟨"BitOff", "plan", "(I)I"⟩ prog_1_method_30_code 2 (Option.some Jvm.ClassFile.FieldType.int) ∈ zGw := zmg (zg3 179 rfl) rfl
theorem zk670 : Cond.code ⟨"BitOff", "planned", "(I)I"⟩ prog_1_method_31_code 3 (Option.some Jvm.ClassFile.FieldType.int) ∈ zGw := zmg (zg3 187 rfl) rfl
theorem zk671 : Cond.code ⟨"BitOff", "book", "(II)I"⟩ prog_1_method_32_code 3 (Option.some Jvm.ClassFile.FieldType.int) ∈ zGw := zmg (zg3 191 rfl) rfl
theorem zk672 : Cond.code ⟨"BitOff", "looked", "()I"⟩ prog_1_method_33_code 3 (Option.some Jvm.ClassFile.FieldType.int) ∈ zGw := zmg (zg3 199 rfl) rfl
theorem zk673 : Cond.code ⟨"BitOff", "judge", "(II)I"⟩ prog_1_method_34_code 6 (Option.some Jvm.ClassFile.FieldType.int) ∈ zGw := zmg (zg3 203 rfl) rfl
theorem zk674 : Cond.code ⟨"BitOff", "image", "()I"⟩ prog_1_method_35_code 1 (Option.some Jvm.ClassFile.FieldType.int) ∈ zGw := zmg (zg3 220 rfl) rfl
theorem zk675 : Cond.code ⟨"BitOff", "undo", "()I"⟩ prog_1_method_36_code 1 (Option.some Jvm.ClassFile.FieldType.int) ∈ zGw := zmg (zg3 229 rfl) rfl
theorem zk676 : Cond.code ⟨"BitOff", "act", "(III)I"⟩ prog_1_method_37_code 4 (Option.some Jvm.ClassFile.FieldType.int) ∈ zGw := zmg (zg3 233 rfl) rfl
theorem zk677 : Cond.code ⟨"BitOff", "trace", "(I)I"⟩ prog_1_method_38_code 2 (Option.some Jvm.ClassFile.FieldType.int) ∈ zGw := zmg (zg4 17 rfl) rfl
theorem zk678 : Cond.code ⟨"BitOff", "cast", "(II)I"⟩ prog_1_method_39_code 4 (Option.some Jvm.ClassFile.FieldType.int) ∈ zGw := zmg (zg4 21 rfl) rfl
theorem zk679 : Cond.code ⟨"BitOff", "count", "(I)I"⟩ prog_1_method_40_code 2 (Option.some Jvm.ClassFile.FieldType.int) ∈ zGw := zmg (zg4 30 rfl) rfl
theorem zk680 : Cond.code ⟨"BitOff", "tape", "(III)I"⟩ prog_1_method_41_code 4 (Option.some Jvm.ClassFile.FieldType.int) ∈ zGw := zmg (zg4 34 rfl) rfl
theorem zk681 : Cond.code ⟨"BitOff", "item", "(IIJ)I"⟩ prog_1_method_42_code 5 (Option.some Jvm.ClassFile.FieldType.int) ∈ zGw := zmg (zg4 42 rfl) rfl
theorem zk682 : Cond.code ⟨"BitOff", "read", "(II)J"⟩ prog_1_method_43_code 3 (Option.some Jvm.ClassFile.FieldType.long) ∈ zGw := zmg (zg4 49 rfl) rfl
theorem zk683 : Cond.code ⟨"BitOff", "shift", "(IIIII)I"⟩ prog_1_method_44_code 6 (Option.some Jvm.ClassFile.FieldType.int) ∈ zGw := zmg (zg4 53 rfl) rfl
theorem zk684 : Cond.code ⟨"BitOff", "isWithin", "(III)Z"⟩ prog_1_method_45_code 3 (Option.some Jvm.ClassFile.FieldType.boolean) ∈ zGw := zmg (zg2 36 rfl) rfl
theorem zk685 : Cond.code ⟨"BitOff", "isSide", "(I)Z"⟩ prog_1_method_46_code 2 (Option.some Jvm.ClassFile.FieldType.boolean) ∈ zGw := zmg (zg2 48 rfl) rfl
theorem zk686 : Cond.code ⟨"BitOff", "takesWhatWasSeen", "()Z"⟩ prog_1_method_47_code 2 (Option.some Jvm.ClassFile.FieldType.boolean) ∈ zGw := zmg (zg3 155 rfl) rfl
theorem zk687 : Cond.code ⟨"BitOff", "lowestTerms", "(III)J"⟩ prog_1_method_48_code 7 (Option.some Jvm.ClassFile.FieldType.long) ∈ zGw := zmg (zg3 167 rfl) rfl
theorem zk688 : Cond.code ⟨"BitOffModel", "<init>", "()V"⟩ prog_9_method_1_code 1 (Option.none : Option Jvm.ClassFile.FieldType) ∈ zGw := zmg (zg4 63 rfl) rfl
theorem zk689 : Cond.code ⟨"BitOffModel", "in", "(III)Z"⟩ prog_9_method_2_code 4 (Option.some Jvm.ClassFile.FieldType.boolean) ∈ zGw := zmg (zg5 30 rfl) rfl
theorem zk690 : Cond.code ⟨"BitOffModel", "isSide", "(I)Z"⟩ prog_9_method_3_code 2 (Option.some Jvm.ClassFile.FieldType.boolean) ∈ zGw := zmg (zg5 42 rfl) rfl
theorem zk691 : Cond.code ⟨"BitOffModel", "isLength", "(I)Z"⟩ prog_9_method_4_code 2 (Option.some Jvm.ClassFile.FieldType.boolean) ∈ zGw := zmg (zg5 34 rfl) rfl
theorem zk692 : Cond.code ⟨"BitOffModel", "side", "(III)I"⟩ prog_9_method_5_code 5 (Option.some Jvm.ClassFile.FieldType.int) ∈ zGw := zmg (zg5 26 rfl) rfl
theorem zk693 : Cond.code ⟨"BitOffModel", "set", "(II)I"⟩ prog_9_method_6_code 4 (Option.some Jvm.ClassFile.FieldType.int) ∈ zGw := zmg (zg5 38 rfl) rfl
theorem zk694 : Cond.code ⟨"BitOffModel", "row", "(III)I"⟩ prog_9_method_7_code 5 (Option.some Jvm.ClassFile.FieldType.int) ∈ zGw := zmg (zg5 46 rfl) rfl
theorem zk695 : Cond.code ⟨"BitOffModel", "feed", "(I)I"⟩ prog_9_method_8_code 2 (Option.some Jvm.ClassFile.FieldType.int) ∈ zGw := zmg (zg5 50 rfl) rfl
theorem zk696 : Cond.code ⟨"BitOffModel", "next", "()I"⟩ prog_9_method_9_code 1 (Option.some Jvm.ClassFile.FieldType.int) ∈ zGw := zmg (zg5 70 rfl) rfl
theorem zk697 : Cond.code ⟨"BitOffModel", "takes", "(I)Z"⟩ prog_9_method_10_code 2 (Option.some Jvm.ClassFile.FieldType.boolean) ∈ zGw := zmg (zg5 82 rfl) rfl
theorem zk698 : Cond.code ⟨"BitOffModel", "takesAlone", "(II)Z"⟩ prog_9_method_11_code 4 (Option.some Jvm.ClassFile.FieldType.boolean) ∈ zGw := zmg (zg5 78 rfl) rfl
theorem zk699 : Cond.code ⟨"BitOffModel", "takesWord", "(II)Z"⟩ prog_9_method_12_code 3 (Option.some Jvm.ClassFile.FieldType.boolean) ∈ zGw := zmg (zg5 74 rfl) rfl
theorem zk700 : Cond.code ⟨"BitOffModel", "isDigit", "()Z"⟩ prog_9_method_13_code 1 (Option.some Jvm.ClassFile.FieldType.boolean) ∈ zGw := zmg (zg5 90 rfl) rfl
theorem zk701 : Cond.code ⟨"BitOffModel", "takesNumber", "()Z"⟩ prog_9_method_14_code 2 (Option.some Jvm.ClassFile.FieldType.boolean) ∈ zGw := zmg (zg5 86 rfl) rfl
theorem zk702 : Cond.code ⟨"BitOffModel", "emits", "(I)V"⟩ prog_9_method_15_code 2 (Option.none : Option Jvm.ClassFile.FieldType) ∈ zGw := zmg (zg5 106 rfl) rfl
theorem zk703 : Cond.code ⟨"BitOffModel", "whole", "()V"⟩ prog_9_method_16_code 1 (Option.none : Option Jvm.ClassFile.FieldType) ∈ zGw := zmg (zg5 110 rfl) rfl
theorem zk704 : Cond.code ⟨"BitOffModel", "settle", "(I)V"⟩ prog_9_method_17_code 2 (Option.none : Option Jvm.ClassFile.FieldType) ∈ zGw := zmg (zg5 114 rfl) rfl
theorem zk705 : Cond.code ⟨"BitOffModel", "place", "(I)I"⟩ prog_9_method_18_code 2 (Option.some Jvm.ClassFile.FieldType.int) ∈ zGw := zmg (zg5 102 rfl) rfl
theorem zk706 : Cond.code ⟨"BitOffModel", "takesTest", "()Z"⟩ prog_9_method_19_code 3 (Option.some Jvm.ClassFile.FieldType.boolean) ∈ zGw := zmg (zg5 98 rfl) rfl
theorem zk707 : Cond.code ⟨"BitOffModel", "takesE", "(I)Z"⟩ prog_9_method_20_code 4 (Option.some Jvm.ClassFile.FieldType.boolean) ∈ zGw := zmg (zg5 94 rfl) rfl
theorem zk708 : Cond.code ⟨"BitOffModel", "takesHead", "(I)Z"⟩ prog_9_method_21_code 2 (Option.some Jvm.ClassFile.FieldType.boolean) ∈ zGw := zmg (zg5 66 rfl) rfl
theorem zk709 : Cond.code ⟨"BitOffModel", "takesClause", "(I)Z"⟩ prog_9_method_22_code 2 (Option.some Jvm.ClassFile.FieldType.boolean) ∈ zGw := zmg (zg5 62 rfl) rfl
theorem zk710 : Cond.code ⟨"BitOffModel", "goesText", "(I)Z"⟩ prog_9_method_23_code 3 (Option.some Jvm.ClassFile.FieldType.boolean) ∈ zGw := zmg (zg5 58 rfl) rfl
theorem zk711 : Cond.code ⟨"BitOffModel", "kitchen", "()I"⟩ prog_9_method_24_code 2 (Option.some Jvm.ClassFile.FieldType.int) ∈ zGw := zmg (zg5 54 rfl) rfl
theorem zk712 : Cond.code ⟨"BitOffModel", "begin", "()I"⟩ prog_9_method_25_code 1 (Option.some Jvm.ClassFile.FieldType.int) ∈ zGw := zmg (zg5 134 rfl) rfl
theorem zk713 : Cond.code ⟨"BitOffModel", "behind", "()I"⟩ prog_9_method_26_code 1 (Option.some Jvm.ClassFile.FieldType.int) ∈ zGw := zmg (zg5 138 rfl) rfl
theorem zk714 : Cond.code ⟨"BitOffModel", "lastOf", "(II)I"⟩ prog_9_method_27_code 5 (Option.some Jvm.ClassFile.FieldType.int) ∈ zGw := zmg (zg5 130 rfl) rfl
theorem zk715 : Cond.code ⟨"BitOffModel", "give", "()I"⟩ prog_9_method_28_code 1 (Option.some Jvm.ClassFile.FieldType.int) ∈ zGw := zmg (zg5 126 rfl) rfl
theorem zk716 : Cond.code ⟨"BitOffModel", "leave", "()I"⟩ prog_9_method_29_code 1 (Option.some Jvm.ClassFile.FieldType.int) ∈ zGw := zmg (zg5 186 rfl) rfl
theorem zk717 : Cond.code ⟨"BitOffModel", "isHalf", "()Z"⟩ prog_9_method_30_code 3 (Option.some Jvm.ClassFile.FieldType.boolean) ∈ zGw := zmg (zg5 190 rfl) rfl
theorem zk718 : Cond.code ⟨"BitOffModel", "factOf", "(II)I"⟩ prog_9_method_31_code 3 (Option.some Jvm.ClassFile.FieldType.int) ∈ zGw := zmg (zg5 158 rfl) rfl
theorem zk719 : Cond.code ⟨"BitOffModel", "holds", "(II)Z"⟩ prog_9_method_32_code 8 (Option.some Jvm.ClassFile.FieldType.boolean) ∈ zGw := zmg (zg5 154 rfl) rfl
theorem zk720 : Cond.code ⟨"BitOffModel", "looks", "(I)I"⟩ prog_9_method_33_code 4 (Option.some Jvm.ClassFile.FieldType.int) ∈ zGw := zmg (zg5 150 rfl) rfl
theorem zk721 : Cond.code ⟨"BitOffModel", "least", "(II)I"⟩ prog_9_method_34_code 3 (Option.some Jvm.ClassFile.FieldType.int) ∈ zGw := zmg (zg5 142 rfl) rfl
theorem zk722 : Cond.code ⟨"BitOffModel", "takenOf", "(II)I"⟩ prog_9_method_35_code 5 (Option.some Jvm.ClassFile.FieldType.int) ∈ zGw := zmg (zg5 122 rfl) rfl
theorem zk723 : Cond.code ⟨"BitOffModel", "growsOf", "(I)I"⟩ prog_9_method_36_code 2 (Option.some Jvm.ClassFile.FieldType.int) ∈ zGw := zmg (zg5 162 rfl) rfl
theorem zk724 : Cond.code ⟨"BitOffModel", "taken", "(II)I"⟩ prog_9_method_37_code 3 (Option.some Jvm.ClassFile.FieldType.int) ∈ zGw := zmg (zg5 118 rfl) rfl
theorem zk725 : Cond.code ⟨"BitOffModel", "of", "(II)I"⟩ prog_9_method_38_code 3 (Option.some Jvm.ClassFile.FieldType.int) ∈ zGw := zmg (zg5 146 rfl) rfl
theorem zk726 : Cond.code ⟨"BitOffModel", "longest", "()I"⟩ prog_9_method_39_code 3 (Option.some Jvm.ClassFile.FieldType.int) ∈ zGw := zmg (zg5 182 rfl) rfl
theorem zk727 : Cond.code ⟨"BitOffModel", "apart", "()I"⟩ prog_9_method_40_code 3 (Option.some Jvm.ClassFile.FieldType.int) ∈ zGw := zmg (zg5 178 rfl) rfl
theorem zk728 : Cond.code ⟨"BitOffModel", "isDone", "()Z"⟩ prog_9_method_41_code 1 (Option.some Jvm.ClassFile.FieldType.boolean) ∈ zGw := zmg (zg5 174 rfl) rfl
theorem zk729 : Cond.code ⟨"BitOffModel", "cuts", "(II)V"⟩ prog_9_method_42_code 3 (Option.none : Option Jvm.ClassFile.FieldType) ∈ zGw := zmg (zg5 194 rfl) rfl
theorem zk730 : Cond.code ⟨"BitOffModel", "goSnip", "()I"⟩ prog_9_method_43_code 3 (Option.some Jvm.ClassFile.FieldType.int) ∈ zGw := zmg (zg5 170 rfl) rfl
theorem zk731 : Cond.code ⟨"BitOffModel", "snip", "()I"⟩ prog_9_method_44_code 1 (Option.some Jvm.ClassFile.FieldType.int) ∈ zGw := zmg (zg5 166 rfl) rfl
theorem zk732 : Cond.code ⟨"BitOffModel", "goDay", "()V"⟩ prog_9_method_45_code 2 (Option.none : Option Jvm.ClassFile.FieldType) ∈ zGw := zmg (zg5 202 rfl) rfl
theorem zk733 : Cond.code ⟨"BitOffModel", "pass", "(I)I"⟩ prog_9_method_46_code 3 (Option.some Jvm.ClassFile.FieldType.int) ∈ zGw := zmg (zg5 198 rfl) rfl
theorem zk734 : Cond.code ⟨"BitOffModel", "offNow", "()I"⟩ prog_9_method_47_code 4 (Option.some Jvm.ClassFile.FieldType.int) ∈ zGw := zmg (zg5 210 rfl) rfl
theorem zk735 : Cond.code ⟨"BitOffModel", "told", "(I)I"⟩ prog_9_method_48_code 2 (Option.some Jvm.ClassFile.FieldType.int) ∈ zGw := zmg (zg5 206 rfl) rfl
theorem zk736 : Cond.code ⟨"BitOffModel", "save", "()V"⟩ prog_9_method_49_code 2 (Option.none : Option Jvm.ClassFile.FieldType) ∈ zGw := zmg (zg5 222 rfl) rfl
theorem zk737 : Cond.code ⟨"BitOffModel", "putBack", "()V"⟩ prog_9_method_50_code 2 (Option.none : Option Jvm.ClassFile.FieldType) ∈ zGw := zmg (zg5 235 rfl) rfl
theorem zk738 : Cond.code ⟨"BitOffModel", "goSnips", "(I)I"⟩ prog_9_method_51_code 5 (Option.some Jvm.ClassFile.FieldType.int) ∈ zGw := zmg (zg5 227 rfl) rfl
theorem zk739 : Cond.code ⟨"BitOffModel", "allOff", "()I"⟩ prog_9_method_52_code 3 (Option.some Jvm.ClassFile.FieldType.int) ∈ zGw := zmg (zg5 231 rfl) rfl
theorem zk740 : Cond.code ⟨"BitOffModel", "isSnips", "(I)Z"⟩ prog_9_method_53_code 2 (Option.some Jvm.ClassFile.FieldType.boolean) ∈ zGw := zmg (zg5 218 rfl) rfl
theorem zk741 : Cond.code ⟨"BitOffModel", "on", "(II)I"⟩ prog_9_method_54_code 5 (Option.some Jvm.ClassFile.FieldType.int) ∈ zGw := zmg (zg5 214 rfl) rfl
theorem zk742 : Cond.code ⟨"BitOffModel", "ends", "()I"⟩ prog_9_method_55_code 2 (Option.some Jvm.ClassFile.FieldType.int) ∈ zGw := zmg (zg5 239 rfl) rfl
theorem zk743 : Cond.code ⟨"BitOffModel", "shortest", "(I)I"⟩ prog_9_method_56_code 5 (Option.some Jvm.ClassFile.FieldType.int) ∈ zGw := zmg (zg6 3 rfl) rfl
theorem zk744 : Cond.code ⟨"BitOffModel", "sides", "(I)I"⟩ prog_9_method_57_code 3 (Option.some Jvm.ClassFile.FieldType.int) ∈ zGw := zmg (zg6 7 rfl) rfl
theorem zk745 : Cond.code ⟨"BitOffModel", "offBehind", "()I"⟩ prog_9_method_58_code 3 (Option.some Jvm.ClassFile.FieldType.int) ∈ zGw := zmg (zg6 15 rfl) rfl
theorem zk746 : Cond.code ⟨"BitOffModel", "leaves", "(I)I"⟩ prog_9_method_59_code 5 (Option.some Jvm.ClassFile.FieldType.int) ∈ zGw := zmg (zg6 11 rfl) rfl
theorem zk747 : Cond.code ⟨"BitOffModel", "halves", "()I"⟩ prog_9_method_60_code 2 (Option.some Jvm.ClassFile.FieldType.int) ∈ zGw := zmg (zg6 19 rfl) rfl
theorem zk748 : Cond.code ⟨"BitOffModel", "first", "(I)I"⟩ prog_9_method_61_code 7 (Option.some Jvm.ClassFile.FieldType.int) ∈ zGw := zmg (zg6 23 rfl) rfl
theorem zk749 : Cond.code ⟨"BitOffModel", "twice", "()I"⟩ prog_9_method_62_code 2 (Option.some Jvm.ClassFile.FieldType.int) ∈ zGw := zmg (zg6 27 rfl) rfl
theorem zk750 : Cond.code ⟨"BitOffModel", "pad", "()I"⟩ prog_9_method_63_code 7 (Option.some Jvm.ClassFile.FieldType.int) ∈ zGw := zmg (zg6 31 rfl) rfl
theorem zk751 : Cond.code ⟨"BitOffModel", "wobble", "()I"⟩ prog_9_method_64_code 1 (Option.some Jvm.ClassFile.FieldType.int) ∈ zGw := zmg (zg6 39 rfl) rfl
theorem zk752 : Cond.code ⟨"BitOffModel", "wobbles", "()I"⟩ prog_9_method_65_code 1 (Option.some Jvm.ClassFile.FieldType.int) ∈ zGw := zmg (zg6 35 rfl) rfl
theorem zk753 : Cond.code ⟨"BitOffModel", "leg", "()I"⟩ prog_9_method_66_code 4 (Option.some Jvm.ClassFile.FieldType.int) ∈ zGw := zmg (zg6 43 rfl) rfl
theorem zk754 : Cond.code ⟨"BitOffModel", "grown", "(I)I"⟩ prog_9_method_67_code 3 (Option.some Jvm.ClassFile.FieldType.int) ∈ zGw := zmg (zg6 47 rfl) rfl
theorem zk755 : Cond.code ⟨"BitOffModel", "reaches", "(II)I"⟩ prog_9_method_68_code 4 (Option.some Jvm.ClassFile.FieldType.int) ∈ zGw := zmg (zg6 51 rfl) rfl
theorem zk756 : Cond.code ⟨"BitOffModel", "see", "(I)I"⟩ prog_9_method_69_code 2 (Option.some Jvm.ClassFile.FieldType.int) ∈ zGw := zmg (zg6 55 rfl) rfl
theorem zk757 : Cond.code ⟨"BitOffModel", "isSeen", "()Z"⟩ prog_9_method_70_code 3 (Option.some Jvm.ClassFile.FieldType.boolean) ∈ zGw := zmg (zg6 63 rfl) rfl
theorem zk758 : Cond.code ⟨"BitOffModel", "was", "(II)I"⟩ prog_9_method_71_code 7 (Option.some Jvm.ClassFile.FieldType.int) ∈ zGw := zmg (zg6 59 rfl) rfl
theorem zk759 : Cond.code ⟨"BitOffModel", "now", "()I"⟩ prog_9_method_72_code 1 (Option.some Jvm.ClassFile.FieldType.int) ∈ zGw := zmg (zg6 67 rfl) rfl
theorem zk760 : Cond.code ⟨"BitOffModel", "divisor", "(II)I"⟩ prog_9_method_73_code 6 (Option.some Jvm.ClassFile.FieldType.int) ∈ zGw := zmg (zg6 80 rfl) rfl
theorem zk761 : Cond.code ⟨"BitOffModel", "lowest", "(III)J"⟩ prog_9_method_74_code 5 (Option.some Jvm.ClassFile.FieldType.long) ∈ zGw := zmg (zg6 76 rfl) rfl
theorem zk762 : Cond.code ⟨"BitOffModel", "odds", "(II)J"⟩ prog_9_method_75_code 5 (Option.some Jvm.ClassFile.FieldType.long) ∈ zGw := zmg (zg6 71 rfl) rfl
theorem zk763 : Cond.code ⟨"BitOffModel", "mean", "(II)J"⟩ prog_9_method_76_code 6 (Option.some Jvm.ClassFile.FieldType.long) ∈ zGw := zmg (zg6 84 rfl) rfl
theorem zk764 : Cond.code ⟨"BitOffModel", "plan", "(I)I"⟩ prog_9_method_77_code 2 (Option.some Jvm.ClassFile.FieldType.int) ∈ zGw := zmg (zg6 88 rfl) rfl
theorem zk765 : Cond.code ⟨"BitOffModel", "planned", "(I)I"⟩ prog_9_method_78_code 4 (Option.some Jvm.ClassFile.FieldType.int) ∈ zGw := zmg (zg6 92 rfl) rfl
theorem zk766 : Cond.code ⟨"BitOffModel", "book", "(II)I"⟩ prog_9_method_79_code 3 (Option.some Jvm.ClassFile.FieldType.int) ∈ zGw := zmg (zg6 96 rfl) rfl
theorem zk767 : Cond.code ⟨"BitOffModel", "looked", "()I"⟩ prog_9_method_80_code 2 (Option.some Jvm.ClassFile.FieldType.int) ∈ zGw := zmg (zg6 100 rfl) rfl
theorem zk768 : Cond.code ⟨"BitOffModel", "judge", "(II)I"⟩ prog_9_method_81_code 4 (Option.some Jvm.ClassFile.FieldType.int) ∈ zGw := zmg (zg6 104 rfl) rfl
theorem zk769 : Cond.code ⟨"BitOffModel", "image", "()I"⟩ prog_9_method_82_code 2 (Option.some Jvm.ClassFile.FieldType.int) ∈ zGw := zmg (zg6 112 rfl) rfl
theorem zk770 : Cond.code ⟨"BitOffModel", "undo", "()I"⟩ prog_9_method_83_code 2 (Option.some Jvm.ClassFile.FieldType.int) ∈ zGw := zmg (zg6 116 rfl) rfl
theorem zk771 : Cond.code ⟨"BitOffModel", "body", "(I)V"⟩ prog_9_method_84_code 2 (Option.none : Option Jvm.ClassFile.FieldType) ∈ zGw := zmg (zg6 128 rfl) rfl
theorem zk772 : Cond.code ⟨"BitOffModel", "sideHangs", "(II)I"⟩ prog_9_method_85_code 3 (Option.some Jvm.ClassFile.FieldType.int) ∈ zGw := zmg (zg6 132 rfl) rfl
theorem zk773 : Cond.code ⟨"BitOffModel", "hangsAct", "(II)I"⟩ prog_9_method_86_code 3 (Option.some Jvm.ClassFile.FieldType.int) ∈ zGw := zmg (zg6 124 rfl) rfl
theorem zk774 : Cond.code ⟨"BitOffModel", "sideFalls", "(II)I"⟩ prog_9_method_87_code 3 (Option.some Jvm.ClassFile.FieldType.int) ∈ zGw := zmg (zg6 144 rfl) rfl
theorem zk775 : Cond.code ⟨"BitOffModel", "springyFalls", "(II)I"⟩ prog_9_method_88_code 3 (Option.some Jvm.ClassFile.FieldType.int) ∈ zGw := zmg (zg6 140 rfl) rfl
theorem zk776 : Cond.code ⟨"BitOffModel", "fallsAct", "(II)I"⟩ prog_9_method_89_code 4 (Option.some Jvm.ClassFile.FieldType.int) ∈ zGw := zmg (zg6 136 rfl) rfl
theorem zk777 : Cond.code ⟨"BitOffModel", "sideTells", "(II)I"⟩ prog_9_method_90_code 3 (Option.some Jvm.ClassFile.FieldType.int) ∈ zGw := zmg (zg6 152 rfl) rfl
theorem zk778 : Cond.code ⟨"BitOffModel", "tellsAct", "(II)I"⟩ prog_9_method_91_code 4 (Option.some Jvm.ClassFile.FieldType.int) ∈ zGw := zmg (zg6 148 rfl) rfl
theorem zk779 : Cond.code ⟨"BitOffModel", "act", "(III)I"⟩ prog_9_method_92_code 4 (Option.some Jvm.ClassFile.FieldType.int) ∈ zGw := zmg (zg6 120 rfl) rfl
theorem zk780 : Cond.code ⟨"BitOffModel", "trace", "(I)I"⟩ prog_9_method_93_code 2 (Option.some Jvm.ClassFile.FieldType.int) ∈ zGw := zmg (zg6 156 rfl) rfl
theorem zk781 : Cond.code ⟨"BitOffModel", "cast", "(II)I"⟩ prog_9_method_94_code 4 (Option.some Jvm.ClassFile.FieldType.int) ∈ zGw := zmg (zg6 160 rfl) rfl
theorem zk782 : Cond.code ⟨"BitOffModel", "count", "(I)I"⟩ prog_9_method_95_code 2 (Option.some Jvm.ClassFile.FieldType.int) ∈ zGw := zmg (zg6 164 rfl) rfl
theorem zk783 : Cond.code ⟨"BitOffModel", "isTape", "(I)Z"⟩ prog_9_method_96_code 2 (Option.some Jvm.ClassFile.FieldType.boolean) ∈ zGw := zmg (zg6 108 rfl) rfl
theorem zk784 : Cond.code ⟨"BitOffModel", "tape", "(III)I"⟩ prog_9_method_97_code 5 (Option.some Jvm.ClassFile.FieldType.int) ∈ zGw := zmg (zg6 168 rfl) rfl
theorem zk785 : Cond.code ⟨"BitOffModel", "narrow", "(IJ)J"⟩ prog_9_method_98_code 4 (Option.some Jvm.ClassFile.FieldType.long) ∈ zGw := zmg (zg6 176 rfl) rfl
theorem zk786 : Cond.code ⟨"BitOffModel", "item", "(IIJ)I"⟩ prog_9_method_99_code 5 (Option.some Jvm.ClassFile.FieldType.int) ∈ zGw := zmg (zg6 172 rfl) rfl
theorem zk787 : Cond.code ⟨"BitOffModel", "read", "(II)J"⟩ prog_9_method_100_code 3 (Option.some Jvm.ClassFile.FieldType.long) ∈ zGw := zmg (zg6 180 rfl) rfl
theorem zk788 : Cond.code ⟨"BitOffModel", "shift", "(IIIII)I"⟩ prog_9_method_101_code 7 (Option.some Jvm.ClassFile.FieldType.int) ∈ zGw := zmg (zg6 184 rfl) rfl
theorem zk789 : Cond.initialized "java/lang/String" ∈ zGw := zmg (zg1 10 rfl) rfl
theorem zk790 : Cond.code ⟨"java/lang/String", "checkIndex", "(II)V"⟩ prog_12_method_155_code 2 (Option.none : Option Jvm.ClassFile.FieldType) ∈ zGw := zmg (zg2 136 rfl) rfl
theorem zk791 : Cond.code ⟨"java/lang/String", "length", "()I"⟩ prog_12_method_54_code 1 (Option.some Jvm.ClassFile.FieldType.int) ∈ zGw := zmg (zg2 116 rfl) rfl
theorem zk792 : Cond.code ⟨"java/lang/String", "coder", "()B"⟩ prog_12_method_152_code 1 (Option.some Jvm.ClassFile.FieldType.byte) ∈ zGw := zmg (zg2 120 rfl) rfl
theorem zk793 : Cond.code ⟨"java/lang/String", "charAt", "(I)C"⟩ prog_12_method_56_code 2 (Option.some Jvm.ClassFile.FieldType.char) ∈ zGw := zmg (zg2 126 rfl) rfl
theorem zk794 : Cond.code ⟨"java/lang/String", "isLatin1", "()Z"⟩ prog_12_method_154_code 1 (Option.some Jvm.ClassFile.FieldType.boolean) ∈ zGw := zmg (zg2 130 rfl) rfl
theorem zk795 : Cond.initialized "java/lang/StringLatin1" ∈ zGw := zmg (zg1 11 rfl) rfl
theorem zk796 : Cond.code ⟨"java/lang/StringLatin1", "charAt", "([BI)C"⟩ prog_13_method_2_code 2 (Option.some Jvm.ClassFile.FieldType.char) ∈ zGw := zmg (zg2 133 rfl) rfl
theorem zk797 : Cond.code ⟨"java/lang/String", "indexOf", "(I)I"⟩ prog_12_method_79_code 2 (Option.some Jvm.ClassFile.FieldType.int) ∈ zGw := zmg (zg2 193 rfl) rfl
theorem zk798 : Cond.code ⟨"java/lang/String", "indexOf", "(II)I"⟩ prog_12_method_80_code 3 (Option.some Jvm.ClassFile.FieldType.int) ∈ zGw := zmg (zg2 197 rfl) rfl
theorem zk799 : Cond.code ⟨"java/lang/StringLatin1", "indexOf", "([BIII)I"⟩ prog_13_method_22_code 4 (Option.some Jvm.ClassFile.FieldType.int) ∈ zGw := zmg (zg2 201 rfl) rfl
theorem zk800 : Cond.code ⟨"java/lang/StringLatin1", "canEncode", "(I)Z"⟩ prog_13_method_4_code 1 (Option.some Jvm.ClassFile.FieldType.boolean) ∈ zGw := zmg (zg2 204 rfl) rfl
theorem zk801 : Cond.code ⟨"java/lang/StringLatin1", "indexOfChar", "([BIII)I"⟩ prog_13_method_23_code 6 (Option.some Jvm.ClassFile.FieldType.int) ∈ zGw := zmg (zg2 211 rfl) rfl
theorem zq_0 : Cond.methodLinkNest "BitOff$Reader" 21 ⟨"BitOff$Kitchen", "empty", "()V"⟩ "BitOff" ∈ zNst := zmn (zg2 100 rfl) rfl
theorem zq_1 : Cond.fieldLinkNest "BitOff$Reader" 55 "BitOff$Kitchen" "give" "I" "BitOff" ∈ zNst := zmn (zg1 37 rfl) rfl
theorem zq_2 : Cond.fieldLinkNest "BitOff$Reader" 60 "BitOff$Kitchen" "leave" "I" "BitOff" ∈ zNst := zmn (zg1 40 rfl) rfl
theorem zq_3 : Cond.fieldLinkNest "BitOff$Reader" 63 "BitOff$Kitchen" "half" "Z" "BitOff" ∈ zNst := zmn (zg1 43 rfl) rfl
theorem zq_4 : Cond.methodLinkNest "BitOff$Reader" 73 ⟨"BitOff$Kitchen", "addJudgement", "(I)V"⟩ "BitOff" ∈ zNst := zmn (zg3 8 rfl) rfl
theorem zq_5 : Cond.methodLinkNest "BitOff$Reader" 80 ⟨"BitOff$Kitchen", "addCode", "(I)V"⟩ "BitOff" ∈ zNst := zmn (zg2 181 rfl) rfl
theorem zq_6 : Cond.fieldLinkNest "BitOff$Table" 36 "BitOff$Kitchen" "give" "I" "BitOff" ∈ zNst := zmn (zg1 36 rfl) rfl
theorem zq_7 : Cond.fieldLinkNest "BitOff$Table" 41 "BitOff$Kitchen" "leave" "I" "BitOff" ∈ zNst := zmn (zg1 39 rfl) rfl
theorem zq_8 : Cond.fieldLinkNest "BitOff$Table" 45 "BitOff$Kitchen" "half" "Z" "BitOff" ∈ zNst := zmn (zg1 41 rfl) rfl
theorem zq_9 : Cond.methodLinkNest "BitOff$Table" 71 ⟨"BitOff$Kitchen", "misjudged", "([I)I"⟩ "BitOff" ∈ zNst := zmn (zg2 53 rfl) rfl
theorem zq_10 : Cond.methodLinkNest "BitOff" 11 ⟨"BitOff$Kitchen", "<init>", "()V"⟩ "BitOff" ∈ zNst := zmn (zg1 26 rfl) rfl
theorem zq_11 : Cond.methodLinkNest "BitOff" 14 ⟨"BitOff$Table", "<init>", "(LBitOff$Kitchen;)V"⟩ "BitOff" ∈ zNst := zmn (zg1 64 rfl) rfl
theorem zq_12 : Cond.methodLinkNest "BitOff" 31 ⟨"BitOff$Notes", "<init>", "()V"⟩ "BitOff" ∈ zNst := zmn (zg1 132 rfl) rfl
theorem zq_13 : Cond.methodLinkNest "BitOff" 45 ⟨"BitOff$Reader", "<init>", "()V"⟩ "BitOff" ∈ zNst := zmn (zg1 168 rfl) rfl
theorem zq_14 : Cond.methodLinkNest "BitOff" 52 ⟨"BitOff$Acts", "<init>", "()V"⟩ "BitOff" ∈ zNst := zmn (zg1 190 rfl) rfl
theorem zq_15 : Cond.methodLinkNest "BitOff" 59 ⟨"BitOff$Tapes", "<init>", "()V"⟩ "BitOff" ∈ zNst := zmn (zg1 217 rfl) rfl
theorem zq_16 : Cond.fieldLinkNest "BitOff" 68 "BitOff$Table" "people" "I" "BitOff" ∈ zNst := zmn (zg1 68 rfl) rfl
theorem zq_17 : Cond.methodLinkNest "BitOff" 72 ⟨"BitOff$Table", "join", "(III)I"⟩ "BitOff" ∈ zNst := zmn (zg2 37 rfl) rfl
theorem zq_18 : Cond.fieldLinkNest "BitOff" 80 "BitOff$Table" "kinds" "[I" "BitOff" ∈ zNst := zmn (zg1 71 rfl) rfl
theorem zq_19 : Cond.fieldLinkNest "BitOff" 84 "BitOff$Table" "numbers" "[I" "BitOff" ∈ zNst := zmn (zg1 73 rfl) rfl
theorem zq_20 : Cond.fieldLinkNest "BitOff" 87 "BitOff$Table" "lengths" "[I" "BitOff" ∈ zNst := zmn (zg1 75 rfl) rfl
theorem zq_21 : Cond.fieldLinkNest "BitOff" 90 "BitOff$Table" "cuts" "[I" "BitOff" ∈ zNst := zmn (zg1 77 rfl) rfl
theorem zq_22 : Cond.methodLinkNest "BitOff" 93 ⟨"BitOff$Table", "looksOf", "(I)I"⟩ "BitOff" ∈ zNst := zmn (zg2 49 rfl) rfl
theorem zq_23 : Cond.methodLinkNest "BitOff" 97 ⟨"BitOff$Table", "growsBy", "(I)I"⟩ "BitOff" ∈ zNst := zmn (zg2 61 rfl) rfl
theorem zq_24 : Cond.methodLinkNest "BitOff" 100 ⟨"BitOff$Table", "takenBy", "(II)I"⟩ "BitOff" ∈ zNst := zmn (zg2 69 rfl) rfl
theorem zq_25 : Cond.fieldLinkNest "BitOff" 104 "BitOff$Table" "rows" "[I" "BitOff" ∈ zNst := zmn (zg1 79 rfl) rfl
theorem zq_26 : Cond.methodLinkNest "BitOff" 107 ⟨"BitOff$Reader", "append", "(I)Z"⟩ "BitOff" ∈ zNst := zmn (zg2 88 rfl) rfl
theorem zq_27 : Cond.fieldLinkNest "BitOff" 110 "BitOff$Reader" "length" "I" "BitOff" ∈ zNst := zmn (zg1 174 rfl) rfl
theorem zq_28 : Cond.methodLinkNest "BitOff" 116 ⟨"BitOff$Reader", "readsAll", "(LBitOff$Kitchen;)Z"⟩ "BitOff" ∈ zNst := zmn (zg2 96 rfl) rfl
theorem zq_29 : Cond.fieldLinkNest "BitOff" 120 "BitOff$Reader" "at" "I" "BitOff" ∈ zNst := zmn (zg1 176 rfl) rfl
theorem zq_30 : Cond.methodLinkNest "BitOff" 123 ⟨"BitOff$Table", "follow", "(LBitOff$Kitchen;)V"⟩ "BitOff" ∈ zNst := zmn (zg3 17 rfl) rfl
theorem zq_31 : Cond.fieldLinkNest "BitOff" 126 "BitOff$Table" "snips" "I" "BitOff" ∈ zNst := zmn (zg1 81 rfl) rfl
theorem zq_32 : Cond.fieldLinkNest "BitOff" 129 "BitOff$Table" "days" "I" "BitOff" ∈ zNst := zmn (zg1 83 rfl) rfl
theorem zq_33 : Cond.fieldLinkNest "BitOff" 132 "BitOff$Table" "give" "I" "BitOff" ∈ zNst := zmn (zg1 86 rfl) rfl
theorem zq_34 : Cond.fieldLinkNest "BitOff" 135 "BitOff$Table" "leave" "I" "BitOff" ∈ zNst := zmn (zg1 88 rfl) rfl
theorem zq_35 : Cond.fieldLinkNest "BitOff" 138 "BitOff$Table" "half" "Z" "BitOff" ∈ zNst := zmn (zg1 90 rfl) rfl
theorem zq_36 : Cond.methodLinkNest "BitOff" 142 ⟨"BitOff$Table", "spread", "()I"⟩ "BitOff" ∈ zNst := zmn (zg3 25 rfl) rfl
theorem zq_37 : Cond.methodLinkNest "BitOff" 146 ⟨"BitOff$Table", "isDone", "()Z"⟩ "BitOff" ∈ zNst := zmn (zg3 38 rfl) rfl
theorem zq_38 : Cond.methodLinkNest "BitOff" 150 ⟨"BitOff$Table", "cutLongest", "()I"⟩ "BitOff" ∈ zNst := zmn (zg3 51 rfl) rfl
theorem zq_39 : Cond.methodLinkNest "BitOff" 153 ⟨"BitOff$Table", "growADay", "()V"⟩ "BitOff" ∈ zNst := zmn (zg3 65 rfl) rfl
theorem zq_40 : Cond.methodLinkNest "BitOff" 156 ⟨"BitOff$Table", "copyFrom", "(LBitOff$Table;)V"⟩ "BitOff" ∈ zNst := zmn (zg3 74 rfl) rfl
theorem zq_41 : Cond.methodLinkNest "BitOff" 160 ⟨"BitOff$Table", "cutTimes", "(I)I"⟩ "BitOff" ∈ zNst := zmn (zg3 81 rfl) rfl
theorem zq_42 : Cond.fieldLinkNest "BitOff" 163 "BitOff$Table" "cutMore" "I" "BitOff" ∈ zNst := zmn (zg1 96 rfl) rfl
theorem zq_43 : Cond.methodLinkNest "BitOff" 166 ⟨"BitOff$Table", "leastLong", "()I"⟩ "BitOff" ∈ zNst := zmn (zg3 95 rfl) rfl
theorem zq_44 : Cond.methodLinkNest "BitOff" 170 ⟨"BitOff$Table", "gapSeen", "()I"⟩ "BitOff" ∈ zNst := zmn (zg3 105 rfl) rfl
theorem zq_45 : Cond.methodLinkNest "BitOff" 173 ⟨"BitOff$Table", "cutOff", "(II)V"⟩ "BitOff" ∈ zNst := zmn (zg3 114 rfl) rfl
theorem zq_46 : Cond.fieldLinkNest "BitOff" 180 "BitOff$Notes" "seenRows" "I" "BitOff" ∈ zNst := zmn (zg1 139 rfl) rfl
theorem zq_47 : Cond.methodLinkNest "BitOff" 183 ⟨"BitOff$Notes", "addSeen", "(I)Z"⟩ "BitOff" ∈ zNst := zmn (zg3 144 rfl) rfl
theorem zq_48 : Cond.methodLinkNest "BitOff" 195 ⟨"BitOff$Table", "allLong", "()I"⟩ "BitOff" ∈ zNst := zmn (zg3 172 rfl) rfl
theorem zq_49 : Cond.fieldLinkNest "BitOff" 198 "BitOff$Notes" "planRows" "I" "BitOff" ∈ zNst := zmn (zg1 143 rfl) rfl
theorem zq_50 : Cond.methodLinkNest "BitOff" 201 ⟨"BitOff$Notes", "addPlan", "(I)Z"⟩ "BitOff" ∈ zNst := zmn (zg3 180 rfl) rfl
theorem zq_51 : Cond.fieldLinkNest "BitOff" 204 "BitOff$Notes" "planSteps" "[I" "BitOff" ∈ zNst := zmn (zg1 141 rfl) rfl
theorem zq_52 : Cond.fieldLinkNest "BitOff" 207 "BitOff$Notes" "bookRows" "I" "BitOff" ∈ zNst := zmn (zg1 149 rfl) rfl
theorem zq_53 : Cond.methodLinkNest "BitOff" 210 ⟨"BitOff$Notes", "addBook", "(II)Z"⟩ "BitOff" ∈ zNst := zmn (zg3 192 rfl) rfl
theorem zq_54 : Cond.fieldLinkNest "BitOff" 214 "BitOff$Notes" "bookSides" "[I" "BitOff" ∈ zNst := zmn (zg1 145 rfl) rfl
theorem zq_55 : Cond.fieldLinkNest "BitOff" 217 "BitOff$Notes" "bookLengths" "[I" "BitOff" ∈ zNst := zmn (zg1 147 rfl) rfl
theorem zq_56 : Cond.methodLinkNest "BitOff" 220 ⟨"BitOff$Tapes", "isTape", "(I)Z"⟩ "BitOff" ∈ zNst := zmn (zg3 204 rfl) rfl
theorem zq_57 : Cond.methodLinkNest "BitOff" 223 ⟨"BitOff$Tapes", "holds", "(I)Z"⟩ "BitOff" ∈ zNst := zmn (zg3 208 rfl) rfl
theorem zq_58 : Cond.fieldLinkNest "BitOff" 226 "BitOff$Tapes" "sorts" "[I" "BitOff" ∈ zNst := zmn (zg1 224 rfl) rfl
theorem zq_59 : Cond.methodLinkNest "BitOff" 229 ⟨"BitOff$Tapes", "isPlace", "(IJ)Z"⟩ "BitOff" ∈ zNst := zmn (zg3 212 rfl) rfl
theorem zq_60 : Cond.fieldLinkNest "BitOff" 233 "BitOff$Tapes" "rows" "[[J" "BitOff" ∈ zNst := zmn (zg1 227 rfl) rfl
theorem zq_61 : Cond.methodLinkNest "BitOff" 236 ⟨"BitOff$Notes", "copyFrom", "(LBitOff$Notes;)V"⟩ "BitOff" ∈ zNst := zmn (zg3 221 rfl) rfl
theorem zq_62 : Cond.fieldLinkNest "BitOff" 242 "BitOff$Acts" "ran" "I" "BitOff" ∈ zNst := zmn (zg1 197 rfl) rfl
theorem zq_63 : Cond.fieldLinkNest "BitOff" 245 "BitOff$Acts" "kind" "I" "BitOff" ∈ zNst := zmn (zg1 199 rfl) rfl
theorem zq_64 : Cond.fieldLinkNest "BitOff" 248 "BitOff$Acts" "v" "I" "BitOff" ∈ zNst := zmn (zg1 201 rfl) rfl
theorem zq_65 : Cond.fieldLinkNest "BitOff" 251 "BitOff$Acts" "number" "I" "BitOff" ∈ zNst := zmn (zg1 203 rfl) rfl
theorem zq_66 : Cond.methodLinkNest "BitOff" 254 ⟨"BitOff$Acts", "perform", "(II)I"⟩ "BitOff" ∈ zNst := zmn (zg3 234 rfl) rfl
theorem zq_67 : Cond.fieldLinkNest "BitOff" 257 "BitOff$Acts" "bodies" "[I" "BitOff" ∈ zNst := zmn (zg1 195 rfl) rfl
theorem zq_68 : Cond.methodLinkNest "BitOff" 260 ⟨"BitOff$Table", "isOfKind", "(II)Z"⟩ "BitOff" ∈ zNst := zmn (zg4 22 rfl) rfl
theorem zq_69 : Cond.methodLinkNest "BitOff" 263 ⟨"BitOff$Tapes", "makeRow", "(III)V"⟩ "BitOff" ∈ zNst := zmn (zg4 35 rfl) rfl
theorem zq_70 : Cond.methodLinkNest "BitOff" 267 ⟨"BitOff$Tapes", "fitted", "(IJ)J"⟩ "BitOff" ∈ zNst := zmn (zg4 43 rfl) rfl
theorem zq_71 : Cond.methodLinkNest "BitOff" 271 ⟨"BitOff$Tapes", "isStretch", "(III)Z"⟩ "BitOff" ∈ zNst := zmn (zg4 54 rfl) rfl
theorem zq_72 : Cond.fieldLinkNest "BitOff" 280 "BitOff$Table" "lastTaken" "I" "BitOff" ∈ zNst := zmn (zg1 94 rfl) rfl
theorem zq_73 : Cond.fieldLinkNest "BitOff" 283 "BitOff$Notes" "seen" "[I" "BitOff" ∈ zNst := zmn (zg1 137 rfl) rfl
theorem zin0 : ∀ w ∈ u_ws RX0 TX0 5, w ∈ zGw := by decide +kernel
theorem zkl0 : zKls 0 RX0 TX0 5 tyX0 := ⟨rfl, zin0, tyX0_ok, nmX0⟩
theorem zdf0 : ∀ j, j < 5 → defaultValue (tyX0 j) = (if zfr 0 j = true then .null else .int 0) := by decide +kernel
theorem zrv0 : zRv 0 "BitOff$Acts" := Or.inr ⟨by decide, _, _, _, zkl0⟩
theorem zin1 : ∀ w ∈ u_ws RX1 TX1 8, w ∈ zGw := by decide +kernel
theorem zkl1 : zKls 1 RX1 TX1 8 tyX1 := ⟨rfl, zin1, tyX1_ok, nmX1⟩
theorem zdf1 : ∀ j, j < 8 → defaultValue (tyX1 j) = (if zfr 1 j = true then .null else .int 0) := by decide +kernel
theorem zrv1 : zRv 1 "BitOff$Kitchen" := Or.inr ⟨by decide, _, _, _, zkl1⟩
theorem zin2 : ∀ w ∈ u_ws RX2 TX2 7, w ∈ zGw := by decide +kernel
theorem zkl2 : zKls 2 RX2 TX2 7 tyX2 := ⟨rfl, zin2, tyX2_ok, nmX2⟩
theorem zdf2 : ∀ j, j < 7 → defaultValue (tyX2 j) = (if zfr 2 j = true then .null else .int 0) := by decide +kernel
theorem zrv2 : zRv 2 "BitOff$Notes" := Or.inr ⟨by decide, _, _, _, zkl2⟩
theorem zin3 : ∀ w ∈ u_ws RX3 TX3 4, w ∈ zGw := by decide +kernel
theorem zkl3 : zKls 3 RX3 TX3 4 tyX3 := ⟨rfl, zin3, tyX3_ok, nmX3⟩
theorem zdf3 : ∀ j, j < 4 → defaultValue (tyX3 j) = (if zfr 3 j = true then .null else .int 0) := by decide +kernel
theorem zrv3 : zRv 3 "BitOff$Reader" := Or.inr ⟨by decide, _, _, _, zkl3⟩
theorem zin4 : ∀ w ∈ u_ws RX4 TX4 16, w ∈ zGw := by decide +kernel
theorem zkl4 : zKls 4 RX4 TX4 16 tyX4 := ⟨rfl, zin4, tyX4_ok, nmX4⟩
theorem zdf4 : ∀ j, j < 16 → defaultValue (tyX4 j) = (if zfr 4 j = true then .null else .int 0) := by decide +kernel
theorem zrv4 : zRv 4 "BitOff$Table" := Or.inr ⟨by decide, _, _, _, zkl4⟩
theorem zin5 : ∀ w ∈ u_ws RX5 TX5 3, w ∈ zGw := by decide +kernel
theorem zkl5 : zKls 5 RX5 TX5 3 tyX5 := ⟨rfl, zin5, tyX5_ok, nmX5⟩
theorem zdf5 : ∀ j, j < 3 → defaultValue (tyX5 j) = (if zfr 5 j = true then .null else .int 0) := by decide +kernel
theorem zrv5 : zRv 5 "BitOff$Tapes" := Or.inr ⟨by decide, _, _, _, zkl5⟩
theorem zin6 : ∀ w ∈ u_ws RX6 TX6 11, w ∈ zGw := by decide +kernel
theorem zkl6 : zKls 6 RX6 TX6 11 tyX6 := ⟨rfl, zin6, tyX6_ok, nmX6⟩
theorem zdf6 : ∀ j, j < 11 → defaultValue (tyX6 j) = (if zfr 6 j = true then .null else .int 0) := by decide +kernel
theorem zrv6 : zRv 6 "BitOff" := Or.inr ⟨by decide, _, _, _, zkl6⟩
theorem zin7 : ∀ w ∈ u_ws RX7 TX7 65, w ∈ zGw := by decide +kernel
theorem zkl7 : zKls 7 RX7 TX7 65 tyX7 := ⟨rfl, zin7, tyX7_ok, nmX7⟩
theorem zdf7 : ∀ j, j < 65 → defaultValue (tyX7 j) = (if zfr 7 j = true then .null else .int 0) := by decide +kernel
theorem zrv7 : zRv 7 "BitOffModel" := Or.inr ⟨by decide, _, _, _, zkl7⟩
theorem zrv8 : zRv 8 "java/lang/String" := Or.inl ⟨rfl, rfl⟩
theorem zmy0 : zMy 0 0 := ⟨zk104, zk587, ⟨by decide +kernel, by decide +kernel, by decide +kernel⟩, by decide⟩
theorem zmy1 : zMy 1 2 := ⟨zk104, zk588, ⟨by decide +kernel, by decide +kernel, by decide +kernel⟩, by decide⟩
theorem zse1 {s : State} : ∀ (args : Array Value), (∀ w ∈ zGw, w.before args s = true) → (Cond.selects (znm 1).cls (znm 1) (znm 1)).before args s = true := fun _ h => h _ (zmg (zg0 40 rfl) rfl)
theorem zmy2 : zMy 2 1 := ⟨zk104, zk589, ⟨by decide +kernel, by decide +kernel, by decide +kernel⟩, by decide⟩
theorem zse2 {s : State} : ∀ (args : Array Value), (∀ w ∈ zGw, w.before args s = true) → (Cond.selects (znm 2).cls (znm 2) (znm 2)).before args s = true := fun _ h => h _ (zmg (zg0 42 rfl) rfl)
theorem zmy3 : zMy 3 3 := ⟨zk104, zk590, ⟨by decide +kernel, by decide +kernel, by decide +kernel⟩, by decide⟩
theorem zse3 {s : State} : ∀ (args : Array Value), (∀ w ∈ zGw, w.before args s = true) → (Cond.selects (znm 3).cls (znm 3) (znm 3)).before args s = true := fun _ h => h _ (zmg (zg0 41 rfl) rfl)
theorem zmy4 : zMy 4 3 := ⟨zk104, zk591, ⟨by decide +kernel, by decide +kernel, by decide +kernel⟩, by decide⟩
theorem zse4 {s : State} : ∀ (args : Array Value), (∀ w ∈ zGw, w.before args s = true) → (Cond.selects (znm 4).cls (znm 4) (znm 4)).before args s = true := fun _ h => h _ (zmg (zg0 43 rfl) rfl)
theorem zmy5 : zMy 5 3 := ⟨zk104, zk592, ⟨by decide +kernel, by decide +kernel, by decide +kernel⟩, by decide⟩
theorem zse5 {s : State} : ∀ (args : Array Value), (∀ w ∈ zGw, w.before args s = true) → (Cond.selects (znm 5).cls (znm 5) (znm 5)).before args s = true := fun _ h => h _ (zmg (zg0 44 rfl) rfl)
theorem zmy6 : zMy 6 0 := ⟨zk85, zk593, ⟨by decide +kernel, by decide +kernel, by decide +kernel⟩, by decide⟩
theorem zmy7 : zMy 7 0 := ⟨zk85, zk594, ⟨by decide +kernel, by decide +kernel, by decide +kernel⟩, by decide⟩
theorem zse7 {s : State} : ∀ (args : Array Value), (∀ w ∈ zGw, w.before args s = true) → (Cond.selects (znm 7).cls (znm 7) (znm 7)).before args s = true := fun _ h => h _ (zmg (zg0 9 rfl) rfl)
theorem zmy8 : zMy 8 1 := ⟨zk85, zk595, ⟨by decide +kernel, by decide +kernel, by decide +kernel⟩, by decide⟩
theorem zse8 {s : State} : ∀ (args : Array Value), (∀ w ∈ zGw, w.before args s = true) → (Cond.selects (znm 8).cls (znm 8) (znm 8)).before args s = true := fun _ h => h _ (zmg (zg0 17 rfl) rfl)
theorem zmy9 : zMy 9 1 := ⟨zk85, zk596, ⟨by decide +kernel, by decide +kernel, by decide +kernel⟩, by decide⟩
theorem zse9 {s : State} : ∀ (args : Array Value), (∀ w ∈ zGw, w.before args s = true) → (Cond.selects (znm 9).cls (znm 9) (znm 9)).before args s = true := fun _ h => h _ (zmg (zg0 19 rfl) rfl)
theorem zmy10 : zMy 10 1 := ⟨zk85, zk597, ⟨by decide +kernel, by decide +kernel, by decide +kernel⟩, by decide⟩
theorem zse10 {s : State} : ∀ (args : Array Value), (∀ w ∈ zGw, w.before args s = true) → (Cond.selects (znm 10).cls (znm 10) (znm 10)).before args s = true := fun _ h => h _ (zmg (zg0 3 rfl) rfl)
theorem zmy11 : zMy 11 3 := ⟨zk85, zk598, ⟨by decide +kernel, by decide +kernel, by decide +kernel⟩, by decide⟩
theorem zse11 {s : State} : ∀ (args : Array Value), (∀ w ∈ zGw, w.before args s = true) → (Cond.selects (znm 11).cls (znm 11) (znm 11)).before args s = true := fun _ h => h _ (zmg (zg0 4 rfl) rfl)
theorem zmy12 : zMy 12 0 := ⟨zk94, zk599, ⟨by decide +kernel, by decide +kernel, by decide +kernel⟩, by decide⟩
theorem zmy13 : zMy 13 1 := ⟨zk94, zk600, ⟨by decide +kernel, by decide +kernel, by decide +kernel⟩, by decide⟩
theorem zse13 {s : State} : ∀ (args : Array Value), (∀ w ∈ zGw, w.before args s = true) → (Cond.selects (znm 13).cls (znm 13) (znm 13)).before args s = true := fun _ h => h _ (zmg (zg0 39 rfl) rfl)
theorem zmy14 : zMy 14 1 := ⟨zk94, zk601, ⟨by decide +kernel, by decide +kernel, by decide +kernel⟩, by decide⟩
theorem zse14 {s : State} : ∀ (args : Array Value), (∀ w ∈ zGw, w.before args s = true) → (Cond.selects (znm 14).cls (znm 14) (znm 14)).before args s = true := fun _ h => h _ (zmg (zg0 31 rfl) rfl)
theorem zmy15 : zMy 15 1 := ⟨zk94, zk602, ⟨by decide +kernel, by decide +kernel, by decide +kernel⟩, by decide⟩
theorem zse15 {s : State} : ∀ (args : Array Value), (∀ w ∈ zGw, w.before args s = true) → (Cond.selects (znm 15).cls (znm 15) (znm 15)).before args s = true := fun _ h => h _ (zmg (zg0 34 rfl) rfl)
theorem zmy16 : zMy 16 2 := ⟨zk94, zk603, ⟨by decide +kernel, by decide +kernel, by decide +kernel⟩, by decide⟩
theorem zse16 {s : State} : ∀ (args : Array Value), (∀ w ∈ zGw, w.before args s = true) → (Cond.selects (znm 16).cls (znm 16) (znm 16)).before args s = true := fun _ h => h _ (zmg (zg0 35 rfl) rfl)
theorem zmy17 : zMy 17 0 := ⟨zk100, zk604, ⟨by decide +kernel, by decide +kernel, by decide +kernel⟩, by decide⟩
theorem zmy18 : zMy 18 1 := ⟨zk100, zk605, ⟨by decide +kernel, by decide +kernel, by decide +kernel⟩, by decide⟩
theorem zse18 {s : State} : ∀ (args : Array Value), (∀ w ∈ zGw, w.before args s = true) → (Cond.selects (znm 18).cls (znm 18) (znm 18)).before args s = true := fun _ h => h _ (zmg (zg0 7 rfl) rfl)
theorem zmy19 : zMy 19 1 := ⟨zk100, zk606, ⟨by decide +kernel, by decide +kernel, by decide +kernel⟩, by decide⟩
theorem zse19 {s : State} : ∀ (args : Array Value), (∀ w ∈ zGw, w.before args s = true) → (Cond.selects (znm 19).cls (znm 19) (znm 19)).before args s = true := fun _ h => h _ (zmg (zg0 8 rfl) rfl)
theorem zmy20 : zMy 20 0 := ⟨zk100, zk607, ⟨by decide +kernel, by decide +kernel, by decide +kernel⟩, by decide⟩
theorem zse20 {s : State} : ∀ (args : Array Value), (∀ w ∈ zGw, w.before args s = true) → (Cond.selects (znm 20).cls (znm 20) (znm 20)).before args s = true := fun _ h => h _ (zmg (zg0 10 rfl) rfl)
theorem zmy21 : zMy 21 1 := ⟨zk100, zk608, ⟨by decide +kernel, by decide +kernel, by decide +kernel⟩, by decide⟩
theorem zse21 {s : State} : ∀ (args : Array Value), (∀ w ∈ zGw, w.before args s = true) → (Cond.selects (znm 21).cls (znm 21) (znm 21)).before args s = true := fun _ h => h _ (zmg (zg0 13 rfl) rfl)
theorem zmy22 : zMy 22 1 := ⟨zk100, zk609, ⟨by decide +kernel, by decide +kernel, by decide +kernel⟩, by decide⟩
theorem zse22 {s : State} : ∀ (args : Array Value), (∀ w ∈ zGw, w.before args s = true) → (Cond.selects (znm 22).cls (znm 22) (znm 22)).before args s = true := fun _ h => h _ (zmg (zg0 15 rfl) rfl)
theorem zmy23 : zMy 23 1 := ⟨zk100, zk610, ⟨by decide +kernel, by decide +kernel, by decide +kernel⟩, by decide⟩
theorem zse23 {s : State} : ∀ (args : Array Value), (∀ w ∈ zGw, w.before args s = true) → (Cond.selects (znm 23).cls (znm 23) (znm 23)).before args s = true := fun _ h => h _ (zmg (zg0 16 rfl) rfl)
theorem zmy24 : zMy 24 0 := ⟨zk100, zk611, ⟨by decide +kernel, by decide +kernel, by decide +kernel⟩, by decide⟩
theorem zse24 {s : State} : ∀ (args : Array Value), (∀ w ∈ zGw, w.before args s = true) → (Cond.selects (znm 24).cls (znm 24) (znm 24)).before args s = true := fun _ h => h _ (zmg (zg0 14 rfl) rfl)
theorem zmy25 : zMy 25 1 := ⟨zk100, zk612, ⟨by decide +kernel, by decide +kernel, by decide +kernel⟩, by decide⟩
theorem zse25 {s : State} : ∀ (args : Array Value), (∀ w ∈ zGw, w.before args s = true) → (Cond.selects (znm 25).cls (znm 25) (znm 25)).before args s = true := fun _ h => h _ (zmg (zg0 12 rfl) rfl)
theorem zmy26 : zMy 26 1 := ⟨zk100, zk613, ⟨by decide +kernel, by decide +kernel, by decide +kernel⟩, by decide⟩
theorem zse26 {s : State} : ∀ (args : Array Value), (∀ w ∈ zGw, w.before args s = true) → (Cond.selects (znm 26).cls (znm 26) (znm 26)).before args s = true := fun _ h => h _ (zmg (zg0 11 rfl) rfl)
theorem zmy27 : zMy 27 1 := ⟨zk100, zk614, ⟨by decide +kernel, by decide +kernel, by decide +kernel⟩, by decide⟩
theorem zse27 {s : State} : ∀ (args : Array Value), (∀ w ∈ zGw, w.before args s = true) → (Cond.selects (znm 27).cls (znm 27) (znm 27)).before args s = true := fun _ h => h _ (zmg (zg0 18 rfl) rfl)
theorem zmy28 : zMy 28 1 := ⟨zk88, zk615, ⟨by decide +kernel, by decide +kernel, by decide +kernel⟩, by decide⟩
theorem zmy29 : zMy 29 1 := ⟨zk88, zk616, ⟨by decide +kernel, by decide +kernel, by decide +kernel⟩, by decide⟩
theorem zse29 {s : State} : ∀ (args : Array Value), (∀ w ∈ zGw, w.before args s = true) → (Cond.selects (znm 29).cls (znm 29) (znm 29)).before args s = true := fun _ h => h _ (zmg (zg0 20 rfl) rfl)
theorem zmy30 : zMy 30 1 := ⟨zk88, zk617, ⟨by decide +kernel, by decide +kernel, by decide +kernel⟩, by decide⟩
theorem zse30 {s : State} : ∀ (args : Array Value), (∀ w ∈ zGw, w.before args s = true) → (Cond.selects (znm 30).cls (znm 30) (znm 30)).before args s = true := fun _ h => h _ (zmg (zg0 29 rfl) rfl)
theorem zmy31 : zMy 31 3 := ⟨zk88, zk618, ⟨by decide +kernel, by decide +kernel, by decide +kernel⟩, by decide⟩
theorem zse31 {s : State} : ∀ (args : Array Value), (∀ w ∈ zGw, w.before args s = true) → (Cond.selects (znm 31).cls (znm 31) (znm 31)).before args s = true := fun _ h => h _ (zmg (zg0 0 rfl) rfl)
theorem zmy32 : zMy 32 2 := ⟨zk88, zk619, ⟨by decide +kernel, by decide +kernel, by decide +kernel⟩, by decide⟩
theorem zmy33 : zMy 33 1 := ⟨zk88, zk620, ⟨by decide +kernel, by decide +kernel, by decide +kernel⟩, by decide⟩
theorem zse33 {s : State} : ∀ (args : Array Value), (∀ w ∈ zGw, w.before args s = true) → (Cond.selects (znm 33).cls (znm 33) (znm 33)).before args s = true := fun _ h => h _ (zmg (zg0 2 rfl) rfl)
theorem zmy34 : zMy 34 2 := ⟨zk88, zk621, ⟨by decide +kernel, by decide +kernel, by decide +kernel⟩, by decide⟩
theorem zse34 {s : State} : ∀ (args : Array Value), (∀ w ∈ zGw, w.before args s = true) → (Cond.selects (znm 34).cls (znm 34) (znm 34)).before args s = true := fun _ h => h _ (zmg (zg0 6 rfl) rfl)
theorem zmy35 : zMy 35 1 := ⟨zk88, zk622, ⟨by decide +kernel, by decide +kernel, by decide +kernel⟩, by decide⟩
theorem zse35 {s : State} : ∀ (args : Array Value), (∀ w ∈ zGw, w.before args s = true) → (Cond.selects (znm 35).cls (znm 35) (znm 35)).before args s = true := fun _ h => h _ (zmg (zg0 5 rfl) rfl)
theorem zmy36 : zMy 36 0 := ⟨zk88, zk623, ⟨by decide +kernel, by decide +kernel, by decide +kernel⟩, by decide⟩
theorem zse36 {s : State} : ∀ (args : Array Value), (∀ w ∈ zGw, w.before args s = true) → (Cond.selects (znm 36).cls (znm 36) (znm 36)).before args s = true := fun _ h => h _ (zmg (zg0 22 rfl) rfl)
theorem zmy37 : zMy 37 0 := ⟨zk88, zk624, ⟨by decide +kernel, by decide +kernel, by decide +kernel⟩, by decide⟩
theorem zse37 {s : State} : ∀ (args : Array Value), (∀ w ∈ zGw, w.before args s = true) → (Cond.selects (znm 37).cls (znm 37) (znm 37)).before args s = true := fun _ h => h _ (zmg (zg0 23 rfl) rfl)
theorem zmy38 : zMy 38 0 := ⟨zk88, zk625, ⟨by decide +kernel, by decide +kernel, by decide +kernel⟩, by decide⟩
theorem zse38 {s : State} : ∀ (args : Array Value), (∀ w ∈ zGw, w.before args s = true) → (Cond.selects (znm 38).cls (znm 38) (znm 38)).before args s = true := fun _ h => h _ (zmg (zg0 33 rfl) rfl)
theorem zmy39 : zMy 39 0 := ⟨zk88, zk626, ⟨by decide +kernel, by decide +kernel, by decide +kernel⟩, by decide⟩
theorem zse39 {s : State} : ∀ (args : Array Value), (∀ w ∈ zGw, w.before args s = true) → (Cond.selects (znm 39).cls (znm 39) (znm 39)).before args s = true := fun _ h => h _ (zmg (zg0 21 rfl) rfl)
theorem zmy40 : zMy 40 0 := ⟨zk88, zk627, ⟨by decide +kernel, by decide +kernel, by decide +kernel⟩, by decide⟩
theorem zse40 {s : State} : ∀ (args : Array Value), (∀ w ∈ zGw, w.before args s = true) → (Cond.selects (znm 40).cls (znm 40) (znm 40)).before args s = true := fun _ h => h _ (zmg (zg0 25 rfl) rfl)
theorem zmy41 : zMy 41 0 := ⟨zk88, zk628, ⟨by decide +kernel, by decide +kernel, by decide +kernel⟩, by decide⟩
theorem zse41 {s : State} : ∀ (args : Array Value), (∀ w ∈ zGw, w.before args s = true) → (Cond.selects (znm 41).cls (znm 41) (znm 41)).before args s = true := fun _ h => h _ (zmg (zg0 24 rfl) rfl)
theorem zmy42 : zMy 42 0 := ⟨zk88, zk629, ⟨by decide +kernel, by decide +kernel, by decide +kernel⟩, by decide⟩
theorem zse42 {s : State} : ∀ (args : Array Value), (∀ w ∈ zGw, w.before args s = true) → (Cond.selects (znm 42).cls (znm 42) (znm 42)).before args s = true := fun _ h => h _ (zmg (zg0 26 rfl) rfl)
theorem zmy43 : zMy 43 1 := ⟨zk88, zk630, ⟨by decide +kernel, by decide +kernel, by decide +kernel⟩, by decide⟩
theorem zse43 {s : State} : ∀ (args : Array Value), (∀ w ∈ zGw, w.before args s = true) → (Cond.selects (znm 43).cls (znm 43) (znm 43)).before args s = true := fun _ h => h _ (zmg (zg0 30 rfl) rfl)
theorem zmy44 : zMy 44 2 := ⟨zk88, zk631, ⟨by decide +kernel, by decide +kernel, by decide +kernel⟩, by decide⟩
theorem zse44 {s : State} : ∀ (args : Array Value), (∀ w ∈ zGw, w.before args s = true) → (Cond.selects (znm 44).cls (znm 44) (znm 44)).before args s = true := fun _ h => h _ (zmg (zg0 27 rfl) rfl)
theorem zmy45 : zMy 45 0 := ⟨zk88, zk632, ⟨by decide +kernel, by decide +kernel, by decide +kernel⟩, by decide⟩
theorem zse45 {s : State} : ∀ (args : Array Value), (∀ w ∈ zGw, w.before args s = true) → (Cond.selects (znm 45).cls (znm 45) (znm 45)).before args s = true := fun _ h => h _ (zmg (zg0 28 rfl) rfl)
theorem zmy46 : zMy 46 0 := ⟨zk108, zk633, ⟨by decide +kernel, by decide +kernel, by decide +kernel⟩, by decide⟩
theorem zmy47 : zMy 47 1 := ⟨zk108, zk634, ⟨by decide +kernel, by decide +kernel, by decide +kernel⟩, by decide⟩
theorem zse47 {s : State} : ∀ (args : Array Value), (∀ w ∈ zGw, w.before args s = true) → (Cond.selects (znm 47).cls (znm 47) (znm 47)).before args s = true := fun _ h => h _ (zmg (zg0 36 rfl) rfl)
theorem zmy48 : zMy 48 1 := ⟨zk108, zk635, ⟨by decide +kernel, by decide +kernel, by decide +kernel⟩, by decide⟩
theorem zse48 {s : State} : ∀ (args : Array Value), (∀ w ∈ zGw, w.before args s = true) → (Cond.selects (znm 48).cls (znm 48) (znm 48)).before args s = true := fun _ h => h _ (zmg (zg0 37 rfl) rfl)
theorem zmy49 : zMy 49 2 := ⟨zk108, zk636, ⟨by decide +kernel, by decide +kernel, by decide +kernel⟩, by decide⟩
theorem zse49 {s : State} : ∀ (args : Array Value), (∀ w ∈ zGw, w.before args s = true) → (Cond.selects (znm 49).cls (znm 49) (znm 49)).before args s = true := fun _ h => h _ (zmg (zg0 38 rfl) rfl)
theorem zmy50 : zMy 50 3 := ⟨zk108, zk637, ⟨by decide +kernel, by decide +kernel, by decide +kernel⟩, by decide⟩
theorem zse50 {s : State} : ∀ (args : Array Value), (∀ w ∈ zGw, w.before args s = true) → (Cond.selects (znm 50).cls (znm 50) (znm 50)).before args s = true := fun _ h => h _ (zmg (zg0 46 rfl) rfl)
theorem zmy51 : zMy 51 3 := ⟨zk108, zk638, ⟨by decide +kernel, by decide +kernel, by decide +kernel⟩, by decide⟩
theorem zse51 {s : State} : ∀ (args : Array Value), (∀ w ∈ zGw, w.before args s = true) → (Cond.selects (znm 51).cls (znm 51) (znm 51)).before args s = true := fun _ h => h _ (zmg (zg0 45 rfl) rfl)
theorem zmy52 : zMy 52 2 := ⟨zk108, zk639, ⟨by decide +kernel, by decide +kernel, by decide +kernel⟩, by decide⟩
theorem zmy53 : zMy 53 0 := ⟨zk264, zk640, ⟨by decide +kernel, by decide +kernel, by decide +kernel⟩, by decide⟩
theorem zmy54 : zMy 54 3 := ⟨zk264, zk641, ⟨by decide +kernel, by decide +kernel, by decide +kernel⟩, by decide⟩
theorem zse54 {s : State} : ∀ (args : Array Value), (∀ w ∈ zGw, w.before args s = true) → (Cond.selects (znm 54).cls (znm 54) (znm 54)).before args s = true := fun _ h => h _ (zmg (zg2 32 rfl) rfl)
theorem zmy55 : zMy 55 2 := ⟨zk264, zk642, ⟨by decide +kernel, by decide +kernel, by decide +kernel⟩, by decide⟩
theorem zse55 {s : State} : ∀ (args : Array Value), (∀ w ∈ zGw, w.before args s = true) → (Cond.selects (znm 55).cls (znm 55) (znm 55)).before args s = true := fun _ h => h _ (zmg (zg2 43 rfl) rfl)
theorem zmy56 : zMy 56 2 := ⟨zk264, zk643, ⟨by decide +kernel, by decide +kernel, by decide +kernel⟩, by decide⟩
theorem zse56 {s : State} : ∀ (args : Array Value), (∀ w ∈ zGw, w.before args s = true) → (Cond.selects (znm 56).cls (znm 56) (znm 56)).before args s = true := fun _ h => h _ (zmg (zg2 67 rfl) rfl)
theorem zmy57 : zMy 57 2 := ⟨zk264, zk644, ⟨by decide +kernel, by decide +kernel, by decide +kernel⟩, by decide⟩
theorem zse57 {s : State} : ∀ (args : Array Value), (∀ w ∈ zGw, w.before args s = true) → (Cond.selects (znm 57).cls (znm 57) (znm 57)).before args s = true := fun _ h => h _ (zmg (zg2 78 rfl) rfl)
theorem zmy58 : zMy 58 3 := ⟨zk264, zk645, ⟨by decide +kernel, by decide +kernel, by decide +kernel⟩, by decide⟩
theorem zse58 {s : State} : ∀ (args : Array Value), (∀ w ∈ zGw, w.before args s = true) → (Cond.selects (znm 58).cls (znm 58) (znm 58)).before args s = true := fun _ h => h _ (zmg (zg2 82 rfl) rfl)
theorem zmy59 : zMy 59 1 := ⟨zk264, zk646, ⟨by decide +kernel, by decide +kernel, by decide +kernel⟩, by decide⟩
theorem zse59 {s : State} : ∀ (args : Array Value), (∀ w ∈ zGw, w.before args s = true) → (Cond.selects (znm 59).cls (znm 59) (znm 59)).before args s = true := fun _ h => h _ (zmg (zg2 86 rfl) rfl)
theorem zmy60 : zMy 60 0 := ⟨zk264, zk647, ⟨by decide +kernel, by decide +kernel, by decide +kernel⟩, by decide⟩
theorem zse60 {s : State} : ∀ (args : Array Value), (∀ w ∈ zGw, w.before args s = true) → (Cond.selects (znm 60).cls (znm 60) (znm 60)).before args s = true := fun _ h => h _ (zmg (zg2 94 rfl) rfl)
theorem zmy61 : zMy 61 1 := ⟨zk264, zk648, ⟨by decide +kernel, by decide +kernel, by decide +kernel⟩, by decide⟩
theorem zse61 {s : State} : ∀ (args : Array Value), (∀ w ∈ zGw, w.before args s = true) → (Cond.selects (znm 61).cls (znm 61) (znm 61)).before args s = true := fun _ h => h _ (zmg (zg3 23 rfl) rfl)
theorem zmy62 : zMy 62 0 := ⟨zk264, zk649, ⟨by decide +kernel, by decide +kernel, by decide +kernel⟩, by decide⟩
theorem zse62 {s : State} : ∀ (args : Array Value), (∀ w ∈ zGw, w.before args s = true) → (Cond.selects (znm 62).cls (znm 62) (znm 62)).before args s = true := fun _ h => h _ (zmg (zg3 49 rfl) rfl)
theorem zmy63 : zMy 63 1 := ⟨zk264, zk650, ⟨by decide +kernel, by decide +kernel, by decide +kernel⟩, by decide⟩
theorem zse63 {s : State} : ∀ (args : Array Value), (∀ w ∈ zGw, w.before args s = true) → (Cond.selects (znm 63).cls (znm 63) (znm 63)).before args s = true := fun _ h => h _ (zmg (zg3 63 rfl) rfl)
theorem zmy64 : zMy 64 2 := ⟨zk264, zk651, ⟨by decide +kernel, by decide +kernel, by decide +kernel⟩, by decide⟩
theorem zse64 {s : State} : ∀ (args : Array Value), (∀ w ∈ zGw, w.before args s = true) → (Cond.selects (znm 64).cls (znm 64) (znm 64)).before args s = true := fun _ h => h _ (zmg (zg3 72 rfl) rfl)
theorem zmy65 : zMy 65 0 := ⟨zk264, zk652, ⟨by decide +kernel, by decide +kernel, by decide +kernel⟩, by decide⟩
theorem zse65 {s : State} : ∀ (args : Array Value), (∀ w ∈ zGw, w.before args s = true) → (Cond.selects (znm 65).cls (znm 65) (znm 65)).before args s = true := fun _ h => h _ (zmg (zg3 89 rfl) rfl)
theorem zmy66 : zMy 66 1 := ⟨zk264, zk653, ⟨by decide +kernel, by decide +kernel, by decide +kernel⟩, by decide⟩
theorem zse66 {s : State} : ∀ (args : Array Value), (∀ w ∈ zGw, w.before args s = true) → (Cond.selects (znm 66).cls (znm 66) (znm 66)).before args s = true := fun _ h => h _ (zmg (zg3 93 rfl) rfl)
theorem zmy67 : zMy 67 1 := ⟨zk264, zk654, ⟨by decide +kernel, by decide +kernel, by decide +kernel⟩, by decide⟩
theorem zse67 {s : State} : ∀ (args : Array Value), (∀ w ∈ zGw, w.before args s = true) → (Cond.selects (znm 67).cls (znm 67) (znm 67)).before args s = true := fun _ h => h _ (zmg (zg3 98 rfl) rfl)
theorem zmy68 : zMy 68 1 := ⟨zk264, zk655, ⟨by decide +kernel, by decide +kernel, by decide +kernel⟩, by decide⟩
theorem zse68 {s : State} : ∀ (args : Array Value), (∀ w ∈ zGw, w.before args s = true) → (Cond.selects (znm 68).cls (znm 68) (znm 68)).before args s = true := fun _ h => h _ (zmg (zg3 102 rfl) rfl)
theorem zmy69 : zMy 69 0 := ⟨zk264, zk656, ⟨by decide +kernel, by decide +kernel, by decide +kernel⟩, by decide⟩
theorem zse69 {s : State} : ∀ (args : Array Value), (∀ w ∈ zGw, w.before args s = true) → (Cond.selects (znm 69).cls (znm 69) (znm 69)).before args s = true := fun _ h => h _ (zmg (zg3 108 rfl) rfl)
theorem zmy70 : zMy 70 1 := ⟨zk264, zk657, ⟨by decide +kernel, by decide +kernel, by decide +kernel⟩, by decide⟩
theorem zse70 {s : State} : ∀ (args : Array Value), (∀ w ∈ zGw, w.before args s = true) → (Cond.selects (znm 70).cls (znm 70) (znm 70)).before args s = true := fun _ h => h _ (zmg (zg3 112 rfl) rfl)
theorem zmy71 : zMy 71 0 := ⟨zk264, zk658, ⟨by decide +kernel, by decide +kernel, by decide +kernel⟩, by decide⟩
theorem zse71 {s : State} : ∀ (args : Array Value), (∀ w ∈ zGw, w.before args s = true) → (Cond.selects (znm 71).cls (znm 71) (znm 71)).before args s = true := fun _ h => h _ (zmg (zg3 117 rfl) rfl)
theorem zmy72 : zMy 72 0 := ⟨zk264, zk659, ⟨by decide +kernel, by decide +kernel, by decide +kernel⟩, by decide⟩
theorem zse72 {s : State} : ∀ (args : Array Value), (∀ w ∈ zGw, w.before args s = true) → (Cond.selects (znm 72).cls (znm 72) (znm 72)).before args s = true := fun _ h => h _ (zmg (zg3 121 rfl) rfl)
theorem zmy73 : zMy 73 0 := ⟨zk264, zk660, ⟨by decide +kernel, by decide +kernel, by decide +kernel⟩, by decide⟩
theorem zse73 {s : State} : ∀ (args : Array Value), (∀ w ∈ zGw, w.before args s = true) → (Cond.selects (znm 73).cls (znm 73) (znm 73)).before args s = true := fun _ h => h _ (zmg (zg3 125 rfl) rfl)
theorem zmy74 : zMy 74 0 := ⟨zk264, zk661, ⟨by decide +kernel, by decide +kernel, by decide +kernel⟩, by decide⟩
theorem zse74 {s : State} : ∀ (args : Array Value), (∀ w ∈ zGw, w.before args s = true) → (Cond.selects (znm 74).cls (znm 74) (znm 74)).before args s = true := fun _ h => h _ (zmg (zg3 129 rfl) rfl)
theorem zmy75 : zMy 75 1 := ⟨zk264, zk662, ⟨by decide +kernel, by decide +kernel, by decide +kernel⟩, by decide⟩
theorem zse75 {s : State} : ∀ (args : Array Value), (∀ w ∈ zGw, w.before args s = true) → (Cond.selects (znm 75).cls (znm 75) (znm 75)).before args s = true := fun _ h => h _ (zmg (zg3 134 rfl) rfl)
theorem zmy76 : zMy 76 2 := ⟨zk264, zk663, ⟨by decide +kernel, by decide +kernel, by decide +kernel⟩, by decide⟩
theorem zse76 {s : State} : ∀ (args : Array Value), (∀ w ∈ zGw, w.before args s = true) → (Cond.selects (znm 76).cls (znm 76) (znm 76)).before args s = true := fun _ h => h _ (zmg (zg3 138 rfl) rfl)
theorem zmy77 : zMy 77 1 := ⟨zk264, zk664, ⟨by decide +kernel, by decide +kernel, by decide +kernel⟩, by decide⟩
theorem zse77 {s : State} : ∀ (args : Array Value), (∀ w ∈ zGw, w.before args s = true) → (Cond.selects (znm 77).cls (znm 77) (znm 77)).before args s = true := fun _ h => h _ (zmg (zg3 142 rfl) rfl)
theorem zmy78 : zMy 78 2 := ⟨zk264, zk665, ⟨by decide +kernel, by decide +kernel, by decide +kernel⟩, by decide⟩
theorem zse78 {s : State} : ∀ (args : Array Value), (∀ w ∈ zGw, w.before args s = true) → (Cond.selects (znm 78).cls (znm 78) (znm 78)).before args s = true := fun _ h => h _ (zmg (zg3 150 rfl) rfl)
theorem zmy79 : zMy 79 0 := ⟨zk264, zk666, ⟨by decide +kernel, by decide +kernel, by decide +kernel⟩, by decide⟩
theorem zse79 {s : State} : ∀ (args : Array Value), (∀ w ∈ zGw, w.before args s = true) → (Cond.selects (znm 79).cls (znm 79) (znm 79)).before args s = true := fun _ h => h _ (zmg (zg3 158 rfl) rfl)
theorem zmy80 : zMy 80 2 := ⟨zk264, zk667, ⟨by decide +kernel, by decide +kernel, by decide +kernel⟩, by decide⟩
theorem zse80 {s : State} : ∀ (args : Array Value), (∀ w ∈ zGw, w.before args s = true) → (Cond.selects (znm 80).cls (znm 80) (znm 80)).before args s = true := fun _ h => h _ (zmg (zg3 162 rfl) rfl)
theorem zmy81 : zMy 81 2 := ⟨zk264, zk668, ⟨by decide +kernel, by decide +kernel, by decide +kernel⟩, by decide⟩
theorem zse81 {s : State} : ∀ (args : Array Value), (∀ w ∈ zGw, w.before args s = true) → (Cond.selects (znm 81).cls (znm 81) (znm 81)).before args s = true := fun _ h => h _ (zmg (zg3 170 rfl) rfl)
theorem zmy82 : zMy 82 1 := ⟨zk264, zk669, ⟨by decide +kernel, by decide +kernel, by decide +kernel⟩, by decide⟩
theorem zse82 {s : State} : ∀ (args : Array Value), (∀ w ∈ zGw, w.before args s = true) → (Cond.selects (znm 82).cls (znm 82) (znm 82)).before args s = true := fun _ h => h _ (zmg (zg3 178 rfl) rfl)
theorem zmy83 : zMy 83 1 := ⟨zk264, zk670, ⟨by decide +kernel, by decide +kernel, by decide +kernel⟩, by decide⟩
theorem zse83 {s : State} : ∀ (args : Array Value), (∀ w ∈ zGw, w.before args s = true) → (Cond.selects (znm 83).cls (znm 83) (znm 83)).before args s = true := fun _ h => h _ (zmg (zg3 186 rfl) rfl)
theorem zmy84 : zMy 84 2 := ⟨zk264, zk671, ⟨by decide +kernel, by decide +kernel, by decide +kernel⟩, by decide⟩
theorem zse84 {s : State} : ∀ (args : Array Value), (∀ w ∈ zGw, w.before args s = true) → (Cond.selects (znm 84).cls (znm 84) (znm 84)).before args s = true := fun _ h => h _ (zmg (zg3 190 rfl) rfl)
theorem zmy85 : zMy 85 0 := ⟨zk264, zk672, ⟨by decide +kernel, by decide +kernel, by decide +kernel⟩, by decide⟩
theorem zse85 {s : State} : ∀ (args : Array Value), (∀ w ∈ zGw, w.before args s = true) → (Cond.selects (znm 85).cls (znm 85) (znm 85)).before args s = true := fun _ h => h _ (zmg (zg3 198 rfl) rfl)
theorem zmy86 : zMy 86 2 := ⟨zk264, zk673, ⟨by decide +kernel, by decide +kernel, by decide +kernel⟩, by decide⟩
theorem zse86 {s : State} : ∀ (args : Array Value), (∀ w ∈ zGw, w.before args s = true) → (Cond.selects (znm 86).cls (znm 86) (znm 86)).before args s = true := fun _ h => h _ (zmg (zg3 202 rfl) rfl)
theorem zmy87 : zMy 87 0 := ⟨zk264, zk674, ⟨by decide +kernel, by decide +kernel, by decide +kernel⟩, by decide⟩
theorem zse87 {s : State} : ∀ (args : Array Value), (∀ w ∈ zGw, w.before args s = true) → (Cond.selects (znm 87).cls (znm 87) (znm 87)).before args s = true := fun _ h => h _ (zmg (zg3 219 rfl) rfl)
theorem zmy88 : zMy 88 0 := ⟨zk264, zk675, ⟨by decide +kernel, by decide +kernel, by decide +kernel⟩, by decide⟩
theorem zse88 {s : State} : ∀ (args : Array Value), (∀ w ∈ zGw, w.before args s = true) → (Cond.selects (znm 88).cls (znm 88) (znm 88)).before args s = true := fun _ h => h _ (zmg (zg3 228 rfl) rfl)
theorem zmy89 : zMy 89 3 := ⟨zk264, zk676, ⟨by decide +kernel, by decide +kernel, by decide +kernel⟩, by decide⟩
theorem zse89 {s : State} : ∀ (args : Array Value), (∀ w ∈ zGw, w.before args s = true) → (Cond.selects (znm 89).cls (znm 89) (znm 89)).before args s = true := fun _ h => h _ (zmg (zg3 232 rfl) rfl)
theorem zmy90 : zMy 90 1 := ⟨zk264, zk677, ⟨by decide +kernel, by decide +kernel, by decide +kernel⟩, by decide⟩
theorem zse90 {s : State} : ∀ (args : Array Value), (∀ w ∈ zGw, w.before args s = true) → (Cond.selects (znm 90).cls (znm 90) (znm 90)).before args s = true := fun _ h => h _ (zmg (zg4 16 rfl) rfl)
theorem zmy91 : zMy 91 2 := ⟨zk264, zk678, ⟨by decide +kernel, by decide +kernel, by decide +kernel⟩, by decide⟩
theorem zse91 {s : State} : ∀ (args : Array Value), (∀ w ∈ zGw, w.before args s = true) → (Cond.selects (znm 91).cls (znm 91) (znm 91)).before args s = true := fun _ h => h _ (zmg (zg4 20 rfl) rfl)
theorem zmy92 : zMy 92 1 := ⟨zk264, zk679, ⟨by decide +kernel, by decide +kernel, by decide +kernel⟩, by decide⟩
theorem zse92 {s : State} : ∀ (args : Array Value), (∀ w ∈ zGw, w.before args s = true) → (Cond.selects (znm 92).cls (znm 92) (znm 92)).before args s = true := fun _ h => h _ (zmg (zg4 29 rfl) rfl)
theorem zmy93 : zMy 93 3 := ⟨zk264, zk680, ⟨by decide +kernel, by decide +kernel, by decide +kernel⟩, by decide⟩
theorem zse93 {s : State} : ∀ (args : Array Value), (∀ w ∈ zGw, w.before args s = true) → (Cond.selects (znm 93).cls (znm 93) (znm 93)).before args s = true := fun _ h => h _ (zmg (zg4 33 rfl) rfl)
theorem zmy94 : zMy 94 3 := ⟨zk264, zk681, ⟨by decide +kernel, by decide +kernel, by decide +kernel⟩, by decide⟩
theorem zse94 {s : State} : ∀ (args : Array Value), (∀ w ∈ zGw, w.before args s = true) → (Cond.selects (znm 94).cls (znm 94) (znm 94)).before args s = true := fun _ h => h _ (zmg (zg4 41 rfl) rfl)
theorem zmy95 : zMy 95 2 := ⟨zk264, zk682, ⟨by decide +kernel, by decide +kernel, by decide +kernel⟩, by decide⟩
theorem zse95 {s : State} : ∀ (args : Array Value), (∀ w ∈ zGw, w.before args s = true) → (Cond.selects (znm 95).cls (znm 95) (znm 95)).before args s = true := fun _ h => h _ (zmg (zg4 48 rfl) rfl)
theorem zmy96 : zMy 96 5 := ⟨zk264, zk683, ⟨by decide +kernel, by decide +kernel, by decide +kernel⟩, by decide⟩
theorem zse96 {s : State} : ∀ (args : Array Value), (∀ w ∈ zGw, w.before args s = true) → (Cond.selects (znm 96).cls (znm 96) (znm 96)).before args s = true := fun _ h => h _ (zmg (zg4 52 rfl) rfl)
theorem zmy97 : zMy 97 3 := ⟨zk264, zk684, ⟨by decide +kernel, by decide +kernel, by decide +kernel⟩, by decide⟩
theorem zmy98 : zMy 98 1 := ⟨zk264, zk685, ⟨by decide +kernel, by decide +kernel, by decide +kernel⟩, by decide⟩
theorem zse98 {s : State} : ∀ (args : Array Value), (∀ w ∈ zGw, w.before args s = true) → (Cond.selects (znm 98).cls (znm 98) (znm 98)).before args s = true := fun _ h => h _ (zmg (zg0 1 rfl) rfl)
theorem zmy99 : zMy 99 0 := ⟨zk264, zk686, ⟨by decide +kernel, by decide +kernel, by decide +kernel⟩, by decide⟩
theorem zse99 {s : State} : ∀ (args : Array Value), (∀ w ∈ zGw, w.before args s = true) → (Cond.selects (znm 99).cls (znm 99) (znm 99)).before args s = true := fun _ h => h _ (zmg (zg0 32 rfl) rfl)
theorem zmy100 : zMy 100 3 := ⟨zk264, zk687, ⟨by decide +kernel, by decide +kernel, by decide +kernel⟩, by decide⟩
theorem zmy101 : zMy 101 0 := ⟨zk268, zk688, ⟨by decide +kernel, by decide +kernel, by decide +kernel⟩, by decide⟩
theorem zmy102 : zMy 102 3 := ⟨zk268, zk689, ⟨by decide +kernel, by decide +kernel, by decide +kernel⟩, by decide⟩
theorem zse102 {s : State} : ∀ (args : Array Value), (∀ w ∈ zGw, w.before args s = true) → (Cond.selects (znm 102).cls (znm 102) (znm 102)).before args s = true := fun _ h => h _ (zmg (zg0 47 rfl) rfl)
theorem zmy103 : zMy 103 1 := ⟨zk268, zk690, ⟨by decide +kernel, by decide +kernel, by decide +kernel⟩, by decide⟩
theorem zse103 {s : State} : ∀ (args : Array Value), (∀ w ∈ zGw, w.before args s = true) → (Cond.selects (znm 103).cls (znm 103) (znm 103)).before args s = true := fun _ h => h _ (zmg (zg0 49 rfl) rfl)
theorem zmy104 : zMy 104 1 := ⟨zk268, zk691, ⟨by decide +kernel, by decide +kernel, by decide +kernel⟩, by decide⟩
theorem zse104 {s : State} : ∀ (args : Array Value), (∀ w ∈ zGw, w.before args s = true) → (Cond.selects (znm 104).cls (znm 104) (znm 104)).before args s = true := fun _ h => h _ (zmg (zg0 48 rfl) rfl)
theorem zmy105 : zMy 105 3 := ⟨zk268, zk692, ⟨by decide +kernel, by decide +kernel, by decide +kernel⟩, by decide⟩
theorem zse105 {s : State} : ∀ (args : Array Value), (∀ w ∈ zGw, w.before args s = true) → (Cond.selects (znm 105).cls (znm 105) (znm 105)).before args s = true := fun _ h => h _ (zmg (zg5 25 rfl) rfl)
theorem zmy106 : zMy 106 2 := ⟨zk268, zk693, ⟨by decide +kernel, by decide +kernel, by decide +kernel⟩, by decide⟩
theorem zse106 {s : State} : ∀ (args : Array Value), (∀ w ∈ zGw, w.before args s = true) → (Cond.selects (znm 106).cls (znm 106) (znm 106)).before args s = true := fun _ h => h _ (zmg (zg5 37 rfl) rfl)
theorem zmy107 : zMy 107 3 := ⟨zk268, zk694, ⟨by decide +kernel, by decide +kernel, by decide +kernel⟩, by decide⟩
theorem zse107 {s : State} : ∀ (args : Array Value), (∀ w ∈ zGw, w.before args s = true) → (Cond.selects (znm 107).cls (znm 107) (znm 107)).before args s = true := fun _ h => h _ (zmg (zg5 45 rfl) rfl)
theorem zmy108 : zMy 108 1 := ⟨zk268, zk695, ⟨by decide +kernel, by decide +kernel, by decide +kernel⟩, by decide⟩
theorem zse108 {s : State} : ∀ (args : Array Value), (∀ w ∈ zGw, w.before args s = true) → (Cond.selects (znm 108).cls (znm 108) (znm 108)).before args s = true := fun _ h => h _ (zmg (zg5 49 rfl) rfl)
theorem zmy109 : zMy 109 0 := ⟨zk268, zk696, ⟨by decide +kernel, by decide +kernel, by decide +kernel⟩, by decide⟩
theorem zse109 {s : State} : ∀ (args : Array Value), (∀ w ∈ zGw, w.before args s = true) → (Cond.selects (znm 109).cls (znm 109) (znm 109)).before args s = true := fun _ h => h _ (zmg (zg0 53 rfl) rfl)
theorem zmy110 : zMy 110 1 := ⟨zk268, zk697, ⟨by decide +kernel, by decide +kernel, by decide +kernel⟩, by decide⟩
theorem zse110 {s : State} : ∀ (args : Array Value), (∀ w ∈ zGw, w.before args s = true) → (Cond.selects (znm 110).cls (znm 110) (znm 110)).before args s = true := fun _ h => h _ (zmg (zg0 56 rfl) rfl)
theorem zmy111 : zMy 111 2 := ⟨zk268, zk698, ⟨by decide +kernel, by decide +kernel, by decide +kernel⟩, by decide⟩
theorem zse111 {s : State} : ∀ (args : Array Value), (∀ w ∈ zGw, w.before args s = true) → (Cond.selects (znm 111).cls (znm 111) (znm 111)).before args s = true := fun _ h => h _ (zmg (zg0 55 rfl) rfl)
theorem zmy112 : zMy 112 2 := ⟨zk268, zk699, ⟨by decide +kernel, by decide +kernel, by decide +kernel⟩, by decide⟩
theorem zse112 {s : State} : ∀ (args : Array Value), (∀ w ∈ zGw, w.before args s = true) → (Cond.selects (znm 112).cls (znm 112) (znm 112)).before args s = true := fun _ h => h _ (zmg (zg0 54 rfl) rfl)
theorem zmy113 : zMy 113 0 := ⟨zk268, zk700, ⟨by decide +kernel, by decide +kernel, by decide +kernel⟩, by decide⟩
theorem zse113 {s : State} : ∀ (args : Array Value), (∀ w ∈ zGw, w.before args s = true) → (Cond.selects (znm 113).cls (znm 113) (znm 113)).before args s = true := fun _ h => h _ (zmg (zg0 58 rfl) rfl)
theorem zmy114 : zMy 114 0 := ⟨zk268, zk701, ⟨by decide +kernel, by decide +kernel, by decide +kernel⟩, by decide⟩
theorem zse114 {s : State} : ∀ (args : Array Value), (∀ w ∈ zGw, w.before args s = true) → (Cond.selects (znm 114).cls (znm 114) (znm 114)).before args s = true := fun _ h => h _ (zmg (zg0 57 rfl) rfl)
theorem zmy115 : zMy 115 1 := ⟨zk268, zk702, ⟨by decide +kernel, by decide +kernel, by decide +kernel⟩, by decide⟩
theorem zse115 {s : State} : ∀ (args : Array Value), (∀ w ∈ zGw, w.before args s = true) → (Cond.selects (znm 115).cls (znm 115) (znm 115)).before args s = true := fun _ h => h _ (zmg (zg0 62 rfl) rfl)
theorem zmy116 : zMy 116 0 := ⟨zk268, zk703, ⟨by decide +kernel, by decide +kernel, by decide +kernel⟩, by decide⟩
theorem zse116 {s : State} : ∀ (args : Array Value), (∀ w ∈ zGw, w.before args s = true) → (Cond.selects (znm 116).cls (znm 116) (znm 116)).before args s = true := fun _ h => h _ (zmg (zg0 63 rfl) rfl)
theorem zmy117 : zMy 117 1 := ⟨zk268, zk704, ⟨by decide +kernel, by decide +kernel, by decide +kernel⟩, by decide⟩
theorem zse117 {s : State} : ∀ (args : Array Value), (∀ w ∈ zGw, w.before args s = true) → (Cond.selects (znm 117).cls (znm 117) (znm 117)).before args s = true := fun _ h => h _ (zmg (zg0 64 rfl) rfl)
theorem zmy118 : zMy 118 1 := ⟨zk268, zk705, ⟨by decide +kernel, by decide +kernel, by decide +kernel⟩, by decide⟩
theorem zse118 {s : State} : ∀ (args : Array Value), (∀ w ∈ zGw, w.before args s = true) → (Cond.selects (znm 118).cls (znm 118) (znm 118)).before args s = true := fun _ h => h _ (zmg (zg0 61 rfl) rfl)
theorem zmy119 : zMy 119 0 := ⟨zk268, zk706, ⟨by decide +kernel, by decide +kernel, by decide +kernel⟩, by decide⟩
theorem zse119 {s : State} : ∀ (args : Array Value), (∀ w ∈ zGw, w.before args s = true) → (Cond.selects (znm 119).cls (znm 119) (znm 119)).before args s = true := fun _ h => h _ (zmg (zg0 60 rfl) rfl)
theorem zmy120 : zMy 120 1 := ⟨zk268, zk707, ⟨by decide +kernel, by decide +kernel, by decide +kernel⟩, by decide⟩
theorem zse120 {s : State} : ∀ (args : Array Value), (∀ w ∈ zGw, w.before args s = true) → (Cond.selects (znm 120).cls (znm 120) (znm 120)).before args s = true := fun _ h => h _ (zmg (zg0 59 rfl) rfl)
theorem zmy121 : zMy 121 1 := ⟨zk268, zk708, ⟨by decide +kernel, by decide +kernel, by decide +kernel⟩, by decide⟩
theorem zse121 {s : State} : ∀ (args : Array Value), (∀ w ∈ zGw, w.before args s = true) → (Cond.selects (znm 121).cls (znm 121) (znm 121)).before args s = true := fun _ h => h _ (zmg (zg0 52 rfl) rfl)
theorem zmy122 : zMy 122 1 := ⟨zk268, zk709, ⟨by decide +kernel, by decide +kernel, by decide +kernel⟩, by decide⟩
theorem zse122 {s : State} : ∀ (args : Array Value), (∀ w ∈ zGw, w.before args s = true) → (Cond.selects (znm 122).cls (znm 122) (znm 122)).before args s = true := fun _ h => h _ (zmg (zg0 51 rfl) rfl)
theorem zmy123 : zMy 123 1 := ⟨zk268, zk710, ⟨by decide +kernel, by decide +kernel, by decide +kernel⟩, by decide⟩
theorem zse123 {s : State} : ∀ (args : Array Value), (∀ w ∈ zGw, w.before args s = true) → (Cond.selects (znm 123).cls (znm 123) (znm 123)).before args s = true := fun _ h => h _ (zmg (zg0 50 rfl) rfl)
theorem zmy124 : zMy 124 0 := ⟨zk268, zk711, ⟨by decide +kernel, by decide +kernel, by decide +kernel⟩, by decide⟩
theorem zse124 {s : State} : ∀ (args : Array Value), (∀ w ∈ zGw, w.before args s = true) → (Cond.selects (znm 124).cls (znm 124) (znm 124)).before args s = true := fun _ h => h _ (zmg (zg5 53 rfl) rfl)
theorem zmy125 : zMy 125 0 := ⟨zk268, zk712, ⟨by decide +kernel, by decide +kernel, by decide +kernel⟩, by decide⟩
theorem zse125 {s : State} : ∀ (args : Array Value), (∀ w ∈ zGw, w.before args s = true) → (Cond.selects (znm 125).cls (znm 125) (znm 125)).before args s = true := fun _ h => h _ (zmg (zg0 68 rfl) rfl)
theorem zmy126 : zMy 126 0 := ⟨zk268, zk713, ⟨by decide +kernel, by decide +kernel, by decide +kernel⟩, by decide⟩
theorem zse126 {s : State} : ∀ (args : Array Value), (∀ w ∈ zGw, w.before args s = true) → (Cond.selects (znm 126).cls (znm 126) (znm 126)).before args s = true := fun _ h => h _ (zmg (zg0 69 rfl) rfl)
theorem zmy127 : zMy 127 2 := ⟨zk268, zk714, ⟨by decide +kernel, by decide +kernel, by decide +kernel⟩, by decide⟩
theorem zse127 {s : State} : ∀ (args : Array Value), (∀ w ∈ zGw, w.before args s = true) → (Cond.selects (znm 127).cls (znm 127) (znm 127)).before args s = true := fun _ h => h _ (zmg (zg0 67 rfl) rfl)
theorem zmy128 : zMy 128 0 := ⟨zk268, zk715, ⟨by decide +kernel, by decide +kernel, by decide +kernel⟩, by decide⟩
theorem zse128 {s : State} : ∀ (args : Array Value), (∀ w ∈ zGw, w.before args s = true) → (Cond.selects (znm 128).cls (znm 128) (znm 128)).before args s = true := fun _ h => h _ (zmg (zg0 66 rfl) rfl)
theorem zmy129 : zMy 129 0 := ⟨zk268, zk716, ⟨by decide +kernel, by decide +kernel, by decide +kernel⟩, by decide⟩
theorem zse129 {s : State} : ∀ (args : Array Value), (∀ w ∈ zGw, w.before args s = true) → (Cond.selects (znm 129).cls (znm 129) (znm 129)).before args s = true := fun _ h => h _ (zmg (zg0 79 rfl) rfl)
theorem zmy130 : zMy 130 0 := ⟨zk268, zk717, ⟨by decide +kernel, by decide +kernel, by decide +kernel⟩, by decide⟩
theorem zse130 {s : State} : ∀ (args : Array Value), (∀ w ∈ zGw, w.before args s = true) → (Cond.selects (znm 130).cls (znm 130) (znm 130)).before args s = true := fun _ h => h _ (zmg (zg0 80 rfl) rfl)
theorem zmy131 : zMy 131 2 := ⟨zk268, zk718, ⟨by decide +kernel, by decide +kernel, by decide +kernel⟩, by decide⟩
theorem zse131 {s : State} : ∀ (args : Array Value), (∀ w ∈ zGw, w.before args s = true) → (Cond.selects (znm 131).cls (znm 131) (znm 131)).before args s = true := fun _ h => h _ (zmg (zg0 73 rfl) rfl)
theorem zmy132 : zMy 132 2 := ⟨zk268, zk719, ⟨by decide +kernel, by decide +kernel, by decide +kernel⟩, by decide⟩
theorem zse132 {s : State} : ∀ (args : Array Value), (∀ w ∈ zGw, w.before args s = true) → (Cond.selects (znm 132).cls (znm 132) (znm 132)).before args s = true := fun _ h => h _ (zmg (zg0 72 rfl) rfl)
theorem zmy133 : zMy 133 1 := ⟨zk268, zk720, ⟨by decide +kernel, by decide +kernel, by decide +kernel⟩, by decide⟩
theorem zse133 {s : State} : ∀ (args : Array Value), (∀ w ∈ zGw, w.before args s = true) → (Cond.selects (znm 133).cls (znm 133) (znm 133)).before args s = true := fun _ h => h _ (zmg (zg0 71 rfl) rfl)
theorem zmy134 : zMy 134 2 := ⟨zk268, zk721, ⟨by decide +kernel, by decide +kernel, by decide +kernel⟩, by decide⟩
theorem zse134 {s : State} : ∀ (args : Array Value), (∀ w ∈ zGw, w.before args s = true) → (Cond.selects (znm 134).cls (znm 134) (znm 134)).before args s = true := fun _ h => h _ (zmg (zg0 70 rfl) rfl)
theorem zmy135 : zMy 135 2 := ⟨zk268, zk722, ⟨by decide +kernel, by decide +kernel, by decide +kernel⟩, by decide⟩
theorem zse135 {s : State} : ∀ (args : Array Value), (∀ w ∈ zGw, w.before args s = true) → (Cond.selects (znm 135).cls (znm 135) (znm 135)).before args s = true := fun _ h => h _ (zmg (zg0 65 rfl) rfl)
theorem zmy136 : zMy 136 1 := ⟨zk268, zk723, ⟨by decide +kernel, by decide +kernel, by decide +kernel⟩, by decide⟩
theorem zse136 {s : State} : ∀ (args : Array Value), (∀ w ∈ zGw, w.before args s = true) → (Cond.selects (znm 136).cls (znm 136) (znm 136)).before args s = true := fun _ h => h _ (zmg (zg0 74 rfl) rfl)
theorem zmy137 : zMy 137 2 := ⟨zk268, zk724, ⟨by decide +kernel, by decide +kernel, by decide +kernel⟩, by decide⟩
theorem zse137 {s : State} : ∀ (args : Array Value), (∀ w ∈ zGw, w.before args s = true) → (Cond.selects (znm 137).cls (znm 137) (znm 137)).before args s = true := fun _ h => h _ (zmg (zg5 117 rfl) rfl)
theorem zmy138 : zMy 138 2 := ⟨zk268, zk725, ⟨by decide +kernel, by decide +kernel, by decide +kernel⟩, by decide⟩
theorem zse138 {s : State} : ∀ (args : Array Value), (∀ w ∈ zGw, w.before args s = true) → (Cond.selects (znm 138).cls (znm 138) (znm 138)).before args s = true := fun _ h => h _ (zmg (zg5 145 rfl) rfl)
theorem zmy139 : zMy 139 0 := ⟨zk268, zk726, ⟨by decide +kernel, by decide +kernel, by decide +kernel⟩, by decide⟩
theorem zse139 {s : State} : ∀ (args : Array Value), (∀ w ∈ zGw, w.before args s = true) → (Cond.selects (znm 139).cls (znm 139) (znm 139)).before args s = true := fun _ h => h _ (zmg (zg0 78 rfl) rfl)
theorem zmy140 : zMy 140 0 := ⟨zk268, zk727, ⟨by decide +kernel, by decide +kernel, by decide +kernel⟩, by decide⟩
theorem zse140 {s : State} : ∀ (args : Array Value), (∀ w ∈ zGw, w.before args s = true) → (Cond.selects (znm 140).cls (znm 140) (znm 140)).before args s = true := fun _ h => h _ (zmg (zg0 77 rfl) rfl)
theorem zmy141 : zMy 141 0 := ⟨zk268, zk728, ⟨by decide +kernel, by decide +kernel, by decide +kernel⟩, by decide⟩
theorem zse141 {s : State} : ∀ (args : Array Value), (∀ w ∈ zGw, w.before args s = true) → (Cond.selects (znm 141).cls (znm 141) (znm 141)).before args s = true := fun _ h => h _ (zmg (zg0 76 rfl) rfl)
theorem zmy142 : zMy 142 2 := ⟨zk268, zk729, ⟨by decide +kernel, by decide +kernel, by decide +kernel⟩, by decide⟩
theorem zse142 {s : State} : ∀ (args : Array Value), (∀ w ∈ zGw, w.before args s = true) → (Cond.selects (znm 142).cls (znm 142) (znm 142)).before args s = true := fun _ h => h _ (zmg (zg0 81 rfl) rfl)
theorem zmy143 : zMy 143 0 := ⟨zk268, zk730, ⟨by decide +kernel, by decide +kernel, by decide +kernel⟩, by decide⟩
theorem zse143 {s : State} : ∀ (args : Array Value), (∀ w ∈ zGw, w.before args s = true) → (Cond.selects (znm 143).cls (znm 143) (znm 143)).before args s = true := fun _ h => h _ (zmg (zg0 75 rfl) rfl)
theorem zmy144 : zMy 144 0 := ⟨zk268, zk731, ⟨by decide +kernel, by decide +kernel, by decide +kernel⟩, by decide⟩
theorem zse144 {s : State} : ∀ (args : Array Value), (∀ w ∈ zGw, w.before args s = true) → (Cond.selects (znm 144).cls (znm 144) (znm 144)).before args s = true := fun _ h => h _ (zmg (zg5 165 rfl) rfl)
theorem zmy145 : zMy 145 0 := ⟨zk268, zk732, ⟨by decide +kernel, by decide +kernel, by decide +kernel⟩, by decide⟩
theorem zse145 {s : State} : ∀ (args : Array Value), (∀ w ∈ zGw, w.before args s = true) → (Cond.selects (znm 145).cls (znm 145) (znm 145)).before args s = true := fun _ h => h _ (zmg (zg0 82 rfl) rfl)
theorem zmy146 : zMy 146 1 := ⟨zk268, zk733, ⟨by decide +kernel, by decide +kernel, by decide +kernel⟩, by decide⟩
theorem zse146 {s : State} : ∀ (args : Array Value), (∀ w ∈ zGw, w.before args s = true) → (Cond.selects (znm 146).cls (znm 146) (znm 146)).before args s = true := fun _ h => h _ (zmg (zg5 197 rfl) rfl)
theorem zmy147 : zMy 147 0 := ⟨zk268, zk734, ⟨by decide +kernel, by decide +kernel, by decide +kernel⟩, by decide⟩
theorem zse147 {s : State} : ∀ (args : Array Value), (∀ w ∈ zGw, w.before args s = true) → (Cond.selects (znm 147).cls (znm 147) (znm 147)).before args s = true := fun _ h => h _ (zmg (zg0 83 rfl) rfl)
theorem zmy148 : zMy 148 1 := ⟨zk268, zk735, ⟨by decide +kernel, by decide +kernel, by decide +kernel⟩, by decide⟩
theorem zse148 {s : State} : ∀ (args : Array Value), (∀ w ∈ zGw, w.before args s = true) → (Cond.selects (znm 148).cls (znm 148) (znm 148)).before args s = true := fun _ h => h _ (zmg (zg5 205 rfl) rfl)
theorem zmy149 : zMy 149 0 := ⟨zk268, zk736, ⟨by decide +kernel, by decide +kernel, by decide +kernel⟩, by decide⟩
theorem zse149 {s : State} : ∀ (args : Array Value), (∀ w ∈ zGw, w.before args s = true) → (Cond.selects (znm 149).cls (znm 149) (znm 149)).before args s = true := fun _ h => h _ (zmg (zg0 85 rfl) rfl)
theorem zmy150 : zMy 150 0 := ⟨zk268, zk737, ⟨by decide +kernel, by decide +kernel, by decide +kernel⟩, by decide⟩
theorem zse150 {s : State} : ∀ (args : Array Value), (∀ w ∈ zGw, w.before args s = true) → (Cond.selects (znm 150).cls (znm 150) (znm 150)).before args s = true := fun _ h => h _ (zmg (zg0 88 rfl) rfl)
theorem zmy151 : zMy 151 1 := ⟨zk268, zk738, ⟨by decide +kernel, by decide +kernel, by decide +kernel⟩, by decide⟩
theorem zse151 {s : State} : ∀ (args : Array Value), (∀ w ∈ zGw, w.before args s = true) → (Cond.selects (znm 151).cls (znm 151) (znm 151)).before args s = true := fun _ h => h _ (zmg (zg0 86 rfl) rfl)
theorem zmy152 : zMy 152 0 := ⟨zk268, zk739, ⟨by decide +kernel, by decide +kernel, by decide +kernel⟩, by decide⟩
theorem zse152 {s : State} : ∀ (args : Array Value), (∀ w ∈ zGw, w.before args s = true) → (Cond.selects (znm 152).cls (znm 152) (znm 152)).before args s = true := fun _ h => h _ (zmg (zg0 87 rfl) rfl)
theorem zmy153 : zMy 153 1 := ⟨zk268, zk740, ⟨by decide +kernel, by decide +kernel, by decide +kernel⟩, by decide⟩
theorem zse153 {s : State} : ∀ (args : Array Value), (∀ w ∈ zGw, w.before args s = true) → (Cond.selects (znm 153).cls (znm 153) (znm 153)).before args s = true := fun _ h => h _ (zmg (zg0 84 rfl) rfl)
theorem zmy154 : zMy 154 2 := ⟨zk268, zk741, ⟨by decide +kernel, by decide +kernel, by decide +kernel⟩, by decide⟩
theorem zse154 {s : State} : ∀ (args : Array Value), (∀ w ∈ zGw, w.before args s = true) → (Cond.selects (znm 154).cls (znm 154) (znm 154)).before args s = true := fun _ h => h _ (zmg (zg5 213 rfl) rfl)
theorem zmy155 : zMy 155 0 := ⟨zk268, zk742, ⟨by decide +kernel, by decide +kernel, by decide +kernel⟩, by decide⟩
theorem zse155 {s : State} : ∀ (args : Array Value), (∀ w ∈ zGw, w.before args s = true) → (Cond.selects (znm 155).cls (znm 155) (znm 155)).before args s = true := fun _ h => h _ (zmg (zg5 238 rfl) rfl)
theorem zmy156 : zMy 156 1 := ⟨zk268, zk743, ⟨by decide +kernel, by decide +kernel, by decide +kernel⟩, by decide⟩
theorem zse156 {s : State} : ∀ (args : Array Value), (∀ w ∈ zGw, w.before args s = true) → (Cond.selects (znm 156).cls (znm 156) (znm 156)).before args s = true := fun _ h => h _ (zmg (zg6 2 rfl) rfl)
theorem zmy157 : zMy 157 1 := ⟨zk268, zk744, ⟨by decide +kernel, by decide +kernel, by decide +kernel⟩, by decide⟩
theorem zse157 {s : State} : ∀ (args : Array Value), (∀ w ∈ zGw, w.before args s = true) → (Cond.selects (znm 157).cls (znm 157) (znm 157)).before args s = true := fun _ h => h _ (zmg (zg6 6 rfl) rfl)
theorem zmy158 : zMy 158 0 := ⟨zk268, zk745, ⟨by decide +kernel, by decide +kernel, by decide +kernel⟩, by decide⟩
theorem zse158 {s : State} : ∀ (args : Array Value), (∀ w ∈ zGw, w.before args s = true) → (Cond.selects (znm 158).cls (znm 158) (znm 158)).before args s = true := fun _ h => h _ (zmg (zg0 89 rfl) rfl)
theorem zmy159 : zMy 159 1 := ⟨zk268, zk746, ⟨by decide +kernel, by decide +kernel, by decide +kernel⟩, by decide⟩
theorem zse159 {s : State} : ∀ (args : Array Value), (∀ w ∈ zGw, w.before args s = true) → (Cond.selects (znm 159).cls (znm 159) (znm 159)).before args s = true := fun _ h => h _ (zmg (zg6 10 rfl) rfl)
theorem zmy160 : zMy 160 0 := ⟨zk268, zk747, ⟨by decide +kernel, by decide +kernel, by decide +kernel⟩, by decide⟩
theorem zse160 {s : State} : ∀ (args : Array Value), (∀ w ∈ zGw, w.before args s = true) → (Cond.selects (znm 160).cls (znm 160) (znm 160)).before args s = true := fun _ h => h _ (zmg (zg6 18 rfl) rfl)
theorem zmy161 : zMy 161 1 := ⟨zk268, zk748, ⟨by decide +kernel, by decide +kernel, by decide +kernel⟩, by decide⟩
theorem zse161 {s : State} : ∀ (args : Array Value), (∀ w ∈ zGw, w.before args s = true) → (Cond.selects (znm 161).cls (znm 161) (znm 161)).before args s = true := fun _ h => h _ (zmg (zg6 22 rfl) rfl)
theorem zmy162 : zMy 162 0 := ⟨zk268, zk749, ⟨by decide +kernel, by decide +kernel, by decide +kernel⟩, by decide⟩
theorem zse162 {s : State} : ∀ (args : Array Value), (∀ w ∈ zGw, w.before args s = true) → (Cond.selects (znm 162).cls (znm 162) (znm 162)).before args s = true := fun _ h => h _ (zmg (zg6 26 rfl) rfl)
theorem zmy163 : zMy 163 0 := ⟨zk268, zk750, ⟨by decide +kernel, by decide +kernel, by decide +kernel⟩, by decide⟩
theorem zse163 {s : State} : ∀ (args : Array Value), (∀ w ∈ zGw, w.before args s = true) → (Cond.selects (znm 163).cls (znm 163) (znm 163)).before args s = true := fun _ h => h _ (zmg (zg6 30 rfl) rfl)
theorem zmy164 : zMy 164 0 := ⟨zk268, zk751, ⟨by decide +kernel, by decide +kernel, by decide +kernel⟩, by decide⟩
theorem zse164 {s : State} : ∀ (args : Array Value), (∀ w ∈ zGw, w.before args s = true) → (Cond.selects (znm 164).cls (znm 164) (znm 164)).before args s = true := fun _ h => h _ (zmg (zg0 90 rfl) rfl)
theorem zmy165 : zMy 165 0 := ⟨zk268, zk752, ⟨by decide +kernel, by decide +kernel, by decide +kernel⟩, by decide⟩
theorem zse165 {s : State} : ∀ (args : Array Value), (∀ w ∈ zGw, w.before args s = true) → (Cond.selects (znm 165).cls (znm 165) (znm 165)).before args s = true := fun _ h => h _ (zmg (zg6 34 rfl) rfl)
theorem zmy166 : zMy 166 0 := ⟨zk268, zk753, ⟨by decide +kernel, by decide +kernel, by decide +kernel⟩, by decide⟩
theorem zse166 {s : State} : ∀ (args : Array Value), (∀ w ∈ zGw, w.before args s = true) → (Cond.selects (znm 166).cls (znm 166) (znm 166)).before args s = true := fun _ h => h _ (zmg (zg6 42 rfl) rfl)
theorem zmy167 : zMy 167 1 := ⟨zk268, zk754, ⟨by decide +kernel, by decide +kernel, by decide +kernel⟩, by decide⟩
theorem zse167 {s : State} : ∀ (args : Array Value), (∀ w ∈ zGw, w.before args s = true) → (Cond.selects (znm 167).cls (znm 167) (znm 167)).before args s = true := fun _ h => h _ (zmg (zg6 46 rfl) rfl)
theorem zmy168 : zMy 168 2 := ⟨zk268, zk755, ⟨by decide +kernel, by decide +kernel, by decide +kernel⟩, by decide⟩
theorem zse168 {s : State} : ∀ (args : Array Value), (∀ w ∈ zGw, w.before args s = true) → (Cond.selects (znm 168).cls (znm 168) (znm 168)).before args s = true := fun _ h => h _ (zmg (zg6 50 rfl) rfl)
theorem zmy169 : zMy 169 1 := ⟨zk268, zk756, ⟨by decide +kernel, by decide +kernel, by decide +kernel⟩, by decide⟩
theorem zse169 {s : State} : ∀ (args : Array Value), (∀ w ∈ zGw, w.before args s = true) → (Cond.selects (znm 169).cls (znm 169) (znm 169)).before args s = true := fun _ h => h _ (zmg (zg6 54 rfl) rfl)
theorem zmy170 : zMy 170 0 := ⟨zk268, zk757, ⟨by decide +kernel, by decide +kernel, by decide +kernel⟩, by decide⟩
theorem zse170 {s : State} : ∀ (args : Array Value), (∀ w ∈ zGw, w.before args s = true) → (Cond.selects (znm 170).cls (znm 170) (znm 170)).before args s = true := fun _ h => h _ (zmg (zg0 91 rfl) rfl)
theorem zmy171 : zMy 171 2 := ⟨zk268, zk758, ⟨by decide +kernel, by decide +kernel, by decide +kernel⟩, by decide⟩
theorem zse171 {s : State} : ∀ (args : Array Value), (∀ w ∈ zGw, w.before args s = true) → (Cond.selects (znm 171).cls (znm 171) (znm 171)).before args s = true := fun _ h => h _ (zmg (zg6 58 rfl) rfl)
theorem zmy172 : zMy 172 0 := ⟨zk268, zk759, ⟨by decide +kernel, by decide +kernel, by decide +kernel⟩, by decide⟩
theorem zse172 {s : State} : ∀ (args : Array Value), (∀ w ∈ zGw, w.before args s = true) → (Cond.selects (znm 172).cls (znm 172) (znm 172)).before args s = true := fun _ h => h _ (zmg (zg6 66 rfl) rfl)
theorem zmy173 : zMy 173 2 := ⟨zk268, zk760, ⟨by decide +kernel, by decide +kernel, by decide +kernel⟩, by decide⟩
theorem zse173 {s : State} : ∀ (args : Array Value), (∀ w ∈ zGw, w.before args s = true) → (Cond.selects (znm 173).cls (znm 173) (znm 173)).before args s = true := fun _ h => h _ (zmg (zg0 93 rfl) rfl)
theorem zmy174 : zMy 174 3 := ⟨zk268, zk761, ⟨by decide +kernel, by decide +kernel, by decide +kernel⟩, by decide⟩
theorem zse174 {s : State} : ∀ (args : Array Value), (∀ w ∈ zGw, w.before args s = true) → (Cond.selects (znm 174).cls (znm 174) (znm 174)).before args s = true := fun _ h => h _ (zmg (zg0 92 rfl) rfl)
theorem zmy175 : zMy 175 2 := ⟨zk268, zk762, ⟨by decide +kernel, by decide +kernel, by decide +kernel⟩, by decide⟩
theorem zse175 {s : State} : ∀ (args : Array Value), (∀ w ∈ zGw, w.before args s = true) → (Cond.selects (znm 175).cls (znm 175) (znm 175)).before args s = true := fun _ h => h _ (zmg (zg6 70 rfl) rfl)
theorem zmy176 : zMy 176 2 := ⟨zk268, zk763, ⟨by decide +kernel, by decide +kernel, by decide +kernel⟩, by decide⟩
theorem zse176 {s : State} : ∀ (args : Array Value), (∀ w ∈ zGw, w.before args s = true) → (Cond.selects (znm 176).cls (znm 176) (znm 176)).before args s = true := fun _ h => h _ (zmg (zg6 83 rfl) rfl)
theorem zmy177 : zMy 177 1 := ⟨zk268, zk764, ⟨by decide +kernel, by decide +kernel, by decide +kernel⟩, by decide⟩
theorem zse177 {s : State} : ∀ (args : Array Value), (∀ w ∈ zGw, w.before args s = true) → (Cond.selects (znm 177).cls (znm 177) (znm 177)).before args s = true := fun _ h => h _ (zmg (zg6 87 rfl) rfl)
theorem zmy178 : zMy 178 1 := ⟨zk268, zk765, ⟨by decide +kernel, by decide +kernel, by decide +kernel⟩, by decide⟩
theorem zse178 {s : State} : ∀ (args : Array Value), (∀ w ∈ zGw, w.before args s = true) → (Cond.selects (znm 178).cls (znm 178) (znm 178)).before args s = true := fun _ h => h _ (zmg (zg6 91 rfl) rfl)
theorem zmy179 : zMy 179 2 := ⟨zk268, zk766, ⟨by decide +kernel, by decide +kernel, by decide +kernel⟩, by decide⟩
theorem zse179 {s : State} : ∀ (args : Array Value), (∀ w ∈ zGw, w.before args s = true) → (Cond.selects (znm 179).cls (znm 179) (znm 179)).before args s = true := fun _ h => h _ (zmg (zg6 95 rfl) rfl)
theorem zmy180 : zMy 180 0 := ⟨zk268, zk767, ⟨by decide +kernel, by decide +kernel, by decide +kernel⟩, by decide⟩
theorem zse180 {s : State} : ∀ (args : Array Value), (∀ w ∈ zGw, w.before args s = true) → (Cond.selects (znm 180).cls (znm 180) (znm 180)).before args s = true := fun _ h => h _ (zmg (zg6 99 rfl) rfl)
theorem zmy181 : zMy 181 2 := ⟨zk268, zk768, ⟨by decide +kernel, by decide +kernel, by decide +kernel⟩, by decide⟩
theorem zse181 {s : State} : ∀ (args : Array Value), (∀ w ∈ zGw, w.before args s = true) → (Cond.selects (znm 181).cls (znm 181) (znm 181)).before args s = true := fun _ h => h _ (zmg (zg6 103 rfl) rfl)
theorem zmy182 : zMy 182 0 := ⟨zk268, zk769, ⟨by decide +kernel, by decide +kernel, by decide +kernel⟩, by decide⟩
theorem zse182 {s : State} : ∀ (args : Array Value), (∀ w ∈ zGw, w.before args s = true) → (Cond.selects (znm 182).cls (znm 182) (znm 182)).before args s = true := fun _ h => h _ (zmg (zg6 111 rfl) rfl)
theorem zmy183 : zMy 183 0 := ⟨zk268, zk770, ⟨by decide +kernel, by decide +kernel, by decide +kernel⟩, by decide⟩
theorem zse183 {s : State} : ∀ (args : Array Value), (∀ w ∈ zGw, w.before args s = true) → (Cond.selects (znm 183).cls (znm 183) (znm 183)).before args s = true := fun _ h => h _ (zmg (zg6 115 rfl) rfl)
theorem zmy184 : zMy 184 1 := ⟨zk268, zk771, ⟨by decide +kernel, by decide +kernel, by decide +kernel⟩, by decide⟩
theorem zse184 {s : State} : ∀ (args : Array Value), (∀ w ∈ zGw, w.before args s = true) → (Cond.selects (znm 184).cls (znm 184) (znm 184)).before args s = true := fun _ h => h _ (zmg (zg0 96 rfl) rfl)
theorem zmy185 : zMy 185 2 := ⟨zk268, zk772, ⟨by decide +kernel, by decide +kernel, by decide +kernel⟩, by decide⟩
theorem zse185 {s : State} : ∀ (args : Array Value), (∀ w ∈ zGw, w.before args s = true) → (Cond.selects (znm 185).cls (znm 185) (znm 185)).before args s = true := fun _ h => h _ (zmg (zg0 97 rfl) rfl)
theorem zmy186 : zMy 186 2 := ⟨zk268, zk773, ⟨by decide +kernel, by decide +kernel, by decide +kernel⟩, by decide⟩
theorem zse186 {s : State} : ∀ (args : Array Value), (∀ w ∈ zGw, w.before args s = true) → (Cond.selects (znm 186).cls (znm 186) (znm 186)).before args s = true := fun _ h => h _ (zmg (zg0 95 rfl) rfl)
theorem zmy187 : zMy 187 2 := ⟨zk268, zk774, ⟨by decide +kernel, by decide +kernel, by decide +kernel⟩, by decide⟩
theorem zse187 {s : State} : ∀ (args : Array Value), (∀ w ∈ zGw, w.before args s = true) → (Cond.selects (znm 187).cls (znm 187) (znm 187)).before args s = true := fun _ h => h _ (zmg (zg0 100 rfl) rfl)
theorem zmy188 : zMy 188 2 := ⟨zk268, zk775, ⟨by decide +kernel, by decide +kernel, by decide +kernel⟩, by decide⟩
theorem zse188 {s : State} : ∀ (args : Array Value), (∀ w ∈ zGw, w.before args s = true) → (Cond.selects (znm 188).cls (znm 188) (znm 188)).before args s = true := fun _ h => h _ (zmg (zg0 99 rfl) rfl)
theorem zmy189 : zMy 189 2 := ⟨zk268, zk776, ⟨by decide +kernel, by decide +kernel, by decide +kernel⟩, by decide⟩
theorem zse189 {s : State} : ∀ (args : Array Value), (∀ w ∈ zGw, w.before args s = true) → (Cond.selects (znm 189).cls (znm 189) (znm 189)).before args s = true := fun _ h => h _ (zmg (zg0 98 rfl) rfl)
theorem zmy190 : zMy 190 2 := ⟨zk268, zk777, ⟨by decide +kernel, by decide +kernel, by decide +kernel⟩, by decide⟩
theorem zse190 {s : State} : ∀ (args : Array Value), (∀ w ∈ zGw, w.before args s = true) → (Cond.selects (znm 190).cls (znm 190) (znm 190)).before args s = true := fun _ h => h _ (zmg (zg0 102 rfl) rfl)
theorem zmy191 : zMy 191 2 := ⟨zk268, zk778, ⟨by decide +kernel, by decide +kernel, by decide +kernel⟩, by decide⟩
theorem zse191 {s : State} : ∀ (args : Array Value), (∀ w ∈ zGw, w.before args s = true) → (Cond.selects (znm 191).cls (znm 191) (znm 191)).before args s = true := fun _ h => h _ (zmg (zg0 101 rfl) rfl)
theorem zmy192 : zMy 192 3 := ⟨zk268, zk779, ⟨by decide +kernel, by decide +kernel, by decide +kernel⟩, by decide⟩
theorem zse192 {s : State} : ∀ (args : Array Value), (∀ w ∈ zGw, w.before args s = true) → (Cond.selects (znm 192).cls (znm 192) (znm 192)).before args s = true := fun _ h => h _ (zmg (zg6 119 rfl) rfl)
theorem zmy193 : zMy 193 1 := ⟨zk268, zk780, ⟨by decide +kernel, by decide +kernel, by decide +kernel⟩, by decide⟩
theorem zse193 {s : State} : ∀ (args : Array Value), (∀ w ∈ zGw, w.before args s = true) → (Cond.selects (znm 193).cls (znm 193) (znm 193)).before args s = true := fun _ h => h _ (zmg (zg6 155 rfl) rfl)
theorem zmy194 : zMy 194 2 := ⟨zk268, zk781, ⟨by decide +kernel, by decide +kernel, by decide +kernel⟩, by decide⟩
theorem zse194 {s : State} : ∀ (args : Array Value), (∀ w ∈ zGw, w.before args s = true) → (Cond.selects (znm 194).cls (znm 194) (znm 194)).before args s = true := fun _ h => h _ (zmg (zg6 159 rfl) rfl)
theorem zmy195 : zMy 195 1 := ⟨zk268, zk782, ⟨by decide +kernel, by decide +kernel, by decide +kernel⟩, by decide⟩
theorem zse195 {s : State} : ∀ (args : Array Value), (∀ w ∈ zGw, w.before args s = true) → (Cond.selects (znm 195).cls (znm 195) (znm 195)).before args s = true := fun _ h => h _ (zmg (zg6 163 rfl) rfl)
theorem zmy196 : zMy 196 1 := ⟨zk268, zk783, ⟨by decide +kernel, by decide +kernel, by decide +kernel⟩, by decide⟩
theorem zse196 {s : State} : ∀ (args : Array Value), (∀ w ∈ zGw, w.before args s = true) → (Cond.selects (znm 196).cls (znm 196) (znm 196)).before args s = true := fun _ h => h _ (zmg (zg0 94 rfl) rfl)
theorem zmy197 : zMy 197 3 := ⟨zk268, zk784, ⟨by decide +kernel, by decide +kernel, by decide +kernel⟩, by decide⟩
theorem zse197 {s : State} : ∀ (args : Array Value), (∀ w ∈ zGw, w.before args s = true) → (Cond.selects (znm 197).cls (znm 197) (znm 197)).before args s = true := fun _ h => h _ (zmg (zg6 167 rfl) rfl)
theorem zmy198 : zMy 198 2 := ⟨zk268, zk785, ⟨by decide +kernel, by decide +kernel, by decide +kernel⟩, by decide⟩
theorem zse198 {s : State} : ∀ (args : Array Value), (∀ w ∈ zGw, w.before args s = true) → (Cond.selects (znm 198).cls (znm 198) (znm 198)).before args s = true := fun _ h => h _ (zmg (zg0 103 rfl) rfl)
theorem zmy199 : zMy 199 3 := ⟨zk268, zk786, ⟨by decide +kernel, by decide +kernel, by decide +kernel⟩, by decide⟩
theorem zse199 {s : State} : ∀ (args : Array Value), (∀ w ∈ zGw, w.before args s = true) → (Cond.selects (znm 199).cls (znm 199) (znm 199)).before args s = true := fun _ h => h _ (zmg (zg6 171 rfl) rfl)
theorem zmy200 : zMy 200 2 := ⟨zk268, zk787, ⟨by decide +kernel, by decide +kernel, by decide +kernel⟩, by decide⟩
theorem zse200 {s : State} : ∀ (args : Array Value), (∀ w ∈ zGw, w.before args s = true) → (Cond.selects (znm 200).cls (znm 200) (znm 200)).before args s = true := fun _ h => h _ (zmg (zg6 179 rfl) rfl)
theorem zmy201 : zMy 201 5 := ⟨zk268, zk788, ⟨by decide +kernel, by decide +kernel, by decide +kernel⟩, by decide⟩
theorem zse201 {s : State} : ∀ (args : Array Value), (∀ w ∈ zGw, w.before args s = true) → (Cond.selects (znm 201).cls (znm 201) (znm 201)).before args s = true := fun _ h => h _ (zmg (zg6 183 rfl) rfl)
theorem zmy202 : zMy 202 2 := ⟨zk789, zk790, ⟨by decide +kernel, by decide +kernel, by decide +kernel⟩, by decide⟩
theorem zmy203 : zMy 203 0 := ⟨zk789, zk791, ⟨by decide +kernel, by decide +kernel, by decide +kernel⟩, by decide⟩
theorem zse203 {s : State} : ∀ (args : Array Value), (∀ w ∈ zGw, w.before args s = true) → (Cond.selects (znm 203).cls (znm 203) (znm 203)).before args s = true := fun _ h => h _ (zmg (zg2 115 rfl) rfl)
theorem zmy204 : zMy 204 0 := ⟨zk789, zk792, ⟨by decide +kernel, by decide +kernel, by decide +kernel⟩, by decide⟩
theorem zse204 {s : State} : ∀ (args : Array Value), (∀ w ∈ zGw, w.before args s = true) → (Cond.selects (znm 204).cls (znm 204) (znm 204)).before args s = true := fun _ h => h _ (zmg (zg2 119 rfl) rfl)
theorem zmy205 : zMy 205 1 := ⟨zk789, zk793, ⟨by decide +kernel, by decide +kernel, by decide +kernel⟩, by decide⟩
theorem zse205 {s : State} : ∀ (args : Array Value), (∀ w ∈ zGw, w.before args s = true) → (Cond.selects (znm 205).cls (znm 205) (znm 205)).before args s = true := fun _ h => h _ (zmg (zg2 125 rfl) rfl)
theorem zmy206 : zMy 206 0 := ⟨zk789, zk794, ⟨by decide +kernel, by decide +kernel, by decide +kernel⟩, by decide⟩
theorem zse206 {s : State} : ∀ (args : Array Value), (∀ w ∈ zGw, w.before args s = true) → (Cond.selects (znm 206).cls (znm 206) (znm 206)).before args s = true := fun _ h => h _ (zmg (zg2 129 rfl) rfl)
theorem zmy207 : zMy 207 2 := ⟨zk795, zk796, ⟨by decide +kernel, by decide +kernel, by decide +kernel⟩, by decide⟩
theorem zmy208 : zMy 208 1 := ⟨zk789, zk797, ⟨by decide +kernel, by decide +kernel, by decide +kernel⟩, by decide⟩
theorem zse208 {s : State} : ∀ (args : Array Value), (∀ w ∈ zGw, w.before args s = true) → (Cond.selects (znm 208).cls (znm 208) (znm 208)).before args s = true := fun _ h => h _ (zmg (zg2 192 rfl) rfl)
theorem zmy209 : zMy 209 2 := ⟨zk789, zk798, ⟨by decide +kernel, by decide +kernel, by decide +kernel⟩, by decide⟩
theorem zse209 {s : State} : ∀ (args : Array Value), (∀ w ∈ zGw, w.before args s = true) → (Cond.selects (znm 209).cls (znm 209) (znm 209)).before args s = true := fun _ h => h _ (zmg (zg2 196 rfl) rfl)
theorem zmy210 : zMy 210 4 := ⟨zk795, zk799, ⟨by decide +kernel, by decide +kernel, by decide +kernel⟩, by decide⟩
theorem zmy211 : zMy 211 1 := ⟨zk795, zk800, ⟨by decide +kernel, by decide +kernel, by decide +kernel⟩, by decide⟩
theorem zmy212 : zMy 212 4 := ⟨zk795, zk801, ⟨by decide +kernel, by decide +kernel, by decide +kernel⟩, by decide⟩
