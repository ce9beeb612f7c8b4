theorem tw0 : Cond.initialized "EdgeFinderLaw" ∈ eT := eT_t 0 (by decide +kernel) rfl
theorem tw1 : Cond.initialized "EdgeFinder" ∈ eT := eT_t 1 (by decide +kernel) rfl
theorem tw2 : Cond.initialized "EdgeFinder$Row" ∈ eT := eT_t 2 (by decide +kernel) rfl
theorem tw3 : Cond.initialized "EdgeFinder$Edges" ∈ eT := eT_t 3 (by decide +kernel) rfl
theorem tw4 : Cond.initialized "EdgeFinder$Rules" ∈ eT := eT_t 4 (by decide +kernel) rfl
theorem tw5 : Cond.initialized "EdgeFinder$GraphemeRules" ∈ eT := eT_t 5 (by decide +kernel) rfl
theorem tw6 : Cond.initialized "EdgeFinder$WordRules" ∈ eT := eT_t 6 (by decide +kernel) rfl
theorem tw7 : Cond.initialized "EdgeFinderModel" ∈ eT := eT_t 7 (by decide +kernel) rfl
theorem tw8 : Cond.initialized "java/lang/Throwable" ∈ eT := eT_t 8 (by decide +kernel) rfl
theorem tw9 : Cond.initialized "java/lang/Exception" ∈ eT := eT_t 9 (by decide +kernel) rfl
theorem tw10 : Cond.initialized "java/lang/RuntimeException" ∈ eT := eT_t 10 (by decide +kernel) rfl
theorem tw11 : Cond.initialized "java/lang/IllegalArgumentException" ∈ eT := eT_t 11 (by decide +kernel) rfl
theorem tw12 : Cond.initialized "java/lang/IndexOutOfBoundsException" ∈ eT := eT_t 12 (by decide +kernel) rfl
theorem tw13 : Cond.classLink "EdgeFinderLaw" 8 "EdgeFinder" ∈ eT := eT_t 13 (by decide +kernel) rfl
theorem tw14 : Cond.instantiable "EdgeFinder" 3 ∈ eT := eT_t 14 (by decide +kernel) rfl
theorem tw15 : Cond.methodLink "EdgeFinderLaw" 39 yX5_init ∈ eT := eT_t 15 (by decide +kernel) rfl
theorem tw16 : Cond.instanceMethod yX5_init ∈ eT := eT_t 16 (by decide +kernel) rfl
theorem tw17 : Cond.code yX5_init cX5_init 1 none ∈ eT := eT_t 17 (by decide +kernel) rfl
theorem tw18 : Cond.methodLink "EdgeFinder" 1 objectInit ∈ eT := eT_t 18 (by decide +kernel) rfl
theorem tw19 : Cond.instanceMethod objectInit ∈ eT := eT_t 19 (by decide +kernel) rfl
theorem tw20 : Cond.code objectInit ⟨#[0xb1]⟩ 1 none ∈ eT := eT_t 20 (by decide +kernel) rfl
theorem tw21 : Cond.classLink "EdgeFinder" 7 "EdgeFinder$Row" ∈ eT := eT_t 21 (by decide +kernel) rfl
theorem tw22 : Cond.instantiable "EdgeFinder$Row" 4 ∈ eT := eT_t 22 (by decide +kernel) rfl
theorem tw24 : Cond.instanceMethod yX2_init ∈ eT := eT_t 24 (by decide +kernel) rfl
theorem tw25 : Cond.code yX2_init cX2_init 1 none ∈ eT := eT_t 25 (by decide +kernel) rfl
theorem tw26 : Cond.methodLink "EdgeFinder$Row" 3 objectInit ∈ eT := eT_t 26 (by decide +kernel) rfl
theorem tw27 : Cond.fieldLink "EdgeFinder$Row" 9 "EdgeFinder$Row" "graphemes" "[I" ∈ eT := eT_t 27 (by decide +kernel) rfl
theorem tw28 : Cond.fieldLink "EdgeFinder$GraphemeRules" 25 "EdgeFinder$Row" "graphemes" "[I" ∈ eT := eT_t 28 (by decide +kernel) rfl
theorem tw29 : Cond.fieldLink "EdgeFinder$Row" 15 "EdgeFinder$Row" "words" "[I" ∈ eT := eT_t 29 (by decide +kernel) rfl
theorem tw30 : Cond.fieldLink "EdgeFinder$WordRules" 25 "EdgeFinder$Row" "words" "[I" ∈ eT := eT_t 30 (by decide +kernel) rfl
theorem tw31 : Cond.fieldLink "EdgeFinder$Row" 18 "EdgeFinder$Row" "pictures" "[Z" ∈ eT := eT_t 31 (by decide +kernel) rfl
theorem tw32 : Cond.fieldLink "EdgeFinder$WordRules" 35 "EdgeFinder$Row" "pictures" "[Z" ∈ eT := eT_t 32 (by decide +kernel) rfl
theorem tw33 : Cond.fieldLink "EdgeFinder$GraphemeRules" 38 "EdgeFinder$Row" "pictures" "[Z" ∈ eT := eT_t 33 (by decide +kernel) rfl
theorem tw34 : Cond.fieldLink "EdgeFinder$Row" 22 "EdgeFinder$Row" "size" "I" ∈ eT := eT_t 34 (by decide +kernel) rfl
theorem tw35 : Cond.fieldLink "EdgeFinder$Edges" 28 "EdgeFinder$Row" "size" "I" ∈ eT := eT_t 35 (by decide +kernel) rfl
theorem tw36 : Cond.fieldLink "EdgeFinder" 38 "EdgeFinder$Row" "size" "I" ∈ eT := eT_t 36 (by decide +kernel) rfl
theorem tw37 : Cond.fieldLink "EdgeFinder$WordRules" 59 "EdgeFinder$Row" "size" "I" ∈ eT := eT_t 37 (by decide +kernel) rfl
theorem tw38 : Cond.laysFinal "EdgeFinder$Row" "EdgeFinder$Row" "graphemes" "[I" ∈ eT := eT_t 38 (by decide +kernel) rfl
theorem tw40 : Cond.laysFinal "EdgeFinder$Row" "EdgeFinder$Row" "words" "[I" ∈ eT := eT_t 40 (by decide +kernel) rfl
theorem tw42 : Cond.laysFinal "EdgeFinder$Row" "EdgeFinder$Row" "pictures" "[Z" ∈ eT := eT_t 42 (by decide +kernel) rfl
theorem tw44 : Cond.lays "EdgeFinder$Row" "EdgeFinder$Row" "size" "I" ∈ eT := eT_t 44 (by decide +kernel) rfl
theorem tw46 : Cond.superclass "EdgeFinder$Row" "java/lang/Object" ∈ eT := eT_t 46 (by decide +kernel) rfl
theorem tw47 : Cond.arrayClass .int ∈ eT := eT_t 47 (by decide +kernel) rfl
theorem tw48 : Cond.arrayClass .boolean ∈ eT := eT_t 48 (by decide +kernel) rfl
theorem tw49 : Cond.classLink "EdgeFinder" 16 "EdgeFinder$Edges" ∈ eT := eT_t 49 (by decide +kernel) rfl
theorem tw50 : Cond.instantiable "EdgeFinder$Edges" 3 ∈ eT := eT_t 50 (by decide +kernel) rfl
theorem tw51 : Cond.classLink "EdgeFinder" 18 "EdgeFinder$GraphemeRules" ∈ eT := eT_t 51 (by decide +kernel) rfl
theorem tw52 : Cond.instantiable "EdgeFinder$GraphemeRules" 4 ∈ eT := eT_t 52 (by decide +kernel) rfl
theorem tw54 : Cond.instanceMethod yX1_init ∈ eT := eT_t 54 (by decide +kernel) rfl
theorem tw55 : Cond.code yX1_init cX1_init 1 none ∈ eT := eT_t 55 (by decide +kernel) rfl
theorem tw57 : Cond.instanceMethod yX3_init ∈ eT := eT_t 57 (by decide +kernel) rfl
theorem tw58 : Cond.code yX3_init cX3_init 1 none ∈ eT := eT_t 58 (by decide +kernel) rfl
theorem tw59 : Cond.methodLink "EdgeFinder$Rules" 1 objectInit ∈ eT := eT_t 59 (by decide +kernel) rfl
theorem tw60 : Cond.fieldLink "EdgeFinder$GraphemeRules" 9 "EdgeFinder$GraphemeRules" "before" "I" ∈ eT := eT_t 60 (by decide +kernel) rfl
theorem tw61 : Cond.fieldLink "EdgeFinder$GraphemeRules" 15 "EdgeFinder$GraphemeRules" "oddIndicators" "Z" ∈ eT := eT_t 61 (by decide +kernel) rfl
theorem tw62 : Cond.fieldLink "EdgeFinder$GraphemeRules" 19 "EdgeFinder$GraphemeRules" "afterPicture" "Z" ∈ eT := eT_t 62 (by decide +kernel) rfl
theorem tw63 : Cond.fieldLink "EdgeFinder$GraphemeRules" 22 "EdgeFinder$GraphemeRules" "afterPictureAndJoiner" "Z" ∈ eT := eT_t 63 (by decide +kernel) rfl
theorem tw64 : Cond.lays "EdgeFinder$GraphemeRules" "EdgeFinder$GraphemeRules" "before" "I" ∈ eT := eT_t 64 (by decide +kernel) rfl
theorem tw66 : Cond.lays "EdgeFinder$GraphemeRules" "EdgeFinder$GraphemeRules" "oddIndicators" "Z" ∈ eT := eT_t 66 (by decide +kernel) rfl
theorem tw68 : Cond.lays "EdgeFinder$GraphemeRules" "EdgeFinder$GraphemeRules" "afterPicture" "Z" ∈ eT := eT_t 68 (by decide +kernel) rfl
theorem tw70 : Cond.lays "EdgeFinder$GraphemeRules" "EdgeFinder$GraphemeRules" "afterPictureAndJoiner" "Z" ∈ eT := eT_t 70 (by decide +kernel) rfl
theorem tw72 : Cond.superclass "EdgeFinder$GraphemeRules" "EdgeFinder$Rules" ∈ eT := eT_t 72 (by decide +kernel) rfl
theorem tw73 : Cond.methodLink "EdgeFinder" 21 yX0_init ∈ eT := eT_t 73 (by decide +kernel) rfl
theorem tw74 : Cond.instanceMethod yX0_init ∈ eT := eT_t 74 (by decide +kernel) rfl
theorem tw75 : Cond.code yX0_init cX0_init 2 none ∈ eT := eT_t 75 (by decide +kernel) rfl
theorem tw76 : Cond.methodLink "EdgeFinder$Edges" 3 objectInit ∈ eT := eT_t 76 (by decide +kernel) rfl
theorem tw77 : Cond.fieldLink "EdgeFinder$Edges" 9 "EdgeFinder$Edges" "marks" "[Z" ∈ eT := eT_t 77 (by decide +kernel) rfl
theorem tw78 : Cond.fieldLink "EdgeFinder" 60 "EdgeFinder$Edges" "marks" "[Z" ∈ eT := eT_t 78 (by decide +kernel) rfl
theorem tw79 : Cond.fieldLink "EdgeFinder$Edges" 15 "EdgeFinder$Edges" "stale" "Z" ∈ eT := eT_t 79 (by decide +kernel) rfl
theorem tw80 : Cond.fieldLink "EdgeFinder" 83 "EdgeFinder$Edges" "stale" "Z" ∈ eT := eT_t 80 (by decide +kernel) rfl
theorem tw81 : Cond.fieldLink "EdgeFinder$Edges" 19 "EdgeFinder$Edges" "rules" "LEdgeFinder$Rules;" ∈ eT := eT_t 81 (by decide +kernel) rfl
theorem tw82 : Cond.laysFinal "EdgeFinder$Edges" "EdgeFinder$Edges" "marks" "[Z" ∈ eT := eT_t 82 (by decide +kernel) rfl
theorem tw84 : Cond.lays "EdgeFinder$Edges" "EdgeFinder$Edges" "stale" "Z" ∈ eT := eT_t 84 (by decide +kernel) rfl
theorem tw86 : Cond.laysFinal "EdgeFinder$Edges" "EdgeFinder$Edges" "rules" "LEdgeFinder$Rules;" ∈ eT := eT_t 86 (by decide +kernel) rfl
theorem tw88 : Cond.superclass "EdgeFinder$Edges" "java/lang/Object" ∈ eT := eT_t 88 (by decide +kernel) rfl
theorem tw89 : Cond.classLink "EdgeFinder" 28 "EdgeFinder$WordRules" ∈ eT := eT_t 89 (by decide +kernel) rfl
theorem tw90 : Cond.instantiable "EdgeFinder$WordRules" 4 ∈ eT := eT_t 90 (by decide +kernel) rfl
theorem tw92 : Cond.instanceMethod yX4_init ∈ eT := eT_t 92 (by decide +kernel) rfl
theorem tw93 : Cond.code yX4_init cX4_init 1 none ∈ eT := eT_t 93 (by decide +kernel) rfl
theorem tw95 : Cond.fieldLink "EdgeFinder$WordRules" 9 "EdgeFinder$WordRules" "before" "I" ∈ eT := eT_t 95 (by decide +kernel) rfl
theorem tw96 : Cond.fieldLink "EdgeFinder$WordRules" 15 "EdgeFinder$WordRules" "last" "I" ∈ eT := eT_t 96 (by decide +kernel) rfl
theorem tw97 : Cond.fieldLink "EdgeFinder$WordRules" 18 "EdgeFinder$WordRules" "lastButOne" "I" ∈ eT := eT_t 97 (by decide +kernel) rfl
theorem tw98 : Cond.fieldLink "EdgeFinder$WordRules" 21 "EdgeFinder$WordRules" "oddIndicators" "Z" ∈ eT := eT_t 98 (by decide +kernel) rfl
theorem tw99 : Cond.lays "EdgeFinder$WordRules" "EdgeFinder$WordRules" "before" "I" ∈ eT := eT_t 99 (by decide +kernel) rfl
theorem tw101 : Cond.lays "EdgeFinder$WordRules" "EdgeFinder$WordRules" "last" "I" ∈ eT := eT_t 101 (by decide +kernel) rfl
theorem tw103 : Cond.lays "EdgeFinder$WordRules" "EdgeFinder$WordRules" "lastButOne" "I" ∈ eT := eT_t 103 (by decide +kernel) rfl
theorem tw105 : Cond.lays "EdgeFinder$WordRules" "EdgeFinder$WordRules" "oddIndicators" "Z" ∈ eT := eT_t 105 (by decide +kernel) rfl
theorem tw107 : Cond.superclass "EdgeFinder$WordRules" "EdgeFinder$Rules" ∈ eT := eT_t 107 (by decide +kernel) rfl
theorem tw108 : Cond.fieldLink "EdgeFinder" 10 "EdgeFinder" "row" "LEdgeFinder$Row;" ∈ eT := eT_t 108 (by decide +kernel) rfl
theorem tw109 : Cond.fieldLink "EdgeFinder" 24 "EdgeFinder" "graphemeEdges" "LEdgeFinder$Edges;" ∈ eT := eT_t 109 (by decide +kernel) rfl
theorem tw110 : Cond.fieldLink "EdgeFinder" 31 "EdgeFinder" "wordEdges" "LEdgeFinder$Edges;" ∈ eT := eT_t 110 (by decide +kernel) rfl
theorem tw111 : Cond.laysFinal "EdgeFinder" "EdgeFinder" "row" "LEdgeFinder$Row;" ∈ eT := eT_t 111 (by decide +kernel) rfl
theorem tw113 : Cond.laysFinal "EdgeFinder" "EdgeFinder" "graphemeEdges" "LEdgeFinder$Edges;" ∈ eT := eT_t 113 (by decide +kernel) rfl
theorem tw115 : Cond.laysFinal "EdgeFinder" "EdgeFinder" "wordEdges" "LEdgeFinder$Edges;" ∈ eT := eT_t 115 (by decide +kernel) rfl
theorem tw117 : Cond.superclass "EdgeFinder" "java/lang/Object" ∈ eT := eT_t 117 (by decide +kernel) rfl
theorem tw118 : Cond.methodLink "EdgeFinderLaw" 43 yL_add ∈ eT := eT_t 118 (by decide +kernel) rfl
theorem tw119 : Cond.static yL_add ∈ eT := eT_t 119 (by decide +kernel) rfl
theorem tw120 : Cond.codeWith yL_add cL_add 6 (some .int) [(0, 12, 15, 13), (0, 12, 19, 15)] ∈ eT := eT_t 120 (by decide +kernel) rfl
theorem tw121 : Cond.classLink "EdgeFinderLaw" 13 "java/lang/IllegalArgumentException" ∈ eT := eT_t 121 (by decide +kernel) rfl
theorem tw122 : Cond.classLink "EdgeFinderLaw" 15 "java/lang/IndexOutOfBoundsException" ∈ eT := eT_t 122 (by decide +kernel) rfl
theorem tw123 : Cond.methodLink "EdgeFinderLaw" 7 yX5_add ∈ eT := eT_t 123 (by decide +kernel) rfl
theorem tw124 : Cond.instanceMethod yX5_add ∈ eT := eT_t 124 (by decide +kernel) rfl
theorem tw125 : Cond.selects "EdgeFinder" yX5_add yX5_add ∈ eT := eT_t 125 (by decide +kernel) rfl
theorem tw126 : Cond.code yX5_add cX5_add 4 (some .int) ∈ eT := eT_t 126 (by decide +kernel) rfl
theorem tw127 : Cond.methodLink "EdgeFinder" 34 yX5_requireUpTo ∈ eT := eT_t 127 (by decide +kernel) rfl
theorem tw128 : Cond.static yX5_requireUpTo ∈ eT := eT_t 128 (by decide +kernel) rfl
theorem tw129 : Cond.code yX5_requireUpTo cX5_requireUpTo 2 none ∈ eT := eT_t 129 (by decide +kernel) rfl
theorem tw130 : Cond.classLink "EdgeFinder" 78 "java/lang/IllegalArgumentException" ∈ eT := eT_t 130 (by decide +kernel) rfl
theorem tw149 : Cond.lays "java/lang/IllegalArgumentException" "java/lang/Throwable" "backtrace" "Ljava/lang/Object;" ∈ eT := eT_t 149 (by decide +kernel) rfl
theorem tw150 : Cond.lays "java/lang/Throwable" "java/lang/Throwable" "backtrace" "Ljava/lang/Object;" ∈ eT := eT_t 150 (by decide +kernel) rfl
theorem tw151 : Cond.fieldLink "java/lang/Throwable" 198 "java/lang/Throwable" "backtrace" "Ljava/lang/Object;" ∈ eT := eT_t 151 (by decide +kernel) rfl
theorem tw152 : Cond.superclass "java/lang/Throwable" "java/lang/Object" ∈ eT := eT_t 152 (by decide +kernel) rfl
theorem tw155 : Cond.methodLink "java/lang/Throwable" 1 objectInit ∈ eT := eT_t 155 (by decide +kernel) rfl
theorem tw171 : Cond.methodLink "EdgeFinder" 82 ⟨"java/lang/IllegalArgumentException", "<init>", "(Ljava/lang/String;)V"⟩ ∈ eT := eT_t 171 (by decide +kernel) rfl
theorem tw196 : Cond.arrayClass .byte ∈ eT := eT_t 196 (by decide +kernel) rfl
theorem tw197 : Cond.classLink "EdgeFinder" 42 "java/lang/IndexOutOfBoundsException" ∈ eT := eT_t 197 (by decide +kernel) rfl
theorem tw205 : Cond.lays "java/lang/IndexOutOfBoundsException" "java/lang/Throwable" "backtrace" "Ljava/lang/Object;" ∈ eT := eT_t 205 (by decide +kernel) rfl
theorem tw207 : Cond.methodLink "EdgeFinder" 46 ⟨"java/lang/IndexOutOfBoundsException", "<init>", "(Ljava/lang/String;)V"⟩ ∈ eT := eT_t 207 (by decide +kernel) rfl
theorem tw213 : Cond.methodLink "EdgeFinder" 49 yX2_write ∈ eT := eT_t 213 (by decide +kernel) rfl
theorem tw214 : Cond.instanceMethod yX2_write ∈ eT := eT_t 214 (by decide +kernel) rfl
theorem tw215 : Cond.selects "EdgeFinder$Row" yX2_write yX2_write ∈ eT := eT_t 215 (by decide +kernel) rfl
theorem tw216 : Cond.code yX2_write cX2_write 5 none ∈ eT := eT_t 216 (by decide +kernel) rfl
theorem tw217 : Cond.methodLink "EdgeFinder" 53 yX5_forgetEdges ∈ eT := eT_t 217 (by decide +kernel) rfl
theorem tw219 : Cond.instanceMethod yX5_forgetEdges ∈ eT := eT_t 219 (by decide +kernel) rfl
theorem tw220 : Cond.code yX5_forgetEdges cX5_forgetEdges 1 none ∈ eT := eT_t 220 (by decide +kernel) rfl
theorem tw221 : Cond.methodLink "EdgeFinderLaw" 53 yL_set ∈ eT := eT_t 221 (by decide +kernel) rfl
theorem tw222 : Cond.static yL_set ∈ eT := eT_t 222 (by decide +kernel) rfl
theorem tw223 : Cond.codeWith yL_set cL_set 6 (some .int) [(0, 9, 12, 13)] ∈ eT := eT_t 223 (by decide +kernel) rfl
theorem tw224 : Cond.methodLink "EdgeFinderLaw" 17 yX5_set ∈ eT := eT_t 224 (by decide +kernel) rfl
theorem tw225 : Cond.instanceMethod yX5_set ∈ eT := eT_t 225 (by decide +kernel) rfl
theorem tw226 : Cond.selects "EdgeFinder" yX5_set yX5_set ∈ eT := eT_t 226 (by decide +kernel) rfl
theorem tw227 : Cond.code yX5_set cX5_set 5 none ∈ eT := eT_t 227 (by decide +kernel) rfl
theorem tw228 : Cond.methodLink "EdgeFinderLaw" 57 yL_cut ∈ eT := eT_t 228 (by decide +kernel) rfl
theorem tw229 : Cond.static yL_cut ∈ eT := eT_t 229 (by decide +kernel) rfl
theorem tw230 : Cond.codeWith yL_cut cL_cut 4 (some .int) [(0, 9, 12, 13)] ∈ eT := eT_t 230 (by decide +kernel) rfl
theorem tw231 : Cond.methodLink "EdgeFinderLaw" 21 yX5_cut ∈ eT := eT_t 231 (by decide +kernel) rfl
theorem tw232 : Cond.instanceMethod yX5_cut ∈ eT := eT_t 232 (by decide +kernel) rfl
theorem tw233 : Cond.selects "EdgeFinder" yX5_cut yX5_cut ∈ eT := eT_t 233 (by decide +kernel) rfl
theorem tw234 : Cond.code yX5_cut cX5_cut 3 (some .int) ∈ eT := eT_t 234 (by decide +kernel) rfl
theorem tw235 : Cond.methodLink "EdgeFinderLaw" 61 yL_edge ∈ eT := eT_t 235 (by decide +kernel) rfl
theorem tw236 : Cond.static yL_edge ∈ eT := eT_t 236 (by decide +kernel) rfl
theorem tw237 : Cond.codeWith yL_edge cL_edge 5 (some .int) [(0, 17, 20, 13)] ∈ eT := eT_t 237 (by decide +kernel) rfl
theorem tw238 : Cond.methodLink "EdgeFinderLaw" 25 yX5_edge ∈ eT := eT_t 238 (by decide +kernel) rfl
theorem tw239 : Cond.instanceMethod yX5_edge ∈ eT := eT_t 239 (by decide +kernel) rfl
theorem tw240 : Cond.selects "EdgeFinder" yX5_edge yX5_edge ∈ eT := eT_t 240 (by decide +kernel) rfl
theorem tw241 : Cond.code yX5_edge cX5_edge 3 (some .boolean) ∈ eT := eT_t 241 (by decide +kernel) rfl
theorem tw242 : Cond.methodLink "EdgeFinder" 56 yX5_edgesOf ∈ eT := eT_t 242 (by decide +kernel) rfl
theorem tw244 : Cond.instanceMethod yX5_edgesOf ∈ eT := eT_t 244 (by decide +kernel) rfl
theorem tw245 : Cond.code yX5_edgesOf cX5_edgesOf 3 (some (.object "EdgeFinder$Edges")) ∈ eT := eT_t 245 (by decide +kernel) rfl
theorem tw246 : Cond.methodLink "EdgeFinder" 87 yX0_find ∈ eT := eT_t 246 (by decide +kernel) rfl
theorem tw247 : Cond.instanceMethod yX0_find ∈ eT := eT_t 247 (by decide +kernel) rfl
theorem tw248 : Cond.selects "EdgeFinder$Edges" yX0_find yX0_find ∈ eT := eT_t 248 (by decide +kernel) rfl
theorem tw249 : Cond.code yX0_find cX0_find 3 none ∈ eT := eT_t 249 (by decide +kernel) rfl
theorem tw250 : Cond.methodLink "EdgeFinder$Edges" 23 ⟨"EdgeFinder$Rules", "begin", "()V"⟩ ∈ eT := eT_t 250 (by decide +kernel) rfl
theorem tw252 : Cond.sameMethod "EdgeFinder$Rules" "EdgeFinder$Rules" "begin" "()V" ∈ eT := eT_t 252 (by decide +kernel) rfl
theorem tw253 : Cond.selects "EdgeFinder$GraphemeRules" ⟨"EdgeFinder$Rules", "begin", "()V"⟩ yX1_begin ∈ eT := eT_t 253 (by decide +kernel) rfl
theorem tw254 : Cond.instanceMethod yX1_begin ∈ eT := eT_t 254 (by decide +kernel) rfl
theorem tw255 : Cond.code yX1_begin cX1_begin 1 none ∈ eT := eT_t 255 (by decide +kernel) rfl
theorem tw256 : Cond.selects "EdgeFinder$WordRules" ⟨"EdgeFinder$Rules", "begin", "()V"⟩ yX4_begin ∈ eT := eT_t 256 (by decide +kernel) rfl
theorem tw257 : Cond.instanceMethod yX4_begin ∈ eT := eT_t 257 (by decide +kernel) rfl
theorem tw258 : Cond.code yX4_begin cX4_begin 1 none ∈ eT := eT_t 258 (by decide +kernel) rfl
theorem tw259 : Cond.methodLink "EdgeFinder$Edges" 34 ⟨"EdgeFinder$Rules", "part", "(LEdgeFinder$Row;I)Z"⟩ ∈ eT := eT_t 259 (by decide +kernel) rfl
theorem tw261 : Cond.sameMethod "EdgeFinder$Rules" "EdgeFinder$Rules" "part" "(LEdgeFinder$Row;I)Z" ∈ eT := eT_t 261 (by decide +kernel) rfl
theorem tw262 : Cond.selects "EdgeFinder$GraphemeRules" ⟨"EdgeFinder$Rules", "part", "(LEdgeFinder$Row;I)Z"⟩ yX1_part ∈ eT := eT_t 262 (by decide +kernel) rfl
theorem tw263 : Cond.instanceMethod yX1_part ∈ eT := eT_t 263 (by decide +kernel) rfl
theorem tw264 : Cond.code yX1_part cX1_part 4 (some .boolean) ∈ eT := eT_t 264 (by decide +kernel) rfl
theorem tw265 : Cond.methodLink "EdgeFinder$GraphemeRules" 31 yX1_isControl ∈ eT := eT_t 265 (by decide +kernel) rfl
theorem tw266 : Cond.static yX1_isControl ∈ eT := eT_t 266 (by decide +kernel) rfl
theorem tw267 : Cond.code yX1_isControl cX1_isControl 1 (some .boolean) ∈ eT := eT_t 267 (by decide +kernel) rfl
theorem tw268 : Cond.methodLink "EdgeFinder$GraphemeRules" 35 yX1_isSyllable ∈ eT := eT_t 268 (by decide +kernel) rfl
theorem tw270 : Cond.instanceMethod yX1_isSyllable ∈ eT := eT_t 270 (by decide +kernel) rfl
theorem tw271 : Cond.code yX1_isSyllable cX1_isSyllable 2 (some .boolean) ∈ eT := eT_t 271 (by decide +kernel) rfl
theorem tw272 : Cond.selects "EdgeFinder$WordRules" ⟨"EdgeFinder$Rules", "part", "(LEdgeFinder$Row;I)Z"⟩ yX4_part ∈ eT := eT_t 272 (by decide +kernel) rfl
theorem tw273 : Cond.instanceMethod yX4_part ∈ eT := eT_t 273 (by decide +kernel) rfl
theorem tw274 : Cond.code yX4_part cX4_part 5 (some .boolean) ∈ eT := eT_t 274 (by decide +kernel) rfl
theorem tw275 : Cond.methodLink "EdgeFinder$WordRules" 31 yX4_isLineEnd ∈ eT := eT_t 275 (by decide +kernel) rfl
theorem tw276 : Cond.static yX4_isLineEnd ∈ eT := eT_t 276 (by decide +kernel) rfl
theorem tw277 : Cond.code yX4_isLineEnd cX4_isLineEnd 1 (some .boolean) ∈ eT := eT_t 277 (by decide +kernel) rfl
theorem tw278 : Cond.methodLink "EdgeFinder$WordRules" 39 yX4_isAttached ∈ eT := eT_t 278 (by decide +kernel) rfl
theorem tw279 : Cond.static yX4_isAttached ∈ eT := eT_t 279 (by decide +kernel) rfl
theorem tw280 : Cond.code yX4_isAttached cX4_isAttached 1 (some .boolean) ∈ eT := eT_t 280 (by decide +kernel) rfl
theorem tw281 : Cond.methodLink "EdgeFinder$WordRules" 42 yX4_classAhead ∈ eT := eT_t 281 (by decide +kernel) rfl
theorem tw282 : Cond.static yX4_classAhead ∈ eT := eT_t 282 (by decide +kernel) rfl
theorem tw283 : Cond.code yX4_classAhead cX4_classAhead 3 (some .int) ∈ eT := eT_t 283 (by decide +kernel) rfl
theorem tw284 : Cond.methodLink "EdgeFinder$WordRules" 46 yX4_joinsLetters ∈ eT := eT_t 284 (by decide +kernel) rfl
theorem tw286 : Cond.instanceMethod yX4_joinsLetters ∈ eT := eT_t 286 (by decide +kernel) rfl
theorem tw287 : Cond.code yX4_joinsLetters cX4_joinsLetters 3 (some .boolean) ∈ eT := eT_t 287 (by decide +kernel) rfl
theorem tw288 : Cond.methodLink "EdgeFinder$WordRules" 62 yX4_isLetter ∈ eT := eT_t 288 (by decide +kernel) rfl
theorem tw289 : Cond.static yX4_isLetter ∈ eT := eT_t 289 (by decide +kernel) rfl
theorem tw290 : Cond.code yX4_isLetter cX4_isLetter 1 (some .boolean) ∈ eT := eT_t 290 (by decide +kernel) rfl
theorem tw291 : Cond.methodLink "EdgeFinder$WordRules" 65 yX4_isMidLetter ∈ eT := eT_t 291 (by decide +kernel) rfl
theorem tw292 : Cond.static yX4_isMidLetter ∈ eT := eT_t 292 (by decide +kernel) rfl
theorem tw293 : Cond.code yX4_isMidLetter cX4_isMidLetter 1 (some .boolean) ∈ eT := eT_t 293 (by decide +kernel) rfl
theorem tw294 : Cond.methodLink "EdgeFinder$WordRules" 74 yX4_isMidOfBoth ∈ eT := eT_t 294 (by decide +kernel) rfl
theorem tw295 : Cond.static yX4_isMidOfBoth ∈ eT := eT_t 295 (by decide +kernel) rfl
theorem tw296 : Cond.code yX4_isMidOfBoth cX4_isMidOfBoth 1 (some .boolean) ∈ eT := eT_t 296 (by decide +kernel) rfl
theorem tw297 : Cond.methodLink "EdgeFinder$WordRules" 50 yX4_joinsHebrew ∈ eT := eT_t 297 (by decide +kernel) rfl
theorem tw299 : Cond.instanceMethod yX4_joinsHebrew ∈ eT := eT_t 299 (by decide +kernel) rfl
theorem tw300 : Cond.code yX4_joinsHebrew cX4_joinsHebrew 3 (some .boolean) ∈ eT := eT_t 300 (by decide +kernel) rfl
theorem tw301 : Cond.methodLink "EdgeFinder$WordRules" 53 yX4_joinsNumbers ∈ eT := eT_t 301 (by decide +kernel) rfl
theorem tw303 : Cond.instanceMethod yX4_joinsNumbers ∈ eT := eT_t 303 (by decide +kernel) rfl
theorem tw304 : Cond.code yX4_joinsNumbers cX4_joinsNumbers 3 (some .boolean) ∈ eT := eT_t 304 (by decide +kernel) rfl
theorem tw305 : Cond.methodLink "EdgeFinder$WordRules" 68 yX4_isMidNumber ∈ eT := eT_t 305 (by decide +kernel) rfl
theorem tw306 : Cond.static yX4_isMidNumber ∈ eT := eT_t 306 (by decide +kernel) rfl
theorem tw307 : Cond.code yX4_isMidNumber cX4_isMidNumber 1 (some .boolean) ∈ eT := eT_t 307 (by decide +kernel) rfl
theorem tw308 : Cond.methodLink "EdgeFinder$WordRules" 56 yX4_joinsRuns ∈ eT := eT_t 308 (by decide +kernel) rfl
theorem tw310 : Cond.instanceMethod yX4_joinsRuns ∈ eT := eT_t 310 (by decide +kernel) rfl
theorem tw311 : Cond.code yX4_joinsRuns cX4_joinsRuns 2 (some .boolean) ∈ eT := eT_t 311 (by decide +kernel) rfl
theorem tw312 : Cond.methodLink "EdgeFinder$WordRules" 71 yX4_isRunPart ∈ eT := eT_t 312 (by decide +kernel) rfl
theorem tw313 : Cond.static yX4_isRunPart ∈ eT := eT_t 313 (by decide +kernel) rfl
theorem tw314 : Cond.code yX4_isRunPart cX4_isRunPart 1 (some .boolean) ∈ eT := eT_t 314 (by decide +kernel) rfl
theorem tw315 : Cond.methodLink "EdgeFinder$Edges" 38 ⟨"EdgeFinder$Rules", "pass", "(LEdgeFinder$Row;I)V"⟩ ∈ eT := eT_t 315 (by decide +kernel) rfl
theorem tw317 : Cond.sameMethod "EdgeFinder$Rules" "EdgeFinder$Rules" "pass" "(LEdgeFinder$Row;I)V" ∈ eT := eT_t 317 (by decide +kernel) rfl
theorem tw318 : Cond.selects "EdgeFinder$GraphemeRules" ⟨"EdgeFinder$Rules", "pass", "(LEdgeFinder$Row;I)V"⟩ yX1_pass ∈ eT := eT_t 318 (by decide +kernel) rfl
theorem tw319 : Cond.instanceMethod yX1_pass ∈ eT := eT_t 319 (by decide +kernel) rfl
theorem tw320 : Cond.code yX1_pass cX1_pass 4 none ∈ eT := eT_t 320 (by decide +kernel) rfl
theorem tw321 : Cond.selects "EdgeFinder$WordRules" ⟨"EdgeFinder$Rules", "pass", "(LEdgeFinder$Row;I)V"⟩ yX4_pass ∈ eT := eT_t 321 (by decide +kernel) rfl
theorem tw322 : Cond.instanceMethod yX4_pass ∈ eT := eT_t 322 (by decide +kernel) rfl
theorem tw323 : Cond.code yX4_pass cX4_pass 5 none ∈ eT := eT_t 323 (by decide +kernel) rfl
theorem tw324 : Cond.methodLink "EdgeFinderLaw" 65 yL_next ∈ eT := eT_t 324 (by decide +kernel) rfl
theorem tw325 : Cond.static yL_next ∈ eT := eT_t 325 (by decide +kernel) rfl
theorem tw326 : Cond.codeWith yL_next cL_next 6 (some .int) [(0, 12, 15, 13)] ∈ eT := eT_t 326 (by decide +kernel) rfl
theorem tw327 : Cond.methodLink "EdgeFinderLaw" 29 yX5_next ∈ eT := eT_t 327 (by decide +kernel) rfl
theorem tw328 : Cond.instanceMethod yX5_next ∈ eT := eT_t 328 (by decide +kernel) rfl
theorem tw329 : Cond.selects "EdgeFinder" yX5_next yX5_next ∈ eT := eT_t 329 (by decide +kernel) rfl
theorem tw330 : Cond.code yX5_next cX5_next 5 (some .int) ∈ eT := eT_t 330 (by decide +kernel) rfl
theorem tw331 : Cond.methodLink "EdgeFinder" 64 yX0_lastBefore ∈ eT := eT_t 331 (by decide +kernel) rfl
theorem tw332 : Cond.instanceMethod yX0_lastBefore ∈ eT := eT_t 332 (by decide +kernel) rfl
theorem tw333 : Cond.selects "EdgeFinder$Edges" yX0_lastBefore yX0_lastBefore ∈ eT := eT_t 333 (by decide +kernel) rfl
theorem tw334 : Cond.code yX0_lastBefore cX0_lastBefore 3 (some .int) ∈ eT := eT_t 334 (by decide +kernel) rfl
theorem tw335 : Cond.methodLink "EdgeFinder" 68 yX0_firstBehind ∈ eT := eT_t 335 (by decide +kernel) rfl
theorem tw336 : Cond.instanceMethod yX0_firstBehind ∈ eT := eT_t 336 (by decide +kernel) rfl
theorem tw337 : Cond.selects "EdgeFinder$Edges" yX0_firstBehind yX0_firstBehind ∈ eT := eT_t 337 (by decide +kernel) rfl
theorem tw338 : Cond.code yX0_firstBehind cX0_firstBehind 4 (some .int) ∈ eT := eT_t 338 (by decide +kernel) rfl
theorem tw339 : Cond.methodLink "EdgeFinderLaw" 68 yL_rank ∈ eT := eT_t 339 (by decide +kernel) rfl
theorem tw340 : Cond.static yL_rank ∈ eT := eT_t 340 (by decide +kernel) rfl
theorem tw341 : Cond.codeWith yL_rank cL_rank 5 (some .int) [(0, 10, 13, 13)] ∈ eT := eT_t 341 (by decide +kernel) rfl
theorem tw342 : Cond.methodLink "EdgeFinderLaw" 32 yX5_rank ∈ eT := eT_t 342 (by decide +kernel) rfl
theorem tw343 : Cond.instanceMethod yX5_rank ∈ eT := eT_t 343 (by decide +kernel) rfl
theorem tw344 : Cond.selects "EdgeFinder" yX5_rank yX5_rank ∈ eT := eT_t 344 (by decide +kernel) rfl
theorem tw345 : Cond.code yX5_rank cX5_rank 3 (some .int) ∈ eT := eT_t 345 (by decide +kernel) rfl
theorem tw346 : Cond.methodLink "EdgeFinder" 72 yX0_countUpTo ∈ eT := eT_t 346 (by decide +kernel) rfl
theorem tw347 : Cond.instanceMethod yX0_countUpTo ∈ eT := eT_t 347 (by decide +kernel) rfl
theorem tw348 : Cond.selects "EdgeFinder$Edges" yX0_countUpTo yX0_countUpTo ∈ eT := eT_t 348 (by decide +kernel) rfl
theorem tw349 : Cond.code yX0_countUpTo cX0_countUpTo 4 (some .int) ∈ eT := eT_t 349 (by decide +kernel) rfl
theorem tw350 : Cond.methodLink "EdgeFinderLaw" 71 yL_hash ∈ eT := eT_t 350 (by decide +kernel) rfl
theorem tw351 : Cond.static yL_hash ∈ eT := eT_t 351 (by decide +kernel) rfl
theorem tw352 : Cond.codeWith yL_hash cL_hash 4 (some .int) [(0, 9, 12, 13)] ∈ eT := eT_t 352 (by decide +kernel) rfl
theorem tw353 : Cond.methodLink "EdgeFinderLaw" 36 yX5_hash ∈ eT := eT_t 353 (by decide +kernel) rfl
theorem tw354 : Cond.instanceMethod yX5_hash ∈ eT := eT_t 354 (by decide +kernel) rfl
theorem tw355 : Cond.selects "EdgeFinder" yX5_hash yX5_hash ∈ eT := eT_t 355 (by decide +kernel) rfl
theorem tw356 : Cond.code yX5_hash cX5_hash 2 (some .int) ∈ eT := eT_t 356 (by decide +kernel) rfl
theorem tw357 : Cond.methodLink "EdgeFinder" 75 yX0_mixUpTo ∈ eT := eT_t 357 (by decide +kernel) rfl
theorem tw358 : Cond.instanceMethod yX0_mixUpTo ∈ eT := eT_t 358 (by decide +kernel) rfl
theorem tw359 : Cond.selects "EdgeFinder$Edges" yX0_mixUpTo yX0_mixUpTo ∈ eT := eT_t 359 (by decide +kernel) rfl
theorem tw360 : Cond.code yX0_mixUpTo cX0_mixUpTo 4 (some .int) ∈ eT := eT_t 360 (by decide +kernel) rfl
theorem tw361 : Cond.classLink "EdgeFinderLaw" 40 "EdgeFinderModel" ∈ eT := eT_t 361 (by decide +kernel) rfl
theorem tw362 : Cond.instantiable "EdgeFinderModel" 5 ∈ eT := eT_t 362 (by decide +kernel) rfl
theorem tw363 : Cond.methodLink "EdgeFinderLaw" 42 yX6_init ∈ eT := eT_t 363 (by decide +kernel) rfl
theorem tw364 : Cond.instanceMethod yX6_init ∈ eT := eT_t 364 (by decide +kernel) rfl
theorem tw365 : Cond.code yX6_init cX6_init 1 none ∈ eT := eT_t 365 (by decide +kernel) rfl
theorem tw366 : Cond.methodLink "EdgeFinderModel" 1 objectInit ∈ eT := eT_t 366 (by decide +kernel) rfl
theorem tw367 : Cond.fieldLink "EdgeFinderModel" 20 "EdgeFinderModel" "failed" "I" ∈ eT := eT_t 367 (by decide +kernel) rfl
theorem tw368 : Cond.fieldLink "EdgeFinderModel" 24 "EdgeFinderModel" "n" "I" ∈ eT := eT_t 368 (by decide +kernel) rfl
theorem tw369 : Cond.fieldLink "EdgeFinderModel" 7 "EdgeFinderModel" "clusters" "[I" ∈ eT := eT_t 369 (by decide +kernel) rfl
theorem tw370 : Cond.fieldLink "EdgeFinderModel" 13 "EdgeFinderModel" "words" "[I" ∈ eT := eT_t 370 (by decide +kernel) rfl
theorem tw371 : Cond.fieldLink "EdgeFinderModel" 16 "EdgeFinderModel" "pictures" "[Z" ∈ eT := eT_t 371 (by decide +kernel) rfl
theorem tw372 : Cond.lays "EdgeFinderModel" "EdgeFinderModel" "failed" "I" ∈ eT := eT_t 372 (by decide +kernel) rfl
theorem tw374 : Cond.lays "EdgeFinderModel" "EdgeFinderModel" "n" "I" ∈ eT := eT_t 374 (by decide +kernel) rfl
theorem tw376 : Cond.laysFinal "EdgeFinderModel" "EdgeFinderModel" "clusters" "[I" ∈ eT := eT_t 376 (by decide +kernel) rfl
theorem tw378 : Cond.laysFinal "EdgeFinderModel" "EdgeFinderModel" "words" "[I" ∈ eT := eT_t 378 (by decide +kernel) rfl
theorem tw380 : Cond.laysFinal "EdgeFinderModel" "EdgeFinderModel" "pictures" "[Z" ∈ eT := eT_t 380 (by decide +kernel) rfl
theorem tw382 : Cond.superclass "EdgeFinderModel" "java/lang/Object" ∈ eT := eT_t 382 (by decide +kernel) rfl
theorem tw383 : Cond.methodLink "EdgeFinderLaw" 49 yX6_thrown ∈ eT := eT_t 383 (by decide +kernel) rfl
theorem tw384 : Cond.instanceMethod yX6_thrown ∈ eT := eT_t 384 (by decide +kernel) rfl
theorem tw385 : Cond.selects "EdgeFinderModel" yX6_thrown yX6_thrown ∈ eT := eT_t 385 (by decide +kernel) rfl
theorem tw386 : Cond.code yX6_thrown cX6_thrown 1 (some .int) ∈ eT := eT_t 386 (by decide +kernel) rfl
theorem tw387 : Cond.methodLink "EdgeFinderLaw" 48 yX6_add ∈ eT := eT_t 387 (by decide +kernel) rfl
theorem tw388 : Cond.instanceMethod yX6_add ∈ eT := eT_t 388 (by decide +kernel) rfl
theorem tw389 : Cond.selects "EdgeFinderModel" yX6_add yX6_add ∈ eT := eT_t 389 (by decide +kernel) rfl
theorem tw390 : Cond.code yX6_add cX6_add 4 (some .int) ∈ eT := eT_t 390 (by decide +kernel) rfl
theorem tw391 : Cond.methodLink "EdgeFinderModel" 59 yX6_fail ∈ eT := eT_t 391 (by decide +kernel) rfl
theorem tw393 : Cond.instanceMethod yX6_fail ∈ eT := eT_t 393 (by decide +kernel) rfl
theorem tw394 : Cond.code yX6_fail cX6_fail 2 (some .int) ∈ eT := eT_t 394 (by decide +kernel) rfl
theorem tw395 : Cond.methodLink "EdgeFinderLaw" 56 yX6_set ∈ eT := eT_t 395 (by decide +kernel) rfl
theorem tw396 : Cond.instanceMethod yX6_set ∈ eT := eT_t 396 (by decide +kernel) rfl
theorem tw397 : Cond.selects "EdgeFinderModel" yX6_set yX6_set ∈ eT := eT_t 397 (by decide +kernel) rfl
theorem tw398 : Cond.code yX6_set cX6_set 5 none ∈ eT := eT_t 398 (by decide +kernel) rfl
theorem tw399 : Cond.methodLink "EdgeFinderLaw" 60 yX6_cut ∈ eT := eT_t 399 (by decide +kernel) rfl
theorem tw400 : Cond.instanceMethod yX6_cut ∈ eT := eT_t 400 (by decide +kernel) rfl
theorem tw401 : Cond.selects "EdgeFinderModel" yX6_cut yX6_cut ∈ eT := eT_t 401 (by decide +kernel) rfl
theorem tw402 : Cond.code yX6_cut cX6_cut 3 (some .int) ∈ eT := eT_t 402 (by decide +kernel) rfl
theorem tw403 : Cond.methodLink "EdgeFinderLaw" 64 yX6_edge ∈ eT := eT_t 403 (by decide +kernel) rfl
theorem tw404 : Cond.instanceMethod yX6_edge ∈ eT := eT_t 404 (by decide +kernel) rfl
theorem tw405 : Cond.selects "EdgeFinderModel" yX6_edge yX6_edge ∈ eT := eT_t 405 (by decide +kernel) rfl
theorem tw406 : Cond.code yX6_edge cX6_edge 3 (some .boolean) ∈ eT := eT_t 406 (by decide +kernel) rfl
theorem tw407 : Cond.methodLink "EdgeFinderModel" 62 yX6_bad ∈ eT := eT_t 407 (by decide +kernel) rfl
theorem tw409 : Cond.instanceMethod yX6_bad ∈ eT := eT_t 409 (by decide +kernel) rfl
theorem tw410 : Cond.code yX6_bad cX6_bad 3 (some .boolean) ∈ eT := eT_t 410 (by decide +kernel) rfl
theorem tw411 : Cond.methodLink "EdgeFinderModel" 66 yX6_boundary ∈ eT := eT_t 411 (by decide +kernel) rfl
theorem tw413 : Cond.instanceMethod yX6_boundary ∈ eT := eT_t 413 (by decide +kernel) rfl
theorem tw414 : Cond.code yX6_boundary cX6_boundary 3 (some .boolean) ∈ eT := eT_t 414 (by decide +kernel) rfl
theorem tw415 : Cond.methodLink "EdgeFinderModel" 27 yX6_cluster ∈ eT := eT_t 415 (by decide +kernel) rfl
theorem tw417 : Cond.instanceMethod yX6_cluster ∈ eT := eT_t 417 (by decide +kernel) rfl
theorem tw418 : Cond.code yX6_cluster cX6_cluster 6 (some .boolean) ∈ eT := eT_t 418 (by decide +kernel) rfl
theorem tw419 : Cond.methodLink "EdgeFinderModel" 31 yX6_word ∈ eT := eT_t 419 (by decide +kernel) rfl
theorem tw421 : Cond.instanceMethod yX6_word ∈ eT := eT_t 421 (by decide +kernel) rfl
theorem tw422 : Cond.code yX6_word cX6_word 13 (some .boolean) ∈ eT := eT_t 422 (by decide +kernel) rfl
theorem tw423 : Cond.methodLink "EdgeFinderModel" 37 yX6_breaks ∈ eT := eT_t 423 (by decide +kernel) rfl
theorem tw425 : Cond.instanceMethod yX6_breaks ∈ eT := eT_t 425 (by decide +kernel) rfl
theorem tw426 : Cond.code yX6_breaks cX6_breaks 2 (some .boolean) ∈ eT := eT_t 426 (by decide +kernel) rfl
theorem tw427 : Cond.methodLink "EdgeFinderModel" 34 yX6_passed ∈ eT := eT_t 427 (by decide +kernel) rfl
theorem tw429 : Cond.instanceMethod yX6_passed ∈ eT := eT_t 429 (by decide +kernel) rfl
theorem tw430 : Cond.code yX6_passed cX6_passed 2 (some .boolean) ∈ eT := eT_t 430 (by decide +kernel) rfl
theorem tw431 : Cond.methodLink "EdgeFinderModel" 44 yX6_before ∈ eT := eT_t 431 (by decide +kernel) rfl
theorem tw433 : Cond.instanceMethod yX6_before ∈ eT := eT_t 433 (by decide +kernel) rfl
theorem tw434 : Cond.code yX6_before cX6_before 2 (some .int) ∈ eT := eT_t 434 (by decide +kernel) rfl
theorem tw435 : Cond.methodLink "EdgeFinderModel" 40 yX6_counts ∈ eT := eT_t 435 (by decide +kernel) rfl
theorem tw437 : Cond.instanceMethod yX6_counts ∈ eT := eT_t 437 (by decide +kernel) rfl
theorem tw438 : Cond.code yX6_counts cX6_counts 3 (some .int) ∈ eT := eT_t 438 (by decide +kernel) rfl
theorem tw439 : Cond.methodLink "EdgeFinderModel" 47 yX6_wordKind ∈ eT := eT_t 439 (by decide +kernel) rfl
theorem tw441 : Cond.instanceMethod yX6_wordKind ∈ eT := eT_t 441 (by decide +kernel) rfl
theorem tw442 : Cond.code yX6_wordKind cX6_wordKind 2 (some .int) ∈ eT := eT_t 442 (by decide +kernel) rfl
theorem tw443 : Cond.methodLink "EdgeFinderModel" 50 yX6_after ∈ eT := eT_t 443 (by decide +kernel) rfl
theorem tw445 : Cond.instanceMethod yX6_after ∈ eT := eT_t 445 (by decide +kernel) rfl
theorem tw446 : Cond.code yX6_after cX6_after 3 (some .int) ∈ eT := eT_t 446 (by decide +kernel) rfl
theorem tw447 : Cond.methodLink "EdgeFinderModel" 53 yX6_letter ∈ eT := eT_t 447 (by decide +kernel) rfl
theorem tw449 : Cond.instanceMethod yX6_letter ∈ eT := eT_t 449 (by decide +kernel) rfl
theorem tw450 : Cond.code yX6_letter cX6_letter 2 (some .boolean) ∈ eT := eT_t 450 (by decide +kernel) rfl
theorem tw451 : Cond.methodLink "EdgeFinderModel" 56 yX6_quote ∈ eT := eT_t 451 (by decide +kernel) rfl
theorem tw453 : Cond.instanceMethod yX6_quote ∈ eT := eT_t 453 (by decide +kernel) rfl
theorem tw454 : Cond.code yX6_quote cX6_quote 2 (some .boolean) ∈ eT := eT_t 454 (by decide +kernel) rfl
theorem tw455 : Cond.methodLink "EdgeFinderLaw" 67 yX6_next ∈ eT := eT_t 455 (by decide +kernel) rfl
theorem tw456 : Cond.instanceMethod yX6_next ∈ eT := eT_t 456 (by decide +kernel) rfl
theorem tw457 : Cond.selects "EdgeFinderModel" yX6_next yX6_next ∈ eT := eT_t 457 (by decide +kernel) rfl
theorem tw458 : Cond.code yX6_next cX6_next 6 (some .int) ∈ eT := eT_t 458 (by decide +kernel) rfl
theorem tw459 : Cond.methodLink "EdgeFinderLaw" 70 yX6_rank ∈ eT := eT_t 459 (by decide +kernel) rfl
theorem tw460 : Cond.instanceMethod yX6_rank ∈ eT := eT_t 460 (by decide +kernel) rfl
theorem tw461 : Cond.selects "EdgeFinderModel" yX6_rank yX6_rank ∈ eT := eT_t 461 (by decide +kernel) rfl
theorem tw462 : Cond.code yX6_rank cX6_rank 5 (some .int) ∈ eT := eT_t 462 (by decide +kernel) rfl
theorem tw463 : Cond.methodLink "EdgeFinderLaw" 73 yX6_hash ∈ eT := eT_t 463 (by decide +kernel) rfl
theorem tw464 : Cond.instanceMethod yX6_hash ∈ eT := eT_t 464 (by decide +kernel) rfl
theorem tw465 : Cond.selects "EdgeFinderModel" yX6_hash yX6_hash ∈ eT := eT_t 465 (by decide +kernel) rfl
theorem tw466 : Cond.code yX6_hash cX6_hash 4 (some .int) ∈ eT := eT_t 466 (by decide +kernel) rfl
theorem tw467 : Cond.arrayClass .long ∈ eT := eT_t 467 (by decide +kernel) rfl
theorem ts_X5_forgetEdges : Cond.selects RX5 yX5_forgetEdges yX5_forgetEdges ∈ eT := eT_p 1 (by decide +kernel) rfl
theorem ts_X5_edgesOf : Cond.selects RX5 yX5_edgesOf yX5_edgesOf ∈ eT := eT_p 2 (by decide +kernel) rfl
theorem ts_X1_isSyllable : Cond.selects RX1 yX1_isSyllable yX1_isSyllable ∈ eT := eT_p 3 (by decide +kernel) rfl
theorem ts_X4_joinsLetters : Cond.selects RX4 yX4_joinsLetters yX4_joinsLetters ∈ eT := eT_p 4 (by decide +kernel) rfl
theorem ts_X4_joinsHebrew : Cond.selects RX4 yX4_joinsHebrew yX4_joinsHebrew ∈ eT := eT_p 5 (by decide +kernel) rfl
theorem ts_X4_joinsNumbers : Cond.selects RX4 yX4_joinsNumbers yX4_joinsNumbers ∈ eT := eT_p 6 (by decide +kernel) rfl
theorem ts_X4_joinsRuns : Cond.selects RX4 yX4_joinsRuns yX4_joinsRuns ∈ eT := eT_p 7 (by decide +kernel) rfl
theorem ts_X6_fail : Cond.selects RX6 yX6_fail yX6_fail ∈ eT := eT_p 8 (by decide +kernel) rfl
theorem ts_X6_bad : Cond.selects RX6 yX6_bad yX6_bad ∈ eT := eT_p 9 (by decide +kernel) rfl
theorem ts_X6_boundary : Cond.selects RX6 yX6_boundary yX6_boundary ∈ eT := eT_p 10 (by decide +kernel) rfl
theorem ts_X6_cluster : Cond.selects RX6 yX6_cluster yX6_cluster ∈ eT := eT_p 11 (by decide +kernel) rfl
theorem ts_X6_word : Cond.selects RX6 yX6_word yX6_word ∈ eT := eT_p 12 (by decide +kernel) rfl
theorem ts_X6_breaks : Cond.selects RX6 yX6_breaks yX6_breaks ∈ eT := eT_p 13 (by decide +kernel) rfl
theorem ts_X6_passed : Cond.selects RX6 yX6_passed yX6_passed ∈ eT := eT_p 14 (by decide +kernel) rfl
theorem ts_X6_before : Cond.selects RX6 yX6_before yX6_before ∈ eT := eT_p 15 (by decide +kernel) rfl
theorem ts_X6_counts : Cond.selects RX6 yX6_counts yX6_counts ∈ eT := eT_p 16 (by decide +kernel) rfl
theorem ts_X6_wordKind : Cond.selects RX6 yX6_wordKind yX6_wordKind ∈ eT := eT_p 17 (by decide +kernel) rfl
theorem ts_X6_after : Cond.selects RX6 yX6_after yX6_after ∈ eT := eT_p 18 (by decide +kernel) rfl
theorem ts_X6_letter : Cond.selects RX6 yX6_letter yX6_letter ∈ eT := eT_p 19 (by decide +kernel) rfl
theorem ts_X6_quote : Cond.selects RX6 yX6_quote yX6_quote ∈ eT := eT_p 20 (by decide +kernel) rfl
theorem inX0 : ∀ w ∈ u_ws RX0 TX0 3, w ∈ eT := by
  intro w h
  obtain ⟨k, hk, rfl⟩ := List.mem_map.mp h
  have hk : k < 3 := List.mem_range.mp hk
  match k, hk with
  | 0, _ => exact tw82
  | 1, _ => exact tw84
  | 2, _ => exact tw86
theorem inX1 : ∀ w ∈ u_ws RX1 TX1 4, w ∈ eT := by
  intro w h
  obtain ⟨k, hk, rfl⟩ := List.mem_map.mp h
  have hk : k < 4 := List.mem_range.mp hk
  match k, hk with
  | 0, _ => exact tw64
  | 1, _ => exact tw66
  | 2, _ => exact tw68
  | 3, _ => exact tw70
theorem inX2 : ∀ w ∈ u_ws RX2 TX2 4, w ∈ eT := by
  intro w h
  obtain ⟨k, hk, rfl⟩ := List.mem_map.mp h
  have hk : k < 4 := List.mem_range.mp hk
  match k, hk with
  | 0, _ => exact tw38
  | 1, _ => exact tw40
  | 2, _ => exact tw42
  | 3, _ => exact tw44
theorem inX4 : ∀ w ∈ u_ws RX4 TX4 4, w ∈ eT := by
  intro w h
  obtain ⟨k, hk, rfl⟩ := List.mem_map.mp h
  have hk : k < 4 := List.mem_range.mp hk
  match k, hk with
  | 0, _ => exact tw99
  | 1, _ => exact tw101
  | 2, _ => exact tw103
  | 3, _ => exact tw105
theorem inX5 : ∀ w ∈ u_ws RX5 TX5 3, w ∈ eT := by
  intro w h
  obtain ⟨k, hk, rfl⟩ := List.mem_map.mp h
  have hk : k < 3 := List.mem_range.mp hk
  match k, hk with
  | 0, _ => exact tw111
  | 1, _ => exact tw113
  | 2, _ => exact tw115
theorem inX6 : ∀ w ∈ u_ws RX6 TX6 5, w ∈ eT := by
  intro w h
  obtain ⟨k, hk, rfl⟩ := List.mem_map.mp h
  have hk : k < 5 := List.mem_range.mp hk
  match k, hk with
  | 0, _ => exact tw372
  | 1, _ => exact tw374
  | 2, _ => exact tw376
  | 3, _ => exact tw378
  | 4, _ => exact tw380
theorem yd_X5_init : yX5_init.cls ≠ "java/lang/invoke/MethodHandle" ∧ yX5_init.cls ≠ "java/lang/invoke/VarHandle" ∧ (parseMethodDescriptor yX5_init.desc).map (fun d => d.parameters.length) = some 0 := by decide +kernel
theorem yd_X2_init : yX2_init.cls ≠ "java/lang/invoke/MethodHandle" ∧ yX2_init.cls ≠ "java/lang/invoke/VarHandle" ∧ (parseMethodDescriptor yX2_init.desc).map (fun d => d.parameters.length) = some 0 := by decide +kernel
theorem yd_X1_init : yX1_init.cls ≠ "java/lang/invoke/MethodHandle" ∧ yX1_init.cls ≠ "java/lang/invoke/VarHandle" ∧ (parseMethodDescriptor yX1_init.desc).map (fun d => d.parameters.length) = some 0 := by decide +kernel
theorem yd_X3_init : yX3_init.cls ≠ "java/lang/invoke/MethodHandle" ∧ yX3_init.cls ≠ "java/lang/invoke/VarHandle" ∧ (parseMethodDescriptor yX3_init.desc).map (fun d => d.parameters.length) = some 0 := by decide +kernel
theorem yd_X0_init : yX0_init.cls ≠ "java/lang/invoke/MethodHandle" ∧ yX0_init.cls ≠ "java/lang/invoke/VarHandle" ∧ (parseMethodDescriptor yX0_init.desc).map (fun d => d.parameters.length) = some 1 := by decide +kernel
theorem yd_X4_init : yX4_init.cls ≠ "java/lang/invoke/MethodHandle" ∧ yX4_init.cls ≠ "java/lang/invoke/VarHandle" ∧ (parseMethodDescriptor yX4_init.desc).map (fun d => d.parameters.length) = some 0 := by decide +kernel
theorem yd_L_add : yL_add.cls ≠ "java/lang/invoke/MethodHandle" ∧ yL_add.cls ≠ "java/lang/invoke/VarHandle" ∧ (parseMethodDescriptor yL_add.desc).map (fun d => d.parameters.length) = some 5 := by decide +kernel
theorem yd_X5_add : yX5_add.cls ≠ "java/lang/invoke/MethodHandle" ∧ yX5_add.cls ≠ "java/lang/invoke/VarHandle" ∧ (parseMethodDescriptor yX5_add.desc).map (fun d => d.parameters.length) = some 3 := by decide +kernel
theorem yd_X5_requireUpTo : yX5_requireUpTo.cls ≠ "java/lang/invoke/MethodHandle" ∧ yX5_requireUpTo.cls ≠ "java/lang/invoke/VarHandle" ∧ (parseMethodDescriptor yX5_requireUpTo.desc).map (fun d => d.parameters.length) = some 2 := by decide +kernel
theorem yd_X2_write : yX2_write.cls ≠ "java/lang/invoke/MethodHandle" ∧ yX2_write.cls ≠ "java/lang/invoke/VarHandle" ∧ (parseMethodDescriptor yX2_write.desc).map (fun d => d.parameters.length) = some 4 := by decide +kernel
theorem yd_X5_forgetEdges : yX5_forgetEdges.cls ≠ "java/lang/invoke/MethodHandle" ∧ yX5_forgetEdges.cls ≠ "java/lang/invoke/VarHandle" ∧ (parseMethodDescriptor yX5_forgetEdges.desc).map (fun d => d.parameters.length) = some 0 := by decide +kernel
theorem yd_L_set : yL_set.cls ≠ "java/lang/invoke/MethodHandle" ∧ yL_set.cls ≠ "java/lang/invoke/VarHandle" ∧ (parseMethodDescriptor yL_set.desc).map (fun d => d.parameters.length) = some 5 := by decide +kernel
theorem yd_X5_set : yX5_set.cls ≠ "java/lang/invoke/MethodHandle" ∧ yX5_set.cls ≠ "java/lang/invoke/VarHandle" ∧ (parseMethodDescriptor yX5_set.desc).map (fun d => d.parameters.length) = some 4 := by decide +kernel
theorem yd_L_cut : yL_cut.cls ≠ "java/lang/invoke/MethodHandle" ∧ yL_cut.cls ≠ "java/lang/invoke/VarHandle" ∧ (parseMethodDescriptor yL_cut.desc).map (fun d => d.parameters.length) = some 3 := by decide +kernel
theorem yd_X5_cut : yX5_cut.cls ≠ "java/lang/invoke/MethodHandle" ∧ yX5_cut.cls ≠ "java/lang/invoke/VarHandle" ∧ (parseMethodDescriptor yX5_cut.desc).map (fun d => d.parameters.length) = some 1 := by decide +kernel
theorem yd_L_edge : yL_edge.cls ≠ "java/lang/invoke/MethodHandle" ∧ yL_edge.cls ≠ "java/lang/invoke/VarHandle" ∧ (parseMethodDescriptor yL_edge.desc).map (fun d => d.parameters.length) = some 4 := by decide +kernel
theorem yd_X5_edge : yX5_edge.cls ≠ "java/lang/invoke/MethodHandle" ∧ yX5_edge.cls ≠ "java/lang/invoke/VarHandle" ∧ (parseMethodDescriptor yX5_edge.desc).map (fun d => d.parameters.length) = some 2 := by decide +kernel
theorem yd_X5_edgesOf : yX5_edgesOf.cls ≠ "java/lang/invoke/MethodHandle" ∧ yX5_edgesOf.cls ≠ "java/lang/invoke/VarHandle" ∧ (parseMethodDescriptor yX5_edgesOf.desc).map (fun d => d.parameters.length) = some 1 := by decide +kernel
theorem yd_X0_find : yX0_find.cls ≠ "java/lang/invoke/MethodHandle" ∧ yX0_find.cls ≠ "java/lang/invoke/VarHandle" ∧ (parseMethodDescriptor yX0_find.desc).map (fun d => d.parameters.length) = some 1 := by decide +kernel
theorem yd_X1_begin : yX1_begin.cls ≠ "java/lang/invoke/MethodHandle" ∧ yX1_begin.cls ≠ "java/lang/invoke/VarHandle" ∧ (parseMethodDescriptor yX1_begin.desc).map (fun d => d.parameters.length) = some 0 := by decide +kernel
theorem yd_X4_begin : yX4_begin.cls ≠ "java/lang/invoke/MethodHandle" ∧ yX4_begin.cls ≠ "java/lang/invoke/VarHandle" ∧ (parseMethodDescriptor yX4_begin.desc).map (fun d => d.parameters.length) = some 0 := by decide +kernel
theorem yd_X1_part : yX1_part.cls ≠ "java/lang/invoke/MethodHandle" ∧ yX1_part.cls ≠ "java/lang/invoke/VarHandle" ∧ (parseMethodDescriptor yX1_part.desc).map (fun d => d.parameters.length) = some 2 := by decide +kernel
theorem yd_X1_isControl : yX1_isControl.cls ≠ "java/lang/invoke/MethodHandle" ∧ yX1_isControl.cls ≠ "java/lang/invoke/VarHandle" ∧ (parseMethodDescriptor yX1_isControl.desc).map (fun d => d.parameters.length) = some 1 := by decide +kernel
theorem yd_X1_isSyllable : yX1_isSyllable.cls ≠ "java/lang/invoke/MethodHandle" ∧ yX1_isSyllable.cls ≠ "java/lang/invoke/VarHandle" ∧ (parseMethodDescriptor yX1_isSyllable.desc).map (fun d => d.parameters.length) = some 1 := by decide +kernel
theorem yd_X4_part : yX4_part.cls ≠ "java/lang/invoke/MethodHandle" ∧ yX4_part.cls ≠ "java/lang/invoke/VarHandle" ∧ (parseMethodDescriptor yX4_part.desc).map (fun d => d.parameters.length) = some 2 := by decide +kernel
theorem yd_X4_isLineEnd : yX4_isLineEnd.cls ≠ "java/lang/invoke/MethodHandle" ∧ yX4_isLineEnd.cls ≠ "java/lang/invoke/VarHandle" ∧ (parseMethodDescriptor yX4_isLineEnd.desc).map (fun d => d.parameters.length) = some 1 := by decide +kernel
theorem yd_X4_isAttached : yX4_isAttached.cls ≠ "java/lang/invoke/MethodHandle" ∧ yX4_isAttached.cls ≠ "java/lang/invoke/VarHandle" ∧ (parseMethodDescriptor yX4_isAttached.desc).map (fun d => d.parameters.length) = some 1 := by decide +kernel
theorem yd_X4_classAhead : yX4_classAhead.cls ≠ "java/lang/invoke/MethodHandle" ∧ yX4_classAhead.cls ≠ "java/lang/invoke/VarHandle" ∧ (parseMethodDescriptor yX4_classAhead.desc).map (fun d => d.parameters.length) = some 2 := by decide +kernel
theorem yd_X4_joinsLetters : yX4_joinsLetters.cls ≠ "java/lang/invoke/MethodHandle" ∧ yX4_joinsLetters.cls ≠ "java/lang/invoke/VarHandle" ∧ (parseMethodDescriptor yX4_joinsLetters.desc).map (fun d => d.parameters.length) = some 2 := by decide +kernel
theorem yd_X4_isLetter : yX4_isLetter.cls ≠ "java/lang/invoke/MethodHandle" ∧ yX4_isLetter.cls ≠ "java/lang/invoke/VarHandle" ∧ (parseMethodDescriptor yX4_isLetter.desc).map (fun d => d.parameters.length) = some 1 := by decide +kernel
theorem yd_X4_isMidLetter : yX4_isMidLetter.cls ≠ "java/lang/invoke/MethodHandle" ∧ yX4_isMidLetter.cls ≠ "java/lang/invoke/VarHandle" ∧ (parseMethodDescriptor yX4_isMidLetter.desc).map (fun d => d.parameters.length) = some 1 := by decide +kernel
theorem yd_X4_isMidOfBoth : yX4_isMidOfBoth.cls ≠ "java/lang/invoke/MethodHandle" ∧ yX4_isMidOfBoth.cls ≠ "java/lang/invoke/VarHandle" ∧ (parseMethodDescriptor yX4_isMidOfBoth.desc).map (fun d => d.parameters.length) = some 1 := by decide +kernel
theorem yd_X4_joinsHebrew : yX4_joinsHebrew.cls ≠ "java/lang/invoke/MethodHandle" ∧ yX4_joinsHebrew.cls ≠ "java/lang/invoke/VarHandle" ∧ (parseMethodDescriptor yX4_joinsHebrew.desc).map (fun d => d.parameters.length) = some 2 := by decide +kernel
theorem yd_X4_joinsNumbers : yX4_joinsNumbers.cls ≠ "java/lang/invoke/MethodHandle" ∧ yX4_joinsNumbers.cls ≠ "java/lang/invoke/VarHandle" ∧ (parseMethodDescriptor yX4_joinsNumbers.desc).map (fun d => d.parameters.length) = some 2 := by decide +kernel
theorem yd_X4_isMidNumber : yX4_isMidNumber.cls ≠ "java/lang/invoke/MethodHandle" ∧ yX4_isMidNumber.cls ≠ "java/lang/invoke/VarHandle" ∧ (parseMethodDescriptor yX4_isMidNumber.desc).map (fun d => d.parameters.length) = some 1 := by decide +kernel
theorem yd_X4_joinsRuns : yX4_joinsRuns.cls ≠ "java/lang/invoke/MethodHandle" ∧ yX4_joinsRuns.cls ≠ "java/lang/invoke/VarHandle" ∧ (parseMethodDescriptor yX4_joinsRuns.desc).map (fun d => d.parameters.length) = some 1 := by decide +kernel
theorem yd_X4_isRunPart : yX4_isRunPart.cls ≠ "java/lang/invoke/MethodHandle" ∧ yX4_isRunPart.cls ≠ "java/lang/invoke/VarHandle" ∧ (parseMethodDescriptor yX4_isRunPart.desc).map (fun d => d.parameters.length) = some 1 := by decide +kernel
theorem yd_X1_pass : yX1_pass.cls ≠ "java/lang/invoke/MethodHandle" ∧ yX1_pass.cls ≠ "java/lang/invoke/VarHandle" ∧ (parseMethodDescriptor yX1_pass.desc).map (fun d => d.parameters.length) = some 2 := by decide +kernel
theorem yd_X4_pass : yX4_pass.cls ≠ "java/lang/invoke/MethodHandle" ∧ yX4_pass.cls ≠ "java/lang/invoke/VarHandle" ∧ (parseMethodDescriptor yX4_pass.desc).map (fun d => d.parameters.length) = some 2 := by decide +kernel
theorem yd_L_next : yL_next.cls ≠ "java/lang/invoke/MethodHandle" ∧ yL_next.cls ≠ "java/lang/invoke/VarHandle" ∧ (parseMethodDescriptor yL_next.desc).map (fun d => d.parameters.length) = some 5 := by decide +kernel
theorem yd_X5_next : yX5_next.cls ≠ "java/lang/invoke/MethodHandle" ∧ yX5_next.cls ≠ "java/lang/invoke/VarHandle" ∧ (parseMethodDescriptor yX5_next.desc).map (fun d => d.parameters.length) = some 3 := by decide +kernel
theorem yd_X0_lastBefore : yX0_lastBefore.cls ≠ "java/lang/invoke/MethodHandle" ∧ yX0_lastBefore.cls ≠ "java/lang/invoke/VarHandle" ∧ (parseMethodDescriptor yX0_lastBefore.desc).map (fun d => d.parameters.length) = some 1 := by decide +kernel
theorem yd_X0_firstBehind : yX0_firstBehind.cls ≠ "java/lang/invoke/MethodHandle" ∧ yX0_firstBehind.cls ≠ "java/lang/invoke/VarHandle" ∧ (parseMethodDescriptor yX0_firstBehind.desc).map (fun d => d.parameters.length) = some 2 := by decide +kernel
theorem yd_L_rank : yL_rank.cls ≠ "java/lang/invoke/MethodHandle" ∧ yL_rank.cls ≠ "java/lang/invoke/VarHandle" ∧ (parseMethodDescriptor yL_rank.desc).map (fun d => d.parameters.length) = some 4 := by decide +kernel
theorem yd_X5_rank : yX5_rank.cls ≠ "java/lang/invoke/MethodHandle" ∧ yX5_rank.cls ≠ "java/lang/invoke/VarHandle" ∧ (parseMethodDescriptor yX5_rank.desc).map (fun d => d.parameters.length) = some 2 := by decide +kernel
theorem yd_X0_countUpTo : yX0_countUpTo.cls ≠ "java/lang/invoke/MethodHandle" ∧ yX0_countUpTo.cls ≠ "java/lang/invoke/VarHandle" ∧ (parseMethodDescriptor yX0_countUpTo.desc).map (fun d => d.parameters.length) = some 1 := by decide +kernel
theorem yd_L_hash : yL_hash.cls ≠ "java/lang/invoke/MethodHandle" ∧ yL_hash.cls ≠ "java/lang/invoke/VarHandle" ∧ (parseMethodDescriptor yL_hash.desc).map (fun d => d.parameters.length) = some 3 := by decide +kernel
theorem yd_X5_hash : yX5_hash.cls ≠ "java/lang/invoke/MethodHandle" ∧ yX5_hash.cls ≠ "java/lang/invoke/VarHandle" ∧ (parseMethodDescriptor yX5_hash.desc).map (fun d => d.parameters.length) = some 1 := by decide +kernel
theorem yd_X0_mixUpTo : yX0_mixUpTo.cls ≠ "java/lang/invoke/MethodHandle" ∧ yX0_mixUpTo.cls ≠ "java/lang/invoke/VarHandle" ∧ (parseMethodDescriptor yX0_mixUpTo.desc).map (fun d => d.parameters.length) = some 1 := by decide +kernel
theorem yd_X6_init : yX6_init.cls ≠ "java/lang/invoke/MethodHandle" ∧ yX6_init.cls ≠ "java/lang/invoke/VarHandle" ∧ (parseMethodDescriptor yX6_init.desc).map (fun d => d.parameters.length) = some 0 := by decide +kernel
theorem yd_X6_thrown : yX6_thrown.cls ≠ "java/lang/invoke/MethodHandle" ∧ yX6_thrown.cls ≠ "java/lang/invoke/VarHandle" ∧ (parseMethodDescriptor yX6_thrown.desc).map (fun d => d.parameters.length) = some 0 := by decide +kernel
theorem yd_X6_add : yX6_add.cls ≠ "java/lang/invoke/MethodHandle" ∧ yX6_add.cls ≠ "java/lang/invoke/VarHandle" ∧ (parseMethodDescriptor yX6_add.desc).map (fun d => d.parameters.length) = some 3 := by decide +kernel
theorem yd_X6_fail : yX6_fail.cls ≠ "java/lang/invoke/MethodHandle" ∧ yX6_fail.cls ≠ "java/lang/invoke/VarHandle" ∧ (parseMethodDescriptor yX6_fail.desc).map (fun d => d.parameters.length) = some 1 := by decide +kernel
theorem yd_X6_set : yX6_set.cls ≠ "java/lang/invoke/MethodHandle" ∧ yX6_set.cls ≠ "java/lang/invoke/VarHandle" ∧ (parseMethodDescriptor yX6_set.desc).map (fun d => d.parameters.length) = some 4 := by decide +kernel
theorem yd_X6_cut : yX6_cut.cls ≠ "java/lang/invoke/MethodHandle" ∧ yX6_cut.cls ≠ "java/lang/invoke/VarHandle" ∧ (parseMethodDescriptor yX6_cut.desc).map (fun d => d.parameters.length) = some 1 := by decide +kernel
theorem yd_X6_edge : yX6_edge.cls ≠ "java/lang/invoke/MethodHandle" ∧ yX6_edge.cls ≠ "java/lang/invoke/VarHandle" ∧ (parseMethodDescriptor yX6_edge.desc).map (fun d => d.parameters.length) = some 2 := by decide +kernel
theorem yd_X6_bad : yX6_bad.cls ≠ "java/lang/invoke/MethodHandle" ∧ yX6_bad.cls ≠ "java/lang/invoke/VarHandle" ∧ (parseMethodDescriptor yX6_bad.desc).map (fun d => d.parameters.length) = some 2 := by decide +kernel
theorem yd_X6_boundary : yX6_boundary.cls ≠ "java/lang/invoke/MethodHandle" ∧ yX6_boundary.cls ≠ "java/lang/invoke/VarHandle" ∧ (parseMethodDescriptor yX6_boundary.desc).map (fun d => d.parameters.length) = some 2 := by decide +kernel
theorem yd_X6_cluster : yX6_cluster.cls ≠ "java/lang/invoke/MethodHandle" ∧ yX6_cluster.cls ≠ "java/lang/invoke/VarHandle" ∧ (parseMethodDescriptor yX6_cluster.desc).map (fun d => d.parameters.length) = some 1 := by decide +kernel
theorem yd_X6_word : yX6_word.cls ≠ "java/lang/invoke/MethodHandle" ∧ yX6_word.cls ≠ "java/lang/invoke/VarHandle" ∧ (parseMethodDescriptor yX6_word.desc).map (fun d => d.parameters.length) = some 1 := by decide +kernel
theorem yd_X6_breaks : yX6_breaks.cls ≠ "java/lang/invoke/MethodHandle" ∧ yX6_breaks.cls ≠ "java/lang/invoke/VarHandle" ∧ (parseMethodDescriptor yX6_breaks.desc).map (fun d => d.parameters.length) = some 1 := by decide +kernel
theorem yd_X6_passed : yX6_passed.cls ≠ "java/lang/invoke/MethodHandle" ∧ yX6_passed.cls ≠ "java/lang/invoke/VarHandle" ∧ (parseMethodDescriptor yX6_passed.desc).map (fun d => d.parameters.length) = some 1 := by decide +kernel
theorem yd_X6_before : yX6_before.cls ≠ "java/lang/invoke/MethodHandle" ∧ yX6_before.cls ≠ "java/lang/invoke/VarHandle" ∧ (parseMethodDescriptor yX6_before.desc).map (fun d => d.parameters.length) = some 1 := by decide +kernel
theorem yd_X6_counts : yX6_counts.cls ≠ "java/lang/invoke/MethodHandle" ∧ yX6_counts.cls ≠ "java/lang/invoke/VarHandle" ∧ (parseMethodDescriptor yX6_counts.desc).map (fun d => d.parameters.length) = some 1 := by decide +kernel
theorem yd_X6_wordKind : yX6_wordKind.cls ≠ "java/lang/invoke/MethodHandle" ∧ yX6_wordKind.cls ≠ "java/lang/invoke/VarHandle" ∧ (parseMethodDescriptor yX6_wordKind.desc).map (fun d => d.parameters.length) = some 1 := by decide +kernel
theorem yd_X6_after : yX6_after.cls ≠ "java/lang/invoke/MethodHandle" ∧ yX6_after.cls ≠ "java/lang/invoke/VarHandle" ∧ (parseMethodDescriptor yX6_after.desc).map (fun d => d.parameters.length) = some 1 := by decide +kernel
theorem yd_X6_letter : yX6_letter.cls ≠ "java/lang/invoke/MethodHandle" ∧ yX6_letter.cls ≠ "java/lang/invoke/VarHandle" ∧ (parseMethodDescriptor yX6_letter.desc).map (fun d => d.parameters.length) = some 1 := by decide +kernel
theorem yd_X6_quote : yX6_quote.cls ≠ "java/lang/invoke/MethodHandle" ∧ yX6_quote.cls ≠ "java/lang/invoke/VarHandle" ∧ (parseMethodDescriptor yX6_quote.desc).map (fun d => d.parameters.length) = some 1 := by decide +kernel
theorem yd_X6_next : yX6_next.cls ≠ "java/lang/invoke/MethodHandle" ∧ yX6_next.cls ≠ "java/lang/invoke/VarHandle" ∧ (parseMethodDescriptor yX6_next.desc).map (fun d => d.parameters.length) = some 3 := by decide +kernel
theorem yd_X6_rank : yX6_rank.cls ≠ "java/lang/invoke/MethodHandle" ∧ yX6_rank.cls ≠ "java/lang/invoke/VarHandle" ∧ (parseMethodDescriptor yX6_rank.desc).map (fun d => d.parameters.length) = some 2 := by decide +kernel
theorem yd_X6_hash : yX6_hash.cls ≠ "java/lang/invoke/MethodHandle" ∧ yX6_hash.cls ≠ "java/lang/invoke/VarHandle" ∧ (parseMethodDescriptor yX6_hash.desc).map (fun d => d.parameters.length) = some 1 := by decide +kernel
theorem yd_L_law : yL_law.cls ≠ "java/lang/invoke/MethodHandle" ∧ yL_law.cls ≠ "java/lang/invoke/VarHandle" ∧ (parseMethodDescriptor yL_law.desc).map (fun d => d.parameters.length) = some 1 := by decide +kernel
