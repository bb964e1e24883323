/-! the tables' words, by number -/
def bm_big : List Cond := lw_tbl.filter goodWord
theorem bm_inT {w : Cond} (h : w ∈ tables_1) (hg : goodWord w = true) : w ∈ bm_big := List.mem_filter.mpr ⟨List.mem_append_right _ h, hg⟩
theorem bm_inS {w : Cond} (h : w ∈ k2_sels lw_privs) (hg : goodWord w = true) : w ∈ bm_big := List.mem_filter.mpr ⟨List.mem_append_left _ h, hg⟩
theorem bm_bigG {w : Cond} (h : w ∈ bm_big) : (w.onTables && w.keeps) = true ∨ ∃ ty, w = .arrayClass ty := good_of_word (List.mem_filter.mp h).2
theorem bm_t1 {w : Cond} (h : w ∈ tables_1_1) : w ∈ tables_1 := List.mem_append_left _ h
theorem bm_t2 {w : Cond} (h : w ∈ tables_1_2) : w ∈ tables_1 := List.mem_append_right _ (List.mem_append_left _ h)
theorem bm_t3 {w : Cond} (h : w ∈ tables_1_3) : w ∈ tables_1 := List.mem_append_right _ (List.mem_append_right _ (List.mem_append_left _ h))
theorem bm_t4 {w : Cond} (h : w ∈ tables_1_4) : w ∈ tables_1 := List.mem_append_right _ (List.mem_append_right _ (List.mem_append_right _ h))
theorem bw_0 : (Cond.initialized "BlindMintLaw") ∈ bm_big := bm_inT (bm_t1 (List.mem_of_getElem? (i := 0) rfl)) rfl
theorem bw_1 : (Cond.initialized "BlindMint") ∈ bm_big := bm_inT (bm_t1 (List.mem_of_getElem? (i := 1) rfl)) rfl
theorem bw_2 : (Cond.initialized "BlindMint$Proposal") ∈ bm_big := bm_inT (bm_t1 (List.mem_of_getElem? (i := 2) rfl)) rfl
theorem bw_3 : (Cond.initialized "BlindMint$Candidate") ∈ bm_big := bm_inT (bm_t1 (List.mem_of_getElem? (i := 3) rfl)) rfl
theorem bw_4 : (Cond.initialized "BlindMint$Account") ∈ bm_big := bm_inT (bm_t1 (List.mem_of_getElem? (i := 4) rfl)) rfl
theorem bw_5 : (Cond.initialized "BlindMintModel") ∈ bm_big := bm_inT (bm_t1 (List.mem_of_getElem? (i := 5) rfl)) rfl
theorem bw_6 : (Cond.initialized "java/lang/Throwable") ∈ bm_big := bm_inT (bm_t1 (List.mem_of_getElem? (i := 6) rfl)) rfl
theorem bw_7 : (Cond.initialized "java/lang/Exception") ∈ bm_big := bm_inT (bm_t1 (List.mem_of_getElem? (i := 7) rfl)) rfl
theorem bw_8 : (Cond.initialized "java/lang/RuntimeException") ∈ bm_big := bm_inT (bm_t1 (List.mem_of_getElem? (i := 8) rfl)) rfl
theorem bw_9 : (Cond.initialized "java/lang/IllegalArgumentException") ∈ bm_big := bm_inT (bm_t1 (List.mem_of_getElem? (i := 9) rfl)) rfl
theorem bw_10 : (Cond.initialized "java/lang/IllegalStateException") ∈ bm_big := bm_inT (bm_t1 (List.mem_of_getElem? (i := 10) rfl)) rfl
theorem bw_11 : (Cond.initialized "BlindMint$Hash") ∈ bm_big := bm_inT (bm_t1 (List.mem_of_getElem? (i := 11) rfl)) rfl
theorem bw_12 : (Cond.initialized "BlindMint$Field") ∈ bm_big := bm_inT (bm_t1 (List.mem_of_getElem? (i := 12) rfl)) rfl
theorem bw_13 : (Cond.initialized "java/lang/Math") ∈ bm_big := bm_inT (bm_t1 (List.mem_of_getElem? (i := 13) rfl)) rfl
theorem bw_14 : (Cond.initialized "BlindMint$Coin") ∈ bm_big := bm_inT (bm_t1 (List.mem_of_getElem? (i := 14) rfl)) rfl
theorem bw_15 : (Cond.initialized "java/util/NoSuchElementException") ∈ bm_big := bm_inT (bm_t1 (List.mem_of_getElem? (i := 15) rfl)) rfl
theorem bw_16 : (Cond.initialized "BlindMint$Payment") ∈ bm_big := bm_inT (bm_t1 (List.mem_of_getElem? (i := 16) rfl)) rfl
theorem bw_17 : (Cond.initialized "java/lang/System") ∈ bm_big := bm_inT (bm_t1 (List.mem_of_getElem? (i := 17) rfl)) rfl
theorem bw_18 : (Cond.initialized "BlindMint$Credit") ∈ bm_big := bm_inT (bm_t1 (List.mem_of_getElem? (i := 18) rfl)) rfl
theorem bw_19 : (Cond.classLink "BlindMintLaw" 8 "BlindMint") ∈ bm_big := bm_inT (bm_t1 (List.mem_of_getElem? (i := 19) rfl)) rfl
theorem bw_20 : (Cond.instantiable "BlindMint" 12) ∈ bm_big := bm_inT (bm_t1 (List.mem_of_getElem? (i := 20) rfl)) rfl
theorem bw_21 : (Cond.methodLink "BlindMintLaw" 48 ({ cls := "BlindMint", name := "<init>", desc := "()V" } : MethodName)) ∈ bm_big := bm_inT (bm_t1 (List.mem_of_getElem? (i := 21) rfl)) rfl
theorem bw_22 : (Cond.instanceMethod ({ cls := "BlindMint", name := "<init>", desc := "()V" } : MethodName)) ∈ bm_big := bm_inT (bm_t1 (List.mem_of_getElem? (i := 22) rfl)) rfl
theorem bw_23 : (Cond.code ({ cls := "BlindMint", name := "<init>", desc := "()V" } : MethodName) prog_1_method_1_code 2 (Option.none : Option Jvm.ClassFile.FieldType)) ∈ bm_big := bm_inT (bm_t1 (List.mem_of_getElem? (i := 23) rfl)) rfl
theorem bw_24 : (Cond.methodLink "BlindMint" 3 ({ cls := "java/lang/Object", name := "<init>", desc := "()V" } : MethodName)) ∈ bm_big := bm_inT (bm_t1 (List.mem_of_getElem? (i := 24) rfl)) rfl
theorem bw_25 : (Cond.instanceMethod ({ cls := "java/lang/Object", name := "<init>", desc := "()V" } : MethodName)) ∈ bm_big := bm_inT (bm_t1 (List.mem_of_getElem? (i := 25) rfl)) rfl
theorem bw_26 : (Cond.code ({ cls := "java/lang/Object", name := "<init>", desc := "()V" } : MethodName) object_method_1_code 1 (Option.none : Option Jvm.ClassFile.FieldType)) ∈ bm_big := bm_inT (bm_t1 (List.mem_of_getElem? (i := 26) rfl)) rfl
theorem bw_27 : (Cond.classLink "BlindMint" 9 "BlindMint$Account") ∈ bm_big := bm_inT (bm_t1 (List.mem_of_getElem? (i := 27) rfl)) rfl
theorem bw_29 : (Cond.classLink "BlindMint" 15 "BlindMint$Proposal") ∈ bm_big := bm_inT (bm_t1 (List.mem_of_getElem? (i := 29) rfl)) rfl
theorem bw_30 : (Cond.instantiable "BlindMint$Proposal" 4) ∈ bm_big := bm_inT (bm_t1 (List.mem_of_getElem? (i := 30) rfl)) rfl
theorem bw_31 : (Cond.methodLink "BlindMint" 17 ({ cls := "BlindMint$Proposal", name := "<init>", desc := "()V" } : MethodName)) ∈ bm_big := bm_inT (bm_t1 (List.mem_of_getElem? (i := 31) rfl)) rfl
theorem bw_32 : (Cond.instanceMethod ({ cls := "BlindMint$Proposal", name := "<init>", desc := "()V" } : MethodName)) ∈ bm_big := bm_inT (bm_t1 (List.mem_of_getElem? (i := 32) rfl)) rfl
theorem bw_33 : (Cond.code ({ cls := "BlindMint$Proposal", name := "<init>", desc := "()V" } : MethodName) prog_10_method_1_code 2 (Option.none : Option Jvm.ClassFile.FieldType)) ∈ bm_big := bm_inT (bm_t1 (List.mem_of_getElem? (i := 33) rfl)) rfl
theorem bw_34 : (Cond.methodLink "BlindMint$Proposal" 3 ({ cls := "java/lang/Object", name := "<init>", desc := "()V" } : MethodName)) ∈ bm_big := bm_inT (bm_t1 (List.mem_of_getElem? (i := 34) rfl)) rfl
theorem bw_35 : (Cond.classLink "BlindMint$Proposal" 9 "BlindMint$Candidate") ∈ bm_big := bm_inT (bm_t1 (List.mem_of_getElem? (i := 35) rfl)) rfl
theorem bw_37 : (Cond.instantiable "BlindMint$Candidate" 7) ∈ bm_big := bm_inT (bm_t1 (List.mem_of_getElem? (i := 37) rfl)) rfl
theorem bw_39 : (Cond.instanceMethod ({ cls := "BlindMint$Candidate", name := "<init>", desc := "()V" } : MethodName)) ∈ bm_big := bm_inT (bm_t1 (List.mem_of_getElem? (i := 39) rfl)) rfl
theorem bw_40 : (Cond.code ({ cls := "BlindMint$Candidate", name := "<init>", desc := "()V" } : MethodName) prog_3_method_1_code 1 (Option.none : Option Jvm.ClassFile.FieldType)) ∈ bm_big := bm_inT (bm_t1 (List.mem_of_getElem? (i := 40) rfl)) rfl
theorem bw_41 : (Cond.methodLink "BlindMint$Candidate" 1 ({ cls := "java/lang/Object", name := "<init>", desc := "()V" } : MethodName)) ∈ bm_big := bm_inT (bm_t1 (List.mem_of_getElem? (i := 41) rfl)) rfl
theorem bw_42 : (Cond.fieldLink "BlindMint$Coin" 35 "BlindMint$Candidate" "a" "J") ∈ bm_big := bm_inT (bm_t1 (List.mem_of_getElem? (i := 42) rfl)) rfl
theorem bw_43 : (Cond.fieldLink "BlindMint$Candidate" 13 "BlindMint$Candidate" "a" "J") ∈ bm_big := bm_inT (bm_t1 (List.mem_of_getElem? (i := 43) rfl)) rfl
theorem bw_44 : (Cond.fieldLink "BlindMint$Coin" 40 "BlindMint$Candidate" "c" "J") ∈ bm_big := bm_inT (bm_t1 (List.mem_of_getElem? (i := 44) rfl)) rfl
theorem bw_45 : (Cond.fieldLink "BlindMint$Candidate" 19 "BlindMint$Candidate" "c" "J") ∈ bm_big := bm_inT (bm_t1 (List.mem_of_getElem? (i := 45) rfl)) rfl
theorem bw_46 : (Cond.fieldLink "BlindMint$Coin" 49 "BlindMint$Candidate" "e" "J") ∈ bm_big := bm_inT (bm_t1 (List.mem_of_getElem? (i := 46) rfl)) rfl
theorem bw_47 : (Cond.fieldLink "BlindMint$Candidate" 22 "BlindMint$Candidate" "e" "J") ∈ bm_big := bm_inT (bm_t1 (List.mem_of_getElem? (i := 47) rfl)) rfl
theorem bw_48 : (Cond.fieldLink "BlindMint$Coin" 46 "BlindMint$Candidate" "b" "J") ∈ bm_big := bm_inT (bm_t1 (List.mem_of_getElem? (i := 48) rfl)) rfl
theorem bw_49 : (Cond.fieldLink "BlindMint$Candidate" 25 "BlindMint$Candidate" "b" "J") ∈ bm_big := bm_inT (bm_t1 (List.mem_of_getElem? (i := 49) rfl)) rfl
theorem bw_50 : (Cond.fieldLink "BlindMint$Coin" 52 "BlindMint$Candidate" "x" "J") ∈ bm_big := bm_inT (bm_t1 (List.mem_of_getElem? (i := 50) rfl)) rfl
theorem bw_51 : (Cond.fieldLink "BlindMint$Candidate" 28 "BlindMint$Candidate" "x" "J") ∈ bm_big := bm_inT (bm_t1 (List.mem_of_getElem? (i := 51) rfl)) rfl
theorem bw_52 : (Cond.fieldLink "BlindMint$Coin" 43 "BlindMint$Candidate" "y" "J") ∈ bm_big := bm_inT (bm_t1 (List.mem_of_getElem? (i := 52) rfl)) rfl
theorem bw_53 : (Cond.fieldLink "BlindMint$Candidate" 31 "BlindMint$Candidate" "y" "J") ∈ bm_big := bm_inT (bm_t1 (List.mem_of_getElem? (i := 53) rfl)) rfl
theorem bw_54 : (Cond.fieldLink "BlindMint$Candidate" 34 "BlindMint$Candidate" "pairHash" "J") ∈ bm_big := bm_inT (bm_t1 (List.mem_of_getElem? (i := 54) rfl)) rfl
theorem bw_55 : (Cond.fieldLink "BlindMint$Proposal" 42 "BlindMint$Candidate" "pairHash" "J") ∈ bm_big := bm_inT (bm_t1 (List.mem_of_getElem? (i := 55) rfl)) rfl
theorem bw_56 : (Cond.lays "BlindMint$Candidate" "BlindMint$Candidate" "a" "J") ∈ bm_big := bm_inT (bm_t1 (List.mem_of_getElem? (i := 56) rfl)) rfl
theorem bw_58 : (Cond.lays "BlindMint$Candidate" "BlindMint$Candidate" "c" "J") ∈ bm_big := bm_inT (bm_t1 (List.mem_of_getElem? (i := 58) rfl)) rfl
theorem bw_60 : (Cond.lays "BlindMint$Candidate" "BlindMint$Candidate" "e" "J") ∈ bm_big := bm_inT (bm_t1 (List.mem_of_getElem? (i := 60) rfl)) rfl
theorem bw_62 : (Cond.lays "BlindMint$Candidate" "BlindMint$Candidate" "b" "J") ∈ bm_big := bm_inT (bm_t1 (List.mem_of_getElem? (i := 62) rfl)) rfl
theorem bw_64 : (Cond.lays "BlindMint$Candidate" "BlindMint$Candidate" "x" "J") ∈ bm_big := bm_inT (bm_t1 (List.mem_of_getElem? (i := 64) rfl)) rfl
theorem bw_66 : (Cond.lays "BlindMint$Candidate" "BlindMint$Candidate" "y" "J") ∈ bm_big := bm_inT (bm_t1 (List.mem_of_getElem? (i := 66) rfl)) rfl
theorem bw_68 : (Cond.lays "BlindMint$Candidate" "BlindMint$Candidate" "pairHash" "J") ∈ bm_big := bm_inT (bm_t1 (List.mem_of_getElem? (i := 68) rfl)) rfl
theorem bw_70 : (Cond.superclass "BlindMint$Candidate" "java/lang/Object") ∈ bm_big := bm_inT (bm_t1 (List.mem_of_getElem? (i := 70) rfl)) rfl
theorem bw_71 : (Cond.fieldLink "BlindMint$Proposal" 11 "BlindMint$Proposal" "candidates" "[LBlindMint$Candidate;") ∈ bm_big := bm_inT (bm_t1 (List.mem_of_getElem? (i := 71) rfl)) rfl
theorem bw_72 : (Cond.fieldLink "BlindMint$Proposal" 17 "BlindMint$Proposal" "parts" "[LBlindMint$Candidate;") ∈ bm_big := bm_inT (bm_t1 (List.mem_of_getElem? (i := 72) rfl)) rfl
theorem bw_73 : (Cond.fieldLink "BlindMint" 213 "BlindMint$Proposal" "parts" "[LBlindMint$Candidate;") ∈ bm_big := bm_inT (bm_t1 (List.mem_of_getElem? (i := 73) rfl)) rfl
theorem bw_74 : (Cond.fieldLink "BlindMint$Proposal" 20 "BlindMint$Proposal" "firstOpened" "I") ∈ bm_big := bm_inT (bm_t1 (List.mem_of_getElem? (i := 74) rfl)) rfl
theorem bw_75 : (Cond.fieldLink "BlindMint$Proposal" 24 "BlindMint$Proposal" "secondOpened" "I") ∈ bm_big := bm_inT (bm_t1 (List.mem_of_getElem? (i := 75) rfl)) rfl
theorem bw_76 : (Cond.laysFinal "BlindMint$Proposal" "BlindMint$Proposal" "candidates" "[LBlindMint$Candidate;") ∈ bm_big := bm_inT (bm_t1 (List.mem_of_getElem? (i := 76) rfl)) rfl
theorem bw_78 : (Cond.laysFinal "BlindMint$Proposal" "BlindMint$Proposal" "parts" "[LBlindMint$Candidate;") ∈ bm_big := bm_inT (bm_t1 (List.mem_of_getElem? (i := 78) rfl)) rfl
theorem bw_80 : (Cond.lays "BlindMint$Proposal" "BlindMint$Proposal" "firstOpened" "I") ∈ bm_big := bm_inT (bm_t1 (List.mem_of_getElem? (i := 80) rfl)) rfl
theorem bw_82 : (Cond.lays "BlindMint$Proposal" "BlindMint$Proposal" "secondOpened" "I") ∈ bm_big := bm_inT (bm_t1 (List.mem_of_getElem? (i := 82) rfl)) rfl
theorem bw_84 : (Cond.superclass "BlindMint$Proposal" "java/lang/Object") ∈ bm_big := bm_inT (bm_t1 (List.mem_of_getElem? (i := 84) rfl)) rfl
theorem bw_85 : (Cond.classLink "BlindMint" 22 "BlindMint$Payment") ∈ bm_big := bm_inT (bm_t1 (List.mem_of_getElem? (i := 85) rfl)) rfl
theorem bw_87 : (Cond.constantLong "BlindMint" 43 (-1)) ∈ bm_big := bm_inT (bm_t1 (List.mem_of_getElem? (i := 87) rfl)) rfl
theorem bw_88 : (Cond.instantiable "BlindMint$Account" 3) ∈ bm_big := bm_inT (bm_t1 (List.mem_of_getElem? (i := 88) rfl)) rfl
theorem bw_90 : (Cond.instanceMethod ({ cls := "BlindMint$Account", name := "<init>", desc := "()V" } : MethodName)) ∈ bm_big := bm_inT (bm_t1 (List.mem_of_getElem? (i := 90) rfl)) rfl
theorem bw_91 : (Cond.code ({ cls := "BlindMint$Account", name := "<init>", desc := "()V" } : MethodName) prog_2_method_1_code 1 (Option.none : Option Jvm.ClassFile.FieldType)) ∈ bm_big := bm_inT (bm_t1 (List.mem_of_getElem? (i := 91) rfl)) rfl
theorem bw_92 : (Cond.methodLink "BlindMint$Account" 3 ({ cls := "java/lang/Object", name := "<init>", desc := "()V" } : MethodName)) ∈ bm_big := bm_inT (bm_t1 (List.mem_of_getElem? (i := 92) rfl)) rfl
theorem bw_93 : (Cond.classLink "BlindMint$Account" 15 "BlindMint$Coin") ∈ bm_big := bm_inT (bm_t1 (List.mem_of_getElem? (i := 93) rfl)) rfl
theorem bw_95 : (Cond.fieldLink "BlindMint$Account" 9 "BlindMint$Account" "balance" "I") ∈ bm_big := bm_inT (bm_t1 (List.mem_of_getElem? (i := 95) rfl)) rfl
theorem bw_96 : (Cond.fieldLink "BlindMint" 82 "BlindMint$Account" "balance" "I") ∈ bm_big := bm_inT (bm_t1 (List.mem_of_getElem? (i := 96) rfl)) rfl
theorem bw_97 : (Cond.fieldLink "BlindMint$Account" 17 "BlindMint$Account" "wallet" "[LBlindMint$Coin;") ∈ bm_big := bm_inT (bm_t1 (List.mem_of_getElem? (i := 97) rfl)) rfl
theorem bw_98 : (Cond.fieldLink "BlindMint" 180 "BlindMint$Account" "wallet" "[LBlindMint$Coin;") ∈ bm_big := bm_inT (bm_t1 (List.mem_of_getElem? (i := 98) rfl)) rfl
theorem bw_99 : (Cond.fieldLink "BlindMint$Account" 21 "BlindMint$Account" "coinCount" "I") ∈ bm_big := bm_inT (bm_t1 (List.mem_of_getElem? (i := 99) rfl)) rfl
theorem bw_100 : (Cond.fieldLink "BlindMint" 108 "BlindMint$Account" "coinCount" "I") ∈ bm_big := bm_inT (bm_t1 (List.mem_of_getElem? (i := 100) rfl)) rfl
theorem bw_101 : (Cond.lays "BlindMint$Account" "BlindMint$Account" "balance" "I") ∈ bm_big := bm_inT (bm_t1 (List.mem_of_getElem? (i := 101) rfl)) rfl
theorem bw_103 : (Cond.laysFinal "BlindMint$Account" "BlindMint$Account" "wallet" "[LBlindMint$Coin;") ∈ bm_big := bm_inT (bm_t1 (List.mem_of_getElem? (i := 103) rfl)) rfl
theorem bw_105 : (Cond.lays "BlindMint$Account" "BlindMint$Account" "coinCount" "I") ∈ bm_big := bm_inT (bm_t1 (List.mem_of_getElem? (i := 105) rfl)) rfl
theorem bw_107 : (Cond.superclass "BlindMint$Account" "java/lang/Object") ∈ bm_big := bm_inT (bm_t1 (List.mem_of_getElem? (i := 107) rfl)) rfl
theorem bw_108 : (Cond.arrayClass FieldType.long) ∈ bm_big := bm_inT (bm_t1 (List.mem_of_getElem? (i := 108) rfl)) rfl
theorem bw_109 : (Cond.fieldLink "BlindMint" 11 "BlindMint" "accounts" "[LBlindMint$Account;") ∈ bm_big := bm_inT (bm_t1 (List.mem_of_getElem? (i := 109) rfl)) rfl
theorem bw_110 : (Cond.fieldLink "BlindMint" 18 "BlindMint" "proposal" "LBlindMint$Proposal;") ∈ bm_big := bm_inT (bm_t1 (List.mem_of_getElem? (i := 110) rfl)) rfl
theorem bw_111 : (Cond.fieldLink "BlindMint" 24 "BlindMint" "payments" "[LBlindMint$Payment;") ∈ bm_big := bm_inT (bm_t1 (List.mem_of_getElem? (i := 111) rfl)) rfl
theorem bw_112 : (Cond.fieldLink "BlindMint" 28 "BlindMint" "paymentCount" "I") ∈ bm_big := bm_inT (bm_t1 (List.mem_of_getElem? (i := 112) rfl)) rfl
theorem bw_113 : (Cond.fieldLink "BlindMint" 32 "BlindMint" "pairHashes" "[J") ∈ bm_big := bm_inT (bm_t1 (List.mem_of_getElem? (i := 113) rfl)) rfl
theorem bw_114 : (Cond.fieldLink "BlindMint" 36 "BlindMint" "lastCredit" "LBlindMint$Credit;") ∈ bm_big := bm_inT (bm_t1 (List.mem_of_getElem? (i := 114) rfl)) rfl
theorem bw_115 : (Cond.fieldLink "BlindMint" 40 "BlindMint" "lastTraced" "I") ∈ bm_big := bm_inT (bm_t1 (List.mem_of_getElem? (i := 115) rfl)) rfl
theorem bw_116 : (Cond.fieldLink "BlindMint" 45 "BlindMint" "lastBlinded" "J") ∈ bm_big := bm_inT (bm_t1 (List.mem_of_getElem? (i := 116) rfl)) rfl
theorem bw_117 : (Cond.fieldLink "BlindMint" 49 "BlindMint" "withdrawnCoins" "I") ∈ bm_big := bm_inT (bm_t1 (List.mem_of_getElem? (i := 117) rfl)) rfl
theorem bw_118 : (Cond.fieldLink "BlindMint" 52 "BlindMint" "depositedCoins" "I") ∈ bm_big := bm_inT (bm_t1 (List.mem_of_getElem? (i := 118) rfl)) rfl
theorem bw_119 : (Cond.fieldLink "BlindMint" 55 "BlindMint" "foundCheats" "I") ∈ bm_big := bm_inT (bm_t1 (List.mem_of_getElem? (i := 119) rfl)) rfl
theorem bw_120 : (Cond.fieldLink "BlindMint" 58 "BlindMint" "repeatedDeposits" "I") ∈ bm_big := bm_inT (bm_t1 (List.mem_of_getElem? (i := 120) rfl)) rfl
theorem bw_121 : (Cond.laysFinal "BlindMint" "BlindMint" "accounts" "[LBlindMint$Account;") ∈ bm_big := bm_inT (bm_t1 (List.mem_of_getElem? (i := 121) rfl)) rfl
theorem bw_123 : (Cond.laysFinal "BlindMint" "BlindMint" "proposal" "LBlindMint$Proposal;") ∈ bm_big := bm_inT (bm_t1 (List.mem_of_getElem? (i := 123) rfl)) rfl
theorem bw_125 : (Cond.laysFinal "BlindMint" "BlindMint" "payments" "[LBlindMint$Payment;") ∈ bm_big := bm_inT (bm_t1 (List.mem_of_getElem? (i := 125) rfl)) rfl
theorem bw_127 : (Cond.lays "BlindMint" "BlindMint" "paymentCount" "I") ∈ bm_big := bm_inT (bm_t1 (List.mem_of_getElem? (i := 127) rfl)) rfl
theorem bw_129 : (Cond.laysFinal "BlindMint" "BlindMint" "pairHashes" "[J") ∈ bm_big := bm_inT (bm_t1 (List.mem_of_getElem? (i := 129) rfl)) rfl
theorem bw_131 : (Cond.lays "BlindMint" "BlindMint" "lastCredit" "LBlindMint$Credit;") ∈ bm_big := bm_inT (bm_t1 (List.mem_of_getElem? (i := 131) rfl)) rfl
theorem bw_133 : (Cond.lays "BlindMint" "BlindMint" "lastTraced" "I") ∈ bm_big := bm_inT (bm_t1 (List.mem_of_getElem? (i := 133) rfl)) rfl
theorem bw_135 : (Cond.lays "BlindMint" "BlindMint" "lastBlinded" "J") ∈ bm_big := bm_inT (bm_t1 (List.mem_of_getElem? (i := 135) rfl)) rfl
theorem bw_137 : (Cond.lays "BlindMint" "BlindMint" "withdrawnCoins" "I") ∈ bm_big := bm_inT (bm_t1 (List.mem_of_getElem? (i := 137) rfl)) rfl
theorem bw_139 : (Cond.lays "BlindMint" "BlindMint" "depositedCoins" "I") ∈ bm_big := bm_inT (bm_t1 (List.mem_of_getElem? (i := 139) rfl)) rfl
theorem bw_141 : (Cond.lays "BlindMint" "BlindMint" "foundCheats" "I") ∈ bm_big := bm_inT (bm_t1 (List.mem_of_getElem? (i := 141) rfl)) rfl
theorem bw_143 : (Cond.lays "BlindMint" "BlindMint" "repeatedDeposits" "I") ∈ bm_big := bm_inT (bm_t1 (List.mem_of_getElem? (i := 143) rfl)) rfl
theorem bw_145 : (Cond.superclass "BlindMint" "java/lang/Object") ∈ bm_big := bm_inT (bm_t1 (List.mem_of_getElem? (i := 145) rfl)) rfl
theorem bw_146 : (Cond.methodLink "BlindMintLaw" 79 ({ cls := "BlindMint", name := "good", desc := "(I)Z" } : MethodName)) ∈ bm_big := bm_inT (bm_t1 (List.mem_of_getElem? (i := 146) rfl)) rfl
theorem bw_147 : (Cond.instanceMethod ({ cls := "BlindMint", name := "good", desc := "(I)Z" } : MethodName)) ∈ bm_big := bm_inT (bm_t1 (List.mem_of_getElem? (i := 147) rfl)) rfl
theorem bw_148 : (Cond.selects "BlindMint" ({ cls := "BlindMint", name := "good", desc := "(I)Z" } : MethodName) ({ cls := "BlindMint", name := "good", desc := "(I)Z" } : MethodName)) ∈ bm_big := bm_inT (bm_t1 (List.mem_of_getElem? (i := 148) rfl)) rfl
theorem bw_149 : (Cond.code ({ cls := "BlindMint", name := "good", desc := "(I)Z" } : MethodName) prog_1_method_7_code 3 (Option.some FieldType.boolean)) ∈ bm_big := bm_inT (bm_t1 (List.mem_of_getElem? (i := 149) rfl)) rfl
theorem bw_150 : (Cond.methodLink "BlindMint" 131 ({ cls := "BlindMint", name := "findPayment", desc := "(I)LBlindMint$Payment;" } : MethodName)) ∈ bm_big := bm_inT (bm_t1 (List.mem_of_getElem? (i := 150) rfl)) rfl
theorem bw_152 : (Cond.instanceMethod ({ cls := "BlindMint", name := "findPayment", desc := "(I)LBlindMint$Payment;" } : MethodName)) ∈ bm_big := bm_inT (bm_t1 (List.mem_of_getElem? (i := 152) rfl)) rfl
theorem bw_153 : (Cond.code ({ cls := "BlindMint", name := "findPayment", desc := "(I)LBlindMint$Payment;" } : MethodName) prog_1_method_21_code 2 (Option.some (FieldType.object "BlindMint$Payment"))) ∈ bm_big := bm_inT (bm_t1 (List.mem_of_getElem? (i := 153) rfl)) rfl
theorem bw_154 : (Cond.methodLink "BlindMint" 141 ({ cls := "BlindMint", name := "isGood", desc := "(LBlindMint$Payment;)Z" } : MethodName)) ∈ bm_big := bm_inT (bm_t1 (List.mem_of_getElem? (i := 154) rfl)) rfl
theorem bw_156 : (Cond.instanceMethod ({ cls := "BlindMint", name := "isGood", desc := "(LBlindMint$Payment;)Z" } : MethodName)) ∈ bm_big := bm_inT (bm_t1 (List.mem_of_getElem? (i := 156) rfl)) rfl
theorem bw_157 : (Cond.code ({ cls := "BlindMint", name := "isGood", desc := "(LBlindMint$Payment;)Z" } : MethodName) prog_1_method_23_code 4 (Option.some FieldType.boolean)) ∈ bm_big := bm_inT (bm_t1 (List.mem_of_getElem? (i := 157) rfl)) rfl
theorem bw_158 : (Cond.methodLink "BlindMint" 145 ({ cls := "BlindMint$Payment", name := "denomination", desc := "()J" } : MethodName)) ∈ bm_big := bm_inT (bm_t1 (List.mem_of_getElem? (i := 158) rfl)) rfl
theorem bw_159 : (Cond.instanceMethod ({ cls := "BlindMint$Payment", name := "denomination", desc := "()J" } : MethodName)) ∈ bm_big := bm_inT (bm_t1 (List.mem_of_getElem? (i := 159) rfl)) rfl
theorem bw_160 : (Cond.selects "BlindMint$Payment" ({ cls := "BlindMint$Payment", name := "denomination", desc := "()J" } : MethodName) ({ cls := "BlindMint$Payment", name := "denomination", desc := "()J" } : MethodName)) ∈ bm_big := bm_inT (bm_t1 (List.mem_of_getElem? (i := 160) rfl)) rfl
theorem bw_161 : (Cond.code ({ cls := "BlindMint$Payment", name := "denomination", desc := "()J" } : MethodName) prog_9_method_3_code 1 (Option.some FieldType.long)) ∈ bm_big := bm_inT (bm_t1 (List.mem_of_getElem? (i := 161) rfl)) rfl
theorem bw_162 : (Cond.methodLink "BlindMint" 66 ({ cls := "BlindMint", name := "isDenomination", desc := "(J)Z" } : MethodName)) ∈ bm_big := bm_inT (bm_t1 (List.mem_of_getElem? (i := 162) rfl)) rfl
theorem bw_163 : (Cond.static ({ cls := "BlindMint", name := "isDenomination", desc := "(J)Z" } : MethodName)) ∈ bm_big := bm_inT (bm_t1 (List.mem_of_getElem? (i := 163) rfl)) rfl
theorem bw_164 : (Cond.code ({ cls := "BlindMint", name := "isDenomination", desc := "(J)Z" } : MethodName) prog_1_method_17_code 2 (Option.some FieldType.boolean)) ∈ bm_big := bm_inT (bm_t1 (List.mem_of_getElem? (i := 164) rfl)) rfl
theorem bw_165 : (Cond.fieldLink "BlindMint" 73 "BlindMint" "DENOMINATIONS" "[LBlindMint$Denomination;") ∈ bm_big := bm_inT (bm_t1 (List.mem_of_getElem? (i := 165) rfl)) rfl
theorem bw_167 : (Cond.methodLink "BlindMint" 220 ({ cls := "BlindMint$Payment", name := "readPairHashes", desc := "([J)V" } : MethodName)) ∈ bm_big := bm_inT (bm_t1 (List.mem_of_getElem? (i := 167) rfl)) rfl
theorem bw_168 : (Cond.instanceMethod ({ cls := "BlindMint$Payment", name := "readPairHashes", desc := "([J)V" } : MethodName)) ∈ bm_big := bm_inT (bm_t1 (List.mem_of_getElem? (i := 168) rfl)) rfl
theorem bw_169 : (Cond.selects "BlindMint$Payment" ({ cls := "BlindMint$Payment", name := "readPairHashes", desc := "([J)V" } : MethodName) ({ cls := "BlindMint$Payment", name := "readPairHashes", desc := "([J)V" } : MethodName)) ∈ bm_big := bm_inT (bm_t1 (List.mem_of_getElem? (i := 169) rfl)) rfl
theorem bw_170 : (Cond.code ({ cls := "BlindMint$Payment", name := "readPairHashes", desc := "([J)V" } : MethodName) prog_9_method_7_code 10 (Option.none : Option Jvm.ClassFile.FieldType)) ∈ bm_big := bm_inT (bm_t1 (List.mem_of_getElem? (i := 170) rfl)) rfl
theorem bw_171 : (Cond.methodLink "BlindMint$Payment" 25 ({ cls := "BlindMint$Payment", name := "challenge", desc := "()J" } : MethodName)) ∈ bm_big := bm_inT (bm_t1 (List.mem_of_getElem? (i := 171) rfl)) rfl
theorem bw_172 : (Cond.instanceMethod ({ cls := "BlindMint$Payment", name := "challenge", desc := "()J" } : MethodName)) ∈ bm_big := bm_inT (bm_t1 (List.mem_of_getElem? (i := 172) rfl)) rfl
theorem bw_173 : (Cond.selects "BlindMint$Payment" ({ cls := "BlindMint$Payment", name := "challenge", desc := "()J" } : MethodName) ({ cls := "BlindMint$Payment", name := "challenge", desc := "()J" } : MethodName)) ∈ bm_big := bm_inT (bm_t1 (List.mem_of_getElem? (i := 173) rfl)) rfl
theorem bw_174 : (Cond.code ({ cls := "BlindMint$Payment", name := "challenge", desc := "()J" } : MethodName) prog_9_method_5_code 3 (Option.some FieldType.long)) ∈ bm_big := bm_inT (bm_t1 (List.mem_of_getElem? (i := 174) rfl)) rfl
theorem bw_175 : (Cond.constantLong "BlindMint$Payment" 51 (7)) ∈ bm_big := bm_inT (bm_t1 (List.mem_of_getElem? (i := 175) rfl)) rfl
theorem bw_176 : (Cond.methodLink "BlindMint$Payment" 53 ({ cls := "BlindMint$Hash", name := "step", desc := "(JJ)J" } : MethodName)) ∈ bm_big := bm_inT (bm_t1 (List.mem_of_getElem? (i := 176) rfl)) rfl
theorem bw_177 : (Cond.static ({ cls := "BlindMint$Hash", name := "step", desc := "(JJ)J" } : MethodName)) ∈ bm_big := bm_inT (bm_t1 (List.mem_of_getElem? (i := 177) rfl)) rfl
theorem bw_178 : (Cond.code ({ cls := "BlindMint$Hash", name := "step", desc := "(JJ)J" } : MethodName) prog_8_method_2_code 6 (Option.some FieldType.long)) ∈ bm_big := bm_inT (bm_t1 (List.mem_of_getElem? (i := 178) rfl)) rfl
theorem bw_179 : (Cond.constantLong "BlindMint$Hash" 9 (6364136223846793005)) ∈ bm_big := bm_inT (bm_t1 (List.mem_of_getElem? (i := 179) rfl)) rfl
theorem bw_180 : (Cond.constantLong "BlindMint$Hash" 11 (1442695040888963407)) ∈ bm_big := bm_inT (bm_t1 (List.mem_of_getElem? (i := 180) rfl)) rfl
theorem bw_181 : (Cond.methodLink "BlindMint$Payment" 57 ({ cls := "BlindMint$Hash", name := "end", desc := "(J)J" } : MethodName)) ∈ bm_big := bm_inT (bm_t1 (List.mem_of_getElem? (i := 181) rfl)) rfl
theorem bw_182 : (Cond.static ({ cls := "BlindMint$Hash", name := "end", desc := "(J)J" } : MethodName)) ∈ bm_big := bm_inT (bm_t1 (List.mem_of_getElem? (i := 182) rfl)) rfl
theorem bw_183 : (Cond.code ({ cls := "BlindMint$Hash", name := "end", desc := "(J)J" } : MethodName) prog_8_method_3_code 2 (Option.some FieldType.long)) ∈ bm_big := bm_inT (bm_t1 (List.mem_of_getElem? (i := 183) rfl)) rfl
theorem bw_184 : (Cond.constantLong "BlindMint$Hash" 13 (576460752303423487)) ∈ bm_big := bm_inT (bm_t1 (List.mem_of_getElem? (i := 184) rfl)) rfl
theorem bw_185 : (Cond.methodLink "BlindMint$Payment" 39 ({ cls := "BlindMint$Payment", name := "firstOfPart", desc := "(I)I" } : MethodName)) ∈ bm_big := bm_inT (bm_t1 (List.mem_of_getElem? (i := 185) rfl)) rfl
theorem bw_186 : (Cond.static ({ cls := "BlindMint$Payment", name := "firstOfPart", desc := "(I)I" } : MethodName)) ∈ bm_big := bm_inT (bm_t1 (List.mem_of_getElem? (i := 186) rfl)) rfl
theorem bw_187 : (Cond.code ({ cls := "BlindMint$Payment", name := "firstOfPart", desc := "(I)I" } : MethodName) prog_9_method_8_code 1 (Option.some FieldType.int)) ∈ bm_big := bm_inT (bm_t1 (List.mem_of_getElem? (i := 187) rfl)) rfl
theorem bw_188 : (Cond.methodLink "BlindMint$Payment" 61 ({ cls := "BlindMint$Hash", name := "of", desc := "(JJ)J" } : MethodName)) ∈ bm_big := bm_inT (bm_t1 (List.mem_of_getElem? (i := 188) rfl)) rfl
theorem bw_189 : (Cond.static ({ cls := "BlindMint$Hash", name := "of", desc := "(JJ)J" } : MethodName)) ∈ bm_big := bm_inT (bm_t1 (List.mem_of_getElem? (i := 189) rfl)) rfl
theorem bw_190 : (Cond.code ({ cls := "BlindMint$Hash", name := "of", desc := "(JJ)J" } : MethodName) prog_8_method_4_code 4 (Option.some FieldType.long)) ∈ bm_big := bm_inT (bm_t1 (List.mem_of_getElem? (i := 190) rfl)) rfl
theorem bw_191 : (Cond.constantLong "BlindMint$Hash" 15 (7)) ∈ bm_big := bm_inT (bm_t1 (List.mem_of_getElem? (i := 191) rfl)) rfl
theorem bw_192 : (Cond.methodLink "BlindMint$Hash" 17 ({ cls := "BlindMint$Hash", name := "step", desc := "(JJ)J" } : MethodName)) ∈ bm_big := bm_inT (bm_t1 (List.mem_of_getElem? (i := 192) rfl)) rfl
theorem bw_193 : (Cond.methodLink "BlindMint$Hash" 21 ({ cls := "BlindMint$Hash", name := "end", desc := "(J)J" } : MethodName)) ∈ bm_big := bm_inT (bm_t1 (List.mem_of_getElem? (i := 193) rfl)) rfl
theorem bw_195 : (Cond.static ({ cls := "BlindMint", name := "isOne", desc := "(JI)Z" } : MethodName)) ∈ bm_big := bm_inT (bm_t1 (List.mem_of_getElem? (i := 195) rfl)) rfl
theorem bw_196 : (Cond.code ({ cls := "BlindMint", name := "isOne", desc := "(JI)Z" } : MethodName) prog_1_method_18_code 3 (Option.some FieldType.boolean)) ∈ bm_big := bm_inT (bm_t1 (List.mem_of_getElem? (i := 196) rfl)) rfl
theorem bw_197 : (Cond.methodLink "BlindMint" 188 ({ cls := "BlindMint$Hash", name := "ofCoin", desc := "(J[J)J" } : MethodName)) ∈ bm_big := bm_inT (bm_t1 (List.mem_of_getElem? (i := 197) rfl)) rfl
theorem bw_198 : (Cond.static ({ cls := "BlindMint$Hash", name := "ofCoin", desc := "(J[J)J" } : MethodName)) ∈ bm_big := bm_inT (bm_t1 (List.mem_of_getElem? (i := 198) rfl)) rfl
theorem bw_199 : (Cond.code ({ cls := "BlindMint$Hash", name := "ofCoin", desc := "(J[J)J" } : MethodName) prog_8_method_5_code 10 (Option.some FieldType.long)) ∈ bm_big := bm_inT (bm_t1 (List.mem_of_getElem? (i := 199) rfl)) rfl
theorem bw_200 : (Cond.methodLink "BlindMint" 221 ({ cls := "BlindMint$Payment", name := "signatureNumber", desc := "()J" } : MethodName)) ∈ bm_big := bm_inT (bm_t1 (List.mem_of_getElem? (i := 200) rfl)) rfl
theorem bw_201 : (Cond.instanceMethod ({ cls := "BlindMint$Payment", name := "signatureNumber", desc := "()J" } : MethodName)) ∈ bm_big := bm_inT (bm_t1 (List.mem_of_getElem? (i := 201) rfl)) rfl
theorem bw_202 : (Cond.selects "BlindMint$Payment" ({ cls := "BlindMint$Payment", name := "signatureNumber", desc := "()J" } : MethodName) ({ cls := "BlindMint$Payment", name := "signatureNumber", desc := "()J" } : MethodName)) ∈ bm_big := bm_inT (bm_t1 (List.mem_of_getElem? (i := 202) rfl)) rfl
theorem bw_203 : (Cond.code ({ cls := "BlindMint$Payment", name := "signatureNumber", desc := "()J" } : MethodName) prog_9_method_4_code 1 (Option.some FieldType.long)) ∈ bm_big := bm_inT (bm_t1 (List.mem_of_getElem? (i := 203) rfl)) rfl
theorem bw_204 : (Cond.methodLink "BlindMint" 224 ({ cls := "BlindMint$Denomination", name := "isSignature", desc := "(JJ)Z" } : MethodName)) ∈ bm_big := bm_inT (bm_t1 (List.mem_of_getElem? (i := 204) rfl)) rfl
theorem bw_205 : (Cond.instanceMethod ({ cls := "BlindMint$Denomination", name := "isSignature", desc := "(JJ)Z" } : MethodName)) ∈ bm_big := bm_inT (bm_t1 (List.mem_of_getElem? (i := 205) rfl)) rfl
theorem bw_206 : (Cond.selects "BlindMint$Denomination" ({ cls := "BlindMint$Denomination", name := "isSignature", desc := "(JJ)Z" } : MethodName) ({ cls := "BlindMint$Denomination", name := "isSignature", desc := "(JJ)Z" } : MethodName)) ∈ bm_big := bm_inT (bm_t1 (List.mem_of_getElem? (i := 206) rfl)) rfl
theorem bw_207 : (Cond.code ({ cls := "BlindMint$Denomination", name := "isSignature", desc := "(JJ)Z" } : MethodName) prog_6_method_8_code 5 (Option.some FieldType.boolean)) ∈ bm_big := bm_inT (bm_t1 (List.mem_of_getElem? (i := 207) rfl)) rfl
theorem bw_208 : (Cond.constantLong "BlindMint$Denomination" 43 (17)) ∈ bm_big := bm_inT (bm_t1 (List.mem_of_getElem? (i := 208) rfl)) rfl
theorem bw_209 : (Cond.methodLink "BlindMint$Denomination" 45 ({ cls := "BlindMint$Field", name := "power", desc := "(JJJ)J" } : MethodName)) ∈ bm_big := bm_inT (bm_t1 (List.mem_of_getElem? (i := 209) rfl)) rfl
theorem bw_210 : (Cond.static ({ cls := "BlindMint$Field", name := "power", desc := "(JJJ)J" } : MethodName)) ∈ bm_big := bm_inT (bm_t1 (List.mem_of_getElem? (i := 210) rfl)) rfl
theorem bw_211 : (Cond.code ({ cls := "BlindMint$Field", name := "power", desc := "(JJJ)J" } : MethodName) prog_7_method_3_code 11 (Option.some FieldType.long)) ∈ bm_big := bm_inT (bm_t1 (List.mem_of_getElem? (i := 211) rfl)) rfl
theorem bw_213 : (Cond.methodLink "BlindMintLaw" 87 ({ cls := "BlindMint", name := "traced", desc := "()I" } : MethodName)) ∈ bm_big := bm_inT (bm_t1 (List.mem_of_getElem? (i := 213) rfl)) rfl
theorem bw_214 : (Cond.instanceMethod ({ cls := "BlindMint", name := "traced", desc := "()I" } : MethodName)) ∈ bm_big := bm_inT (bm_t1 (List.mem_of_getElem? (i := 214) rfl)) rfl
theorem bw_215 : (Cond.selects "BlindMint" ({ cls := "BlindMint", name := "traced", desc := "()I" } : MethodName) ({ cls := "BlindMint", name := "traced", desc := "()I" } : MethodName)) ∈ bm_big := bm_inT (bm_t1 (List.mem_of_getElem? (i := 215) rfl)) rfl
theorem bw_216 : (Cond.code ({ cls := "BlindMint", name := "traced", desc := "()I" } : MethodName) prog_1_method_9_code 1 (Option.some FieldType.int)) ∈ bm_big := bm_inT (bm_t1 (List.mem_of_getElem? (i := 216) rfl)) rfl
theorem bw_217 : (Cond.methodLink "BlindMintLaw" 95 ({ cls := "BlindMint", name := "coins", desc := "(I)I" } : MethodName)) ∈ bm_big := bm_inT (bm_t1 (List.mem_of_getElem? (i := 217) rfl)) rfl
theorem bw_218 : (Cond.instanceMethod ({ cls := "BlindMint", name := "coins", desc := "(I)I" } : MethodName)) ∈ bm_big := bm_inT (bm_t1 (List.mem_of_getElem? (i := 218) rfl)) rfl
theorem bw_219 : (Cond.selects "BlindMint" ({ cls := "BlindMint", name := "coins", desc := "(I)I" } : MethodName) ({ cls := "BlindMint", name := "coins", desc := "(I)I" } : MethodName)) ∈ bm_big := bm_inT (bm_t1 (List.mem_of_getElem? (i := 219) rfl)) rfl
theorem bw_220 : (Cond.code ({ cls := "BlindMint", name := "coins", desc := "(I)I" } : MethodName) prog_1_method_11_code 2 (Option.some FieldType.int)) ∈ bm_big := bm_inT (bm_t1 (List.mem_of_getElem? (i := 220) rfl)) rfl
theorem bw_221 : (Cond.methodLink "BlindMint" 62 ({ cls := "BlindMint", name := "isAccount", desc := "(I)Z" } : MethodName)) ∈ bm_big := bm_inT (bm_t1 (List.mem_of_getElem? (i := 221) rfl)) rfl
theorem bw_222 : (Cond.static ({ cls := "BlindMint", name := "isAccount", desc := "(I)Z" } : MethodName)) ∈ bm_big := bm_inT (bm_t1 (List.mem_of_getElem? (i := 222) rfl)) rfl
theorem bw_223 : (Cond.code ({ cls := "BlindMint", name := "isAccount", desc := "(I)Z" } : MethodName) prog_1_method_16_code 1 (Option.some FieldType.boolean)) ∈ bm_big := bm_inT (bm_t1 (List.mem_of_getElem? (i := 223) rfl)) rfl
theorem bw_224 : (Cond.methodLink "BlindMintLaw" 105 ({ cls := "BlindMint", name := "blinded", desc := "()J" } : MethodName)) ∈ bm_big := bm_inT (bm_t1 (List.mem_of_getElem? (i := 224) rfl)) rfl
theorem bw_225 : (Cond.instanceMethod ({ cls := "BlindMint", name := "blinded", desc := "()J" } : MethodName)) ∈ bm_big := bm_inT (bm_t1 (List.mem_of_getElem? (i := 225) rfl)) rfl
theorem bw_226 : (Cond.selects "BlindMint" ({ cls := "BlindMint", name := "blinded", desc := "()J" } : MethodName) ({ cls := "BlindMint", name := "blinded", desc := "()J" } : MethodName)) ∈ bm_big := bm_inT (bm_t1 (List.mem_of_getElem? (i := 226) rfl)) rfl
theorem bw_227 : (Cond.code ({ cls := "BlindMint", name := "blinded", desc := "()J" } : MethodName) prog_1_method_14_code 1 (Option.some FieldType.long)) ∈ bm_big := bm_inT (bm_t1 (List.mem_of_getElem? (i := 227) rfl)) rfl
theorem bw_228 : (Cond.methodLink "BlindMintLaw" 110 ({ cls := "BlindMint", name := "count", desc := "(I)I" } : MethodName)) ∈ bm_big := bm_inT (bm_t1 (List.mem_of_getElem? (i := 228) rfl)) rfl
theorem bw_229 : (Cond.instanceMethod ({ cls := "BlindMint", name := "count", desc := "(I)I" } : MethodName)) ∈ bm_big := bm_inT (bm_t1 (List.mem_of_getElem? (i := 229) rfl)) rfl
theorem bw_230 : (Cond.selects "BlindMint" ({ cls := "BlindMint", name := "count", desc := "(I)I" } : MethodName) ({ cls := "BlindMint", name := "count", desc := "(I)I" } : MethodName)) ∈ bm_big := bm_inT (bm_t1 (List.mem_of_getElem? (i := 230) rfl)) rfl
theorem bw_231 : (Cond.code ({ cls := "BlindMint", name := "count", desc := "(I)I" } : MethodName) prog_1_method_15_code 2 (Option.some FieldType.int)) ∈ bm_big := bm_inT (bm_t1 (List.mem_of_getElem? (i := 231) rfl)) rfl
theorem bw_232 : (Cond.methodLink "BlindMintLaw" 54 ({ cls := "BlindMintLaw", name := "withdraw", desc := "(LBlindMint;IIJI[J)I" } : MethodName)) ∈ bm_big := bm_inT (bm_t1 (List.mem_of_getElem? (i := 232) rfl)) rfl
theorem bw_233 : (Cond.static ({ cls := "BlindMintLaw", name := "withdraw", desc := "(LBlindMint;IIJI[J)I" } : MethodName)) ∈ bm_big := bm_inT (bm_t1 (List.mem_of_getElem? (i := 233) rfl)) rfl
theorem bw_234 : (Cond.codeWith ({ cls := "BlindMintLaw", name := "withdraw", desc := "(LBlindMint;IIJI[J)I" } : MethodName) method_3_code 8 (Option.some FieldType.int) [(0, 14, 17, 13), (0, 14, 21, 15)]) ∈ bm_big := bm_inT (bm_t1 (List.mem_of_getElem? (i := 234) rfl)) rfl
theorem bw_235 : (Cond.classLink "BlindMintLaw" 13 "java/lang/IllegalArgumentException") ∈ bm_big := bm_inT (bm_t1 (List.mem_of_getElem? (i := 235) rfl)) rfl
theorem bw_236 : (Cond.classLink "BlindMintLaw" 15 "java/lang/IllegalStateException") ∈ bm_big := bm_inT (bm_t1 (List.mem_of_getElem? (i := 236) rfl)) rfl
theorem bw_237 : (Cond.methodLink "BlindMintLaw" 7 ({ cls := "BlindMint", name := "withdraw", desc := "(IIJI)I" } : MethodName)) ∈ bm_big := bm_inT (bm_t1 (List.mem_of_getElem? (i := 237) rfl)) rfl
theorem bw_238 : (Cond.instanceMethod ({ cls := "BlindMint", name := "withdraw", desc := "(IIJI)I" } : MethodName)) ∈ bm_big := bm_inT (bm_t1 (List.mem_of_getElem? (i := 238) rfl)) rfl
theorem bw_239 : (Cond.selects "BlindMint" ({ cls := "BlindMint", name := "withdraw", desc := "(IIJI)I" } : MethodName) ({ cls := "BlindMint", name := "withdraw", desc := "(IIJI)I" } : MethodName)) ∈ bm_big := bm_inT (bm_t1 (List.mem_of_getElem? (i := 239) rfl)) rfl
theorem bw_240 : (Cond.code ({ cls := "BlindMint", name := "withdraw", desc := "(IIJI)I" } : MethodName) prog_1_method_2_code 11 (Option.some FieldType.int)) ∈ bm_big := bm_inT (bm_t2 (List.mem_of_getElem? (i := 0) rfl)) rfl
theorem bw_241 : (Cond.classLink "BlindMint" 70 "java/lang/IllegalArgumentException") ∈ bm_big := bm_inT (bm_t2 (List.mem_of_getElem? (i := 1) rfl)) rfl
theorem bw_242 : (Cond.instantiable "java/lang/IllegalArgumentException" 6) ∈ bm_big := bm_inT (bm_t2 (List.mem_of_getElem? (i := 2) rfl)) rfl
theorem bw_250 : (Cond.selects "java/lang/IllegalArgumentException" ({ cls := "java/lang/Throwable", name := "fillInStackTrace", desc := "(I)Ljava/lang/Throwable;" } : MethodName) ({ cls := "java/lang/Throwable", name := "fillInStackTrace", desc := "(I)Ljava/lang/Throwable;" } : MethodName)) ∈ bm_big := bm_inT (bm_t2 (List.mem_of_getElem? (i := 10) rfl)) rfl
theorem bw_251 : (Cond.selects "java/lang/IllegalArgumentException" ({ cls := "java/lang/Throwable", name := "fillInStackTrace", desc := "()Ljava/lang/Throwable;" } : MethodName) ({ cls := "java/lang/Throwable", name := "fillInStackTrace", desc := "()Ljava/lang/Throwable;" } : MethodName)) ∈ bm_big := bm_inT (bm_t2 (List.mem_of_getElem? (i := 11) rfl)) rfl
theorem bw_252 : (Cond.lays "java/lang/IllegalArgumentException" "java/lang/Throwable" "cause" "Ljava/lang/Throwable;") ∈ bm_big := bm_inT (bm_t2 (List.mem_of_getElem? (i := 12) rfl)) rfl
theorem bw_253 : (Cond.lays "java/lang/Throwable" "java/lang/Throwable" "cause" "Ljava/lang/Throwable;") ∈ bm_big := bm_inT (bm_t2 (List.mem_of_getElem? (i := 13) rfl)) rfl
theorem bw_254 : (Cond.lays "java/lang/IllegalArgumentException" "java/lang/Throwable" "stackTrace" "[Ljava/lang/StackTraceElement;") ∈ bm_big := bm_inT (bm_t2 (List.mem_of_getElem? (i := 14) rfl)) rfl
theorem bw_255 : (Cond.lays "java/lang/Throwable" "java/lang/Throwable" "stackTrace" "[Ljava/lang/StackTraceElement;") ∈ bm_big := bm_inT (bm_t2 (List.mem_of_getElem? (i := 15) rfl)) rfl
theorem bw_256 : (Cond.lays "java/lang/IllegalArgumentException" "java/lang/Throwable" "suppressedExceptions" "Ljava/util/List;") ∈ bm_big := bm_inT (bm_t2 (List.mem_of_getElem? (i := 16) rfl)) rfl
theorem bw_257 : (Cond.lays "java/lang/Throwable" "java/lang/Throwable" "suppressedExceptions" "Ljava/util/List;") ∈ bm_big := bm_inT (bm_t2 (List.mem_of_getElem? (i := 17) rfl)) rfl
theorem bw_258 : (Cond.lays "java/lang/IllegalArgumentException" "java/lang/Throwable" "detailMessage" "Ljava/lang/String;") ∈ bm_big := bm_inT (bm_t2 (List.mem_of_getElem? (i := 18) rfl)) rfl
theorem bw_259 : (Cond.lays "java/lang/Throwable" "java/lang/Throwable" "detailMessage" "Ljava/lang/String;") ∈ bm_big := bm_inT (bm_t2 (List.mem_of_getElem? (i := 19) rfl)) rfl
theorem bw_260 : (Cond.lays "java/lang/IllegalArgumentException" "java/lang/Throwable" "backtrace" "Ljava/lang/Object;") ∈ bm_big := bm_inT (bm_t2 (List.mem_of_getElem? (i := 20) rfl)) rfl
theorem bw_261 : (Cond.lays "java/lang/Throwable" "java/lang/Throwable" "backtrace" "Ljava/lang/Object;") ∈ bm_big := bm_inT (bm_t2 (List.mem_of_getElem? (i := 21) rfl)) rfl
theorem bw_262 : (Cond.fieldLink "java/lang/Throwable" 198 "java/lang/Throwable" "backtrace" "Ljava/lang/Object;") ∈ bm_big := bm_inT (bm_t2 (List.mem_of_getElem? (i := 22) rfl)) rfl
theorem bw_263 : (Cond.superclass "java/lang/Throwable" "java/lang/Object") ∈ bm_big := bm_inT (bm_t2 (List.mem_of_getElem? (i := 23) rfl)) rfl
theorem bw_264 : (Cond.instanceMethod ({ cls := "java/lang/Throwable", name := "<init>", desc := "()V" } : MethodName)) ∈ bm_big := bm_inT (bm_t2 (List.mem_of_getElem? (i := 24) rfl)) rfl
theorem bw_265 : (Cond.code ({ cls := "java/lang/Throwable", name := "<init>", desc := "()V" } : MethodName) prog_21_method_1_code 1 (Option.none : Option Jvm.ClassFile.FieldType)) ∈ bm_big := bm_inT (bm_t2 (List.mem_of_getElem? (i := 25) rfl)) rfl
theorem bw_266 : (Cond.methodLink "java/lang/Throwable" 1 ({ cls := "java/lang/Object", name := "<init>", desc := "()V" } : MethodName)) ∈ bm_big := bm_inT (bm_t2 (List.mem_of_getElem? (i := 26) rfl)) rfl
theorem bw_267 : (Cond.fieldLink "java/lang/Throwable" 13 "java/lang/Throwable" "UNASSIGNED_STACK" "[Ljava/lang/StackTraceElement;") ∈ bm_big := bm_inT (bm_t2 (List.mem_of_getElem? (i := 27) rfl)) rfl
theorem bw_269 : (Cond.fieldLink "java/lang/Throwable" 20 "java/lang/Throwable" "SUPPRESSED_SENTINEL" "Ljava/util/List;") ∈ bm_big := bm_inT (bm_t2 (List.mem_of_getElem? (i := 29) rfl)) rfl
theorem bw_271 : (Cond.methodLink "java/lang/Throwable" 27 ({ cls := "java/lang/Throwable", name := "fillInStackTrace", desc := "()Ljava/lang/Throwable;" } : MethodName)) ∈ bm_big := bm_inT (bm_t2 (List.mem_of_getElem? (i := 31) rfl)) rfl
theorem bw_272 : (Cond.instanceMethod ({ cls := "java/lang/Throwable", name := "fillInStackTrace", desc := "()Ljava/lang/Throwable;" } : MethodName)) ∈ bm_big := bm_inT (bm_t2 (List.mem_of_getElem? (i := 32) rfl)) rfl
theorem bw_273 : (Cond.sameMethod "java/lang/Throwable" "java/lang/Throwable" "fillInStackTrace" "()Ljava/lang/Throwable;") ∈ bm_big := bm_inT (bm_t2 (List.mem_of_getElem? (i := 33) rfl)) rfl
theorem bw_274 : (Cond.selects "java/lang/IllegalStateException" ({ cls := "java/lang/Throwable", name := "fillInStackTrace", desc := "()Ljava/lang/Throwable;" } : MethodName) ({ cls := "java/lang/Throwable", name := "fillInStackTrace", desc := "()Ljava/lang/Throwable;" } : MethodName)) ∈ bm_big := bm_inT (bm_t2 (List.mem_of_getElem? (i := 34) rfl)) rfl
theorem bw_275 : (Cond.selects "java/util/NoSuchElementException" ({ cls := "java/lang/Throwable", name := "fillInStackTrace", desc := "()Ljava/lang/Throwable;" } : MethodName) ({ cls := "java/lang/Throwable", name := "fillInStackTrace", desc := "()Ljava/lang/Throwable;" } : MethodName)) ∈ bm_big := bm_inT (bm_t2 (List.mem_of_getElem? (i := 35) rfl)) rfl
theorem bw_276 : (Cond.codeSync ({ cls := "java/lang/Throwable", name := "fillInStackTrace", desc := "()Ljava/lang/Throwable;" } : MethodName) prog_21_method_18_code 1 (Option.some (FieldType.object "java/lang/Throwable"))) ∈ bm_big := bm_inT (bm_t2 (List.mem_of_getElem? (i := 36) rfl)) rfl
theorem bw_277 : (Cond.methodLink "java/lang/Throwable" 202 ({ cls := "java/lang/Throwable", name := "fillInStackTrace", desc := "(I)Ljava/lang/Throwable;" } : MethodName)) ∈ bm_big := bm_inT (bm_t2 (List.mem_of_getElem? (i := 37) rfl)) rfl
theorem bw_279 : (Cond.instanceMethod ({ cls := "java/lang/Throwable", name := "fillInStackTrace", desc := "(I)Ljava/lang/Throwable;" } : MethodName)) ∈ bm_big := bm_inT (bm_t2 (List.mem_of_getElem? (i := 39) rfl)) rfl
theorem bw_280 : (Cond.instantiable "java/lang/Throwable" 6) ∈ bm_big := bm_inT (bm_t2 (List.mem_of_getElem? (i := 40) rfl)) rfl
theorem bw_281 : (Cond.native ({ cls := "java/lang/Throwable", name := "fillInStackTrace", desc := "(I)Ljava/lang/Throwable;" } : MethodName)) ∈ bm_big := bm_inT (bm_t2 (List.mem_of_getElem? (i := 41) rfl)) rfl
theorem bw_282 : (Cond.methodLink "BlindMint" 72 ({ cls := "java/lang/IllegalArgumentException", name := "<init>", desc := "()V" } : MethodName)) ∈ bm_big := bm_inT (bm_t2 (List.mem_of_getElem? (i := 42) rfl)) rfl
theorem bw_283 : (Cond.instanceMethod ({ cls := "java/lang/IllegalArgumentException", name := "<init>", desc := "()V" } : MethodName)) ∈ bm_big := bm_inT (bm_t2 (List.mem_of_getElem? (i := 43) rfl)) rfl
theorem bw_284 : (Cond.code ({ cls := "java/lang/IllegalArgumentException", name := "<init>", desc := "()V" } : MethodName) prog_16_method_1_code 1 (Option.none : Option Jvm.ClassFile.FieldType)) ∈ bm_big := bm_inT (bm_t2 (List.mem_of_getElem? (i := 44) rfl)) rfl
theorem bw_285 : (Cond.methodLink "java/lang/IllegalArgumentException" 1 ({ cls := "java/lang/RuntimeException", name := "<init>", desc := "()V" } : MethodName)) ∈ bm_big := bm_inT (bm_t2 (List.mem_of_getElem? (i := 45) rfl)) rfl
theorem bw_286 : (Cond.instanceMethod ({ cls := "java/lang/RuntimeException", name := "<init>", desc := "()V" } : MethodName)) ∈ bm_big := bm_inT (bm_t2 (List.mem_of_getElem? (i := 46) rfl)) rfl
theorem bw_287 : (Cond.code ({ cls := "java/lang/RuntimeException", name := "<init>", desc := "()V" } : MethodName) prog_19_method_1_code 1 (Option.none : Option Jvm.ClassFile.FieldType)) ∈ bm_big := bm_inT (bm_t2 (List.mem_of_getElem? (i := 47) rfl)) rfl
theorem bw_288 : (Cond.methodLink "java/lang/RuntimeException" 1 ({ cls := "java/lang/Exception", name := "<init>", desc := "()V" } : MethodName)) ∈ bm_big := bm_inT (bm_t2 (List.mem_of_getElem? (i := 48) rfl)) rfl
theorem bw_289 : (Cond.instanceMethod ({ cls := "java/lang/Exception", name := "<init>", desc := "()V" } : MethodName)) ∈ bm_big := bm_inT (bm_t2 (List.mem_of_getElem? (i := 49) rfl)) rfl
theorem bw_290 : (Cond.code ({ cls := "java/lang/Exception", name := "<init>", desc := "()V" } : MethodName) prog_15_method_1_code 1 (Option.none : Option Jvm.ClassFile.FieldType)) ∈ bm_big := bm_inT (bm_t2 (List.mem_of_getElem? (i := 50) rfl)) rfl
theorem bw_291 : (Cond.methodLink "java/lang/Exception" 1 ({ cls := "java/lang/Throwable", name := "<init>", desc := "()V" } : MethodName)) ∈ bm_big := bm_inT (bm_t2 (List.mem_of_getElem? (i := 51) rfl)) rfl
theorem bw_292 : (Cond.fieldLink "java/lang/Throwable" 198 "java/lang/Throwable" "backtrace" "Ljava/lang/Object;") ∈ bm_big := bm_inT (bm_t2 (List.mem_of_getElem? (i := 52) rfl)) rfl
theorem bw_293 : (Cond.fieldLink "java/lang/Throwable" 7 "java/lang/Throwable" "cause" "Ljava/lang/Throwable;") ∈ bm_big := bm_inT (bm_t2 (List.mem_of_getElem? (i := 53) rfl)) rfl
theorem bw_294 : (Cond.fieldLink "java/lang/Throwable" 17 "java/lang/Throwable" "stackTrace" "[Ljava/lang/StackTraceElement;") ∈ bm_big := bm_inT (bm_t2 (List.mem_of_getElem? (i := 54) rfl)) rfl
theorem bw_295 : (Cond.fieldLink "java/lang/Throwable" 24 "java/lang/Throwable" "suppressedExceptions" "Ljava/util/List;") ∈ bm_big := bm_inT (bm_t2 (List.mem_of_getElem? (i := 55) rfl)) rfl
theorem bw_300 : (Cond.lays "java/lang/IllegalArgumentException" "java/lang/Throwable" "depth" "I") ∈ bm_big := bm_inT (bm_t2 (List.mem_of_getElem? (i := 60) rfl)) rfl
theorem bw_303 : (Cond.superclass "java/lang/IllegalArgumentException" "java/lang/RuntimeException") ∈ bm_big := bm_inT (bm_t2 (List.mem_of_getElem? (i := 63) rfl)) rfl
theorem bw_304 : (Cond.methodLink "BlindMint" 85 ({ cls := "BlindMint$Account", name := "isWalletFull", desc := "()Z" } : MethodName)) ∈ bm_big := bm_inT (bm_t2 (List.mem_of_getElem? (i := 64) rfl)) rfl
theorem bw_305 : (Cond.instanceMethod ({ cls := "BlindMint$Account", name := "isWalletFull", desc := "()Z" } : MethodName)) ∈ bm_big := bm_inT (bm_t2 (List.mem_of_getElem? (i := 65) rfl)) rfl
theorem bw_306 : (Cond.selects "BlindMint$Account" ({ cls := "BlindMint$Account", name := "isWalletFull", desc := "()Z" } : MethodName) ({ cls := "BlindMint$Account", name := "isWalletFull", desc := "()Z" } : MethodName)) ∈ bm_big := bm_inT (bm_t2 (List.mem_of_getElem? (i := 66) rfl)) rfl
theorem bw_307 : (Cond.code ({ cls := "BlindMint$Account", name := "isWalletFull", desc := "()Z" } : MethodName) prog_2_method_2_code 1 (Option.some FieldType.boolean)) ∈ bm_big := bm_inT (bm_t2 (List.mem_of_getElem? (i := 67) rfl)) rfl
theorem bw_308 : (Cond.classLink "BlindMint" 89 "java/lang/IllegalStateException") ∈ bm_big := bm_inT (bm_t2 (List.mem_of_getElem? (i := 68) rfl)) rfl
theorem bw_309 : (Cond.instantiable "java/lang/IllegalStateException" 6) ∈ bm_big := bm_inT (bm_t2 (List.mem_of_getElem? (i := 69) rfl)) rfl
theorem bw_311 : (Cond.selects "java/lang/IllegalStateException" ({ cls := "java/lang/Throwable", name := "fillInStackTrace", desc := "(I)Ljava/lang/Throwable;" } : MethodName) ({ cls := "java/lang/Throwable", name := "fillInStackTrace", desc := "(I)Ljava/lang/Throwable;" } : MethodName)) ∈ bm_big := bm_inT (bm_t2 (List.mem_of_getElem? (i := 71) rfl)) rfl
theorem bw_312 : (Cond.lays "java/lang/IllegalStateException" "java/lang/Throwable" "cause" "Ljava/lang/Throwable;") ∈ bm_big := bm_inT (bm_t2 (List.mem_of_getElem? (i := 72) rfl)) rfl
theorem bw_313 : (Cond.lays "java/lang/IllegalStateException" "java/lang/Throwable" "stackTrace" "[Ljava/lang/StackTraceElement;") ∈ bm_big := bm_inT (bm_t2 (List.mem_of_getElem? (i := 73) rfl)) rfl
theorem bw_314 : (Cond.lays "java/lang/IllegalStateException" "java/lang/Throwable" "suppressedExceptions" "Ljava/util/List;") ∈ bm_big := bm_inT (bm_t2 (List.mem_of_getElem? (i := 74) rfl)) rfl
theorem bw_315 : (Cond.lays "java/lang/IllegalStateException" "java/lang/Throwable" "detailMessage" "Ljava/lang/String;") ∈ bm_big := bm_inT (bm_t2 (List.mem_of_getElem? (i := 75) rfl)) rfl
theorem bw_316 : (Cond.lays "java/lang/IllegalStateException" "java/lang/Throwable" "backtrace" "Ljava/lang/Object;") ∈ bm_big := bm_inT (bm_t2 (List.mem_of_getElem? (i := 76) rfl)) rfl
theorem bw_317 : (Cond.methodLink "BlindMint" 91 ({ cls := "java/lang/IllegalStateException", name := "<init>", desc := "()V" } : MethodName)) ∈ bm_big := bm_inT (bm_t2 (List.mem_of_getElem? (i := 77) rfl)) rfl
theorem bw_318 : (Cond.instanceMethod ({ cls := "java/lang/IllegalStateException", name := "<init>", desc := "()V" } : MethodName)) ∈ bm_big := bm_inT (bm_t2 (List.mem_of_getElem? (i := 78) rfl)) rfl
theorem bw_319 : (Cond.code ({ cls := "java/lang/IllegalStateException", name := "<init>", desc := "()V" } : MethodName) prog_17_method_1_code 1 (Option.none : Option Jvm.ClassFile.FieldType)) ∈ bm_big := bm_inT (bm_t2 (List.mem_of_getElem? (i := 79) rfl)) rfl
theorem bw_320 : (Cond.methodLink "java/lang/IllegalStateException" 1 ({ cls := "java/lang/RuntimeException", name := "<init>", desc := "()V" } : MethodName)) ∈ bm_big := bm_inT (bm_t2 (List.mem_of_getElem? (i := 80) rfl)) rfl
theorem bw_321 : (Cond.lays "java/lang/IllegalStateException" "java/lang/Throwable" "depth" "I") ∈ bm_big := bm_inT (bm_t2 (List.mem_of_getElem? (i := 81) rfl)) rfl
theorem bw_322 : (Cond.superclass "java/lang/IllegalStateException" "java/lang/RuntimeException") ∈ bm_big := bm_inT (bm_t2 (List.mem_of_getElem? (i := 82) rfl)) rfl
theorem bw_323 : (Cond.methodLink "BlindMint" 92 ({ cls := "BlindMint$Proposal", name := "make", desc := "(JJI)V" } : MethodName)) ∈ bm_big := bm_inT (bm_t2 (List.mem_of_getElem? (i := 83) rfl)) rfl
theorem bw_324 : (Cond.instanceMethod ({ cls := "BlindMint$Proposal", name := "make", desc := "(JJI)V" } : MethodName)) ∈ bm_big := bm_inT (bm_t2 (List.mem_of_getElem? (i := 84) rfl)) rfl
theorem bw_325 : (Cond.selects "BlindMint$Proposal" ({ cls := "BlindMint$Proposal", name := "make", desc := "(JJI)V" } : MethodName) ({ cls := "BlindMint$Proposal", name := "make", desc := "(JJI)V" } : MethodName)) ∈ bm_big := bm_inT (bm_t2 (List.mem_of_getElem? (i := 85) rfl)) rfl
theorem bw_326 : (Cond.code ({ cls := "BlindMint$Proposal", name := "make", desc := "(JJI)V" } : MethodName) prog_10_method_2_code 7 (Option.none : Option Jvm.ClassFile.FieldType)) ∈ bm_big := bm_inT (bm_t2 (List.mem_of_getElem? (i := 86) rfl)) rfl
theorem bw_327 : (Cond.methodLink "BlindMint$Proposal" 28 ({ cls := "BlindMint$Candidate", name := "make", desc := "(JIJ)V" } : MethodName)) ∈ bm_big := bm_inT (bm_t2 (List.mem_of_getElem? (i := 87) rfl)) rfl
theorem bw_328 : (Cond.instanceMethod ({ cls := "BlindMint$Candidate", name := "make", desc := "(JIJ)V" } : MethodName)) ∈ bm_big := bm_inT (bm_t2 (List.mem_of_getElem? (i := 88) rfl)) rfl
theorem bw_329 : (Cond.selects "BlindMint$Candidate" ({ cls := "BlindMint$Candidate", name := "make", desc := "(JIJ)V" } : MethodName) ({ cls := "BlindMint$Candidate", name := "make", desc := "(JIJ)V" } : MethodName)) ∈ bm_big := bm_inT (bm_t2 (List.mem_of_getElem? (i := 89) rfl)) rfl
theorem bw_330 : (Cond.code ({ cls := "BlindMint$Candidate", name := "make", desc := "(JIJ)V" } : MethodName) prog_3_method_2_code 6 (Option.none : Option Jvm.ClassFile.FieldType)) ∈ bm_big := bm_inT (bm_t2 (List.mem_of_getElem? (i := 90) rfl)) rfl
theorem bw_331 : (Cond.methodLink "BlindMint$Candidate" 7 ({ cls := "BlindMint$Hash", name := "of", desc := "(JJ)J" } : MethodName)) ∈ bm_big := bm_inT (bm_t2 (List.mem_of_getElem? (i := 91) rfl)) rfl
theorem bw_332 : (Cond.methodLink "BlindMint$Proposal" 32 ({ cls := "BlindMint$Proposal", name := "open", desc := "()V" } : MethodName)) ∈ bm_big := bm_inT (bm_t2 (List.mem_of_getElem? (i := 92) rfl)) rfl
theorem bw_334 : (Cond.instanceMethod ({ cls := "BlindMint$Proposal", name := "open", desc := "()V" } : MethodName)) ∈ bm_big := bm_inT (bm_t2 (List.mem_of_getElem? (i := 94) rfl)) rfl
theorem bw_335 : (Cond.code ({ cls := "BlindMint$Proposal", name := "open", desc := "()V" } : MethodName) prog_10_method_5_code 6 (Option.none : Option Jvm.ClassFile.FieldType)) ∈ bm_big := bm_inT (bm_t2 (List.mem_of_getElem? (i := 95) rfl)) rfl
theorem bw_336 : (Cond.constantLong "BlindMint$Proposal" 48 (7)) ∈ bm_big := bm_inT (bm_t2 (List.mem_of_getElem? (i := 96) rfl)) rfl
theorem bw_337 : (Cond.methodLink "BlindMint$Proposal" 50 ({ cls := "BlindMint$Hash", name := "step", desc := "(JJ)J" } : MethodName)) ∈ bm_big := bm_inT (bm_t2 (List.mem_of_getElem? (i := 97) rfl)) rfl
theorem bw_338 : (Cond.methodLink "BlindMint$Proposal" 54 ({ cls := "BlindMint$Hash", name := "end", desc := "(J)J" } : MethodName)) ∈ bm_big := bm_inT (bm_t2 (List.mem_of_getElem? (i := 98) rfl)) rfl
theorem bw_339 : (Cond.constantLong "BlindMint$Proposal" 58 (6)) ∈ bm_big := bm_inT (bm_t2 (List.mem_of_getElem? (i := 99) rfl)) rfl
theorem bw_340 : (Cond.constantLong "BlindMint$Proposal" 60 (5)) ∈ bm_big := bm_inT (bm_t2 (List.mem_of_getElem? (i := 100) rfl)) rfl
theorem bw_341 : (Cond.methodLink "BlindMint$Proposal" 35 ({ cls := "BlindMint$Proposal", name := "sortParts", desc := "()V" } : MethodName)) ∈ bm_big := bm_inT (bm_t2 (List.mem_of_getElem? (i := 101) rfl)) rfl
theorem bw_343 : (Cond.instanceMethod ({ cls := "BlindMint$Proposal", name := "sortParts", desc := "()V" } : MethodName)) ∈ bm_big := bm_inT (bm_t2 (List.mem_of_getElem? (i := 103) rfl)) rfl
theorem bw_344 : (Cond.code ({ cls := "BlindMint$Proposal", name := "sortParts", desc := "()V" } : MethodName) prog_10_method_6_code 3 (Option.none : Option Jvm.ClassFile.FieldType)) ∈ bm_big := bm_inT (bm_t2 (List.mem_of_getElem? (i := 104) rfl)) rfl
theorem bw_345 : (Cond.methodLink "BlindMint$Proposal" 62 ({ cls := "BlindMint$Proposal", name := "insertPart", desc := "(LBlindMint$Candidate;I)V" } : MethodName)) ∈ bm_big := bm_inT (bm_t2 (List.mem_of_getElem? (i := 105) rfl)) rfl
theorem bw_347 : (Cond.instanceMethod ({ cls := "BlindMint$Proposal", name := "insertPart", desc := "(LBlindMint$Candidate;I)V" } : MethodName)) ∈ bm_big := bm_inT (bm_t2 (List.mem_of_getElem? (i := 107) rfl)) rfl
theorem bw_348 : (Cond.code ({ cls := "BlindMint$Proposal", name := "insertPart", desc := "(LBlindMint$Candidate;I)V" } : MethodName) prog_10_method_7_code 4 (Option.none : Option Jvm.ClassFile.FieldType)) ∈ bm_big := bm_inT (bm_t2 (List.mem_of_getElem? (i := 108) rfl)) rfl
theorem bw_349 : (Cond.methodLink "BlindMint" 96 ({ cls := "BlindMint$Proposal", name := "openedCheats", desc := "(J)I" } : MethodName)) ∈ bm_big := bm_inT (bm_t2 (List.mem_of_getElem? (i := 109) rfl)) rfl
theorem bw_350 : (Cond.instanceMethod ({ cls := "BlindMint$Proposal", name := "openedCheats", desc := "(J)I" } : MethodName)) ∈ bm_big := bm_inT (bm_t2 (List.mem_of_getElem? (i := 110) rfl)) rfl
theorem bw_351 : (Cond.selects "BlindMint$Proposal" ({ cls := "BlindMint$Proposal", name := "openedCheats", desc := "(J)I" } : MethodName) ({ cls := "BlindMint$Proposal", name := "openedCheats", desc := "(J)I" } : MethodName)) ∈ bm_big := bm_inT (bm_t2 (List.mem_of_getElem? (i := 111) rfl)) rfl
theorem bw_352 : (Cond.code ({ cls := "BlindMint$Proposal", name := "openedCheats", desc := "(J)I" } : MethodName) prog_10_method_3_code 3 (Option.some FieldType.int)) ∈ bm_big := bm_inT (bm_t2 (List.mem_of_getElem? (i := 112) rfl)) rfl
theorem bw_353 : (Cond.methodLink "BlindMint$Proposal" 38 ({ cls := "BlindMint$Candidate", name := "hides", desc := "(J)Z" } : MethodName)) ∈ bm_big := bm_inT (bm_t2 (List.mem_of_getElem? (i := 113) rfl)) rfl
theorem bw_354 : (Cond.instanceMethod ({ cls := "BlindMint$Candidate", name := "hides", desc := "(J)Z" } : MethodName)) ∈ bm_big := bm_inT (bm_t2 (List.mem_of_getElem? (i := 114) rfl)) rfl
theorem bw_355 : (Cond.selects "BlindMint$Candidate" ({ cls := "BlindMint$Candidate", name := "hides", desc := "(J)Z" } : MethodName) ({ cls := "BlindMint$Candidate", name := "hides", desc := "(J)Z" } : MethodName)) ∈ bm_big := bm_inT (bm_t2 (List.mem_of_getElem? (i := 115) rfl)) rfl
theorem bw_356 : (Cond.code ({ cls := "BlindMint$Candidate", name := "hides", desc := "(J)Z" } : MethodName) prog_3_method_3_code 3 (Option.some FieldType.boolean)) ∈ bm_big := bm_inT (bm_t2 (List.mem_of_getElem? (i := 116) rfl)) rfl
theorem bw_357 : (Cond.methodLink "BlindMint" 100 ({ cls := "BlindMint", name := "makeCoin", desc := "(IJ)LBlindMint$Coin;" } : MethodName)) ∈ bm_big := bm_inT (bm_t2 (List.mem_of_getElem? (i := 117) rfl)) rfl
theorem bw_359 : (Cond.instanceMethod ({ cls := "BlindMint", name := "makeCoin", desc := "(IJ)LBlindMint$Coin;" } : MethodName)) ∈ bm_big := bm_inT (bm_t2 (List.mem_of_getElem? (i := 119) rfl)) rfl
theorem bw_360 : (Cond.code ({ cls := "BlindMint", name := "makeCoin", desc := "(IJ)LBlindMint$Coin;" } : MethodName) prog_1_method_22_code 11 (Option.some (FieldType.object "BlindMint$Coin"))) ∈ bm_big := bm_inT (bm_t2 (List.mem_of_getElem? (i := 120) rfl)) rfl
theorem bw_361 : (Cond.methodLink "BlindMint" 184 ({ cls := "BlindMint$Proposal", name := "readPairHashes", desc := "([J)V" } : MethodName)) ∈ bm_big := bm_inT (bm_t2 (List.mem_of_getElem? (i := 121) rfl)) rfl
theorem bw_362 : (Cond.instanceMethod ({ cls := "BlindMint$Proposal", name := "readPairHashes", desc := "([J)V" } : MethodName)) ∈ bm_big := bm_inT (bm_t2 (List.mem_of_getElem? (i := 122) rfl)) rfl
theorem bw_363 : (Cond.selects "BlindMint$Proposal" ({ cls := "BlindMint$Proposal", name := "readPairHashes", desc := "([J)V" } : MethodName) ({ cls := "BlindMint$Proposal", name := "readPairHashes", desc := "([J)V" } : MethodName)) ∈ bm_big := bm_inT (bm_t2 (List.mem_of_getElem? (i := 123) rfl)) rfl
theorem bw_364 : (Cond.code ({ cls := "BlindMint$Proposal", name := "readPairHashes", desc := "([J)V" } : MethodName) prog_10_method_4_code 3 (Option.none : Option Jvm.ClassFile.FieldType)) ∈ bm_big := bm_inT (bm_t2 (List.mem_of_getElem? (i := 124) rfl)) rfl
theorem bw_365 : (Cond.constantLong "BlindMint" 194 (100)) ∈ bm_big := bm_inT (bm_t2 (List.mem_of_getElem? (i := 125) rfl)) rfl
theorem bw_366 : (Cond.methodLink "BlindMint" 196 ({ cls := "BlindMint$Hash", name := "of", desc := "(JJ)J" } : MethodName)) ∈ bm_big := bm_inT (bm_t2 (List.mem_of_getElem? (i := 126) rfl)) rfl
theorem bw_367 : (Cond.methodLink "BlindMint" 200 ({ cls := "BlindMint$Denomination", name := "blindingFactor", desc := "(J)J" } : MethodName)) ∈ bm_big := bm_inT (bm_t2 (List.mem_of_getElem? (i := 127) rfl)) rfl
theorem bw_368 : (Cond.instanceMethod ({ cls := "BlindMint$Denomination", name := "blindingFactor", desc := "(J)J" } : MethodName)) ∈ bm_big := bm_inT (bm_t2 (List.mem_of_getElem? (i := 128) rfl)) rfl
theorem bw_369 : (Cond.selects "BlindMint$Denomination" ({ cls := "BlindMint$Denomination", name := "blindingFactor", desc := "(J)J" } : MethodName) ({ cls := "BlindMint$Denomination", name := "blindingFactor", desc := "(J)J" } : MethodName)) ∈ bm_big := bm_inT (bm_t2 (List.mem_of_getElem? (i := 129) rfl)) rfl
theorem bw_370 : (Cond.code ({ cls := "BlindMint$Denomination", name := "blindingFactor", desc := "(J)J" } : MethodName) prog_6_method_4_code 6 (Option.some FieldType.long)) ∈ bm_big := bm_inT (bm_t2 (List.mem_of_getElem? (i := 130) rfl)) rfl
theorem bw_371 : (Cond.methodLink "BlindMint" 204 ({ cls := "BlindMint$Denomination", name := "blind", desc := "(JJ)J" } : MethodName)) ∈ bm_big := bm_inT (bm_t2 (List.mem_of_getElem? (i := 131) rfl)) rfl
theorem bw_372 : (Cond.instanceMethod ({ cls := "BlindMint$Denomination", name := "blind", desc := "(JJ)J" } : MethodName)) ∈ bm_big := bm_inT (bm_t2 (List.mem_of_getElem? (i := 132) rfl)) rfl
theorem bw_373 : (Cond.selects "BlindMint$Denomination" ({ cls := "BlindMint$Denomination", name := "blind", desc := "(JJ)J" } : MethodName) ({ cls := "BlindMint$Denomination", name := "blind", desc := "(JJ)J" } : MethodName)) ∈ bm_big := bm_inT (bm_t2 (List.mem_of_getElem? (i := 133) rfl)) rfl
theorem bw_374 : (Cond.code ({ cls := "BlindMint$Denomination", name := "blind", desc := "(JJ)J" } : MethodName) prog_6_method_5_code 5 (Option.some FieldType.long)) ∈ bm_big := bm_inT (bm_t2 (List.mem_of_getElem? (i := 134) rfl)) rfl
theorem bw_375 : (Cond.methodLink "BlindMint$Denomination" 51 ({ cls := "BlindMint$Field", name := "multiply", desc := "(JJJ)J" } : MethodName)) ∈ bm_big := bm_inT (bm_t2 (List.mem_of_getElem? (i := 135) rfl)) rfl
theorem bw_376 : (Cond.static ({ cls := "BlindMint$Field", name := "multiply", desc := "(JJJ)J" } : MethodName)) ∈ bm_big := bm_inT (bm_t2 (List.mem_of_getElem? (i := 136) rfl)) rfl
theorem bw_377 : (Cond.code ({ cls := "BlindMint$Field", name := "multiply", desc := "(JJJ)J" } : MethodName) prog_7_method_2_code 6 (Option.some FieldType.long)) ∈ bm_big := bm_inT (bm_t2 (List.mem_of_getElem? (i := 137) rfl)) rfl
theorem bw_378 : (Cond.methodLink "BlindMint$Denomination" 54 ({ cls := "BlindMint$Denomination", name := "join", desc := "(JJ)J" } : MethodName)) ∈ bm_big := bm_inT (bm_t2 (List.mem_of_getElem? (i := 138) rfl)) rfl
theorem bw_380 : (Cond.instanceMethod ({ cls := "BlindMint$Denomination", name := "join", desc := "(JJ)J" } : MethodName)) ∈ bm_big := bm_inT (bm_t2 (List.mem_of_getElem? (i := 140) rfl)) rfl
theorem bw_381 : (Cond.instantiable "BlindMint$Denomination" 6) ∈ bm_big := bm_inT (bm_t2 (List.mem_of_getElem? (i := 141) rfl)) rfl
theorem bw_382 : (Cond.code ({ cls := "BlindMint$Denomination", name := "join", desc := "(JJ)J" } : MethodName) prog_6_method_9_code 7 (Option.some FieldType.long)) ∈ bm_big := bm_inT (bm_t2 (List.mem_of_getElem? (i := 142) rfl)) rfl
theorem bw_383 : (Cond.methodLink "BlindMint$Denomination" 64 ({ cls := "java/lang/Math", name := "floorMod", desc := "(JJ)J" } : MethodName)) ∈ bm_big := bm_inT (bm_t2 (List.mem_of_getElem? (i := 143) rfl)) rfl
theorem bw_384 : (Cond.static ({ cls := "java/lang/Math", name := "floorMod", desc := "(JJ)J" } : MethodName)) ∈ bm_big := bm_inT (bm_t2 (List.mem_of_getElem? (i := 144) rfl)) rfl
theorem bw_385 : (Cond.code ({ cls := "java/lang/Math", name := "floorMod", desc := "(JJ)J" } : MethodName) prog_18_method_52_code 6 (Option.some FieldType.long)) ∈ bm_big := bm_inT (bm_t2 (List.mem_of_getElem? (i := 145) rfl)) rfl
theorem bw_386 : (Cond.methodLink "BlindMint$Denomination" 61 ({ cls := "BlindMint$Field", name := "divide", desc := "(JJJ)J" } : MethodName)) ∈ bm_big := bm_inT (bm_t2 (List.mem_of_getElem? (i := 146) rfl)) rfl
theorem bw_387 : (Cond.static ({ cls := "BlindMint$Field", name := "divide", desc := "(JJJ)J" } : MethodName)) ∈ bm_big := bm_inT (bm_t2 (List.mem_of_getElem? (i := 147) rfl)) rfl
theorem bw_388 : (Cond.code ({ cls := "BlindMint$Field", name := "divide", desc := "(JJJ)J" } : MethodName) prog_7_method_4_code 6 (Option.some FieldType.long)) ∈ bm_big := bm_inT (bm_t2 (List.mem_of_getElem? (i := 148) rfl)) rfl
theorem bw_389 : (Cond.constantLong "BlindMint$Field" 15 (2)) ∈ bm_big := bm_inT (bm_t2 (List.mem_of_getElem? (i := 149) rfl)) rfl
theorem bw_390 : (Cond.methodLink "BlindMint$Field" 17 ({ cls := "BlindMint$Field", name := "power", desc := "(JJJ)J" } : MethodName)) ∈ bm_big := bm_inT (bm_t2 (List.mem_of_getElem? (i := 150) rfl)) rfl
theorem bw_391 : (Cond.methodLink "BlindMint$Field" 21 ({ cls := "BlindMint$Field", name := "multiply", desc := "(JJJ)J" } : MethodName)) ∈ bm_big := bm_inT (bm_t2 (List.mem_of_getElem? (i := 151) rfl)) rfl
theorem bw_392 : (Cond.methodLink "BlindMint" 207 ({ cls := "BlindMint$Denomination", name := "sign", desc := "(J)J" } : MethodName)) ∈ bm_big := bm_inT (bm_t2 (List.mem_of_getElem? (i := 152) rfl)) rfl
theorem bw_393 : (Cond.instanceMethod ({ cls := "BlindMint$Denomination", name := "sign", desc := "(J)J" } : MethodName)) ∈ bm_big := bm_inT (bm_t2 (List.mem_of_getElem? (i := 153) rfl)) rfl
theorem bw_394 : (Cond.selects "BlindMint$Denomination" ({ cls := "BlindMint$Denomination", name := "sign", desc := "(J)J" } : MethodName) ({ cls := "BlindMint$Denomination", name := "sign", desc := "(J)J" } : MethodName)) ∈ bm_big := bm_inT (bm_t2 (List.mem_of_getElem? (i := 154) rfl)) rfl
theorem bw_395 : (Cond.code ({ cls := "BlindMint$Denomination", name := "sign", desc := "(J)J" } : MethodName) prog_6_method_6_code 3 (Option.some FieldType.long)) ∈ bm_big := bm_inT (bm_t2 (List.mem_of_getElem? (i := 155) rfl)) rfl
theorem bw_396 : (Cond.methodLink "BlindMint$Denomination" 58 ({ cls := "BlindMint$Field", name := "root", desc := "(JJJ)J" } : MethodName)) ∈ bm_big := bm_inT (bm_t2 (List.mem_of_getElem? (i := 156) rfl)) rfl
theorem bw_397 : (Cond.static ({ cls := "BlindMint$Field", name := "root", desc := "(JJJ)J" } : MethodName)) ∈ bm_big := bm_inT (bm_t2 (List.mem_of_getElem? (i := 157) rfl)) rfl
theorem bw_398 : (Cond.code ({ cls := "BlindMint$Field", name := "root", desc := "(JJJ)J" } : MethodName) prog_7_method_5_code 6 (Option.some FieldType.long)) ∈ bm_big := bm_inT (bm_t2 (List.mem_of_getElem? (i := 158) rfl)) rfl
theorem bw_399 : (Cond.methodLink "BlindMint$Field" 24 ({ cls := "BlindMint$Field", name := "rootExponent", desc := "(JJ)J" } : MethodName)) ∈ bm_big := bm_inT (bm_t2 (List.mem_of_getElem? (i := 159) rfl)) rfl
theorem bw_400 : (Cond.static ({ cls := "BlindMint$Field", name := "rootExponent", desc := "(JJ)J" } : MethodName)) ∈ bm_big := bm_inT (bm_t2 (List.mem_of_getElem? (i := 160) rfl)) rfl
theorem bw_401 : (Cond.code ({ cls := "BlindMint$Field", name := "rootExponent", desc := "(JJ)J" } : MethodName) prog_7_method_6_code 8 (Option.some FieldType.long)) ∈ bm_big := bm_inT (bm_t2 (List.mem_of_getElem? (i := 161) rfl)) rfl
theorem bw_402 : (Cond.classLink "BlindMint" 123 "BlindMint$Coin") ∈ bm_big := bm_inT (bm_t2 (List.mem_of_getElem? (i := 162) rfl)) rfl
theorem bw_403 : (Cond.instantiable "BlindMint$Coin" 6) ∈ bm_big := bm_inT (bm_t2 (List.mem_of_getElem? (i := 163) rfl)) rfl
theorem bw_404 : (Cond.methodLink "BlindMint" 210 ({ cls := "BlindMint$Denomination", name := "unblind", desc := "(JJ)J" } : MethodName)) ∈ bm_big := bm_inT (bm_t2 (List.mem_of_getElem? (i := 164) rfl)) rfl
theorem bw_405 : (Cond.instanceMethod ({ cls := "BlindMint$Denomination", name := "unblind", desc := "(JJ)J" } : MethodName)) ∈ bm_big := bm_inT (bm_t2 (List.mem_of_getElem? (i := 165) rfl)) rfl
theorem bw_406 : (Cond.selects "BlindMint$Denomination" ({ cls := "BlindMint$Denomination", name := "unblind", desc := "(JJ)J" } : MethodName) ({ cls := "BlindMint$Denomination", name := "unblind", desc := "(JJ)J" } : MethodName)) ∈ bm_big := bm_inT (bm_t2 (List.mem_of_getElem? (i := 166) rfl)) rfl
theorem bw_407 : (Cond.code ({ cls := "BlindMint$Denomination", name := "unblind", desc := "(JJ)J" } : MethodName) prog_6_method_7_code 5 (Option.some FieldType.long)) ∈ bm_big := bm_inT (bm_t2 (List.mem_of_getElem? (i := 167) rfl)) rfl
theorem bw_408 : (Cond.methodLink "BlindMint" 217 ({ cls := "BlindMint$Coin", name := "<init>", desc := "(IJJ[LBlindMint$Candidate;)V" } : MethodName)) ∈ bm_big := bm_inT (bm_t2 (List.mem_of_getElem? (i := 168) rfl)) rfl
theorem bw_409 : (Cond.instanceMethod ({ cls := "BlindMint$Coin", name := "<init>", desc := "(IJJ[LBlindMint$Candidate;)V" } : MethodName)) ∈ bm_big := bm_inT (bm_t2 (List.mem_of_getElem? (i := 169) rfl)) rfl
theorem bw_410 : (Cond.code ({ cls := "BlindMint$Coin", name := "<init>", desc := "(IJJ[LBlindMint$Candidate;)V" } : MethodName) prog_4_method_1_code 10 (Option.none : Option Jvm.ClassFile.FieldType)) ∈ bm_big := bm_inT (bm_t2 (List.mem_of_getElem? (i := 170) rfl)) rfl
theorem bw_411 : (Cond.methodLink "BlindMint$Coin" 3 ({ cls := "java/lang/Object", name := "<init>", desc := "()V" } : MethodName)) ∈ bm_big := bm_inT (bm_t2 (List.mem_of_getElem? (i := 171) rfl)) rfl
theorem bw_412 : (Cond.fieldLink "BlindMint$Payment" 15 "BlindMint$Coin" "denomination" "I") ∈ bm_big := bm_inT (bm_t2 (List.mem_of_getElem? (i := 172) rfl)) rfl
theorem bw_413 : (Cond.fieldLink "BlindMint$Coin" 24 "BlindMint$Coin" "denomination" "I") ∈ bm_big := bm_inT (bm_t2 (List.mem_of_getElem? (i := 173) rfl)) rfl
theorem bw_414 : (Cond.fieldLink "BlindMint$Account" 24 "BlindMint$Coin" "denomination" "I") ∈ bm_big := bm_inT (bm_t2 (List.mem_of_getElem? (i := 174) rfl)) rfl
theorem bw_415 : (Cond.fieldLink "BlindMint$Coin" 28 "BlindMint$Coin" "number" "J") ∈ bm_big := bm_inT (bm_t2 (List.mem_of_getElem? (i := 175) rfl)) rfl
theorem bw_416 : (Cond.fieldLink "BlindMint" 170 "BlindMint$Coin" "number" "J") ∈ bm_big := bm_inT (bm_t2 (List.mem_of_getElem? (i := 176) rfl)) rfl
theorem bw_417 : (Cond.fieldLink "BlindMint$Payment" 21 "BlindMint$Coin" "signature" "J") ∈ bm_big := bm_inT (bm_t2 (List.mem_of_getElem? (i := 177) rfl)) rfl
theorem bw_418 : (Cond.fieldLink "BlindMint$Coin" 32 "BlindMint$Coin" "signature" "J") ∈ bm_big := bm_inT (bm_t2 (List.mem_of_getElem? (i := 178) rfl)) rfl
theorem bw_419 : (Cond.fieldLink "BlindMint" 173 "BlindMint$Coin" "signature" "J") ∈ bm_big := bm_inT (bm_t2 (List.mem_of_getElem? (i := 179) rfl)) rfl
theorem bw_420 : (Cond.fieldLink "BlindMint$Coin" 9 "BlindMint$Coin" "spent" "Z") ∈ bm_big := bm_inT (bm_t2 (List.mem_of_getElem? (i := 180) rfl)) rfl
theorem bw_421 : (Cond.fieldLink "BlindMint$Account" 27 "BlindMint$Coin" "spent" "Z") ∈ bm_big := bm_inT (bm_t2 (List.mem_of_getElem? (i := 181) rfl)) rfl
theorem bw_422 : (Cond.fieldLink "BlindMint" 122 "BlindMint$Coin" "spent" "Z") ∈ bm_big := bm_inT (bm_t2 (List.mem_of_getElem? (i := 182) rfl)) rfl
theorem bw_423 : (Cond.fieldLink "BlindMint$Coin" 17 "BlindMint$Coin" "toldForOne" "[J") ∈ bm_big := bm_inT (bm_t2 (List.mem_of_getElem? (i := 183) rfl)) rfl
theorem bw_424 : (Cond.fieldLink "BlindMint$Payment" 33 "BlindMint$Coin" "toldForOne" "[J") ∈ bm_big := bm_inT (bm_t2 (List.mem_of_getElem? (i := 184) rfl)) rfl
theorem bw_425 : (Cond.fieldLink "BlindMint$Coin" 21 "BlindMint$Coin" "toldForZero" "[J") ∈ bm_big := bm_inT (bm_t2 (List.mem_of_getElem? (i := 185) rfl)) rfl
theorem bw_426 : (Cond.fieldLink "BlindMint$Payment" 36 "BlindMint$Coin" "toldForZero" "[J") ∈ bm_big := bm_inT (bm_t2 (List.mem_of_getElem? (i := 186) rfl)) rfl
theorem bw_427 : (Cond.laysFinal "BlindMint$Coin" "BlindMint$Coin" "denomination" "I") ∈ bm_big := bm_inT (bm_t2 (List.mem_of_getElem? (i := 187) rfl)) rfl
theorem bw_429 : (Cond.laysFinal "BlindMint$Coin" "BlindMint$Coin" "number" "J") ∈ bm_big := bm_inT (bm_t2 (List.mem_of_getElem? (i := 189) rfl)) rfl
theorem bw_431 : (Cond.laysFinal "BlindMint$Coin" "BlindMint$Coin" "signature" "J") ∈ bm_big := bm_inT (bm_t2 (List.mem_of_getElem? (i := 191) rfl)) rfl
theorem bw_433 : (Cond.lays "BlindMint$Coin" "BlindMint$Coin" "spent" "Z") ∈ bm_big := bm_inT (bm_t2 (List.mem_of_getElem? (i := 193) rfl)) rfl
theorem bw_435 : (Cond.laysFinal "BlindMint$Coin" "BlindMint$Coin" "toldForOne" "[J") ∈ bm_big := bm_inT (bm_t2 (List.mem_of_getElem? (i := 195) rfl)) rfl
theorem bw_437 : (Cond.laysFinal "BlindMint$Coin" "BlindMint$Coin" "toldForZero" "[J") ∈ bm_big := bm_inT (bm_t2 (List.mem_of_getElem? (i := 197) rfl)) rfl
theorem bw_439 : (Cond.superclass "BlindMint$Coin" "java/lang/Object") ∈ bm_big := bm_inT (bm_t2 (List.mem_of_getElem? (i := 199) rfl)) rfl
theorem bw_440 : (Cond.methodLink "BlindMint" 104 ({ cls := "BlindMint$Account", name := "keep", desc := "(LBlindMint$Coin;)I" } : MethodName)) ∈ bm_big := bm_inT (bm_t2 (List.mem_of_getElem? (i := 200) rfl)) rfl
theorem bw_441 : (Cond.instanceMethod ({ cls := "BlindMint$Account", name := "keep", desc := "(LBlindMint$Coin;)I" } : MethodName)) ∈ bm_big := bm_inT (bm_t2 (List.mem_of_getElem? (i := 201) rfl)) rfl
theorem bw_442 : (Cond.selects "BlindMint$Account" ({ cls := "BlindMint$Account", name := "keep", desc := "(LBlindMint$Coin;)I" } : MethodName) ({ cls := "BlindMint$Account", name := "keep", desc := "(LBlindMint$Coin;)I" } : MethodName)) ∈ bm_big := bm_inT (bm_t2 (List.mem_of_getElem? (i := 202) rfl)) rfl
theorem bw_443 : (Cond.code ({ cls := "BlindMint$Account", name := "keep", desc := "(LBlindMint$Coin;)I" } : MethodName) prog_2_method_3_code 2 (Option.some FieldType.int)) ∈ bm_big := bm_inT (bm_t2 (List.mem_of_getElem? (i := 203) rfl)) rfl
theorem bw_444 : (Cond.methodLink "BlindMintLaw" 64 ({ cls := "BlindMintLaw", name := "choose", desc := "(LBlindMint;II[J)I" } : MethodName)) ∈ bm_big := bm_inT (bm_t2 (List.mem_of_getElem? (i := 204) rfl)) rfl
theorem bw_445 : (Cond.static ({ cls := "BlindMintLaw", name := "choose", desc := "(LBlindMint;II[J)I" } : MethodName)) ∈ bm_big := bm_inT (bm_t2 (List.mem_of_getElem? (i := 205) rfl)) rfl
theorem bw_446 : (Cond.codeWith ({ cls := "BlindMintLaw", name := "choose", desc := "(LBlindMint;II[J)I" } : MethodName) method_4_code 5 (Option.some FieldType.int) [(0, 10, 13, 13), (0, 10, 17, 21)]) ∈ bm_big := bm_inT (bm_t2 (List.mem_of_getElem? (i := 206) rfl)) rfl
theorem bw_447 : (Cond.classLink "BlindMintLaw" 21 "java/util/NoSuchElementException") ∈ bm_big := bm_inT (bm_t2 (List.mem_of_getElem? (i := 207) rfl)) rfl
theorem bw_448 : (Cond.methodLink "BlindMintLaw" 17 ({ cls := "BlindMint", name := "choose", desc := "(II)I" } : MethodName)) ∈ bm_big := bm_inT (bm_t2 (List.mem_of_getElem? (i := 208) rfl)) rfl
theorem bw_449 : (Cond.instanceMethod ({ cls := "BlindMint", name := "choose", desc := "(II)I" } : MethodName)) ∈ bm_big := bm_inT (bm_t2 (List.mem_of_getElem? (i := 209) rfl)) rfl
theorem bw_450 : (Cond.selects "BlindMint" ({ cls := "BlindMint", name := "choose", desc := "(II)I" } : MethodName) ({ cls := "BlindMint", name := "choose", desc := "(II)I" } : MethodName)) ∈ bm_big := bm_inT (bm_t2 (List.mem_of_getElem? (i := 210) rfl)) rfl
theorem bw_451 : (Cond.code ({ cls := "BlindMint", name := "choose", desc := "(II)I" } : MethodName) prog_1_method_3_code 9 (Option.some FieldType.int)) ∈ bm_big := bm_inT (bm_t2 (List.mem_of_getElem? (i := 211) rfl)) rfl
theorem bw_452 : (Cond.methodLink "BlindMint" 111 ({ cls := "BlindMint$Account", name := "hasUnspent", desc := "(II)Z" } : MethodName)) ∈ bm_big := bm_inT (bm_t2 (List.mem_of_getElem? (i := 212) rfl)) rfl
theorem bw_453 : (Cond.instanceMethod ({ cls := "BlindMint$Account", name := "hasUnspent", desc := "(II)Z" } : MethodName)) ∈ bm_big := bm_inT (bm_t2 (List.mem_of_getElem? (i := 213) rfl)) rfl
theorem bw_454 : (Cond.selects "BlindMint$Account" ({ cls := "BlindMint$Account", name := "hasUnspent", desc := "(II)Z" } : MethodName) ({ cls := "BlindMint$Account", name := "hasUnspent", desc := "(II)Z" } : MethodName)) ∈ bm_big := bm_inT (bm_t2 (List.mem_of_getElem? (i := 214) rfl)) rfl
theorem bw_455 : (Cond.code ({ cls := "BlindMint$Account", name := "hasUnspent", desc := "(II)Z" } : MethodName) prog_2_method_4_code 3 (Option.some FieldType.boolean)) ∈ bm_big := bm_inT (bm_t2 (List.mem_of_getElem? (i := 215) rfl)) rfl
theorem bw_456 : (Cond.classLink "BlindMint" 115 "java/util/NoSuchElementException") ∈ bm_big := bm_inT (bm_t2 (List.mem_of_getElem? (i := 216) rfl)) rfl
theorem bw_457 : (Cond.instantiable "java/util/NoSuchElementException" 6) ∈ bm_big := bm_inT (bm_t2 (List.mem_of_getElem? (i := 217) rfl)) rfl
theorem bw_459 : (Cond.selects "java/util/NoSuchElementException" ({ cls := "java/lang/Throwable", name := "fillInStackTrace", desc := "(I)Ljava/lang/Throwable;" } : MethodName) ({ cls := "java/lang/Throwable", name := "fillInStackTrace", desc := "(I)Ljava/lang/Throwable;" } : MethodName)) ∈ bm_big := bm_inT (bm_t2 (List.mem_of_getElem? (i := 219) rfl)) rfl
theorem bw_460 : (Cond.lays "java/util/NoSuchElementException" "java/lang/Throwable" "cause" "Ljava/lang/Throwable;") ∈ bm_big := bm_inT (bm_t2 (List.mem_of_getElem? (i := 220) rfl)) rfl
theorem bw_461 : (Cond.lays "java/util/NoSuchElementException" "java/lang/Throwable" "stackTrace" "[Ljava/lang/StackTraceElement;") ∈ bm_big := bm_inT (bm_t2 (List.mem_of_getElem? (i := 221) rfl)) rfl
theorem bw_462 : (Cond.lays "java/util/NoSuchElementException" "java/lang/Throwable" "suppressedExceptions" "Ljava/util/List;") ∈ bm_big := bm_inT (bm_t2 (List.mem_of_getElem? (i := 222) rfl)) rfl
theorem bw_463 : (Cond.lays "java/util/NoSuchElementException" "java/lang/Throwable" "detailMessage" "Ljava/lang/String;") ∈ bm_big := bm_inT (bm_t2 (List.mem_of_getElem? (i := 223) rfl)) rfl
theorem bw_464 : (Cond.lays "java/util/NoSuchElementException" "java/lang/Throwable" "backtrace" "Ljava/lang/Object;") ∈ bm_big := bm_inT (bm_t2 (List.mem_of_getElem? (i := 224) rfl)) rfl
theorem bw_465 : (Cond.methodLink "BlindMint" 117 ({ cls := "java/util/NoSuchElementException", name := "<init>", desc := "()V" } : MethodName)) ∈ bm_big := bm_inT (bm_t2 (List.mem_of_getElem? (i := 225) rfl)) rfl
theorem bw_466 : (Cond.instanceMethod ({ cls := "java/util/NoSuchElementException", name := "<init>", desc := "()V" } : MethodName)) ∈ bm_big := bm_inT (bm_t2 (List.mem_of_getElem? (i := 226) rfl)) rfl
theorem bw_467 : (Cond.code ({ cls := "java/util/NoSuchElementException", name := "<init>", desc := "()V" } : MethodName) prog_22_method_1_code 1 (Option.none : Option Jvm.ClassFile.FieldType)) ∈ bm_big := bm_inT (bm_t2 (List.mem_of_getElem? (i := 227) rfl)) rfl
theorem bw_468 : (Cond.methodLink "java/util/NoSuchElementException" 1 ({ cls := "java/lang/RuntimeException", name := "<init>", desc := "()V" } : MethodName)) ∈ bm_big := bm_inT (bm_t2 (List.mem_of_getElem? (i := 228) rfl)) rfl
theorem bw_469 : (Cond.lays "java/util/NoSuchElementException" "java/lang/Throwable" "depth" "I") ∈ bm_big := bm_inT (bm_t2 (List.mem_of_getElem? (i := 229) rfl)) rfl
theorem bw_470 : (Cond.superclass "java/util/NoSuchElementException" "java/lang/RuntimeException") ∈ bm_big := bm_inT (bm_t2 (List.mem_of_getElem? (i := 230) rfl)) rfl
theorem bw_471 : (Cond.methodLink "BlindMintLaw" 68 ({ cls := "BlindMintLaw", name := "spend", desc := "(LBlindMint;IIII[J)I" } : MethodName)) ∈ bm_big := bm_inT (bm_t2 (List.mem_of_getElem? (i := 231) rfl)) rfl
theorem bw_472 : (Cond.static ({ cls := "BlindMintLaw", name := "spend", desc := "(LBlindMint;IIII[J)I" } : MethodName)) ∈ bm_big := bm_inT (bm_t2 (List.mem_of_getElem? (i := 232) rfl)) rfl
theorem bw_473 : (Cond.codeWith ({ cls := "BlindMintLaw", name := "spend", desc := "(LBlindMint;IIII[J)I" } : MethodName) method_5_code 7 (Option.some FieldType.int) [(0, 14, 17, 13), (0, 14, 21, 15)]) ∈ bm_big := bm_inT (bm_t2 (List.mem_of_getElem? (i := 233) rfl)) rfl
theorem bw_474 : (Cond.methodLink "BlindMintLaw" 23 ({ cls := "BlindMint", name := "spend", desc := "(IIII)I" } : MethodName)) ∈ bm_big := bm_inT (bm_t2 (List.mem_of_getElem? (i := 234) rfl)) rfl
theorem bw_475 : (Cond.instanceMethod ({ cls := "BlindMint", name := "spend", desc := "(IIII)I" } : MethodName)) ∈ bm_big := bm_inT (bm_t2 (List.mem_of_getElem? (i := 235) rfl)) rfl
theorem bw_476 : (Cond.selects "BlindMint" ({ cls := "BlindMint", name := "spend", desc := "(IIII)I" } : MethodName) ({ cls := "BlindMint", name := "spend", desc := "(IIII)I" } : MethodName)) ∈ bm_big := bm_inT (bm_t2 (List.mem_of_getElem? (i := 236) rfl)) rfl
theorem bw_477 : (Cond.code ({ cls := "BlindMint", name := "spend", desc := "(IIII)I" } : MethodName) prog_1_method_4_code 6 (Option.some FieldType.int)) ∈ bm_big := bm_inT (bm_t2 (List.mem_of_getElem? (i := 237) rfl)) rfl
theorem bw_478 : (Cond.methodLink "BlindMint" 118 ({ cls := "BlindMint", name := "findCoin", desc := "(II)LBlindMint$Coin;" } : MethodName)) ∈ bm_big := bm_inT (bm_t2 (List.mem_of_getElem? (i := 238) rfl)) rfl
theorem bw_480 : (Cond.instanceMethod ({ cls := "BlindMint", name := "findCoin", desc := "(II)LBlindMint$Coin;" } : MethodName)) ∈ bm_big := bm_inT (bm_t3 (List.mem_of_getElem? (i := 0) rfl)) rfl
theorem bw_481 : (Cond.code ({ cls := "BlindMint", name := "findCoin", desc := "(II)LBlindMint$Coin;" } : MethodName) prog_1_method_20_code 3 (Option.some (FieldType.object "BlindMint$Coin"))) ∈ bm_big := bm_inT (bm_t3 (List.mem_of_getElem? (i := 1) rfl)) rfl
theorem bw_482 : (Cond.instantiable "BlindMint$Payment" 1) ∈ bm_big := bm_inT (bm_t3 (List.mem_of_getElem? (i := 2) rfl)) rfl
theorem bw_483 : (Cond.methodLink "BlindMint" 128 ({ cls := "BlindMint$Payment", name := "<init>", desc := "(LBlindMint$Coin;II)V" } : MethodName)) ∈ bm_big := bm_inT (bm_t3 (List.mem_of_getElem? (i := 3) rfl)) rfl
theorem bw_484 : (Cond.instanceMethod ({ cls := "BlindMint$Payment", name := "<init>", desc := "(LBlindMint$Coin;II)V" } : MethodName)) ∈ bm_big := bm_inT (bm_t3 (List.mem_of_getElem? (i := 4) rfl)) rfl
theorem bw_485 : (Cond.code ({ cls := "BlindMint$Payment", name := "<init>", desc := "(LBlindMint$Coin;II)V" } : MethodName) prog_9_method_1_code 8 (Option.none : Option Jvm.ClassFile.FieldType)) ∈ bm_big := bm_inT (bm_t3 (List.mem_of_getElem? (i := 5) rfl)) rfl
theorem bw_486 : (Cond.methodLink "BlindMint$Payment" 5 ({ cls := "java/lang/Object", name := "<init>", desc := "()V" } : MethodName)) ∈ bm_big := bm_inT (bm_t3 (List.mem_of_getElem? (i := 6) rfl)) rfl
theorem bw_487 : (Cond.methodLink "BlindMint$Payment" 43 ({ cls := "java/lang/System", name := "arraycopy", desc := "(Ljava/lang/Object;ILjava/lang/Object;II)V" } : MethodName)) ∈ bm_big := bm_inT (bm_t3 (List.mem_of_getElem? (i := 7) rfl)) rfl
theorem bw_488 : (Cond.static ({ cls := "java/lang/System", name := "arraycopy", desc := "(Ljava/lang/Object;ILjava/lang/Object;II)V" } : MethodName)) ∈ bm_big := bm_inT (bm_t3 (List.mem_of_getElem? (i := 8) rfl)) rfl
theorem bw_489 : (Cond.native ({ cls := "java/lang/System", name := "arraycopy", desc := "(Ljava/lang/Object;ILjava/lang/Object;II)V" } : MethodName)) ∈ bm_big := bm_inT (bm_t3 (List.mem_of_getElem? (i := 9) rfl)) rfl
theorem bw_490 : (Cond.fieldLink "BlindMint$Payment" 11 "BlindMint$Payment" "numbers" "[J") ∈ bm_big := bm_inT (bm_t3 (List.mem_of_getElem? (i := 10) rfl)) rfl
theorem bw_491 : (Cond.fieldLink "BlindMint" 138 "BlindMint$Payment" "numbers" "[J") ∈ bm_big := bm_inT (bm_t3 (List.mem_of_getElem? (i := 11) rfl)) rfl
theorem bw_492 : (Cond.laysFinal "BlindMint$Payment" "BlindMint$Payment" "numbers" "[J") ∈ bm_big := bm_inT (bm_t3 (List.mem_of_getElem? (i := 12) rfl)) rfl
theorem bw_494 : (Cond.superclass "BlindMint$Payment" "java/lang/Object") ∈ bm_big := bm_inT (bm_t3 (List.mem_of_getElem? (i := 14) rfl)) rfl
theorem bw_495 : (Cond.methodLink "BlindMintLaw" 72 ({ cls := "BlindMintLaw", name := "tamper", desc := "(LBlindMint;IIJ[J)I" } : MethodName)) ∈ bm_big := bm_inT (bm_t3 (List.mem_of_getElem? (i := 15) rfl)) rfl
theorem bw_496 : (Cond.static ({ cls := "BlindMintLaw", name := "tamper", desc := "(LBlindMint;IIJ[J)I" } : MethodName)) ∈ bm_big := bm_inT (bm_t3 (List.mem_of_getElem? (i := 16) rfl)) rfl
theorem bw_497 : (Cond.codeWith ({ cls := "BlindMintLaw", name := "tamper", desc := "(LBlindMint;IIJ[J)I" } : MethodName) method_6_code 7 (Option.some FieldType.int) [(0, 11, 14, 13)]) ∈ bm_big := bm_inT (bm_t3 (List.mem_of_getElem? (i := 17) rfl)) rfl
theorem bw_498 : (Cond.methodLink "BlindMintLaw" 27 ({ cls := "BlindMint", name := "tamper", desc := "(IIJ)J" } : MethodName)) ∈ bm_big := bm_inT (bm_t3 (List.mem_of_getElem? (i := 18) rfl)) rfl
theorem bw_499 : (Cond.instanceMethod ({ cls := "BlindMint", name := "tamper", desc := "(IIJ)J" } : MethodName)) ∈ bm_big := bm_inT (bm_t3 (List.mem_of_getElem? (i := 19) rfl)) rfl
theorem bw_500 : (Cond.selects "BlindMint" ({ cls := "BlindMint", name := "tamper", desc := "(IIJ)J" } : MethodName) ({ cls := "BlindMint", name := "tamper", desc := "(IIJ)J" } : MethodName)) ∈ bm_big := bm_inT (bm_t3 (List.mem_of_getElem? (i := 20) rfl)) rfl
theorem bw_501 : (Cond.code ({ cls := "BlindMint", name := "tamper", desc := "(IIJ)J" } : MethodName) prog_1_method_5_code 6 (Option.some FieldType.long)) ∈ bm_big := bm_inT (bm_t3 (List.mem_of_getElem? (i := 21) rfl)) rfl
theorem bw_502 : (Cond.methodLink "BlindMint" 135 ({ cls := "BlindMint$Payment", name := "hasNumber", desc := "(I)Z" } : MethodName)) ∈ bm_big := bm_inT (bm_t3 (List.mem_of_getElem? (i := 22) rfl)) rfl
theorem bw_503 : (Cond.static ({ cls := "BlindMint$Payment", name := "hasNumber", desc := "(I)Z" } : MethodName)) ∈ bm_big := bm_inT (bm_t3 (List.mem_of_getElem? (i := 23) rfl)) rfl
theorem bw_504 : (Cond.code ({ cls := "BlindMint$Payment", name := "hasNumber", desc := "(I)Z" } : MethodName) prog_9_method_2_code 1 (Option.some FieldType.boolean)) ∈ bm_big := bm_inT (bm_t3 (List.mem_of_getElem? (i := 24) rfl)) rfl
theorem bw_505 : (Cond.methodLink "BlindMintLaw" 76 ({ cls := "BlindMintLaw", name := "number", desc := "(LBlindMint;II[J)I" } : MethodName)) ∈ bm_big := bm_inT (bm_t3 (List.mem_of_getElem? (i := 25) rfl)) rfl
theorem bw_506 : (Cond.static ({ cls := "BlindMintLaw", name := "number", desc := "(LBlindMint;II[J)I" } : MethodName)) ∈ bm_big := bm_inT (bm_t3 (List.mem_of_getElem? (i := 26) rfl)) rfl
theorem bw_507 : (Cond.codeWith ({ cls := "BlindMintLaw", name := "number", desc := "(LBlindMint;II[J)I" } : MethodName) method_7_code 5 (Option.some FieldType.int) [(0, 9, 12, 21)]) ∈ bm_big := bm_inT (bm_t3 (List.mem_of_getElem? (i := 27) rfl)) rfl
theorem bw_508 : (Cond.methodLink "BlindMintLaw" 31 ({ cls := "BlindMint", name := "number", desc := "(II)J" } : MethodName)) ∈ bm_big := bm_inT (bm_t3 (List.mem_of_getElem? (i := 28) rfl)) rfl
theorem bw_509 : (Cond.instanceMethod ({ cls := "BlindMint", name := "number", desc := "(II)J" } : MethodName)) ∈ bm_big := bm_inT (bm_t3 (List.mem_of_getElem? (i := 29) rfl)) rfl
theorem bw_510 : (Cond.selects "BlindMint" ({ cls := "BlindMint", name := "number", desc := "(II)J" } : MethodName) ({ cls := "BlindMint", name := "number", desc := "(II)J" } : MethodName)) ∈ bm_big := bm_inT (bm_t3 (List.mem_of_getElem? (i := 30) rfl)) rfl
theorem bw_511 : (Cond.code ({ cls := "BlindMint", name := "number", desc := "(II)J" } : MethodName) prog_1_method_6_code 4 (Option.some FieldType.long)) ∈ bm_big := bm_inT (bm_t3 (List.mem_of_getElem? (i := 31) rfl)) rfl
theorem bw_512 : (Cond.methodLink "BlindMintLaw" 84 ({ cls := "BlindMintLaw", name := "deposit", desc := "(LBlindMint;II[J)I" } : MethodName)) ∈ bm_big := bm_inT (bm_t3 (List.mem_of_getElem? (i := 32) rfl)) rfl
theorem bw_513 : (Cond.static ({ cls := "BlindMintLaw", name := "deposit", desc := "(LBlindMint;II[J)I" } : MethodName)) ∈ bm_big := bm_inT (bm_t3 (List.mem_of_getElem? (i := 33) rfl)) rfl
theorem bw_514 : (Cond.codeWith ({ cls := "BlindMintLaw", name := "deposit", desc := "(LBlindMint;II[J)I" } : MethodName) method_8_code 5 (Option.some FieldType.int) [(0, 10, 13, 13), (0, 10, 17, 15)]) ∈ bm_big := bm_inT (bm_t3 (List.mem_of_getElem? (i := 34) rfl)) rfl
theorem bw_515 : (Cond.methodLink "BlindMintLaw" 35 ({ cls := "BlindMint", name := "deposit", desc := "(II)I" } : MethodName)) ∈ bm_big := bm_inT (bm_t3 (List.mem_of_getElem? (i := 35) rfl)) rfl
theorem bw_516 : (Cond.instanceMethod ({ cls := "BlindMint", name := "deposit", desc := "(II)I" } : MethodName)) ∈ bm_big := bm_inT (bm_t3 (List.mem_of_getElem? (i := 36) rfl)) rfl
theorem bw_517 : (Cond.selects "BlindMint" ({ cls := "BlindMint", name := "deposit", desc := "(II)I" } : MethodName) ({ cls := "BlindMint", name := "deposit", desc := "(II)I" } : MethodName)) ∈ bm_big := bm_inT (bm_t3 (List.mem_of_getElem? (i := 37) rfl)) rfl
theorem bw_518 : (Cond.code ({ cls := "BlindMint", name := "deposit", desc := "(II)I" } : MethodName) prog_1_method_8_code 6 (Option.some FieldType.int)) ∈ bm_big := bm_inT (bm_t3 (List.mem_of_getElem? (i := 38) rfl)) rfl
theorem bw_519 : (Cond.methodLink "BlindMint" 149 ({ cls := "BlindMint", name := "findCredit", desc := "(J)LBlindMint$Credit;" } : MethodName)) ∈ bm_big := bm_inT (bm_t3 (List.mem_of_getElem? (i := 39) rfl)) rfl
theorem bw_521 : (Cond.instanceMethod ({ cls := "BlindMint", name := "findCredit", desc := "(J)LBlindMint$Credit;" } : MethodName)) ∈ bm_big := bm_inT (bm_t3 (List.mem_of_getElem? (i := 41) rfl)) rfl
theorem bw_522 : (Cond.code ({ cls := "BlindMint", name := "findCredit", desc := "(J)LBlindMint$Credit;" } : MethodName) prog_1_method_24_code 4 (Option.some (FieldType.object "BlindMint$Credit"))) ∈ bm_big := bm_inT (bm_t3 (List.mem_of_getElem? (i := 42) rfl)) rfl
theorem bw_523 : (Cond.methodLink "BlindMint" 228 ({ cls := "BlindMint$Credit", name := "isOf", desc := "(J[J)Z" } : MethodName)) ∈ bm_big := bm_inT (bm_t3 (List.mem_of_getElem? (i := 43) rfl)) rfl
theorem bw_524 : (Cond.instanceMethod ({ cls := "BlindMint$Credit", name := "isOf", desc := "(J[J)Z" } : MethodName)) ∈ bm_big := bm_inT (bm_t3 (List.mem_of_getElem? (i := 44) rfl)) rfl
theorem bw_525 : (Cond.selects "BlindMint$Credit" ({ cls := "BlindMint$Credit", name := "isOf", desc := "(J[J)Z" } : MethodName) ({ cls := "BlindMint$Credit", name := "isOf", desc := "(J[J)Z" } : MethodName)) ∈ bm_big := bm_inT (bm_t3 (List.mem_of_getElem? (i := 45) rfl)) rfl
theorem bw_526 : (Cond.code ({ cls := "BlindMint$Credit", name := "isOf", desc := "(J[J)Z" } : MethodName) prog_5_method_2_code 6 (Option.some FieldType.boolean)) ∈ bm_big := bm_inT (bm_t3 (List.mem_of_getElem? (i := 46) rfl)) rfl
theorem bw_527 : (Cond.methodLink "BlindMint" 153 ({ cls := "BlindMint$Credit", name := "revealedIdentity", desc := "(LBlindMint$Payment;)J" } : MethodName)) ∈ bm_big := bm_inT (bm_t3 (List.mem_of_getElem? (i := 47) rfl)) rfl
theorem bw_528 : (Cond.instanceMethod ({ cls := "BlindMint$Credit", name := "revealedIdentity", desc := "(LBlindMint$Payment;)J" } : MethodName)) ∈ bm_big := bm_inT (bm_t3 (List.mem_of_getElem? (i := 48) rfl)) rfl
theorem bw_529 : (Cond.selects "BlindMint$Credit" ({ cls := "BlindMint$Credit", name := "revealedIdentity", desc := "(LBlindMint$Payment;)J" } : MethodName) ({ cls := "BlindMint$Credit", name := "revealedIdentity", desc := "(LBlindMint$Payment;)J" } : MethodName)) ∈ bm_big := bm_inT (bm_t3 (List.mem_of_getElem? (i := 49) rfl)) rfl
theorem bw_530 : (Cond.code ({ cls := "BlindMint$Credit", name := "revealedIdentity", desc := "(LBlindMint$Payment;)J" } : MethodName) prog_5_method_3_code 5 (Option.some FieldType.long)) ∈ bm_big := bm_inT (bm_t3 (List.mem_of_getElem? (i := 50) rfl)) rfl
theorem bw_531 : (Cond.methodLink "BlindMint$Credit" 27 ({ cls := "BlindMint$Payment", name := "challenge", desc := "()J" } : MethodName)) ∈ bm_big := bm_inT (bm_t3 (List.mem_of_getElem? (i := 51) rfl)) rfl
theorem bw_533 : (Cond.methodLink "BlindMint$Credit" 32 ({ cls := "BlindMint$Payment", name := "half", desc := "(I)J" } : MethodName)) ∈ bm_big := bm_inT (bm_t3 (List.mem_of_getElem? (i := 53) rfl)) rfl
theorem bw_534 : (Cond.instanceMethod ({ cls := "BlindMint$Payment", name := "half", desc := "(I)J" } : MethodName)) ∈ bm_big := bm_inT (bm_t3 (List.mem_of_getElem? (i := 54) rfl)) rfl
theorem bw_535 : (Cond.selects "BlindMint$Payment" ({ cls := "BlindMint$Payment", name := "half", desc := "(I)J" } : MethodName) ({ cls := "BlindMint$Payment", name := "half", desc := "(I)J" } : MethodName)) ∈ bm_big := bm_inT (bm_t3 (List.mem_of_getElem? (i := 55) rfl)) rfl
theorem bw_536 : (Cond.code ({ cls := "BlindMint$Payment", name := "half", desc := "(I)J" } : MethodName) prog_9_method_6_code 2 (Option.some FieldType.long)) ∈ bm_big := bm_inT (bm_t3 (List.mem_of_getElem? (i := 56) rfl)) rfl
theorem bw_537 : (Cond.constantLong "BlindMint$Credit" 44 (-1)) ∈ bm_big := bm_inT (bm_t3 (List.mem_of_getElem? (i := 57) rfl)) rfl
theorem bw_538 : (Cond.methodLink "BlindMint" 159 ({ cls := "BlindMint", name := "accountOf", desc := "(J)I" } : MethodName)) ∈ bm_big := bm_inT (bm_t3 (List.mem_of_getElem? (i := 58) rfl)) rfl
theorem bw_539 : (Cond.static ({ cls := "BlindMint", name := "accountOf", desc := "(J)I" } : MethodName)) ∈ bm_big := bm_inT (bm_t3 (List.mem_of_getElem? (i := 59) rfl)) rfl
theorem bw_540 : (Cond.code ({ cls := "BlindMint", name := "accountOf", desc := "(J)I" } : MethodName) prog_1_method_19_code 3 (Option.some FieldType.int)) ∈ bm_big := bm_inT (bm_t3 (List.mem_of_getElem? (i := 60) rfl)) rfl
theorem bw_541 : (Cond.constantLong "BlindMint" 176 (1000)) ∈ bm_big := bm_inT (bm_t3 (List.mem_of_getElem? (i := 61) rfl)) rfl
theorem bw_542 : (Cond.constantLong "BlindMint" 178 (1004)) ∈ bm_big := bm_inT (bm_t3 (List.mem_of_getElem? (i := 62) rfl)) rfl
theorem bw_543 : (Cond.classLink "BlindMint" 154 "BlindMint$Credit") ∈ bm_big := bm_inT (bm_t3 (List.mem_of_getElem? (i := 63) rfl)) rfl
theorem bw_544 : (Cond.instantiable "BlindMint$Credit" 5) ∈ bm_big := bm_inT (bm_t3 (List.mem_of_getElem? (i := 64) rfl)) rfl
theorem bw_545 : (Cond.methodLink "BlindMint" 162 ({ cls := "[J", name := "clone", desc := "()Ljava/lang/Object;" } : MethodName)) ∈ bm_big := bm_inT (bm_t3 (List.mem_of_getElem? (i := 65) rfl)) rfl
theorem bw_546 : (Cond.sameMethod "[J" "java/lang/Object" "clone" "()Ljava/lang/Object;") ∈ bm_big := bm_inT (bm_t3 (List.mem_of_getElem? (i := 66) rfl)) rfl
theorem bw_547 : (Cond.native ({ cls := "java/lang/Object", name := "clone", desc := "()Ljava/lang/Object;" } : MethodName)) ∈ bm_big := bm_inT (bm_t3 (List.mem_of_getElem? (i := 67) rfl)) rfl
theorem bw_548 : (Cond.instanceMethod ({ cls := "java/lang/Object", name := "clone", desc := "()Ljava/lang/Object;" } : MethodName)) ∈ bm_big := bm_inT (bm_t3 (List.mem_of_getElem? (i := 68) rfl)) rfl
theorem bw_549 : (Cond.selects "[J" ({ cls := "[J", name := "clone", desc := "()Ljava/lang/Object;" } : MethodName) ({ cls := "java/lang/Object", name := "clone", desc := "()Ljava/lang/Object;" } : MethodName)) ∈ bm_big := bm_inT (bm_t3 (List.mem_of_getElem? (i := 69) rfl)) rfl
theorem bw_551 : (Cond.classLink "BlindMint" 163 "[J") ∈ bm_big := bm_inT (bm_t3 (List.mem_of_getElem? (i := 71) rfl)) rfl
theorem bw_552 : (Cond.methodLink "BlindMint" 167 ({ cls := "BlindMint$Credit", name := "<init>", desc := "(LBlindMint$Payment;[JLBlindMint$Credit;)V" } : MethodName)) ∈ bm_big := bm_inT (bm_t3 (List.mem_of_getElem? (i := 72) rfl)) rfl
theorem bw_553 : (Cond.instanceMethod ({ cls := "BlindMint$Credit", name := "<init>", desc := "(LBlindMint$Payment;[JLBlindMint$Credit;)V" } : MethodName)) ∈ bm_big := bm_inT (bm_t3 (List.mem_of_getElem? (i := 73) rfl)) rfl
theorem bw_554 : (Cond.code ({ cls := "BlindMint$Credit", name := "<init>", desc := "(LBlindMint$Payment;[JLBlindMint$Credit;)V" } : MethodName) prog_5_method_1_code 5 (Option.none : Option Jvm.ClassFile.FieldType)) ∈ bm_big := bm_inT (bm_t3 (List.mem_of_getElem? (i := 74) rfl)) rfl
theorem bw_555 : (Cond.methodLink "BlindMint$Credit" 3 ({ cls := "java/lang/Object", name := "<init>", desc := "()V" } : MethodName)) ∈ bm_big := bm_inT (bm_t3 (List.mem_of_getElem? (i := 75) rfl)) rfl
theorem bw_556 : (Cond.methodLink "BlindMint$Credit" 15 ({ cls := "BlindMint$Payment", name := "denomination", desc := "()J" } : MethodName)) ∈ bm_big := bm_inT (bm_t3 (List.mem_of_getElem? (i := 76) rfl)) rfl
theorem bw_557 : (Cond.fieldLink "BlindMint$Credit" 21 "BlindMint$Credit" "denomination" "J") ∈ bm_big := bm_inT (bm_t3 (List.mem_of_getElem? (i := 77) rfl)) rfl
theorem bw_558 : (Cond.fieldLink "BlindMint$Credit" 24 "BlindMint$Credit" "pairHashes" "[J") ∈ bm_big := bm_inT (bm_t3 (List.mem_of_getElem? (i := 78) rfl)) rfl
theorem bw_559 : (Cond.fieldLink "BlindMint$Credit" 30 "BlindMint$Credit" "challenge" "J") ∈ bm_big := bm_inT (bm_t3 (List.mem_of_getElem? (i := 79) rfl)) rfl
theorem bw_560 : (Cond.fieldLink "BlindMint$Credit" 9 "BlindMint$Credit" "halves" "[J") ∈ bm_big := bm_inT (bm_t3 (List.mem_of_getElem? (i := 80) rfl)) rfl
theorem bw_561 : (Cond.fieldLink "BlindMint$Credit" 36 "BlindMint$Credit" "before" "LBlindMint$Credit;") ∈ bm_big := bm_inT (bm_t3 (List.mem_of_getElem? (i := 81) rfl)) rfl
theorem bw_562 : (Cond.fieldLink "BlindMint" 232 "BlindMint$Credit" "before" "LBlindMint$Credit;") ∈ bm_big := bm_inT (bm_t3 (List.mem_of_getElem? (i := 82) rfl)) rfl
theorem bw_563 : (Cond.laysFinal "BlindMint$Credit" "BlindMint$Credit" "denomination" "J") ∈ bm_big := bm_inT (bm_t3 (List.mem_of_getElem? (i := 83) rfl)) rfl
theorem bw_565 : (Cond.laysFinal "BlindMint$Credit" "BlindMint$Credit" "pairHashes" "[J") ∈ bm_big := bm_inT (bm_t3 (List.mem_of_getElem? (i := 85) rfl)) rfl
theorem bw_567 : (Cond.laysFinal "BlindMint$Credit" "BlindMint$Credit" "challenge" "J") ∈ bm_big := bm_inT (bm_t3 (List.mem_of_getElem? (i := 87) rfl)) rfl
theorem bw_569 : (Cond.laysFinal "BlindMint$Credit" "BlindMint$Credit" "halves" "[J") ∈ bm_big := bm_inT (bm_t3 (List.mem_of_getElem? (i := 89) rfl)) rfl
theorem bw_571 : (Cond.laysFinal "BlindMint$Credit" "BlindMint$Credit" "before" "LBlindMint$Credit;") ∈ bm_big := bm_inT (bm_t3 (List.mem_of_getElem? (i := 91) rfl)) rfl
theorem bw_573 : (Cond.superclass "BlindMint$Credit" "java/lang/Object") ∈ bm_big := bm_inT (bm_t3 (List.mem_of_getElem? (i := 93) rfl)) rfl
theorem bw_574 : (Cond.methodLink "BlindMintLaw" 91 ({ cls := "BlindMintLaw", name := "balance", desc := "(LBlindMint;I[J)I" } : MethodName)) ∈ bm_big := bm_inT (bm_t3 (List.mem_of_getElem? (i := 94) rfl)) rfl
theorem bw_575 : (Cond.static ({ cls := "BlindMintLaw", name := "balance", desc := "(LBlindMint;I[J)I" } : MethodName)) ∈ bm_big := bm_inT (bm_t3 (List.mem_of_getElem? (i := 95) rfl)) rfl
theorem bw_576 : (Cond.codeWith ({ cls := "BlindMintLaw", name := "balance", desc := "(LBlindMint;I[J)I" } : MethodName) method_9_code 4 (Option.some FieldType.int) [(0, 9, 12, 13)]) ∈ bm_big := bm_inT (bm_t3 (List.mem_of_getElem? (i := 96) rfl)) rfl
theorem bw_577 : (Cond.methodLink "BlindMintLaw" 38 ({ cls := "BlindMint", name := "balance", desc := "(I)I" } : MethodName)) ∈ bm_big := bm_inT (bm_t3 (List.mem_of_getElem? (i := 97) rfl)) rfl
theorem bw_578 : (Cond.instanceMethod ({ cls := "BlindMint", name := "balance", desc := "(I)I" } : MethodName)) ∈ bm_big := bm_inT (bm_t3 (List.mem_of_getElem? (i := 98) rfl)) rfl
theorem bw_579 : (Cond.selects "BlindMint" ({ cls := "BlindMint", name := "balance", desc := "(I)I" } : MethodName) ({ cls := "BlindMint", name := "balance", desc := "(I)I" } : MethodName)) ∈ bm_big := bm_inT (bm_t3 (List.mem_of_getElem? (i := 99) rfl)) rfl
theorem bw_580 : (Cond.code ({ cls := "BlindMint", name := "balance", desc := "(I)I" } : MethodName) prog_1_method_10_code 2 (Option.some FieldType.int)) ∈ bm_big := bm_inT (bm_t3 (List.mem_of_getElem? (i := 100) rfl)) rfl
theorem bw_581 : (Cond.methodLink "BlindMintLaw" 99 ({ cls := "BlindMintLaw", name := "coin", desc := "(LBlindMint;II[J)I" } : MethodName)) ∈ bm_big := bm_inT (bm_t3 (List.mem_of_getElem? (i := 101) rfl)) rfl
theorem bw_582 : (Cond.static ({ cls := "BlindMintLaw", name := "coin", desc := "(LBlindMint;II[J)I" } : MethodName)) ∈ bm_big := bm_inT (bm_t3 (List.mem_of_getElem? (i := 102) rfl)) rfl
theorem bw_583 : (Cond.codeWith ({ cls := "BlindMintLaw", name := "coin", desc := "(LBlindMint;II[J)I" } : MethodName) method_10_code 5 (Option.some FieldType.int) [(0, 9, 12, 21)]) ∈ bm_big := bm_inT (bm_t3 (List.mem_of_getElem? (i := 103) rfl)) rfl
theorem bw_584 : (Cond.methodLink "BlindMintLaw" 42 ({ cls := "BlindMint", name := "coin", desc := "(II)J" } : MethodName)) ∈ bm_big := bm_inT (bm_t3 (List.mem_of_getElem? (i := 104) rfl)) rfl
theorem bw_585 : (Cond.instanceMethod ({ cls := "BlindMint", name := "coin", desc := "(II)J" } : MethodName)) ∈ bm_big := bm_inT (bm_t3 (List.mem_of_getElem? (i := 105) rfl)) rfl
theorem bw_586 : (Cond.selects "BlindMint" ({ cls := "BlindMint", name := "coin", desc := "(II)J" } : MethodName) ({ cls := "BlindMint", name := "coin", desc := "(II)J" } : MethodName)) ∈ bm_big := bm_inT (bm_t3 (List.mem_of_getElem? (i := 106) rfl)) rfl
theorem bw_587 : (Cond.code ({ cls := "BlindMint", name := "coin", desc := "(II)J" } : MethodName) prog_1_method_12_code 4 (Option.some FieldType.long)) ∈ bm_big := bm_inT (bm_t3 (List.mem_of_getElem? (i := 107) rfl)) rfl
theorem bw_588 : (Cond.methodLink "BlindMintLaw" 102 ({ cls := "BlindMintLaw", name := "signature", desc := "(LBlindMint;II[J)I" } : MethodName)) ∈ bm_big := bm_inT (bm_t3 (List.mem_of_getElem? (i := 108) rfl)) rfl
theorem bw_589 : (Cond.static ({ cls := "BlindMintLaw", name := "signature", desc := "(LBlindMint;II[J)I" } : MethodName)) ∈ bm_big := bm_inT (bm_t3 (List.mem_of_getElem? (i := 109) rfl)) rfl
theorem bw_590 : (Cond.codeWith ({ cls := "BlindMintLaw", name := "signature", desc := "(LBlindMint;II[J)I" } : MethodName) method_11_code 5 (Option.some FieldType.int) [(0, 9, 12, 21)]) ∈ bm_big := bm_inT (bm_t3 (List.mem_of_getElem? (i := 110) rfl)) rfl
theorem bw_591 : (Cond.methodLink "BlindMintLaw" 45 ({ cls := "BlindMint", name := "signature", desc := "(II)J" } : MethodName)) ∈ bm_big := bm_inT (bm_t3 (List.mem_of_getElem? (i := 111) rfl)) rfl
theorem bw_592 : (Cond.instanceMethod ({ cls := "BlindMint", name := "signature", desc := "(II)J" } : MethodName)) ∈ bm_big := bm_inT (bm_t3 (List.mem_of_getElem? (i := 112) rfl)) rfl
theorem bw_593 : (Cond.selects "BlindMint" ({ cls := "BlindMint", name := "signature", desc := "(II)J" } : MethodName) ({ cls := "BlindMint", name := "signature", desc := "(II)J" } : MethodName)) ∈ bm_big := bm_inT (bm_t3 (List.mem_of_getElem? (i := 113) rfl)) rfl
theorem bw_594 : (Cond.code ({ cls := "BlindMint", name := "signature", desc := "(II)J" } : MethodName) prog_1_method_13_code 4 (Option.some FieldType.long)) ∈ bm_big := bm_inT (bm_t3 (List.mem_of_getElem? (i := 114) rfl)) rfl
theorem bw_595 : (Cond.classLink "BlindMintLaw" 49 "BlindMintModel") ∈ bm_big := bm_inT (bm_t3 (List.mem_of_getElem? (i := 115) rfl)) rfl
theorem bw_596 : (Cond.instantiable "BlindMintModel" 22) ∈ bm_big := bm_inT (bm_t3 (List.mem_of_getElem? (i := 116) rfl)) rfl
theorem bw_597 : (Cond.methodLink "BlindMintLaw" 51 ({ cls := "BlindMintModel", name := "<init>", desc := "()V" } : MethodName)) ∈ bm_big := bm_inT (bm_t3 (List.mem_of_getElem? (i := 117) rfl)) rfl
theorem bw_598 : (Cond.instanceMethod ({ cls := "BlindMintModel", name := "<init>", desc := "()V" } : MethodName)) ∈ bm_big := bm_inT (bm_t3 (List.mem_of_getElem? (i := 118) rfl)) rfl
theorem bw_599 : (Cond.code ({ cls := "BlindMintModel", name := "<init>", desc := "()V" } : MethodName) prog_12_method_1_code 2 (Option.none : Option Jvm.ClassFile.FieldType)) ∈ bm_big := bm_inT (bm_t3 (List.mem_of_getElem? (i := 119) rfl)) rfl
theorem bw_600 : (Cond.methodLink "BlindMintModel" 1 ({ cls := "java/lang/Object", name := "<init>", desc := "()V" } : MethodName)) ∈ bm_big := bm_inT (bm_t3 (List.mem_of_getElem? (i := 120) rfl)) rfl
theorem bw_601 : (Cond.constantLong "BlindMintModel" 20 (-1)) ∈ bm_big := bm_inT (bm_t3 (List.mem_of_getElem? (i := 121) rfl)) rfl
theorem bw_602 : (Cond.fieldLink "BlindMintModel" 73 "BlindMintModel" "thrown" "I") ∈ bm_big := bm_inT (bm_t3 (List.mem_of_getElem? (i := 122) rfl)) rfl
theorem bw_603 : (Cond.fieldLink "BlindMintModel" 7 "BlindMintModel" "money" "[I") ∈ bm_big := bm_inT (bm_t3 (List.mem_of_getElem? (i := 123) rfl)) rfl
theorem bw_604 : (Cond.fieldLink "BlindMintModel" 13 "BlindMintModel" "counts" "[I") ∈ bm_big := bm_inT (bm_t3 (List.mem_of_getElem? (i := 124) rfl)) rfl
theorem bw_605 : (Cond.fieldLink "BlindMintModel" 16 "BlindMintModel" "traced" "I") ∈ bm_big := bm_inT (bm_t3 (List.mem_of_getElem? (i := 125) rfl)) rfl
theorem bw_606 : (Cond.fieldLink "BlindMintModel" 22 "BlindMintModel" "blinded" "J") ∈ bm_big := bm_inT (bm_t3 (List.mem_of_getElem? (i := 126) rfl)) rfl
theorem bw_607 : (Cond.fieldLink "BlindMintModel" 26 "BlindMintModel" "coins" "[I") ∈ bm_big := bm_inT (bm_t3 (List.mem_of_getElem? (i := 127) rfl)) rfl
theorem bw_608 : (Cond.fieldLink "BlindMintModel" 29 "BlindMintModel" "sort" "[I") ∈ bm_big := bm_inT (bm_t3 (List.mem_of_getElem? (i := 128) rfl)) rfl
theorem bw_609 : (Cond.fieldLink "BlindMintModel" 32 "BlindMintModel" "numbers" "[J") ∈ bm_big := bm_inT (bm_t3 (List.mem_of_getElem? (i := 129) rfl)) rfl
theorem bw_610 : (Cond.fieldLink "BlindMintModel" 36 "BlindMintModel" "signs" "[J") ∈ bm_big := bm_inT (bm_t3 (List.mem_of_getElem? (i := 130) rfl)) rfl
theorem bw_611 : (Cond.fieldLink "BlindMintModel" 39 "BlindMintModel" "spent" "[Z") ∈ bm_big := bm_inT (bm_t3 (List.mem_of_getElem? (i := 131) rfl)) rfl
theorem bw_612 : (Cond.fieldLink "BlindMintModel" 43 "BlindMintModel" "parts" "[J") ∈ bm_big := bm_inT (bm_t3 (List.mem_of_getElem? (i := 132) rfl)) rfl
theorem bw_613 : (Cond.fieldLink "BlindMintModel" 171 "BlindMintModel" "payments" "I") ∈ bm_big := bm_inT (bm_t3 (List.mem_of_getElem? (i := 133) rfl)) rfl
theorem bw_614 : (Cond.fieldLink "BlindMintModel" 46 "BlindMintModel" "rows" "[J") ∈ bm_big := bm_inT (bm_t3 (List.mem_of_getElem? (i := 134) rfl)) rfl
theorem bw_615 : (Cond.fieldLink "BlindMintModel" 192 "BlindMintModel" "deposits" "I") ∈ bm_big := bm_inT (bm_t3 (List.mem_of_getElem? (i := 135) rfl)) rfl
theorem bw_616 : (Cond.fieldLink "BlindMintModel" 49 "BlindMintModel" "taken" "[J") ∈ bm_big := bm_inT (bm_t3 (List.mem_of_getElem? (i := 136) rfl)) rfl
theorem bw_617 : (Cond.fieldLink "BlindMintModel" 52 "BlindMintModel" "a" "[J") ∈ bm_big := bm_inT (bm_t3 (List.mem_of_getElem? (i := 137) rfl)) rfl
theorem bw_618 : (Cond.fieldLink "BlindMintModel" 55 "BlindMintModel" "b" "[J") ∈ bm_big := bm_inT (bm_t3 (List.mem_of_getElem? (i := 138) rfl)) rfl
theorem bw_619 : (Cond.fieldLink "BlindMintModel" 58 "BlindMintModel" "c" "[J") ∈ bm_big := bm_inT (bm_t3 (List.mem_of_getElem? (i := 139) rfl)) rfl
theorem bw_620 : (Cond.fieldLink "BlindMintModel" 61 "BlindMintModel" "e" "[J") ∈ bm_big := bm_inT (bm_t3 (List.mem_of_getElem? (i := 140) rfl)) rfl
theorem bw_621 : (Cond.fieldLink "BlindMintModel" 64 "BlindMintModel" "pair" "[J") ∈ bm_big := bm_inT (bm_t3 (List.mem_of_getElem? (i := 141) rfl)) rfl
theorem bw_622 : (Cond.fieldLink "BlindMintModel" 67 "BlindMintModel" "left" "[Z") ∈ bm_big := bm_inT (bm_t3 (List.mem_of_getElem? (i := 142) rfl)) rfl
theorem bw_623 : (Cond.fieldLink "BlindMintModel" 70 "BlindMintModel" "hashes" "[J") ∈ bm_big := bm_inT (bm_t3 (List.mem_of_getElem? (i := 143) rfl)) rfl
theorem bw_624 : (Cond.lays "BlindMintModel" "BlindMintModel" "thrown" "I") ∈ bm_big := bm_inT (bm_t3 (List.mem_of_getElem? (i := 144) rfl)) rfl
theorem bw_626 : (Cond.laysFinal "BlindMintModel" "BlindMintModel" "money" "[I") ∈ bm_big := bm_inT (bm_t3 (List.mem_of_getElem? (i := 146) rfl)) rfl
theorem bw_628 : (Cond.laysFinal "BlindMintModel" "BlindMintModel" "counts" "[I") ∈ bm_big := bm_inT (bm_t3 (List.mem_of_getElem? (i := 148) rfl)) rfl
theorem bw_630 : (Cond.lays "BlindMintModel" "BlindMintModel" "traced" "I") ∈ bm_big := bm_inT (bm_t3 (List.mem_of_getElem? (i := 150) rfl)) rfl
theorem bw_632 : (Cond.lays "BlindMintModel" "BlindMintModel" "blinded" "J") ∈ bm_big := bm_inT (bm_t3 (List.mem_of_getElem? (i := 152) rfl)) rfl
theorem bw_634 : (Cond.laysFinal "BlindMintModel" "BlindMintModel" "coins" "[I") ∈ bm_big := bm_inT (bm_t3 (List.mem_of_getElem? (i := 154) rfl)) rfl
theorem bw_636 : (Cond.laysFinal "BlindMintModel" "BlindMintModel" "sort" "[I") ∈ bm_big := bm_inT (bm_t3 (List.mem_of_getElem? (i := 156) rfl)) rfl
theorem bw_638 : (Cond.laysFinal "BlindMintModel" "BlindMintModel" "numbers" "[J") ∈ bm_big := bm_inT (bm_t3 (List.mem_of_getElem? (i := 158) rfl)) rfl
theorem bw_640 : (Cond.laysFinal "BlindMintModel" "BlindMintModel" "signs" "[J") ∈ bm_big := bm_inT (bm_t3 (List.mem_of_getElem? (i := 160) rfl)) rfl
theorem bw_642 : (Cond.laysFinal "BlindMintModel" "BlindMintModel" "spent" "[Z") ∈ bm_big := bm_inT (bm_t3 (List.mem_of_getElem? (i := 162) rfl)) rfl
theorem bw_644 : (Cond.laysFinal "BlindMintModel" "BlindMintModel" "parts" "[J") ∈ bm_big := bm_inT (bm_t3 (List.mem_of_getElem? (i := 164) rfl)) rfl
theorem bw_646 : (Cond.lays "BlindMintModel" "BlindMintModel" "payments" "I") ∈ bm_big := bm_inT (bm_t3 (List.mem_of_getElem? (i := 166) rfl)) rfl
theorem bw_648 : (Cond.laysFinal "BlindMintModel" "BlindMintModel" "rows" "[J") ∈ bm_big := bm_inT (bm_t3 (List.mem_of_getElem? (i := 168) rfl)) rfl
theorem bw_650 : (Cond.lays "BlindMintModel" "BlindMintModel" "deposits" "I") ∈ bm_big := bm_inT (bm_t3 (List.mem_of_getElem? (i := 170) rfl)) rfl
theorem bw_652 : (Cond.laysFinal "BlindMintModel" "BlindMintModel" "taken" "[J") ∈ bm_big := bm_inT (bm_t3 (List.mem_of_getElem? (i := 172) rfl)) rfl
theorem bw_654 : (Cond.laysFinal "BlindMintModel" "BlindMintModel" "a" "[J") ∈ bm_big := bm_inT (bm_t3 (List.mem_of_getElem? (i := 174) rfl)) rfl
theorem bw_656 : (Cond.laysFinal "BlindMintModel" "BlindMintModel" "b" "[J") ∈ bm_big := bm_inT (bm_t3 (List.mem_of_getElem? (i := 176) rfl)) rfl
theorem bw_658 : (Cond.laysFinal "BlindMintModel" "BlindMintModel" "c" "[J") ∈ bm_big := bm_inT (bm_t3 (List.mem_of_getElem? (i := 178) rfl)) rfl
theorem bw_660 : (Cond.laysFinal "BlindMintModel" "BlindMintModel" "e" "[J") ∈ bm_big := bm_inT (bm_t3 (List.mem_of_getElem? (i := 180) rfl)) rfl
theorem bw_662 : (Cond.laysFinal "BlindMintModel" "BlindMintModel" "pair" "[J") ∈ bm_big := bm_inT (bm_t3 (List.mem_of_getElem? (i := 182) rfl)) rfl
theorem bw_664 : (Cond.laysFinal "BlindMintModel" "BlindMintModel" "left" "[Z") ∈ bm_big := bm_inT (bm_t3 (List.mem_of_getElem? (i := 184) rfl)) rfl
theorem bw_666 : (Cond.laysFinal "BlindMintModel" "BlindMintModel" "hashes" "[J") ∈ bm_big := bm_inT (bm_t3 (List.mem_of_getElem? (i := 186) rfl)) rfl
theorem bw_668 : (Cond.superclass "BlindMintModel" "java/lang/Object") ∈ bm_big := bm_inT (bm_t3 (List.mem_of_getElem? (i := 188) rfl)) rfl
theorem bw_669 : (Cond.arrayClass FieldType.int) ∈ bm_big := bm_inT (bm_t3 (List.mem_of_getElem? (i := 189) rfl)) rfl
theorem bw_670 : (Cond.arrayClass FieldType.boolean) ∈ bm_big := bm_inT (bm_t3 (List.mem_of_getElem? (i := 190) rfl)) rfl
theorem bw_671 : (Cond.methodLink "BlindMintLaw" 60 ({ cls := "BlindMintModel", name := "thrown", desc := "()I" } : MethodName)) ∈ bm_big := bm_inT (bm_t3 (List.mem_of_getElem? (i := 191) rfl)) rfl
theorem bw_672 : (Cond.instanceMethod ({ cls := "BlindMintModel", name := "thrown", desc := "()I" } : MethodName)) ∈ bm_big := bm_inT (bm_t3 (List.mem_of_getElem? (i := 192) rfl)) rfl
theorem bw_673 : (Cond.selects "BlindMintModel" ({ cls := "BlindMintModel", name := "thrown", desc := "()I" } : MethodName) ({ cls := "BlindMintModel", name := "thrown", desc := "()I" } : MethodName)) ∈ bm_big := bm_inT (bm_t3 (List.mem_of_getElem? (i := 193) rfl)) rfl
theorem bw_674 : (Cond.code ({ cls := "BlindMintModel", name := "thrown", desc := "()I" } : MethodName) prog_12_method_3_code 1 (Option.some FieldType.int)) ∈ bm_big := bm_inT (bm_t3 (List.mem_of_getElem? (i := 194) rfl)) rfl
theorem bw_675 : (Cond.methodLink "BlindMintLaw" 59 ({ cls := "BlindMintModel", name := "withdraw", desc := "(IIJI)I" } : MethodName)) ∈ bm_big := bm_inT (bm_t3 (List.mem_of_getElem? (i := 195) rfl)) rfl
theorem bw_676 : (Cond.instanceMethod ({ cls := "BlindMintModel", name := "withdraw", desc := "(IIJI)I" } : MethodName)) ∈ bm_big := bm_inT (bm_t3 (List.mem_of_getElem? (i := 196) rfl)) rfl
theorem bw_677 : (Cond.selects "BlindMintModel" ({ cls := "BlindMintModel", name := "withdraw", desc := "(IIJI)I" } : MethodName) ({ cls := "BlindMintModel", name := "withdraw", desc := "(IIJI)I" } : MethodName)) ∈ bm_big := bm_inT (bm_t3 (List.mem_of_getElem? (i := 197) rfl)) rfl
theorem bw_678 : (Cond.code ({ cls := "BlindMintModel", name := "withdraw", desc := "(IIJI)I" } : MethodName) prog_12_method_21_code 10 (Option.some FieldType.int)) ∈ bm_big := bm_inT (bm_t3 (List.mem_of_getElem? (i := 198) rfl)) rfl
theorem bw_679 : (Cond.methodLink "BlindMintModel" 136 ({ cls := "BlindMintModel", name := "below", desc := "(II)Z" } : MethodName)) ∈ bm_big := bm_inT (bm_t3 (List.mem_of_getElem? (i := 199) rfl)) rfl
theorem bw_680 : (Cond.static ({ cls := "BlindMintModel", name := "below", desc := "(II)Z" } : MethodName)) ∈ bm_big := bm_inT (bm_t3 (List.mem_of_getElem? (i := 200) rfl)) rfl
theorem bw_681 : (Cond.code ({ cls := "BlindMintModel", name := "below", desc := "(II)Z" } : MethodName) prog_12_method_4_code 2 (Option.some FieldType.boolean)) ∈ bm_big := bm_inT (bm_t3 (List.mem_of_getElem? (i := 201) rfl)) rfl
theorem bw_682 : (Cond.methodLink "BlindMintModel" 140 ({ cls := "BlindMintModel", name := "fail", desc := "(I)I" } : MethodName)) ∈ bm_big := bm_inT (bm_t3 (List.mem_of_getElem? (i := 202) rfl)) rfl
theorem bw_684 : (Cond.instanceMethod ({ cls := "BlindMintModel", name := "fail", desc := "(I)I" } : MethodName)) ∈ bm_big := bm_inT (bm_t3 (List.mem_of_getElem? (i := 204) rfl)) rfl
theorem bw_685 : (Cond.code ({ cls := "BlindMintModel", name := "fail", desc := "(I)I" } : MethodName) prog_12_method_2_code 2 (Option.some FieldType.int)) ∈ bm_big := bm_inT (bm_t3 (List.mem_of_getElem? (i := 205) rfl)) rfl
theorem bw_686 : (Cond.methodLink "BlindMintModel" 144 ({ cls := "BlindMintModel", name := "worth", desc := "(I)I" } : MethodName)) ∈ bm_big := bm_inT (bm_t3 (List.mem_of_getElem? (i := 206) rfl)) rfl
theorem bw_687 : (Cond.static ({ cls := "BlindMintModel", name := "worth", desc := "(I)I" } : MethodName)) ∈ bm_big := bm_inT (bm_t3 (List.mem_of_getElem? (i := 207) rfl)) rfl
theorem bw_688 : (Cond.code ({ cls := "BlindMintModel", name := "worth", desc := "(I)I" } : MethodName) prog_12_method_11_code 1 (Option.some FieldType.int)) ∈ bm_big := bm_inT (bm_t3 (List.mem_of_getElem? (i := 208) rfl)) rfl
theorem bw_689 : (Cond.methodLink "BlindMintModel" 147 ({ cls := "BlindMintModel", name := "candidates", desc := "(IJI)V" } : MethodName)) ∈ bm_big := bm_inT (bm_t3 (List.mem_of_getElem? (i := 209) rfl)) rfl
theorem bw_691 : (Cond.instanceMethod ({ cls := "BlindMintModel", name := "candidates", desc := "(IJI)V" } : MethodName)) ∈ bm_big := bm_inT (bm_t3 (List.mem_of_getElem? (i := 211) rfl)) rfl
theorem bw_692 : (Cond.code ({ cls := "BlindMintModel", name := "candidates", desc := "(IJI)V" } : MethodName) prog_12_method_18_code 8 (Option.none : Option Jvm.ClassFile.FieldType)) ∈ bm_big := bm_inT (bm_t3 (List.mem_of_getElem? (i := 212) rfl)) rfl
theorem bw_693 : (Cond.constantLong "BlindMintModel" 128 (3)) ∈ bm_big := bm_inT (bm_t3 (List.mem_of_getElem? (i := 213) rfl)) rfl
theorem bw_694 : (Cond.methodLink "BlindMintModel" 125 ({ cls := "BlindMintModel", name := "hash2", desc := "(JJ)J" } : MethodName)) ∈ bm_big := bm_inT (bm_t3 (List.mem_of_getElem? (i := 214) rfl)) rfl
theorem bw_695 : (Cond.static ({ cls := "BlindMintModel", name := "hash2", desc := "(JJ)J" } : MethodName)) ∈ bm_big := bm_inT (bm_t3 (List.mem_of_getElem? (i := 215) rfl)) rfl
theorem bw_696 : (Cond.code ({ cls := "BlindMintModel", name := "hash2", desc := "(JJ)J" } : MethodName) prog_12_method_7_code 4 (Option.some FieldType.long)) ∈ bm_big := bm_inT (bm_t3 (List.mem_of_getElem? (i := 216) rfl)) rfl
theorem bw_697 : (Cond.constantLong "BlindMintModel" 82 (7)) ∈ bm_big := bm_inT (bm_t3 (List.mem_of_getElem? (i := 217) rfl)) rfl
theorem bw_698 : (Cond.methodLink "BlindMintModel" 84 ({ cls := "BlindMintModel", name := "absorb", desc := "(JJ)J" } : MethodName)) ∈ bm_big := bm_inT (bm_t3 (List.mem_of_getElem? (i := 218) rfl)) rfl
theorem bw_699 : (Cond.static ({ cls := "BlindMintModel", name := "absorb", desc := "(JJ)J" } : MethodName)) ∈ bm_big := bm_inT (bm_t3 (List.mem_of_getElem? (i := 219) rfl)) rfl
theorem bw_700 : (Cond.code ({ cls := "BlindMintModel", name := "absorb", desc := "(JJ)J" } : MethodName) prog_12_method_5_code 6 (Option.some FieldType.long)) ∈ bm_big := bm_inT (bm_t3 (List.mem_of_getElem? (i := 220) rfl)) rfl
theorem bw_701 : (Cond.constantLong "BlindMintModel" 76 (6364136223846793005)) ∈ bm_big := bm_inT (bm_t3 (List.mem_of_getElem? (i := 221) rfl)) rfl
theorem bw_702 : (Cond.constantLong "BlindMintModel" 78 (1442695040888963407)) ∈ bm_big := bm_inT (bm_t3 (List.mem_of_getElem? (i := 222) rfl)) rfl
theorem bw_703 : (Cond.methodLink "BlindMintModel" 88 ({ cls := "BlindMintModel", name := "low", desc := "(J)J" } : MethodName)) ∈ bm_big := bm_inT (bm_t3 (List.mem_of_getElem? (i := 223) rfl)) rfl
theorem bw_704 : (Cond.static ({ cls := "BlindMintModel", name := "low", desc := "(J)J" } : MethodName)) ∈ bm_big := bm_inT (bm_t3 (List.mem_of_getElem? (i := 224) rfl)) rfl
theorem bw_705 : (Cond.code ({ cls := "BlindMintModel", name := "low", desc := "(J)J" } : MethodName) prog_12_method_6_code 2 (Option.some FieldType.long)) ∈ bm_big := bm_inT (bm_t3 (List.mem_of_getElem? (i := 225) rfl)) rfl
theorem bw_706 : (Cond.constantLong "BlindMintModel" 80 (576460752303423487)) ∈ bm_big := bm_inT (bm_t3 (List.mem_of_getElem? (i := 226) rfl)) rfl
theorem bw_707 : (Cond.constantLong "BlindMintModel" 108 (2)) ∈ bm_big := bm_inT (bm_t3 (List.mem_of_getElem? (i := 227) rfl)) rfl
theorem bw_708 : (Cond.constantLong "BlindMintModel" 130 (1000)) ∈ bm_big := bm_inT (bm_t3 (List.mem_of_getElem? (i := 228) rfl)) rfl
theorem bw_709 : (Cond.methodLink "BlindMintModel" 151 ({ cls := "BlindMintModel", name := "open", desc := "(I)I" } : MethodName)) ∈ bm_big := bm_inT (bm_t3 (List.mem_of_getElem? (i := 229) rfl)) rfl
theorem bw_711 : (Cond.instanceMethod ({ cls := "BlindMintModel", name := "open", desc := "(I)I" } : MethodName)) ∈ bm_big := bm_inT (bm_t3 (List.mem_of_getElem? (i := 231) rfl)) rfl
theorem bw_712 : (Cond.code ({ cls := "BlindMintModel", name := "open", desc := "(I)I" } : MethodName) prog_12_method_19_code 6 (Option.some FieldType.int)) ∈ bm_big := bm_inT (bm_t3 (List.mem_of_getElem? (i := 232) rfl)) rfl
theorem bw_713 : (Cond.constantLong "BlindMintModel" 132 (6)) ∈ bm_big := bm_inT (bm_t3 (List.mem_of_getElem? (i := 233) rfl)) rfl
theorem bw_714 : (Cond.constantLong "BlindMintModel" 134 (5)) ∈ bm_big := bm_inT (bm_t3 (List.mem_of_getElem? (i := 234) rfl)) rfl
theorem bw_715 : (Cond.methodLink "BlindMintModel" 154 ({ cls := "BlindMintModel", name := "least", desc := "()I" } : MethodName)) ∈ bm_big := bm_inT (bm_t3 (List.mem_of_getElem? (i := 235) rfl)) rfl
theorem bw_717 : (Cond.instanceMethod ({ cls := "BlindMintModel", name := "least", desc := "()I" } : MethodName)) ∈ bm_big := bm_inT (bm_t3 (List.mem_of_getElem? (i := 237) rfl)) rfl
theorem bw_718 : (Cond.code ({ cls := "BlindMintModel", name := "least", desc := "()I" } : MethodName) prog_12_method_20_code 3 (Option.some FieldType.int)) ∈ bm_big := bm_inT (bm_t3 (List.mem_of_getElem? (i := 238) rfl)) rfl
theorem bw_719 : (Cond.methodLink "BlindMintModel" 158 ({ cls := "BlindMintModel", name := "numberOf", desc := "(J)J" } : MethodName)) ∈ bm_big := bm_inT (bm_t3 (List.mem_of_getElem? (i := 239) rfl)) rfl
theorem bw_721 : (Cond.instanceMethod ({ cls := "BlindMintModel", name := "numberOf", desc := "(J)J" } : MethodName)) ∈ bm_big := bm_inT (bm_t4 (List.mem_of_getElem? (i := 1) rfl)) rfl
theorem bw_722 : (Cond.code ({ cls := "BlindMintModel", name := "numberOf", desc := "(J)J" } : MethodName) prog_12_method_9_code 6 (Option.some FieldType.long)) ∈ bm_big := bm_inT (bm_t4 (List.mem_of_getElem? (i := 2) rfl)) rfl
theorem bw_723 : (Cond.methodLink "BlindMintModel" 161 ({ cls := "BlindMintModel", name := "signed", desc := "(JI)J" } : MethodName)) ∈ bm_big := bm_inT (bm_t4 (List.mem_of_getElem? (i := 3) rfl)) rfl
theorem bw_724 : (Cond.static ({ cls := "BlindMintModel", name := "signed", desc := "(JI)J" } : MethodName)) ∈ bm_big := bm_inT (bm_t4 (List.mem_of_getElem? (i := 4) rfl)) rfl
theorem bw_725 : (Cond.code ({ cls := "BlindMintModel", name := "signed", desc := "(JI)J" } : MethodName) prog_12_method_15_code 7 (Option.some FieldType.long)) ∈ bm_big := bm_inT (bm_t4 (List.mem_of_getElem? (i := 5) rfl)) rfl
theorem bw_726 : (Cond.methodLink "BlindMintModel" 104 ({ cls := "BlindMintModel", name := "factor", desc := "(IZ)J" } : MethodName)) ∈ bm_big := bm_inT (bm_t4 (List.mem_of_getElem? (i := 6) rfl)) rfl
theorem bw_727 : (Cond.static ({ cls := "BlindMintModel", name := "factor", desc := "(IZ)J" } : MethodName)) ∈ bm_big := bm_inT (bm_t4 (List.mem_of_getElem? (i := 7) rfl)) rfl
theorem bw_728 : (Cond.code ({ cls := "BlindMintModel", name := "factor", desc := "(IZ)J" } : MethodName) prog_12_method_10_code 2 (Option.some FieldType.long)) ∈ bm_big := bm_inT (bm_t4 (List.mem_of_getElem? (i := 8) rfl)) rfl
theorem bw_729 : (Cond.constantLong "BlindMintModel" 92 (1000000007)) ∈ bm_big := bm_inT (bm_t4 (List.mem_of_getElem? (i := 9) rfl)) rfl
theorem bw_730 : (Cond.constantLong "BlindMintModel" 94 (1073741789)) ∈ bm_big := bm_inT (bm_t4 (List.mem_of_getElem? (i := 10) rfl)) rfl
theorem bw_731 : (Cond.constantLong "BlindMintModel" 96 (900000011)) ∈ bm_big := bm_inT (bm_t4 (List.mem_of_getElem? (i := 11) rfl)) rfl
theorem bw_732 : (Cond.constantLong "BlindMintModel" 98 (998244389)) ∈ bm_big := bm_inT (bm_t4 (List.mem_of_getElem? (i := 12) rfl)) rfl
theorem bw_733 : (Cond.constantLong "BlindMintModel" 100 (1020000011)) ∈ bm_big := bm_inT (bm_t4 (List.mem_of_getElem? (i := 13) rfl)) rfl
theorem bw_734 : (Cond.constantLong "BlindMintModel" 102 (1050000041)) ∈ bm_big := bm_inT (bm_t4 (List.mem_of_getElem? (i := 14) rfl)) rfl
theorem bw_735 : (Cond.methodLink "BlindMintModel" 116 ({ cls := "BlindMintModel", name := "undo", desc := "(J)J" } : MethodName)) ∈ bm_big := bm_inT (bm_t4 (List.mem_of_getElem? (i := 15) rfl)) rfl
theorem bw_736 : (Cond.static ({ cls := "BlindMintModel", name := "undo", desc := "(J)J" } : MethodName)) ∈ bm_big := bm_inT (bm_t4 (List.mem_of_getElem? (i := 16) rfl)) rfl
theorem bw_737 : (Cond.code ({ cls := "BlindMintModel", name := "undo", desc := "(J)J" } : MethodName) prog_12_method_14_code 4 (Option.some FieldType.long)) ∈ bm_big := bm_inT (bm_t4 (List.mem_of_getElem? (i := 17) rfl)) rfl
theorem bw_738 : (Cond.constantLong "BlindMintModel" 114 (17)) ∈ bm_big := bm_inT (bm_t4 (List.mem_of_getElem? (i := 18) rfl)) rfl
theorem bw_739 : (Cond.methodLink "BlindMintModel" 110 ({ cls := "BlindMintModel", name := "power", desc := "(JJJ)J" } : MethodName)) ∈ bm_big := bm_inT (bm_t4 (List.mem_of_getElem? (i := 19) rfl)) rfl
theorem bw_740 : (Cond.static ({ cls := "BlindMintModel", name := "power", desc := "(JJJ)J" } : MethodName)) ∈ bm_big := bm_inT (bm_t4 (List.mem_of_getElem? (i := 20) rfl)) rfl
theorem bw_741 : (Cond.code ({ cls := "BlindMintModel", name := "power", desc := "(JJJ)J" } : MethodName) prog_12_method_12_code 12 (Option.some FieldType.long)) ∈ bm_big := bm_inT (bm_t4 (List.mem_of_getElem? (i := 21) rfl)) rfl
theorem bw_742 : (Cond.methodLink "BlindMintModel" 119 ({ cls := "BlindMintModel", name := "join", desc := "(JJI)J" } : MethodName)) ∈ bm_big := bm_inT (bm_t4 (List.mem_of_getElem? (i := 22) rfl)) rfl
theorem bw_743 : (Cond.static ({ cls := "BlindMintModel", name := "join", desc := "(JJI)J" } : MethodName)) ∈ bm_big := bm_inT (bm_t4 (List.mem_of_getElem? (i := 23) rfl)) rfl
theorem bw_744 : (Cond.code ({ cls := "BlindMintModel", name := "join", desc := "(JJI)J" } : MethodName) prog_12_method_13_code 13 (Option.some FieldType.long)) ∈ bm_big := bm_inT (bm_t4 (List.mem_of_getElem? (i := 24) rfl)) rfl
theorem bw_745 : (Cond.methodLink "BlindMintModel" 165 ({ cls := "BlindMintModel", name := "blind", desc := "(JJI)J" } : MethodName)) ∈ bm_big := bm_inT (bm_t4 (List.mem_of_getElem? (i := 25) rfl)) rfl
theorem bw_746 : (Cond.static ({ cls := "BlindMintModel", name := "blind", desc := "(JJI)J" } : MethodName)) ∈ bm_big := bm_inT (bm_t4 (List.mem_of_getElem? (i := 26) rfl)) rfl
theorem bw_747 : (Cond.code ({ cls := "BlindMintModel", name := "blind", desc := "(JJI)J" } : MethodName) prog_12_method_17_code 11 (Option.some FieldType.long)) ∈ bm_big := bm_inT (bm_t4 (List.mem_of_getElem? (i := 27) rfl)) rfl
theorem bw_748 : (Cond.constantLong "BlindMintModel" 123 (100)) ∈ bm_big := bm_inT (bm_t4 (List.mem_of_getElem? (i := 28) rfl)) rfl
theorem bw_749 : (Cond.methodLink "BlindMintLaw" 67 ({ cls := "BlindMintModel", name := "choose", desc := "(II)I" } : MethodName)) ∈ bm_big := bm_inT (bm_t4 (List.mem_of_getElem? (i := 29) rfl)) rfl
theorem bw_750 : (Cond.instanceMethod ({ cls := "BlindMintModel", name := "choose", desc := "(II)I" } : MethodName)) ∈ bm_big := bm_inT (bm_t4 (List.mem_of_getElem? (i := 30) rfl)) rfl
theorem bw_751 : (Cond.selects "BlindMintModel" ({ cls := "BlindMintModel", name := "choose", desc := "(II)I" } : MethodName) ({ cls := "BlindMintModel", name := "choose", desc := "(II)I" } : MethodName)) ∈ bm_big := bm_inT (bm_t4 (List.mem_of_getElem? (i := 31) rfl)) rfl
theorem bw_752 : (Cond.code ({ cls := "BlindMintModel", name := "choose", desc := "(II)I" } : MethodName) prog_12_method_22_code 9 (Option.some FieldType.int)) ∈ bm_big := bm_inT (bm_t4 (List.mem_of_getElem? (i := 32) rfl)) rfl
theorem bw_753 : (Cond.methodLink "BlindMintLaw" 71 ({ cls := "BlindMintModel", name := "spend", desc := "(IIII)I" } : MethodName)) ∈ bm_big := bm_inT (bm_t4 (List.mem_of_getElem? (i := 33) rfl)) rfl
theorem bw_754 : (Cond.instanceMethod ({ cls := "BlindMintModel", name := "spend", desc := "(IIII)I" } : MethodName)) ∈ bm_big := bm_inT (bm_t4 (List.mem_of_getElem? (i := 34) rfl)) rfl
theorem bw_755 : (Cond.selects "BlindMintModel" ({ cls := "BlindMintModel", name := "spend", desc := "(IIII)I" } : MethodName) ({ cls := "BlindMintModel", name := "spend", desc := "(IIII)I" } : MethodName)) ∈ bm_big := bm_inT (bm_t4 (List.mem_of_getElem? (i := 35) rfl)) rfl
theorem bw_756 : (Cond.code ({ cls := "BlindMintModel", name := "spend", desc := "(IIII)I" } : MethodName) prog_12_method_24_code 14 (Option.some FieldType.int)) ∈ bm_big := bm_inT (bm_t4 (List.mem_of_getElem? (i := 36) rfl)) rfl
theorem bw_757 : (Cond.methodLink "BlindMintModel" 168 ({ cls := "BlindMintModel", name := "noCoin", desc := "(II)Z" } : MethodName)) ∈ bm_big := bm_inT (bm_t4 (List.mem_of_getElem? (i := 37) rfl)) rfl
theorem bw_759 : (Cond.instanceMethod ({ cls := "BlindMintModel", name := "noCoin", desc := "(II)Z" } : MethodName)) ∈ bm_big := bm_inT (bm_t4 (List.mem_of_getElem? (i := 39) rfl)) rfl
theorem bw_760 : (Cond.code ({ cls := "BlindMintModel", name := "noCoin", desc := "(II)Z" } : MethodName) prog_12_method_23_code 3 (Option.some FieldType.boolean)) ∈ bm_big := bm_inT (bm_t4 (List.mem_of_getElem? (i := 40) rfl)) rfl
theorem bw_761 : (Cond.methodLink "BlindMintModel" 174 ({ cls := "BlindMintModel", name := "hash3", desc := "(JJJ)J" } : MethodName)) ∈ bm_big := bm_inT (bm_t4 (List.mem_of_getElem? (i := 41) rfl)) rfl
theorem bw_762 : (Cond.static ({ cls := "BlindMintModel", name := "hash3", desc := "(JJJ)J" } : MethodName)) ∈ bm_big := bm_inT (bm_t4 (List.mem_of_getElem? (i := 42) rfl)) rfl
theorem bw_763 : (Cond.code ({ cls := "BlindMintModel", name := "hash3", desc := "(JJJ)J" } : MethodName) prog_12_method_8_code 6 (Option.some FieldType.long)) ∈ bm_big := bm_inT (bm_t4 (List.mem_of_getElem? (i := 43) rfl)) rfl
theorem bw_764 : (Cond.methodLink "BlindMintLaw" 75 ({ cls := "BlindMintModel", name := "tamper", desc := "(IIJ)J" } : MethodName)) ∈ bm_big := bm_inT (bm_t4 (List.mem_of_getElem? (i := 44) rfl)) rfl
theorem bw_765 : (Cond.instanceMethod ({ cls := "BlindMintModel", name := "tamper", desc := "(IIJ)J" } : MethodName)) ∈ bm_big := bm_inT (bm_t4 (List.mem_of_getElem? (i := 45) rfl)) rfl
theorem bw_766 : (Cond.selects "BlindMintModel" ({ cls := "BlindMintModel", name := "tamper", desc := "(IIJ)J" } : MethodName) ({ cls := "BlindMintModel", name := "tamper", desc := "(IIJ)J" } : MethodName)) ∈ bm_big := bm_inT (bm_t4 (List.mem_of_getElem? (i := 46) rfl)) rfl
theorem bw_767 : (Cond.code ({ cls := "BlindMintModel", name := "tamper", desc := "(IIJ)J" } : MethodName) prog_12_method_26_code 5 (Option.some FieldType.long)) ∈ bm_big := bm_inT (bm_t4 (List.mem_of_getElem? (i := 47) rfl)) rfl
theorem bw_768 : (Cond.methodLink "BlindMintModel" 177 ({ cls := "BlindMintModel", name := "noNumber", desc := "(II)Z" } : MethodName)) ∈ bm_big := bm_inT (bm_t4 (List.mem_of_getElem? (i := 48) rfl)) rfl
theorem bw_770 : (Cond.instanceMethod ({ cls := "BlindMintModel", name := "noNumber", desc := "(II)Z" } : MethodName)) ∈ bm_big := bm_inT (bm_t4 (List.mem_of_getElem? (i := 50) rfl)) rfl
theorem bw_771 : (Cond.code ({ cls := "BlindMintModel", name := "noNumber", desc := "(II)Z" } : MethodName) prog_12_method_25_code 3 (Option.some FieldType.boolean)) ∈ bm_big := bm_inT (bm_t4 (List.mem_of_getElem? (i := 51) rfl)) rfl
theorem bw_772 : (Cond.methodLink "BlindMintLaw" 78 ({ cls := "BlindMintModel", name := "number", desc := "(II)J" } : MethodName)) ∈ bm_big := bm_inT (bm_t4 (List.mem_of_getElem? (i := 52) rfl)) rfl
theorem bw_773 : (Cond.instanceMethod ({ cls := "BlindMintModel", name := "number", desc := "(II)J" } : MethodName)) ∈ bm_big := bm_inT (bm_t4 (List.mem_of_getElem? (i := 53) rfl)) rfl
theorem bw_774 : (Cond.selects "BlindMintModel" ({ cls := "BlindMintModel", name := "number", desc := "(II)J" } : MethodName) ({ cls := "BlindMintModel", name := "number", desc := "(II)J" } : MethodName)) ∈ bm_big := bm_inT (bm_t4 (List.mem_of_getElem? (i := 54) rfl)) rfl
theorem bw_775 : (Cond.code ({ cls := "BlindMintModel", name := "number", desc := "(II)J" } : MethodName) prog_12_method_27_code 3 (Option.some FieldType.long)) ∈ bm_big := bm_inT (bm_t4 (List.mem_of_getElem? (i := 55) rfl)) rfl
theorem bw_776 : (Cond.methodLink "BlindMintLaw" 83 ({ cls := "BlindMintModel", name := "good", desc := "(I)Z" } : MethodName)) ∈ bm_big := bm_inT (bm_t4 (List.mem_of_getElem? (i := 56) rfl)) rfl
theorem bw_777 : (Cond.instanceMethod ({ cls := "BlindMintModel", name := "good", desc := "(I)Z" } : MethodName)) ∈ bm_big := bm_inT (bm_t4 (List.mem_of_getElem? (i := 57) rfl)) rfl
theorem bw_778 : (Cond.selects "BlindMintModel" ({ cls := "BlindMintModel", name := "good", desc := "(I)Z" } : MethodName) ({ cls := "BlindMintModel", name := "good", desc := "(I)Z" } : MethodName)) ∈ bm_big := bm_inT (bm_t4 (List.mem_of_getElem? (i := 58) rfl)) rfl
theorem bw_779 : (Cond.code ({ cls := "BlindMintModel", name := "good", desc := "(I)Z" } : MethodName) prog_12_method_30_code 2 (Option.some FieldType.boolean)) ∈ bm_big := bm_inT (bm_t4 (List.mem_of_getElem? (i := 59) rfl)) rfl
theorem bw_780 : (Cond.methodLink "BlindMintModel" 188 ({ cls := "BlindMintModel", name := "isGood", desc := "(I)Z" } : MethodName)) ∈ bm_big := bm_inT (bm_t4 (List.mem_of_getElem? (i := 60) rfl)) rfl
theorem bw_782 : (Cond.instanceMethod ({ cls := "BlindMintModel", name := "isGood", desc := "(I)Z" } : MethodName)) ∈ bm_big := bm_inT (bm_t4 (List.mem_of_getElem? (i := 62) rfl)) rfl
theorem bw_783 : (Cond.code ({ cls := "BlindMintModel", name := "isGood", desc := "(I)Z" } : MethodName) prog_12_method_29_code 9 (Option.some FieldType.boolean)) ∈ bm_big := bm_inT (bm_t4 (List.mem_of_getElem? (i := 63) rfl)) rfl
theorem bw_784 : (Cond.methodLink "BlindMintModel" 180 ({ cls := "BlindMintModel", name := "choiceOf", desc := "(I)J" } : MethodName)) ∈ bm_big := bm_inT (bm_t4 (List.mem_of_getElem? (i := 64) rfl)) rfl
theorem bw_786 : (Cond.instanceMethod ({ cls := "BlindMintModel", name := "choiceOf", desc := "(I)J" } : MethodName)) ∈ bm_big := bm_inT (bm_t4 (List.mem_of_getElem? (i := 66) rfl)) rfl
theorem bw_787 : (Cond.code ({ cls := "BlindMintModel", name := "choiceOf", desc := "(I)J" } : MethodName) prog_12_method_28_code 2 (Option.some FieldType.long)) ∈ bm_big := bm_inT (bm_t4 (List.mem_of_getElem? (i := 67) rfl)) rfl
theorem bw_788 : (Cond.methodLink "BlindMintModel" 184 ({ cls := "BlindMintModel", name := "isSignature", desc := "(JJI)Z" } : MethodName)) ∈ bm_big := bm_inT (bm_t4 (List.mem_of_getElem? (i := 68) rfl)) rfl
theorem bw_789 : (Cond.static ({ cls := "BlindMintModel", name := "isSignature", desc := "(JJI)Z" } : MethodName)) ∈ bm_big := bm_inT (bm_t4 (List.mem_of_getElem? (i := 69) rfl)) rfl
theorem bw_790 : (Cond.code ({ cls := "BlindMintModel", name := "isSignature", desc := "(JJI)Z" } : MethodName) prog_12_method_16_code 9 (Option.some FieldType.boolean)) ∈ bm_big := bm_inT (bm_t4 (List.mem_of_getElem? (i := 70) rfl)) rfl
theorem bw_791 : (Cond.methodLink "BlindMintLaw" 86 ({ cls := "BlindMintModel", name := "deposit", desc := "(II)I" } : MethodName)) ∈ bm_big := bm_inT (bm_t4 (List.mem_of_getElem? (i := 71) rfl)) rfl
theorem bw_792 : (Cond.instanceMethod ({ cls := "BlindMintModel", name := "deposit", desc := "(II)I" } : MethodName)) ∈ bm_big := bm_inT (bm_t4 (List.mem_of_getElem? (i := 72) rfl)) rfl
theorem bw_793 : (Cond.selects "BlindMintModel" ({ cls := "BlindMintModel", name := "deposit", desc := "(II)I" } : MethodName) ({ cls := "BlindMintModel", name := "deposit", desc := "(II)I" } : MethodName)) ∈ bm_big := bm_inT (bm_t4 (List.mem_of_getElem? (i := 73) rfl)) rfl
theorem bw_794 : (Cond.code ({ cls := "BlindMintModel", name := "deposit", desc := "(II)I" } : MethodName) prog_12_method_33_code 6 (Option.some FieldType.int)) ∈ bm_big := bm_inT (bm_t4 (List.mem_of_getElem? (i := 74) rfl)) rfl
theorem bw_795 : (Cond.methodLink "BlindMintModel" 199 ({ cls := "BlindMintModel", name := "noted", desc := "(J)I" } : MethodName)) ∈ bm_big := bm_inT (bm_t4 (List.mem_of_getElem? (i := 75) rfl)) rfl
theorem bw_797 : (Cond.instanceMethod ({ cls := "BlindMintModel", name := "noted", desc := "(J)I" } : MethodName)) ∈ bm_big := bm_inT (bm_t4 (List.mem_of_getElem? (i := 77) rfl)) rfl
theorem bw_798 : (Cond.code ({ cls := "BlindMintModel", name := "noted", desc := "(J)I" } : MethodName) prog_12_method_31_code 6 (Option.some FieldType.int)) ∈ bm_big := bm_inT (bm_t4 (List.mem_of_getElem? (i := 78) rfl)) rfl
theorem bw_799 : (Cond.methodLink "BlindMintModel" 203 ({ cls := "BlindMintModel", name := "trace", desc := "(II)V" } : MethodName)) ∈ bm_big := bm_inT (bm_t4 (List.mem_of_getElem? (i := 79) rfl)) rfl
theorem bw_801 : (Cond.instanceMethod ({ cls := "BlindMintModel", name := "trace", desc := "(II)V" } : MethodName)) ∈ bm_big := bm_inT (bm_t4 (List.mem_of_getElem? (i := 81) rfl)) rfl
theorem bw_802 : (Cond.code ({ cls := "BlindMintModel", name := "trace", desc := "(II)V" } : MethodName) prog_12_method_32_code 8 (Option.none : Option Jvm.ClassFile.FieldType)) ∈ bm_big := bm_inT (bm_t4 (List.mem_of_getElem? (i := 82) rfl)) rfl
theorem bw_803 : (Cond.constantLong "BlindMintModel" 195 (15)) ∈ bm_big := bm_inT (bm_t4 (List.mem_of_getElem? (i := 83) rfl)) rfl
theorem bw_804 : (Cond.constantLong "BlindMintModel" 197 (1003)) ∈ bm_big := bm_inT (bm_t4 (List.mem_of_getElem? (i := 84) rfl)) rfl
theorem bw_805 : (Cond.methodLink "BlindMintLaw" 90 ({ cls := "BlindMintModel", name := "traced", desc := "()I" } : MethodName)) ∈ bm_big := bm_inT (bm_t4 (List.mem_of_getElem? (i := 85) rfl)) rfl
theorem bw_806 : (Cond.instanceMethod ({ cls := "BlindMintModel", name := "traced", desc := "()I" } : MethodName)) ∈ bm_big := bm_inT (bm_t4 (List.mem_of_getElem? (i := 86) rfl)) rfl
theorem bw_807 : (Cond.selects "BlindMintModel" ({ cls := "BlindMintModel", name := "traced", desc := "()I" } : MethodName) ({ cls := "BlindMintModel", name := "traced", desc := "()I" } : MethodName)) ∈ bm_big := bm_inT (bm_t4 (List.mem_of_getElem? (i := 87) rfl)) rfl
theorem bw_808 : (Cond.code ({ cls := "BlindMintModel", name := "traced", desc := "()I" } : MethodName) prog_12_method_34_code 1 (Option.some FieldType.int)) ∈ bm_big := bm_inT (bm_t4 (List.mem_of_getElem? (i := 88) rfl)) rfl
theorem bw_809 : (Cond.methodLink "BlindMintLaw" 94 ({ cls := "BlindMintModel", name := "balance", desc := "(I)I" } : MethodName)) ∈ bm_big := bm_inT (bm_t4 (List.mem_of_getElem? (i := 89) rfl)) rfl
theorem bw_810 : (Cond.instanceMethod ({ cls := "BlindMintModel", name := "balance", desc := "(I)I" } : MethodName)) ∈ bm_big := bm_inT (bm_t4 (List.mem_of_getElem? (i := 90) rfl)) rfl
theorem bw_811 : (Cond.selects "BlindMintModel" ({ cls := "BlindMintModel", name := "balance", desc := "(I)I" } : MethodName) ({ cls := "BlindMintModel", name := "balance", desc := "(I)I" } : MethodName)) ∈ bm_big := bm_inT (bm_t4 (List.mem_of_getElem? (i := 91) rfl)) rfl
theorem bw_812 : (Cond.code ({ cls := "BlindMintModel", name := "balance", desc := "(I)I" } : MethodName) prog_12_method_35_code 2 (Option.some FieldType.int)) ∈ bm_big := bm_inT (bm_t4 (List.mem_of_getElem? (i := 92) rfl)) rfl
theorem bw_813 : (Cond.methodLink "BlindMintLaw" 98 ({ cls := "BlindMintModel", name := "coins", desc := "(I)I" } : MethodName)) ∈ bm_big := bm_inT (bm_t4 (List.mem_of_getElem? (i := 93) rfl)) rfl
theorem bw_814 : (Cond.instanceMethod ({ cls := "BlindMintModel", name := "coins", desc := "(I)I" } : MethodName)) ∈ bm_big := bm_inT (bm_t4 (List.mem_of_getElem? (i := 94) rfl)) rfl
theorem bw_815 : (Cond.selects "BlindMintModel" ({ cls := "BlindMintModel", name := "coins", desc := "(I)I" } : MethodName) ({ cls := "BlindMintModel", name := "coins", desc := "(I)I" } : MethodName)) ∈ bm_big := bm_inT (bm_t4 (List.mem_of_getElem? (i := 95) rfl)) rfl
theorem bw_816 : (Cond.code ({ cls := "BlindMintModel", name := "coins", desc := "(I)I" } : MethodName) prog_12_method_36_code 2 (Option.some FieldType.int)) ∈ bm_big := bm_inT (bm_t4 (List.mem_of_getElem? (i := 96) rfl)) rfl
theorem bw_817 : (Cond.methodLink "BlindMintLaw" 101 ({ cls := "BlindMintModel", name := "coin", desc := "(II)J" } : MethodName)) ∈ bm_big := bm_inT (bm_t4 (List.mem_of_getElem? (i := 97) rfl)) rfl
theorem bw_818 : (Cond.instanceMethod ({ cls := "BlindMintModel", name := "coin", desc := "(II)J" } : MethodName)) ∈ bm_big := bm_inT (bm_t4 (List.mem_of_getElem? (i := 98) rfl)) rfl
theorem bw_819 : (Cond.selects "BlindMintModel" ({ cls := "BlindMintModel", name := "coin", desc := "(II)J" } : MethodName) ({ cls := "BlindMintModel", name := "coin", desc := "(II)J" } : MethodName)) ∈ bm_big := bm_inT (bm_t4 (List.mem_of_getElem? (i := 99) rfl)) rfl
theorem bw_820 : (Cond.code ({ cls := "BlindMintModel", name := "coin", desc := "(II)J" } : MethodName) prog_12_method_37_code 3 (Option.some FieldType.long)) ∈ bm_big := bm_inT (bm_t4 (List.mem_of_getElem? (i := 100) rfl)) rfl
theorem bw_821 : (Cond.methodLink "BlindMintLaw" 104 ({ cls := "BlindMintModel", name := "signature", desc := "(II)J" } : MethodName)) ∈ bm_big := bm_inT (bm_t4 (List.mem_of_getElem? (i := 101) rfl)) rfl
theorem bw_822 : (Cond.instanceMethod ({ cls := "BlindMintModel", name := "signature", desc := "(II)J" } : MethodName)) ∈ bm_big := bm_inT (bm_t4 (List.mem_of_getElem? (i := 102) rfl)) rfl
theorem bw_823 : (Cond.selects "BlindMintModel" ({ cls := "BlindMintModel", name := "signature", desc := "(II)J" } : MethodName) ({ cls := "BlindMintModel", name := "signature", desc := "(II)J" } : MethodName)) ∈ bm_big := bm_inT (bm_t4 (List.mem_of_getElem? (i := 103) rfl)) rfl
theorem bw_824 : (Cond.code ({ cls := "BlindMintModel", name := "signature", desc := "(II)J" } : MethodName) prog_12_method_38_code 3 (Option.some FieldType.long)) ∈ bm_big := bm_inT (bm_t4 (List.mem_of_getElem? (i := 104) rfl)) rfl
theorem bw_825 : (Cond.methodLink "BlindMintLaw" 109 ({ cls := "BlindMintModel", name := "blinded", desc := "()J" } : MethodName)) ∈ bm_big := bm_inT (bm_t4 (List.mem_of_getElem? (i := 105) rfl)) rfl
theorem bw_826 : (Cond.instanceMethod ({ cls := "BlindMintModel", name := "blinded", desc := "()J" } : MethodName)) ∈ bm_big := bm_inT (bm_t4 (List.mem_of_getElem? (i := 106) rfl)) rfl
theorem bw_827 : (Cond.selects "BlindMintModel" ({ cls := "BlindMintModel", name := "blinded", desc := "()J" } : MethodName) ({ cls := "BlindMintModel", name := "blinded", desc := "()J" } : MethodName)) ∈ bm_big := bm_inT (bm_t4 (List.mem_of_getElem? (i := 107) rfl)) rfl
theorem bw_828 : (Cond.code ({ cls := "BlindMintModel", name := "blinded", desc := "()J" } : MethodName) prog_12_method_39_code 1 (Option.some FieldType.long)) ∈ bm_big := bm_inT (bm_t4 (List.mem_of_getElem? (i := 108) rfl)) rfl
theorem bw_829 : (Cond.methodLink "BlindMintLaw" 113 ({ cls := "BlindMintModel", name := "count", desc := "(I)I" } : MethodName)) ∈ bm_big := bm_inT (bm_t4 (List.mem_of_getElem? (i := 109) rfl)) rfl
theorem bw_830 : (Cond.instanceMethod ({ cls := "BlindMintModel", name := "count", desc := "(I)I" } : MethodName)) ∈ bm_big := bm_inT (bm_t4 (List.mem_of_getElem? (i := 110) rfl)) rfl
theorem bw_831 : (Cond.selects "BlindMintModel" ({ cls := "BlindMintModel", name := "count", desc := "(I)I" } : MethodName) ({ cls := "BlindMintModel", name := "count", desc := "(I)I" } : MethodName)) ∈ bm_big := bm_inT (bm_t4 (List.mem_of_getElem? (i := 111) rfl)) rfl
theorem bw_832 : (Cond.code ({ cls := "BlindMintModel", name := "count", desc := "(I)I" } : MethodName) prog_12_method_40_code 2 (Option.some FieldType.int)) ∈ bm_big := bm_inT (bm_t4 (List.mem_of_getElem? (i := 112) rfl)) rfl
theorem bw_833 : (Cond.constantLong "BlindMintLaw" 52 (4294967295)) ∈ bm_big := bm_inT (bm_t4 (List.mem_of_getElem? (i := 113) rfl)) rfl
theorem bw_834 : (Cond.sameMethod "java/lang/Throwable" "java/lang/Throwable" "fillInStackTrace" "(I)Ljava/lang/Throwable;") ∈ bm_big := bm_inT (bm_t4 (List.mem_of_getElem? (i := 114) rfl)) rfl
theorem bw_835 : (Cond.fieldLink "BlindMint" 77 "BlindMint$Denomination" "worth" "I") ∈ bm_big := bm_inT (bm_t4 (List.mem_of_getElem? (i := 115) rfl)) rfl
theorem bw_836 : (Cond.fieldLink "BlindMint$Denomination" 36 "BlindMint$Denomination" "p" "J") ∈ bm_big := bm_inT (bm_t4 (List.mem_of_getElem? (i := 116) rfl)) rfl
theorem bw_837 : (Cond.fieldLink "BlindMint$Denomination" 40 "BlindMint$Denomination" "q" "J") ∈ bm_big := bm_inT (bm_t4 (List.mem_of_getElem? (i := 117) rfl)) rfl
theorem bs_0 : (Cond.selects "BlindMint" ({ cls := "BlindMint", name := "findPayment", desc := "(I)LBlindMint$Payment;" } : MethodName) ({ cls := "BlindMint", name := "findPayment", desc := "(I)LBlindMint$Payment;" } : MethodName)) ∈ bm_big := bm_inS (List.mem_of_getElem? (i := 0) rfl) rfl
theorem bs_1 : (Cond.selects "BlindMint" ({ cls := "BlindMint", name := "isGood", desc := "(LBlindMint$Payment;)Z" } : MethodName) ({ cls := "BlindMint", name := "isGood", desc := "(LBlindMint$Payment;)Z" } : MethodName)) ∈ bm_big := bm_inS (List.mem_of_getElem? (i := 1) rfl) rfl
theorem bs_2 : (Cond.selects "java/lang/Throwable" ({ cls := "java/lang/Throwable", name := "fillInStackTrace", desc := "(I)Ljava/lang/Throwable;" } : MethodName) ({ cls := "java/lang/Throwable", name := "fillInStackTrace", desc := "(I)Ljava/lang/Throwable;" } : MethodName)) ∈ bm_big := bm_inS (List.mem_of_getElem? (i := 2) rfl) rfl
theorem bs_3 : (Cond.selects "BlindMint$Proposal" ({ cls := "BlindMint$Proposal", name := "open", desc := "()V" } : MethodName) ({ cls := "BlindMint$Proposal", name := "open", desc := "()V" } : MethodName)) ∈ bm_big := bm_inS (List.mem_of_getElem? (i := 3) rfl) rfl
theorem bs_4 : (Cond.selects "BlindMint$Proposal" ({ cls := "BlindMint$Proposal", name := "sortParts", desc := "()V" } : MethodName) ({ cls := "BlindMint$Proposal", name := "sortParts", desc := "()V" } : MethodName)) ∈ bm_big := bm_inS (List.mem_of_getElem? (i := 4) rfl) rfl
theorem bs_5 : (Cond.selects "BlindMint$Proposal" ({ cls := "BlindMint$Proposal", name := "insertPart", desc := "(LBlindMint$Candidate;I)V" } : MethodName) ({ cls := "BlindMint$Proposal", name := "insertPart", desc := "(LBlindMint$Candidate;I)V" } : MethodName)) ∈ bm_big := bm_inS (List.mem_of_getElem? (i := 5) rfl) rfl
theorem bs_6 : (Cond.selects "BlindMint" ({ cls := "BlindMint", name := "makeCoin", desc := "(IJ)LBlindMint$Coin;" } : MethodName) ({ cls := "BlindMint", name := "makeCoin", desc := "(IJ)LBlindMint$Coin;" } : MethodName)) ∈ bm_big := bm_inS (List.mem_of_getElem? (i := 6) rfl) rfl
theorem bs_7 : (Cond.selects "BlindMint$Denomination" ({ cls := "BlindMint$Denomination", name := "join", desc := "(JJ)J" } : MethodName) ({ cls := "BlindMint$Denomination", name := "join", desc := "(JJ)J" } : MethodName)) ∈ bm_big := bm_inS (List.mem_of_getElem? (i := 7) rfl) rfl
theorem bs_8 : (Cond.selects "BlindMint" ({ cls := "BlindMint", name := "findCoin", desc := "(II)LBlindMint$Coin;" } : MethodName) ({ cls := "BlindMint", name := "findCoin", desc := "(II)LBlindMint$Coin;" } : MethodName)) ∈ bm_big := bm_inS (List.mem_of_getElem? (i := 8) rfl) rfl
theorem bs_9 : (Cond.selects "BlindMint" ({ cls := "BlindMint", name := "findCredit", desc := "(J)LBlindMint$Credit;" } : MethodName) ({ cls := "BlindMint", name := "findCredit", desc := "(J)LBlindMint$Credit;" } : MethodName)) ∈ bm_big := bm_inS (List.mem_of_getElem? (i := 9) rfl) rfl
theorem bs_10 : (Cond.selects "BlindMintModel" ({ cls := "BlindMintModel", name := "fail", desc := "(I)I" } : MethodName) ({ cls := "BlindMintModel", name := "fail", desc := "(I)I" } : MethodName)) ∈ bm_big := bm_inS (List.mem_of_getElem? (i := 10) rfl) rfl
theorem bs_11 : (Cond.selects "BlindMintModel" ({ cls := "BlindMintModel", name := "candidates", desc := "(IJI)V" } : MethodName) ({ cls := "BlindMintModel", name := "candidates", desc := "(IJI)V" } : MethodName)) ∈ bm_big := bm_inS (List.mem_of_getElem? (i := 11) rfl) rfl
theorem bs_12 : (Cond.selects "BlindMintModel" ({ cls := "BlindMintModel", name := "open", desc := "(I)I" } : MethodName) ({ cls := "BlindMintModel", name := "open", desc := "(I)I" } : MethodName)) ∈ bm_big := bm_inS (List.mem_of_getElem? (i := 12) rfl) rfl
theorem bs_13 : (Cond.selects "BlindMintModel" ({ cls := "BlindMintModel", name := "least", desc := "()I" } : MethodName) ({ cls := "BlindMintModel", name := "least", desc := "()I" } : MethodName)) ∈ bm_big := bm_inS (List.mem_of_getElem? (i := 13) rfl) rfl
theorem bs_14 : (Cond.selects "BlindMintModel" ({ cls := "BlindMintModel", name := "numberOf", desc := "(J)J" } : MethodName) ({ cls := "BlindMintModel", name := "numberOf", desc := "(J)J" } : MethodName)) ∈ bm_big := bm_inS (List.mem_of_getElem? (i := 14) rfl) rfl
theorem bs_15 : (Cond.selects "BlindMintModel" ({ cls := "BlindMintModel", name := "noCoin", desc := "(II)Z" } : MethodName) ({ cls := "BlindMintModel", name := "noCoin", desc := "(II)Z" } : MethodName)) ∈ bm_big := bm_inS (List.mem_of_getElem? (i := 15) rfl) rfl
theorem bs_16 : (Cond.selects "BlindMintModel" ({ cls := "BlindMintModel", name := "noNumber", desc := "(II)Z" } : MethodName) ({ cls := "BlindMintModel", name := "noNumber", desc := "(II)Z" } : MethodName)) ∈ bm_big := bm_inS (List.mem_of_getElem? (i := 16) rfl) rfl
theorem bs_17 : (Cond.selects "BlindMintModel" ({ cls := "BlindMintModel", name := "isGood", desc := "(I)Z" } : MethodName) ({ cls := "BlindMintModel", name := "isGood", desc := "(I)Z" } : MethodName)) ∈ bm_big := bm_inS (List.mem_of_getElem? (i := 17) rfl) rfl
theorem bs_18 : (Cond.selects "BlindMintModel" ({ cls := "BlindMintModel", name := "choiceOf", desc := "(I)J" } : MethodName) ({ cls := "BlindMintModel", name := "choiceOf", desc := "(I)J" } : MethodName)) ∈ bm_big := bm_inS (List.mem_of_getElem? (i := 18) rfl) rfl
theorem bs_19 : (Cond.selects "BlindMintModel" ({ cls := "BlindMintModel", name := "noted", desc := "(J)I" } : MethodName) ({ cls := "BlindMintModel", name := "noted", desc := "(J)I" } : MethodName)) ∈ bm_big := bm_inS (List.mem_of_getElem? (i := 19) rfl) rfl
theorem bs_20 : (Cond.selects "BlindMintModel" ({ cls := "BlindMintModel", name := "trace", desc := "(II)V" } : MethodName) ({ cls := "BlindMintModel", name := "trace", desc := "(II)V" } : MethodName)) ∈ bm_big := bm_inS (List.mem_of_getElem? (i := 20) rfl) rfl
